section
-- ===== PART A: goes FIRST, ahead of the names: the tables' words, and 'selects' of the private methods out of them =====
/-- a private method of a class that the tables say can be made, by its rows of tables_1 -/
def lw_okq (q : MethodName × Nat) : Prop := (q.1.cls ≠ "java/lang/invoke/MethodHandle" ∧ q.1.cls ≠ "java/lang/invoke/VarHandle") ∧ Cond.instantiable q.1.cls q.2 ∈ tables_1 ∧ Cond.privateMethod q.1 ∈ tables_1 ∧ Cond.instanceMethod q.1 ∈ tables_1
theorem lw_p0 : lw_okq (⟨"TitleCaller$Night", "singAll", "(LTitleCaller$Score;)V"⟩, 8) := ⟨⟨by decide +kernel, by decide +kernel⟩, List.mem_of_getElem? (i := 120) (by decide +kernel), List.mem_of_getElem? (i := 263) (by decide +kernel), List.mem_of_getElem? (i := 264) (by decide +kernel)⟩
theorem lw_p1 : lw_okq (⟨"TitleCaller$Night", "singBar", "(LTitleCaller$Score;I)V"⟩, 8) := ⟨⟨by decide +kernel, by decide +kernel⟩, List.mem_of_getElem? (i := 120) (by decide +kernel), List.mem_of_getElem? (i := 267) (by decide +kernel), List.mem_of_getElem? (i := 268) (by decide +kernel)⟩
theorem lw_p2 : lw_okq (⟨"TitleCaller$Night", "gatherShowings", "(LTitleCaller$Titles;)V"⟩, 8) := ⟨⟨by decide +kernel, by decide +kernel⟩, List.mem_of_getElem? (i := 120) (by decide +kernel), List.mem_of_getElem? (i := 295) (by decide +kernel), List.mem_of_getElem? (i := 296) (by decide +kernel)⟩
theorem lw_p3 : lw_okq (⟨"TitleCaller$Night", "comesWith", "(III)Z"⟩, 8) := ⟨⟨by decide +kernel, by decide +kernel⟩, List.mem_of_getElem? (i := 120) (by decide +kernel), List.mem_of_getElem? (i := 299) (by decide +kernel), List.mem_of_getElem? (i := 300) (by decide +kernel)⟩
theorem lw_p4 : lw_okq (⟨"TitleCaller$Night", "beginOrEnd", "(I)I"⟩, 8) := ⟨⟨by decide +kernel, by decide +kernel⟩, List.mem_of_getElem? (i := 120) (by decide +kernel), List.mem_of_getElem? (i := 309) (by decide +kernel), List.mem_of_getElem? (i := 310) (by decide +kernel)⟩
theorem lw_p5 : lw_okq (⟨"TitleCaller$Night", "lookAtShowings", "(LTitleCaller$Score;)V"⟩, 8) := ⟨⟨by decide +kernel, by decide +kernel⟩, List.mem_of_getElem? (i := 120) (by decide +kernel), List.mem_of_getElem? (i := 321) (by decide +kernel), List.mem_of_getElem? (i := 322) (by decide +kernel)⟩
theorem lw_p6 : lw_okq (⟨"TitleCaller$Night", "isBlackAt", "(LTitleCaller$Spans;I)Z"⟩, 8) := ⟨⟨by decide +kernel, by decide +kernel⟩, List.mem_of_getElem? (i := 120) (by decide +kernel), List.mem_of_getElem? (i := 325) (by decide +kernel), List.mem_of_getElem? (i := 326) (by decide +kernel)⟩
theorem lw_p7 : lw_okq (⟨"TitleCaller$History", "rowAt", "(I)LTitleCaller$Score;"⟩, 3) := ⟨⟨by decide +kernel, by decide +kernel⟩, List.mem_of_getElem? (i := 239) (by decide +kernel), List.mem_of_getElem? (i := 382) (by decide +kernel), List.mem_of_getElem? (i := 383) (by decide +kernel)⟩
theorem lw_p8 : lw_okq (⟨"TitleCaller$Score", "highestBarInUse", "()I"⟩, 8) := ⟨⟨by decide +kernel, by decide +kernel⟩, List.mem_of_getElem? (i := 22) (by decide +kernel), List.mem_of_getElem? (i := 411) (by decide +kernel), List.mem_of_getElem? (i := 412) (by decide +kernel)⟩
theorem lw_p9 : lw_okq (⟨"TitleCaller", "settle", "(I)I"⟩, 9) := ⟨⟨by decide +kernel, by decide +kernel⟩, List.mem_of_getElem? (i := 14) (by decide +kernel), List.mem_of_getElem? (i := 426) (by decide +kernel), List.mem_of_getElem? (i := 427) (by decide +kernel)⟩
theorem lw_p10 : lw_okq (⟨"TitleCaller$Showings", "shownTenths", "(I)I"⟩, 8) := ⟨⟨by decide +kernel, by decide +kernel⟩, List.mem_of_getElem? (i := 126) (by decide +kernel), List.mem_of_getElem? (i := 558) (by decide +kernel), List.mem_of_getElem? (i := 559) (by decide +kernel)⟩
theorem lw_p11 : lw_okq (⟨"TitleCaller", "readingPace", "(I)I"⟩, 9) := ⟨⟨by decide +kernel, by decide +kernel⟩, List.mem_of_getElem? (i := 14) (by decide +kernel), List.mem_of_getElem? (i := 569) (by decide +kernel), List.mem_of_getElem? (i := 570) (by decide +kernel)⟩
theorem lw_p12 : lw_okq (⟨"TitleCaller", "titlesLost", "()I"⟩, 9) := ⟨⟨by decide +kernel, by decide +kernel⟩, List.mem_of_getElem? (i := 14) (by decide +kernel), List.mem_of_getElem? (i := 599) (by decide +kernel), List.mem_of_getElem? (i := 600) (by decide +kernel)⟩
theorem lw_p13 : lw_okq (⟨"TitleCaller$Reader", "open", "(I)Z"⟩, 4) := ⟨⟨by decide +kernel, by decide +kernel⟩, List.mem_of_getElem? (i := 218) (by decide +kernel), List.mem_of_getElem? (i := 648) (by decide +kernel), List.mem_of_getElem? (i := 649) (by decide +kernel)⟩
theorem lw_p14 : lw_okq (⟨"TitleCaller$Reader", "takeDigit", "(I)Z"⟩, 4) := ⟨⟨by decide +kernel, by decide +kernel⟩, List.mem_of_getElem? (i := 218) (by decide +kernel), List.mem_of_getElem? (i := 653) (by decide +kernel), List.mem_of_getElem? (i := 654) (by decide +kernel)⟩
theorem lw_p15 : lw_okq (⟨"TitleCaller$Reader", "takeSign", "(I)Z"⟩, 4) := ⟨⟨by decide +kernel, by decide +kernel⟩, List.mem_of_getElem? (i := 218) (by decide +kernel), List.mem_of_getElem? (i := 657) (by decide +kernel), List.mem_of_getElem? (i := 658) (by decide +kernel)⟩
def lw_privs_1 : List (MethodName × Nat) := [(⟨"TitleCaller$Night", "singAll", "(LTitleCaller$Score;)V"⟩, 8), (⟨"TitleCaller$Night", "singBar", "(LTitleCaller$Score;I)V"⟩, 8), (⟨"TitleCaller$Night", "gatherShowings", "(LTitleCaller$Titles;)V"⟩, 8), (⟨"TitleCaller$Night", "comesWith", "(III)Z"⟩, 8), (⟨"TitleCaller$Night", "beginOrEnd", "(I)I"⟩, 8), (⟨"TitleCaller$Night", "lookAtShowings", "(LTitleCaller$Score;)V"⟩, 8), (⟨"TitleCaller$Night", "isBlackAt", "(LTitleCaller$Spans;I)Z"⟩, 8), (⟨"TitleCaller$History", "rowAt", "(I)LTitleCaller$Score;"⟩, 3), (⟨"TitleCaller$Score", "highestBarInUse", "()I"⟩, 8), (⟨"TitleCaller", "settle", "(I)I"⟩, 9), (⟨"TitleCaller$Showings", "shownTenths", "(I)I"⟩, 8), (⟨"TitleCaller", "readingPace", "(I)I"⟩, 9), (⟨"TitleCaller", "titlesLost", "()I"⟩, 9), (⟨"TitleCaller$Reader", "open", "(I)Z"⟩, 4), (⟨"TitleCaller$Reader", "takeDigit", "(I)Z"⟩, 4), (⟨"TitleCaller$Reader", "takeSign", "(I)Z"⟩, 4)]
theorem lw_r1 : ∀ q ∈ lw_privs_1, lw_okq q := List.forall_mem_cons.mpr ⟨lw_p0, List.forall_mem_cons.mpr ⟨lw_p1, List.forall_mem_cons.mpr ⟨lw_p2, List.forall_mem_cons.mpr ⟨lw_p3, List.forall_mem_cons.mpr ⟨lw_p4, List.forall_mem_cons.mpr ⟨lw_p5, List.forall_mem_cons.mpr ⟨lw_p6, List.forall_mem_cons.mpr ⟨lw_p7, List.forall_mem_cons.mpr ⟨lw_p8, List.forall_mem_cons.mpr ⟨lw_p9, List.forall_mem_cons.mpr ⟨lw_p10, List.forall_mem_cons.mpr ⟨lw_p11, List.forall_mem_cons.mpr ⟨lw_p12, List.forall_mem_cons.mpr ⟨lw_p13, List.forall_mem_cons.mpr ⟨lw_p14, List.forall_mem_cons.mpr ⟨lw_p15, fun _ h => absurd h List.not_mem_nil⟩⟩⟩⟩⟩⟩⟩⟩⟩⟩⟩⟩⟩⟩⟩⟩
theorem lw_p16 : lw_okq (⟨"TitleCaller$Reader", "signBehindNumber", "()I"⟩, 4) := ⟨⟨by decide +kernel, by decide +kernel⟩, List.mem_of_getElem? (i := 218) (by decide +kernel), List.mem_of_getElem? (i := 661) (by decide +kernel), List.mem_of_getElem? (i := 662) (by decide +kernel)⟩
theorem lw_p17 : lw_okq (⟨"TitleCaller$Reader", "canEnd", "()Z"⟩, 4) := ⟨⟨by decide +kernel, by decide +kernel⟩, List.mem_of_getElem? (i := 218) (by decide +kernel), List.mem_of_getElem? (i := 665) (by decide +kernel), List.mem_of_getElem? (i := 666) (by decide +kernel)⟩
theorem lw_p18 : lw_okq (⟨"TitleCaller", "carryOutOrders", "()I"⟩, 9) := ⟨⟨by decide +kernel, by decide +kernel⟩, List.mem_of_getElem? (i := 14) (by decide +kernel), List.mem_of_getElem? (i := 673) (by decide +kernel), List.mem_of_getElem? (i := 674) (by decide +kernel)⟩
theorem lw_p19 : lw_okq (⟨"TitleCaller", "carryOutOrder", "()I"⟩, 9) := ⟨⟨by decide +kernel, by decide +kernel⟩, List.mem_of_getElem? (i := 14) (by decide +kernel), List.mem_of_getElem? (i := 678) (by decide +kernel), List.mem_of_getElem? (i := 679) (by decide +kernel)⟩
theorem lw_p20 : lw_okq (⟨"TitleCaller", "slotAt", "(I)LTitleCaller$Score;"⟩, 9) := ⟨⟨by decide +kernel, by decide +kernel⟩, List.mem_of_getElem? (i := 14) (by decide +kernel), List.mem_of_getElem? (i := 695) (by decide +kernel), List.mem_of_getElem? (i := 696) (by decide +kernel)⟩
theorem lw_p21 : lw_okq (⟨"TitleCallerModel", "isBeyond", "(I)Z"⟩, 24) := ⟨⟨by decide +kernel, by decide +kernel⟩, List.mem_of_getElem? (i := 703) (by decide +kernel), List.mem_of_getElem? (i := 789) (by decide +kernel), List.mem_of_getElem? (i := 790) (by decide +kernel)⟩
theorem lw_p22 : lw_okq (⟨"TitleCallerModel", "of", "(II)I"⟩, 24) := ⟨⟨by decide +kernel, by decide +kernel⟩, List.mem_of_getElem? (i := 703) (by decide +kernel), List.mem_of_getElem? (i := 793) (by decide +kernel), List.mem_of_getElem? (i := 794) (by decide +kernel)⟩
theorem lw_p23 : lw_okq (⟨"TitleCallerModel", "records", "()V"⟩, 24) := ⟨⟨by decide +kernel, by decide +kernel⟩, List.mem_of_getElem? (i := 703) (by decide +kernel), List.mem_of_getElem? (i := 797) (by decide +kernel), List.mem_of_getElem? (i := 798) (by decide +kernel)⟩
theorem lw_p24 : lw_okq (⟨"TitleCallerModel", "refusesBar", "(III)I"⟩, 24) := ⟨⟨by decide +kernel, by decide +kernel⟩, List.mem_of_getElem? (i := 703) (by decide +kernel), List.mem_of_getElem? (i := 809) (by decide +kernel), List.mem_of_getElem? (i := 810) (by decide +kernel)⟩
theorem lw_p25 : lw_okq (⟨"TitleCallerModel", "isBar", "(I)Z"⟩, 24) := ⟨⟨by decide +kernel, by decide +kernel⟩, List.mem_of_getElem? (i := 703) (by decide +kernel), List.mem_of_getElem? (i := 813) (by decide +kernel), List.mem_of_getElem? (i := 814) (by decide +kernel)⟩
theorem lw_p26 : lw_okq (⟨"TitleCallerModel", "laysBar", "(III)V"⟩, 24) := ⟨⟨by decide +kernel, by decide +kernel⟩, List.mem_of_getElem? (i := 703) (by decide +kernel), List.mem_of_getElem? (i := 817) (by decide +kernel), List.mem_of_getElem? (i := 818) (by decide +kernel)⟩
theorem lw_p27 : lw_okq (⟨"TitleCallerModel", "tenths", "(I)I"⟩, 24) := ⟨⟨by decide +kernel, by decide +kernel⟩, List.mem_of_getElem? (i := 703) (by decide +kernel), List.mem_of_getElem? (i := 821) (by decide +kernel), List.mem_of_getElem? (i := 822) (by decide +kernel)⟩
theorem lw_p28 : lw_okq (⟨"TitleCallerModel", "refusesRepeat", "(II)I"⟩, 24) := ⟨⟨by decide +kernel, by decide +kernel⟩, List.mem_of_getElem? (i := 703) (by decide +kernel), List.mem_of_getElem? (i := 829) (by decide +kernel), List.mem_of_getElem? (i := 830) (by decide +kernel)⟩
theorem lw_p29 : lw_okq (⟨"TitleCallerModel", "refusesSpan", "(III)I"⟩, 24) := ⟨⟨by decide +kernel, by decide +kernel⟩, List.mem_of_getElem? (i := 703) (by decide +kernel), List.mem_of_getElem? (i := 833) (by decide +kernel), List.mem_of_getElem? (i := 834) (by decide +kernel)⟩
theorem lw_p30 : lw_okq (⟨"TitleCallerModel", "laysSpan", "(IIII)I"⟩, 24) := ⟨⟨by decide +kernel, by decide +kernel⟩, List.mem_of_getElem? (i := 703) (by decide +kernel), List.mem_of_getElem? (i := 837) (by decide +kernel), List.mem_of_getElem? (i := 838) (by decide +kernel)⟩
theorem lw_p31 : lw_okq (⟨"TitleCallerModel", "refusesTitle", "(IIII)I"⟩, 24) := ⟨⟨by decide +kernel, by decide +kernel⟩, List.mem_of_getElem? (i := 703) (by decide +kernel), List.mem_of_getElem? (i := 857) (by decide +kernel), List.mem_of_getElem? (i := 858) (by decide +kernel)⟩
def lw_privs_2 : List (MethodName × Nat) := [(⟨"TitleCaller$Reader", "signBehindNumber", "()I"⟩, 4), (⟨"TitleCaller$Reader", "canEnd", "()Z"⟩, 4), (⟨"TitleCaller", "carryOutOrders", "()I"⟩, 9), (⟨"TitleCaller", "carryOutOrder", "()I"⟩, 9), (⟨"TitleCaller", "slotAt", "(I)LTitleCaller$Score;"⟩, 9), (⟨"TitleCallerModel", "isBeyond", "(I)Z"⟩, 24), (⟨"TitleCallerModel", "of", "(II)I"⟩, 24), (⟨"TitleCallerModel", "records", "()V"⟩, 24), (⟨"TitleCallerModel", "refusesBar", "(III)I"⟩, 24), (⟨"TitleCallerModel", "isBar", "(I)Z"⟩, 24), (⟨"TitleCallerModel", "laysBar", "(III)V"⟩, 24), (⟨"TitleCallerModel", "tenths", "(I)I"⟩, 24), (⟨"TitleCallerModel", "refusesRepeat", "(II)I"⟩, 24), (⟨"TitleCallerModel", "refusesSpan", "(III)I"⟩, 24), (⟨"TitleCallerModel", "laysSpan", "(IIII)I"⟩, 24), (⟨"TitleCallerModel", "refusesTitle", "(IIII)I"⟩, 24)]
theorem lw_r2 : ∀ q ∈ lw_privs_2, lw_okq q := List.forall_mem_cons.mpr ⟨lw_p16, List.forall_mem_cons.mpr ⟨lw_p17, List.forall_mem_cons.mpr ⟨lw_p18, List.forall_mem_cons.mpr ⟨lw_p19, List.forall_mem_cons.mpr ⟨lw_p20, List.forall_mem_cons.mpr ⟨lw_p21, List.forall_mem_cons.mpr ⟨lw_p22, List.forall_mem_cons.mpr ⟨lw_p23, List.forall_mem_cons.mpr ⟨lw_p24, List.forall_mem_cons.mpr ⟨lw_p25, List.forall_mem_cons.mpr ⟨lw_p26, List.forall_mem_cons.mpr ⟨lw_p27, List.forall_mem_cons.mpr ⟨lw_p28, List.forall_mem_cons.mpr ⟨lw_p29, List.forall_mem_cons.mpr ⟨lw_p30, List.forall_mem_cons.mpr ⟨lw_p31, fun _ h => absurd h List.not_mem_nil⟩⟩⟩⟩⟩⟩⟩⟩⟩⟩⟩⟩⟩⟩⟩⟩
theorem lw_p32 : lw_okq (⟨"TitleCallerModel", "laysTitle", "(IIII)I"⟩, 24) := ⟨⟨by decide +kernel, by decide +kernel⟩, List.mem_of_getElem? (i := 703) (by decide +kernel), List.mem_of_getElem? (i := 861) (by decide +kernel), List.mem_of_getElem? (i := 862) (by decide +kernel)⟩
theorem lw_p33 : lw_okq (⟨"TitleCallerModel", "dropsTitle", "(I)I"⟩, 24) := ⟨⟨by decide +kernel, by decide +kernel⟩, List.mem_of_getElem? (i := 703) (by decide +kernel), List.mem_of_getElem? (i := 869) (by decide +kernel), List.mem_of_getElem? (i := 870) (by decide +kernel)⟩
theorem lw_p34 : lw_okq (⟨"TitleCallerModel", "laysNight", "()V"⟩, 24) := ⟨⟨by decide +kernel, by decide +kernel⟩, List.mem_of_getElem? (i := 703) (by decide +kernel), List.mem_of_getElem? (i := 877) (by decide +kernel), List.mem_of_getElem? (i := 878) (by decide +kernel)⟩
theorem lw_p35 : lw_okq (⟨"TitleCallerModel", "sings", "(I)V"⟩, 24) := ⟨⟨by decide +kernel, by decide +kernel⟩, List.mem_of_getElem? (i := 703) (by decide +kernel), List.mem_of_getElem? (i := 881) (by decide +kernel), List.mem_of_getElem? (i := 882) (by decide +kernel)⟩
theorem lw_p36 : lw_okq (⟨"TitleCallerModel", "isCut", "(I)Z"⟩, 24) := ⟨⟨by decide +kernel, by decide +kernel⟩, List.mem_of_getElem? (i := 703) (by decide +kernel), List.mem_of_getElem? (i := 885) (by decide +kernel), List.mem_of_getElem? (i := 886) (by decide +kernel)⟩
theorem lw_p37 : lw_okq (⟨"TitleCallerModel", "repeats", "(II)V"⟩, 24) := ⟨⟨by decide +kernel, by decide +kernel⟩, List.mem_of_getElem? (i := 703) (by decide +kernel), List.mem_of_getElem? (i := 889) (by decide +kernel), List.mem_of_getElem? (i := 890) (by decide +kernel)⟩
theorem lw_p38 : lw_okq (⟨"TitleCallerModel", "timesSung", "(I)I"⟩, 24) := ⟨⟨by decide +kernel, by decide +kernel⟩, List.mem_of_getElem? (i := 703) (by decide +kernel), List.mem_of_getElem? (i := 893) (by decide +kernel), List.mem_of_getElem? (i := 894) (by decide +kernel)⟩
theorem lw_p39 : lw_okq (⟨"TitleCallerModel", "firstPlace", "(I)I"⟩, 24) := ⟨⟨by decide +kernel, by decide +kernel⟩, List.mem_of_getElem? (i := 703) (by decide +kernel), List.mem_of_getElem? (i := 897) (by decide +kernel), List.mem_of_getElem? (i := 898) (by decide +kernel)⟩
theorem lw_p40 : lw_okq (⟨"TitleCallerModel", "isBlack", "(I)Z"⟩, 24) := ⟨⟨by decide +kernel, by decide +kernel⟩, List.mem_of_getElem? (i := 703) (by decide +kernel), List.mem_of_getElem? (i := 905) (by decide +kernel), List.mem_of_getElem? (i := 906) (by decide +kernel)⟩
theorem lw_p41 : lw_okq (⟨"TitleCallerModel", "laysShowings", "()V"⟩, 24) := ⟨⟨by decide +kernel, by decide +kernel⟩, List.mem_of_getElem? (i := 703) (by decide +kernel), List.mem_of_getElem? (i := 913) (by decide +kernel), List.mem_of_getElem? (i := 914) (by decide +kernel)⟩
theorem lw_p42 : lw_okq (⟨"TitleCallerModel", "comes", "(II)Z"⟩, 24) := ⟨⟨by decide +kernel, by decide +kernel⟩, List.mem_of_getElem? (i := 703) (by decide +kernel), List.mem_of_getElem? (i := 917) (by decide +kernel), List.mem_of_getElem? (i := 918) (by decide +kernel)⟩
theorem lw_p43 : lw_okq (⟨"TitleCallerModel", "lastPlace", "(I)I"⟩, 24) := ⟨⟨by decide +kernel, by decide +kernel⟩, List.mem_of_getElem? (i := 703) (by decide +kernel), List.mem_of_getElem? (i := 921) (by decide +kernel), List.mem_of_getElem? (i := 922) (by decide +kernel)⟩
theorem lw_p44 : lw_okq (⟨"TitleCallerModel", "laysShowing", "(II)V"⟩, 24) := ⟨⟨by decide +kernel, by decide +kernel⟩, List.mem_of_getElem? (i := 703) (by decide +kernel), List.mem_of_getElem? (i := 925) (by decide +kernel), List.mem_of_getElem? (i := 926) (by decide +kernel)⟩
theorem lw_p45 : lw_okq (⟨"TitleCallerModel", "beginOf", "(I)I"⟩, 24) := ⟨⟨by decide +kernel, by decide +kernel⟩, List.mem_of_getElem? (i := 703) (by decide +kernel), List.mem_of_getElem? (i := 932) (by decide +kernel), List.mem_of_getElem? (i := 933) (by decide +kernel)⟩
theorem lw_p46 : lw_okq (⟨"TitleCallerModel", "looksAt", "(II)Z"⟩, 24) := ⟨⟨by decide +kernel, by decide +kernel⟩, List.mem_of_getElem? (i := 703) (by decide +kernel), List.mem_of_getElem? (i := 936) (by decide +kernel), List.mem_of_getElem? (i := 937) (by decide +kernel)⟩
theorem lw_p47 : lw_okq (⟨"TitleCallerModel", "isDark", "(I)Z"⟩, 24) := ⟨⟨by decide +kernel, by decide +kernel⟩, List.mem_of_getElem? (i := 703) (by decide +kernel), List.mem_of_getElem? (i := 940) (by decide +kernel), List.mem_of_getElem? (i := 941) (by decide +kernel)⟩
def lw_privs_3 : List (MethodName × Nat) := [(⟨"TitleCallerModel", "laysTitle", "(IIII)I"⟩, 24), (⟨"TitleCallerModel", "dropsTitle", "(I)I"⟩, 24), (⟨"TitleCallerModel", "laysNight", "()V"⟩, 24), (⟨"TitleCallerModel", "sings", "(I)V"⟩, 24), (⟨"TitleCallerModel", "isCut", "(I)Z"⟩, 24), (⟨"TitleCallerModel", "repeats", "(II)V"⟩, 24), (⟨"TitleCallerModel", "timesSung", "(I)I"⟩, 24), (⟨"TitleCallerModel", "firstPlace", "(I)I"⟩, 24), (⟨"TitleCallerModel", "isBlack", "(I)Z"⟩, 24), (⟨"TitleCallerModel", "laysShowings", "()V"⟩, 24), (⟨"TitleCallerModel", "comes", "(II)Z"⟩, 24), (⟨"TitleCallerModel", "lastPlace", "(I)I"⟩, 24), (⟨"TitleCallerModel", "laysShowing", "(II)V"⟩, 24), (⟨"TitleCallerModel", "beginOf", "(I)I"⟩, 24), (⟨"TitleCallerModel", "looksAt", "(II)Z"⟩, 24), (⟨"TitleCallerModel", "isDark", "(I)Z"⟩, 24)]
theorem lw_r3 : ∀ q ∈ lw_privs_3, lw_okq q := List.forall_mem_cons.mpr ⟨lw_p32, List.forall_mem_cons.mpr ⟨lw_p33, List.forall_mem_cons.mpr ⟨lw_p34, List.forall_mem_cons.mpr ⟨lw_p35, List.forall_mem_cons.mpr ⟨lw_p36, List.forall_mem_cons.mpr ⟨lw_p37, List.forall_mem_cons.mpr ⟨lw_p38, List.forall_mem_cons.mpr ⟨lw_p39, List.forall_mem_cons.mpr ⟨lw_p40, List.forall_mem_cons.mpr ⟨lw_p41, List.forall_mem_cons.mpr ⟨lw_p42, List.forall_mem_cons.mpr ⟨lw_p43, List.forall_mem_cons.mpr ⟨lw_p44, List.forall_mem_cons.mpr ⟨lw_p45, List.forall_mem_cons.mpr ⟨lw_p46, List.forall_mem_cons.mpr ⟨lw_p47, fun _ h => absurd h List.not_mem_nil⟩⟩⟩⟩⟩⟩⟩⟩⟩⟩⟩⟩⟩⟩⟩⟩
theorem lw_p48 : lw_okq (⟨"TitleCallerModel", "showingsOf", "(II)I"⟩, 24) := ⟨⟨by decide +kernel, by decide +kernel⟩, List.mem_of_getElem? (i := 703) (by decide +kernel), List.mem_of_getElem? (i := 944) (by decide +kernel), List.mem_of_getElem? (i := 945) (by decide +kernel)⟩
theorem lw_p49 : lw_okq (⟨"TitleCallerModel", "speed", "(I)I"⟩, 24) := ⟨⟨by decide +kernel, by decide +kernel⟩, List.mem_of_getElem? (i := 703) (by decide +kernel), List.mem_of_getElem? (i := 952) (by decide +kernel), List.mem_of_getElem? (i := 953) (by decide +kernel)⟩
theorem lw_p50 : lw_okq (⟨"TitleCallerModel", "withReason", "(I)I"⟩, 24) := ⟨⟨by decide +kernel, by decide +kernel⟩, List.mem_of_getElem? (i := 703) (by decide +kernel), List.mem_of_getElem? (i := 964) (by decide +kernel), List.mem_of_getElem? (i := 965) (by decide +kernel)⟩
theorem lw_p51 : lw_okq (⟨"TitleCallerModel", "shownTenths", "()I"⟩, 24) := ⟨⟨by decide +kernel, by decide +kernel⟩, List.mem_of_getElem? (i := 703) (by decide +kernel), List.mem_of_getElem? (i := 968) (by decide +kernel), List.mem_of_getElem? (i := 969) (by decide +kernel)⟩
theorem lw_p52 : lw_okq (⟨"TitleCallerModel", "titlesShown", "()I"⟩, 24) := ⟨⟨by decide +kernel, by decide +kernel⟩, List.mem_of_getElem? (i := 703) (by decide +kernel), List.mem_of_getElem? (i := 976) (by decide +kernel), List.mem_of_getElem? (i := 977) (by decide +kernel)⟩
theorem lw_p53 : lw_okq (⟨"TitleCallerModel", "nightAt", "(I)I"⟩, 24) := ⟨⟨by decide +kernel, by decide +kernel⟩, List.mem_of_getElem? (i := 703) (by decide +kernel), List.mem_of_getElem? (i := 984) (by decide +kernel), List.mem_of_getElem? (i := 985) (by decide +kernel)⟩
theorem lw_p54 : lw_okq (⟨"TitleCallerModel", "reads", "()I"⟩, 24) := ⟨⟨by decide +kernel, by decide +kernel⟩, List.mem_of_getElem? (i := 703) (by decide +kernel), List.mem_of_getElem? (i := 1001) (by decide +kernel), List.mem_of_getElem? (i := 1002) (by decide +kernel)⟩
theorem lw_p55 : lw_okq (⟨"TitleCallerModel", "readsOrder", "()V"⟩, 24) := ⟨⟨by decide +kernel, by decide +kernel⟩, List.mem_of_getElem? (i := 703) (by decide +kernel), List.mem_of_getElem? (i := 1005) (by decide +kernel), List.mem_of_getElem? (i := 1006) (by decide +kernel)⟩
theorem lw_p56 : lw_okq (⟨"TitleCallerModel", "sign", "()I"⟩, 24) := ⟨⟨by decide +kernel, by decide +kernel⟩, List.mem_of_getElem? (i := 703) (by decide +kernel), List.mem_of_getElem? (i := 1009) (by decide +kernel), List.mem_of_getElem? (i := 1010) (by decide +kernel)⟩
theorem lw_p57 : lw_okq (⟨"TitleCallerModel", "number", "()I"⟩, 24) := ⟨⟨by decide +kernel, by decide +kernel⟩, List.mem_of_getElem? (i := 703) (by decide +kernel), List.mem_of_getElem? (i := 1013) (by decide +kernel), List.mem_of_getElem? (i := 1014) (by decide +kernel)⟩
theorem lw_p58 : lw_okq (⟨"TitleCallerModel", "wants", "(I)V"⟩, 24) := ⟨⟨by decide +kernel, by decide +kernel⟩, List.mem_of_getElem? (i := 703) (by decide +kernel), List.mem_of_getElem? (i := 1017) (by decide +kernel), List.mem_of_getElem? (i := 1018) (by decide +kernel)⟩
theorem lw_p59 : lw_okq (⟨"TitleCallerModel", "refuses", "(IIII)I"⟩, 24) := ⟨⟨by decide +kernel, by decide +kernel⟩, List.mem_of_getElem? (i := 703) (by decide +kernel), List.mem_of_getElem? (i := 1025) (by decide +kernel), List.mem_of_getElem? (i := 1026) (by decide +kernel)⟩
theorem lw_p60 : lw_okq (⟨"TitleCallerModel", "does", "(IIII)V"⟩, 24) := ⟨⟨by decide +kernel, by decide +kernel⟩, List.mem_of_getElem? (i := 703) (by decide +kernel), List.mem_of_getElem? (i := 1032) (by decide +kernel), List.mem_of_getElem? (i := 1033) (by decide +kernel)⟩
def lw_privs_4 : List (MethodName × Nat) := [(⟨"TitleCallerModel", "showingsOf", "(II)I"⟩, 24), (⟨"TitleCallerModel", "speed", "(I)I"⟩, 24), (⟨"TitleCallerModel", "withReason", "(I)I"⟩, 24), (⟨"TitleCallerModel", "shownTenths", "()I"⟩, 24), (⟨"TitleCallerModel", "titlesShown", "()I"⟩, 24), (⟨"TitleCallerModel", "nightAt", "(I)I"⟩, 24), (⟨"TitleCallerModel", "reads", "()I"⟩, 24), (⟨"TitleCallerModel", "readsOrder", "()V"⟩, 24), (⟨"TitleCallerModel", "sign", "()I"⟩, 24), (⟨"TitleCallerModel", "number", "()I"⟩, 24), (⟨"TitleCallerModel", "wants", "(I)V"⟩, 24), (⟨"TitleCallerModel", "refuses", "(IIII)I"⟩, 24), (⟨"TitleCallerModel", "does", "(IIII)V"⟩, 24)]
theorem lw_r4 : ∀ q ∈ lw_privs_4, lw_okq q := List.forall_mem_cons.mpr ⟨lw_p48, List.forall_mem_cons.mpr ⟨lw_p49, List.forall_mem_cons.mpr ⟨lw_p50, List.forall_mem_cons.mpr ⟨lw_p51, List.forall_mem_cons.mpr ⟨lw_p52, List.forall_mem_cons.mpr ⟨lw_p53, List.forall_mem_cons.mpr ⟨lw_p54, List.forall_mem_cons.mpr ⟨lw_p55, List.forall_mem_cons.mpr ⟨lw_p56, List.forall_mem_cons.mpr ⟨lw_p57, List.forall_mem_cons.mpr ⟨lw_p58, List.forall_mem_cons.mpr ⟨lw_p59, List.forall_mem_cons.mpr ⟨lw_p60, fun _ h => absurd h List.not_mem_nil⟩⟩⟩⟩⟩⟩⟩⟩⟩⟩⟩⟩⟩
def lw_privs : List (MethodName × Nat) := lw_privs_1 ++ (lw_privs_2 ++ (lw_privs_3 ++ (lw_privs_4)))
def lw_tbl : List Cond := k2_sels lw_privs ++ tables_1
theorem lw_privs_ok : ∀ q ∈ lw_privs, lw_okq q := by
  show ∀ q ∈ lw_privs_1 ++ (lw_privs_2 ++ (lw_privs_3 ++ (lw_privs_4))), lw_okq q
  exact List.forall_mem_append.mpr ⟨lw_r1, List.forall_mem_append.mpr ⟨lw_r2, List.forall_mem_append.mpr ⟨lw_r3, lw_r4⟩⟩⟩
-- ===== end of PART A
end
section
theorem goodIn_r {big : List Cond} (ws : List Cond) (ps : List Nat) (hp : ws = ps.filterMap (fun i => big[i]?)) (h : ws.all goodWord = true) : GoodIn big ws := by
  intro w hw
  have h1 := List.all_eq_true.mp h w hw
  rw [hp] at hw
  obtain ⟨i, -, hi⟩ := List.mem_filterMap.mp hw
  have hm : w ∈ big := by first | exact List.mem_of_getElem? hi | exact List.getElem?_mem hi
  exact ⟨hm, good_of_word h1⟩
theorem goodIn_app {big a b : List Cond} (ha : GoodIn big a) (hb : GoodIn big b) : GoodIn big (a ++ b) := fun w h => (List.mem_append.mp h).elim (ha w) (hb w)
theorem goodIn_ca {big a b : List Cond} {c : Cond} (ha : GoodIn big (c :: a)) (hb : GoodIn big b) : GoodIn big (c :: (a ++ b)) := fun w h => (List.mem_cons.mp h).elim (fun e => ha w (List.mem_cons.mpr (Or.inl e))) (fun h => (List.mem_append.mp h).elim (fun h => ha w (List.mem_cons.mpr (Or.inr h))) (hb w))
theorem goodIn_sub {big ws : List Cond} (hm : ∀ w ∈ ws, w ∈ big) (h : ws.all goodWord = true) : GoodIn big ws := fun w hw => ⟨hm w hw, good_of_word (List.all_eq_true.mp h w hw)⟩
def RX0 : String := "TitleCaller$History"
def TX0 : u_T := fun k => match k with
  | 0 => ("TitleCaller$History", "states", "[LTitleCaller$Score;", true)
  | 1 => ("TitleCaller$History", "oldest", "I", false)
  | _ => ("TitleCaller$History", "size", "I", false)
def tyX0 : Nat → FieldType := fun k => match k with
  | 0 => .array (.object "TitleCaller$Score")
  | 1 => .int
  | _ => .int
abbrev wsX00 : List Cond := u_ws RX0 TX0 3
theorem nmX0 : ∀ a, a < 3 → ∀ b, b < 3 → a ≠ b → (TX0 a).2.1 ≠ (TX0 b).2.1 := by decide +kernel
theorem tyX0_ok : ∀ k, k < 3 → parseFieldDescriptor (TX0 k).2.2.1 = some (tyX0 k) := by decide +kernel
abbrev cX0_init : ByteArray := prog_2_method_1_code
def yX0_init : MethodName := ⟨RX0, "<init>", "()V"⟩
abbrev cX0_prepare : ByteArray := prog_2_method_2_code
def yX0_prepare : MethodName := ⟨RX0, "prepare", "(LTitleCaller$Score;)V"⟩
abbrev cX0_record : ByteArray := prog_2_method_3_code
def yX0_record : MethodName := ⟨RX0, "record", "()V"⟩
abbrev cX0_takeLatest : ByteArray := prog_2_method_4_code
def yX0_takeLatest : MethodName := ⟨RX0, "takeLatest", "()LTitleCaller$Score;"⟩
abbrev cX0_rowAt : ByteArray := prog_2_method_5_code
def yX0_rowAt : MethodName := ⟨RX0, "rowAt", "(I)LTitleCaller$Score;"⟩
def RX1 : String := "TitleCaller$Night"
def TX1 : u_T := fun k => match k with
  | 0 => ("TitleCaller$Night", "barAt", "[I", true)
  | 1 => ("TitleCaller$Night", "beginAt", "[I", true)
  | 2 => ("TitleCaller$Night", "timesSung", "[I", true)
  | 3 => ("TitleCaller$Night", "firstPlace", "[I", true)
  | 4 => ("TitleCaller$Night", "lastPlace", "[I", true)
  | 5 => ("TitleCaller$Night", "showings", "LTitleCaller$Showings;", true)
  | 6 => ("TitleCaller$Night", "places", "I", false)
  | _ => ("TitleCaller$Night", "end", "I", false)
def tyX1 : Nat → FieldType := fun k => match k with
  | 0 => .array .int
  | 1 => .array .int
  | 2 => .array .int
  | 3 => .array .int
  | 4 => .array .int
  | 5 => .object "TitleCaller$Showings"
  | 6 => .int
  | _ => .int
abbrev wsX10 : List Cond := u_ws RX1 TX1 8
theorem nmX1 : ∀ a, a < 8 → ∀ b, b < 8 → a ≠ b → (TX1 a).2.1 ≠ (TX1 b).2.1 := by decide +kernel
theorem tyX1_ok : ∀ k, k < 8 → parseFieldDescriptor (TX1 k).2.2.1 = some (tyX1 k) := by decide +kernel
abbrev cX1_init : ByteArray := prog_3_method_1_code
def yX1_init : MethodName := ⟨RX1, "<init>", "()V"⟩
abbrev cX1_workOut : ByteArray := prog_3_method_2_code
def yX1_workOut : MethodName := ⟨RX1, "workOut", "(LTitleCaller$Score;)V"⟩
abbrev cX1_hasPlace : ByteArray := prog_3_method_3_code
def yX1_hasPlace : MethodName := ⟨RX1, "hasPlace", "(I)Z"⟩
abbrev cX1_endIfAllAt : ByteArray := prog_3_method_4_code
def yX1_endIfAllAt : MethodName := ⟨RX1, "endIfAllAt", "(LTitleCaller$Score;I)I"⟩
abbrev cX1_singAll : ByteArray := prog_3_method_5_code
def yX1_singAll : MethodName := ⟨RX1, "singAll", "(LTitleCaller$Score;)V"⟩
abbrev cX1_singBar : ByteArray := prog_3_method_6_code
def yX1_singBar : MethodName := ⟨RX1, "singBar", "(LTitleCaller$Score;I)V"⟩
abbrev cX1_gatherShowings : ByteArray := prog_3_method_7_code
def yX1_gatherShowings : MethodName := ⟨RX1, "gatherShowings", "(LTitleCaller$Titles;)V"⟩
abbrev cX1_comesWith : ByteArray := prog_3_method_8_code
def yX1_comesWith : MethodName := ⟨RX1, "comesWith", "(III)Z"⟩
abbrev cX1_lookAtShowings : ByteArray := prog_3_method_9_code
def yX1_lookAtShowings : MethodName := ⟨RX1, "lookAtShowings", "(LTitleCaller$Score;)V"⟩
abbrev cX1_isBlackAt : ByteArray := prog_3_method_10_code
def yX1_isBlackAt : MethodName := ⟨RX1, "isBlackAt", "(LTitleCaller$Spans;I)Z"⟩
abbrev cX1_beginOrEnd : ByteArray := prog_3_method_11_code
def yX1_beginOrEnd : MethodName := ⟨RX1, "beginOrEnd", "(I)I"⟩
def RX2 : String := "TitleCaller$Pad"
def TX2 : u_T := fun k => match k with
  | 0 => ("TitleCaller$Pad", "codes", "[I", true)
  | _ => ("TitleCaller$Pad", "length", "I", false)
def tyX2 : Nat → FieldType := fun k => match k with
  | 0 => .array .int
  | _ => .int
abbrev wsX20 : List Cond := u_ws RX2 TX2 2
theorem nmX2 : ∀ a, a < 2 → ∀ b, b < 2 → a ≠ b → (TX2 a).2.1 ≠ (TX2 b).2.1 := by decide +kernel
theorem tyX2_ok : ∀ k, k < 2 → parseFieldDescriptor (TX2 k).2.2.1 = some (tyX2 k) := by decide +kernel
abbrev cX2_init : ByteArray := prog_4_method_1_code
def yX2_init : MethodName := ⟨RX2, "<init>", "()V"⟩
abbrev cX2_append : ByteArray := prog_4_method_2_code
def yX2_append : MethodName := ⟨RX2, "append", "(J)I"⟩
abbrev cX2_countOf : ByteArray := prog_4_method_3_code
def yX2_countOf : MethodName := ⟨RX2, "countOf", "(J)I"⟩
abbrev cX2_codeAt : ByteArray := prog_4_method_4_code
def yX2_codeAt : MethodName := ⟨RX2, "codeAt", "(JI)I"⟩
def RX3 : String := "TitleCaller$Reader"
def TX3 : u_T := fun k => match k with
  | 0 => ("TitleCaller$Reader", "numbers", "[I", true)
  | 1 => ("TitleCaller$Reader", "opening", "I", false)
  | 2 => ("TitleCaller$Reader", "current", "I", false)
  | _ => ("TitleCaller$Reader", "digits", "I", false)
def tyX3 : Nat → FieldType := fun k => match k with
  | 0 => .array .int
  | 1 => .int
  | 2 => .int
  | _ => .int
abbrev wsX30 : List Cond := u_ws RX3 TX3 4
theorem nmX3 : ∀ a, a < 4 → ∀ b, b < 4 → a ≠ b → (TX3 a).2.1 ≠ (TX3 b).2.1 := by decide +kernel
theorem tyX3_ok : ∀ k, k < 4 → parseFieldDescriptor (TX3 k).2.2.1 = some (tyX3 k) := by decide +kernel
abbrev cX3_init : ByteArray := prog_5_method_1_code
def yX3_init : MethodName := ⟨RX3, "<init>", "()V"⟩
abbrev cX3_start : ByteArray := prog_5_method_2_code
def yX3_start : MethodName := ⟨RX3, "start", "()V"⟩
abbrev cX3_faultOf : ByteArray := prog_5_method_3_code
def yX3_faultOf : MethodName := ⟨RX3, "faultOf", "(LTitleCaller$Pad;)I"⟩
abbrev cX3_take : ByteArray := prog_5_method_4_code
def yX3_take : MethodName := ⟨RX3, "take", "(I)Z"⟩
abbrev cX3_canEnd : ByteArray := prog_5_method_5_code
def yX3_canEnd : MethodName := ⟨RX3, "canEnd", "()Z"⟩
abbrev cX3_open : ByteArray := prog_5_method_6_code
def yX3_open : MethodName := ⟨RX3, "open", "(I)Z"⟩
abbrev cX3_takeDigit : ByteArray := prog_5_method_7_code
def yX3_takeDigit : MethodName := ⟨RX3, "takeDigit", "(I)Z"⟩
abbrev cX3_takeSign : ByteArray := prog_5_method_8_code
def yX3_takeSign : MethodName := ⟨RX3, "takeSign", "(I)Z"⟩
abbrev cX3_signBehindNumber : ByteArray := prog_5_method_9_code
def yX3_signBehindNumber : MethodName := ⟨RX3, "signBehindNumber", "()I"⟩
def RX4 : String := "TitleCaller$Score"
def TX4 : u_T := fun k => match k with
  | 0 => ("TitleCaller$Score", "barCount", "I", false)
  | 1 => ("TitleCaller$Score", "shortest", "I", false)
  | 2 => ("TitleCaller$Score", "beats", "[I", true)
  | 3 => ("TitleCaller$Score", "tempo", "[I", true)
  | 4 => ("TitleCaller$Score", "repeats", "LTitleCaller$Spans;", true)
  | 5 => ("TitleCaller$Score", "cuts", "LTitleCaller$Spans;", true)
  | 6 => ("TitleCaller$Score", "blackouts", "LTitleCaller$Spans;", true)
  | _ => ("TitleCaller$Score", "titles", "LTitleCaller$Titles;", true)
def tyX4 : Nat → FieldType := fun k => match k with
  | 0 => .int
  | 1 => .int
  | 2 => .array .int
  | 3 => .array .int
  | 4 => .object "TitleCaller$Spans"
  | 5 => .object "TitleCaller$Spans"
  | 6 => .object "TitleCaller$Spans"
  | _ => .object "TitleCaller$Titles"
abbrev wsX40 : List Cond := u_ws RX4 TX4 8
theorem nmX4 : ∀ a, a < 8 → ∀ b, b < 8 → a ≠ b → (TX4 a).2.1 ≠ (TX4 b).2.1 := by decide +kernel
theorem tyX4_ok : ∀ k, k < 8 → parseFieldDescriptor (TX4 k).2.2.1 = some (tyX4 k) := by decide +kernel
abbrev cX4_init : ByteArray := prog_6_method_1_code
def yX4_init : MethodName := ⟨RX4, "<init>", "()V"⟩
abbrev cX4_copyFrom : ByteArray := prog_6_method_2_code
def yX4_copyFrom : MethodName := ⟨RX4, "copyFrom", "(LTitleCaller$Score;)V"⟩
abbrev cX4_hasBar : ByteArray := prog_6_method_3_code
def yX4_hasBar : MethodName := ⟨RX4, "hasBar", "(I)Z"⟩
abbrev cX4_tenthsOf : ByteArray := prog_6_method_4_code
def yX4_tenthsOf : MethodName := ⟨RX4, "tenthsOf", "(I)I"⟩
abbrev cX4_spanError : ByteArray := prog_6_method_5_code
def yX4_spanError : MethodName := ⟨RX4, "spanError", "(II)I"⟩
abbrev cX4_changeBars : ByteArray := prog_6_method_6_code
def yX4_changeBars : MethodName := ⟨RX4, "changeBars", "(I)I"⟩
abbrev cX4_changeShortest : ByteArray := prog_6_method_7_code
def yX4_changeShortest : MethodName := ⟨RX4, "changeShortest", "(I)I"⟩
abbrev cX4_changeBar : ByteArray := prog_6_method_8_code
def yX4_changeBar : MethodName := ⟨RX4, "changeBar", "(III)I"⟩
abbrev cX4_addRepeat : ByteArray := prog_6_method_9_code
def yX4_addRepeat : MethodName := ⟨RX4, "addRepeat", "(II)I"⟩
abbrev cX4_addCut : ByteArray := prog_6_method_10_code
def yX4_addCut : MethodName := ⟨RX4, "addCut", "(II)I"⟩
abbrev cX4_addBlackout : ByteArray := prog_6_method_11_code
def yX4_addBlackout : MethodName := ⟨RX4, "addBlackout", "(II)I"⟩
abbrev cX4_removeSpan : ByteArray := prog_6_method_12_code
def yX4_removeSpan : MethodName := ⟨RX4, "removeSpan", "(II)I"⟩
abbrev cX4_addTitle : ByteArray := prog_6_method_13_code
def yX4_addTitle : MethodName := ⟨RX4, "addTitle", "(IIII)I"⟩
abbrev cX4_removeTitle : ByteArray := prog_6_method_14_code
def yX4_removeTitle : MethodName := ⟨RX4, "removeTitle", "(I)I"⟩
abbrev cX4_highestBarInUse : ByteArray := prog_6_method_15_code
def yX4_highestBarInUse : MethodName := ⟨RX4, "highestBarInUse", "()I"⟩
def RX5 : String := "TitleCaller$Showings"
def TX5 : u_T := fun k => match k with
  | 0 => ("TitleCaller$Showings", "title", "[I", true)
  | 1 => ("TitleCaller$Showings", "place", "[I", true)
  | 2 => ("TitleCaller$Showings", "from", "[I", true)
  | 3 => ("TitleCaller$Showings", "until", "[I", true)
  | 4 => ("TitleCaller$Showings", "reason", "[I", true)
  | 5 => ("TitleCaller$Showings", "begin", "[I", true)
  | 6 => ("TitleCaller$Showings", "end", "[I", true)
  | _ => ("TitleCaller$Showings", "size", "I", false)
def tyX5 : Nat → FieldType := fun k => match k with
  | 0 => .array .int
  | 1 => .array .int
  | 2 => .array .int
  | 3 => .array .int
  | 4 => .array .int
  | 5 => .array .int
  | 6 => .array .int
  | _ => .int
abbrev wsX50 : List Cond := u_ws RX5 TX5 8
theorem nmX5 : ∀ a, a < 8 → ∀ b, b < 8 → a ≠ b → (TX5 a).2.1 ≠ (TX5 b).2.1 := by decide +kernel
theorem tyX5_ok : ∀ k, k < 8 → parseFieldDescriptor (TX5 k).2.2.1 = some (tyX5 k) := by decide +kernel
abbrev cX5_init : ByteArray := prog_7_method_1_code
def yX5_init : MethodName := ⟨RX5, "<init>", "()V"⟩
abbrev cX5_has : ByteArray := prog_7_method_2_code
def yX5_has : MethodName := ⟨RX5, "has", "(I)Z"⟩
abbrev cX5_shows : ByteArray := prog_7_method_3_code
def yX5_shows : MethodName := ⟨RX5, "shows", "(I)Z"⟩
abbrev cX5_add : ByteArray := prog_7_method_4_code
def yX5_add : MethodName := ⟨RX5, "add", "(IIII)V"⟩
abbrev cX5_lookAt : ByteArray := prog_7_method_5_code
def yX5_lookAt : MethodName := ⟨RX5, "lookAt", "(IIZI)V"⟩
abbrev cX5_titleAt : ByteArray := prog_7_method_6_code
def yX5_titleAt : MethodName := ⟨RX5, "titleAt", "(I)I"⟩
abbrev cX5_countWith : ByteArray := prog_7_method_7_code
def yX5_countWith : MethodName := ⟨RX5, "countWith", "(I)I"⟩
abbrev cX5_countOf : ByteArray := prog_7_method_8_code
def yX5_countOf : MethodName := ⟨RX5, "countOf", "(I)I"⟩
abbrev cX5_countShownOf : ByteArray := prog_7_method_9_code
def yX5_countShownOf : MethodName := ⟨RX5, "countShownOf", "(I)I"⟩
abbrev cX5_tenthsOf : ByteArray := prog_7_method_10_code
def yX5_tenthsOf : MethodName := ⟨RX5, "tenthsOf", "(I)I"⟩
abbrev cX5_tenthsOfAll : ByteArray := prog_7_method_11_code
def yX5_tenthsOfAll : MethodName := ⟨RX5, "tenthsOfAll", "()I"⟩
abbrev cX5_shownTenths : ByteArray := prog_7_method_12_code
def yX5_shownTenths : MethodName := ⟨RX5, "shownTenths", "(I)I"⟩
def RX6 : String := "TitleCaller$Spans"
def TX6 : u_T := fun k => match k with
  | 0 => ("TitleCaller$Spans", "first", "[I", true)
  | 1 => ("TitleCaller$Spans", "last", "[I", true)
  | _ => ("TitleCaller$Spans", "size", "I", false)
def tyX6 : Nat → FieldType := fun k => match k with
  | 0 => .array .int
  | 1 => .array .int
  | _ => .int
abbrev wsX60 : List Cond := u_ws RX6 TX6 3
theorem nmX6 : ∀ a, a < 3 → ∀ b, b < 3 → a ≠ b → (TX6 a).2.1 ≠ (TX6 b).2.1 := by decide +kernel
theorem tyX6_ok : ∀ k, k < 3 → parseFieldDescriptor (TX6 k).2.2.1 = some (tyX6 k) := by decide +kernel
abbrev cX6_init : ByteArray := prog_8_method_1_code
def yX6_init : MethodName := ⟨RX6, "<init>", "(I)V"⟩
abbrev cX6_copyFrom : ByteArray := prog_8_method_2_code
def yX6_copyFrom : MethodName := ⟨RX6, "copyFrom", "(LTitleCaller$Spans;)V"⟩
abbrev cX6_isFull : ByteArray := prog_8_method_3_code
def yX6_isFull : MethodName := ⟨RX6, "isFull", "()Z"⟩
abbrev cX6_add : ByteArray := prog_8_method_4_code
def yX6_add : MethodName := ⟨RX6, "add", "(II)I"⟩
abbrev cX6_remove : ByteArray := prog_8_method_5_code
def yX6_remove : MethodName := ⟨RX6, "remove", "(I)I"⟩
abbrev cX6_meets : ByteArray := prog_8_method_6_code
def yX6_meets : MethodName := ⟨RX6, "meets", "(II)Z"⟩
abbrev cX6_covers : ByteArray := prog_8_method_7_code
def yX6_covers : MethodName := ⟨RX6, "covers", "(I)Z"⟩
abbrev cX6_highest : ByteArray := prog_8_method_8_code
def yX6_highest : MethodName := ⟨RX6, "highest", "()I"⟩
abbrev cX6_backFrom : ByteArray := prog_8_method_9_code
def yX6_backFrom : MethodName := ⟨RX6, "backFrom", "(I)I"⟩
def RX7 : String := "TitleCaller$Titles"
def TX7 : u_T := fun k => match k with
  | 0 => ("TitleCaller$Titles", "kind", "[I", true)
  | 1 => ("TitleCaller$Titles", "bar", "[I", true)
  | 2 => ("TitleCaller$Titles", "length", "[I", true)
  | 3 => ("TitleCaller$Titles", "letters", "[I", true)
  | _ => ("TitleCaller$Titles", "size", "I", false)
def tyX7 : Nat → FieldType := fun k => match k with
  | 0 => .array .int
  | 1 => .array .int
  | 2 => .array .int
  | 3 => .array .int
  | _ => .int
abbrev wsX70 : List Cond := u_ws RX7 TX7 5
theorem nmX7 : ∀ a, a < 5 → ∀ b, b < 5 → a ≠ b → (TX7 a).2.1 ≠ (TX7 b).2.1 := by decide +kernel
theorem tyX7_ok : ∀ k, k < 5 → parseFieldDescriptor (TX7 k).2.2.1 = some (tyX7 k) := by decide +kernel
abbrev cX7_init : ByteArray := prog_9_method_1_code
def yX7_init : MethodName := ⟨RX7, "<init>", "()V"⟩
abbrev cX7_copyFrom : ByteArray := prog_9_method_2_code
def yX7_copyFrom : MethodName := ⟨RX7, "copyFrom", "(LTitleCaller$Titles;)V"⟩
abbrev cX7_has : ByteArray := prog_9_method_3_code
def yX7_has : MethodName := ⟨RX7, "has", "(I)Z"⟩
abbrev cX7_add : ByteArray := prog_9_method_4_code
def yX7_add : MethodName := ⟨RX7, "add", "(IIII)I"⟩
abbrev cX7_remove : ByteArray := prog_9_method_5_code
def yX7_remove : MethodName := ⟨RX7, "remove", "(I)I"⟩
abbrev cX7_highestBar : ByteArray := prog_9_method_6_code
def yX7_highestBar : MethodName := ⟨RX7, "highestBar", "()I"⟩
def RX8 : String := "TitleCaller"
def TX8 : u_T := fun k => match k with
  | 0 => ("TitleCaller", "score", "LTitleCaller$Score;", true)
  | 1 => ("TitleCaller", "night", "LTitleCaller$Night;", true)
  | 2 => ("TitleCaller", "triedScore", "LTitleCaller$Score;", true)
  | 3 => ("TitleCaller", "triedNight", "LTitleCaller$Night;", true)
  | 4 => ("TitleCaller", "pad", "LTitleCaller$Pad;", true)
  | 5 => ("TitleCaller", "reader", "LTitleCaller$Reader;", true)
  | 6 => ("TitleCaller", "history", "LTitleCaller$History;", true)
  | 7 => ("TitleCaller", "slots", "[LTitleCaller$Score;", true)
  | _ => ("TitleCaller", "saved", "[Z", true)
def tyX8 : Nat → FieldType := fun k => match k with
  | 0 => .object "TitleCaller$Score"
  | 1 => .object "TitleCaller$Night"
  | 2 => .object "TitleCaller$Score"
  | 3 => .object "TitleCaller$Night"
  | 4 => .object "TitleCaller$Pad"
  | 5 => .object "TitleCaller$Reader"
  | 6 => .object "TitleCaller$History"
  | 7 => .array (.object "TitleCaller$Score")
  | _ => .array .boolean
abbrev wsX80 : List Cond := u_ws RX8 TX8 9
theorem nmX8 : ∀ a, a < 9 → ∀ b, b < 9 → a ≠ b → (TX8 a).2.1 ≠ (TX8 b).2.1 := by decide +kernel
theorem tyX8_ok : ∀ k, k < 9 → parseFieldDescriptor (TX8 k).2.2.1 = some (tyX8 k) := by decide +kernel
abbrev cX8_init : ByteArray := prog_1_method_1_code
def yX8_init : MethodName := ⟨RX8, "<init>", "()V"⟩
abbrev cX8_bars : ByteArray := prog_1_method_2_code
def yX8_bars : MethodName := ⟨RX8, "bars", "(I)I"⟩
abbrev cX8_shortest : ByteArray := prog_1_method_3_code
def yX8_shortest : MethodName := ⟨RX8, "shortest", "(I)I"⟩
abbrev cX8_bar : ByteArray := prog_1_method_4_code
def yX8_bar : MethodName := ⟨RX8, "bar", "(III)I"⟩
abbrev cX8_repeat : ByteArray := prog_1_method_5_code
def yX8_repeat : MethodName := ⟨RX8, "repeat", "(II)I"⟩
abbrev cX8_cut : ByteArray := prog_1_method_6_code
def yX8_cut : MethodName := ⟨RX8, "cut", "(II)I"⟩
abbrev cX8_blackout : ByteArray := prog_1_method_7_code
def yX8_blackout : MethodName := ⟨RX8, "blackout", "(II)I"⟩
abbrev cX8_undoSpan : ByteArray := prog_1_method_8_code
def yX8_undoSpan : MethodName := ⟨RX8, "undoSpan", "(II)I"⟩
abbrev cX8_title : ByteArray := prog_1_method_9_code
def yX8_title : MethodName := ⟨RX8, "title", "(IIII)I"⟩
abbrev cX8_drop : ByteArray := prog_1_method_10_code
def yX8_drop : MethodName := ⟨RX8, "drop", "(I)I"⟩
abbrev cX8_ofBar : ByteArray := prog_1_method_11_code
def yX8_ofBar : MethodName := ⟨RX8, "ofBar", "(II)I"⟩
abbrev cX8_sung : ByteArray := prog_1_method_12_code
def yX8_sung : MethodName := ⟨RX8, "sung", "(II)I"⟩
abbrev cX8_ofTitle : ByteArray := prog_1_method_13_code
def yX8_ofTitle : MethodName := ⟨RX8, "ofTitle", "(II)I"⟩
abbrev cX8_showing : ByteArray := prog_1_method_14_code
def yX8_showing : MethodName := ⟨RX8, "showing", "(II)I"⟩
abbrev cX8_at : ByteArray := prog_1_method_15_code
def yX8_at : MethodName := ⟨RX8, "at", "(I)I"⟩
abbrev cX8_count : ByteArray := prog_1_method_16_code
def yX8_count : MethodName := ⟨RX8, "count", "(I)I"⟩
abbrev cX8_cutIf : ByteArray := prog_1_method_17_code
def yX8_cutIf : MethodName := ⟨RX8, "cutIf", "(III)I"⟩
abbrev cX8_slowest : ByteArray := prog_1_method_18_code
def yX8_slowest : MethodName := ⟨RX8, "slowest", "(I)I"⟩
abbrev cX8_put : ByteArray := prog_1_method_19_code
def yX8_put : MethodName := ⟨RX8, "put", "(J)I"⟩
abbrev cX8_wipe : ByteArray := prog_1_method_20_code
def yX8_wipe : MethodName := ⟨RX8, "wipe", "()I"⟩
abbrev cX8_fault : ByteArray := prog_1_method_21_code
def yX8_fault : MethodName := ⟨RX8, "fault", "()I"⟩
abbrev cX8_carryOut : ByteArray := prog_1_method_22_code
def yX8_carryOut : MethodName := ⟨RX8, "carryOut", "()I"⟩
abbrev cX8_undo : ByteArray := prog_1_method_23_code
def yX8_undo : MethodName := ⟨RX8, "undo", "()I"⟩
abbrev cX8_save : ByteArray := prog_1_method_24_code
def yX8_save : MethodName := ⟨RX8, "save", "(I)I"⟩
abbrev cX8_restore : ByteArray := prog_1_method_25_code
def yX8_restore : MethodName := ⟨RX8, "restore", "(I)I"⟩
abbrev cX8_settle : ByteArray := prog_1_method_26_code
def yX8_settle : MethodName := ⟨RX8, "settle", "(I)I"⟩
abbrev cX8_slotAt : ByteArray := prog_1_method_27_code
def yX8_slotAt : MethodName := ⟨RX8, "slotAt", "(I)LTitleCaller$Score;"⟩
abbrev cX8_readingPace : ByteArray := prog_1_method_28_code
def yX8_readingPace : MethodName := ⟨RX8, "readingPace", "(I)I"⟩
abbrev cX8_titlesLost : ByteArray := prog_1_method_29_code
def yX8_titlesLost : MethodName := ⟨RX8, "titlesLost", "()I"⟩
abbrev cX8_carryOutOrders : ByteArray := prog_1_method_30_code
def yX8_carryOutOrders : MethodName := ⟨RX8, "carryOutOrders", "()I"⟩
abbrev cX8_carryOutOrder : ByteArray := prog_1_method_31_code
def yX8_carryOutOrder : MethodName := ⟨RX8, "carryOutOrder", "()I"⟩
abbrev cX8_isWithin : ByteArray := prog_1_method_32_code
def yX8_isWithin : MethodName := ⟨RX8, "isWithin", "(III)Z"⟩
abbrev cX8_tenthsFor : ByteArray := prog_1_method_33_code
def yX8_tenthsFor : MethodName := ⟨RX8, "tenthsFor", "(II)I"⟩
abbrev cX8_leadOf : ByteArray := prog_1_method_34_code
def yX8_leadOf : MethodName := ⟨RX8, "leadOf", "(I)I"⟩
def RX9 : String := "TitleCallerModel"
def TX9 : u_T := fun k => match k with
  | 0 => ("TitleCallerModel", "thrown", "I", false)
  | 1 => ("TitleCallerModel", "s", "[I", true)
  | 2 => ("TitleCallerModel", "undos", "[I", true)
  | 3 => ("TitleCallerModel", "undoMany", "I", false)
  | 4 => ("TitleCallerModel", "slots", "[I", true)
  | 5 => ("TitleCallerModel", "hasSlot", "[Z", true)
  | 6 => ("TitleCallerModel", "pad", "[I", true)
  | 7 => ("TitleCallerModel", "length", "I", false)
  | 8 => ("TitleCallerModel", "places", "[I", true)
  | 9 => ("TitleCallerModel", "begins", "[I", true)
  | 10 => ("TitleCallerModel", "placeMany", "I", false)
  | 11 => ("TitleCallerModel", "night", "I", false)
  | 12 => ("TitleCallerModel", "titleOf", "[I", true)
  | 13 => ("TitleCallerModel", "placeOf", "[I", true)
  | 14 => ("TitleCallerModel", "dueFrom", "[I", true)
  | 15 => ("TitleCallerModel", "dueUntil", "[I", true)
  | 16 => ("TitleCallerModel", "reasons", "[I", true)
  | 17 => ("TitleCallerModel", "from", "[I", true)
  | 18 => ("TitleCallerModel", "until", "[I", true)
  | 19 => ("TitleCallerModel", "showingMany", "I", false)
  | 20 => ("TitleCallerModel", "at", "I", false)
  | 21 => ("TitleCallerModel", "isWell", "Z", false)
  | 22 => ("TitleCallerModel", "orders", "[I", true)
  | _ => ("TitleCallerModel", "orderMany", "I", false)
def tyX9 : Nat → FieldType := fun k => match k with
  | 0 => .int
  | 1 => .array .int
  | 2 => .array .int
  | 3 => .int
  | 4 => .array .int
  | 5 => .array .boolean
  | 6 => .array .int
  | 7 => .int
  | 8 => .array .int
  | 9 => .array .int
  | 10 => .int
  | 11 => .int
  | 12 => .array .int
  | 13 => .array .int
  | 14 => .array .int
  | 15 => .array .int
  | 16 => .array .int
  | 17 => .array .int
  | 18 => .array .int
  | 19 => .int
  | 20 => .int
  | 21 => .boolean
  | 22 => .array .int
  | _ => .int
abbrev wsX90 : List Cond := u_ws RX9 TX9 24
theorem nmX9 : ∀ a, a < 24 → ∀ b, b < 24 → a ≠ b → (TX9 a).2.1 ≠ (TX9 b).2.1 := by decide +kernel
theorem tyX9_ok : ∀ k, k < 24 → parseFieldDescriptor (TX9 k).2.2.1 = some (tyX9 k) := by decide +kernel
abbrev cX9_init : ByteArray := prog_11_method_1_code
def yX9_init : MethodName := ⟨RX9, "<init>", "()V"⟩
abbrev cX9_in : ByteArray := prog_11_method_3_code
def yX9_in : MethodName := ⟨RX9, "in", "(III)Z"⟩
abbrev cX9_isBar : ByteArray := prog_11_method_4_code
def yX9_isBar : MethodName := ⟨RX9, "isBar", "(I)Z"⟩
abbrev cX9_of : ByteArray := prog_11_method_5_code
def yX9_of : MethodName := ⟨RX9, "of", "(II)I"⟩
abbrev cX9_records : ByteArray := prog_11_method_6_code
def yX9_records : MethodName := ⟨RX9, "records", "()V"⟩
abbrev cX9_tenths : ByteArray := prog_11_method_7_code
def yX9_tenths : MethodName := ⟨RX9, "tenths", "(I)I"⟩
abbrev cX9_isCut : ByteArray := prog_11_method_8_code
def yX9_isCut : MethodName := ⟨RX9, "isCut", "(I)Z"⟩
abbrev cX9_sings : ByteArray := prog_11_method_9_code
def yX9_sings : MethodName := ⟨RX9, "sings", "(I)V"⟩
abbrev cX9_laysNight : ByteArray := prog_11_method_10_code
def yX9_laysNight : MethodName := ⟨RX9, "laysNight", "()V"⟩
abbrev cX9_repeats : ByteArray := prog_11_method_11_code
def yX9_repeats : MethodName := ⟨RX9, "repeats", "(II)V"⟩
abbrev cX9_beginOf : ByteArray := prog_11_method_12_code
def yX9_beginOf : MethodName := ⟨RX9, "beginOf", "(I)I"⟩
abbrev cX9_firstPlace : ByteArray := prog_11_method_13_code
def yX9_firstPlace : MethodName := ⟨RX9, "firstPlace", "(I)I"⟩
abbrev cX9_lastPlace : ByteArray := prog_11_method_14_code
def yX9_lastPlace : MethodName := ⟨RX9, "lastPlace", "(I)I"⟩
abbrev cX9_comes : ByteArray := prog_11_method_15_code
def yX9_comes : MethodName := ⟨RX9, "comes", "(II)Z"⟩
abbrev cX9_lead : ByteArray := prog_11_method_16_code
def yX9_lead : MethodName := ⟨RX9, "lead", "(I)I"⟩
abbrev cX9_isDark : ByteArray := prog_11_method_17_code
def yX9_isDark : MethodName := ⟨RX9, "isDark", "(I)Z"⟩
abbrev cX9_laysShowing : ByteArray := prog_11_method_18_code
def yX9_laysShowing : MethodName := ⟨RX9, "laysShowing", "(II)V"⟩
abbrev cX9_laysShowings : ByteArray := prog_11_method_19_code
def yX9_laysShowings : MethodName := ⟨RX9, "laysShowings", "()V"⟩
abbrev cX9_looksAt : ByteArray := prog_11_method_20_code
def yX9_looksAt : MethodName := ⟨RX9, "looksAt", "(II)Z"⟩
abbrev cX9_withReason : ByteArray := prog_11_method_21_code
def yX9_withReason : MethodName := ⟨RX9, "withReason", "(I)I"⟩
abbrev cX9_titlesShown : ByteArray := prog_11_method_22_code
def yX9_titlesShown : MethodName := ⟨RX9, "titlesShown", "()I"⟩
abbrev cX9_isBeyond : ByteArray := prog_11_method_23_code
def yX9_isBeyond : MethodName := ⟨RX9, "isBeyond", "(I)Z"⟩
abbrev cX9_bars : ByteArray := prog_11_method_24_code
def yX9_bars : MethodName := ⟨RX9, "bars", "(I)I"⟩
abbrev cX9_shortest : ByteArray := prog_11_method_25_code
def yX9_shortest : MethodName := ⟨RX9, "shortest", "(I)I"⟩
abbrev cX9_refusesBar : ByteArray := prog_11_method_26_code
def yX9_refusesBar : MethodName := ⟨RX9, "refusesBar", "(III)I"⟩
abbrev cX9_laysBar : ByteArray := prog_11_method_27_code
def yX9_laysBar : MethodName := ⟨RX9, "laysBar", "(III)V"⟩
abbrev cX9_bar : ByteArray := prog_11_method_28_code
def yX9_bar : MethodName := ⟨RX9, "bar", "(III)I"⟩
abbrev cX9_refusesSpan : ByteArray := prog_11_method_29_code
def yX9_refusesSpan : MethodName := ⟨RX9, "refusesSpan", "(III)I"⟩
abbrev cX9_refusesRepeat : ByteArray := prog_11_method_30_code
def yX9_refusesRepeat : MethodName := ⟨RX9, "refusesRepeat", "(II)I"⟩
abbrev cX9_laysSpan : ByteArray := prog_11_method_31_code
def yX9_laysSpan : MethodName := ⟨RX9, "laysSpan", "(IIII)I"⟩
abbrev cX9_repeat : ByteArray := prog_11_method_32_code
def yX9_repeat : MethodName := ⟨RX9, "repeat", "(II)I"⟩
abbrev cX9_cut : ByteArray := prog_11_method_33_code
def yX9_cut : MethodName := ⟨RX9, "cut", "(II)I"⟩
abbrev cX9_blackout : ByteArray := prog_11_method_34_code
def yX9_blackout : MethodName := ⟨RX9, "blackout", "(II)I"⟩
abbrev cX9_undoSpan : ByteArray := prog_11_method_35_code
def yX9_undoSpan : MethodName := ⟨RX9, "undoSpan", "(II)I"⟩
abbrev cX9_refusesTitle : ByteArray := prog_11_method_36_code
def yX9_refusesTitle : MethodName := ⟨RX9, "refusesTitle", "(IIII)I"⟩
abbrev cX9_laysTitle : ByteArray := prog_11_method_37_code
def yX9_laysTitle : MethodName := ⟨RX9, "laysTitle", "(IIII)I"⟩
abbrev cX9_title : ByteArray := prog_11_method_38_code
def yX9_title : MethodName := ⟨RX9, "title", "(IIII)I"⟩
abbrev cX9_dropsTitle : ByteArray := prog_11_method_39_code
def yX9_dropsTitle : MethodName := ⟨RX9, "dropsTitle", "(I)I"⟩
abbrev cX9_drop : ByteArray := prog_11_method_40_code
def yX9_drop : MethodName := ⟨RX9, "drop", "(I)I"⟩
abbrev cX9_timesSung : ByteArray := prog_11_method_41_code
def yX9_timesSung : MethodName := ⟨RX9, "timesSung", "(I)I"⟩
abbrev cX9_ofBar : ByteArray := prog_11_method_42_code
def yX9_ofBar : MethodName := ⟨RX9, "ofBar", "(II)I"⟩
abbrev cX9_isBlack : ByteArray := prog_11_method_43_code
def yX9_isBlack : MethodName := ⟨RX9, "isBlack", "(I)Z"⟩
abbrev cX9_sung : ByteArray := prog_11_method_44_code
def yX9_sung : MethodName := ⟨RX9, "sung", "(II)I"⟩
abbrev cX9_showingsOf : ByteArray := prog_11_method_45_code
def yX9_showingsOf : MethodName := ⟨RX9, "showingsOf", "(II)I"⟩
abbrev cX9_ofTitle : ByteArray := prog_11_method_46_code
def yX9_ofTitle : MethodName := ⟨RX9, "ofTitle", "(II)I"⟩
abbrev cX9_speed : ByteArray := prog_11_method_47_code
def yX9_speed : MethodName := ⟨RX9, "speed", "(I)I"⟩
abbrev cX9_showing : ByteArray := prog_11_method_48_code
def yX9_showing : MethodName := ⟨RX9, "showing", "(II)I"⟩
abbrev cX9_at : ByteArray := prog_11_method_49_code
def yX9_at : MethodName := ⟨RX9, "at", "(I)I"⟩
abbrev cX9_shownTenths : ByteArray := prog_11_method_50_code
def yX9_shownTenths : MethodName := ⟨RX9, "shownTenths", "()I"⟩
abbrev cX9_count : ByteArray := prog_11_method_51_code
def yX9_count : MethodName := ⟨RX9, "count", "(I)I"⟩
abbrev cX9_cutIf : ByteArray := prog_11_method_52_code
def yX9_cutIf : MethodName := ⟨RX9, "cutIf", "(III)I"⟩
abbrev cX9_nightAt : ByteArray := prog_11_method_53_code
def yX9_nightAt : MethodName := ⟨RX9, "nightAt", "(I)I"⟩
abbrev cX9_slowest : ByteArray := prog_11_method_54_code
def yX9_slowest : MethodName := ⟨RX9, "slowest", "(I)I"⟩
abbrev cX9_put : ByteArray := prog_11_method_55_code
def yX9_put : MethodName := ⟨RX9, "put", "(J)I"⟩
abbrev cX9_wipe : ByteArray := prog_11_method_56_code
def yX9_wipe : MethodName := ⟨RX9, "wipe", "()I"⟩
abbrev cX9_sign : ByteArray := prog_11_method_57_code
def yX9_sign : MethodName := ⟨RX9, "sign", "()I"⟩
abbrev cX9_wants : ByteArray := prog_11_method_58_code
def yX9_wants : MethodName := ⟨RX9, "wants", "(I)V"⟩
abbrev cX9_number : ByteArray := prog_11_method_59_code
def yX9_number : MethodName := ⟨RX9, "number", "()I"⟩
abbrev cX9_readsOrder : ByteArray := prog_11_method_60_code
def yX9_readsOrder : MethodName := ⟨RX9, "readsOrder", "()V"⟩
abbrev cX9_reads : ByteArray := prog_11_method_61_code
def yX9_reads : MethodName := ⟨RX9, "reads", "()I"⟩
abbrev cX9_fault : ByteArray := prog_11_method_62_code
def yX9_fault : MethodName := ⟨RX9, "fault", "()I"⟩
abbrev cX9_kindBy : ByteArray := prog_11_method_63_code
def yX9_kindBy : MethodName := ⟨RX9, "kindBy", "(I)I"⟩
abbrev cX9_refuses : ByteArray := prog_11_method_64_code
def yX9_refuses : MethodName := ⟨RX9, "refuses", "(IIII)I"⟩
abbrev cX9_does : ByteArray := prog_11_method_65_code
def yX9_does : MethodName := ⟨RX9, "does", "(IIII)V"⟩
abbrev cX9_carryOut : ByteArray := prog_11_method_66_code
def yX9_carryOut : MethodName := ⟨RX9, "carryOut", "()I"⟩
abbrev cX9_undo : ByteArray := prog_11_method_67_code
def yX9_undo : MethodName := ⟨RX9, "undo", "()I"⟩
abbrev cX9_save : ByteArray := prog_11_method_68_code
def yX9_save : MethodName := ⟨RX9, "save", "(I)I"⟩
abbrev cX9_restore : ByteArray := prog_11_method_69_code
def yX9_restore : MethodName := ⟨RX9, "restore", "(I)I"⟩
def RJ9 : String := "java/lang/Math"
abbrev cJ9_max_7cf53 : ByteArray := prog_12_method_65_code
def yJ9_max_7cf53 : MethodName := ⟨RJ9, "max", "(II)I"⟩
abbrev cJ9_min_7cf53 : ByteArray := prog_12_method_69_code
def yJ9_min_7cf53 : MethodName := ⟨RJ9, "min", "(II)I"⟩
def RJ10 : String := "java/lang/System"
def RL : String := "TitleCallerLaw"
abbrev cL_law : ByteArray := code
def yL_law : MethodName := ⟨RL, "law", "([I)Z"⟩
abbrev vwCl : List vw_C := [(RX0, TX0, 3), (RX1, TX1, 8), (RX2, TX2, 2), (RX3, TX3, 4), (RX4, TX4, 8), (RX5, TX5, 8), (RX6, TX6, 3), (RX7, TX7, 5), (RX8, TX8, 9), (RX9, TX9, 24)]
end
section
theorem dX0_init_0 : decode cX0_init 0 = .ok (.aload_n 0, 1) := by decide +kernel
theorem dX0_init_1 : decode cX0_init 1 = .ok (.invokespecial 3, 3) := by decide +kernel
theorem dX0_init_4 : decode cX0_init 4 = .ok (.aload_n 0, 1) := by decide +kernel
theorem dX0_init_5 : decode cX0_init 5 = .ok (.bipush 7, 2) := by decide +kernel
theorem dX0_init_7 : decode cX0_init 7 = .ok (.anewarray 11, 3) := by decide +kernel
theorem dX0_init_10 : decode cX0_init 10 = .ok (.putfield 13, 3) := by decide +kernel
theorem dX0_init_13 : decode cX0_init 13 = .ok (.iconst 0, 1) := by decide +kernel
theorem dX0_init_14 : decode cX0_init 14 = .ok (.istore_n 1, 1) := by decide +kernel
theorem dX0_init_15 : decode cX0_init 15 = .ok (.iload_n 1, 1) := by decide +kernel
theorem dX0_init_16 : decode cX0_init 16 = .ok (.bipush 7, 2) := by decide +kernel
theorem dX0_init_18 : decode cX0_init 18 = .ok (.if_icmp .ge 22, 3) := by decide +kernel
theorem dX0_init_21 : decode cX0_init 21 = .ok (.aload_n 0, 1) := by decide +kernel
theorem dX0_init_22 : decode cX0_init 22 = .ok (.getfield 13, 3) := by decide +kernel
theorem dX0_init_25 : decode cX0_init 25 = .ok (.iload_n 1, 1) := by decide +kernel
theorem dX0_init_26 : decode cX0_init 26 = .ok (.new 11, 3) := by decide +kernel
theorem dX0_init_29 : decode cX0_init 29 = .ok (.dup, 1) := by decide +kernel
theorem dX0_init_30 : decode cX0_init 30 = .ok (.invokespecial 17, 3) := by decide +kernel
theorem dX0_init_33 : decode cX0_init 33 = .ok (.aastore, 1) := by decide +kernel
theorem dX0_init_34 : decode cX0_init 34 = .ok (.iinc 1 1, 3) := by decide +kernel
theorem dX0_init_37 : decode cX0_init 37 = .ok (.goto (-22), 3) := by decide +kernel
theorem dX0_init_40 : decode cX0_init 40 = .ok (.return_, 1) := by decide +kernel
theorem dX0_prepare_0 : decode cX0_prepare 0 = .ok (.aload_n 0, 1) := by decide +kernel
theorem dX0_prepare_1 : decode cX0_prepare 1 = .ok (.aload_n 0, 1) := by decide +kernel
theorem dX0_prepare_2 : decode cX0_prepare 2 = .ok (.getfield 18, 3) := by decide +kernel
theorem dX0_prepare_5 : decode cX0_prepare 5 = .ok (.invokevirtual 22, 3) := by decide +kernel
theorem dX0_prepare_8 : decode cX0_prepare 8 = .ok (.astore_n 2, 1) := by decide +kernel
theorem dX0_prepare_9 : decode cX0_prepare 9 = .ok (.aload_n 2, 1) := by decide +kernel
theorem dX0_prepare_10 : decode cX0_prepare 10 = .ok (.ifnull 8, 3) := by decide +kernel
theorem dX0_prepare_13 : decode cX0_prepare 13 = .ok (.aload_n 2, 1) := by decide +kernel
theorem dX0_prepare_14 : decode cX0_prepare 14 = .ok (.aload_n 1, 1) := by decide +kernel
theorem dX0_prepare_15 : decode cX0_prepare 15 = .ok (.invokevirtual 26, 3) := by decide +kernel
theorem dX0_prepare_18 : decode cX0_prepare 18 = .ok (.return_, 1) := by decide +kernel
theorem dX0_record_0 : decode cX0_record 0 = .ok (.aload_n 0, 1) := by decide +kernel
theorem dX0_record_1 : decode cX0_record 1 = .ok (.getfield 18, 3) := by decide +kernel
theorem dX0_record_4 : decode cX0_record 4 = .ok (.bipush 6, 2) := by decide +kernel
theorem dX0_record_6 : decode cX0_record 6 = .ok (.if_icmp .ge 16, 3) := by decide +kernel
theorem dX0_record_9 : decode cX0_record 9 = .ok (.aload_n 0, 1) := by decide +kernel
theorem dX0_record_10 : decode cX0_record 10 = .ok (.dup, 1) := by decide +kernel
theorem dX0_record_11 : decode cX0_record 11 = .ok (.getfield 18, 3) := by decide +kernel
theorem dX0_record_14 : decode cX0_record 14 = .ok (.iconst 1, 1) := by decide +kernel
theorem dX0_record_15 : decode cX0_record 15 = .ok (.iadd, 1) := by decide +kernel
theorem dX0_record_16 : decode cX0_record 16 = .ok (.putfield 18, 3) := by decide +kernel
theorem dX0_record_19 : decode cX0_record 19 = .ok (.goto 16, 3) := by decide +kernel
theorem dX0_record_22 : decode cX0_record 22 = .ok (.aload_n 0, 1) := by decide +kernel
theorem dX0_record_23 : decode cX0_record 23 = .ok (.aload_n 0, 1) := by decide +kernel
theorem dX0_record_24 : decode cX0_record 24 = .ok (.getfield 30, 3) := by decide +kernel
theorem dX0_record_27 : decode cX0_record 27 = .ok (.iconst 1, 1) := by decide +kernel
theorem dX0_record_28 : decode cX0_record 28 = .ok (.iadd, 1) := by decide +kernel
theorem dX0_record_29 : decode cX0_record 29 = .ok (.bipush 7, 2) := by decide +kernel
theorem dX0_record_31 : decode cX0_record 31 = .ok (.irem, 1) := by decide +kernel
theorem dX0_record_32 : decode cX0_record 32 = .ok (.putfield 30, 3) := by decide +kernel
theorem dX0_record_35 : decode cX0_record 35 = .ok (.return_, 1) := by decide +kernel
theorem dX0_takeLatest_0 : decode cX0_takeLatest 0 = .ok (.aload_n 0, 1) := by decide +kernel
theorem dX0_takeLatest_1 : decode cX0_takeLatest 1 = .ok (.getfield 18, 3) := by decide +kernel
theorem dX0_takeLatest_4 : decode cX0_takeLatest 4 = .ok (.ifCond .gt 5, 3) := by decide +kernel
theorem dX0_takeLatest_7 : decode cX0_takeLatest 7 = .ok (.aconst_null, 1) := by decide +kernel
theorem dX0_takeLatest_8 : decode cX0_takeLatest 8 = .ok (.areturn, 1) := by decide +kernel
theorem dX0_takeLatest_9 : decode cX0_takeLatest 9 = .ok (.aload_n 0, 1) := by decide +kernel
theorem dX0_takeLatest_10 : decode cX0_takeLatest 10 = .ok (.dup, 1) := by decide +kernel
theorem dX0_takeLatest_11 : decode cX0_takeLatest 11 = .ok (.getfield 18, 3) := by decide +kernel
theorem dX0_takeLatest_14 : decode cX0_takeLatest 14 = .ok (.iconst 1, 1) := by decide +kernel
theorem dX0_takeLatest_15 : decode cX0_takeLatest 15 = .ok (.isub, 1) := by decide +kernel
theorem dX0_takeLatest_16 : decode cX0_takeLatest 16 = .ok (.putfield 18, 3) := by decide +kernel
theorem dX0_takeLatest_19 : decode cX0_takeLatest 19 = .ok (.aload_n 0, 1) := by decide +kernel
theorem dX0_takeLatest_20 : decode cX0_takeLatest 20 = .ok (.aload_n 0, 1) := by decide +kernel
theorem dX0_takeLatest_21 : decode cX0_takeLatest 21 = .ok (.getfield 18, 3) := by decide +kernel
theorem dX0_takeLatest_24 : decode cX0_takeLatest 24 = .ok (.invokevirtual 22, 3) := by decide +kernel
theorem dX0_takeLatest_27 : decode cX0_takeLatest 27 = .ok (.areturn, 1) := by decide +kernel
theorem dX0_rowAt_0 : decode cX0_rowAt 0 = .ok (.aload_n 0, 1) := by decide +kernel
theorem dX0_rowAt_1 : decode cX0_rowAt 1 = .ok (.getfield 30, 3) := by decide +kernel
theorem dX0_rowAt_4 : decode cX0_rowAt 4 = .ok (.iload_n 1, 1) := by decide +kernel
theorem dX0_rowAt_5 : decode cX0_rowAt 5 = .ok (.iadd, 1) := by decide +kernel
theorem dX0_rowAt_6 : decode cX0_rowAt 6 = .ok (.bipush 7, 2) := by decide +kernel
theorem dX0_rowAt_8 : decode cX0_rowAt 8 = .ok (.irem, 1) := by decide +kernel
theorem dX0_rowAt_9 : decode cX0_rowAt 9 = .ok (.istore_n 2, 1) := by decide +kernel
theorem dX0_rowAt_10 : decode cX0_rowAt 10 = .ok (.iload_n 2, 1) := by decide +kernel
theorem dX0_rowAt_11 : decode cX0_rowAt 11 = .ok (.ifCond .lt 18, 3) := by decide +kernel
theorem dX0_rowAt_14 : decode cX0_rowAt 14 = .ok (.iload_n 2, 1) := by decide +kernel
theorem dX0_rowAt_15 : decode cX0_rowAt 15 = .ok (.bipush 7, 2) := by decide +kernel
theorem dX0_rowAt_17 : decode cX0_rowAt 17 = .ok (.if_icmp .ge 12, 3) := by decide +kernel
theorem dX0_rowAt_20 : decode cX0_rowAt 20 = .ok (.aload_n 0, 1) := by decide +kernel
theorem dX0_rowAt_21 : decode cX0_rowAt 21 = .ok (.getfield 13, 3) := by decide +kernel
theorem dX0_rowAt_24 : decode cX0_rowAt 24 = .ok (.iload_n 2, 1) := by decide +kernel
theorem dX0_rowAt_25 : decode cX0_rowAt 25 = .ok (.aaload, 1) := by decide +kernel
theorem dX0_rowAt_26 : decode cX0_rowAt 26 = .ok (.goto 4, 3) := by decide +kernel
theorem dX0_rowAt_29 : decode cX0_rowAt 29 = .ok (.aconst_null, 1) := by decide +kernel
theorem dX0_rowAt_30 : decode cX0_rowAt 30 = .ok (.areturn, 1) := by decide +kernel
theorem dX1_init_0 : decode cX1_init 0 = .ok (.aload_n 0, 1) := by decide +kernel
theorem dX1_init_1 : decode cX1_init 1 = .ok (.invokespecial 3, 3) := by decide +kernel
theorem dX1_init_4 : decode cX1_init 4 = .ok (.aload_n 0, 1) := by decide +kernel
theorem dX1_init_5 : decode cX1_init 5 = .ok (.bipush 120, 2) := by decide +kernel
theorem dX1_init_7 : decode cX1_init 7 = .ok (.newarray .int, 2) := by decide +kernel
theorem dX1_init_9 : decode cX1_init 9 = .ok (.putfield 9, 3) := by decide +kernel
theorem dX1_init_12 : decode cX1_init 12 = .ok (.aload_n 0, 1) := by decide +kernel
theorem dX1_init_13 : decode cX1_init 13 = .ok (.bipush 120, 2) := by decide +kernel
theorem dX1_init_15 : decode cX1_init 15 = .ok (.newarray .int, 2) := by decide +kernel
theorem dX1_init_17 : decode cX1_init 17 = .ok (.putfield 15, 3) := by decide +kernel
theorem dX1_init_20 : decode cX1_init 20 = .ok (.aload_n 0, 1) := by decide +kernel
theorem dX1_init_21 : decode cX1_init 21 = .ok (.bipush 60, 2) := by decide +kernel
theorem dX1_init_23 : decode cX1_init 23 = .ok (.newarray .int, 2) := by decide +kernel
theorem dX1_init_25 : decode cX1_init 25 = .ok (.putfield 18, 3) := by decide +kernel
theorem dX1_init_28 : decode cX1_init 28 = .ok (.aload_n 0, 1) := by decide +kernel
theorem dX1_init_29 : decode cX1_init 29 = .ok (.bipush 60, 2) := by decide +kernel
theorem dX1_init_31 : decode cX1_init 31 = .ok (.newarray .int, 2) := by decide +kernel
theorem dX1_init_33 : decode cX1_init 33 = .ok (.putfield 21, 3) := by decide +kernel
theorem dX1_init_36 : decode cX1_init 36 = .ok (.aload_n 0, 1) := by decide +kernel
theorem dX1_init_37 : decode cX1_init 37 = .ok (.bipush 60, 2) := by decide +kernel
theorem dX1_init_39 : decode cX1_init 39 = .ok (.newarray .int, 2) := by decide +kernel
theorem dX1_init_41 : decode cX1_init 41 = .ok (.putfield 24, 3) := by decide +kernel
theorem dX1_init_44 : decode cX1_init 44 = .ok (.aload_n 0, 1) := by decide +kernel
theorem dX1_init_45 : decode cX1_init 45 = .ok (.new 27, 3) := by decide +kernel
theorem dX1_init_48 : decode cX1_init 48 = .ok (.dup, 1) := by decide +kernel
theorem dX1_init_49 : decode cX1_init 49 = .ok (.invokespecial 29, 3) := by decide +kernel
theorem dX1_init_52 : decode cX1_init 52 = .ok (.putfield 30, 3) := by decide +kernel
theorem dX1_init_55 : decode cX1_init 55 = .ok (.return_, 1) := by decide +kernel
theorem dX1_workOut_0 : decode cX1_workOut 0 = .ok (.aload_n 0, 1) := by decide +kernel
theorem dX1_workOut_1 : decode cX1_workOut 1 = .ok (.aload_n 1, 1) := by decide +kernel
theorem dX1_workOut_2 : decode cX1_workOut 2 = .ok (.invokevirtual 34, 3) := by decide +kernel
theorem dX1_workOut_5 : decode cX1_workOut 5 = .ok (.aload_n 0, 1) := by decide +kernel
theorem dX1_workOut_6 : decode cX1_workOut 6 = .ok (.aload_n 1, 1) := by decide +kernel
theorem dX1_workOut_7 : decode cX1_workOut 7 = .ok (.getfield 38, 3) := by decide +kernel
theorem dX1_workOut_10 : decode cX1_workOut 10 = .ok (.invokevirtual 44, 3) := by decide +kernel
theorem dX1_workOut_13 : decode cX1_workOut 13 = .ok (.aload_n 0, 1) := by decide +kernel
theorem dX1_workOut_14 : decode cX1_workOut 14 = .ok (.aload_n 1, 1) := by decide +kernel
theorem dX1_workOut_15 : decode cX1_workOut 15 = .ok (.invokevirtual 48, 3) := by decide +kernel
theorem dX1_workOut_18 : decode cX1_workOut 18 = .ok (.return_, 1) := by decide +kernel
theorem dX1_hasPlace_0 : decode cX1_hasPlace 0 = .ok (.iload_n 1, 1) := by decide +kernel
theorem dX1_hasPlace_1 : decode cX1_hasPlace 1 = .ok (.ifCond .lt 15, 3) := by decide +kernel
theorem dX1_hasPlace_4 : decode cX1_hasPlace 4 = .ok (.iload_n 1, 1) := by decide +kernel
theorem dX1_hasPlace_5 : decode cX1_hasPlace 5 = .ok (.aload_n 0, 1) := by decide +kernel
theorem dX1_hasPlace_6 : decode cX1_hasPlace 6 = .ok (.getfield 51, 3) := by decide +kernel
theorem dX1_hasPlace_9 : decode cX1_hasPlace 9 = .ok (.if_icmp .ge 7, 3) := by decide +kernel
theorem dX1_hasPlace_12 : decode cX1_hasPlace 12 = .ok (.iconst 1, 1) := by decide +kernel
theorem dX1_hasPlace_13 : decode cX1_hasPlace 13 = .ok (.goto 4, 3) := by decide +kernel
theorem dX1_hasPlace_16 : decode cX1_hasPlace 16 = .ok (.iconst 0, 1) := by decide +kernel
theorem dX1_hasPlace_17 : decode cX1_hasPlace 17 = .ok (.ireturn, 1) := by decide +kernel
theorem dX1_endIfAllAt_0 : decode cX1_endIfAllAt 0 = .ok (.iconst 0, 1) := by decide +kernel
theorem dX1_endIfAllAt_1 : decode cX1_endIfAllAt 1 = .ok (.istore_n 3, 1) := by decide +kernel
theorem dX1_endIfAllAt_2 : decode cX1_endIfAllAt 2 = .ok (.iconst 0, 1) := by decide +kernel
theorem dX1_endIfAllAt_3 : decode cX1_endIfAllAt 3 = .ok (.istore 4, 2) := by decide +kernel
theorem dX1_endIfAllAt_5 : decode cX1_endIfAllAt 5 = .ok (.iload 4, 2) := by decide +kernel
theorem dX1_endIfAllAt_7 : decode cX1_endIfAllAt 7 = .ok (.aload_n 1, 1) := by decide +kernel
theorem dX1_endIfAllAt_8 : decode cX1_endIfAllAt 8 = .ok (.getfield 55, 3) := by decide +kernel
theorem dX1_endIfAllAt_11 : decode cX1_endIfAllAt 11 = .ok (.if_icmp .ge 31, 3) := by decide +kernel
theorem dX1_endIfAllAt_14 : decode cX1_endIfAllAt 14 = .ok (.iload_n 3, 1) := by decide +kernel
theorem dX1_endIfAllAt_15 : decode cX1_endIfAllAt 15 = .ok (.aload_n 0, 1) := by decide +kernel
theorem dX1_endIfAllAt_16 : decode cX1_endIfAllAt 16 = .ok (.getfield 18, 3) := by decide +kernel
theorem dX1_endIfAllAt_19 : decode cX1_endIfAllAt 19 = .ok (.iload 4, 2) := by decide +kernel
theorem dX1_endIfAllAt_21 : decode cX1_endIfAllAt 21 = .ok (.iaload, 1) := by decide +kernel
theorem dX1_endIfAllAt_22 : decode cX1_endIfAllAt 22 = .ok (.aload_n 1, 1) := by decide +kernel
theorem dX1_endIfAllAt_23 : decode cX1_endIfAllAt 23 = .ok (.getfield 58, 3) := by decide +kernel
theorem dX1_endIfAllAt_26 : decode cX1_endIfAllAt 26 = .ok (.iload 4, 2) := by decide +kernel
theorem dX1_endIfAllAt_28 : decode cX1_endIfAllAt 28 = .ok (.iaload, 1) := by decide +kernel
theorem dX1_endIfAllAt_29 : decode cX1_endIfAllAt 29 = .ok (.iload_n 2, 1) := by decide +kernel
theorem dX1_endIfAllAt_30 : decode cX1_endIfAllAt 30 = .ok (.invokestatic 61, 3) := by decide +kernel
theorem dX1_endIfAllAt_33 : decode cX1_endIfAllAt 33 = .ok (.imul, 1) := by decide +kernel
theorem dX1_endIfAllAt_34 : decode cX1_endIfAllAt 34 = .ok (.iadd, 1) := by decide +kernel
theorem dX1_endIfAllAt_35 : decode cX1_endIfAllAt 35 = .ok (.istore_n 3, 1) := by decide +kernel
theorem dX1_endIfAllAt_36 : decode cX1_endIfAllAt 36 = .ok (.iinc 4 1, 3) := by decide +kernel
theorem dX1_endIfAllAt_39 : decode cX1_endIfAllAt 39 = .ok (.goto (-34), 3) := by decide +kernel
theorem dX1_endIfAllAt_42 : decode cX1_endIfAllAt 42 = .ok (.iload_n 3, 1) := by decide +kernel
theorem dX1_endIfAllAt_43 : decode cX1_endIfAllAt 43 = .ok (.ireturn, 1) := by decide +kernel
theorem dX1_singAll_0 : decode cX1_singAll 0 = .ok (.aload_n 0, 1) := by decide +kernel
theorem dX1_singAll_1 : decode cX1_singAll 1 = .ok (.iconst 0, 1) := by decide +kernel
theorem dX1_singAll_2 : decode cX1_singAll 2 = .ok (.putfield 51, 3) := by decide +kernel
theorem dX1_singAll_5 : decode cX1_singAll 5 = .ok (.aload_n 0, 1) := by decide +kernel
theorem dX1_singAll_6 : decode cX1_singAll 6 = .ok (.iconst 0, 1) := by decide +kernel
theorem dX1_singAll_7 : decode cX1_singAll 7 = .ok (.putfield 65, 3) := by decide +kernel
theorem dX1_singAll_10 : decode cX1_singAll 10 = .ok (.iconst 0, 1) := by decide +kernel
theorem dX1_singAll_11 : decode cX1_singAll 11 = .ok (.istore_n 2, 1) := by decide +kernel
theorem dX1_singAll_12 : decode cX1_singAll 12 = .ok (.iload_n 2, 1) := by decide +kernel
theorem dX1_singAll_13 : decode cX1_singAll 13 = .ok (.bipush 60, 2) := by decide +kernel
theorem dX1_singAll_15 : decode cX1_singAll 15 = .ok (.if_icmp .ge 32, 3) := by decide +kernel
theorem dX1_singAll_18 : decode cX1_singAll 18 = .ok (.aload_n 0, 1) := by decide +kernel
theorem dX1_singAll_19 : decode cX1_singAll 19 = .ok (.getfield 18, 3) := by decide +kernel
theorem dX1_singAll_22 : decode cX1_singAll 22 = .ok (.iload_n 2, 1) := by decide +kernel
theorem dX1_singAll_23 : decode cX1_singAll 23 = .ok (.iconst 0, 1) := by decide +kernel
theorem dX1_singAll_24 : decode cX1_singAll 24 = .ok (.iastore, 1) := by decide +kernel
theorem dX1_singAll_25 : decode cX1_singAll 25 = .ok (.aload_n 0, 1) := by decide +kernel
theorem dX1_singAll_26 : decode cX1_singAll 26 = .ok (.getfield 21, 3) := by decide +kernel
theorem dX1_singAll_29 : decode cX1_singAll 29 = .ok (.iload_n 2, 1) := by decide +kernel
theorem dX1_singAll_30 : decode cX1_singAll 30 = .ok (.bipush (-6), 2) := by decide +kernel
theorem dX1_singAll_32 : decode cX1_singAll 32 = .ok (.iastore, 1) := by decide +kernel
theorem dX1_singAll_33 : decode cX1_singAll 33 = .ok (.aload_n 0, 1) := by decide +kernel
theorem dX1_singAll_34 : decode cX1_singAll 34 = .ok (.getfield 24, 3) := by decide +kernel
theorem dX1_singAll_37 : decode cX1_singAll 37 = .ok (.iload_n 2, 1) := by decide +kernel
theorem dX1_singAll_38 : decode cX1_singAll 38 = .ok (.bipush (-6), 2) := by decide +kernel
theorem dX1_singAll_40 : decode cX1_singAll 40 = .ok (.iastore, 1) := by decide +kernel
theorem dX1_singAll_41 : decode cX1_singAll 41 = .ok (.iinc 2 1, 3) := by decide +kernel
theorem dX1_singAll_44 : decode cX1_singAll 44 = .ok (.goto (-32), 3) := by decide +kernel
theorem dX1_singAll_47 : decode cX1_singAll 47 = .ok (.iconst 0, 1) := by decide +kernel
theorem dX1_singAll_48 : decode cX1_singAll 48 = .ok (.istore_n 2, 1) := by decide +kernel
theorem dX1_singAll_49 : decode cX1_singAll 49 = .ok (.iload_n 2, 1) := by decide +kernel
theorem dX1_singAll_50 : decode cX1_singAll 50 = .ok (.aload_n 1, 1) := by decide +kernel
theorem dX1_singAll_51 : decode cX1_singAll 51 = .ok (.getfield 55, 3) := by decide +kernel
theorem dX1_singAll_54 : decode cX1_singAll 54 = .ok (.if_icmp .ge 41, 3) := by decide +kernel
theorem dX1_singAll_57 : decode cX1_singAll 57 = .ok (.aload_n 0, 1) := by decide +kernel
theorem dX1_singAll_58 : decode cX1_singAll 58 = .ok (.aload_n 1, 1) := by decide +kernel
theorem dX1_singAll_59 : decode cX1_singAll 59 = .ok (.iload_n 2, 1) := by decide +kernel
theorem dX1_singAll_60 : decode cX1_singAll 60 = .ok (.invokevirtual 68, 3) := by decide +kernel
theorem dX1_singAll_63 : decode cX1_singAll 63 = .ok (.aload_n 1, 1) := by decide +kernel
theorem dX1_singAll_64 : decode cX1_singAll 64 = .ok (.getfield 72, 3) := by decide +kernel
theorem dX1_singAll_67 : decode cX1_singAll 67 = .ok (.iload_n 2, 1) := by decide +kernel
theorem dX1_singAll_68 : decode cX1_singAll 68 = .ok (.invokevirtual 76, 3) := by decide +kernel
theorem dX1_singAll_71 : decode cX1_singAll 71 = .ok (.istore_n 3, 1) := by decide +kernel
theorem dX1_singAll_72 : decode cX1_singAll 72 = .ok (.iload_n 3, 1) := by decide +kernel
theorem dX1_singAll_73 : decode cX1_singAll 73 = .ok (.iload_n 2, 1) := by decide +kernel
theorem dX1_singAll_74 : decode cX1_singAll 74 = .ok (.if_icmp .gt 15, 3) := by decide +kernel
theorem dX1_singAll_77 : decode cX1_singAll 77 = .ok (.aload_n 0, 1) := by decide +kernel
theorem dX1_singAll_78 : decode cX1_singAll 78 = .ok (.aload_n 1, 1) := by decide +kernel
theorem dX1_singAll_79 : decode cX1_singAll 79 = .ok (.iload_n 3, 1) := by decide +kernel
theorem dX1_singAll_80 : decode cX1_singAll 80 = .ok (.invokevirtual 68, 3) := by decide +kernel
theorem dX1_singAll_83 : decode cX1_singAll 83 = .ok (.iinc 3 1, 3) := by decide +kernel
theorem dX1_singAll_86 : decode cX1_singAll 86 = .ok (.goto (-14), 3) := by decide +kernel
theorem dX1_singAll_89 : decode cX1_singAll 89 = .ok (.iinc 2 1, 3) := by decide +kernel
theorem dX1_singAll_92 : decode cX1_singAll 92 = .ok (.goto (-43), 3) := by decide +kernel
theorem dX1_singAll_95 : decode cX1_singAll 95 = .ok (.return_, 1) := by decide +kernel
theorem dX1_singBar_0 : decode cX1_singBar 0 = .ok (.aload_n 1, 1) := by decide +kernel
theorem dX1_singBar_1 : decode cX1_singBar 1 = .ok (.iload_n 2, 1) := by decide +kernel
theorem dX1_singBar_2 : decode cX1_singBar 2 = .ok (.invokevirtual 82, 3) := by decide +kernel
theorem dX1_singBar_5 : decode cX1_singBar 5 = .ok (.ifCond .eq 23, 3) := by decide +kernel
theorem dX1_singBar_8 : decode cX1_singBar 8 = .ok (.aload_n 0, 1) := by decide +kernel
theorem dX1_singBar_9 : decode cX1_singBar 9 = .ok (.getfield 51, 3) := by decide +kernel
theorem dX1_singBar_12 : decode cX1_singBar 12 = .ok (.bipush 120, 2) := by decide +kernel
theorem dX1_singBar_14 : decode cX1_singBar 14 = .ok (.if_icmp .ge 14, 3) := by decide +kernel
theorem dX1_singBar_17 : decode cX1_singBar 17 = .ok (.aload_n 1, 1) := by decide +kernel
theorem dX1_singBar_18 : decode cX1_singBar 18 = .ok (.getfield 86, 3) := by decide +kernel
theorem dX1_singBar_21 : decode cX1_singBar 21 = .ok (.iload_n 2, 1) := by decide +kernel
theorem dX1_singBar_22 : decode cX1_singBar 22 = .ok (.invokevirtual 89, 3) := by decide +kernel
theorem dX1_singBar_25 : decode cX1_singBar 25 = .ok (.ifCond .eq 4, 3) := by decide +kernel
theorem dX1_singBar_28 : decode cX1_singBar 28 = .ok (.return_, 1) := by decide +kernel
theorem dX1_singBar_29 : decode cX1_singBar 29 = .ok (.aload_n 0, 1) := by decide +kernel
theorem dX1_singBar_30 : decode cX1_singBar 30 = .ok (.getfield 18, 3) := by decide +kernel
theorem dX1_singBar_33 : decode cX1_singBar 33 = .ok (.iload_n 2, 1) := by decide +kernel
theorem dX1_singBar_34 : decode cX1_singBar 34 = .ok (.iaload, 1) := by decide +kernel
theorem dX1_singBar_35 : decode cX1_singBar 35 = .ok (.ifCond .ne 13, 3) := by decide +kernel
theorem dX1_singBar_38 : decode cX1_singBar 38 = .ok (.aload_n 0, 1) := by decide +kernel
theorem dX1_singBar_39 : decode cX1_singBar 39 = .ok (.getfield 21, 3) := by decide +kernel
theorem dX1_singBar_42 : decode cX1_singBar 42 = .ok (.iload_n 2, 1) := by decide +kernel
theorem dX1_singBar_43 : decode cX1_singBar 43 = .ok (.aload_n 0, 1) := by decide +kernel
theorem dX1_singBar_44 : decode cX1_singBar 44 = .ok (.getfield 51, 3) := by decide +kernel
theorem dX1_singBar_47 : decode cX1_singBar 47 = .ok (.iastore, 1) := by decide +kernel
theorem dX1_singBar_48 : decode cX1_singBar 48 = .ok (.aload_n 0, 1) := by decide +kernel
theorem dX1_singBar_49 : decode cX1_singBar 49 = .ok (.getfield 18, 3) := by decide +kernel
theorem dX1_singBar_52 : decode cX1_singBar 52 = .ok (.iload_n 2, 1) := by decide +kernel
theorem dX1_singBar_53 : decode cX1_singBar 53 = .ok (.dup2, 1) := by decide +kernel
theorem dX1_singBar_54 : decode cX1_singBar 54 = .ok (.iaload, 1) := by decide +kernel
theorem dX1_singBar_55 : decode cX1_singBar 55 = .ok (.iconst 1, 1) := by decide +kernel
theorem dX1_singBar_56 : decode cX1_singBar 56 = .ok (.iadd, 1) := by decide +kernel
theorem dX1_singBar_57 : decode cX1_singBar 57 = .ok (.iastore, 1) := by decide +kernel
theorem dX1_singBar_58 : decode cX1_singBar 58 = .ok (.aload_n 0, 1) := by decide +kernel
theorem dX1_singBar_59 : decode cX1_singBar 59 = .ok (.getfield 24, 3) := by decide +kernel
theorem dX1_singBar_62 : decode cX1_singBar 62 = .ok (.iload_n 2, 1) := by decide +kernel
theorem dX1_singBar_63 : decode cX1_singBar 63 = .ok (.aload_n 0, 1) := by decide +kernel
theorem dX1_singBar_64 : decode cX1_singBar 64 = .ok (.getfield 51, 3) := by decide +kernel
theorem dX1_singBar_67 : decode cX1_singBar 67 = .ok (.iastore, 1) := by decide +kernel
theorem dX1_singBar_68 : decode cX1_singBar 68 = .ok (.aload_n 0, 1) := by decide +kernel
theorem dX1_singBar_69 : decode cX1_singBar 69 = .ok (.getfield 9, 3) := by decide +kernel
theorem dX1_singBar_72 : decode cX1_singBar 72 = .ok (.aload_n 0, 1) := by decide +kernel
theorem dX1_singBar_73 : decode cX1_singBar 73 = .ok (.getfield 51, 3) := by decide +kernel
theorem dX1_singBar_76 : decode cX1_singBar 76 = .ok (.iload_n 2, 1) := by decide +kernel
theorem dX1_singBar_77 : decode cX1_singBar 77 = .ok (.iastore, 1) := by decide +kernel
theorem dX1_singBar_78 : decode cX1_singBar 78 = .ok (.aload_n 0, 1) := by decide +kernel
theorem dX1_singBar_79 : decode cX1_singBar 79 = .ok (.getfield 15, 3) := by decide +kernel
theorem dX1_singBar_82 : decode cX1_singBar 82 = .ok (.aload_n 0, 1) := by decide +kernel
theorem dX1_singBar_83 : decode cX1_singBar 83 = .ok (.getfield 51, 3) := by decide +kernel
theorem dX1_singBar_86 : decode cX1_singBar 86 = .ok (.aload_n 0, 1) := by decide +kernel
theorem dX1_singBar_87 : decode cX1_singBar 87 = .ok (.getfield 65, 3) := by decide +kernel
theorem dX1_singBar_90 : decode cX1_singBar 90 = .ok (.iastore, 1) := by decide +kernel
theorem dX1_singBar_91 : decode cX1_singBar 91 = .ok (.aload_n 0, 1) := by decide +kernel
theorem dX1_singBar_92 : decode cX1_singBar 92 = .ok (.dup, 1) := by decide +kernel
theorem dX1_singBar_93 : decode cX1_singBar 93 = .ok (.getfield 51, 3) := by decide +kernel
theorem dX1_singBar_96 : decode cX1_singBar 96 = .ok (.iconst 1, 1) := by decide +kernel
theorem dX1_singBar_97 : decode cX1_singBar 97 = .ok (.iadd, 1) := by decide +kernel
theorem dX1_singBar_98 : decode cX1_singBar 98 = .ok (.putfield 51, 3) := by decide +kernel
theorem dX1_singBar_101 : decode cX1_singBar 101 = .ok (.aload_n 0, 1) := by decide +kernel
theorem dX1_singBar_102 : decode cX1_singBar 102 = .ok (.dup, 1) := by decide +kernel
theorem dX1_singBar_103 : decode cX1_singBar 103 = .ok (.getfield 65, 3) := by decide +kernel
theorem dX1_singBar_106 : decode cX1_singBar 106 = .ok (.aload_n 1, 1) := by decide +kernel
theorem dX1_singBar_107 : decode cX1_singBar 107 = .ok (.iload_n 2, 1) := by decide +kernel
theorem dX1_singBar_108 : decode cX1_singBar 108 = .ok (.invokevirtual 92, 3) := by decide +kernel
theorem dX1_singBar_111 : decode cX1_singBar 111 = .ok (.iadd, 1) := by decide +kernel
theorem dX1_singBar_112 : decode cX1_singBar 112 = .ok (.putfield 65, 3) := by decide +kernel
theorem dX1_singBar_115 : decode cX1_singBar 115 = .ok (.return_, 1) := by decide +kernel
theorem dX1_gatherShowings_0 : decode cX1_gatherShowings 0 = .ok (.aload_n 0, 1) := by decide +kernel
theorem dX1_gatherShowings_1 : decode cX1_gatherShowings 1 = .ok (.getfield 30, 3) := by decide +kernel
theorem dX1_gatherShowings_4 : decode cX1_gatherShowings 4 = .ok (.iconst 0, 1) := by decide +kernel
theorem dX1_gatherShowings_5 : decode cX1_gatherShowings 5 = .ok (.putfield 95, 3) := by decide +kernel
theorem dX1_gatherShowings_8 : decode cX1_gatherShowings 8 = .ok (.iconst 0, 1) := by decide +kernel
theorem dX1_gatherShowings_9 : decode cX1_gatherShowings 9 = .ok (.istore_n 2, 1) := by decide +kernel
theorem dX1_gatherShowings_10 : decode cX1_gatherShowings 10 = .ok (.iload_n 2, 1) := by decide +kernel
theorem dX1_gatherShowings_11 : decode cX1_gatherShowings 11 = .ok (.aload_n 0, 1) := by decide +kernel
theorem dX1_gatherShowings_12 : decode cX1_gatherShowings 12 = .ok (.getfield 51, 3) := by decide +kernel
theorem dX1_gatherShowings_15 : decode cX1_gatherShowings 15 = .ok (.if_icmp .ge 90, 3) := by decide +kernel
theorem dX1_gatherShowings_18 : decode cX1_gatherShowings 18 = .ok (.iconst 0, 1) := by decide +kernel
theorem dX1_gatherShowings_19 : decode cX1_gatherShowings 19 = .ok (.istore_n 3, 1) := by decide +kernel
theorem dX1_gatherShowings_20 : decode cX1_gatherShowings 20 = .ok (.iload_n 3, 1) := by decide +kernel
theorem dX1_gatherShowings_21 : decode cX1_gatherShowings 21 = .ok (.aload_n 1, 1) := by decide +kernel
theorem dX1_gatherShowings_22 : decode cX1_gatherShowings 22 = .ok (.getfield 98, 3) := by decide +kernel
theorem dX1_gatherShowings_25 : decode cX1_gatherShowings 25 = .ok (.if_icmp .ge 74, 3) := by decide +kernel
theorem dX1_gatherShowings_28 : decode cX1_gatherShowings 28 = .ok (.aload_n 0, 1) := by decide +kernel
theorem dX1_gatherShowings_29 : decode cX1_gatherShowings 29 = .ok (.aload_n 1, 1) := by decide +kernel
theorem dX1_gatherShowings_30 : decode cX1_gatherShowings 30 = .ok (.getfield 101, 3) := by decide +kernel
theorem dX1_gatherShowings_33 : decode cX1_gatherShowings 33 = .ok (.iload_n 3, 1) := by decide +kernel
theorem dX1_gatherShowings_34 : decode cX1_gatherShowings 34 = .ok (.iaload, 1) := by decide +kernel
theorem dX1_gatherShowings_35 : decode cX1_gatherShowings 35 = .ok (.aload_n 1, 1) := by decide +kernel
theorem dX1_gatherShowings_36 : decode cX1_gatherShowings 36 = .ok (.getfield 104, 3) := by decide +kernel
theorem dX1_gatherShowings_39 : decode cX1_gatherShowings 39 = .ok (.iload_n 3, 1) := by decide +kernel
theorem dX1_gatherShowings_40 : decode cX1_gatherShowings 40 = .ok (.iaload, 1) := by decide +kernel
theorem dX1_gatherShowings_41 : decode cX1_gatherShowings 41 = .ok (.iload_n 2, 1) := by decide +kernel
theorem dX1_gatherShowings_42 : decode cX1_gatherShowings 42 = .ok (.invokevirtual 107, 3) := by decide +kernel
theorem dX1_gatherShowings_45 : decode cX1_gatherShowings 45 = .ok (.ifCond .eq 48, 3) := by decide +kernel
theorem dX1_gatherShowings_48 : decode cX1_gatherShowings 48 = .ok (.iconst 0, 1) := by decide +kernel
theorem dX1_gatherShowings_49 : decode cX1_gatherShowings 49 = .ok (.aload_n 0, 1) := by decide +kernel
theorem dX1_gatherShowings_50 : decode cX1_gatherShowings 50 = .ok (.getfield 15, 3) := by decide +kernel
theorem dX1_gatherShowings_53 : decode cX1_gatherShowings 53 = .ok (.iload_n 2, 1) := by decide +kernel
theorem dX1_gatherShowings_54 : decode cX1_gatherShowings 54 = .ok (.iaload, 1) := by decide +kernel
theorem dX1_gatherShowings_55 : decode cX1_gatherShowings 55 = .ok (.aload_n 1, 1) := by decide +kernel
theorem dX1_gatherShowings_56 : decode cX1_gatherShowings 56 = .ok (.getfield 101, 3) := by decide +kernel
theorem dX1_gatherShowings_59 : decode cX1_gatherShowings 59 = .ok (.iload_n 3, 1) := by decide +kernel
theorem dX1_gatherShowings_60 : decode cX1_gatherShowings 60 = .ok (.iaload, 1) := by decide +kernel
theorem dX1_gatherShowings_61 : decode cX1_gatherShowings 61 = .ok (.invokestatic 111, 3) := by decide +kernel
theorem dX1_gatherShowings_64 : decode cX1_gatherShowings 64 = .ok (.isub, 1) := by decide +kernel
theorem dX1_gatherShowings_65 : decode cX1_gatherShowings 65 = .ok (.invokestatic 114, 3) := by decide +kernel
theorem dX1_gatherShowings_68 : decode cX1_gatherShowings 68 = .ok (.istore 4, 2) := by decide +kernel
theorem dX1_gatherShowings_70 : decode cX1_gatherShowings 70 = .ok (.aload_n 0, 1) := by decide +kernel
theorem dX1_gatherShowings_71 : decode cX1_gatherShowings 71 = .ok (.getfield 30, 3) := by decide +kernel
theorem dX1_gatherShowings_74 : decode cX1_gatherShowings 74 = .ok (.iload_n 3, 1) := by decide +kernel
theorem dX1_gatherShowings_75 : decode cX1_gatherShowings 75 = .ok (.iload_n 2, 1) := by decide +kernel
theorem dX1_gatherShowings_76 : decode cX1_gatherShowings 76 = .ok (.iload 4, 2) := by decide +kernel
theorem dX1_gatherShowings_78 : decode cX1_gatherShowings 78 = .ok (.aload_n 0, 1) := by decide +kernel
theorem dX1_gatherShowings_79 : decode cX1_gatherShowings 79 = .ok (.iload_n 2, 1) := by decide +kernel
theorem dX1_gatherShowings_80 : decode cX1_gatherShowings 80 = .ok (.aload_n 1, 1) := by decide +kernel
theorem dX1_gatherShowings_81 : decode cX1_gatherShowings 81 = .ok (.getfield 119, 3) := by decide +kernel
theorem dX1_gatherShowings_84 : decode cX1_gatherShowings 84 = .ok (.iload_n 3, 1) := by decide +kernel
theorem dX1_gatherShowings_85 : decode cX1_gatherShowings 85 = .ok (.iaload, 1) := by decide +kernel
theorem dX1_gatherShowings_86 : decode cX1_gatherShowings 86 = .ok (.iadd, 1) := by decide +kernel
theorem dX1_gatherShowings_87 : decode cX1_gatherShowings 87 = .ok (.invokevirtual 122, 3) := by decide +kernel
theorem dX1_gatherShowings_90 : decode cX1_gatherShowings 90 = .ok (.invokevirtual 125, 3) := by decide +kernel
theorem dX1_gatherShowings_93 : decode cX1_gatherShowings 93 = .ok (.iinc 3 1, 3) := by decide +kernel
theorem dX1_gatherShowings_96 : decode cX1_gatherShowings 96 = .ok (.goto (-76), 3) := by decide +kernel
theorem dX1_gatherShowings_99 : decode cX1_gatherShowings 99 = .ok (.iinc 2 1, 3) := by decide +kernel
theorem dX1_gatherShowings_102 : decode cX1_gatherShowings 102 = .ok (.goto (-92), 3) := by decide +kernel
theorem dX1_gatherShowings_105 : decode cX1_gatherShowings 105 = .ok (.return_, 1) := by decide +kernel
theorem dX1_comesWith_0 : decode cX1_comesWith 0 = .ok (.aload_n 0, 1) := by decide +kernel
theorem dX1_comesWith_1 : decode cX1_comesWith 1 = .ok (.getfield 9, 3) := by decide +kernel
theorem dX1_comesWith_4 : decode cX1_comesWith 4 = .ok (.iload_n 3, 1) := by decide +kernel
theorem dX1_comesWith_5 : decode cX1_comesWith 5 = .ok (.iaload, 1) := by decide +kernel
theorem dX1_comesWith_6 : decode cX1_comesWith 6 = .ok (.iload_n 2, 1) := by decide +kernel
theorem dX1_comesWith_7 : decode cX1_comesWith 7 = .ok (.if_icmp .eq 5, 3) := by decide +kernel
theorem dX1_comesWith_10 : decode cX1_comesWith 10 = .ok (.iconst 0, 1) := by decide +kernel
theorem dX1_comesWith_11 : decode cX1_comesWith 11 = .ok (.ireturn, 1) := by decide +kernel
theorem dX1_comesWith_12 : decode cX1_comesWith 12 = .ok (.iload_n 1, 1) := by decide +kernel
theorem dX1_comesWith_13 : decode cX1_comesWith 13 = .ok (.lookupswitch 59 #[(0, 27), (2, 43)], 27) := by decide +kernel
theorem dX1_comesWith_40 : decode cX1_comesWith 40 = .ok (.aload_n 0, 1) := by decide +kernel
theorem dX1_comesWith_41 : decode cX1_comesWith 41 = .ok (.getfield 21, 3) := by decide +kernel
theorem dX1_comesWith_44 : decode cX1_comesWith 44 = .ok (.iload_n 2, 1) := by decide +kernel
theorem dX1_comesWith_45 : decode cX1_comesWith 45 = .ok (.iaload, 1) := by decide +kernel
theorem dX1_comesWith_46 : decode cX1_comesWith 46 = .ok (.iload_n 3, 1) := by decide +kernel
theorem dX1_comesWith_47 : decode cX1_comesWith 47 = .ok (.if_icmp .ne 7, 3) := by decide +kernel
theorem dX1_comesWith_50 : decode cX1_comesWith 50 = .ok (.iconst 1, 1) := by decide +kernel
theorem dX1_comesWith_51 : decode cX1_comesWith 51 = .ok (.goto 4, 3) := by decide +kernel
theorem dX1_comesWith_54 : decode cX1_comesWith 54 = .ok (.iconst 0, 1) := by decide +kernel
theorem dX1_comesWith_55 : decode cX1_comesWith 55 = .ok (.ireturn, 1) := by decide +kernel
theorem dX1_comesWith_56 : decode cX1_comesWith 56 = .ok (.aload_n 0, 1) := by decide +kernel
theorem dX1_comesWith_57 : decode cX1_comesWith 57 = .ok (.getfield 24, 3) := by decide +kernel
theorem dX1_comesWith_60 : decode cX1_comesWith 60 = .ok (.iload_n 2, 1) := by decide +kernel
theorem dX1_comesWith_61 : decode cX1_comesWith 61 = .ok (.iaload, 1) := by decide +kernel
theorem dX1_comesWith_62 : decode cX1_comesWith 62 = .ok (.iload_n 3, 1) := by decide +kernel
theorem dX1_comesWith_63 : decode cX1_comesWith 63 = .ok (.if_icmp .ne 7, 3) := by decide +kernel
theorem dX1_comesWith_66 : decode cX1_comesWith 66 = .ok (.iconst 1, 1) := by decide +kernel
theorem dX1_comesWith_67 : decode cX1_comesWith 67 = .ok (.goto 4, 3) := by decide +kernel
theorem dX1_comesWith_70 : decode cX1_comesWith 70 = .ok (.iconst 0, 1) := by decide +kernel
theorem dX1_comesWith_71 : decode cX1_comesWith 71 = .ok (.ireturn, 1) := by decide +kernel
theorem dX1_comesWith_72 : decode cX1_comesWith 72 = .ok (.iconst 1, 1) := by decide +kernel
theorem dX1_comesWith_73 : decode cX1_comesWith 73 = .ok (.ireturn, 1) := by decide +kernel
theorem dX1_lookAtShowings_0 : decode cX1_lookAtShowings 0 = .ok (.bipush (-6), 2) := by decide +kernel
theorem dX1_lookAtShowings_2 : decode cX1_lookAtShowings 2 = .ok (.istore_n 2, 1) := by decide +kernel
theorem dX1_lookAtShowings_3 : decode cX1_lookAtShowings 3 = .ok (.iconst 0, 1) := by decide +kernel
theorem dX1_lookAtShowings_4 : decode cX1_lookAtShowings 4 = .ok (.istore_n 3, 1) := by decide +kernel
theorem dX1_lookAtShowings_5 : decode cX1_lookAtShowings 5 = .ok (.iload_n 3, 1) := by decide +kernel
theorem dX1_lookAtShowings_6 : decode cX1_lookAtShowings 6 = .ok (.aload_n 0, 1) := by decide +kernel
theorem dX1_lookAtShowings_7 : decode cX1_lookAtShowings 7 = .ok (.getfield 30, 3) := by decide +kernel
theorem dX1_lookAtShowings_10 : decode cX1_lookAtShowings 10 = .ok (.getfield 95, 3) := by decide +kernel
theorem dX1_lookAtShowings_13 : decode cX1_lookAtShowings 13 = .ok (.if_icmp .ge 98, 3) := by decide +kernel
theorem dX1_lookAtShowings_16 : decode cX1_lookAtShowings 16 = .ok (.aload_n 0, 1) := by decide +kernel
theorem dX1_lookAtShowings_17 : decode cX1_lookAtShowings 17 = .ok (.aload_n 1, 1) := by decide +kernel
theorem dX1_lookAtShowings_18 : decode cX1_lookAtShowings 18 = .ok (.getfield 129, 3) := by decide +kernel
theorem dX1_lookAtShowings_21 : decode cX1_lookAtShowings 21 = .ok (.aload_n 0, 1) := by decide +kernel
theorem dX1_lookAtShowings_22 : decode cX1_lookAtShowings 22 = .ok (.getfield 30, 3) := by decide +kernel
theorem dX1_lookAtShowings_25 : decode cX1_lookAtShowings 25 = .ok (.getfield 132, 3) := by decide +kernel
theorem dX1_lookAtShowings_28 : decode cX1_lookAtShowings 28 = .ok (.iload_n 3, 1) := by decide +kernel
theorem dX1_lookAtShowings_29 : decode cX1_lookAtShowings 29 = .ok (.iaload, 1) := by decide +kernel
theorem dX1_lookAtShowings_30 : decode cX1_lookAtShowings 30 = .ok (.invokevirtual 135, 3) := by decide +kernel
theorem dX1_lookAtShowings_33 : decode cX1_lookAtShowings 33 = .ok (.ifCond .eq 16, 3) := by decide +kernel
theorem dX1_lookAtShowings_36 : decode cX1_lookAtShowings 36 = .ok (.aload_n 0, 1) := by decide +kernel
theorem dX1_lookAtShowings_37 : decode cX1_lookAtShowings 37 = .ok (.getfield 30, 3) := by decide +kernel
theorem dX1_lookAtShowings_40 : decode cX1_lookAtShowings 40 = .ok (.getfield 139, 3) := by decide +kernel
theorem dX1_lookAtShowings_43 : decode cX1_lookAtShowings 43 = .ok (.iload_n 3, 1) := by decide +kernel
theorem dX1_lookAtShowings_44 : decode cX1_lookAtShowings 44 = .ok (.iconst 1, 1) := by decide +kernel
theorem dX1_lookAtShowings_45 : decode cX1_lookAtShowings 45 = .ok (.iastore, 1) := by decide +kernel
theorem dX1_lookAtShowings_46 : decode cX1_lookAtShowings 46 = .ok (.goto 46, 3) := by decide +kernel
theorem dX1_lookAtShowings_49 : decode cX1_lookAtShowings 49 = .ok (.aload_n 1, 1) := by decide +kernel
theorem dX1_lookAtShowings_50 : decode cX1_lookAtShowings 50 = .ok (.getfield 38, 3) := by decide +kernel
theorem dX1_lookAtShowings_53 : decode cX1_lookAtShowings 53 = .ok (.getfield 101, 3) := by decide +kernel
theorem dX1_lookAtShowings_56 : decode cX1_lookAtShowings 56 = .ok (.aload_n 0, 1) := by decide +kernel
theorem dX1_lookAtShowings_57 : decode cX1_lookAtShowings 57 = .ok (.getfield 30, 3) := by decide +kernel
theorem dX1_lookAtShowings_60 : decode cX1_lookAtShowings 60 = .ok (.getfield 142, 3) := by decide +kernel
theorem dX1_lookAtShowings_63 : decode cX1_lookAtShowings 63 = .ok (.iload_n 3, 1) := by decide +kernel
theorem dX1_lookAtShowings_64 : decode cX1_lookAtShowings 64 = .ok (.iaload, 1) := by decide +kernel
theorem dX1_lookAtShowings_65 : decode cX1_lookAtShowings 65 = .ok (.iaload, 1) := by decide +kernel
theorem dX1_lookAtShowings_66 : decode cX1_lookAtShowings 66 = .ok (.iconst 1, 1) := by decide +kernel
theorem dX1_lookAtShowings_67 : decode cX1_lookAtShowings 67 = .ok (.if_icmp .eq 7, 3) := by decide +kernel
theorem dX1_lookAtShowings_70 : decode cX1_lookAtShowings 70 = .ok (.iconst 1, 1) := by decide +kernel
theorem dX1_lookAtShowings_71 : decode cX1_lookAtShowings 71 = .ok (.goto 4, 3) := by decide +kernel
theorem dX1_lookAtShowings_74 : decode cX1_lookAtShowings 74 = .ok (.iconst 0, 1) := by decide +kernel
theorem dX1_lookAtShowings_75 : decode cX1_lookAtShowings 75 = .ok (.istore 4, 2) := by decide +kernel
theorem dX1_lookAtShowings_77 : decode cX1_lookAtShowings 77 = .ok (.aload_n 0, 1) := by decide +kernel
theorem dX1_lookAtShowings_78 : decode cX1_lookAtShowings 78 = .ok (.getfield 30, 3) := by decide +kernel
theorem dX1_lookAtShowings_81 : decode cX1_lookAtShowings 81 = .ok (.iload_n 3, 1) := by decide +kernel
theorem dX1_lookAtShowings_82 : decode cX1_lookAtShowings 82 = .ok (.iload_n 2, 1) := by decide +kernel
theorem dX1_lookAtShowings_83 : decode cX1_lookAtShowings 83 = .ok (.iload 4, 2) := by decide +kernel
theorem dX1_lookAtShowings_85 : decode cX1_lookAtShowings 85 = .ok (.aload_n 1, 1) := by decide +kernel
theorem dX1_lookAtShowings_86 : decode cX1_lookAtShowings 86 = .ok (.getfield 145, 3) := by decide +kernel
theorem dX1_lookAtShowings_89 : decode cX1_lookAtShowings 89 = .ok (.invokevirtual 148, 3) := by decide +kernel
theorem dX1_lookAtShowings_92 : decode cX1_lookAtShowings 92 = .ok (.aload_n 0, 1) := by decide +kernel
theorem dX1_lookAtShowings_93 : decode cX1_lookAtShowings 93 = .ok (.getfield 30, 3) := by decide +kernel
theorem dX1_lookAtShowings_96 : decode cX1_lookAtShowings 96 = .ok (.iload_n 3, 1) := by decide +kernel
theorem dX1_lookAtShowings_97 : decode cX1_lookAtShowings 97 = .ok (.invokevirtual 152, 3) := by decide +kernel
theorem dX1_lookAtShowings_100 : decode cX1_lookAtShowings 100 = .ok (.ifCond .eq 5, 3) := by decide +kernel
theorem dX1_lookAtShowings_103 : decode cX1_lookAtShowings 103 = .ok (.iload_n 3, 1) := by decide +kernel
theorem dX1_lookAtShowings_104 : decode cX1_lookAtShowings 104 = .ok (.istore_n 2, 1) := by decide +kernel
theorem dX1_lookAtShowings_105 : decode cX1_lookAtShowings 105 = .ok (.iinc 3 1, 3) := by decide +kernel
theorem dX1_lookAtShowings_108 : decode cX1_lookAtShowings 108 = .ok (.goto (-103), 3) := by decide +kernel
theorem dX1_lookAtShowings_111 : decode cX1_lookAtShowings 111 = .ok (.return_, 1) := by decide +kernel
theorem dX1_isBlackAt_0 : decode cX1_isBlackAt 0 = .ok (.iconst 0, 1) := by decide +kernel
theorem dX1_isBlackAt_1 : decode cX1_isBlackAt 1 = .ok (.istore_n 3, 1) := by decide +kernel
theorem dX1_isBlackAt_2 : decode cX1_isBlackAt 2 = .ok (.iload_n 3, 1) := by decide +kernel
theorem dX1_isBlackAt_3 : decode cX1_isBlackAt 3 = .ok (.aload_n 1, 1) := by decide +kernel
theorem dX1_isBlackAt_4 : decode cX1_isBlackAt 4 = .ok (.getfield 155, 3) := by decide +kernel
theorem dX1_isBlackAt_7 : decode cX1_isBlackAt 7 = .ok (.if_icmp .ge 55, 3) := by decide +kernel
theorem dX1_isBlackAt_10 : decode cX1_isBlackAt 10 = .ok (.aload_n 1, 1) := by decide +kernel
theorem dX1_isBlackAt_11 : decode cX1_isBlackAt 11 = .ok (.getfield 156, 3) := by decide +kernel
theorem dX1_isBlackAt_14 : decode cX1_isBlackAt 14 = .ok (.iload_n 3, 1) := by decide +kernel
theorem dX1_isBlackAt_15 : decode cX1_isBlackAt 15 = .ok (.iaload, 1) := by decide +kernel
theorem dX1_isBlackAt_16 : decode cX1_isBlackAt 16 = .ok (.istore 4, 2) := by decide +kernel
theorem dX1_isBlackAt_18 : decode cX1_isBlackAt 18 = .ok (.aload_n 0, 1) := by decide +kernel
theorem dX1_isBlackAt_19 : decode cX1_isBlackAt 19 = .ok (.iload 4, 2) := by decide +kernel
theorem dX1_isBlackAt_21 : decode cX1_isBlackAt 21 = .ok (.invokevirtual 159, 3) := by decide +kernel
theorem dX1_isBlackAt_24 : decode cX1_isBlackAt 24 = .ok (.ifCond .eq 32, 3) := by decide +kernel
theorem dX1_isBlackAt_27 : decode cX1_isBlackAt 27 = .ok (.iload_n 2, 1) := by decide +kernel
theorem dX1_isBlackAt_28 : decode cX1_isBlackAt 28 = .ok (.aload_n 0, 1) := by decide +kernel
theorem dX1_isBlackAt_29 : decode cX1_isBlackAt 29 = .ok (.getfield 15, 3) := by decide +kernel
theorem dX1_isBlackAt_32 : decode cX1_isBlackAt 32 = .ok (.iload 4, 2) := by decide +kernel
theorem dX1_isBlackAt_34 : decode cX1_isBlackAt 34 = .ok (.iaload, 1) := by decide +kernel
theorem dX1_isBlackAt_35 : decode cX1_isBlackAt 35 = .ok (.if_icmp .lt 21, 3) := by decide +kernel
theorem dX1_isBlackAt_38 : decode cX1_isBlackAt 38 = .ok (.iload_n 2, 1) := by decide +kernel
theorem dX1_isBlackAt_39 : decode cX1_isBlackAt 39 = .ok (.aload_n 0, 1) := by decide +kernel
theorem dX1_isBlackAt_40 : decode cX1_isBlackAt 40 = .ok (.aload_n 1, 1) := by decide +kernel
theorem dX1_isBlackAt_41 : decode cX1_isBlackAt 41 = .ok (.getfield 162, 3) := by decide +kernel
theorem dX1_isBlackAt_44 : decode cX1_isBlackAt 44 = .ok (.iload_n 3, 1) := by decide +kernel
theorem dX1_isBlackAt_45 : decode cX1_isBlackAt 45 = .ok (.iaload, 1) := by decide +kernel
theorem dX1_isBlackAt_46 : decode cX1_isBlackAt 46 = .ok (.iconst 1, 1) := by decide +kernel
theorem dX1_isBlackAt_47 : decode cX1_isBlackAt 47 = .ok (.iadd, 1) := by decide +kernel
theorem dX1_isBlackAt_48 : decode cX1_isBlackAt 48 = .ok (.invokevirtual 122, 3) := by decide +kernel
theorem dX1_isBlackAt_51 : decode cX1_isBlackAt 51 = .ok (.if_icmp .ge 5, 3) := by decide +kernel
theorem dX1_isBlackAt_54 : decode cX1_isBlackAt 54 = .ok (.iconst 1, 1) := by decide +kernel
theorem dX1_isBlackAt_55 : decode cX1_isBlackAt 55 = .ok (.ireturn, 1) := by decide +kernel
theorem dX1_isBlackAt_56 : decode cX1_isBlackAt 56 = .ok (.iinc 3 1, 3) := by decide +kernel
theorem dX1_isBlackAt_59 : decode cX1_isBlackAt 59 = .ok (.goto (-57), 3) := by decide +kernel
theorem dX1_isBlackAt_62 : decode cX1_isBlackAt 62 = .ok (.iconst 0, 1) := by decide +kernel
theorem dX1_isBlackAt_63 : decode cX1_isBlackAt 63 = .ok (.ireturn, 1) := by decide +kernel
theorem dX1_beginOrEnd_0 : decode cX1_beginOrEnd 0 = .ok (.aload_n 0, 1) := by decide +kernel
theorem dX1_beginOrEnd_1 : decode cX1_beginOrEnd 1 = .ok (.iload_n 1, 1) := by decide +kernel
theorem dX1_beginOrEnd_2 : decode cX1_beginOrEnd 2 = .ok (.invokevirtual 159, 3) := by decide +kernel
theorem dX1_beginOrEnd_5 : decode cX1_beginOrEnd 5 = .ok (.ifCond .eq 12, 3) := by decide +kernel
theorem dX1_beginOrEnd_8 : decode cX1_beginOrEnd 8 = .ok (.aload_n 0, 1) := by decide +kernel
theorem dX1_beginOrEnd_9 : decode cX1_beginOrEnd 9 = .ok (.getfield 15, 3) := by decide +kernel
theorem dX1_beginOrEnd_12 : decode cX1_beginOrEnd 12 = .ok (.iload_n 1, 1) := by decide +kernel
theorem dX1_beginOrEnd_13 : decode cX1_beginOrEnd 13 = .ok (.iaload, 1) := by decide +kernel
theorem dX1_beginOrEnd_14 : decode cX1_beginOrEnd 14 = .ok (.goto 7, 3) := by decide +kernel
theorem dX1_beginOrEnd_17 : decode cX1_beginOrEnd 17 = .ok (.aload_n 0, 1) := by decide +kernel
theorem dX1_beginOrEnd_18 : decode cX1_beginOrEnd 18 = .ok (.getfield 65, 3) := by decide +kernel
theorem dX1_beginOrEnd_21 : decode cX1_beginOrEnd 21 = .ok (.ireturn, 1) := by decide +kernel
theorem dX2_init_0 : decode cX2_init 0 = .ok (.aload_n 0, 1) := by decide +kernel
theorem dX2_init_1 : decode cX2_init 1 = .ok (.invokespecial 3, 3) := by decide +kernel
theorem dX2_init_4 : decode cX2_init 4 = .ok (.aload_n 0, 1) := by decide +kernel
theorem dX2_init_5 : decode cX2_init 5 = .ok (.bipush 80, 2) := by decide +kernel
theorem dX2_init_7 : decode cX2_init 7 = .ok (.newarray .int, 2) := by decide +kernel
theorem dX2_init_9 : decode cX2_init 9 = .ok (.putfield 9, 3) := by decide +kernel
theorem dX2_init_12 : decode cX2_init 12 = .ok (.return_, 1) := by decide +kernel
theorem dX2_append_0 : decode cX2_append 0 = .ok (.lload_n 1, 1) := by decide +kernel
theorem dX2_append_1 : decode cX2_append 1 = .ok (.invokestatic 15, 3) := by decide +kernel
theorem dX2_append_4 : decode cX2_append 4 = .ok (.istore_n 3, 1) := by decide +kernel
theorem dX2_append_5 : decode cX2_append 5 = .ok (.iload_n 3, 1) := by decide +kernel
theorem dX2_append_6 : decode cX2_append 6 = .ok (.iconst 1, 1) := by decide +kernel
theorem dX2_append_7 : decode cX2_append 7 = .ok (.if_icmp .ge 6, 3) := by decide +kernel
theorem dX2_append_10 : decode cX2_append 10 = .ok (.bipush (-2), 2) := by decide +kernel
theorem dX2_append_12 : decode cX2_append 12 = .ok (.ireturn, 1) := by decide +kernel
theorem dX2_append_13 : decode cX2_append 13 = .ok (.aload_n 0, 1) := by decide +kernel
theorem dX2_append_14 : decode cX2_append 14 = .ok (.getfield 19, 3) := by decide +kernel
theorem dX2_append_17 : decode cX2_append 17 = .ok (.iload_n 3, 1) := by decide +kernel
theorem dX2_append_18 : decode cX2_append 18 = .ok (.iadd, 1) := by decide +kernel
theorem dX2_append_19 : decode cX2_append 19 = .ok (.bipush 80, 2) := by decide +kernel
theorem dX2_append_21 : decode cX2_append 21 = .ok (.if_icmp .le 6, 3) := by decide +kernel
theorem dX2_append_24 : decode cX2_append 24 = .ok (.bipush (-4), 2) := by decide +kernel
theorem dX2_append_26 : decode cX2_append 26 = .ok (.ireturn, 1) := by decide +kernel
theorem dX2_append_27 : decode cX2_append 27 = .ok (.iconst 0, 1) := by decide +kernel
theorem dX2_append_28 : decode cX2_append 28 = .ok (.istore 4, 2) := by decide +kernel
theorem dX2_append_30 : decode cX2_append 30 = .ok (.iload 4, 2) := by decide +kernel
theorem dX2_append_32 : decode cX2_append 32 = .ok (.iload_n 3, 1) := by decide +kernel
theorem dX2_append_33 : decode cX2_append 33 = .ok (.if_icmp .ge 31, 3) := by decide +kernel
theorem dX2_append_36 : decode cX2_append 36 = .ok (.aload_n 0, 1) := by decide +kernel
theorem dX2_append_37 : decode cX2_append 37 = .ok (.getfield 9, 3) := by decide +kernel
theorem dX2_append_40 : decode cX2_append 40 = .ok (.aload_n 0, 1) := by decide +kernel
theorem dX2_append_41 : decode cX2_append 41 = .ok (.getfield 19, 3) := by decide +kernel
theorem dX2_append_44 : decode cX2_append 44 = .ok (.iload_n 3, 1) := by decide +kernel
theorem dX2_append_45 : decode cX2_append 45 = .ok (.iadd, 1) := by decide +kernel
theorem dX2_append_46 : decode cX2_append 46 = .ok (.iconst 1, 1) := by decide +kernel
theorem dX2_append_47 : decode cX2_append 47 = .ok (.isub, 1) := by decide +kernel
theorem dX2_append_48 : decode cX2_append 48 = .ok (.iload 4, 2) := by decide +kernel
theorem dX2_append_50 : decode cX2_append 50 = .ok (.isub, 1) := by decide +kernel
theorem dX2_append_51 : decode cX2_append 51 = .ok (.lload_n 1, 1) := by decide +kernel
theorem dX2_append_52 : decode cX2_append 52 = .ok (.iload 4, 2) := by decide +kernel
theorem dX2_append_54 : decode cX2_append 54 = .ok (.invokestatic 23, 3) := by decide +kernel
theorem dX2_append_57 : decode cX2_append 57 = .ok (.iastore, 1) := by decide +kernel
theorem dX2_append_58 : decode cX2_append 58 = .ok (.iinc 4 1, 3) := by decide +kernel
theorem dX2_append_61 : decode cX2_append 61 = .ok (.goto (-31), 3) := by decide +kernel
theorem dX2_append_64 : decode cX2_append 64 = .ok (.aload_n 0, 1) := by decide +kernel
theorem dX2_append_65 : decode cX2_append 65 = .ok (.dup, 1) := by decide +kernel
theorem dX2_append_66 : decode cX2_append 66 = .ok (.getfield 19, 3) := by decide +kernel
theorem dX2_append_69 : decode cX2_append 69 = .ok (.iload_n 3, 1) := by decide +kernel
theorem dX2_append_70 : decode cX2_append 70 = .ok (.iadd, 1) := by decide +kernel
theorem dX2_append_71 : decode cX2_append 71 = .ok (.putfield 19, 3) := by decide +kernel
theorem dX2_append_74 : decode cX2_append 74 = .ok (.aload_n 0, 1) := by decide +kernel
theorem dX2_append_75 : decode cX2_append 75 = .ok (.getfield 19, 3) := by decide +kernel
theorem dX2_append_78 : decode cX2_append 78 = .ok (.ireturn, 1) := by decide +kernel
theorem dX2_countOf_0 : decode cX2_countOf 0 = .ok (.iconst 0, 1) := by decide +kernel
theorem dX2_countOf_1 : decode cX2_countOf 1 = .ok (.istore_n 2, 1) := by decide +kernel
theorem dX2_countOf_2 : decode cX2_countOf 2 = .ok (.iconst 0, 1) := by decide +kernel
theorem dX2_countOf_3 : decode cX2_countOf 3 = .ok (.istore_n 3, 1) := by decide +kernel
theorem dX2_countOf_4 : decode cX2_countOf 4 = .ok (.iload_n 3, 1) := by decide +kernel
theorem dX2_countOf_5 : decode cX2_countOf 5 = .ok (.bipush 8, 2) := by decide +kernel
theorem dX2_countOf_7 : decode cX2_countOf 7 = .ok (.if_icmp .ge 55, 3) := by decide +kernel
theorem dX2_countOf_10 : decode cX2_countOf 10 = .ok (.lload_n 0, 1) := by decide +kernel
theorem dX2_countOf_11 : decode cX2_countOf 11 = .ok (.iload_n 3, 1) := by decide +kernel
theorem dX2_countOf_12 : decode cX2_countOf 12 = .ok (.invokestatic 23, 3) := by decide +kernel
theorem dX2_countOf_15 : decode cX2_countOf 15 = .ok (.istore 4, 2) := by decide +kernel
theorem dX2_countOf_17 : decode cX2_countOf 17 = .ok (.iload 4, 2) := by decide +kernel
theorem dX2_countOf_19 : decode cX2_countOf 19 = .ok (.ifCond .ne 20, 3) := by decide +kernel
theorem dX2_countOf_22 : decode cX2_countOf 22 = .ok (.lload_n 0, 1) := by decide +kernel
theorem dX2_countOf_23 : decode cX2_countOf 23 = .ok (.bipush 8, 2) := by decide +kernel
theorem dX2_countOf_25 : decode cX2_countOf 25 = .ok (.iload_n 3, 1) := by decide +kernel
theorem dX2_countOf_26 : decode cX2_countOf 26 = .ok (.imul, 1) := by decide +kernel
theorem dX2_countOf_27 : decode cX2_countOf 27 = .ok (.lushr, 1) := by decide +kernel
theorem dX2_countOf_28 : decode cX2_countOf 28 = .ok (.lconst 0, 1) := by decide +kernel
theorem dX2_countOf_29 : decode cX2_countOf 29 = .ok (.lcmp, 1) := by decide +kernel
theorem dX2_countOf_30 : decode cX2_countOf 30 = .ok (.ifCond .ne 7, 3) := by decide +kernel
theorem dX2_countOf_33 : decode cX2_countOf 33 = .ok (.iload_n 2, 1) := by decide +kernel
theorem dX2_countOf_34 : decode cX2_countOf 34 = .ok (.goto 4, 3) := by decide +kernel
theorem dX2_countOf_37 : decode cX2_countOf 37 = .ok (.iconst 0, 1) := by decide +kernel
theorem dX2_countOf_38 : decode cX2_countOf 38 = .ok (.ireturn, 1) := by decide +kernel
theorem dX2_countOf_39 : decode cX2_countOf 39 = .ok (.iload 4, 2) := by decide +kernel
theorem dX2_countOf_41 : decode cX2_countOf 41 = .ok (.bipush 33, 2) := by decide +kernel
theorem dX2_countOf_43 : decode cX2_countOf 43 = .ok (.bipush 126, 2) := by decide +kernel
theorem dX2_countOf_45 : decode cX2_countOf 45 = .ok (.invokestatic 27, 3) := by decide +kernel
theorem dX2_countOf_48 : decode cX2_countOf 48 = .ok (.ifCond .ne 5, 3) := by decide +kernel
theorem dX2_countOf_51 : decode cX2_countOf 51 = .ok (.iconst 0, 1) := by decide +kernel
theorem dX2_countOf_52 : decode cX2_countOf 52 = .ok (.ireturn, 1) := by decide +kernel
theorem dX2_countOf_53 : decode cX2_countOf 53 = .ok (.iinc 2 1, 3) := by decide +kernel
theorem dX2_countOf_56 : decode cX2_countOf 56 = .ok (.iinc 3 1, 3) := by decide +kernel
theorem dX2_countOf_59 : decode cX2_countOf 59 = .ok (.goto (-55), 3) := by decide +kernel
theorem dX2_countOf_62 : decode cX2_countOf 62 = .ok (.iload_n 2, 1) := by decide +kernel
theorem dX2_countOf_63 : decode cX2_countOf 63 = .ok (.ireturn, 1) := by decide +kernel
theorem dX2_codeAt_0 : decode cX2_codeAt 0 = .ok (.lload_n 0, 1) := by decide +kernel
theorem dX2_codeAt_1 : decode cX2_codeAt 1 = .ok (.bipush 8, 2) := by decide +kernel
theorem dX2_codeAt_3 : decode cX2_codeAt 3 = .ok (.iload_n 2, 1) := by decide +kernel
theorem dX2_codeAt_4 : decode cX2_codeAt 4 = .ok (.imul, 1) := by decide +kernel
theorem dX2_codeAt_5 : decode cX2_codeAt 5 = .ok (.lushr, 1) := by decide +kernel
theorem dX2_codeAt_6 : decode cX2_codeAt 6 = .ok (.ldc2_w 31, 3) := by decide +kernel
theorem dX2_codeAt_9 : decode cX2_codeAt 9 = .ok (.land, 1) := by decide +kernel
theorem dX2_codeAt_10 : decode cX2_codeAt 10 = .ok (.l2i, 1) := by decide +kernel
theorem dX2_codeAt_11 : decode cX2_codeAt 11 = .ok (.ireturn, 1) := by decide +kernel
theorem dX3_init_0 : decode cX3_init 0 = .ok (.aload_n 0, 1) := by decide +kernel
theorem dX3_init_1 : decode cX3_init 1 = .ok (.invokespecial 3, 3) := by decide +kernel
theorem dX3_init_4 : decode cX3_init 4 = .ok (.aload_n 0, 1) := by decide +kernel
theorem dX3_init_5 : decode cX3_init 5 = .ok (.iconst 3, 1) := by decide +kernel
theorem dX3_init_6 : decode cX3_init 6 = .ok (.newarray .int, 2) := by decide +kernel
theorem dX3_init_8 : decode cX3_init 8 = .ok (.putfield 9, 3) := by decide +kernel
theorem dX3_init_11 : decode cX3_init 11 = .ok (.return_, 1) := by decide +kernel
theorem dX3_start_0 : decode cX3_start 0 = .ok (.aload_n 0, 1) := by decide +kernel
theorem dX3_start_1 : decode cX3_start 1 = .ok (.iconst 0, 1) := by decide +kernel
theorem dX3_start_2 : decode cX3_start 2 = .ok (.putfield 15, 3) := by decide +kernel
theorem dX3_start_5 : decode cX3_start 5 = .ok (.aload_n 0, 1) := by decide +kernel
theorem dX3_start_6 : decode cX3_start 6 = .ok (.iconst 0, 1) := by decide +kernel
theorem dX3_start_7 : decode cX3_start 7 = .ok (.putfield 19, 3) := by decide +kernel
theorem dX3_start_10 : decode cX3_start 10 = .ok (.aload_n 0, 1) := by decide +kernel
theorem dX3_start_11 : decode cX3_start 11 = .ok (.iconst 0, 1) := by decide +kernel
theorem dX3_start_12 : decode cX3_start 12 = .ok (.putfield 22, 3) := by decide +kernel
theorem dX3_start_15 : decode cX3_start 15 = .ok (.iconst 0, 1) := by decide +kernel
theorem dX3_start_16 : decode cX3_start 16 = .ok (.istore_n 1, 1) := by decide +kernel
theorem dX3_start_17 : decode cX3_start 17 = .ok (.iload_n 1, 1) := by decide +kernel
theorem dX3_start_18 : decode cX3_start 18 = .ok (.aload_n 0, 1) := by decide +kernel
theorem dX3_start_19 : decode cX3_start 19 = .ok (.getfield 9, 3) := by decide +kernel
theorem dX3_start_22 : decode cX3_start 22 = .ok (.arraylength, 1) := by decide +kernel
theorem dX3_start_23 : decode cX3_start 23 = .ok (.if_icmp .ge 16, 3) := by decide +kernel
theorem dX3_start_26 : decode cX3_start 26 = .ok (.aload_n 0, 1) := by decide +kernel
theorem dX3_start_27 : decode cX3_start 27 = .ok (.getfield 9, 3) := by decide +kernel
theorem dX3_start_30 : decode cX3_start 30 = .ok (.iload_n 1, 1) := by decide +kernel
theorem dX3_start_31 : decode cX3_start 31 = .ok (.iconst 0, 1) := by decide +kernel
theorem dX3_start_32 : decode cX3_start 32 = .ok (.iastore, 1) := by decide +kernel
theorem dX3_start_33 : decode cX3_start 33 = .ok (.iinc 1 1, 3) := by decide +kernel
theorem dX3_start_36 : decode cX3_start 36 = .ok (.goto (-19), 3) := by decide +kernel
theorem dX3_start_39 : decode cX3_start 39 = .ok (.return_, 1) := by decide +kernel
theorem dX3_faultOf_0 : decode cX3_faultOf 0 = .ok (.aload_n 0, 1) := by decide +kernel
theorem dX3_faultOf_1 : decode cX3_faultOf 1 = .ok (.invokevirtual 25, 3) := by decide +kernel
theorem dX3_faultOf_4 : decode cX3_faultOf 4 = .ok (.iconst 0, 1) := by decide +kernel
theorem dX3_faultOf_5 : decode cX3_faultOf 5 = .ok (.istore_n 2, 1) := by decide +kernel
theorem dX3_faultOf_6 : decode cX3_faultOf 6 = .ok (.iload_n 2, 1) := by decide +kernel
theorem dX3_faultOf_7 : decode cX3_faultOf 7 = .ok (.aload_n 1, 1) := by decide +kernel
theorem dX3_faultOf_8 : decode cX3_faultOf 8 = .ok (.getfield 28, 3) := by decide +kernel
theorem dX3_faultOf_11 : decode cX3_faultOf 11 = .ok (.if_icmp .ge 24, 3) := by decide +kernel
theorem dX3_faultOf_14 : decode cX3_faultOf 14 = .ok (.aload_n 0, 1) := by decide +kernel
theorem dX3_faultOf_15 : decode cX3_faultOf 15 = .ok (.aload_n 1, 1) := by decide +kernel
theorem dX3_faultOf_16 : decode cX3_faultOf 16 = .ok (.getfield 33, 3) := by decide +kernel
theorem dX3_faultOf_19 : decode cX3_faultOf 19 = .ok (.iload_n 2, 1) := by decide +kernel
theorem dX3_faultOf_20 : decode cX3_faultOf 20 = .ok (.iaload, 1) := by decide +kernel
theorem dX3_faultOf_21 : decode cX3_faultOf 21 = .ok (.invokevirtual 36, 3) := by decide +kernel
theorem dX3_faultOf_24 : decode cX3_faultOf 24 = .ok (.ifCond .ne 5, 3) := by decide +kernel
theorem dX3_faultOf_27 : decode cX3_faultOf 27 = .ok (.iload_n 2, 1) := by decide +kernel
theorem dX3_faultOf_28 : decode cX3_faultOf 28 = .ok (.ireturn, 1) := by decide +kernel
theorem dX3_faultOf_29 : decode cX3_faultOf 29 = .ok (.iinc 2 1, 3) := by decide +kernel
theorem dX3_faultOf_32 : decode cX3_faultOf 32 = .ok (.goto (-26), 3) := by decide +kernel
theorem dX3_faultOf_35 : decode cX3_faultOf 35 = .ok (.aload_n 0, 1) := by decide +kernel
theorem dX3_faultOf_36 : decode cX3_faultOf 36 = .ok (.invokevirtual 40, 3) := by decide +kernel
theorem dX3_faultOf_39 : decode cX3_faultOf 39 = .ok (.ifCond .eq 8, 3) := by decide +kernel
theorem dX3_faultOf_42 : decode cX3_faultOf 42 = .ok (.bipush (-6), 2) := by decide +kernel
theorem dX3_faultOf_44 : decode cX3_faultOf 44 = .ok (.goto 7, 3) := by decide +kernel
theorem dX3_faultOf_47 : decode cX3_faultOf 47 = .ok (.aload_n 1, 1) := by decide +kernel
theorem dX3_faultOf_48 : decode cX3_faultOf 48 = .ok (.getfield 28, 3) := by decide +kernel
theorem dX3_faultOf_51 : decode cX3_faultOf 51 = .ok (.ireturn, 1) := by decide +kernel
theorem dX3_take_0 : decode cX3_take 0 = .ok (.aload_n 0, 1) := by decide +kernel
theorem dX3_take_1 : decode cX3_take 1 = .ok (.getfield 15, 3) := by decide +kernel
theorem dX3_take_4 : decode cX3_take 4 = .ok (.ifCond .ne 9, 3) := by decide +kernel
theorem dX3_take_7 : decode cX3_take 7 = .ok (.aload_n 0, 1) := by decide +kernel
theorem dX3_take_8 : decode cX3_take 8 = .ok (.iload_n 1, 1) := by decide +kernel
theorem dX3_take_9 : decode cX3_take 9 = .ok (.invokevirtual 44, 3) := by decide +kernel
theorem dX3_take_12 : decode cX3_take 12 = .ok (.ireturn, 1) := by decide +kernel
theorem dX3_take_13 : decode cX3_take 13 = .ok (.iload_n 1, 1) := by decide +kernel
theorem dX3_take_14 : decode cX3_take 14 = .ok (.bipush 48, 2) := by decide +kernel
theorem dX3_take_16 : decode cX3_take 16 = .ok (.bipush 57, 2) := by decide +kernel
theorem dX3_take_18 : decode cX3_take 18 = .ok (.invokestatic 47, 3) := by decide +kernel
theorem dX3_take_21 : decode cX3_take 21 = .ok (.ifCond .eq 14, 3) := by decide +kernel
theorem dX3_take_24 : decode cX3_take 24 = .ok (.aload_n 0, 1) := by decide +kernel
theorem dX3_take_25 : decode cX3_take 25 = .ok (.iload_n 1, 1) := by decide +kernel
theorem dX3_take_26 : decode cX3_take 26 = .ok (.bipush 48, 2) := by decide +kernel
theorem dX3_take_28 : decode cX3_take 28 = .ok (.isub, 1) := by decide +kernel
theorem dX3_take_29 : decode cX3_take 29 = .ok (.invokevirtual 51, 3) := by decide +kernel
theorem dX3_take_32 : decode cX3_take 32 = .ok (.goto 8, 3) := by decide +kernel
theorem dX3_take_35 : decode cX3_take 35 = .ok (.aload_n 0, 1) := by decide +kernel
theorem dX3_take_36 : decode cX3_take 36 = .ok (.iload_n 1, 1) := by decide +kernel
theorem dX3_take_37 : decode cX3_take 37 = .ok (.invokevirtual 54, 3) := by decide +kernel
theorem dX3_take_40 : decode cX3_take 40 = .ok (.ireturn, 1) := by decide +kernel
theorem dX3_canEnd_0 : decode cX3_canEnd 0 = .ok (.aload_n 0, 1) := by decide +kernel
theorem dX3_canEnd_1 : decode cX3_canEnd 1 = .ok (.getfield 15, 3) := by decide +kernel
theorem dX3_canEnd_4 : decode cX3_canEnd 4 = .ok (.ifCond .eq 23, 3) := by decide +kernel
theorem dX3_canEnd_7 : decode cX3_canEnd 7 = .ok (.aload_n 0, 1) := by decide +kernel
theorem dX3_canEnd_8 : decode cX3_canEnd 8 = .ok (.getfield 22, 3) := by decide +kernel
theorem dX3_canEnd_11 : decode cX3_canEnd 11 = .ok (.ifCond .le 16, 3) := by decide +kernel
theorem dX3_canEnd_14 : decode cX3_canEnd 14 = .ok (.aload_n 0, 1) := by decide +kernel
theorem dX3_canEnd_15 : decode cX3_canEnd 15 = .ok (.invokevirtual 57, 3) := by decide +kernel
theorem dX3_canEnd_18 : decode cX3_canEnd 18 = .ok (.bipush 59, 2) := by decide +kernel
theorem dX3_canEnd_20 : decode cX3_canEnd 20 = .ok (.if_icmp .ne 7, 3) := by decide +kernel
theorem dX3_canEnd_23 : decode cX3_canEnd 23 = .ok (.iconst 1, 1) := by decide +kernel
theorem dX3_canEnd_24 : decode cX3_canEnd 24 = .ok (.goto 4, 3) := by decide +kernel
theorem dX3_canEnd_27 : decode cX3_canEnd 27 = .ok (.iconst 0, 1) := by decide +kernel
theorem dX3_canEnd_28 : decode cX3_canEnd 28 = .ok (.ireturn, 1) := by decide +kernel
theorem dX3_open_0 : decode cX3_open 0 = .ok (.iload_n 1, 1) := by decide +kernel
theorem dX3_open_1 : decode cX3_open 1 = .ok (.lookupswitch 74 #[(45, 67), (98, 67), (101, 67), (108, 67), (110, 67), (114, 67), (120, 67)], 67) := by decide +kernel
theorem dX3_open_68 : decode cX3_open 68 = .ok (.aload_n 0, 1) := by decide +kernel
theorem dX3_open_69 : decode cX3_open 69 = .ok (.iload_n 1, 1) := by decide +kernel
theorem dX3_open_70 : decode cX3_open 70 = .ok (.putfield 15, 3) := by decide +kernel
theorem dX3_open_73 : decode cX3_open 73 = .ok (.iconst 1, 1) := by decide +kernel
theorem dX3_open_74 : decode cX3_open 74 = .ok (.ireturn, 1) := by decide +kernel
theorem dX3_open_75 : decode cX3_open 75 = .ok (.iconst 0, 1) := by decide +kernel
theorem dX3_open_76 : decode cX3_open 76 = .ok (.ireturn, 1) := by decide +kernel
theorem dX3_takeDigit_0 : decode cX3_takeDigit 0 = .ok (.aload_n 0, 1) := by decide +kernel
theorem dX3_takeDigit_1 : decode cX3_takeDigit 1 = .ok (.getfield 19, 3) := by decide +kernel
theorem dX3_takeDigit_4 : decode cX3_takeDigit 4 = .ok (.ifCond .lt 15, 3) := by decide +kernel
theorem dX3_takeDigit_7 : decode cX3_takeDigit 7 = .ok (.aload_n 0, 1) := by decide +kernel
theorem dX3_takeDigit_8 : decode cX3_takeDigit 8 = .ok (.getfield 19, 3) := by decide +kernel
theorem dX3_takeDigit_11 : decode cX3_takeDigit 11 = .ok (.aload_n 0, 1) := by decide +kernel
theorem dX3_takeDigit_12 : decode cX3_takeDigit 12 = .ok (.getfield 9, 3) := by decide +kernel
theorem dX3_takeDigit_15 : decode cX3_takeDigit 15 = .ok (.arraylength, 1) := by decide +kernel
theorem dX3_takeDigit_16 : decode cX3_takeDigit 16 = .ok (.if_icmp .lt 5, 3) := by decide +kernel
theorem dX3_takeDigit_19 : decode cX3_takeDigit 19 = .ok (.iconst 0, 1) := by decide +kernel
theorem dX3_takeDigit_20 : decode cX3_takeDigit 20 = .ok (.ireturn, 1) := by decide +kernel
theorem dX3_takeDigit_21 : decode cX3_takeDigit 21 = .ok (.aload_n 0, 1) := by decide +kernel
theorem dX3_takeDigit_22 : decode cX3_takeDigit 22 = .ok (.getfield 9, 3) := by decide +kernel
theorem dX3_takeDigit_25 : decode cX3_takeDigit 25 = .ok (.aload_n 0, 1) := by decide +kernel
theorem dX3_takeDigit_26 : decode cX3_takeDigit 26 = .ok (.getfield 19, 3) := by decide +kernel
theorem dX3_takeDigit_29 : decode cX3_takeDigit 29 = .ok (.iaload, 1) := by decide +kernel
theorem dX3_takeDigit_30 : decode cX3_takeDigit 30 = .ok (.istore_n 2, 1) := by decide +kernel
theorem dX3_takeDigit_31 : decode cX3_takeDigit 31 = .ok (.aload_n 0, 1) := by decide +kernel
theorem dX3_takeDigit_32 : decode cX3_takeDigit 32 = .ok (.getfield 22, 3) := by decide +kernel
theorem dX3_takeDigit_35 : decode cX3_takeDigit 35 = .ok (.ifCond .le 11, 3) := by decide +kernel
theorem dX3_takeDigit_38 : decode cX3_takeDigit 38 = .ok (.iload_n 2, 1) := by decide +kernel
theorem dX3_takeDigit_39 : decode cX3_takeDigit 39 = .ok (.ifCond .ne 7, 3) := by decide +kernel
theorem dX3_takeDigit_42 : decode cX3_takeDigit 42 = .ok (.iconst 1, 1) := by decide +kernel
theorem dX3_takeDigit_43 : decode cX3_takeDigit 43 = .ok (.goto 4, 3) := by decide +kernel
theorem dX3_takeDigit_46 : decode cX3_takeDigit 46 = .ok (.iconst 0, 1) := by decide +kernel
theorem dX3_takeDigit_47 : decode cX3_takeDigit 47 = .ok (.istore_n 3, 1) := by decide +kernel
theorem dX3_takeDigit_48 : decode cX3_takeDigit 48 = .ok (.iload_n 3, 1) := by decide +kernel
theorem dX3_takeDigit_49 : decode cX3_takeDigit 49 = .ok (.ifCond .ne 9, 3) := by decide +kernel
theorem dX3_takeDigit_52 : decode cX3_takeDigit 52 = .ok (.iload_n 2, 1) := by decide +kernel
theorem dX3_takeDigit_53 : decode cX3_takeDigit 53 = .ok (.bipush 99, 2) := by decide +kernel
theorem dX3_takeDigit_55 : decode cX3_takeDigit 55 = .ok (.if_icmp .le 5, 3) := by decide +kernel
theorem dX3_takeDigit_58 : decode cX3_takeDigit 58 = .ok (.iconst 0, 1) := by decide +kernel
theorem dX3_takeDigit_59 : decode cX3_takeDigit 59 = .ok (.ireturn, 1) := by decide +kernel
theorem dX3_takeDigit_60 : decode cX3_takeDigit 60 = .ok (.aload_n 0, 1) := by decide +kernel
theorem dX3_takeDigit_61 : decode cX3_takeDigit 61 = .ok (.getfield 9, 3) := by decide +kernel
theorem dX3_takeDigit_64 : decode cX3_takeDigit 64 = .ok (.aload_n 0, 1) := by decide +kernel
theorem dX3_takeDigit_65 : decode cX3_takeDigit 65 = .ok (.getfield 19, 3) := by decide +kernel
theorem dX3_takeDigit_68 : decode cX3_takeDigit 68 = .ok (.bipush 10, 2) := by decide +kernel
theorem dX3_takeDigit_70 : decode cX3_takeDigit 70 = .ok (.iload_n 2, 1) := by decide +kernel
theorem dX3_takeDigit_71 : decode cX3_takeDigit 71 = .ok (.imul, 1) := by decide +kernel
theorem dX3_takeDigit_72 : decode cX3_takeDigit 72 = .ok (.iload_n 1, 1) := by decide +kernel
theorem dX3_takeDigit_73 : decode cX3_takeDigit 73 = .ok (.iadd, 1) := by decide +kernel
theorem dX3_takeDigit_74 : decode cX3_takeDigit 74 = .ok (.iastore, 1) := by decide +kernel
theorem dX3_takeDigit_75 : decode cX3_takeDigit 75 = .ok (.aload_n 0, 1) := by decide +kernel
theorem dX3_takeDigit_76 : decode cX3_takeDigit 76 = .ok (.dup, 1) := by decide +kernel
theorem dX3_takeDigit_77 : decode cX3_takeDigit 77 = .ok (.getfield 22, 3) := by decide +kernel
theorem dX3_takeDigit_80 : decode cX3_takeDigit 80 = .ok (.iconst 1, 1) := by decide +kernel
theorem dX3_takeDigit_81 : decode cX3_takeDigit 81 = .ok (.iadd, 1) := by decide +kernel
theorem dX3_takeDigit_82 : decode cX3_takeDigit 82 = .ok (.putfield 22, 3) := by decide +kernel
theorem dX3_takeDigit_85 : decode cX3_takeDigit 85 = .ok (.iconst 1, 1) := by decide +kernel
theorem dX3_takeDigit_86 : decode cX3_takeDigit 86 = .ok (.ireturn, 1) := by decide +kernel
theorem dX3_takeSign_0 : decode cX3_takeSign 0 = .ok (.aload_n 0, 1) := by decide +kernel
theorem dX3_takeSign_1 : decode cX3_takeSign 1 = .ok (.getfield 22, 3) := by decide +kernel
theorem dX3_takeSign_4 : decode cX3_takeSign 4 = .ok (.ifCond .eq 11, 3) := by decide +kernel
theorem dX3_takeSign_7 : decode cX3_takeSign 7 = .ok (.iload_n 1, 1) := by decide +kernel
theorem dX3_takeSign_8 : decode cX3_takeSign 8 = .ok (.aload_n 0, 1) := by decide +kernel
theorem dX3_takeSign_9 : decode cX3_takeSign 9 = .ok (.invokevirtual 57, 3) := by decide +kernel
theorem dX3_takeSign_12 : decode cX3_takeSign 12 = .ok (.if_icmp .eq 5, 3) := by decide +kernel
theorem dX3_takeSign_15 : decode cX3_takeSign 15 = .ok (.iconst 0, 1) := by decide +kernel
theorem dX3_takeSign_16 : decode cX3_takeSign 16 = .ok (.ireturn, 1) := by decide +kernel
theorem dX3_takeSign_17 : decode cX3_takeSign 17 = .ok (.iload_n 1, 1) := by decide +kernel
theorem dX3_takeSign_18 : decode cX3_takeSign 18 = .ok (.bipush 59, 2) := by decide +kernel
theorem dX3_takeSign_20 : decode cX3_takeSign 20 = .ok (.if_icmp .ne 10, 3) := by decide +kernel
theorem dX3_takeSign_23 : decode cX3_takeSign 23 = .ok (.aload_n 0, 1) := by decide +kernel
theorem dX3_takeSign_24 : decode cX3_takeSign 24 = .ok (.invokevirtual 25, 3) := by decide +kernel
theorem dX3_takeSign_27 : decode cX3_takeSign 27 = .ok (.goto 18, 3) := by decide +kernel
theorem dX3_takeSign_30 : decode cX3_takeSign 30 = .ok (.aload_n 0, 1) := by decide +kernel
theorem dX3_takeSign_31 : decode cX3_takeSign 31 = .ok (.dup, 1) := by decide +kernel
theorem dX3_takeSign_32 : decode cX3_takeSign 32 = .ok (.getfield 19, 3) := by decide +kernel
theorem dX3_takeSign_35 : decode cX3_takeSign 35 = .ok (.iconst 1, 1) := by decide +kernel
theorem dX3_takeSign_36 : decode cX3_takeSign 36 = .ok (.iadd, 1) := by decide +kernel
theorem dX3_takeSign_37 : decode cX3_takeSign 37 = .ok (.putfield 19, 3) := by decide +kernel
theorem dX3_takeSign_40 : decode cX3_takeSign 40 = .ok (.aload_n 0, 1) := by decide +kernel
theorem dX3_takeSign_41 : decode cX3_takeSign 41 = .ok (.iconst 0, 1) := by decide +kernel
theorem dX3_takeSign_42 : decode cX3_takeSign 42 = .ok (.putfield 22, 3) := by decide +kernel
theorem dX3_takeSign_45 : decode cX3_takeSign 45 = .ok (.iconst 1, 1) := by decide +kernel
theorem dX3_takeSign_46 : decode cX3_takeSign 46 = .ok (.ireturn, 1) := by decide +kernel
theorem dX3_signBehindNumber_0 : decode cX3_signBehindNumber 0 = .ok (.aload_n 0, 1) := by decide +kernel
theorem dX3_signBehindNumber_1 : decode cX3_signBehindNumber 1 = .ok (.getfield 15, 3) := by decide +kernel
theorem dX3_signBehindNumber_4 : decode cX3_signBehindNumber 4 = .ok (.lookupswitch 90 #[(45, 87), (98, 44), (114, 72), (120, 72)], 44) := by decide +kernel
theorem dX3_signBehindNumber_48 : decode cX3_signBehindNumber 48 = .ok (.aload_n 0, 1) := by decide +kernel
theorem dX3_signBehindNumber_49 : decode cX3_signBehindNumber 49 = .ok (.getfield 19, 3) := by decide +kernel
theorem dX3_signBehindNumber_52 : decode cX3_signBehindNumber 52 = .ok (.ifCond .ne 8, 3) := by decide +kernel
theorem dX3_signBehindNumber_55 : decode cX3_signBehindNumber 55 = .ok (.bipush 61, 2) := by decide +kernel
theorem dX3_signBehindNumber_57 : decode cX3_signBehindNumber 57 = .ok (.goto 18, 3) := by decide +kernel
theorem dX3_signBehindNumber_60 : decode cX3_signBehindNumber 60 = .ok (.aload_n 0, 1) := by decide +kernel
theorem dX3_signBehindNumber_61 : decode cX3_signBehindNumber 61 = .ok (.getfield 19, 3) := by decide +kernel
theorem dX3_signBehindNumber_64 : decode cX3_signBehindNumber 64 = .ok (.iconst 1, 1) := by decide +kernel
theorem dX3_signBehindNumber_65 : decode cX3_signBehindNumber 65 = .ok (.if_icmp .ne 8, 3) := by decide +kernel
theorem dX3_signBehindNumber_68 : decode cX3_signBehindNumber 68 = .ok (.bipush 64, 2) := by decide +kernel
theorem dX3_signBehindNumber_70 : decode cX3_signBehindNumber 70 = .ok (.goto 5, 3) := by decide +kernel
theorem dX3_signBehindNumber_73 : decode cX3_signBehindNumber 73 = .ok (.bipush 59, 2) := by decide +kernel
theorem dX3_signBehindNumber_75 : decode cX3_signBehindNumber 75 = .ok (.ireturn, 1) := by decide +kernel
theorem dX3_signBehindNumber_76 : decode cX3_signBehindNumber 76 = .ok (.aload_n 0, 1) := by decide +kernel
theorem dX3_signBehindNumber_77 : decode cX3_signBehindNumber 77 = .ok (.getfield 19, 3) := by decide +kernel
theorem dX3_signBehindNumber_80 : decode cX3_signBehindNumber 80 = .ok (.ifCond .ne 8, 3) := by decide +kernel
theorem dX3_signBehindNumber_83 : decode cX3_signBehindNumber 83 = .ok (.bipush 45, 2) := by decide +kernel
theorem dX3_signBehindNumber_85 : decode cX3_signBehindNumber 85 = .ok (.goto 5, 3) := by decide +kernel
theorem dX3_signBehindNumber_88 : decode cX3_signBehindNumber 88 = .ok (.bipush 59, 2) := by decide +kernel
theorem dX3_signBehindNumber_90 : decode cX3_signBehindNumber 90 = .ok (.ireturn, 1) := by decide +kernel
theorem dX3_signBehindNumber_91 : decode cX3_signBehindNumber 91 = .ok (.bipush 59, 2) := by decide +kernel
theorem dX3_signBehindNumber_93 : decode cX3_signBehindNumber 93 = .ok (.ireturn, 1) := by decide +kernel
theorem dX3_signBehindNumber_94 : decode cX3_signBehindNumber 94 = .ok (.aload_n 0, 1) := by decide +kernel
theorem dX3_signBehindNumber_95 : decode cX3_signBehindNumber 95 = .ok (.getfield 19, 3) := by decide +kernel
theorem dX3_signBehindNumber_98 : decode cX3_signBehindNumber 98 = .ok (.ifCond .ne 8, 3) := by decide +kernel
theorem dX3_signBehindNumber_101 : decode cX3_signBehindNumber 101 = .ok (.bipush 43, 2) := by decide +kernel
theorem dX3_signBehindNumber_103 : decode cX3_signBehindNumber 103 = .ok (.goto 18, 3) := by decide +kernel
theorem dX3_signBehindNumber_106 : decode cX3_signBehindNumber 106 = .ok (.aload_n 0, 1) := by decide +kernel
theorem dX3_signBehindNumber_107 : decode cX3_signBehindNumber 107 = .ok (.getfield 19, 3) := by decide +kernel
theorem dX3_signBehindNumber_110 : decode cX3_signBehindNumber 110 = .ok (.iconst 1, 1) := by decide +kernel
theorem dX3_signBehindNumber_111 : decode cX3_signBehindNumber 111 = .ok (.if_icmp .ne 8, 3) := by decide +kernel
theorem dX3_signBehindNumber_114 : decode cX3_signBehindNumber 114 = .ok (.bipush 58, 2) := by decide +kernel
theorem dX3_signBehindNumber_116 : decode cX3_signBehindNumber 116 = .ok (.goto 5, 3) := by decide +kernel
theorem dX3_signBehindNumber_119 : decode cX3_signBehindNumber 119 = .ok (.bipush 59, 2) := by decide +kernel
theorem dX3_signBehindNumber_121 : decode cX3_signBehindNumber 121 = .ok (.ireturn, 1) := by decide +kernel
theorem dX4_init_0 : decode cX4_init 0 = .ok (.aload_n 0, 1) := by decide +kernel
theorem dX4_init_1 : decode cX4_init 1 = .ok (.invokespecial 3, 3) := by decide +kernel
theorem dX4_init_4 : decode cX4_init 4 = .ok (.aload_n 0, 1) := by decide +kernel
theorem dX4_init_5 : decode cX4_init 5 = .ok (.bipush 32, 2) := by decide +kernel
theorem dX4_init_7 : decode cX4_init 7 = .ok (.putfield 9, 3) := by decide +kernel
theorem dX4_init_10 : decode cX4_init 10 = .ok (.aload_n 0, 1) := by decide +kernel
theorem dX4_init_11 : decode cX4_init 11 = .ok (.bipush 10, 2) := by decide +kernel
theorem dX4_init_13 : decode cX4_init 13 = .ok (.putfield 15, 3) := by decide +kernel
theorem dX4_init_16 : decode cX4_init 16 = .ok (.aload_n 0, 1) := by decide +kernel
theorem dX4_init_17 : decode cX4_init 17 = .ok (.bipush 60, 2) := by decide +kernel
theorem dX4_init_19 : decode cX4_init 19 = .ok (.newarray .int, 2) := by decide +kernel
theorem dX4_init_21 : decode cX4_init 21 = .ok (.putfield 18, 3) := by decide +kernel
theorem dX4_init_24 : decode cX4_init 24 = .ok (.aload_n 0, 1) := by decide +kernel
theorem dX4_init_25 : decode cX4_init 25 = .ok (.bipush 60, 2) := by decide +kernel
theorem dX4_init_27 : decode cX4_init 27 = .ok (.newarray .int, 2) := by decide +kernel
theorem dX4_init_29 : decode cX4_init 29 = .ok (.putfield 22, 3) := by decide +kernel
theorem dX4_init_32 : decode cX4_init 32 = .ok (.iconst 0, 1) := by decide +kernel
theorem dX4_init_33 : decode cX4_init 33 = .ok (.istore_n 1, 1) := by decide +kernel
theorem dX4_init_34 : decode cX4_init 34 = .ok (.iload_n 1, 1) := by decide +kernel
theorem dX4_init_35 : decode cX4_init 35 = .ok (.bipush 60, 2) := by decide +kernel
theorem dX4_init_37 : decode cX4_init 37 = .ok (.if_icmp .ge 24, 3) := by decide +kernel
theorem dX4_init_40 : decode cX4_init 40 = .ok (.aload_n 0, 1) := by decide +kernel
theorem dX4_init_41 : decode cX4_init 41 = .ok (.getfield 18, 3) := by decide +kernel
theorem dX4_init_44 : decode cX4_init 44 = .ok (.iload_n 1, 1) := by decide +kernel
theorem dX4_init_45 : decode cX4_init 45 = .ok (.iconst 4, 1) := by decide +kernel
theorem dX4_init_46 : decode cX4_init 46 = .ok (.iastore, 1) := by decide +kernel
theorem dX4_init_47 : decode cX4_init 47 = .ok (.aload_n 0, 1) := by decide +kernel
theorem dX4_init_48 : decode cX4_init 48 = .ok (.getfield 22, 3) := by decide +kernel
theorem dX4_init_51 : decode cX4_init 51 = .ok (.iload_n 1, 1) := by decide +kernel
theorem dX4_init_52 : decode cX4_init 52 = .ok (.bipush 60, 2) := by decide +kernel
theorem dX4_init_54 : decode cX4_init 54 = .ok (.iastore, 1) := by decide +kernel
theorem dX4_init_55 : decode cX4_init 55 = .ok (.iinc 1 1, 3) := by decide +kernel
theorem dX4_init_58 : decode cX4_init 58 = .ok (.goto (-24), 3) := by decide +kernel
theorem dX4_init_61 : decode cX4_init 61 = .ok (.aload_n 0, 1) := by decide +kernel
theorem dX4_init_62 : decode cX4_init 62 = .ok (.new 25, 3) := by decide +kernel
theorem dX4_init_65 : decode cX4_init 65 = .ok (.dup, 1) := by decide +kernel
theorem dX4_init_66 : decode cX4_init 66 = .ok (.iconst 4, 1) := by decide +kernel
theorem dX4_init_67 : decode cX4_init 67 = .ok (.invokespecial 27, 3) := by decide +kernel
theorem dX4_init_70 : decode cX4_init 70 = .ok (.putfield 30, 3) := by decide +kernel
theorem dX4_init_73 : decode cX4_init 73 = .ok (.aload_n 0, 1) := by decide +kernel
theorem dX4_init_74 : decode cX4_init 74 = .ok (.new 25, 3) := by decide +kernel
theorem dX4_init_77 : decode cX4_init 77 = .ok (.dup, 1) := by decide +kernel
theorem dX4_init_78 : decode cX4_init 78 = .ok (.iconst 4, 1) := by decide +kernel
theorem dX4_init_79 : decode cX4_init 79 = .ok (.invokespecial 27, 3) := by decide +kernel
theorem dX4_init_82 : decode cX4_init 82 = .ok (.putfield 34, 3) := by decide +kernel
theorem dX4_init_85 : decode cX4_init 85 = .ok (.aload_n 0, 1) := by decide +kernel
theorem dX4_init_86 : decode cX4_init 86 = .ok (.new 25, 3) := by decide +kernel
theorem dX4_init_89 : decode cX4_init 89 = .ok (.dup, 1) := by decide +kernel
theorem dX4_init_90 : decode cX4_init 90 = .ok (.iconst 3, 1) := by decide +kernel
theorem dX4_init_91 : decode cX4_init 91 = .ok (.invokespecial 27, 3) := by decide +kernel
theorem dX4_init_94 : decode cX4_init 94 = .ok (.putfield 37, 3) := by decide +kernel
theorem dX4_init_97 : decode cX4_init 97 = .ok (.aload_n 0, 1) := by decide +kernel
theorem dX4_init_98 : decode cX4_init 98 = .ok (.new 40, 3) := by decide +kernel
theorem dX4_init_101 : decode cX4_init 101 = .ok (.dup, 1) := by decide +kernel
theorem dX4_init_102 : decode cX4_init 102 = .ok (.invokespecial 42, 3) := by decide +kernel
theorem dX4_init_105 : decode cX4_init 105 = .ok (.putfield 43, 3) := by decide +kernel
theorem dX4_init_108 : decode cX4_init 108 = .ok (.return_, 1) := by decide +kernel
theorem dX4_copyFrom_0 : decode cX4_copyFrom 0 = .ok (.aload_n 0, 1) := by decide +kernel
theorem dX4_copyFrom_1 : decode cX4_copyFrom 1 = .ok (.aload_n 1, 1) := by decide +kernel
theorem dX4_copyFrom_2 : decode cX4_copyFrom 2 = .ok (.getfield 9, 3) := by decide +kernel
theorem dX4_copyFrom_5 : decode cX4_copyFrom 5 = .ok (.putfield 9, 3) := by decide +kernel
theorem dX4_copyFrom_8 : decode cX4_copyFrom 8 = .ok (.aload_n 0, 1) := by decide +kernel
theorem dX4_copyFrom_9 : decode cX4_copyFrom 9 = .ok (.aload_n 1, 1) := by decide +kernel
theorem dX4_copyFrom_10 : decode cX4_copyFrom 10 = .ok (.getfield 15, 3) := by decide +kernel
theorem dX4_copyFrom_13 : decode cX4_copyFrom 13 = .ok (.putfield 15, 3) := by decide +kernel
theorem dX4_copyFrom_16 : decode cX4_copyFrom 16 = .ok (.aload_n 1, 1) := by decide +kernel
theorem dX4_copyFrom_17 : decode cX4_copyFrom 17 = .ok (.getfield 18, 3) := by decide +kernel
theorem dX4_copyFrom_20 : decode cX4_copyFrom 20 = .ok (.iconst 0, 1) := by decide +kernel
theorem dX4_copyFrom_21 : decode cX4_copyFrom 21 = .ok (.aload_n 0, 1) := by decide +kernel
theorem dX4_copyFrom_22 : decode cX4_copyFrom 22 = .ok (.getfield 18, 3) := by decide +kernel
theorem dX4_copyFrom_25 : decode cX4_copyFrom 25 = .ok (.iconst 0, 1) := by decide +kernel
theorem dX4_copyFrom_26 : decode cX4_copyFrom 26 = .ok (.bipush 60, 2) := by decide +kernel
theorem dX4_copyFrom_28 : decode cX4_copyFrom 28 = .ok (.invokestatic 47, 3) := by decide +kernel
theorem dX4_copyFrom_31 : decode cX4_copyFrom 31 = .ok (.aload_n 1, 1) := by decide +kernel
theorem dX4_copyFrom_32 : decode cX4_copyFrom 32 = .ok (.getfield 22, 3) := by decide +kernel
theorem dX4_copyFrom_35 : decode cX4_copyFrom 35 = .ok (.iconst 0, 1) := by decide +kernel
theorem dX4_copyFrom_36 : decode cX4_copyFrom 36 = .ok (.aload_n 0, 1) := by decide +kernel
theorem dX4_copyFrom_37 : decode cX4_copyFrom 37 = .ok (.getfield 22, 3) := by decide +kernel
theorem dX4_copyFrom_40 : decode cX4_copyFrom 40 = .ok (.iconst 0, 1) := by decide +kernel
theorem dX4_copyFrom_41 : decode cX4_copyFrom 41 = .ok (.bipush 60, 2) := by decide +kernel
theorem dX4_copyFrom_43 : decode cX4_copyFrom 43 = .ok (.invokestatic 47, 3) := by decide +kernel
theorem dX4_copyFrom_46 : decode cX4_copyFrom 46 = .ok (.aload_n 0, 1) := by decide +kernel
theorem dX4_copyFrom_47 : decode cX4_copyFrom 47 = .ok (.getfield 30, 3) := by decide +kernel
theorem dX4_copyFrom_50 : decode cX4_copyFrom 50 = .ok (.aload_n 1, 1) := by decide +kernel
theorem dX4_copyFrom_51 : decode cX4_copyFrom 51 = .ok (.getfield 30, 3) := by decide +kernel
theorem dX4_copyFrom_54 : decode cX4_copyFrom 54 = .ok (.invokevirtual 53, 3) := by decide +kernel
theorem dX4_copyFrom_57 : decode cX4_copyFrom 57 = .ok (.aload_n 0, 1) := by decide +kernel
theorem dX4_copyFrom_58 : decode cX4_copyFrom 58 = .ok (.getfield 34, 3) := by decide +kernel
theorem dX4_copyFrom_61 : decode cX4_copyFrom 61 = .ok (.aload_n 1, 1) := by decide +kernel
theorem dX4_copyFrom_62 : decode cX4_copyFrom 62 = .ok (.getfield 34, 3) := by decide +kernel
theorem dX4_copyFrom_65 : decode cX4_copyFrom 65 = .ok (.invokevirtual 53, 3) := by decide +kernel
theorem dX4_copyFrom_68 : decode cX4_copyFrom 68 = .ok (.aload_n 0, 1) := by decide +kernel
theorem dX4_copyFrom_69 : decode cX4_copyFrom 69 = .ok (.getfield 37, 3) := by decide +kernel
theorem dX4_copyFrom_72 : decode cX4_copyFrom 72 = .ok (.aload_n 1, 1) := by decide +kernel
theorem dX4_copyFrom_73 : decode cX4_copyFrom 73 = .ok (.getfield 37, 3) := by decide +kernel
theorem dX4_copyFrom_76 : decode cX4_copyFrom 76 = .ok (.invokevirtual 53, 3) := by decide +kernel
theorem dX4_copyFrom_79 : decode cX4_copyFrom 79 = .ok (.aload_n 0, 1) := by decide +kernel
theorem dX4_copyFrom_80 : decode cX4_copyFrom 80 = .ok (.getfield 43, 3) := by decide +kernel
theorem dX4_copyFrom_83 : decode cX4_copyFrom 83 = .ok (.aload_n 1, 1) := by decide +kernel
theorem dX4_copyFrom_84 : decode cX4_copyFrom 84 = .ok (.getfield 43, 3) := by decide +kernel
theorem dX4_copyFrom_87 : decode cX4_copyFrom 87 = .ok (.invokevirtual 57, 3) := by decide +kernel
theorem dX4_copyFrom_90 : decode cX4_copyFrom 90 = .ok (.return_, 1) := by decide +kernel
theorem dX4_hasBar_0 : decode cX4_hasBar 0 = .ok (.iload_n 1, 1) := by decide +kernel
theorem dX4_hasBar_1 : decode cX4_hasBar 1 = .ok (.ifCond .lt 15, 3) := by decide +kernel
theorem dX4_hasBar_4 : decode cX4_hasBar 4 = .ok (.iload_n 1, 1) := by decide +kernel
theorem dX4_hasBar_5 : decode cX4_hasBar 5 = .ok (.aload_n 0, 1) := by decide +kernel
theorem dX4_hasBar_6 : decode cX4_hasBar 6 = .ok (.getfield 9, 3) := by decide +kernel
theorem dX4_hasBar_9 : decode cX4_hasBar 9 = .ok (.if_icmp .ge 7, 3) := by decide +kernel
theorem dX4_hasBar_12 : decode cX4_hasBar 12 = .ok (.iconst 1, 1) := by decide +kernel
theorem dX4_hasBar_13 : decode cX4_hasBar 13 = .ok (.goto 4, 3) := by decide +kernel
theorem dX4_hasBar_16 : decode cX4_hasBar 16 = .ok (.iconst 0, 1) := by decide +kernel
theorem dX4_hasBar_17 : decode cX4_hasBar 17 = .ok (.ireturn, 1) := by decide +kernel
theorem dX4_tenthsOf_0 : decode cX4_tenthsOf 0 = .ok (.aload_n 0, 1) := by decide +kernel
theorem dX4_tenthsOf_1 : decode cX4_tenthsOf 1 = .ok (.iload_n 1, 1) := by decide +kernel
theorem dX4_tenthsOf_2 : decode cX4_tenthsOf 2 = .ok (.invokevirtual 60, 3) := by decide +kernel
theorem dX4_tenthsOf_5 : decode cX4_tenthsOf 5 = .ok (.ifCond .eq 21, 3) := by decide +kernel
theorem dX4_tenthsOf_8 : decode cX4_tenthsOf 8 = .ok (.aload_n 0, 1) := by decide +kernel
theorem dX4_tenthsOf_9 : decode cX4_tenthsOf 9 = .ok (.getfield 18, 3) := by decide +kernel
theorem dX4_tenthsOf_12 : decode cX4_tenthsOf 12 = .ok (.iload_n 1, 1) := by decide +kernel
theorem dX4_tenthsOf_13 : decode cX4_tenthsOf 13 = .ok (.iaload, 1) := by decide +kernel
theorem dX4_tenthsOf_14 : decode cX4_tenthsOf 14 = .ok (.aload_n 0, 1) := by decide +kernel
theorem dX4_tenthsOf_15 : decode cX4_tenthsOf 15 = .ok (.getfield 22, 3) := by decide +kernel
theorem dX4_tenthsOf_18 : decode cX4_tenthsOf 18 = .ok (.iload_n 1, 1) := by decide +kernel
theorem dX4_tenthsOf_19 : decode cX4_tenthsOf 19 = .ok (.iaload, 1) := by decide +kernel
theorem dX4_tenthsOf_20 : decode cX4_tenthsOf 20 = .ok (.invokestatic 64, 3) := by decide +kernel
theorem dX4_tenthsOf_23 : decode cX4_tenthsOf 23 = .ok (.goto 4, 3) := by decide +kernel
theorem dX4_tenthsOf_26 : decode cX4_tenthsOf 26 = .ok (.iconst 0, 1) := by decide +kernel
theorem dX4_tenthsOf_27 : decode cX4_tenthsOf 27 = .ok (.ireturn, 1) := by decide +kernel
theorem dX4_spanError_0 : decode cX4_spanError 0 = .ok (.aload_n 0, 1) := by decide +kernel
theorem dX4_spanError_1 : decode cX4_spanError 1 = .ok (.iload_n 1, 1) := by decide +kernel
theorem dX4_spanError_2 : decode cX4_spanError 2 = .ok (.invokevirtual 60, 3) := by decide +kernel
theorem dX4_spanError_5 : decode cX4_spanError 5 = .ok (.ifCond .eq 11, 3) := by decide +kernel
theorem dX4_spanError_8 : decode cX4_spanError 8 = .ok (.aload_n 0, 1) := by decide +kernel
theorem dX4_spanError_9 : decode cX4_spanError 9 = .ok (.iload_n 2, 1) := by decide +kernel
theorem dX4_spanError_10 : decode cX4_spanError 10 = .ok (.invokevirtual 60, 3) := by decide +kernel
theorem dX4_spanError_13 : decode cX4_spanError 13 = .ok (.ifCond .ne 5, 3) := by decide +kernel
theorem dX4_spanError_16 : decode cX4_spanError 16 = .ok (.iconst (-1), 1) := by decide +kernel
theorem dX4_spanError_17 : decode cX4_spanError 17 = .ok (.ireturn, 1) := by decide +kernel
theorem dX4_spanError_18 : decode cX4_spanError 18 = .ok (.iload_n 2, 1) := by decide +kernel
theorem dX4_spanError_19 : decode cX4_spanError 19 = .ok (.iload_n 1, 1) := by decide +kernel
theorem dX4_spanError_20 : decode cX4_spanError 20 = .ok (.if_icmp .ge 8, 3) := by decide +kernel
theorem dX4_spanError_23 : decode cX4_spanError 23 = .ok (.bipush (-2), 2) := by decide +kernel
theorem dX4_spanError_25 : decode cX4_spanError 25 = .ok (.goto 4, 3) := by decide +kernel
theorem dX4_spanError_28 : decode cX4_spanError 28 = .ok (.iconst 0, 1) := by decide +kernel
theorem dX4_spanError_29 : decode cX4_spanError 29 = .ok (.ireturn, 1) := by decide +kernel
theorem dX4_changeBars_0 : decode cX4_changeBars 0 = .ok (.iload_n 1, 1) := by decide +kernel
theorem dX4_changeBars_1 : decode cX4_changeBars 1 = .ok (.iconst 1, 1) := by decide +kernel
theorem dX4_changeBars_2 : decode cX4_changeBars 2 = .ok (.bipush 60, 2) := by decide +kernel
theorem dX4_changeBars_4 : decode cX4_changeBars 4 = .ok (.invokestatic 68, 3) := by decide +kernel
theorem dX4_changeBars_7 : decode cX4_changeBars 7 = .ok (.ifCond .ne 6, 3) := by decide +kernel
theorem dX4_changeBars_10 : decode cX4_changeBars 10 = .ok (.bipush (-2), 2) := by decide +kernel
theorem dX4_changeBars_12 : decode cX4_changeBars 12 = .ok (.ireturn, 1) := by decide +kernel
theorem dX4_changeBars_13 : decode cX4_changeBars 13 = .ok (.aload_n 0, 1) := by decide +kernel
theorem dX4_changeBars_14 : decode cX4_changeBars 14 = .ok (.invokevirtual 72, 3) := by decide +kernel
theorem dX4_changeBars_17 : decode cX4_changeBars 17 = .ok (.iload_n 1, 1) := by decide +kernel
theorem dX4_changeBars_18 : decode cX4_changeBars 18 = .ok (.if_icmp .lt 6, 3) := by decide +kernel
theorem dX4_changeBars_21 : decode cX4_changeBars 21 = .ok (.bipush (-5), 2) := by decide +kernel
theorem dX4_changeBars_23 : decode cX4_changeBars 23 = .ok (.ireturn, 1) := by decide +kernel
theorem dX4_changeBars_24 : decode cX4_changeBars 24 = .ok (.aload_n 0, 1) := by decide +kernel
theorem dX4_changeBars_25 : decode cX4_changeBars 25 = .ok (.getfield 9, 3) := by decide +kernel
theorem dX4_changeBars_28 : decode cX4_changeBars 28 = .ok (.istore_n 2, 1) := by decide +kernel
theorem dX4_changeBars_29 : decode cX4_changeBars 29 = .ok (.aload_n 0, 1) := by decide +kernel
theorem dX4_changeBars_30 : decode cX4_changeBars 30 = .ok (.iload_n 1, 1) := by decide +kernel
theorem dX4_changeBars_31 : decode cX4_changeBars 31 = .ok (.putfield 9, 3) := by decide +kernel
theorem dX4_changeBars_34 : decode cX4_changeBars 34 = .ok (.iload_n 2, 1) := by decide +kernel
theorem dX4_changeBars_35 : decode cX4_changeBars 35 = .ok (.ireturn, 1) := by decide +kernel
theorem dX4_changeShortest_0 : decode cX4_changeShortest 0 = .ok (.iload_n 1, 1) := by decide +kernel
theorem dX4_changeShortest_1 : decode cX4_changeShortest 1 = .ok (.iconst 0, 1) := by decide +kernel
theorem dX4_changeShortest_2 : decode cX4_changeShortest 2 = .ok (.bipush 50, 2) := by decide +kernel
theorem dX4_changeShortest_4 : decode cX4_changeShortest 4 = .ok (.invokestatic 68, 3) := by decide +kernel
theorem dX4_changeShortest_7 : decode cX4_changeShortest 7 = .ok (.ifCond .ne 6, 3) := by decide +kernel
theorem dX4_changeShortest_10 : decode cX4_changeShortest 10 = .ok (.bipush (-2), 2) := by decide +kernel
theorem dX4_changeShortest_12 : decode cX4_changeShortest 12 = .ok (.ireturn, 1) := by decide +kernel
theorem dX4_changeShortest_13 : decode cX4_changeShortest 13 = .ok (.aload_n 0, 1) := by decide +kernel
theorem dX4_changeShortest_14 : decode cX4_changeShortest 14 = .ok (.getfield 15, 3) := by decide +kernel
theorem dX4_changeShortest_17 : decode cX4_changeShortest 17 = .ok (.istore_n 2, 1) := by decide +kernel
theorem dX4_changeShortest_18 : decode cX4_changeShortest 18 = .ok (.aload_n 0, 1) := by decide +kernel
theorem dX4_changeShortest_19 : decode cX4_changeShortest 19 = .ok (.iload_n 1, 1) := by decide +kernel
theorem dX4_changeShortest_20 : decode cX4_changeShortest 20 = .ok (.putfield 15, 3) := by decide +kernel
theorem dX4_changeShortest_23 : decode cX4_changeShortest 23 = .ok (.iload_n 2, 1) := by decide +kernel
theorem dX4_changeShortest_24 : decode cX4_changeShortest 24 = .ok (.ireturn, 1) := by decide +kernel
theorem dX4_changeBar_0 : decode cX4_changeBar 0 = .ok (.aload_n 0, 1) := by decide +kernel
theorem dX4_changeBar_1 : decode cX4_changeBar 1 = .ok (.iload_n 1, 1) := by decide +kernel
theorem dX4_changeBar_2 : decode cX4_changeBar 2 = .ok (.invokevirtual 60, 3) := by decide +kernel
theorem dX4_changeBar_5 : decode cX4_changeBar 5 = .ok (.ifCond .ne 5, 3) := by decide +kernel
theorem dX4_changeBar_8 : decode cX4_changeBar 8 = .ok (.iconst (-1), 1) := by decide +kernel
theorem dX4_changeBar_9 : decode cX4_changeBar 9 = .ok (.ireturn, 1) := by decide +kernel
theorem dX4_changeBar_10 : decode cX4_changeBar 10 = .ok (.iload_n 2, 1) := by decide +kernel
theorem dX4_changeBar_11 : decode cX4_changeBar 11 = .ok (.iconst 1, 1) := by decide +kernel
theorem dX4_changeBar_12 : decode cX4_changeBar 12 = .ok (.bipush 12, 2) := by decide +kernel
theorem dX4_changeBar_14 : decode cX4_changeBar 14 = .ok (.invokestatic 68, 3) := by decide +kernel
theorem dX4_changeBar_17 : decode cX4_changeBar 17 = .ok (.ifCond .eq 15, 3) := by decide +kernel
theorem dX4_changeBar_20 : decode cX4_changeBar 20 = .ok (.iload_n 3, 1) := by decide +kernel
theorem dX4_changeBar_21 : decode cX4_changeBar 21 = .ok (.bipush 20, 2) := by decide +kernel
theorem dX4_changeBar_23 : decode cX4_changeBar 23 = .ok (.sipush 240, 3) := by decide +kernel
theorem dX4_changeBar_26 : decode cX4_changeBar 26 = .ok (.invokestatic 68, 3) := by decide +kernel
theorem dX4_changeBar_29 : decode cX4_changeBar 29 = .ok (.ifCond .ne 6, 3) := by decide +kernel
theorem dX4_changeBar_32 : decode cX4_changeBar 32 = .ok (.bipush (-2), 2) := by decide +kernel
theorem dX4_changeBar_34 : decode cX4_changeBar 34 = .ok (.ireturn, 1) := by decide +kernel
theorem dX4_changeBar_35 : decode cX4_changeBar 35 = .ok (.aload_n 0, 1) := by decide +kernel
theorem dX4_changeBar_36 : decode cX4_changeBar 36 = .ok (.getfield 18, 3) := by decide +kernel
theorem dX4_changeBar_39 : decode cX4_changeBar 39 = .ok (.iload_n 1, 1) := by decide +kernel
theorem dX4_changeBar_40 : decode cX4_changeBar 40 = .ok (.iload_n 2, 1) := by decide +kernel
theorem dX4_changeBar_41 : decode cX4_changeBar 41 = .ok (.iastore, 1) := by decide +kernel
theorem dX4_changeBar_42 : decode cX4_changeBar 42 = .ok (.aload_n 0, 1) := by decide +kernel
theorem dX4_changeBar_43 : decode cX4_changeBar 43 = .ok (.getfield 22, 3) := by decide +kernel
theorem dX4_changeBar_46 : decode cX4_changeBar 46 = .ok (.iload_n 1, 1) := by decide +kernel
theorem dX4_changeBar_47 : decode cX4_changeBar 47 = .ok (.iload_n 3, 1) := by decide +kernel
theorem dX4_changeBar_48 : decode cX4_changeBar 48 = .ok (.iastore, 1) := by decide +kernel
theorem dX4_changeBar_49 : decode cX4_changeBar 49 = .ok (.aload_n 0, 1) := by decide +kernel
theorem dX4_changeBar_50 : decode cX4_changeBar 50 = .ok (.iload_n 1, 1) := by decide +kernel
theorem dX4_changeBar_51 : decode cX4_changeBar 51 = .ok (.invokevirtual 76, 3) := by decide +kernel
theorem dX4_changeBar_54 : decode cX4_changeBar 54 = .ok (.ireturn, 1) := by decide +kernel
theorem dX4_addRepeat_0 : decode cX4_addRepeat 0 = .ok (.aload_n 0, 1) := by decide +kernel
theorem dX4_addRepeat_1 : decode cX4_addRepeat 1 = .ok (.iload_n 1, 1) := by decide +kernel
theorem dX4_addRepeat_2 : decode cX4_addRepeat 2 = .ok (.iload_n 2, 1) := by decide +kernel
theorem dX4_addRepeat_3 : decode cX4_addRepeat 3 = .ok (.invokevirtual 80, 3) := by decide +kernel
theorem dX4_addRepeat_6 : decode cX4_addRepeat 6 = .ok (.istore_n 3, 1) := by decide +kernel
theorem dX4_addRepeat_7 : decode cX4_addRepeat 7 = .ok (.iload_n 3, 1) := by decide +kernel
theorem dX4_addRepeat_8 : decode cX4_addRepeat 8 = .ok (.ifCond .ge 5, 3) := by decide +kernel
theorem dX4_addRepeat_11 : decode cX4_addRepeat 11 = .ok (.iload_n 3, 1) := by decide +kernel
theorem dX4_addRepeat_12 : decode cX4_addRepeat 12 = .ok (.ireturn, 1) := by decide +kernel
theorem dX4_addRepeat_13 : decode cX4_addRepeat 13 = .ok (.aload_n 0, 1) := by decide +kernel
theorem dX4_addRepeat_14 : decode cX4_addRepeat 14 = .ok (.getfield 30, 3) := by decide +kernel
theorem dX4_addRepeat_17 : decode cX4_addRepeat 17 = .ok (.invokevirtual 83, 3) := by decide +kernel
theorem dX4_addRepeat_20 : decode cX4_addRepeat 20 = .ok (.ifCond .eq 6, 3) := by decide +kernel
theorem dX4_addRepeat_23 : decode cX4_addRepeat 23 = .ok (.bipush (-4), 2) := by decide +kernel
theorem dX4_addRepeat_25 : decode cX4_addRepeat 25 = .ok (.ireturn, 1) := by decide +kernel
theorem dX4_addRepeat_26 : decode cX4_addRepeat 26 = .ok (.aload_n 0, 1) := by decide +kernel
theorem dX4_addRepeat_27 : decode cX4_addRepeat 27 = .ok (.getfield 30, 3) := by decide +kernel
theorem dX4_addRepeat_30 : decode cX4_addRepeat 30 = .ok (.iload_n 1, 1) := by decide +kernel
theorem dX4_addRepeat_31 : decode cX4_addRepeat 31 = .ok (.iload_n 2, 1) := by decide +kernel
theorem dX4_addRepeat_32 : decode cX4_addRepeat 32 = .ok (.invokevirtual 87, 3) := by decide +kernel
theorem dX4_addRepeat_35 : decode cX4_addRepeat 35 = .ok (.ifCond .eq 8, 3) := by decide +kernel
theorem dX4_addRepeat_38 : decode cX4_addRepeat 38 = .ok (.bipush (-5), 2) := by decide +kernel
theorem dX4_addRepeat_40 : decode cX4_addRepeat 40 = .ok (.goto 12, 3) := by decide +kernel
theorem dX4_addRepeat_43 : decode cX4_addRepeat 43 = .ok (.aload_n 0, 1) := by decide +kernel
theorem dX4_addRepeat_44 : decode cX4_addRepeat 44 = .ok (.getfield 30, 3) := by decide +kernel
theorem dX4_addRepeat_47 : decode cX4_addRepeat 47 = .ok (.iload_n 1, 1) := by decide +kernel
theorem dX4_addRepeat_48 : decode cX4_addRepeat 48 = .ok (.iload_n 2, 1) := by decide +kernel
theorem dX4_addRepeat_49 : decode cX4_addRepeat 49 = .ok (.invokevirtual 91, 3) := by decide +kernel
theorem dX4_addRepeat_52 : decode cX4_addRepeat 52 = .ok (.ireturn, 1) := by decide +kernel
theorem dX4_addCut_0 : decode cX4_addCut 0 = .ok (.aload_n 0, 1) := by decide +kernel
theorem dX4_addCut_1 : decode cX4_addCut 1 = .ok (.iload_n 1, 1) := by decide +kernel
theorem dX4_addCut_2 : decode cX4_addCut 2 = .ok (.iload_n 2, 1) := by decide +kernel
theorem dX4_addCut_3 : decode cX4_addCut 3 = .ok (.invokevirtual 80, 3) := by decide +kernel
theorem dX4_addCut_6 : decode cX4_addCut 6 = .ok (.istore_n 3, 1) := by decide +kernel
theorem dX4_addCut_7 : decode cX4_addCut 7 = .ok (.iload_n 3, 1) := by decide +kernel
theorem dX4_addCut_8 : decode cX4_addCut 8 = .ok (.ifCond .ge 7, 3) := by decide +kernel
theorem dX4_addCut_11 : decode cX4_addCut 11 = .ok (.iload_n 3, 1) := by decide +kernel
theorem dX4_addCut_12 : decode cX4_addCut 12 = .ok (.goto 12, 3) := by decide +kernel
theorem dX4_addCut_15 : decode cX4_addCut 15 = .ok (.aload_n 0, 1) := by decide +kernel
theorem dX4_addCut_16 : decode cX4_addCut 16 = .ok (.getfield 34, 3) := by decide +kernel
theorem dX4_addCut_19 : decode cX4_addCut 19 = .ok (.iload_n 1, 1) := by decide +kernel
theorem dX4_addCut_20 : decode cX4_addCut 20 = .ok (.iload_n 2, 1) := by decide +kernel
theorem dX4_addCut_21 : decode cX4_addCut 21 = .ok (.invokevirtual 91, 3) := by decide +kernel
theorem dX4_addCut_24 : decode cX4_addCut 24 = .ok (.ireturn, 1) := by decide +kernel
theorem dX4_addBlackout_0 : decode cX4_addBlackout 0 = .ok (.iload_n 1, 1) := by decide +kernel
theorem dX4_addBlackout_1 : decode cX4_addBlackout 1 = .ok (.ifCond .lt 15, 3) := by decide +kernel
theorem dX4_addBlackout_4 : decode cX4_addBlackout 4 = .ok (.iload_n 2, 1) := by decide +kernel
theorem dX4_addBlackout_5 : decode cX4_addBlackout 5 = .ok (.iload_n 1, 1) := by decide +kernel
theorem dX4_addBlackout_6 : decode cX4_addBlackout 6 = .ok (.if_icmp .lt 10, 3) := by decide +kernel
theorem dX4_addBlackout_9 : decode cX4_addBlackout 9 = .ok (.iload_n 2, 1) := by decide +kernel
theorem dX4_addBlackout_10 : decode cX4_addBlackout 10 = .ok (.sipush 199, 3) := by decide +kernel
theorem dX4_addBlackout_13 : decode cX4_addBlackout 13 = .ok (.if_icmp .le 6, 3) := by decide +kernel
theorem dX4_addBlackout_16 : decode cX4_addBlackout 16 = .ok (.bipush (-2), 2) := by decide +kernel
theorem dX4_addBlackout_18 : decode cX4_addBlackout 18 = .ok (.ireturn, 1) := by decide +kernel
theorem dX4_addBlackout_19 : decode cX4_addBlackout 19 = .ok (.aload_n 0, 1) := by decide +kernel
theorem dX4_addBlackout_20 : decode cX4_addBlackout 20 = .ok (.getfield 37, 3) := by decide +kernel
theorem dX4_addBlackout_23 : decode cX4_addBlackout 23 = .ok (.iload_n 1, 1) := by decide +kernel
theorem dX4_addBlackout_24 : decode cX4_addBlackout 24 = .ok (.iload_n 2, 1) := by decide +kernel
theorem dX4_addBlackout_25 : decode cX4_addBlackout 25 = .ok (.invokevirtual 91, 3) := by decide +kernel
theorem dX4_addBlackout_28 : decode cX4_addBlackout 28 = .ok (.ireturn, 1) := by decide +kernel
theorem dX4_removeSpan_0 : decode cX4_removeSpan 0 = .ok (.iload_n 1, 1) := by decide +kernel
theorem dX4_removeSpan_1 : decode cX4_removeSpan 1 = .ok (.tableswitch 54 0 2 #[27, 36, 45], 27) := by decide +kernel
theorem dX4_removeSpan_28 : decode cX4_removeSpan 28 = .ok (.aload_n 0, 1) := by decide +kernel
theorem dX4_removeSpan_29 : decode cX4_removeSpan 29 = .ok (.getfield 30, 3) := by decide +kernel
theorem dX4_removeSpan_32 : decode cX4_removeSpan 32 = .ok (.iload_n 2, 1) := by decide +kernel
theorem dX4_removeSpan_33 : decode cX4_removeSpan 33 = .ok (.invokevirtual 94, 3) := by decide +kernel
theorem dX4_removeSpan_36 : decode cX4_removeSpan 36 = .ok (.ireturn, 1) := by decide +kernel
theorem dX4_removeSpan_37 : decode cX4_removeSpan 37 = .ok (.aload_n 0, 1) := by decide +kernel
theorem dX4_removeSpan_38 : decode cX4_removeSpan 38 = .ok (.getfield 34, 3) := by decide +kernel
theorem dX4_removeSpan_41 : decode cX4_removeSpan 41 = .ok (.iload_n 2, 1) := by decide +kernel
theorem dX4_removeSpan_42 : decode cX4_removeSpan 42 = .ok (.invokevirtual 94, 3) := by decide +kernel
theorem dX4_removeSpan_45 : decode cX4_removeSpan 45 = .ok (.ireturn, 1) := by decide +kernel
theorem dX4_removeSpan_46 : decode cX4_removeSpan 46 = .ok (.aload_n 0, 1) := by decide +kernel
theorem dX4_removeSpan_47 : decode cX4_removeSpan 47 = .ok (.getfield 37, 3) := by decide +kernel
theorem dX4_removeSpan_50 : decode cX4_removeSpan 50 = .ok (.iload_n 2, 1) := by decide +kernel
theorem dX4_removeSpan_51 : decode cX4_removeSpan 51 = .ok (.invokevirtual 94, 3) := by decide +kernel
theorem dX4_removeSpan_54 : decode cX4_removeSpan 54 = .ok (.ireturn, 1) := by decide +kernel
theorem dX4_removeSpan_55 : decode cX4_removeSpan 55 = .ok (.bipush (-2), 2) := by decide +kernel
theorem dX4_removeSpan_57 : decode cX4_removeSpan 57 = .ok (.ireturn, 1) := by decide +kernel
theorem dX4_addTitle_0 : decode cX4_addTitle 0 = .ok (.aload_n 0, 1) := by decide +kernel
theorem dX4_addTitle_1 : decode cX4_addTitle 1 = .ok (.iload_n 2, 1) := by decide +kernel
theorem dX4_addTitle_2 : decode cX4_addTitle 2 = .ok (.invokevirtual 60, 3) := by decide +kernel
theorem dX4_addTitle_5 : decode cX4_addTitle 5 = .ok (.ifCond .ne 5, 3) := by decide +kernel
theorem dX4_addTitle_8 : decode cX4_addTitle 8 = .ok (.iconst (-1), 1) := by decide +kernel
theorem dX4_addTitle_9 : decode cX4_addTitle 9 = .ok (.ireturn, 1) := by decide +kernel
theorem dX4_addTitle_10 : decode cX4_addTitle 10 = .ok (.iload_n 1, 1) := by decide +kernel
theorem dX4_addTitle_11 : decode cX4_addTitle 11 = .ok (.iconst 0, 1) := by decide +kernel
theorem dX4_addTitle_12 : decode cX4_addTitle 12 = .ok (.iconst 2, 1) := by decide +kernel
theorem dX4_addTitle_13 : decode cX4_addTitle 13 = .ok (.invokestatic 68, 3) := by decide +kernel
theorem dX4_addTitle_16 : decode cX4_addTitle 16 = .ok (.ifCond .eq 28, 3) := by decide +kernel
theorem dX4_addTitle_19 : decode cX4_addTitle 19 = .ok (.iload_n 3, 1) := by decide +kernel
theorem dX4_addTitle_20 : decode cX4_addTitle 20 = .ok (.iconst 1, 1) := by decide +kernel
theorem dX4_addTitle_21 : decode cX4_addTitle 21 = .ok (.bipush 20, 2) := by decide +kernel
theorem dX4_addTitle_23 : decode cX4_addTitle 23 = .ok (.invokestatic 68, 3) := by decide +kernel
theorem dX4_addTitle_26 : decode cX4_addTitle 26 = .ok (.ifCond .eq 18, 3) := by decide +kernel
theorem dX4_addTitle_29 : decode cX4_addTitle 29 = .ok (.iload 4, 2) := by decide +kernel
theorem dX4_addTitle_31 : decode cX4_addTitle 31 = .ok (.iconst 1, 1) := by decide +kernel
theorem dX4_addTitle_32 : decode cX4_addTitle 32 = .ok (.bipush 80, 2) := by decide +kernel
theorem dX4_addTitle_34 : decode cX4_addTitle 34 = .ok (.invokestatic 68, 3) := by decide +kernel
theorem dX4_addTitle_37 : decode cX4_addTitle 37 = .ok (.ifCond .eq 7, 3) := by decide +kernel
theorem dX4_addTitle_40 : decode cX4_addTitle 40 = .ok (.iconst 1, 1) := by decide +kernel
theorem dX4_addTitle_41 : decode cX4_addTitle 41 = .ok (.goto 4, 3) := by decide +kernel
theorem dX4_addTitle_44 : decode cX4_addTitle 44 = .ok (.iconst 0, 1) := by decide +kernel
theorem dX4_addTitle_45 : decode cX4_addTitle 45 = .ok (.istore 5, 2) := by decide +kernel
theorem dX4_addTitle_47 : decode cX4_addTitle 47 = .ok (.iload 5, 2) := by decide +kernel
theorem dX4_addTitle_49 : decode cX4_addTitle 49 = .ok (.ifCond .eq 18, 3) := by decide +kernel
theorem dX4_addTitle_52 : decode cX4_addTitle 52 = .ok (.aload_n 0, 1) := by decide +kernel
theorem dX4_addTitle_53 : decode cX4_addTitle 53 = .ok (.getfield 43, 3) := by decide +kernel
theorem dX4_addTitle_56 : decode cX4_addTitle 56 = .ok (.iload_n 1, 1) := by decide +kernel
theorem dX4_addTitle_57 : decode cX4_addTitle 57 = .ok (.iload_n 2, 1) := by decide +kernel
theorem dX4_addTitle_58 : decode cX4_addTitle 58 = .ok (.iload_n 3, 1) := by decide +kernel
theorem dX4_addTitle_59 : decode cX4_addTitle 59 = .ok (.iload 4, 2) := by decide +kernel
theorem dX4_addTitle_61 : decode cX4_addTitle 61 = .ok (.invokevirtual 97, 3) := by decide +kernel
theorem dX4_addTitle_64 : decode cX4_addTitle 64 = .ok (.goto 5, 3) := by decide +kernel
theorem dX4_addTitle_67 : decode cX4_addTitle 67 = .ok (.bipush (-2), 2) := by decide +kernel
theorem dX4_addTitle_69 : decode cX4_addTitle 69 = .ok (.ireturn, 1) := by decide +kernel
theorem dX4_removeTitle_0 : decode cX4_removeTitle 0 = .ok (.aload_n 0, 1) := by decide +kernel
theorem dX4_removeTitle_1 : decode cX4_removeTitle 1 = .ok (.getfield 43, 3) := by decide +kernel
theorem dX4_removeTitle_4 : decode cX4_removeTitle 4 = .ok (.iload_n 1, 1) := by decide +kernel
theorem dX4_removeTitle_5 : decode cX4_removeTitle 5 = .ok (.invokevirtual 100, 3) := by decide +kernel
theorem dX4_removeTitle_8 : decode cX4_removeTitle 8 = .ok (.ireturn, 1) := by decide +kernel
theorem dX4_highestBarInUse_0 : decode cX4_highestBarInUse 0 = .ok (.aload_n 0, 1) := by decide +kernel
theorem dX4_highestBarInUse_1 : decode cX4_highestBarInUse 1 = .ok (.getfield 43, 3) := by decide +kernel
theorem dX4_highestBarInUse_4 : decode cX4_highestBarInUse 4 = .ok (.invokevirtual 101, 3) := by decide +kernel
theorem dX4_highestBarInUse_7 : decode cX4_highestBarInUse 7 = .ok (.aload_n 0, 1) := by decide +kernel
theorem dX4_highestBarInUse_8 : decode cX4_highestBarInUse 8 = .ok (.getfield 30, 3) := by decide +kernel
theorem dX4_highestBarInUse_11 : decode cX4_highestBarInUse 11 = .ok (.invokevirtual 104, 3) := by decide +kernel
theorem dX4_highestBarInUse_14 : decode cX4_highestBarInUse 14 = .ok (.aload_n 0, 1) := by decide +kernel
theorem dX4_highestBarInUse_15 : decode cX4_highestBarInUse 15 = .ok (.getfield 34, 3) := by decide +kernel
theorem dX4_highestBarInUse_18 : decode cX4_highestBarInUse 18 = .ok (.invokevirtual 104, 3) := by decide +kernel
theorem dX4_highestBarInUse_21 : decode cX4_highestBarInUse 21 = .ok (.invokestatic 107, 3) := by decide +kernel
theorem dX4_highestBarInUse_24 : decode cX4_highestBarInUse 24 = .ok (.invokestatic 107, 3) := by decide +kernel
theorem dX4_highestBarInUse_27 : decode cX4_highestBarInUse 27 = .ok (.ireturn, 1) := by decide +kernel
theorem dX5_init_0 : decode cX5_init 0 = .ok (.aload_n 0, 1) := by decide +kernel
theorem dX5_init_1 : decode cX5_init 1 = .ok (.invokespecial 3, 3) := by decide +kernel
theorem dX5_init_4 : decode cX5_init 4 = .ok (.aload_n 0, 1) := by decide +kernel
theorem dX5_init_5 : decode cX5_init 5 = .ok (.bipush 40, 2) := by decide +kernel
theorem dX5_init_7 : decode cX5_init 7 = .ok (.newarray .int, 2) := by decide +kernel
theorem dX5_init_9 : decode cX5_init 9 = .ok (.putfield 9, 3) := by decide +kernel
theorem dX5_init_12 : decode cX5_init 12 = .ok (.aload_n 0, 1) := by decide +kernel
theorem dX5_init_13 : decode cX5_init 13 = .ok (.bipush 40, 2) := by decide +kernel
theorem dX5_init_15 : decode cX5_init 15 = .ok (.newarray .int, 2) := by decide +kernel
theorem dX5_init_17 : decode cX5_init 17 = .ok (.putfield 15, 3) := by decide +kernel
theorem dX5_init_20 : decode cX5_init 20 = .ok (.aload_n 0, 1) := by decide +kernel
theorem dX5_init_21 : decode cX5_init 21 = .ok (.bipush 40, 2) := by decide +kernel
theorem dX5_init_23 : decode cX5_init 23 = .ok (.newarray .int, 2) := by decide +kernel
theorem dX5_init_25 : decode cX5_init 25 = .ok (.putfield 18, 3) := by decide +kernel
theorem dX5_init_28 : decode cX5_init 28 = .ok (.aload_n 0, 1) := by decide +kernel
theorem dX5_init_29 : decode cX5_init 29 = .ok (.bipush 40, 2) := by decide +kernel
theorem dX5_init_31 : decode cX5_init 31 = .ok (.newarray .int, 2) := by decide +kernel
theorem dX5_init_33 : decode cX5_init 33 = .ok (.putfield 21, 3) := by decide +kernel
theorem dX5_init_36 : decode cX5_init 36 = .ok (.aload_n 0, 1) := by decide +kernel
theorem dX5_init_37 : decode cX5_init 37 = .ok (.bipush 40, 2) := by decide +kernel
theorem dX5_init_39 : decode cX5_init 39 = .ok (.newarray .int, 2) := by decide +kernel
theorem dX5_init_41 : decode cX5_init 41 = .ok (.putfield 24, 3) := by decide +kernel
theorem dX5_init_44 : decode cX5_init 44 = .ok (.aload_n 0, 1) := by decide +kernel
theorem dX5_init_45 : decode cX5_init 45 = .ok (.bipush 40, 2) := by decide +kernel
theorem dX5_init_47 : decode cX5_init 47 = .ok (.newarray .int, 2) := by decide +kernel
theorem dX5_init_49 : decode cX5_init 49 = .ok (.putfield 27, 3) := by decide +kernel
theorem dX5_init_52 : decode cX5_init 52 = .ok (.aload_n 0, 1) := by decide +kernel
theorem dX5_init_53 : decode cX5_init 53 = .ok (.bipush 40, 2) := by decide +kernel
theorem dX5_init_55 : decode cX5_init 55 = .ok (.newarray .int, 2) := by decide +kernel
theorem dX5_init_57 : decode cX5_init 57 = .ok (.putfield 30, 3) := by decide +kernel
theorem dX5_init_60 : decode cX5_init 60 = .ok (.return_, 1) := by decide +kernel
theorem dX5_has_0 : decode cX5_has 0 = .ok (.iload_n 1, 1) := by decide +kernel
theorem dX5_has_1 : decode cX5_has 1 = .ok (.ifCond .lt 15, 3) := by decide +kernel
theorem dX5_has_4 : decode cX5_has 4 = .ok (.iload_n 1, 1) := by decide +kernel
theorem dX5_has_5 : decode cX5_has 5 = .ok (.aload_n 0, 1) := by decide +kernel
theorem dX5_has_6 : decode cX5_has 6 = .ok (.getfield 33, 3) := by decide +kernel
theorem dX5_has_9 : decode cX5_has 9 = .ok (.if_icmp .ge 7, 3) := by decide +kernel
theorem dX5_has_12 : decode cX5_has 12 = .ok (.iconst 1, 1) := by decide +kernel
theorem dX5_has_13 : decode cX5_has 13 = .ok (.goto 4, 3) := by decide +kernel
theorem dX5_has_16 : decode cX5_has 16 = .ok (.iconst 0, 1) := by decide +kernel
theorem dX5_has_17 : decode cX5_has 17 = .ok (.ireturn, 1) := by decide +kernel
theorem dX5_shows_0 : decode cX5_shows 0 = .ok (.aload_n 0, 1) := by decide +kernel
theorem dX5_shows_1 : decode cX5_shows 1 = .ok (.iload_n 1, 1) := by decide +kernel
theorem dX5_shows_2 : decode cX5_shows 2 = .ok (.invokevirtual 37, 3) := by decide +kernel
theorem dX5_shows_5 : decode cX5_shows 5 = .ok (.ifCond .eq 16, 3) := by decide +kernel
theorem dX5_shows_8 : decode cX5_shows 8 = .ok (.aload_n 0, 1) := by decide +kernel
theorem dX5_shows_9 : decode cX5_shows 9 = .ok (.getfield 24, 3) := by decide +kernel
theorem dX5_shows_12 : decode cX5_shows 12 = .ok (.iload_n 1, 1) := by decide +kernel
theorem dX5_shows_13 : decode cX5_shows 13 = .ok (.iaload, 1) := by decide +kernel
theorem dX5_shows_14 : decode cX5_shows 14 = .ok (.ifCond .ne 7, 3) := by decide +kernel
theorem dX5_shows_17 : decode cX5_shows 17 = .ok (.iconst 1, 1) := by decide +kernel
theorem dX5_shows_18 : decode cX5_shows 18 = .ok (.goto 4, 3) := by decide +kernel
theorem dX5_shows_21 : decode cX5_shows 21 = .ok (.iconst 0, 1) := by decide +kernel
theorem dX5_shows_22 : decode cX5_shows 22 = .ok (.ireturn, 1) := by decide +kernel
theorem dX5_add_0 : decode cX5_add 0 = .ok (.aload_n 0, 1) := by decide +kernel
theorem dX5_add_1 : decode cX5_add 1 = .ok (.getfield 33, 3) := by decide +kernel
theorem dX5_add_4 : decode cX5_add 4 = .ok (.bipush 40, 2) := by decide +kernel
theorem dX5_add_6 : decode cX5_add 6 = .ok (.if_icmp .lt 4, 3) := by decide +kernel
theorem dX5_add_9 : decode cX5_add 9 = .ok (.return_, 1) := by decide +kernel
theorem dX5_add_10 : decode cX5_add 10 = .ok (.aload_n 0, 1) := by decide +kernel
theorem dX5_add_11 : decode cX5_add 11 = .ok (.getfield 9, 3) := by decide +kernel
theorem dX5_add_14 : decode cX5_add 14 = .ok (.aload_n 0, 1) := by decide +kernel
theorem dX5_add_15 : decode cX5_add 15 = .ok (.getfield 33, 3) := by decide +kernel
theorem dX5_add_18 : decode cX5_add 18 = .ok (.iload_n 1, 1) := by decide +kernel
theorem dX5_add_19 : decode cX5_add 19 = .ok (.iastore, 1) := by decide +kernel
theorem dX5_add_20 : decode cX5_add 20 = .ok (.aload_n 0, 1) := by decide +kernel
theorem dX5_add_21 : decode cX5_add 21 = .ok (.getfield 15, 3) := by decide +kernel
theorem dX5_add_24 : decode cX5_add 24 = .ok (.aload_n 0, 1) := by decide +kernel
theorem dX5_add_25 : decode cX5_add 25 = .ok (.getfield 33, 3) := by decide +kernel
theorem dX5_add_28 : decode cX5_add 28 = .ok (.iload_n 2, 1) := by decide +kernel
theorem dX5_add_29 : decode cX5_add 29 = .ok (.iastore, 1) := by decide +kernel
theorem dX5_add_30 : decode cX5_add 30 = .ok (.aload_n 0, 1) := by decide +kernel
theorem dX5_add_31 : decode cX5_add 31 = .ok (.getfield 18, 3) := by decide +kernel
theorem dX5_add_34 : decode cX5_add 34 = .ok (.aload_n 0, 1) := by decide +kernel
theorem dX5_add_35 : decode cX5_add 35 = .ok (.getfield 33, 3) := by decide +kernel
theorem dX5_add_38 : decode cX5_add 38 = .ok (.iload_n 3, 1) := by decide +kernel
theorem dX5_add_39 : decode cX5_add 39 = .ok (.iastore, 1) := by decide +kernel
theorem dX5_add_40 : decode cX5_add 40 = .ok (.aload_n 0, 1) := by decide +kernel
theorem dX5_add_41 : decode cX5_add 41 = .ok (.getfield 21, 3) := by decide +kernel
theorem dX5_add_44 : decode cX5_add 44 = .ok (.aload_n 0, 1) := by decide +kernel
theorem dX5_add_45 : decode cX5_add 45 = .ok (.getfield 33, 3) := by decide +kernel
theorem dX5_add_48 : decode cX5_add 48 = .ok (.iload 4, 2) := by decide +kernel
theorem dX5_add_50 : decode cX5_add 50 = .ok (.iastore, 1) := by decide +kernel
theorem dX5_add_51 : decode cX5_add 51 = .ok (.aload_n 0, 1) := by decide +kernel
theorem dX5_add_52 : decode cX5_add 52 = .ok (.dup, 1) := by decide +kernel
theorem dX5_add_53 : decode cX5_add 53 = .ok (.getfield 33, 3) := by decide +kernel
theorem dX5_add_56 : decode cX5_add 56 = .ok (.iconst 1, 1) := by decide +kernel
theorem dX5_add_57 : decode cX5_add 57 = .ok (.iadd, 1) := by decide +kernel
theorem dX5_add_58 : decode cX5_add 58 = .ok (.putfield 33, 3) := by decide +kernel
theorem dX5_add_61 : decode cX5_add 61 = .ok (.return_, 1) := by decide +kernel
theorem dX5_lookAt_0 : decode cX5_lookAt 0 = .ok (.aload_n 0, 1) := by decide +kernel
theorem dX5_lookAt_1 : decode cX5_lookAt 1 = .ok (.getfield 18, 3) := by decide +kernel
theorem dX5_lookAt_4 : decode cX5_lookAt 4 = .ok (.iload_n 1, 1) := by decide +kernel
theorem dX5_lookAt_5 : decode cX5_lookAt 5 = .ok (.iaload, 1) := by decide +kernel
theorem dX5_lookAt_6 : decode cX5_lookAt 6 = .ok (.istore 5, 2) := by decide +kernel
theorem dX5_lookAt_8 : decode cX5_lookAt 8 = .ok (.aload_n 0, 1) := by decide +kernel
theorem dX5_lookAt_9 : decode cX5_lookAt 9 = .ok (.iload_n 2, 1) := by decide +kernel
theorem dX5_lookAt_10 : decode cX5_lookAt 10 = .ok (.invokevirtual 37, 3) := by decide +kernel
theorem dX5_lookAt_13 : decode cX5_lookAt 13 = .ok (.ifCond .eq 29, 3) := by decide +kernel
theorem dX5_lookAt_16 : decode cX5_lookAt 16 = .ok (.iload 5, 2) := by decide +kernel
theorem dX5_lookAt_18 : decode cX5_lookAt 18 = .ok (.iload_n 3, 1) := by decide +kernel
theorem dX5_lookAt_19 : decode cX5_lookAt 19 = .ok (.ifCond .eq 12, 3) := by decide +kernel
theorem dX5_lookAt_22 : decode cX5_lookAt 22 = .ok (.aload_n 0, 1) := by decide +kernel
theorem dX5_lookAt_23 : decode cX5_lookAt 23 = .ok (.getfield 30, 3) := by decide +kernel
theorem dX5_lookAt_26 : decode cX5_lookAt 26 = .ok (.iload_n 2, 1) := by decide +kernel
theorem dX5_lookAt_27 : decode cX5_lookAt 27 = .ok (.iaload, 1) := by decide +kernel
theorem dX5_lookAt_28 : decode cX5_lookAt 28 = .ok (.goto 9, 3) := by decide +kernel
theorem dX5_lookAt_31 : decode cX5_lookAt 31 = .ok (.aload_n 0, 1) := by decide +kernel
theorem dX5_lookAt_32 : decode cX5_lookAt 32 = .ok (.getfield 27, 3) := by decide +kernel
theorem dX5_lookAt_35 : decode cX5_lookAt 35 = .ok (.iload_n 2, 1) := by decide +kernel
theorem dX5_lookAt_36 : decode cX5_lookAt 36 = .ok (.iaload, 1) := by decide +kernel
theorem dX5_lookAt_37 : decode cX5_lookAt 37 = .ok (.invokestatic 41, 3) := by decide +kernel
theorem dX5_lookAt_40 : decode cX5_lookAt 40 = .ok (.istore 5, 2) := by decide +kernel
theorem dX5_lookAt_42 : decode cX5_lookAt 42 = .ok (.iload 5, 2) := by decide +kernel
theorem dX5_lookAt_44 : decode cX5_lookAt 44 = .ok (.aload_n 0, 1) := by decide +kernel
theorem dX5_lookAt_45 : decode cX5_lookAt 45 = .ok (.getfield 21, 3) := by decide +kernel
theorem dX5_lookAt_48 : decode cX5_lookAt 48 = .ok (.iload_n 1, 1) := by decide +kernel
theorem dX5_lookAt_49 : decode cX5_lookAt 49 = .ok (.iaload, 1) := by decide +kernel
theorem dX5_lookAt_50 : decode cX5_lookAt 50 = .ok (.invokestatic 41, 3) := by decide +kernel
theorem dX5_lookAt_53 : decode cX5_lookAt 53 = .ok (.istore 6, 2) := by decide +kernel
theorem dX5_lookAt_55 : decode cX5_lookAt 55 = .ok (.iload 6, 2) := by decide +kernel
theorem dX5_lookAt_57 : decode cX5_lookAt 57 = .ok (.iload 5, 2) := by decide +kernel
theorem dX5_lookAt_59 : decode cX5_lookAt 59 = .ok (.isub, 1) := by decide +kernel
theorem dX5_lookAt_60 : decode cX5_lookAt 60 = .ok (.iload 4, 2) := by decide +kernel
theorem dX5_lookAt_62 : decode cX5_lookAt 62 = .ok (.if_icmp .ge 11, 3) := by decide +kernel
theorem dX5_lookAt_65 : decode cX5_lookAt 65 = .ok (.aload_n 0, 1) := by decide +kernel
theorem dX5_lookAt_66 : decode cX5_lookAt 66 = .ok (.getfield 24, 3) := by decide +kernel
theorem dX5_lookAt_69 : decode cX5_lookAt 69 = .ok (.iload_n 1, 1) := by decide +kernel
theorem dX5_lookAt_70 : decode cX5_lookAt 70 = .ok (.iconst 2, 1) := by decide +kernel
theorem dX5_lookAt_71 : decode cX5_lookAt 71 = .ok (.iastore, 1) := by decide +kernel
theorem dX5_lookAt_72 : decode cX5_lookAt 72 = .ok (.return_, 1) := by decide +kernel
theorem dX5_lookAt_73 : decode cX5_lookAt 73 = .ok (.aload_n 0, 1) := by decide +kernel
theorem dX5_lookAt_74 : decode cX5_lookAt 74 = .ok (.iload_n 2, 1) := by decide +kernel
theorem dX5_lookAt_75 : decode cX5_lookAt 75 = .ok (.invokevirtual 37, 3) := by decide +kernel
theorem dX5_lookAt_78 : decode cX5_lookAt 78 = .ok (.ifCond .eq 20, 3) := by decide +kernel
theorem dX5_lookAt_81 : decode cX5_lookAt 81 = .ok (.aload_n 0, 1) := by decide +kernel
theorem dX5_lookAt_82 : decode cX5_lookAt 82 = .ok (.getfield 30, 3) := by decide +kernel
theorem dX5_lookAt_85 : decode cX5_lookAt 85 = .ok (.iload_n 2, 1) := by decide +kernel
theorem dX5_lookAt_86 : decode cX5_lookAt 86 = .ok (.aload_n 0, 1) := by decide +kernel
theorem dX5_lookAt_87 : decode cX5_lookAt 87 = .ok (.getfield 30, 3) := by decide +kernel
theorem dX5_lookAt_90 : decode cX5_lookAt 90 = .ok (.iload_n 2, 1) := by decide +kernel
theorem dX5_lookAt_91 : decode cX5_lookAt 91 = .ok (.iaload, 1) := by decide +kernel
theorem dX5_lookAt_92 : decode cX5_lookAt 92 = .ok (.iload 5, 2) := by decide +kernel
theorem dX5_lookAt_94 : decode cX5_lookAt 94 = .ok (.invokestatic 47, 3) := by decide +kernel
theorem dX5_lookAt_97 : decode cX5_lookAt 97 = .ok (.iastore, 1) := by decide +kernel
theorem dX5_lookAt_98 : decode cX5_lookAt 98 = .ok (.aload_n 0, 1) := by decide +kernel
theorem dX5_lookAt_99 : decode cX5_lookAt 99 = .ok (.getfield 24, 3) := by decide +kernel
theorem dX5_lookAt_102 : decode cX5_lookAt 102 = .ok (.iload_n 1, 1) := by decide +kernel
theorem dX5_lookAt_103 : decode cX5_lookAt 103 = .ok (.iconst 0, 1) := by decide +kernel
theorem dX5_lookAt_104 : decode cX5_lookAt 104 = .ok (.iastore, 1) := by decide +kernel
theorem dX5_lookAt_105 : decode cX5_lookAt 105 = .ok (.aload_n 0, 1) := by decide +kernel
theorem dX5_lookAt_106 : decode cX5_lookAt 106 = .ok (.getfield 27, 3) := by decide +kernel
theorem dX5_lookAt_109 : decode cX5_lookAt 109 = .ok (.iload_n 1, 1) := by decide +kernel
theorem dX5_lookAt_110 : decode cX5_lookAt 110 = .ok (.iload 5, 2) := by decide +kernel
theorem dX5_lookAt_112 : decode cX5_lookAt 112 = .ok (.iastore, 1) := by decide +kernel
theorem dX5_lookAt_113 : decode cX5_lookAt 113 = .ok (.aload_n 0, 1) := by decide +kernel
theorem dX5_lookAt_114 : decode cX5_lookAt 114 = .ok (.getfield 30, 3) := by decide +kernel
theorem dX5_lookAt_117 : decode cX5_lookAt 117 = .ok (.iload_n 1, 1) := by decide +kernel
theorem dX5_lookAt_118 : decode cX5_lookAt 118 = .ok (.iload 6, 2) := by decide +kernel
theorem dX5_lookAt_120 : decode cX5_lookAt 120 = .ok (.iastore, 1) := by decide +kernel
theorem dX5_lookAt_121 : decode cX5_lookAt 121 = .ok (.return_, 1) := by decide +kernel
theorem dX5_titleAt_0 : decode cX5_titleAt 0 = .ok (.iconst 0, 1) := by decide +kernel
theorem dX5_titleAt_1 : decode cX5_titleAt 1 = .ok (.istore_n 2, 1) := by decide +kernel
theorem dX5_titleAt_2 : decode cX5_titleAt 2 = .ok (.iload_n 2, 1) := by decide +kernel
theorem dX5_titleAt_3 : decode cX5_titleAt 3 = .ok (.aload_n 0, 1) := by decide +kernel
theorem dX5_titleAt_4 : decode cX5_titleAt 4 = .ok (.getfield 33, 3) := by decide +kernel
theorem dX5_titleAt_7 : decode cX5_titleAt 7 = .ok (.if_icmp .ge 45, 3) := by decide +kernel
theorem dX5_titleAt_10 : decode cX5_titleAt 10 = .ok (.aload_n 0, 1) := by decide +kernel
theorem dX5_titleAt_11 : decode cX5_titleAt 11 = .ok (.getfield 24, 3) := by decide +kernel
theorem dX5_titleAt_14 : decode cX5_titleAt 14 = .ok (.iload_n 2, 1) := by decide +kernel
theorem dX5_titleAt_15 : decode cX5_titleAt 15 = .ok (.iaload, 1) := by decide +kernel
theorem dX5_titleAt_16 : decode cX5_titleAt 16 = .ok (.ifCond .ne 30, 3) := by decide +kernel
theorem dX5_titleAt_19 : decode cX5_titleAt 19 = .ok (.aload_n 0, 1) := by decide +kernel
theorem dX5_titleAt_20 : decode cX5_titleAt 20 = .ok (.getfield 27, 3) := by decide +kernel
theorem dX5_titleAt_23 : decode cX5_titleAt 23 = .ok (.iload_n 2, 1) := by decide +kernel
theorem dX5_titleAt_24 : decode cX5_titleAt 24 = .ok (.iaload, 1) := by decide +kernel
theorem dX5_titleAt_25 : decode cX5_titleAt 25 = .ok (.iload_n 1, 1) := by decide +kernel
theorem dX5_titleAt_26 : decode cX5_titleAt 26 = .ok (.if_icmp .gt 20, 3) := by decide +kernel
theorem dX5_titleAt_29 : decode cX5_titleAt 29 = .ok (.iload_n 1, 1) := by decide +kernel
theorem dX5_titleAt_30 : decode cX5_titleAt 30 = .ok (.aload_n 0, 1) := by decide +kernel
theorem dX5_titleAt_31 : decode cX5_titleAt 31 = .ok (.getfield 30, 3) := by decide +kernel
theorem dX5_titleAt_34 : decode cX5_titleAt 34 = .ok (.iload_n 2, 1) := by decide +kernel
theorem dX5_titleAt_35 : decode cX5_titleAt 35 = .ok (.iaload, 1) := by decide +kernel
theorem dX5_titleAt_36 : decode cX5_titleAt 36 = .ok (.if_icmp .ge 10, 3) := by decide +kernel
theorem dX5_titleAt_39 : decode cX5_titleAt 39 = .ok (.aload_n 0, 1) := by decide +kernel
theorem dX5_titleAt_40 : decode cX5_titleAt 40 = .ok (.getfield 9, 3) := by decide +kernel
theorem dX5_titleAt_43 : decode cX5_titleAt 43 = .ok (.iload_n 2, 1) := by decide +kernel
theorem dX5_titleAt_44 : decode cX5_titleAt 44 = .ok (.iaload, 1) := by decide +kernel
theorem dX5_titleAt_45 : decode cX5_titleAt 45 = .ok (.ireturn, 1) := by decide +kernel
theorem dX5_titleAt_46 : decode cX5_titleAt 46 = .ok (.iinc 2 1, 3) := by decide +kernel
theorem dX5_titleAt_49 : decode cX5_titleAt 49 = .ok (.goto (-47), 3) := by decide +kernel
theorem dX5_titleAt_52 : decode cX5_titleAt 52 = .ok (.bipush (-6), 2) := by decide +kernel
theorem dX5_titleAt_54 : decode cX5_titleAt 54 = .ok (.ireturn, 1) := by decide +kernel
theorem dX5_countWith_0 : decode cX5_countWith 0 = .ok (.iconst 0, 1) := by decide +kernel
theorem dX5_countWith_1 : decode cX5_countWith 1 = .ok (.istore_n 2, 1) := by decide +kernel
theorem dX5_countWith_2 : decode cX5_countWith 2 = .ok (.iconst 0, 1) := by decide +kernel
theorem dX5_countWith_3 : decode cX5_countWith 3 = .ok (.istore_n 3, 1) := by decide +kernel
theorem dX5_countWith_4 : decode cX5_countWith 4 = .ok (.iload_n 3, 1) := by decide +kernel
theorem dX5_countWith_5 : decode cX5_countWith 5 = .ok (.aload_n 0, 1) := by decide +kernel
theorem dX5_countWith_6 : decode cX5_countWith 6 = .ok (.getfield 33, 3) := by decide +kernel
theorem dX5_countWith_9 : decode cX5_countWith 9 = .ok (.if_icmp .ge 22, 3) := by decide +kernel
theorem dX5_countWith_12 : decode cX5_countWith 12 = .ok (.aload_n 0, 1) := by decide +kernel
theorem dX5_countWith_13 : decode cX5_countWith 13 = .ok (.getfield 24, 3) := by decide +kernel
theorem dX5_countWith_16 : decode cX5_countWith 16 = .ok (.iload_n 3, 1) := by decide +kernel
theorem dX5_countWith_17 : decode cX5_countWith 17 = .ok (.iaload, 1) := by decide +kernel
theorem dX5_countWith_18 : decode cX5_countWith 18 = .ok (.iload_n 1, 1) := by decide +kernel
theorem dX5_countWith_19 : decode cX5_countWith 19 = .ok (.if_icmp .ne 6, 3) := by decide +kernel
theorem dX5_countWith_22 : decode cX5_countWith 22 = .ok (.iinc 2 1, 3) := by decide +kernel
theorem dX5_countWith_25 : decode cX5_countWith 25 = .ok (.iinc 3 1, 3) := by decide +kernel
theorem dX5_countWith_28 : decode cX5_countWith 28 = .ok (.goto (-24), 3) := by decide +kernel
theorem dX5_countWith_31 : decode cX5_countWith 31 = .ok (.iload_n 2, 1) := by decide +kernel
theorem dX5_countWith_32 : decode cX5_countWith 32 = .ok (.ireturn, 1) := by decide +kernel
theorem dX5_countOf_0 : decode cX5_countOf 0 = .ok (.iconst 0, 1) := by decide +kernel
theorem dX5_countOf_1 : decode cX5_countOf 1 = .ok (.istore_n 2, 1) := by decide +kernel
theorem dX5_countOf_2 : decode cX5_countOf 2 = .ok (.iconst 0, 1) := by decide +kernel
theorem dX5_countOf_3 : decode cX5_countOf 3 = .ok (.istore_n 3, 1) := by decide +kernel
theorem dX5_countOf_4 : decode cX5_countOf 4 = .ok (.iload_n 3, 1) := by decide +kernel
theorem dX5_countOf_5 : decode cX5_countOf 5 = .ok (.aload_n 0, 1) := by decide +kernel
theorem dX5_countOf_6 : decode cX5_countOf 6 = .ok (.getfield 33, 3) := by decide +kernel
theorem dX5_countOf_9 : decode cX5_countOf 9 = .ok (.if_icmp .ge 22, 3) := by decide +kernel
theorem dX5_countOf_12 : decode cX5_countOf 12 = .ok (.aload_n 0, 1) := by decide +kernel
theorem dX5_countOf_13 : decode cX5_countOf 13 = .ok (.getfield 9, 3) := by decide +kernel
theorem dX5_countOf_16 : decode cX5_countOf 16 = .ok (.iload_n 3, 1) := by decide +kernel
theorem dX5_countOf_17 : decode cX5_countOf 17 = .ok (.iaload, 1) := by decide +kernel
theorem dX5_countOf_18 : decode cX5_countOf 18 = .ok (.iload_n 1, 1) := by decide +kernel
theorem dX5_countOf_19 : decode cX5_countOf 19 = .ok (.if_icmp .ne 6, 3) := by decide +kernel
theorem dX5_countOf_22 : decode cX5_countOf 22 = .ok (.iinc 2 1, 3) := by decide +kernel
theorem dX5_countOf_25 : decode cX5_countOf 25 = .ok (.iinc 3 1, 3) := by decide +kernel
theorem dX5_countOf_28 : decode cX5_countOf 28 = .ok (.goto (-24), 3) := by decide +kernel
theorem dX5_countOf_31 : decode cX5_countOf 31 = .ok (.iload_n 2, 1) := by decide +kernel
theorem dX5_countOf_32 : decode cX5_countOf 32 = .ok (.ireturn, 1) := by decide +kernel
theorem dX5_countShownOf_0 : decode cX5_countShownOf 0 = .ok (.iconst 0, 1) := by decide +kernel
theorem dX5_countShownOf_1 : decode cX5_countShownOf 1 = .ok (.istore_n 2, 1) := by decide +kernel
theorem dX5_countShownOf_2 : decode cX5_countShownOf 2 = .ok (.iconst 0, 1) := by decide +kernel
theorem dX5_countShownOf_3 : decode cX5_countShownOf 3 = .ok (.istore_n 3, 1) := by decide +kernel
theorem dX5_countShownOf_4 : decode cX5_countShownOf 4 = .ok (.iload_n 3, 1) := by decide +kernel
theorem dX5_countShownOf_5 : decode cX5_countShownOf 5 = .ok (.aload_n 0, 1) := by decide +kernel
theorem dX5_countShownOf_6 : decode cX5_countShownOf 6 = .ok (.getfield 33, 3) := by decide +kernel
theorem dX5_countShownOf_9 : decode cX5_countShownOf 9 = .ok (.if_icmp .ge 31, 3) := by decide +kernel
theorem dX5_countShownOf_12 : decode cX5_countShownOf 12 = .ok (.aload_n 0, 1) := by decide +kernel
theorem dX5_countShownOf_13 : decode cX5_countShownOf 13 = .ok (.getfield 9, 3) := by decide +kernel
theorem dX5_countShownOf_16 : decode cX5_countShownOf 16 = .ok (.iload_n 3, 1) := by decide +kernel
theorem dX5_countShownOf_17 : decode cX5_countShownOf 17 = .ok (.iaload, 1) := by decide +kernel
theorem dX5_countShownOf_18 : decode cX5_countShownOf 18 = .ok (.iload_n 1, 1) := by decide +kernel
theorem dX5_countShownOf_19 : decode cX5_countShownOf 19 = .ok (.if_icmp .ne 15, 3) := by decide +kernel
theorem dX5_countShownOf_22 : decode cX5_countShownOf 22 = .ok (.aload_n 0, 1) := by decide +kernel
theorem dX5_countShownOf_23 : decode cX5_countShownOf 23 = .ok (.getfield 24, 3) := by decide +kernel
theorem dX5_countShownOf_26 : decode cX5_countShownOf 26 = .ok (.iload_n 3, 1) := by decide +kernel
theorem dX5_countShownOf_27 : decode cX5_countShownOf 27 = .ok (.iaload, 1) := by decide +kernel
theorem dX5_countShownOf_28 : decode cX5_countShownOf 28 = .ok (.ifCond .ne 6, 3) := by decide +kernel
theorem dX5_countShownOf_31 : decode cX5_countShownOf 31 = .ok (.iinc 2 1, 3) := by decide +kernel
theorem dX5_countShownOf_34 : decode cX5_countShownOf 34 = .ok (.iinc 3 1, 3) := by decide +kernel
theorem dX5_countShownOf_37 : decode cX5_countShownOf 37 = .ok (.goto (-33), 3) := by decide +kernel
theorem dX5_countShownOf_40 : decode cX5_countShownOf 40 = .ok (.iload_n 2, 1) := by decide +kernel
theorem dX5_countShownOf_41 : decode cX5_countShownOf 41 = .ok (.ireturn, 1) := by decide +kernel
theorem dX5_tenthsOf_0 : decode cX5_tenthsOf 0 = .ok (.iconst 0, 1) := by decide +kernel
theorem dX5_tenthsOf_1 : decode cX5_tenthsOf 1 = .ok (.istore_n 2, 1) := by decide +kernel
theorem dX5_tenthsOf_2 : decode cX5_tenthsOf 2 = .ok (.iconst 0, 1) := by decide +kernel
theorem dX5_tenthsOf_3 : decode cX5_tenthsOf 3 = .ok (.istore_n 3, 1) := by decide +kernel
theorem dX5_tenthsOf_4 : decode cX5_tenthsOf 4 = .ok (.iload_n 3, 1) := by decide +kernel
theorem dX5_tenthsOf_5 : decode cX5_tenthsOf 5 = .ok (.aload_n 0, 1) := by decide +kernel
theorem dX5_tenthsOf_6 : decode cX5_tenthsOf 6 = .ok (.getfield 33, 3) := by decide +kernel
theorem dX5_tenthsOf_9 : decode cX5_tenthsOf 9 = .ok (.if_icmp .ge 27, 3) := by decide +kernel
theorem dX5_tenthsOf_12 : decode cX5_tenthsOf 12 = .ok (.aload_n 0, 1) := by decide +kernel
theorem dX5_tenthsOf_13 : decode cX5_tenthsOf 13 = .ok (.getfield 9, 3) := by decide +kernel
theorem dX5_tenthsOf_16 : decode cX5_tenthsOf 16 = .ok (.iload_n 3, 1) := by decide +kernel
theorem dX5_tenthsOf_17 : decode cX5_tenthsOf 17 = .ok (.iaload, 1) := by decide +kernel
theorem dX5_tenthsOf_18 : decode cX5_tenthsOf 18 = .ok (.iload_n 1, 1) := by decide +kernel
theorem dX5_tenthsOf_19 : decode cX5_tenthsOf 19 = .ok (.if_icmp .ne 11, 3) := by decide +kernel
theorem dX5_tenthsOf_22 : decode cX5_tenthsOf 22 = .ok (.iload_n 2, 1) := by decide +kernel
theorem dX5_tenthsOf_23 : decode cX5_tenthsOf 23 = .ok (.aload_n 0, 1) := by decide +kernel
theorem dX5_tenthsOf_24 : decode cX5_tenthsOf 24 = .ok (.iload_n 3, 1) := by decide +kernel
theorem dX5_tenthsOf_25 : decode cX5_tenthsOf 25 = .ok (.invokevirtual 50, 3) := by decide +kernel
theorem dX5_tenthsOf_28 : decode cX5_tenthsOf 28 = .ok (.iadd, 1) := by decide +kernel
theorem dX5_tenthsOf_29 : decode cX5_tenthsOf 29 = .ok (.istore_n 2, 1) := by decide +kernel
theorem dX5_tenthsOf_30 : decode cX5_tenthsOf 30 = .ok (.iinc 3 1, 3) := by decide +kernel
theorem dX5_tenthsOf_33 : decode cX5_tenthsOf 33 = .ok (.goto (-29), 3) := by decide +kernel
theorem dX5_tenthsOf_36 : decode cX5_tenthsOf 36 = .ok (.iload_n 2, 1) := by decide +kernel
theorem dX5_tenthsOf_37 : decode cX5_tenthsOf 37 = .ok (.ireturn, 1) := by decide +kernel
theorem dX5_tenthsOfAll_0 : decode cX5_tenthsOfAll 0 = .ok (.iconst 0, 1) := by decide +kernel
theorem dX5_tenthsOfAll_1 : decode cX5_tenthsOfAll 1 = .ok (.istore_n 1, 1) := by decide +kernel
theorem dX5_tenthsOfAll_2 : decode cX5_tenthsOfAll 2 = .ok (.iconst 0, 1) := by decide +kernel
theorem dX5_tenthsOfAll_3 : decode cX5_tenthsOfAll 3 = .ok (.istore_n 2, 1) := by decide +kernel
theorem dX5_tenthsOfAll_4 : decode cX5_tenthsOfAll 4 = .ok (.iload_n 2, 1) := by decide +kernel
theorem dX5_tenthsOfAll_5 : decode cX5_tenthsOfAll 5 = .ok (.aload_n 0, 1) := by decide +kernel
theorem dX5_tenthsOfAll_6 : decode cX5_tenthsOfAll 6 = .ok (.getfield 33, 3) := by decide +kernel
theorem dX5_tenthsOfAll_9 : decode cX5_tenthsOfAll 9 = .ok (.if_icmp .ge 17, 3) := by decide +kernel
theorem dX5_tenthsOfAll_12 : decode cX5_tenthsOfAll 12 = .ok (.iload_n 1, 1) := by decide +kernel
theorem dX5_tenthsOfAll_13 : decode cX5_tenthsOfAll 13 = .ok (.aload_n 0, 1) := by decide +kernel
theorem dX5_tenthsOfAll_14 : decode cX5_tenthsOfAll 14 = .ok (.iload_n 2, 1) := by decide +kernel
theorem dX5_tenthsOfAll_15 : decode cX5_tenthsOfAll 15 = .ok (.invokevirtual 50, 3) := by decide +kernel
theorem dX5_tenthsOfAll_18 : decode cX5_tenthsOfAll 18 = .ok (.iadd, 1) := by decide +kernel
theorem dX5_tenthsOfAll_19 : decode cX5_tenthsOfAll 19 = .ok (.istore_n 1, 1) := by decide +kernel
theorem dX5_tenthsOfAll_20 : decode cX5_tenthsOfAll 20 = .ok (.iinc 2 1, 3) := by decide +kernel
theorem dX5_tenthsOfAll_23 : decode cX5_tenthsOfAll 23 = .ok (.goto (-19), 3) := by decide +kernel
theorem dX5_tenthsOfAll_26 : decode cX5_tenthsOfAll 26 = .ok (.iload_n 1, 1) := by decide +kernel
theorem dX5_tenthsOfAll_27 : decode cX5_tenthsOfAll 27 = .ok (.ireturn, 1) := by decide +kernel
theorem dX5_shownTenths_0 : decode cX5_shownTenths 0 = .ok (.aload_n 0, 1) := by decide +kernel
theorem dX5_shownTenths_1 : decode cX5_shownTenths 1 = .ok (.iload_n 1, 1) := by decide +kernel
theorem dX5_shownTenths_2 : decode cX5_shownTenths 2 = .ok (.invokevirtual 54, 3) := by decide +kernel
theorem dX5_shownTenths_5 : decode cX5_shownTenths 5 = .ok (.ifCond .eq 19, 3) := by decide +kernel
theorem dX5_shownTenths_8 : decode cX5_shownTenths 8 = .ok (.aload_n 0, 1) := by decide +kernel
theorem dX5_shownTenths_9 : decode cX5_shownTenths 9 = .ok (.getfield 30, 3) := by decide +kernel
theorem dX5_shownTenths_12 : decode cX5_shownTenths 12 = .ok (.iload_n 1, 1) := by decide +kernel
theorem dX5_shownTenths_13 : decode cX5_shownTenths 13 = .ok (.iaload, 1) := by decide +kernel
theorem dX5_shownTenths_14 : decode cX5_shownTenths 14 = .ok (.aload_n 0, 1) := by decide +kernel
theorem dX5_shownTenths_15 : decode cX5_shownTenths 15 = .ok (.getfield 27, 3) := by decide +kernel
theorem dX5_shownTenths_18 : decode cX5_shownTenths 18 = .ok (.iload_n 1, 1) := by decide +kernel
theorem dX5_shownTenths_19 : decode cX5_shownTenths 19 = .ok (.iaload, 1) := by decide +kernel
theorem dX5_shownTenths_20 : decode cX5_shownTenths 20 = .ok (.isub, 1) := by decide +kernel
theorem dX5_shownTenths_21 : decode cX5_shownTenths 21 = .ok (.goto 4, 3) := by decide +kernel
theorem dX5_shownTenths_24 : decode cX5_shownTenths 24 = .ok (.iconst 0, 1) := by decide +kernel
theorem dX5_shownTenths_25 : decode cX5_shownTenths 25 = .ok (.ireturn, 1) := by decide +kernel
theorem dX6_init_0 : decode cX6_init 0 = .ok (.aload_n 0, 1) := by decide +kernel
theorem dX6_init_1 : decode cX6_init 1 = .ok (.invokespecial 3, 3) := by decide +kernel
theorem dX6_init_4 : decode cX6_init 4 = .ok (.aload_n 0, 1) := by decide +kernel
theorem dX6_init_5 : decode cX6_init 5 = .ok (.iload_n 1, 1) := by decide +kernel
theorem dX6_init_6 : decode cX6_init 6 = .ok (.newarray .int, 2) := by decide +kernel
theorem dX6_init_8 : decode cX6_init 8 = .ok (.putfield 9, 3) := by decide +kernel
theorem dX6_init_11 : decode cX6_init 11 = .ok (.aload_n 0, 1) := by decide +kernel
theorem dX6_init_12 : decode cX6_init 12 = .ok (.iload_n 1, 1) := by decide +kernel
theorem dX6_init_13 : decode cX6_init 13 = .ok (.newarray .int, 2) := by decide +kernel
theorem dX6_init_15 : decode cX6_init 15 = .ok (.putfield 15, 3) := by decide +kernel
theorem dX6_init_18 : decode cX6_init 18 = .ok (.return_, 1) := by decide +kernel
theorem dX6_copyFrom_0 : decode cX6_copyFrom 0 = .ok (.aload_n 0, 1) := by decide +kernel
theorem dX6_copyFrom_1 : decode cX6_copyFrom 1 = .ok (.getfield 9, 3) := by decide +kernel
theorem dX6_copyFrom_4 : decode cX6_copyFrom 4 = .ok (.arraylength, 1) := by decide +kernel
theorem dX6_copyFrom_5 : decode cX6_copyFrom 5 = .ok (.aload_n 1, 1) := by decide +kernel
theorem dX6_copyFrom_6 : decode cX6_copyFrom 6 = .ok (.getfield 9, 3) := by decide +kernel
theorem dX6_copyFrom_9 : decode cX6_copyFrom 9 = .ok (.arraylength, 1) := by decide +kernel
theorem dX6_copyFrom_10 : decode cX6_copyFrom 10 = .ok (.invokestatic 18, 3) := by decide +kernel
theorem dX6_copyFrom_13 : decode cX6_copyFrom 13 = .ok (.istore_n 2, 1) := by decide +kernel
theorem dX6_copyFrom_14 : decode cX6_copyFrom 14 = .ok (.aload_n 0, 1) := by decide +kernel
theorem dX6_copyFrom_15 : decode cX6_copyFrom 15 = .ok (.aload_n 1, 1) := by decide +kernel
theorem dX6_copyFrom_16 : decode cX6_copyFrom 16 = .ok (.getfield 24, 3) := by decide +kernel
theorem dX6_copyFrom_19 : decode cX6_copyFrom 19 = .ok (.iload_n 2, 1) := by decide +kernel
theorem dX6_copyFrom_20 : decode cX6_copyFrom 20 = .ok (.invokestatic 18, 3) := by decide +kernel
theorem dX6_copyFrom_23 : decode cX6_copyFrom 23 = .ok (.putfield 24, 3) := by decide +kernel
theorem dX6_copyFrom_26 : decode cX6_copyFrom 26 = .ok (.aload_n 1, 1) := by decide +kernel
theorem dX6_copyFrom_27 : decode cX6_copyFrom 27 = .ok (.getfield 9, 3) := by decide +kernel
theorem dX6_copyFrom_30 : decode cX6_copyFrom 30 = .ok (.iconst 0, 1) := by decide +kernel
theorem dX6_copyFrom_31 : decode cX6_copyFrom 31 = .ok (.aload_n 0, 1) := by decide +kernel
theorem dX6_copyFrom_32 : decode cX6_copyFrom 32 = .ok (.getfield 9, 3) := by decide +kernel
theorem dX6_copyFrom_35 : decode cX6_copyFrom 35 = .ok (.iconst 0, 1) := by decide +kernel
theorem dX6_copyFrom_36 : decode cX6_copyFrom 36 = .ok (.iload_n 2, 1) := by decide +kernel
theorem dX6_copyFrom_37 : decode cX6_copyFrom 37 = .ok (.invokestatic 28, 3) := by decide +kernel
theorem dX6_copyFrom_40 : decode cX6_copyFrom 40 = .ok (.aload_n 1, 1) := by decide +kernel
theorem dX6_copyFrom_41 : decode cX6_copyFrom 41 = .ok (.getfield 15, 3) := by decide +kernel
theorem dX6_copyFrom_44 : decode cX6_copyFrom 44 = .ok (.iconst 0, 1) := by decide +kernel
theorem dX6_copyFrom_45 : decode cX6_copyFrom 45 = .ok (.aload_n 0, 1) := by decide +kernel
theorem dX6_copyFrom_46 : decode cX6_copyFrom 46 = .ok (.getfield 15, 3) := by decide +kernel
theorem dX6_copyFrom_49 : decode cX6_copyFrom 49 = .ok (.iconst 0, 1) := by decide +kernel
theorem dX6_copyFrom_50 : decode cX6_copyFrom 50 = .ok (.iload_n 2, 1) := by decide +kernel
theorem dX6_copyFrom_51 : decode cX6_copyFrom 51 = .ok (.invokestatic 28, 3) := by decide +kernel
theorem dX6_copyFrom_54 : decode cX6_copyFrom 54 = .ok (.return_, 1) := by decide +kernel
theorem dX6_isFull_0 : decode cX6_isFull 0 = .ok (.aload_n 0, 1) := by decide +kernel
theorem dX6_isFull_1 : decode cX6_isFull 1 = .ok (.getfield 24, 3) := by decide +kernel
theorem dX6_isFull_4 : decode cX6_isFull 4 = .ok (.aload_n 0, 1) := by decide +kernel
theorem dX6_isFull_5 : decode cX6_isFull 5 = .ok (.getfield 9, 3) := by decide +kernel
theorem dX6_isFull_8 : decode cX6_isFull 8 = .ok (.arraylength, 1) := by decide +kernel
theorem dX6_isFull_9 : decode cX6_isFull 9 = .ok (.if_icmp .lt 7, 3) := by decide +kernel
theorem dX6_isFull_12 : decode cX6_isFull 12 = .ok (.iconst 1, 1) := by decide +kernel
theorem dX6_isFull_13 : decode cX6_isFull 13 = .ok (.goto 4, 3) := by decide +kernel
theorem dX6_isFull_16 : decode cX6_isFull 16 = .ok (.iconst 0, 1) := by decide +kernel
theorem dX6_isFull_17 : decode cX6_isFull 17 = .ok (.ireturn, 1) := by decide +kernel
theorem dX6_add_0 : decode cX6_add 0 = .ok (.aload_n 0, 1) := by decide +kernel
theorem dX6_add_1 : decode cX6_add 1 = .ok (.invokevirtual 34, 3) := by decide +kernel
theorem dX6_add_4 : decode cX6_add 4 = .ok (.ifCond .eq 6, 3) := by decide +kernel
theorem dX6_add_7 : decode cX6_add 7 = .ok (.bipush (-4), 2) := by decide +kernel
theorem dX6_add_9 : decode cX6_add 9 = .ok (.ireturn, 1) := by decide +kernel
theorem dX6_add_10 : decode cX6_add 10 = .ok (.aload_n 0, 1) := by decide +kernel
theorem dX6_add_11 : decode cX6_add 11 = .ok (.getfield 9, 3) := by decide +kernel
theorem dX6_add_14 : decode cX6_add 14 = .ok (.aload_n 0, 1) := by decide +kernel
theorem dX6_add_15 : decode cX6_add 15 = .ok (.getfield 24, 3) := by decide +kernel
theorem dX6_add_18 : decode cX6_add 18 = .ok (.iload_n 1, 1) := by decide +kernel
theorem dX6_add_19 : decode cX6_add 19 = .ok (.iastore, 1) := by decide +kernel
theorem dX6_add_20 : decode cX6_add 20 = .ok (.aload_n 0, 1) := by decide +kernel
theorem dX6_add_21 : decode cX6_add 21 = .ok (.getfield 15, 3) := by decide +kernel
theorem dX6_add_24 : decode cX6_add 24 = .ok (.aload_n 0, 1) := by decide +kernel
theorem dX6_add_25 : decode cX6_add 25 = .ok (.getfield 24, 3) := by decide +kernel
theorem dX6_add_28 : decode cX6_add 28 = .ok (.iload_n 2, 1) := by decide +kernel
theorem dX6_add_29 : decode cX6_add 29 = .ok (.iastore, 1) := by decide +kernel
theorem dX6_add_30 : decode cX6_add 30 = .ok (.aload_n 0, 1) := by decide +kernel
theorem dX6_add_31 : decode cX6_add 31 = .ok (.dup, 1) := by decide +kernel
theorem dX6_add_32 : decode cX6_add 32 = .ok (.getfield 24, 3) := by decide +kernel
theorem dX6_add_35 : decode cX6_add 35 = .ok (.iconst 1, 1) := by decide +kernel
theorem dX6_add_36 : decode cX6_add 36 = .ok (.iadd, 1) := by decide +kernel
theorem dX6_add_37 : decode cX6_add 37 = .ok (.putfield 24, 3) := by decide +kernel
theorem dX6_add_40 : decode cX6_add 40 = .ok (.aload_n 0, 1) := by decide +kernel
theorem dX6_add_41 : decode cX6_add 41 = .ok (.getfield 24, 3) := by decide +kernel
theorem dX6_add_44 : decode cX6_add 44 = .ok (.iconst 1, 1) := by decide +kernel
theorem dX6_add_45 : decode cX6_add 45 = .ok (.isub, 1) := by decide +kernel
theorem dX6_add_46 : decode cX6_add 46 = .ok (.ireturn, 1) := by decide +kernel
theorem dX6_remove_0 : decode cX6_remove 0 = .ok (.iload_n 1, 1) := by decide +kernel
theorem dX6_remove_1 : decode cX6_remove 1 = .ok (.ifCond .lt 11, 3) := by decide +kernel
theorem dX6_remove_4 : decode cX6_remove 4 = .ok (.iload_n 1, 1) := by decide +kernel
theorem dX6_remove_5 : decode cX6_remove 5 = .ok (.aload_n 0, 1) := by decide +kernel
theorem dX6_remove_6 : decode cX6_remove 6 = .ok (.getfield 24, 3) := by decide +kernel
theorem dX6_remove_9 : decode cX6_remove 9 = .ok (.if_icmp .lt 5, 3) := by decide +kernel
theorem dX6_remove_12 : decode cX6_remove 12 = .ok (.iconst (-1), 1) := by decide +kernel
theorem dX6_remove_13 : decode cX6_remove 13 = .ok (.ireturn, 1) := by decide +kernel
theorem dX6_remove_14 : decode cX6_remove 14 = .ok (.iload_n 1, 1) := by decide +kernel
theorem dX6_remove_15 : decode cX6_remove 15 = .ok (.iconst 1, 1) := by decide +kernel
theorem dX6_remove_16 : decode cX6_remove 16 = .ok (.iadd, 1) := by decide +kernel
theorem dX6_remove_17 : decode cX6_remove 17 = .ok (.istore_n 2, 1) := by decide +kernel
theorem dX6_remove_18 : decode cX6_remove 18 = .ok (.iload_n 2, 1) := by decide +kernel
theorem dX6_remove_19 : decode cX6_remove 19 = .ok (.aload_n 0, 1) := by decide +kernel
theorem dX6_remove_20 : decode cX6_remove 20 = .ok (.getfield 24, 3) := by decide +kernel
theorem dX6_remove_23 : decode cX6_remove 23 = .ok (.if_icmp .ge 37, 3) := by decide +kernel
theorem dX6_remove_26 : decode cX6_remove 26 = .ok (.aload_n 0, 1) := by decide +kernel
theorem dX6_remove_27 : decode cX6_remove 27 = .ok (.getfield 9, 3) := by decide +kernel
theorem dX6_remove_30 : decode cX6_remove 30 = .ok (.iload_n 2, 1) := by decide +kernel
theorem dX6_remove_31 : decode cX6_remove 31 = .ok (.iconst 1, 1) := by decide +kernel
theorem dX6_remove_32 : decode cX6_remove 32 = .ok (.isub, 1) := by decide +kernel
theorem dX6_remove_33 : decode cX6_remove 33 = .ok (.aload_n 0, 1) := by decide +kernel
theorem dX6_remove_34 : decode cX6_remove 34 = .ok (.getfield 9, 3) := by decide +kernel
theorem dX6_remove_37 : decode cX6_remove 37 = .ok (.iload_n 2, 1) := by decide +kernel
theorem dX6_remove_38 : decode cX6_remove 38 = .ok (.iaload, 1) := by decide +kernel
theorem dX6_remove_39 : decode cX6_remove 39 = .ok (.iastore, 1) := by decide +kernel
theorem dX6_remove_40 : decode cX6_remove 40 = .ok (.aload_n 0, 1) := by decide +kernel
theorem dX6_remove_41 : decode cX6_remove 41 = .ok (.getfield 15, 3) := by decide +kernel
theorem dX6_remove_44 : decode cX6_remove 44 = .ok (.iload_n 2, 1) := by decide +kernel
theorem dX6_remove_45 : decode cX6_remove 45 = .ok (.iconst 1, 1) := by decide +kernel
theorem dX6_remove_46 : decode cX6_remove 46 = .ok (.isub, 1) := by decide +kernel
theorem dX6_remove_47 : decode cX6_remove 47 = .ok (.aload_n 0, 1) := by decide +kernel
theorem dX6_remove_48 : decode cX6_remove 48 = .ok (.getfield 15, 3) := by decide +kernel
theorem dX6_remove_51 : decode cX6_remove 51 = .ok (.iload_n 2, 1) := by decide +kernel
theorem dX6_remove_52 : decode cX6_remove 52 = .ok (.iaload, 1) := by decide +kernel
theorem dX6_remove_53 : decode cX6_remove 53 = .ok (.iastore, 1) := by decide +kernel
theorem dX6_remove_54 : decode cX6_remove 54 = .ok (.iinc 2 1, 3) := by decide +kernel
theorem dX6_remove_57 : decode cX6_remove 57 = .ok (.goto (-39), 3) := by decide +kernel
theorem dX6_remove_60 : decode cX6_remove 60 = .ok (.aload_n 0, 1) := by decide +kernel
theorem dX6_remove_61 : decode cX6_remove 61 = .ok (.dup, 1) := by decide +kernel
theorem dX6_remove_62 : decode cX6_remove 62 = .ok (.getfield 24, 3) := by decide +kernel
theorem dX6_remove_65 : decode cX6_remove 65 = .ok (.iconst 1, 1) := by decide +kernel
theorem dX6_remove_66 : decode cX6_remove 66 = .ok (.isub, 1) := by decide +kernel
theorem dX6_remove_67 : decode cX6_remove 67 = .ok (.putfield 24, 3) := by decide +kernel
theorem dX6_remove_70 : decode cX6_remove 70 = .ok (.aload_n 0, 1) := by decide +kernel
theorem dX6_remove_71 : decode cX6_remove 71 = .ok (.getfield 24, 3) := by decide +kernel
theorem dX6_remove_74 : decode cX6_remove 74 = .ok (.ireturn, 1) := by decide +kernel
theorem dX6_meets_0 : decode cX6_meets 0 = .ok (.iconst 0, 1) := by decide +kernel
theorem dX6_meets_1 : decode cX6_meets 1 = .ok (.istore_n 3, 1) := by decide +kernel
theorem dX6_meets_2 : decode cX6_meets 2 = .ok (.iload_n 3, 1) := by decide +kernel
theorem dX6_meets_3 : decode cX6_meets 3 = .ok (.aload_n 0, 1) := by decide +kernel
theorem dX6_meets_4 : decode cX6_meets 4 = .ok (.getfield 24, 3) := by decide +kernel
theorem dX6_meets_7 : decode cX6_meets 7 = .ok (.if_icmp .ge 31, 3) := by decide +kernel
theorem dX6_meets_10 : decode cX6_meets 10 = .ok (.aload_n 0, 1) := by decide +kernel
theorem dX6_meets_11 : decode cX6_meets 11 = .ok (.getfield 9, 3) := by decide +kernel
theorem dX6_meets_14 : decode cX6_meets 14 = .ok (.iload_n 3, 1) := by decide +kernel
theorem dX6_meets_15 : decode cX6_meets 15 = .ok (.iaload, 1) := by decide +kernel
theorem dX6_meets_16 : decode cX6_meets 16 = .ok (.iload_n 2, 1) := by decide +kernel
theorem dX6_meets_17 : decode cX6_meets 17 = .ok (.if_icmp .gt 15, 3) := by decide +kernel
theorem dX6_meets_20 : decode cX6_meets 20 = .ok (.iload_n 1, 1) := by decide +kernel
theorem dX6_meets_21 : decode cX6_meets 21 = .ok (.aload_n 0, 1) := by decide +kernel
theorem dX6_meets_22 : decode cX6_meets 22 = .ok (.getfield 15, 3) := by decide +kernel
theorem dX6_meets_25 : decode cX6_meets 25 = .ok (.iload_n 3, 1) := by decide +kernel
theorem dX6_meets_26 : decode cX6_meets 26 = .ok (.iaload, 1) := by decide +kernel
theorem dX6_meets_27 : decode cX6_meets 27 = .ok (.if_icmp .gt 5, 3) := by decide +kernel
theorem dX6_meets_30 : decode cX6_meets 30 = .ok (.iconst 1, 1) := by decide +kernel
theorem dX6_meets_31 : decode cX6_meets 31 = .ok (.ireturn, 1) := by decide +kernel
theorem dX6_meets_32 : decode cX6_meets 32 = .ok (.iinc 3 1, 3) := by decide +kernel
theorem dX6_meets_35 : decode cX6_meets 35 = .ok (.goto (-33), 3) := by decide +kernel
theorem dX6_meets_38 : decode cX6_meets 38 = .ok (.iconst 0, 1) := by decide +kernel
theorem dX6_meets_39 : decode cX6_meets 39 = .ok (.ireturn, 1) := by decide +kernel
theorem dX6_covers_0 : decode cX6_covers 0 = .ok (.aload_n 0, 1) := by decide +kernel
theorem dX6_covers_1 : decode cX6_covers 1 = .ok (.iload_n 1, 1) := by decide +kernel
theorem dX6_covers_2 : decode cX6_covers 2 = .ok (.iload_n 1, 1) := by decide +kernel
theorem dX6_covers_3 : decode cX6_covers 3 = .ok (.invokevirtual 38, 3) := by decide +kernel
theorem dX6_covers_6 : decode cX6_covers 6 = .ok (.ireturn, 1) := by decide +kernel
theorem dX6_highest_0 : decode cX6_highest 0 = .ok (.iconst (-1), 1) := by decide +kernel
theorem dX6_highest_1 : decode cX6_highest 1 = .ok (.istore_n 1, 1) := by decide +kernel
theorem dX6_highest_2 : decode cX6_highest 2 = .ok (.iconst 0, 1) := by decide +kernel
theorem dX6_highest_3 : decode cX6_highest 3 = .ok (.istore_n 2, 1) := by decide +kernel
theorem dX6_highest_4 : decode cX6_highest 4 = .ok (.iload_n 2, 1) := by decide +kernel
theorem dX6_highest_5 : decode cX6_highest 5 = .ok (.aload_n 0, 1) := by decide +kernel
theorem dX6_highest_6 : decode cX6_highest 6 = .ok (.getfield 24, 3) := by decide +kernel
theorem dX6_highest_9 : decode cX6_highest 9 = .ok (.if_icmp .ge 20, 3) := by decide +kernel
theorem dX6_highest_12 : decode cX6_highest 12 = .ok (.iload_n 1, 1) := by decide +kernel
theorem dX6_highest_13 : decode cX6_highest 13 = .ok (.aload_n 0, 1) := by decide +kernel
theorem dX6_highest_14 : decode cX6_highest 14 = .ok (.getfield 15, 3) := by decide +kernel
theorem dX6_highest_17 : decode cX6_highest 17 = .ok (.iload_n 2, 1) := by decide +kernel
theorem dX6_highest_18 : decode cX6_highest 18 = .ok (.iaload, 1) := by decide +kernel
theorem dX6_highest_19 : decode cX6_highest 19 = .ok (.invokestatic 42, 3) := by decide +kernel
theorem dX6_highest_22 : decode cX6_highest 22 = .ok (.istore_n 1, 1) := by decide +kernel
theorem dX6_highest_23 : decode cX6_highest 23 = .ok (.iinc 2 1, 3) := by decide +kernel
theorem dX6_highest_26 : decode cX6_highest 26 = .ok (.goto (-22), 3) := by decide +kernel
theorem dX6_highest_29 : decode cX6_highest 29 = .ok (.iload_n 1, 1) := by decide +kernel
theorem dX6_highest_30 : decode cX6_highest 30 = .ok (.ireturn, 1) := by decide +kernel
theorem dX6_backFrom_0 : decode cX6_backFrom 0 = .ok (.iconst 0, 1) := by decide +kernel
theorem dX6_backFrom_1 : decode cX6_backFrom 1 = .ok (.istore_n 2, 1) := by decide +kernel
theorem dX6_backFrom_2 : decode cX6_backFrom 2 = .ok (.iload_n 2, 1) := by decide +kernel
theorem dX6_backFrom_3 : decode cX6_backFrom 3 = .ok (.aload_n 0, 1) := by decide +kernel
theorem dX6_backFrom_4 : decode cX6_backFrom 4 = .ok (.getfield 24, 3) := by decide +kernel
theorem dX6_backFrom_7 : decode cX6_backFrom 7 = .ok (.if_icmp .ge 26, 3) := by decide +kernel
theorem dX6_backFrom_10 : decode cX6_backFrom 10 = .ok (.aload_n 0, 1) := by decide +kernel
theorem dX6_backFrom_11 : decode cX6_backFrom 11 = .ok (.getfield 15, 3) := by decide +kernel
theorem dX6_backFrom_14 : decode cX6_backFrom 14 = .ok (.iload_n 2, 1) := by decide +kernel
theorem dX6_backFrom_15 : decode cX6_backFrom 15 = .ok (.iaload, 1) := by decide +kernel
theorem dX6_backFrom_16 : decode cX6_backFrom 16 = .ok (.iload_n 1, 1) := by decide +kernel
theorem dX6_backFrom_17 : decode cX6_backFrom 17 = .ok (.if_icmp .ne 10, 3) := by decide +kernel
theorem dX6_backFrom_20 : decode cX6_backFrom 20 = .ok (.aload_n 0, 1) := by decide +kernel
theorem dX6_backFrom_21 : decode cX6_backFrom 21 = .ok (.getfield 9, 3) := by decide +kernel
theorem dX6_backFrom_24 : decode cX6_backFrom 24 = .ok (.iload_n 2, 1) := by decide +kernel
theorem dX6_backFrom_25 : decode cX6_backFrom 25 = .ok (.iaload, 1) := by decide +kernel
theorem dX6_backFrom_26 : decode cX6_backFrom 26 = .ok (.ireturn, 1) := by decide +kernel
theorem dX6_backFrom_27 : decode cX6_backFrom 27 = .ok (.iinc 2 1, 3) := by decide +kernel
theorem dX6_backFrom_30 : decode cX6_backFrom 30 = .ok (.goto (-28), 3) := by decide +kernel
theorem dX6_backFrom_33 : decode cX6_backFrom 33 = .ok (.iload_n 1, 1) := by decide +kernel
theorem dX6_backFrom_34 : decode cX6_backFrom 34 = .ok (.iconst 1, 1) := by decide +kernel
theorem dX6_backFrom_35 : decode cX6_backFrom 35 = .ok (.iadd, 1) := by decide +kernel
theorem dX6_backFrom_36 : decode cX6_backFrom 36 = .ok (.ireturn, 1) := by decide +kernel
theorem dX7_init_0 : decode cX7_init 0 = .ok (.aload_n 0, 1) := by decide +kernel
theorem dX7_init_1 : decode cX7_init 1 = .ok (.invokespecial 3, 3) := by decide +kernel
theorem dX7_init_4 : decode cX7_init 4 = .ok (.aload_n 0, 1) := by decide +kernel
theorem dX7_init_5 : decode cX7_init 5 = .ok (.bipush 20, 2) := by decide +kernel
theorem dX7_init_7 : decode cX7_init 7 = .ok (.newarray .int, 2) := by decide +kernel
theorem dX7_init_9 : decode cX7_init 9 = .ok (.putfield 9, 3) := by decide +kernel
theorem dX7_init_12 : decode cX7_init 12 = .ok (.aload_n 0, 1) := by decide +kernel
theorem dX7_init_13 : decode cX7_init 13 = .ok (.bipush 20, 2) := by decide +kernel
theorem dX7_init_15 : decode cX7_init 15 = .ok (.newarray .int, 2) := by decide +kernel
theorem dX7_init_17 : decode cX7_init 17 = .ok (.putfield 15, 3) := by decide +kernel
theorem dX7_init_20 : decode cX7_init 20 = .ok (.aload_n 0, 1) := by decide +kernel
theorem dX7_init_21 : decode cX7_init 21 = .ok (.bipush 20, 2) := by decide +kernel
theorem dX7_init_23 : decode cX7_init 23 = .ok (.newarray .int, 2) := by decide +kernel
theorem dX7_init_25 : decode cX7_init 25 = .ok (.putfield 18, 3) := by decide +kernel
theorem dX7_init_28 : decode cX7_init 28 = .ok (.aload_n 0, 1) := by decide +kernel
theorem dX7_init_29 : decode cX7_init 29 = .ok (.bipush 20, 2) := by decide +kernel
theorem dX7_init_31 : decode cX7_init 31 = .ok (.newarray .int, 2) := by decide +kernel
theorem dX7_init_33 : decode cX7_init 33 = .ok (.putfield 21, 3) := by decide +kernel
theorem dX7_init_36 : decode cX7_init 36 = .ok (.return_, 1) := by decide +kernel
theorem dX7_copyFrom_0 : decode cX7_copyFrom 0 = .ok (.aload_n 0, 1) := by decide +kernel
theorem dX7_copyFrom_1 : decode cX7_copyFrom 1 = .ok (.aload_n 1, 1) := by decide +kernel
theorem dX7_copyFrom_2 : decode cX7_copyFrom 2 = .ok (.getfield 24, 3) := by decide +kernel
theorem dX7_copyFrom_5 : decode cX7_copyFrom 5 = .ok (.putfield 24, 3) := by decide +kernel
theorem dX7_copyFrom_8 : decode cX7_copyFrom 8 = .ok (.aload_n 1, 1) := by decide +kernel
theorem dX7_copyFrom_9 : decode cX7_copyFrom 9 = .ok (.getfield 9, 3) := by decide +kernel
theorem dX7_copyFrom_12 : decode cX7_copyFrom 12 = .ok (.iconst 0, 1) := by decide +kernel
theorem dX7_copyFrom_13 : decode cX7_copyFrom 13 = .ok (.aload_n 0, 1) := by decide +kernel
theorem dX7_copyFrom_14 : decode cX7_copyFrom 14 = .ok (.getfield 9, 3) := by decide +kernel
theorem dX7_copyFrom_17 : decode cX7_copyFrom 17 = .ok (.iconst 0, 1) := by decide +kernel
theorem dX7_copyFrom_18 : decode cX7_copyFrom 18 = .ok (.bipush 20, 2) := by decide +kernel
theorem dX7_copyFrom_20 : decode cX7_copyFrom 20 = .ok (.invokestatic 28, 3) := by decide +kernel
theorem dX7_copyFrom_23 : decode cX7_copyFrom 23 = .ok (.aload_n 1, 1) := by decide +kernel
theorem dX7_copyFrom_24 : decode cX7_copyFrom 24 = .ok (.getfield 15, 3) := by decide +kernel
theorem dX7_copyFrom_27 : decode cX7_copyFrom 27 = .ok (.iconst 0, 1) := by decide +kernel
theorem dX7_copyFrom_28 : decode cX7_copyFrom 28 = .ok (.aload_n 0, 1) := by decide +kernel
theorem dX7_copyFrom_29 : decode cX7_copyFrom 29 = .ok (.getfield 15, 3) := by decide +kernel
theorem dX7_copyFrom_32 : decode cX7_copyFrom 32 = .ok (.iconst 0, 1) := by decide +kernel
theorem dX7_copyFrom_33 : decode cX7_copyFrom 33 = .ok (.bipush 20, 2) := by decide +kernel
theorem dX7_copyFrom_35 : decode cX7_copyFrom 35 = .ok (.invokestatic 28, 3) := by decide +kernel
theorem dX7_copyFrom_38 : decode cX7_copyFrom 38 = .ok (.aload_n 1, 1) := by decide +kernel
theorem dX7_copyFrom_39 : decode cX7_copyFrom 39 = .ok (.getfield 18, 3) := by decide +kernel
theorem dX7_copyFrom_42 : decode cX7_copyFrom 42 = .ok (.iconst 0, 1) := by decide +kernel
theorem dX7_copyFrom_43 : decode cX7_copyFrom 43 = .ok (.aload_n 0, 1) := by decide +kernel
theorem dX7_copyFrom_44 : decode cX7_copyFrom 44 = .ok (.getfield 18, 3) := by decide +kernel
theorem dX7_copyFrom_47 : decode cX7_copyFrom 47 = .ok (.iconst 0, 1) := by decide +kernel
theorem dX7_copyFrom_48 : decode cX7_copyFrom 48 = .ok (.bipush 20, 2) := by decide +kernel
theorem dX7_copyFrom_50 : decode cX7_copyFrom 50 = .ok (.invokestatic 28, 3) := by decide +kernel
theorem dX7_copyFrom_53 : decode cX7_copyFrom 53 = .ok (.aload_n 1, 1) := by decide +kernel
theorem dX7_copyFrom_54 : decode cX7_copyFrom 54 = .ok (.getfield 21, 3) := by decide +kernel
theorem dX7_copyFrom_57 : decode cX7_copyFrom 57 = .ok (.iconst 0, 1) := by decide +kernel
theorem dX7_copyFrom_58 : decode cX7_copyFrom 58 = .ok (.aload_n 0, 1) := by decide +kernel
theorem dX7_copyFrom_59 : decode cX7_copyFrom 59 = .ok (.getfield 21, 3) := by decide +kernel
theorem dX7_copyFrom_62 : decode cX7_copyFrom 62 = .ok (.iconst 0, 1) := by decide +kernel
theorem dX7_copyFrom_63 : decode cX7_copyFrom 63 = .ok (.bipush 20, 2) := by decide +kernel
theorem dX7_copyFrom_65 : decode cX7_copyFrom 65 = .ok (.invokestatic 28, 3) := by decide +kernel
theorem dX7_copyFrom_68 : decode cX7_copyFrom 68 = .ok (.return_, 1) := by decide +kernel
theorem dX7_has_0 : decode cX7_has 0 = .ok (.iload_n 1, 1) := by decide +kernel
theorem dX7_has_1 : decode cX7_has 1 = .ok (.ifCond .lt 15, 3) := by decide +kernel
theorem dX7_has_4 : decode cX7_has 4 = .ok (.iload_n 1, 1) := by decide +kernel
theorem dX7_has_5 : decode cX7_has 5 = .ok (.aload_n 0, 1) := by decide +kernel
theorem dX7_has_6 : decode cX7_has 6 = .ok (.getfield 24, 3) := by decide +kernel
theorem dX7_has_9 : decode cX7_has 9 = .ok (.if_icmp .ge 7, 3) := by decide +kernel
theorem dX7_has_12 : decode cX7_has 12 = .ok (.iconst 1, 1) := by decide +kernel
theorem dX7_has_13 : decode cX7_has 13 = .ok (.goto 4, 3) := by decide +kernel
theorem dX7_has_16 : decode cX7_has 16 = .ok (.iconst 0, 1) := by decide +kernel
theorem dX7_has_17 : decode cX7_has 17 = .ok (.ireturn, 1) := by decide +kernel
theorem dX7_add_0 : decode cX7_add 0 = .ok (.aload_n 0, 1) := by decide +kernel
theorem dX7_add_1 : decode cX7_add 1 = .ok (.getfield 24, 3) := by decide +kernel
theorem dX7_add_4 : decode cX7_add 4 = .ok (.bipush 20, 2) := by decide +kernel
theorem dX7_add_6 : decode cX7_add 6 = .ok (.if_icmp .lt 6, 3) := by decide +kernel
theorem dX7_add_9 : decode cX7_add 9 = .ok (.bipush (-4), 2) := by decide +kernel
theorem dX7_add_11 : decode cX7_add 11 = .ok (.ireturn, 1) := by decide +kernel
theorem dX7_add_12 : decode cX7_add 12 = .ok (.aload_n 0, 1) := by decide +kernel
theorem dX7_add_13 : decode cX7_add 13 = .ok (.getfield 9, 3) := by decide +kernel
theorem dX7_add_16 : decode cX7_add 16 = .ok (.aload_n 0, 1) := by decide +kernel
theorem dX7_add_17 : decode cX7_add 17 = .ok (.getfield 24, 3) := by decide +kernel
theorem dX7_add_20 : decode cX7_add 20 = .ok (.iload_n 1, 1) := by decide +kernel
theorem dX7_add_21 : decode cX7_add 21 = .ok (.iastore, 1) := by decide +kernel
theorem dX7_add_22 : decode cX7_add 22 = .ok (.aload_n 0, 1) := by decide +kernel
theorem dX7_add_23 : decode cX7_add 23 = .ok (.getfield 15, 3) := by decide +kernel
theorem dX7_add_26 : decode cX7_add 26 = .ok (.aload_n 0, 1) := by decide +kernel
theorem dX7_add_27 : decode cX7_add 27 = .ok (.getfield 24, 3) := by decide +kernel
theorem dX7_add_30 : decode cX7_add 30 = .ok (.iload_n 2, 1) := by decide +kernel
theorem dX7_add_31 : decode cX7_add 31 = .ok (.iastore, 1) := by decide +kernel
theorem dX7_add_32 : decode cX7_add 32 = .ok (.aload_n 0, 1) := by decide +kernel
theorem dX7_add_33 : decode cX7_add 33 = .ok (.getfield 18, 3) := by decide +kernel
theorem dX7_add_36 : decode cX7_add 36 = .ok (.aload_n 0, 1) := by decide +kernel
theorem dX7_add_37 : decode cX7_add 37 = .ok (.getfield 24, 3) := by decide +kernel
theorem dX7_add_40 : decode cX7_add 40 = .ok (.iload_n 3, 1) := by decide +kernel
theorem dX7_add_41 : decode cX7_add 41 = .ok (.iastore, 1) := by decide +kernel
theorem dX7_add_42 : decode cX7_add 42 = .ok (.aload_n 0, 1) := by decide +kernel
theorem dX7_add_43 : decode cX7_add 43 = .ok (.getfield 21, 3) := by decide +kernel
theorem dX7_add_46 : decode cX7_add 46 = .ok (.aload_n 0, 1) := by decide +kernel
theorem dX7_add_47 : decode cX7_add 47 = .ok (.getfield 24, 3) := by decide +kernel
theorem dX7_add_50 : decode cX7_add 50 = .ok (.iload 4, 2) := by decide +kernel
theorem dX7_add_52 : decode cX7_add 52 = .ok (.iastore, 1) := by decide +kernel
theorem dX7_add_53 : decode cX7_add 53 = .ok (.aload_n 0, 1) := by decide +kernel
theorem dX7_add_54 : decode cX7_add 54 = .ok (.dup, 1) := by decide +kernel
theorem dX7_add_55 : decode cX7_add 55 = .ok (.getfield 24, 3) := by decide +kernel
theorem dX7_add_58 : decode cX7_add 58 = .ok (.iconst 1, 1) := by decide +kernel
theorem dX7_add_59 : decode cX7_add 59 = .ok (.iadd, 1) := by decide +kernel
theorem dX7_add_60 : decode cX7_add 60 = .ok (.putfield 24, 3) := by decide +kernel
theorem dX7_add_63 : decode cX7_add 63 = .ok (.aload_n 0, 1) := by decide +kernel
theorem dX7_add_64 : decode cX7_add 64 = .ok (.getfield 24, 3) := by decide +kernel
theorem dX7_add_67 : decode cX7_add 67 = .ok (.iconst 1, 1) := by decide +kernel
theorem dX7_add_68 : decode cX7_add 68 = .ok (.isub, 1) := by decide +kernel
theorem dX7_add_69 : decode cX7_add 69 = .ok (.ireturn, 1) := by decide +kernel
theorem dX7_remove_0 : decode cX7_remove 0 = .ok (.aload_n 0, 1) := by decide +kernel
theorem dX7_remove_1 : decode cX7_remove 1 = .ok (.iload_n 1, 1) := by decide +kernel
theorem dX7_remove_2 : decode cX7_remove 2 = .ok (.invokevirtual 34, 3) := by decide +kernel
theorem dX7_remove_5 : decode cX7_remove 5 = .ok (.ifCond .ne 5, 3) := by decide +kernel
theorem dX7_remove_8 : decode cX7_remove 8 = .ok (.iconst (-1), 1) := by decide +kernel
theorem dX7_remove_9 : decode cX7_remove 9 = .ok (.ireturn, 1) := by decide +kernel
theorem dX7_remove_10 : decode cX7_remove 10 = .ok (.iload_n 1, 1) := by decide +kernel
theorem dX7_remove_11 : decode cX7_remove 11 = .ok (.iconst 1, 1) := by decide +kernel
theorem dX7_remove_12 : decode cX7_remove 12 = .ok (.iadd, 1) := by decide +kernel
theorem dX7_remove_13 : decode cX7_remove 13 = .ok (.istore_n 2, 1) := by decide +kernel
theorem dX7_remove_14 : decode cX7_remove 14 = .ok (.iload_n 2, 1) := by decide +kernel
theorem dX7_remove_15 : decode cX7_remove 15 = .ok (.aload_n 0, 1) := by decide +kernel
theorem dX7_remove_16 : decode cX7_remove 16 = .ok (.getfield 24, 3) := by decide +kernel
theorem dX7_remove_19 : decode cX7_remove 19 = .ok (.if_icmp .ge 65, 3) := by decide +kernel
theorem dX7_remove_22 : decode cX7_remove 22 = .ok (.aload_n 0, 1) := by decide +kernel
theorem dX7_remove_23 : decode cX7_remove 23 = .ok (.getfield 9, 3) := by decide +kernel
theorem dX7_remove_26 : decode cX7_remove 26 = .ok (.iload_n 2, 1) := by decide +kernel
theorem dX7_remove_27 : decode cX7_remove 27 = .ok (.iconst 1, 1) := by decide +kernel
theorem dX7_remove_28 : decode cX7_remove 28 = .ok (.isub, 1) := by decide +kernel
theorem dX7_remove_29 : decode cX7_remove 29 = .ok (.aload_n 0, 1) := by decide +kernel
theorem dX7_remove_30 : decode cX7_remove 30 = .ok (.getfield 9, 3) := by decide +kernel
theorem dX7_remove_33 : decode cX7_remove 33 = .ok (.iload_n 2, 1) := by decide +kernel
theorem dX7_remove_34 : decode cX7_remove 34 = .ok (.iaload, 1) := by decide +kernel
theorem dX7_remove_35 : decode cX7_remove 35 = .ok (.iastore, 1) := by decide +kernel
theorem dX7_remove_36 : decode cX7_remove 36 = .ok (.aload_n 0, 1) := by decide +kernel
theorem dX7_remove_37 : decode cX7_remove 37 = .ok (.getfield 15, 3) := by decide +kernel
theorem dX7_remove_40 : decode cX7_remove 40 = .ok (.iload_n 2, 1) := by decide +kernel
theorem dX7_remove_41 : decode cX7_remove 41 = .ok (.iconst 1, 1) := by decide +kernel
theorem dX7_remove_42 : decode cX7_remove 42 = .ok (.isub, 1) := by decide +kernel
theorem dX7_remove_43 : decode cX7_remove 43 = .ok (.aload_n 0, 1) := by decide +kernel
theorem dX7_remove_44 : decode cX7_remove 44 = .ok (.getfield 15, 3) := by decide +kernel
theorem dX7_remove_47 : decode cX7_remove 47 = .ok (.iload_n 2, 1) := by decide +kernel
theorem dX7_remove_48 : decode cX7_remove 48 = .ok (.iaload, 1) := by decide +kernel
theorem dX7_remove_49 : decode cX7_remove 49 = .ok (.iastore, 1) := by decide +kernel
theorem dX7_remove_50 : decode cX7_remove 50 = .ok (.aload_n 0, 1) := by decide +kernel
theorem dX7_remove_51 : decode cX7_remove 51 = .ok (.getfield 18, 3) := by decide +kernel
theorem dX7_remove_54 : decode cX7_remove 54 = .ok (.iload_n 2, 1) := by decide +kernel
theorem dX7_remove_55 : decode cX7_remove 55 = .ok (.iconst 1, 1) := by decide +kernel
theorem dX7_remove_56 : decode cX7_remove 56 = .ok (.isub, 1) := by decide +kernel
theorem dX7_remove_57 : decode cX7_remove 57 = .ok (.aload_n 0, 1) := by decide +kernel
theorem dX7_remove_58 : decode cX7_remove 58 = .ok (.getfield 18, 3) := by decide +kernel
theorem dX7_remove_61 : decode cX7_remove 61 = .ok (.iload_n 2, 1) := by decide +kernel
theorem dX7_remove_62 : decode cX7_remove 62 = .ok (.iaload, 1) := by decide +kernel
theorem dX7_remove_63 : decode cX7_remove 63 = .ok (.iastore, 1) := by decide +kernel
theorem dX7_remove_64 : decode cX7_remove 64 = .ok (.aload_n 0, 1) := by decide +kernel
theorem dX7_remove_65 : decode cX7_remove 65 = .ok (.getfield 21, 3) := by decide +kernel
theorem dX7_remove_68 : decode cX7_remove 68 = .ok (.iload_n 2, 1) := by decide +kernel
theorem dX7_remove_69 : decode cX7_remove 69 = .ok (.iconst 1, 1) := by decide +kernel
theorem dX7_remove_70 : decode cX7_remove 70 = .ok (.isub, 1) := by decide +kernel
theorem dX7_remove_71 : decode cX7_remove 71 = .ok (.aload_n 0, 1) := by decide +kernel
theorem dX7_remove_72 : decode cX7_remove 72 = .ok (.getfield 21, 3) := by decide +kernel
theorem dX7_remove_75 : decode cX7_remove 75 = .ok (.iload_n 2, 1) := by decide +kernel
theorem dX7_remove_76 : decode cX7_remove 76 = .ok (.iaload, 1) := by decide +kernel
theorem dX7_remove_77 : decode cX7_remove 77 = .ok (.iastore, 1) := by decide +kernel
theorem dX7_remove_78 : decode cX7_remove 78 = .ok (.iinc 2 1, 3) := by decide +kernel
theorem dX7_remove_81 : decode cX7_remove 81 = .ok (.goto (-67), 3) := by decide +kernel
theorem dX7_remove_84 : decode cX7_remove 84 = .ok (.aload_n 0, 1) := by decide +kernel
theorem dX7_remove_85 : decode cX7_remove 85 = .ok (.dup, 1) := by decide +kernel
theorem dX7_remove_86 : decode cX7_remove 86 = .ok (.getfield 24, 3) := by decide +kernel
theorem dX7_remove_89 : decode cX7_remove 89 = .ok (.iconst 1, 1) := by decide +kernel
theorem dX7_remove_90 : decode cX7_remove 90 = .ok (.isub, 1) := by decide +kernel
theorem dX7_remove_91 : decode cX7_remove 91 = .ok (.putfield 24, 3) := by decide +kernel
theorem dX7_remove_94 : decode cX7_remove 94 = .ok (.aload_n 0, 1) := by decide +kernel
theorem dX7_remove_95 : decode cX7_remove 95 = .ok (.getfield 24, 3) := by decide +kernel
theorem dX7_remove_98 : decode cX7_remove 98 = .ok (.ireturn, 1) := by decide +kernel
theorem dX7_highestBar_0 : decode cX7_highestBar 0 = .ok (.iconst (-1), 1) := by decide +kernel
theorem dX7_highestBar_1 : decode cX7_highestBar 1 = .ok (.istore_n 1, 1) := by decide +kernel
theorem dX7_highestBar_2 : decode cX7_highestBar 2 = .ok (.iconst 0, 1) := by decide +kernel
theorem dX7_highestBar_3 : decode cX7_highestBar 3 = .ok (.istore_n 2, 1) := by decide +kernel
theorem dX7_highestBar_4 : decode cX7_highestBar 4 = .ok (.iload_n 2, 1) := by decide +kernel
theorem dX7_highestBar_5 : decode cX7_highestBar 5 = .ok (.aload_n 0, 1) := by decide +kernel
theorem dX7_highestBar_6 : decode cX7_highestBar 6 = .ok (.getfield 24, 3) := by decide +kernel
theorem dX7_highestBar_9 : decode cX7_highestBar 9 = .ok (.if_icmp .ge 20, 3) := by decide +kernel
theorem dX7_highestBar_12 : decode cX7_highestBar 12 = .ok (.iload_n 1, 1) := by decide +kernel
theorem dX7_highestBar_13 : decode cX7_highestBar 13 = .ok (.aload_n 0, 1) := by decide +kernel
theorem dX7_highestBar_14 : decode cX7_highestBar 14 = .ok (.getfield 15, 3) := by decide +kernel
theorem dX7_highestBar_17 : decode cX7_highestBar 17 = .ok (.iload_n 2, 1) := by decide +kernel
theorem dX7_highestBar_18 : decode cX7_highestBar 18 = .ok (.iaload, 1) := by decide +kernel
theorem dX7_highestBar_19 : decode cX7_highestBar 19 = .ok (.invokestatic 38, 3) := by decide +kernel
theorem dX7_highestBar_22 : decode cX7_highestBar 22 = .ok (.istore_n 1, 1) := by decide +kernel
theorem dX7_highestBar_23 : decode cX7_highestBar 23 = .ok (.iinc 2 1, 3) := by decide +kernel
theorem dX7_highestBar_26 : decode cX7_highestBar 26 = .ok (.goto (-22), 3) := by decide +kernel
theorem dX7_highestBar_29 : decode cX7_highestBar 29 = .ok (.iload_n 1, 1) := by decide +kernel
theorem dX7_highestBar_30 : decode cX7_highestBar 30 = .ok (.ireturn, 1) := by decide +kernel
theorem dX8_init_0 : decode cX8_init 0 = .ok (.aload_n 0, 1) := by decide +kernel
theorem dX8_init_1 : decode cX8_init 1 = .ok (.invokespecial 3, 3) := by decide +kernel
theorem dX8_init_4 : decode cX8_init 4 = .ok (.aload_n 0, 1) := by decide +kernel
theorem dX8_init_5 : decode cX8_init 5 = .ok (.new 9, 3) := by decide +kernel
theorem dX8_init_8 : decode cX8_init 8 = .ok (.dup, 1) := by decide +kernel
theorem dX8_init_9 : decode cX8_init 9 = .ok (.invokespecial 11, 3) := by decide +kernel
theorem dX8_init_12 : decode cX8_init 12 = .ok (.putfield 12, 3) := by decide +kernel
theorem dX8_init_15 : decode cX8_init 15 = .ok (.aload_n 0, 1) := by decide +kernel
theorem dX8_init_16 : decode cX8_init 16 = .ok (.new 16, 3) := by decide +kernel
theorem dX8_init_19 : decode cX8_init 19 = .ok (.dup, 1) := by decide +kernel
theorem dX8_init_20 : decode cX8_init 20 = .ok (.invokespecial 18, 3) := by decide +kernel
theorem dX8_init_23 : decode cX8_init 23 = .ok (.putfield 19, 3) := by decide +kernel
theorem dX8_init_26 : decode cX8_init 26 = .ok (.aload_n 0, 1) := by decide +kernel
theorem dX8_init_27 : decode cX8_init 27 = .ok (.new 9, 3) := by decide +kernel
theorem dX8_init_30 : decode cX8_init 30 = .ok (.dup, 1) := by decide +kernel
theorem dX8_init_31 : decode cX8_init 31 = .ok (.invokespecial 11, 3) := by decide +kernel
theorem dX8_init_34 : decode cX8_init 34 = .ok (.putfield 23, 3) := by decide +kernel
theorem dX8_init_37 : decode cX8_init 37 = .ok (.aload_n 0, 1) := by decide +kernel
theorem dX8_init_38 : decode cX8_init 38 = .ok (.new 16, 3) := by decide +kernel
theorem dX8_init_41 : decode cX8_init 41 = .ok (.dup, 1) := by decide +kernel
theorem dX8_init_42 : decode cX8_init 42 = .ok (.invokespecial 18, 3) := by decide +kernel
theorem dX8_init_45 : decode cX8_init 45 = .ok (.putfield 26, 3) := by decide +kernel
theorem dX8_init_48 : decode cX8_init 48 = .ok (.aload_n 0, 1) := by decide +kernel
theorem dX8_init_49 : decode cX8_init 49 = .ok (.new 29, 3) := by decide +kernel
theorem dX8_init_52 : decode cX8_init 52 = .ok (.dup, 1) := by decide +kernel
theorem dX8_init_53 : decode cX8_init 53 = .ok (.invokespecial 31, 3) := by decide +kernel
theorem dX8_init_56 : decode cX8_init 56 = .ok (.putfield 32, 3) := by decide +kernel
theorem dX8_init_59 : decode cX8_init 59 = .ok (.aload_n 0, 1) := by decide +kernel
theorem dX8_init_60 : decode cX8_init 60 = .ok (.new 36, 3) := by decide +kernel
theorem dX8_init_63 : decode cX8_init 63 = .ok (.dup, 1) := by decide +kernel
theorem dX8_init_64 : decode cX8_init 64 = .ok (.invokespecial 38, 3) := by decide +kernel
theorem dX8_init_67 : decode cX8_init 67 = .ok (.putfield 39, 3) := by decide +kernel
theorem dX8_init_70 : decode cX8_init 70 = .ok (.aload_n 0, 1) := by decide +kernel
theorem dX8_init_71 : decode cX8_init 71 = .ok (.new 43, 3) := by decide +kernel
theorem dX8_init_74 : decode cX8_init 74 = .ok (.dup, 1) := by decide +kernel
theorem dX8_init_75 : decode cX8_init 75 = .ok (.invokespecial 45, 3) := by decide +kernel
theorem dX8_init_78 : decode cX8_init 78 = .ok (.putfield 46, 3) := by decide +kernel
theorem dX8_init_81 : decode cX8_init 81 = .ok (.aload_n 0, 1) := by decide +kernel
theorem dX8_init_82 : decode cX8_init 82 = .ok (.iconst 2, 1) := by decide +kernel
theorem dX8_init_83 : decode cX8_init 83 = .ok (.anewarray 9, 3) := by decide +kernel
theorem dX8_init_86 : decode cX8_init 86 = .ok (.putfield 50, 3) := by decide +kernel
theorem dX8_init_89 : decode cX8_init 89 = .ok (.iconst 0, 1) := by decide +kernel
theorem dX8_init_90 : decode cX8_init 90 = .ok (.istore_n 1, 1) := by decide +kernel
theorem dX8_init_91 : decode cX8_init 91 = .ok (.iload_n 1, 1) := by decide +kernel
theorem dX8_init_92 : decode cX8_init 92 = .ok (.iconst 2, 1) := by decide +kernel
theorem dX8_init_93 : decode cX8_init 93 = .ok (.if_icmp .ge 22, 3) := by decide +kernel
theorem dX8_init_96 : decode cX8_init 96 = .ok (.aload_n 0, 1) := by decide +kernel
theorem dX8_init_97 : decode cX8_init 97 = .ok (.getfield 50, 3) := by decide +kernel
theorem dX8_init_100 : decode cX8_init 100 = .ok (.iload_n 1, 1) := by decide +kernel
theorem dX8_init_101 : decode cX8_init 101 = .ok (.new 9, 3) := by decide +kernel
theorem dX8_init_104 : decode cX8_init 104 = .ok (.dup, 1) := by decide +kernel
theorem dX8_init_105 : decode cX8_init 105 = .ok (.invokespecial 11, 3) := by decide +kernel
theorem dX8_init_108 : decode cX8_init 108 = .ok (.aastore, 1) := by decide +kernel
theorem dX8_init_109 : decode cX8_init 109 = .ok (.iinc 1 1, 3) := by decide +kernel
theorem dX8_init_112 : decode cX8_init 112 = .ok (.goto (-21), 3) := by decide +kernel
theorem dX8_init_115 : decode cX8_init 115 = .ok (.aload_n 0, 1) := by decide +kernel
theorem dX8_init_116 : decode cX8_init 116 = .ok (.iconst 2, 1) := by decide +kernel
theorem dX8_init_117 : decode cX8_init 117 = .ok (.newarray .boolean, 2) := by decide +kernel
theorem dX8_init_119 : decode cX8_init 119 = .ok (.putfield 54, 3) := by decide +kernel
theorem dX8_init_122 : decode cX8_init 122 = .ok (.aload_n 0, 1) := by decide +kernel
theorem dX8_init_123 : decode cX8_init 123 = .ok (.getfield 19, 3) := by decide +kernel
theorem dX8_init_126 : decode cX8_init 126 = .ok (.aload_n 0, 1) := by decide +kernel
theorem dX8_init_127 : decode cX8_init 127 = .ok (.getfield 12, 3) := by decide +kernel
theorem dX8_init_130 : decode cX8_init 130 = .ok (.invokevirtual 58, 3) := by decide +kernel
theorem dX8_init_133 : decode cX8_init 133 = .ok (.return_, 1) := by decide +kernel
theorem dX8_bars_0 : decode cX8_bars 0 = .ok (.aload_n 0, 1) := by decide +kernel
theorem dX8_bars_1 : decode cX8_bars 1 = .ok (.getfield 46, 3) := by decide +kernel
theorem dX8_bars_4 : decode cX8_bars 4 = .ok (.aload_n 0, 1) := by decide +kernel
theorem dX8_bars_5 : decode cX8_bars 5 = .ok (.getfield 12, 3) := by decide +kernel
theorem dX8_bars_8 : decode cX8_bars 8 = .ok (.invokevirtual 62, 3) := by decide +kernel
theorem dX8_bars_11 : decode cX8_bars 11 = .ok (.aload_n 0, 1) := by decide +kernel
theorem dX8_bars_12 : decode cX8_bars 12 = .ok (.aload_n 0, 1) := by decide +kernel
theorem dX8_bars_13 : decode cX8_bars 13 = .ok (.getfield 12, 3) := by decide +kernel
theorem dX8_bars_16 : decode cX8_bars 16 = .ok (.iload_n 1, 1) := by decide +kernel
theorem dX8_bars_17 : decode cX8_bars 17 = .ok (.invokevirtual 65, 3) := by decide +kernel
theorem dX8_bars_20 : decode cX8_bars 20 = .ok (.invokevirtual 69, 3) := by decide +kernel
theorem dX8_bars_23 : decode cX8_bars 23 = .ok (.ireturn, 1) := by decide +kernel
theorem dX8_shortest_0 : decode cX8_shortest 0 = .ok (.aload_n 0, 1) := by decide +kernel
theorem dX8_shortest_1 : decode cX8_shortest 1 = .ok (.getfield 46, 3) := by decide +kernel
theorem dX8_shortest_4 : decode cX8_shortest 4 = .ok (.aload_n 0, 1) := by decide +kernel
theorem dX8_shortest_5 : decode cX8_shortest 5 = .ok (.getfield 12, 3) := by decide +kernel
theorem dX8_shortest_8 : decode cX8_shortest 8 = .ok (.invokevirtual 62, 3) := by decide +kernel
theorem dX8_shortest_11 : decode cX8_shortest 11 = .ok (.aload_n 0, 1) := by decide +kernel
theorem dX8_shortest_12 : decode cX8_shortest 12 = .ok (.aload_n 0, 1) := by decide +kernel
theorem dX8_shortest_13 : decode cX8_shortest 13 = .ok (.getfield 12, 3) := by decide +kernel
theorem dX8_shortest_16 : decode cX8_shortest 16 = .ok (.iload_n 1, 1) := by decide +kernel
theorem dX8_shortest_17 : decode cX8_shortest 17 = .ok (.invokevirtual 72, 3) := by decide +kernel
theorem dX8_shortest_20 : decode cX8_shortest 20 = .ok (.invokevirtual 69, 3) := by decide +kernel
theorem dX8_shortest_23 : decode cX8_shortest 23 = .ok (.ireturn, 1) := by decide +kernel
theorem dX8_bar_0 : decode cX8_bar 0 = .ok (.aload_n 0, 1) := by decide +kernel
theorem dX8_bar_1 : decode cX8_bar 1 = .ok (.getfield 46, 3) := by decide +kernel
theorem dX8_bar_4 : decode cX8_bar 4 = .ok (.aload_n 0, 1) := by decide +kernel
theorem dX8_bar_5 : decode cX8_bar 5 = .ok (.getfield 12, 3) := by decide +kernel
theorem dX8_bar_8 : decode cX8_bar 8 = .ok (.invokevirtual 62, 3) := by decide +kernel
theorem dX8_bar_11 : decode cX8_bar 11 = .ok (.aload_n 0, 1) := by decide +kernel
theorem dX8_bar_12 : decode cX8_bar 12 = .ok (.aload_n 0, 1) := by decide +kernel
theorem dX8_bar_13 : decode cX8_bar 13 = .ok (.getfield 12, 3) := by decide +kernel
theorem dX8_bar_16 : decode cX8_bar 16 = .ok (.iload_n 1, 1) := by decide +kernel
theorem dX8_bar_17 : decode cX8_bar 17 = .ok (.iload_n 2, 1) := by decide +kernel
theorem dX8_bar_18 : decode cX8_bar 18 = .ok (.iload_n 3, 1) := by decide +kernel
theorem dX8_bar_19 : decode cX8_bar 19 = .ok (.invokevirtual 75, 3) := by decide +kernel
theorem dX8_bar_22 : decode cX8_bar 22 = .ok (.invokevirtual 69, 3) := by decide +kernel
theorem dX8_bar_25 : decode cX8_bar 25 = .ok (.ireturn, 1) := by decide +kernel
theorem dX8_repeat_0 : decode cX8_repeat 0 = .ok (.aload_n 0, 1) := by decide +kernel
theorem dX8_repeat_1 : decode cX8_repeat 1 = .ok (.getfield 46, 3) := by decide +kernel
theorem dX8_repeat_4 : decode cX8_repeat 4 = .ok (.aload_n 0, 1) := by decide +kernel
theorem dX8_repeat_5 : decode cX8_repeat 5 = .ok (.getfield 12, 3) := by decide +kernel
theorem dX8_repeat_8 : decode cX8_repeat 8 = .ok (.invokevirtual 62, 3) := by decide +kernel
theorem dX8_repeat_11 : decode cX8_repeat 11 = .ok (.aload_n 0, 1) := by decide +kernel
theorem dX8_repeat_12 : decode cX8_repeat 12 = .ok (.aload_n 0, 1) := by decide +kernel
theorem dX8_repeat_13 : decode cX8_repeat 13 = .ok (.getfield 12, 3) := by decide +kernel
theorem dX8_repeat_16 : decode cX8_repeat 16 = .ok (.iload_n 1, 1) := by decide +kernel
theorem dX8_repeat_17 : decode cX8_repeat 17 = .ok (.iload_n 2, 1) := by decide +kernel
theorem dX8_repeat_18 : decode cX8_repeat 18 = .ok (.invokevirtual 79, 3) := by decide +kernel
theorem dX8_repeat_21 : decode cX8_repeat 21 = .ok (.invokevirtual 69, 3) := by decide +kernel
theorem dX8_repeat_24 : decode cX8_repeat 24 = .ok (.ireturn, 1) := by decide +kernel
theorem dX8_cut_0 : decode cX8_cut 0 = .ok (.aload_n 0, 1) := by decide +kernel
theorem dX8_cut_1 : decode cX8_cut 1 = .ok (.getfield 46, 3) := by decide +kernel
theorem dX8_cut_4 : decode cX8_cut 4 = .ok (.aload_n 0, 1) := by decide +kernel
theorem dX8_cut_5 : decode cX8_cut 5 = .ok (.getfield 12, 3) := by decide +kernel
theorem dX8_cut_8 : decode cX8_cut 8 = .ok (.invokevirtual 62, 3) := by decide +kernel
theorem dX8_cut_11 : decode cX8_cut 11 = .ok (.aload_n 0, 1) := by decide +kernel
theorem dX8_cut_12 : decode cX8_cut 12 = .ok (.aload_n 0, 1) := by decide +kernel
theorem dX8_cut_13 : decode cX8_cut 13 = .ok (.getfield 12, 3) := by decide +kernel
theorem dX8_cut_16 : decode cX8_cut 16 = .ok (.iload_n 1, 1) := by decide +kernel
theorem dX8_cut_17 : decode cX8_cut 17 = .ok (.iload_n 2, 1) := by decide +kernel
theorem dX8_cut_18 : decode cX8_cut 18 = .ok (.invokevirtual 83, 3) := by decide +kernel
theorem dX8_cut_21 : decode cX8_cut 21 = .ok (.invokevirtual 69, 3) := by decide +kernel
theorem dX8_cut_24 : decode cX8_cut 24 = .ok (.ireturn, 1) := by decide +kernel
theorem dX8_blackout_0 : decode cX8_blackout 0 = .ok (.aload_n 0, 1) := by decide +kernel
theorem dX8_blackout_1 : decode cX8_blackout 1 = .ok (.getfield 46, 3) := by decide +kernel
theorem dX8_blackout_4 : decode cX8_blackout 4 = .ok (.aload_n 0, 1) := by decide +kernel
theorem dX8_blackout_5 : decode cX8_blackout 5 = .ok (.getfield 12, 3) := by decide +kernel
theorem dX8_blackout_8 : decode cX8_blackout 8 = .ok (.invokevirtual 62, 3) := by decide +kernel
theorem dX8_blackout_11 : decode cX8_blackout 11 = .ok (.aload_n 0, 1) := by decide +kernel
theorem dX8_blackout_12 : decode cX8_blackout 12 = .ok (.aload_n 0, 1) := by decide +kernel
theorem dX8_blackout_13 : decode cX8_blackout 13 = .ok (.getfield 12, 3) := by decide +kernel
theorem dX8_blackout_16 : decode cX8_blackout 16 = .ok (.iload_n 1, 1) := by decide +kernel
theorem dX8_blackout_17 : decode cX8_blackout 17 = .ok (.iload_n 2, 1) := by decide +kernel
theorem dX8_blackout_18 : decode cX8_blackout 18 = .ok (.invokevirtual 86, 3) := by decide +kernel
theorem dX8_blackout_21 : decode cX8_blackout 21 = .ok (.invokevirtual 69, 3) := by decide +kernel
theorem dX8_blackout_24 : decode cX8_blackout 24 = .ok (.ireturn, 1) := by decide +kernel
theorem dX8_undoSpan_0 : decode cX8_undoSpan 0 = .ok (.aload_n 0, 1) := by decide +kernel
theorem dX8_undoSpan_1 : decode cX8_undoSpan 1 = .ok (.getfield 46, 3) := by decide +kernel
theorem dX8_undoSpan_4 : decode cX8_undoSpan 4 = .ok (.aload_n 0, 1) := by decide +kernel
theorem dX8_undoSpan_5 : decode cX8_undoSpan 5 = .ok (.getfield 12, 3) := by decide +kernel
theorem dX8_undoSpan_8 : decode cX8_undoSpan 8 = .ok (.invokevirtual 62, 3) := by decide +kernel
theorem dX8_undoSpan_11 : decode cX8_undoSpan 11 = .ok (.aload_n 0, 1) := by decide +kernel
theorem dX8_undoSpan_12 : decode cX8_undoSpan 12 = .ok (.aload_n 0, 1) := by decide +kernel
theorem dX8_undoSpan_13 : decode cX8_undoSpan 13 = .ok (.getfield 12, 3) := by decide +kernel
theorem dX8_undoSpan_16 : decode cX8_undoSpan 16 = .ok (.iload_n 1, 1) := by decide +kernel
theorem dX8_undoSpan_17 : decode cX8_undoSpan 17 = .ok (.iload_n 2, 1) := by decide +kernel
theorem dX8_undoSpan_18 : decode cX8_undoSpan 18 = .ok (.invokevirtual 89, 3) := by decide +kernel
theorem dX8_undoSpan_21 : decode cX8_undoSpan 21 = .ok (.invokevirtual 69, 3) := by decide +kernel
theorem dX8_undoSpan_24 : decode cX8_undoSpan 24 = .ok (.ireturn, 1) := by decide +kernel
theorem dX8_title_0 : decode cX8_title 0 = .ok (.aload_n 0, 1) := by decide +kernel
theorem dX8_title_1 : decode cX8_title 1 = .ok (.getfield 46, 3) := by decide +kernel
theorem dX8_title_4 : decode cX8_title 4 = .ok (.aload_n 0, 1) := by decide +kernel
theorem dX8_title_5 : decode cX8_title 5 = .ok (.getfield 12, 3) := by decide +kernel
theorem dX8_title_8 : decode cX8_title 8 = .ok (.invokevirtual 62, 3) := by decide +kernel
theorem dX8_title_11 : decode cX8_title 11 = .ok (.aload_n 0, 1) := by decide +kernel
theorem dX8_title_12 : decode cX8_title 12 = .ok (.aload_n 0, 1) := by decide +kernel
theorem dX8_title_13 : decode cX8_title 13 = .ok (.getfield 12, 3) := by decide +kernel
theorem dX8_title_16 : decode cX8_title 16 = .ok (.iload_n 1, 1) := by decide +kernel
theorem dX8_title_17 : decode cX8_title 17 = .ok (.iload_n 2, 1) := by decide +kernel
theorem dX8_title_18 : decode cX8_title 18 = .ok (.iload_n 3, 1) := by decide +kernel
theorem dX8_title_19 : decode cX8_title 19 = .ok (.iload 4, 2) := by decide +kernel
theorem dX8_title_21 : decode cX8_title 21 = .ok (.invokevirtual 92, 3) := by decide +kernel
theorem dX8_title_24 : decode cX8_title 24 = .ok (.invokevirtual 69, 3) := by decide +kernel
theorem dX8_title_27 : decode cX8_title 27 = .ok (.ireturn, 1) := by decide +kernel
theorem dX8_drop_0 : decode cX8_drop 0 = .ok (.aload_n 0, 1) := by decide +kernel
theorem dX8_drop_1 : decode cX8_drop 1 = .ok (.getfield 46, 3) := by decide +kernel
theorem dX8_drop_4 : decode cX8_drop 4 = .ok (.aload_n 0, 1) := by decide +kernel
theorem dX8_drop_5 : decode cX8_drop 5 = .ok (.getfield 12, 3) := by decide +kernel
theorem dX8_drop_8 : decode cX8_drop 8 = .ok (.invokevirtual 62, 3) := by decide +kernel
theorem dX8_drop_11 : decode cX8_drop 11 = .ok (.aload_n 0, 1) := by decide +kernel
theorem dX8_drop_12 : decode cX8_drop 12 = .ok (.aload_n 0, 1) := by decide +kernel
theorem dX8_drop_13 : decode cX8_drop 13 = .ok (.getfield 12, 3) := by decide +kernel
theorem dX8_drop_16 : decode cX8_drop 16 = .ok (.iload_n 1, 1) := by decide +kernel
theorem dX8_drop_17 : decode cX8_drop 17 = .ok (.invokevirtual 96, 3) := by decide +kernel
theorem dX8_drop_20 : decode cX8_drop 20 = .ok (.invokevirtual 69, 3) := by decide +kernel
theorem dX8_drop_23 : decode cX8_drop 23 = .ok (.ireturn, 1) := by decide +kernel
theorem dX8_ofBar_0 : decode cX8_ofBar 0 = .ok (.aload_n 0, 1) := by decide +kernel
theorem dX8_ofBar_1 : decode cX8_ofBar 1 = .ok (.getfield 12, 3) := by decide +kernel
theorem dX8_ofBar_4 : decode cX8_ofBar 4 = .ok (.iload_n 1, 1) := by decide +kernel
theorem dX8_ofBar_5 : decode cX8_ofBar 5 = .ok (.invokevirtual 99, 3) := by decide +kernel
theorem dX8_ofBar_8 : decode cX8_ofBar 8 = .ok (.ifCond .ne 5, 3) := by decide +kernel
theorem dX8_ofBar_11 : decode cX8_ofBar 11 = .ok (.iconst (-1), 1) := by decide +kernel
theorem dX8_ofBar_12 : decode cX8_ofBar 12 = .ok (.ireturn, 1) := by decide +kernel
theorem dX8_ofBar_13 : decode cX8_ofBar 13 = .ok (.iload_n 2, 1) := by decide +kernel
theorem dX8_ofBar_14 : decode cX8_ofBar 14 = .ok (.tableswitch 107 0 5 #[38, 48, 58, 67, 77, 87], 38) := by decide +kernel
theorem dX8_ofBar_52 : decode cX8_ofBar 52 = .ok (.aload_n 0, 1) := by decide +kernel
theorem dX8_ofBar_53 : decode cX8_ofBar 53 = .ok (.getfield 12, 3) := by decide +kernel
theorem dX8_ofBar_56 : decode cX8_ofBar 56 = .ok (.getfield 103, 3) := by decide +kernel
end
section
theorem dX8_ofBar_59 : decode cX8_ofBar 59 = .ok (.iload_n 1, 1) := by decide +kernel
theorem dX8_ofBar_60 : decode cX8_ofBar 60 = .ok (.iaload, 1) := by decide +kernel
theorem dX8_ofBar_61 : decode cX8_ofBar 61 = .ok (.ireturn, 1) := by decide +kernel
theorem dX8_ofBar_62 : decode cX8_ofBar 62 = .ok (.aload_n 0, 1) := by decide +kernel
theorem dX8_ofBar_63 : decode cX8_ofBar 63 = .ok (.getfield 12, 3) := by decide +kernel
theorem dX8_ofBar_66 : decode cX8_ofBar 66 = .ok (.getfield 107, 3) := by decide +kernel
theorem dX8_ofBar_69 : decode cX8_ofBar 69 = .ok (.iload_n 1, 1) := by decide +kernel
theorem dX8_ofBar_70 : decode cX8_ofBar 70 = .ok (.iaload, 1) := by decide +kernel
theorem dX8_ofBar_71 : decode cX8_ofBar 71 = .ok (.ireturn, 1) := by decide +kernel
theorem dX8_ofBar_72 : decode cX8_ofBar 72 = .ok (.aload_n 0, 1) := by decide +kernel
theorem dX8_ofBar_73 : decode cX8_ofBar 73 = .ok (.getfield 12, 3) := by decide +kernel
theorem dX8_ofBar_76 : decode cX8_ofBar 76 = .ok (.iload_n 1, 1) := by decide +kernel
theorem dX8_ofBar_77 : decode cX8_ofBar 77 = .ok (.invokevirtual 110, 3) := by decide +kernel
theorem dX8_ofBar_80 : decode cX8_ofBar 80 = .ok (.ireturn, 1) := by decide +kernel
theorem dX8_ofBar_81 : decode cX8_ofBar 81 = .ok (.aload_n 0, 1) := by decide +kernel
theorem dX8_ofBar_82 : decode cX8_ofBar 82 = .ok (.getfield 19, 3) := by decide +kernel
theorem dX8_ofBar_85 : decode cX8_ofBar 85 = .ok (.getfield 113, 3) := by decide +kernel
theorem dX8_ofBar_88 : decode cX8_ofBar 88 = .ok (.iload_n 1, 1) := by decide +kernel
theorem dX8_ofBar_89 : decode cX8_ofBar 89 = .ok (.iaload, 1) := by decide +kernel
theorem dX8_ofBar_90 : decode cX8_ofBar 90 = .ok (.ireturn, 1) := by decide +kernel
theorem dX8_ofBar_91 : decode cX8_ofBar 91 = .ok (.aload_n 0, 1) := by decide +kernel
theorem dX8_ofBar_92 : decode cX8_ofBar 92 = .ok (.getfield 19, 3) := by decide +kernel
theorem dX8_ofBar_95 : decode cX8_ofBar 95 = .ok (.getfield 116, 3) := by decide +kernel
theorem dX8_ofBar_98 : decode cX8_ofBar 98 = .ok (.iload_n 1, 1) := by decide +kernel
theorem dX8_ofBar_99 : decode cX8_ofBar 99 = .ok (.iaload, 1) := by decide +kernel
theorem dX8_ofBar_100 : decode cX8_ofBar 100 = .ok (.ireturn, 1) := by decide +kernel
theorem dX8_ofBar_101 : decode cX8_ofBar 101 = .ok (.aload_n 0, 1) := by decide +kernel
theorem dX8_ofBar_102 : decode cX8_ofBar 102 = .ok (.getfield 12, 3) := by decide +kernel
theorem dX8_ofBar_105 : decode cX8_ofBar 105 = .ok (.getfield 119, 3) := by decide +kernel
theorem dX8_ofBar_108 : decode cX8_ofBar 108 = .ok (.iload_n 1, 1) := by decide +kernel
theorem dX8_ofBar_109 : decode cX8_ofBar 109 = .ok (.invokevirtual 123, 3) := by decide +kernel
theorem dX8_ofBar_112 : decode cX8_ofBar 112 = .ok (.ifCond .eq 7, 3) := by decide +kernel
theorem dX8_ofBar_115 : decode cX8_ofBar 115 = .ok (.iconst 1, 1) := by decide +kernel
theorem dX8_ofBar_116 : decode cX8_ofBar 116 = .ok (.goto 4, 3) := by decide +kernel
theorem dX8_ofBar_119 : decode cX8_ofBar 119 = .ok (.iconst 0, 1) := by decide +kernel
theorem dX8_ofBar_120 : decode cX8_ofBar 120 = .ok (.ireturn, 1) := by decide +kernel
theorem dX8_ofBar_121 : decode cX8_ofBar 121 = .ok (.bipush (-2), 2) := by decide +kernel
theorem dX8_ofBar_123 : decode cX8_ofBar 123 = .ok (.ireturn, 1) := by decide +kernel
theorem dX8_sung_0 : decode cX8_sung 0 = .ok (.aload_n 0, 1) := by decide +kernel
theorem dX8_sung_1 : decode cX8_sung 1 = .ok (.getfield 19, 3) := by decide +kernel
theorem dX8_sung_4 : decode cX8_sung 4 = .ok (.iload_n 1, 1) := by decide +kernel
theorem dX8_sung_5 : decode cX8_sung 5 = .ok (.invokevirtual 128, 3) := by decide +kernel
theorem dX8_sung_8 : decode cX8_sung 8 = .ok (.ifCond .ne 5, 3) := by decide +kernel
theorem dX8_sung_11 : decode cX8_sung 11 = .ok (.iconst (-1), 1) := by decide +kernel
theorem dX8_sung_12 : decode cX8_sung 12 = .ok (.ireturn, 1) := by decide +kernel
theorem dX8_sung_13 : decode cX8_sung 13 = .ok (.iload_n 2, 1) := by decide +kernel
theorem dX8_sung_14 : decode cX8_sung 14 = .ok (.tableswitch 66 0 2 #[26, 36, 46], 26) := by decide +kernel
theorem dX8_sung_40 : decode cX8_sung 40 = .ok (.aload_n 0, 1) := by decide +kernel
theorem dX8_sung_41 : decode cX8_sung 41 = .ok (.getfield 19, 3) := by decide +kernel
theorem dX8_sung_44 : decode cX8_sung 44 = .ok (.getfield 131, 3) := by decide +kernel
theorem dX8_sung_47 : decode cX8_sung 47 = .ok (.iload_n 1, 1) := by decide +kernel
theorem dX8_sung_48 : decode cX8_sung 48 = .ok (.iaload, 1) := by decide +kernel
theorem dX8_sung_49 : decode cX8_sung 49 = .ok (.ireturn, 1) := by decide +kernel
theorem dX8_sung_50 : decode cX8_sung 50 = .ok (.aload_n 0, 1) := by decide +kernel
theorem dX8_sung_51 : decode cX8_sung 51 = .ok (.getfield 19, 3) := by decide +kernel
theorem dX8_sung_54 : decode cX8_sung 54 = .ok (.getfield 134, 3) := by decide +kernel
theorem dX8_sung_57 : decode cX8_sung 57 = .ok (.iload_n 1, 1) := by decide +kernel
theorem dX8_sung_58 : decode cX8_sung 58 = .ok (.iaload, 1) := by decide +kernel
theorem dX8_sung_59 : decode cX8_sung 59 = .ok (.ireturn, 1) := by decide +kernel
theorem dX8_sung_60 : decode cX8_sung 60 = .ok (.aload_n 0, 1) := by decide +kernel
theorem dX8_sung_61 : decode cX8_sung 61 = .ok (.getfield 12, 3) := by decide +kernel
theorem dX8_sung_64 : decode cX8_sung 64 = .ok (.getfield 137, 3) := by decide +kernel
theorem dX8_sung_67 : decode cX8_sung 67 = .ok (.iload_n 1, 1) := by decide +kernel
theorem dX8_sung_68 : decode cX8_sung 68 = .ok (.invokevirtual 123, 3) := by decide +kernel
theorem dX8_sung_71 : decode cX8_sung 71 = .ok (.ifCond .eq 7, 3) := by decide +kernel
theorem dX8_sung_74 : decode cX8_sung 74 = .ok (.iconst 1, 1) := by decide +kernel
theorem dX8_sung_75 : decode cX8_sung 75 = .ok (.goto 4, 3) := by decide +kernel
theorem dX8_sung_78 : decode cX8_sung 78 = .ok (.iconst 0, 1) := by decide +kernel
theorem dX8_sung_79 : decode cX8_sung 79 = .ok (.ireturn, 1) := by decide +kernel
theorem dX8_sung_80 : decode cX8_sung 80 = .ok (.bipush (-2), 2) := by decide +kernel
theorem dX8_sung_82 : decode cX8_sung 82 = .ok (.ireturn, 1) := by decide +kernel
theorem dX8_ofTitle_0 : decode cX8_ofTitle 0 = .ok (.aload_n 0, 1) := by decide +kernel
theorem dX8_ofTitle_1 : decode cX8_ofTitle 1 = .ok (.getfield 12, 3) := by decide +kernel
theorem dX8_ofTitle_4 : decode cX8_ofTitle 4 = .ok (.getfield 140, 3) := by decide +kernel
theorem dX8_ofTitle_7 : decode cX8_ofTitle 7 = .ok (.iload_n 1, 1) := by decide +kernel
theorem dX8_ofTitle_8 : decode cX8_ofTitle 8 = .ok (.invokevirtual 144, 3) := by decide +kernel
theorem dX8_ofTitle_11 : decode cX8_ofTitle 11 = .ok (.ifCond .ne 5, 3) := by decide +kernel
theorem dX8_ofTitle_14 : decode cX8_ofTitle 14 = .ok (.iconst (-1), 1) := by decide +kernel
theorem dX8_ofTitle_15 : decode cX8_ofTitle 15 = .ok (.ireturn, 1) := by decide +kernel
theorem dX8_ofTitle_16 : decode cX8_ofTitle 16 = .ok (.iload_n 2, 1) := by decide +kernel
theorem dX8_ofTitle_17 : decode cX8_ofTitle 17 = .ok (.tableswitch 131 0 6 #[43, 56, 69, 82, 95, 107, 119], 43) := by decide +kernel
theorem dX8_ofTitle_60 : decode cX8_ofTitle 60 = .ok (.aload_n 0, 1) := by decide +kernel
theorem dX8_ofTitle_61 : decode cX8_ofTitle 61 = .ok (.getfield 12, 3) := by decide +kernel
theorem dX8_ofTitle_64 : decode cX8_ofTitle 64 = .ok (.getfield 140, 3) := by decide +kernel
theorem dX8_ofTitle_67 : decode cX8_ofTitle 67 = .ok (.getfield 149, 3) := by decide +kernel
theorem dX8_ofTitle_70 : decode cX8_ofTitle 70 = .ok (.iload_n 1, 1) := by decide +kernel
theorem dX8_ofTitle_71 : decode cX8_ofTitle 71 = .ok (.iaload, 1) := by decide +kernel
theorem dX8_ofTitle_72 : decode cX8_ofTitle 72 = .ok (.ireturn, 1) := by decide +kernel
theorem dX8_ofTitle_73 : decode cX8_ofTitle 73 = .ok (.aload_n 0, 1) := by decide +kernel
theorem dX8_ofTitle_74 : decode cX8_ofTitle 74 = .ok (.getfield 12, 3) := by decide +kernel
theorem dX8_ofTitle_77 : decode cX8_ofTitle 77 = .ok (.getfield 140, 3) := by decide +kernel
theorem dX8_ofTitle_80 : decode cX8_ofTitle 80 = .ok (.getfield 152, 3) := by decide +kernel
theorem dX8_ofTitle_83 : decode cX8_ofTitle 83 = .ok (.iload_n 1, 1) := by decide +kernel
theorem dX8_ofTitle_84 : decode cX8_ofTitle 84 = .ok (.iaload, 1) := by decide +kernel
theorem dX8_ofTitle_85 : decode cX8_ofTitle 85 = .ok (.ireturn, 1) := by decide +kernel
theorem dX8_ofTitle_86 : decode cX8_ofTitle 86 = .ok (.aload_n 0, 1) := by decide +kernel
theorem dX8_ofTitle_87 : decode cX8_ofTitle 87 = .ok (.getfield 12, 3) := by decide +kernel
theorem dX8_ofTitle_90 : decode cX8_ofTitle 90 = .ok (.getfield 140, 3) := by decide +kernel
theorem dX8_ofTitle_93 : decode cX8_ofTitle 93 = .ok (.getfield 155, 3) := by decide +kernel
theorem dX8_ofTitle_96 : decode cX8_ofTitle 96 = .ok (.iload_n 1, 1) := by decide +kernel
theorem dX8_ofTitle_97 : decode cX8_ofTitle 97 = .ok (.iaload, 1) := by decide +kernel
theorem dX8_ofTitle_98 : decode cX8_ofTitle 98 = .ok (.ireturn, 1) := by decide +kernel
theorem dX8_ofTitle_99 : decode cX8_ofTitle 99 = .ok (.aload_n 0, 1) := by decide +kernel
theorem dX8_ofTitle_100 : decode cX8_ofTitle 100 = .ok (.getfield 12, 3) := by decide +kernel
theorem dX8_ofTitle_103 : decode cX8_ofTitle 103 = .ok (.getfield 140, 3) := by decide +kernel
theorem dX8_ofTitle_106 : decode cX8_ofTitle 106 = .ok (.getfield 158, 3) := by decide +kernel
theorem dX8_ofTitle_109 : decode cX8_ofTitle 109 = .ok (.iload_n 1, 1) := by decide +kernel
theorem dX8_ofTitle_110 : decode cX8_ofTitle 110 = .ok (.iaload, 1) := by decide +kernel
theorem dX8_ofTitle_111 : decode cX8_ofTitle 111 = .ok (.ireturn, 1) := by decide +kernel
theorem dX8_ofTitle_112 : decode cX8_ofTitle 112 = .ok (.aload_n 0, 1) := by decide +kernel
theorem dX8_ofTitle_113 : decode cX8_ofTitle 113 = .ok (.getfield 19, 3) := by decide +kernel
theorem dX8_ofTitle_116 : decode cX8_ofTitle 116 = .ok (.getfield 161, 3) := by decide +kernel
theorem dX8_ofTitle_119 : decode cX8_ofTitle 119 = .ok (.iload_n 1, 1) := by decide +kernel
theorem dX8_ofTitle_120 : decode cX8_ofTitle 120 = .ok (.invokevirtual 165, 3) := by decide +kernel
theorem dX8_ofTitle_123 : decode cX8_ofTitle 123 = .ok (.ireturn, 1) := by decide +kernel
theorem dX8_ofTitle_124 : decode cX8_ofTitle 124 = .ok (.aload_n 0, 1) := by decide +kernel
theorem dX8_ofTitle_125 : decode cX8_ofTitle 125 = .ok (.getfield 19, 3) := by decide +kernel
theorem dX8_ofTitle_128 : decode cX8_ofTitle 128 = .ok (.getfield 161, 3) := by decide +kernel
theorem dX8_ofTitle_131 : decode cX8_ofTitle 131 = .ok (.iload_n 1, 1) := by decide +kernel
theorem dX8_ofTitle_132 : decode cX8_ofTitle 132 = .ok (.invokevirtual 170, 3) := by decide +kernel
theorem dX8_ofTitle_135 : decode cX8_ofTitle 135 = .ok (.ireturn, 1) := by decide +kernel
theorem dX8_ofTitle_136 : decode cX8_ofTitle 136 = .ok (.aload_n 0, 1) := by decide +kernel
theorem dX8_ofTitle_137 : decode cX8_ofTitle 137 = .ok (.getfield 19, 3) := by decide +kernel
theorem dX8_ofTitle_140 : decode cX8_ofTitle 140 = .ok (.getfield 161, 3) := by decide +kernel
theorem dX8_ofTitle_143 : decode cX8_ofTitle 143 = .ok (.iload_n 1, 1) := by decide +kernel
theorem dX8_ofTitle_144 : decode cX8_ofTitle 144 = .ok (.invokevirtual 173, 3) := by decide +kernel
theorem dX8_ofTitle_147 : decode cX8_ofTitle 147 = .ok (.ireturn, 1) := by decide +kernel
theorem dX8_ofTitle_148 : decode cX8_ofTitle 148 = .ok (.bipush (-2), 2) := by decide +kernel
theorem dX8_ofTitle_150 : decode cX8_ofTitle 150 = .ok (.ireturn, 1) := by decide +kernel
theorem dX8_showing_0 : decode cX8_showing 0 = .ok (.aload_n 0, 1) := by decide +kernel
theorem dX8_showing_1 : decode cX8_showing 1 = .ok (.getfield 19, 3) := by decide +kernel
theorem dX8_showing_4 : decode cX8_showing 4 = .ok (.getfield 161, 3) := by decide +kernel
theorem dX8_showing_7 : decode cX8_showing 7 = .ok (.astore_n 3, 1) := by decide +kernel
theorem dX8_showing_8 : decode cX8_showing 8 = .ok (.aload_n 3, 1) := by decide +kernel
theorem dX8_showing_9 : decode cX8_showing 9 = .ok (.iload_n 1, 1) := by decide +kernel
theorem dX8_showing_10 : decode cX8_showing 10 = .ok (.invokevirtual 174, 3) := by decide +kernel
theorem dX8_showing_13 : decode cX8_showing 13 = .ok (.ifCond .ne 5, 3) := by decide +kernel
theorem dX8_showing_16 : decode cX8_showing 16 = .ok (.iconst (-1), 1) := by decide +kernel
theorem dX8_showing_17 : decode cX8_showing 17 = .ok (.ireturn, 1) := by decide +kernel
theorem dX8_showing_18 : decode cX8_showing 18 = .ok (.iload_n 2, 1) := by decide +kernel
theorem dX8_showing_19 : decode cX8_showing 19 = .ok (.tableswitch 126 0 7 #[45, 52, 59, 66, 73, 80, 100, 120], 45) := by decide +kernel
theorem dX8_showing_64 : decode cX8_showing 64 = .ok (.aload_n 3, 1) := by decide +kernel
theorem dX8_showing_65 : decode cX8_showing 65 = .ok (.getfield 175, 3) := by decide +kernel
theorem dX8_showing_68 : decode cX8_showing 68 = .ok (.iload_n 1, 1) := by decide +kernel
theorem dX8_showing_69 : decode cX8_showing 69 = .ok (.iaload, 1) := by decide +kernel
theorem dX8_showing_70 : decode cX8_showing 70 = .ok (.ireturn, 1) := by decide +kernel
theorem dX8_showing_71 : decode cX8_showing 71 = .ok (.aload_n 3, 1) := by decide +kernel
theorem dX8_showing_72 : decode cX8_showing 72 = .ok (.getfield 178, 3) := by decide +kernel
theorem dX8_showing_75 : decode cX8_showing 75 = .ok (.iload_n 1, 1) := by decide +kernel
theorem dX8_showing_76 : decode cX8_showing 76 = .ok (.iaload, 1) := by decide +kernel
theorem dX8_showing_77 : decode cX8_showing 77 = .ok (.ireturn, 1) := by decide +kernel
theorem dX8_showing_78 : decode cX8_showing 78 = .ok (.aload_n 3, 1) := by decide +kernel
theorem dX8_showing_79 : decode cX8_showing 79 = .ok (.getfield 181, 3) := by decide +kernel
theorem dX8_showing_82 : decode cX8_showing 82 = .ok (.iload_n 1, 1) := by decide +kernel
theorem dX8_showing_83 : decode cX8_showing 83 = .ok (.iaload, 1) := by decide +kernel
theorem dX8_showing_84 : decode cX8_showing 84 = .ok (.ireturn, 1) := by decide +kernel
theorem dX8_showing_85 : decode cX8_showing 85 = .ok (.aload_n 3, 1) := by decide +kernel
theorem dX8_showing_86 : decode cX8_showing 86 = .ok (.getfield 184, 3) := by decide +kernel
theorem dX8_showing_89 : decode cX8_showing 89 = .ok (.iload_n 1, 1) := by decide +kernel
theorem dX8_showing_90 : decode cX8_showing 90 = .ok (.iaload, 1) := by decide +kernel
theorem dX8_showing_91 : decode cX8_showing 91 = .ok (.ireturn, 1) := by decide +kernel
theorem dX8_showing_92 : decode cX8_showing 92 = .ok (.aload_n 3, 1) := by decide +kernel
theorem dX8_showing_93 : decode cX8_showing 93 = .ok (.getfield 187, 3) := by decide +kernel
theorem dX8_showing_96 : decode cX8_showing 96 = .ok (.iload_n 1, 1) := by decide +kernel
theorem dX8_showing_97 : decode cX8_showing 97 = .ok (.iaload, 1) := by decide +kernel
theorem dX8_showing_98 : decode cX8_showing 98 = .ok (.ireturn, 1) := by decide +kernel
theorem dX8_showing_99 : decode cX8_showing 99 = .ok (.aload_n 3, 1) := by decide +kernel
theorem dX8_showing_100 : decode cX8_showing 100 = .ok (.iload_n 1, 1) := by decide +kernel
theorem dX8_showing_101 : decode cX8_showing 101 = .ok (.invokevirtual 190, 3) := by decide +kernel
theorem dX8_showing_104 : decode cX8_showing 104 = .ok (.ifCond .eq 12, 3) := by decide +kernel
theorem dX8_showing_107 : decode cX8_showing 107 = .ok (.aload_n 3, 1) := by decide +kernel
theorem dX8_showing_108 : decode cX8_showing 108 = .ok (.getfield 193, 3) := by decide +kernel
theorem dX8_showing_111 : decode cX8_showing 111 = .ok (.iload_n 1, 1) := by decide +kernel
theorem dX8_showing_112 : decode cX8_showing 112 = .ok (.iaload, 1) := by decide +kernel
theorem dX8_showing_113 : decode cX8_showing 113 = .ok (.goto 5, 3) := by decide +kernel
theorem dX8_showing_116 : decode cX8_showing 116 = .ok (.bipush (-6), 2) := by decide +kernel
theorem dX8_showing_118 : decode cX8_showing 118 = .ok (.ireturn, 1) := by decide +kernel
theorem dX8_showing_119 : decode cX8_showing 119 = .ok (.aload_n 3, 1) := by decide +kernel
theorem dX8_showing_120 : decode cX8_showing 120 = .ok (.iload_n 1, 1) := by decide +kernel
theorem dX8_showing_121 : decode cX8_showing 121 = .ok (.invokevirtual 190, 3) := by decide +kernel
theorem dX8_showing_124 : decode cX8_showing 124 = .ok (.ifCond .eq 12, 3) := by decide +kernel
theorem dX8_showing_127 : decode cX8_showing 127 = .ok (.aload_n 3, 1) := by decide +kernel
theorem dX8_showing_128 : decode cX8_showing 128 = .ok (.getfield 196, 3) := by decide +kernel
theorem dX8_showing_131 : decode cX8_showing 131 = .ok (.iload_n 1, 1) := by decide +kernel
theorem dX8_showing_132 : decode cX8_showing 132 = .ok (.iaload, 1) := by decide +kernel
theorem dX8_showing_133 : decode cX8_showing 133 = .ok (.goto 5, 3) := by decide +kernel
theorem dX8_showing_136 : decode cX8_showing 136 = .ok (.bipush (-6), 2) := by decide +kernel
theorem dX8_showing_138 : decode cX8_showing 138 = .ok (.ireturn, 1) := by decide +kernel
theorem dX8_showing_139 : decode cX8_showing 139 = .ok (.aload_n 0, 1) := by decide +kernel
theorem dX8_showing_140 : decode cX8_showing 140 = .ok (.iload_n 1, 1) := by decide +kernel
theorem dX8_showing_141 : decode cX8_showing 141 = .ok (.invokevirtual 199, 3) := by decide +kernel
theorem dX8_showing_144 : decode cX8_showing 144 = .ok (.ireturn, 1) := by decide +kernel
theorem dX8_showing_145 : decode cX8_showing 145 = .ok (.bipush (-2), 2) := by decide +kernel
theorem dX8_showing_147 : decode cX8_showing 147 = .ok (.ireturn, 1) := by decide +kernel
theorem dX8_at_0 : decode cX8_at 0 = .ok (.iload_n 1, 1) := by decide +kernel
theorem dX8_at_1 : decode cX8_at 1 = .ok (.ifCond .ge 6, 3) := by decide +kernel
theorem dX8_at_4 : decode cX8_at 4 = .ok (.bipush (-2), 2) := by decide +kernel
theorem dX8_at_6 : decode cX8_at 6 = .ok (.ireturn, 1) := by decide +kernel
theorem dX8_at_7 : decode cX8_at 7 = .ok (.aload_n 0, 1) := by decide +kernel
theorem dX8_at_8 : decode cX8_at 8 = .ok (.getfield 19, 3) := by decide +kernel
theorem dX8_at_11 : decode cX8_at 11 = .ok (.getfield 161, 3) := by decide +kernel
theorem dX8_at_14 : decode cX8_at 14 = .ok (.iload_n 1, 1) := by decide +kernel
theorem dX8_at_15 : decode cX8_at 15 = .ok (.invokevirtual 202, 3) := by decide +kernel
theorem dX8_at_18 : decode cX8_at 18 = .ok (.ireturn, 1) := by decide +kernel
theorem dX8_count_0 : decode cX8_count 0 = .ok (.iload_n 1, 1) := by decide +kernel
theorem dX8_count_1 : decode cX8_count 1 = .ok (.tableswitch 225 0 14 #[75, 83, 94, 105, 116, 127, 135, 143, 151, 162, 174, 186, 198, 209, 217], 75) := by decide +kernel
theorem dX8_count_76 : decode cX8_count 76 = .ok (.aload_n 0, 1) := by decide +kernel
theorem dX8_count_77 : decode cX8_count 77 = .ok (.getfield 12, 3) := by decide +kernel
theorem dX8_count_80 : decode cX8_count 80 = .ok (.getfield 205, 3) := by decide +kernel
theorem dX8_count_83 : decode cX8_count 83 = .ok (.ireturn, 1) := by decide +kernel
theorem dX8_count_84 : decode cX8_count 84 = .ok (.aload_n 0, 1) := by decide +kernel
theorem dX8_count_85 : decode cX8_count 85 = .ok (.getfield 12, 3) := by decide +kernel
theorem dX8_count_88 : decode cX8_count 88 = .ok (.getfield 209, 3) := by decide +kernel
theorem dX8_count_91 : decode cX8_count 91 = .ok (.getfield 212, 3) := by decide +kernel
theorem dX8_count_94 : decode cX8_count 94 = .ok (.ireturn, 1) := by decide +kernel
theorem dX8_count_95 : decode cX8_count 95 = .ok (.aload_n 0, 1) := by decide +kernel
theorem dX8_count_96 : decode cX8_count 96 = .ok (.getfield 12, 3) := by decide +kernel
theorem dX8_count_99 : decode cX8_count 99 = .ok (.getfield 119, 3) := by decide +kernel
theorem dX8_count_102 : decode cX8_count 102 = .ok (.getfield 212, 3) := by decide +kernel
theorem dX8_count_105 : decode cX8_count 105 = .ok (.ireturn, 1) := by decide +kernel
theorem dX8_count_106 : decode cX8_count 106 = .ok (.aload_n 0, 1) := by decide +kernel
theorem dX8_count_107 : decode cX8_count 107 = .ok (.getfield 12, 3) := by decide +kernel
theorem dX8_count_110 : decode cX8_count 110 = .ok (.getfield 137, 3) := by decide +kernel
theorem dX8_count_113 : decode cX8_count 113 = .ok (.getfield 212, 3) := by decide +kernel
theorem dX8_count_116 : decode cX8_count 116 = .ok (.ireturn, 1) := by decide +kernel
theorem dX8_count_117 : decode cX8_count 117 = .ok (.aload_n 0, 1) := by decide +kernel
theorem dX8_count_118 : decode cX8_count 118 = .ok (.getfield 12, 3) := by decide +kernel
theorem dX8_count_121 : decode cX8_count 121 = .ok (.getfield 140, 3) := by decide +kernel
theorem dX8_count_124 : decode cX8_count 124 = .ok (.getfield 215, 3) := by decide +kernel
theorem dX8_count_127 : decode cX8_count 127 = .ok (.ireturn, 1) := by decide +kernel
theorem dX8_count_128 : decode cX8_count 128 = .ok (.aload_n 0, 1) := by decide +kernel
theorem dX8_count_129 : decode cX8_count 129 = .ok (.getfield 12, 3) := by decide +kernel
theorem dX8_count_132 : decode cX8_count 132 = .ok (.getfield 216, 3) := by decide +kernel
theorem dX8_count_135 : decode cX8_count 135 = .ok (.ireturn, 1) := by decide +kernel
theorem dX8_count_136 : decode cX8_count 136 = .ok (.aload_n 0, 1) := by decide +kernel
theorem dX8_count_137 : decode cX8_count 137 = .ok (.getfield 19, 3) := by decide +kernel
theorem dX8_count_140 : decode cX8_count 140 = .ok (.getfield 219, 3) := by decide +kernel
theorem dX8_count_143 : decode cX8_count 143 = .ok (.ireturn, 1) := by decide +kernel
theorem dX8_count_144 : decode cX8_count 144 = .ok (.aload_n 0, 1) := by decide +kernel
theorem dX8_count_145 : decode cX8_count 145 = .ok (.getfield 19, 3) := by decide +kernel
theorem dX8_count_148 : decode cX8_count 148 = .ok (.getfield 222, 3) := by decide +kernel
theorem dX8_count_151 : decode cX8_count 151 = .ok (.ireturn, 1) := by decide +kernel
theorem dX8_count_152 : decode cX8_count 152 = .ok (.aload_n 0, 1) := by decide +kernel
theorem dX8_count_153 : decode cX8_count 153 = .ok (.getfield 19, 3) := by decide +kernel
theorem dX8_count_156 : decode cX8_count 156 = .ok (.getfield 161, 3) := by decide +kernel
theorem dX8_count_159 : decode cX8_count 159 = .ok (.getfield 224, 3) := by decide +kernel
theorem dX8_count_162 : decode cX8_count 162 = .ok (.ireturn, 1) := by decide +kernel
theorem dX8_count_163 : decode cX8_count 163 = .ok (.aload_n 0, 1) := by decide +kernel
theorem dX8_count_164 : decode cX8_count 164 = .ok (.getfield 19, 3) := by decide +kernel
theorem dX8_count_167 : decode cX8_count 167 = .ok (.getfield 161, 3) := by decide +kernel
theorem dX8_count_170 : decode cX8_count 170 = .ok (.iconst 0, 1) := by decide +kernel
theorem dX8_count_171 : decode cX8_count 171 = .ok (.invokevirtual 225, 3) := by decide +kernel
theorem dX8_count_174 : decode cX8_count 174 = .ok (.ireturn, 1) := by decide +kernel
theorem dX8_count_175 : decode cX8_count 175 = .ok (.aload_n 0, 1) := by decide +kernel
theorem dX8_count_176 : decode cX8_count 176 = .ok (.getfield 19, 3) := by decide +kernel
theorem dX8_count_179 : decode cX8_count 179 = .ok (.getfield 161, 3) := by decide +kernel
theorem dX8_count_182 : decode cX8_count 182 = .ok (.iconst 1, 1) := by decide +kernel
theorem dX8_count_183 : decode cX8_count 183 = .ok (.invokevirtual 225, 3) := by decide +kernel
theorem dX8_count_186 : decode cX8_count 186 = .ok (.ireturn, 1) := by decide +kernel
theorem dX8_count_187 : decode cX8_count 187 = .ok (.aload_n 0, 1) := by decide +kernel
theorem dX8_count_188 : decode cX8_count 188 = .ok (.getfield 19, 3) := by decide +kernel
theorem dX8_count_191 : decode cX8_count 191 = .ok (.getfield 161, 3) := by decide +kernel
theorem dX8_count_194 : decode cX8_count 194 = .ok (.iconst 2, 1) := by decide +kernel
theorem dX8_count_195 : decode cX8_count 195 = .ok (.invokevirtual 225, 3) := by decide +kernel
theorem dX8_count_198 : decode cX8_count 198 = .ok (.ireturn, 1) := by decide +kernel
theorem dX8_count_199 : decode cX8_count 199 = .ok (.aload_n 0, 1) := by decide +kernel
theorem dX8_count_200 : decode cX8_count 200 = .ok (.getfield 19, 3) := by decide +kernel
theorem dX8_count_203 : decode cX8_count 203 = .ok (.getfield 161, 3) := by decide +kernel
theorem dX8_count_206 : decode cX8_count 206 = .ok (.invokevirtual 228, 3) := by decide +kernel
theorem dX8_count_209 : decode cX8_count 209 = .ok (.ireturn, 1) := by decide +kernel
theorem dX8_count_210 : decode cX8_count 210 = .ok (.aload_n 0, 1) := by decide +kernel
theorem dX8_count_211 : decode cX8_count 211 = .ok (.getfield 32, 3) := by decide +kernel
theorem dX8_count_214 : decode cX8_count 214 = .ok (.getfield 232, 3) := by decide +kernel
theorem dX8_count_217 : decode cX8_count 217 = .ok (.ireturn, 1) := by decide +kernel
theorem dX8_count_218 : decode cX8_count 218 = .ok (.aload_n 0, 1) := by decide +kernel
theorem dX8_count_219 : decode cX8_count 219 = .ok (.getfield 46, 3) := by decide +kernel
theorem dX8_count_222 : decode cX8_count 222 = .ok (.getfield 234, 3) := by decide +kernel
theorem dX8_count_225 : decode cX8_count 225 = .ok (.ireturn, 1) := by decide +kernel
theorem dX8_count_226 : decode cX8_count 226 = .ok (.bipush (-2), 2) := by decide +kernel
theorem dX8_count_228 : decode cX8_count 228 = .ok (.ireturn, 1) := by decide +kernel
theorem dX8_cutIf_0 : decode cX8_cutIf 0 = .ok (.aload_n 0, 1) := by decide +kernel
theorem dX8_cutIf_1 : decode cX8_cutIf 1 = .ok (.getfield 12, 3) := by decide +kernel
theorem dX8_cutIf_4 : decode cX8_cutIf 4 = .ok (.iload_n 1, 1) := by decide +kernel
theorem dX8_cutIf_5 : decode cX8_cutIf 5 = .ok (.iload_n 2, 1) := by decide +kernel
theorem dX8_cutIf_6 : decode cX8_cutIf 6 = .ok (.invokevirtual 235, 3) := by decide +kernel
theorem dX8_cutIf_9 : decode cX8_cutIf 9 = .ok (.istore 4, 2) := by decide +kernel
theorem dX8_cutIf_11 : decode cX8_cutIf 11 = .ok (.iload 4, 2) := by decide +kernel
theorem dX8_cutIf_13 : decode cX8_cutIf 13 = .ok (.ifCond .ge 6, 3) := by decide +kernel
theorem dX8_cutIf_16 : decode cX8_cutIf 16 = .ok (.iload 4, 2) := by decide +kernel
theorem dX8_cutIf_18 : decode cX8_cutIf 18 = .ok (.ireturn, 1) := by decide +kernel
theorem dX8_cutIf_19 : decode cX8_cutIf 19 = .ok (.iload_n 3, 1) := by decide +kernel
theorem dX8_cutIf_20 : decode cX8_cutIf 20 = .ok (.ifCond .eq 11, 3) := by decide +kernel
theorem dX8_cutIf_23 : decode cX8_cutIf 23 = .ok (.iload_n 3, 1) := by decide +kernel
theorem dX8_cutIf_24 : decode cX8_cutIf 24 = .ok (.iconst 1, 1) := by decide +kernel
theorem dX8_cutIf_25 : decode cX8_cutIf 25 = .ok (.if_icmp .eq 6, 3) := by decide +kernel
theorem dX8_cutIf_28 : decode cX8_cutIf 28 = .ok (.bipush (-2), 2) := by decide +kernel
theorem dX8_cutIf_30 : decode cX8_cutIf 30 = .ok (.ireturn, 1) := by decide +kernel
theorem dX8_cutIf_31 : decode cX8_cutIf 31 = .ok (.aload_n 0, 1) := by decide +kernel
theorem dX8_cutIf_32 : decode cX8_cutIf 32 = .ok (.getfield 23, 3) := by decide +kernel
theorem dX8_cutIf_35 : decode cX8_cutIf 35 = .ok (.aload_n 0, 1) := by decide +kernel
theorem dX8_cutIf_36 : decode cX8_cutIf 36 = .ok (.getfield 12, 3) := by decide +kernel
theorem dX8_cutIf_39 : decode cX8_cutIf 39 = .ok (.invokevirtual 238, 3) := by decide +kernel
theorem dX8_cutIf_42 : decode cX8_cutIf 42 = .ok (.aload_n 0, 1) := by decide +kernel
theorem dX8_cutIf_43 : decode cX8_cutIf 43 = .ok (.getfield 23, 3) := by decide +kernel
theorem dX8_cutIf_46 : decode cX8_cutIf 46 = .ok (.iload_n 1, 1) := by decide +kernel
theorem dX8_cutIf_47 : decode cX8_cutIf 47 = .ok (.iload_n 2, 1) := by decide +kernel
theorem dX8_cutIf_48 : decode cX8_cutIf 48 = .ok (.invokevirtual 83, 3) := by decide +kernel
theorem dX8_cutIf_51 : decode cX8_cutIf 51 = .ok (.istore 5, 2) := by decide +kernel
theorem dX8_cutIf_53 : decode cX8_cutIf 53 = .ok (.iload 5, 2) := by decide +kernel
theorem dX8_cutIf_55 : decode cX8_cutIf 55 = .ok (.ifCond .ge 6, 3) := by decide +kernel
theorem dX8_cutIf_58 : decode cX8_cutIf 58 = .ok (.iload 5, 2) := by decide +kernel
theorem dX8_cutIf_60 : decode cX8_cutIf 60 = .ok (.ireturn, 1) := by decide +kernel
theorem dX8_cutIf_61 : decode cX8_cutIf 61 = .ok (.aload_n 0, 1) := by decide +kernel
theorem dX8_cutIf_62 : decode cX8_cutIf 62 = .ok (.getfield 26, 3) := by decide +kernel
theorem dX8_cutIf_65 : decode cX8_cutIf 65 = .ok (.aload_n 0, 1) := by decide +kernel
theorem dX8_cutIf_66 : decode cX8_cutIf 66 = .ok (.getfield 23, 3) := by decide +kernel
theorem dX8_cutIf_69 : decode cX8_cutIf 69 = .ok (.invokevirtual 58, 3) := by decide +kernel
theorem dX8_cutIf_72 : decode cX8_cutIf 72 = .ok (.iload_n 3, 1) := by decide +kernel
theorem dX8_cutIf_73 : decode cX8_cutIf 73 = .ok (.ifCond .ne 21, 3) := by decide +kernel
theorem dX8_cutIf_76 : decode cX8_cutIf 76 = .ok (.aload_n 0, 1) := by decide +kernel
theorem dX8_cutIf_77 : decode cX8_cutIf 77 = .ok (.getfield 19, 3) := by decide +kernel
theorem dX8_cutIf_80 : decode cX8_cutIf 80 = .ok (.getfield 222, 3) := by decide +kernel
theorem dX8_cutIf_83 : decode cX8_cutIf 83 = .ok (.aload_n 0, 1) := by decide +kernel
theorem dX8_cutIf_84 : decode cX8_cutIf 84 = .ok (.getfield 26, 3) := by decide +kernel
theorem dX8_cutIf_87 : decode cX8_cutIf 87 = .ok (.getfield 222, 3) := by decide +kernel
theorem dX8_cutIf_90 : decode cX8_cutIf 90 = .ok (.isub, 1) := by decide +kernel
theorem dX8_cutIf_91 : decode cX8_cutIf 91 = .ok (.goto 7, 3) := by decide +kernel
theorem dX8_cutIf_94 : decode cX8_cutIf 94 = .ok (.aload_n 0, 1) := by decide +kernel
theorem dX8_cutIf_95 : decode cX8_cutIf 95 = .ok (.invokevirtual 241, 3) := by decide +kernel
theorem dX8_cutIf_98 : decode cX8_cutIf 98 = .ok (.ireturn, 1) := by decide +kernel
theorem dX8_slowest_0 : decode cX8_slowest 0 = .ok (.iload_n 1, 1) := by decide +kernel
theorem dX8_slowest_1 : decode cX8_slowest 1 = .ok (.ifCond .ge 6, 3) := by decide +kernel
theorem dX8_slowest_4 : decode cX8_slowest 4 = .ok (.bipush (-2), 2) := by decide +kernel
theorem dX8_slowest_6 : decode cX8_slowest 6 = .ok (.ireturn, 1) := by decide +kernel
theorem dX8_slowest_7 : decode cX8_slowest 7 = .ok (.bipush 19, 2) := by decide +kernel
theorem dX8_slowest_9 : decode cX8_slowest 9 = .ok (.istore_n 2, 1) := by decide +kernel
theorem dX8_slowest_10 : decode cX8_slowest 10 = .ok (.sipush 128, 3) := by decide +kernel
theorem dX8_slowest_13 : decode cX8_slowest 13 = .ok (.istore_n 3, 1) := by decide +kernel
theorem dX8_slowest_14 : decode cX8_slowest 14 = .ok (.iload_n 3, 1) := by decide +kernel
theorem dX8_slowest_15 : decode cX8_slowest 15 = .ok (.ifCond .le 41, 3) := by decide +kernel
theorem dX8_slowest_18 : decode cX8_slowest 18 = .ok (.iload_n 2, 1) := by decide +kernel
theorem dX8_slowest_19 : decode cX8_slowest 19 = .ok (.iload_n 3, 1) := by decide +kernel
theorem dX8_slowest_20 : decode cX8_slowest 20 = .ok (.iadd, 1) := by decide +kernel
theorem dX8_slowest_21 : decode cX8_slowest 21 = .ok (.sipush 240, 3) := by decide +kernel
theorem dX8_slowest_24 : decode cX8_slowest 24 = .ok (.if_icmp .gt 25, 3) := by decide +kernel
theorem dX8_slowest_27 : decode cX8_slowest 27 = .ok (.aload_n 0, 1) := by decide +kernel
theorem dX8_slowest_28 : decode cX8_slowest 28 = .ok (.getfield 19, 3) := by decide +kernel
theorem dX8_slowest_31 : decode cX8_slowest 31 = .ok (.aload_n 0, 1) := by decide +kernel
theorem dX8_slowest_32 : decode cX8_slowest 32 = .ok (.getfield 12, 3) := by decide +kernel
theorem dX8_slowest_35 : decode cX8_slowest 35 = .ok (.iload_n 2, 1) := by decide +kernel
theorem dX8_slowest_36 : decode cX8_slowest 36 = .ok (.iload_n 3, 1) := by decide +kernel
theorem dX8_slowest_37 : decode cX8_slowest 37 = .ok (.iadd, 1) := by decide +kernel
theorem dX8_slowest_38 : decode cX8_slowest 38 = .ok (.invokevirtual 244, 3) := by decide +kernel
theorem dX8_slowest_41 : decode cX8_slowest 41 = .ok (.iload_n 1, 1) := by decide +kernel
theorem dX8_slowest_42 : decode cX8_slowest 42 = .ok (.if_icmp .le 7, 3) := by decide +kernel
theorem dX8_slowest_45 : decode cX8_slowest 45 = .ok (.iload_n 2, 1) := by decide +kernel
theorem dX8_slowest_46 : decode cX8_slowest 46 = .ok (.iload_n 3, 1) := by decide +kernel
theorem dX8_slowest_47 : decode cX8_slowest 47 = .ok (.iadd, 1) := by decide +kernel
theorem dX8_slowest_48 : decode cX8_slowest 48 = .ok (.istore_n 2, 1) := by decide +kernel
theorem dX8_slowest_49 : decode cX8_slowest 49 = .ok (.iload_n 3, 1) := by decide +kernel
theorem dX8_slowest_50 : decode cX8_slowest 50 = .ok (.iconst 2, 1) := by decide +kernel
theorem dX8_slowest_51 : decode cX8_slowest 51 = .ok (.idiv, 1) := by decide +kernel
theorem dX8_slowest_52 : decode cX8_slowest 52 = .ok (.istore_n 3, 1) := by decide +kernel
theorem dX8_slowest_53 : decode cX8_slowest 53 = .ok (.goto (-39), 3) := by decide +kernel
theorem dX8_slowest_56 : decode cX8_slowest 56 = .ok (.iload_n 2, 1) := by decide +kernel
theorem dX8_slowest_57 : decode cX8_slowest 57 = .ok (.sipush 240, 3) := by decide +kernel
theorem dX8_slowest_60 : decode cX8_slowest 60 = .ok (.if_icmp .lt 8, 3) := by decide +kernel
theorem dX8_slowest_63 : decode cX8_slowest 63 = .ok (.bipush (-6), 2) := by decide +kernel
theorem dX8_slowest_65 : decode cX8_slowest 65 = .ok (.goto 6, 3) := by decide +kernel
theorem dX8_slowest_68 : decode cX8_slowest 68 = .ok (.iload_n 2, 1) := by decide +kernel
theorem dX8_slowest_69 : decode cX8_slowest 69 = .ok (.iconst 1, 1) := by decide +kernel
theorem dX8_slowest_70 : decode cX8_slowest 70 = .ok (.iadd, 1) := by decide +kernel
theorem dX8_slowest_71 : decode cX8_slowest 71 = .ok (.ireturn, 1) := by decide +kernel
theorem dX8_put_0 : decode cX8_put 0 = .ok (.aload_n 0, 1) := by decide +kernel
theorem dX8_put_1 : decode cX8_put 1 = .ok (.getfield 32, 3) := by decide +kernel
theorem dX8_put_4 : decode cX8_put 4 = .ok (.lload_n 1, 1) := by decide +kernel
theorem dX8_put_5 : decode cX8_put 5 = .ok (.invokevirtual 248, 3) := by decide +kernel
theorem dX8_put_8 : decode cX8_put 8 = .ok (.ireturn, 1) := by decide +kernel
theorem dX8_wipe_0 : decode cX8_wipe 0 = .ok (.aload_n 0, 1) := by decide +kernel
theorem dX8_wipe_1 : decode cX8_wipe 1 = .ok (.getfield 32, 3) := by decide +kernel
theorem dX8_wipe_4 : decode cX8_wipe 4 = .ok (.getfield 232, 3) := by decide +kernel
theorem dX8_wipe_7 : decode cX8_wipe 7 = .ok (.istore_n 1, 1) := by decide +kernel
theorem dX8_wipe_8 : decode cX8_wipe 8 = .ok (.aload_n 0, 1) := by decide +kernel
theorem dX8_wipe_9 : decode cX8_wipe 9 = .ok (.getfield 32, 3) := by decide +kernel
theorem dX8_wipe_12 : decode cX8_wipe 12 = .ok (.iconst 0, 1) := by decide +kernel
theorem dX8_wipe_13 : decode cX8_wipe 13 = .ok (.putfield 232, 3) := by decide +kernel
theorem dX8_wipe_16 : decode cX8_wipe 16 = .ok (.iload_n 1, 1) := by decide +kernel
theorem dX8_wipe_17 : decode cX8_wipe 17 = .ok (.ireturn, 1) := by decide +kernel
theorem dX8_fault_0 : decode cX8_fault 0 = .ok (.aload_n 0, 1) := by decide +kernel
theorem dX8_fault_1 : decode cX8_fault 1 = .ok (.getfield 39, 3) := by decide +kernel
theorem dX8_fault_4 : decode cX8_fault 4 = .ok (.aload_n 0, 1) := by decide +kernel
theorem dX8_fault_5 : decode cX8_fault 5 = .ok (.getfield 32, 3) := by decide +kernel
theorem dX8_fault_8 : decode cX8_fault 8 = .ok (.invokevirtual 252, 3) := by decide +kernel
theorem dX8_fault_11 : decode cX8_fault 11 = .ok (.ireturn, 1) := by decide +kernel
theorem dX8_carryOut_0 : decode cX8_carryOut 0 = .ok (.aload_n 0, 1) := by decide +kernel
theorem dX8_carryOut_1 : decode cX8_carryOut 1 = .ok (.getfield 39, 3) := by decide +kernel
theorem dX8_carryOut_4 : decode cX8_carryOut 4 = .ok (.aload_n 0, 1) := by decide +kernel
theorem dX8_carryOut_5 : decode cX8_carryOut 5 = .ok (.getfield 32, 3) := by decide +kernel
theorem dX8_carryOut_8 : decode cX8_carryOut 8 = .ok (.invokevirtual 252, 3) := by decide +kernel
theorem dX8_carryOut_11 : decode cX8_carryOut 11 = .ok (.bipush (-6), 2) := by decide +kernel
theorem dX8_carryOut_13 : decode cX8_carryOut 13 = .ok (.if_icmp .eq 6, 3) := by decide +kernel
theorem dX8_carryOut_16 : decode cX8_carryOut 16 = .ok (.bipush (-3), 2) := by decide +kernel
theorem dX8_carryOut_18 : decode cX8_carryOut 18 = .ok (.ireturn, 1) := by decide +kernel
theorem dX8_carryOut_19 : decode cX8_carryOut 19 = .ok (.aload_n 0, 1) := by decide +kernel
theorem dX8_carryOut_20 : decode cX8_carryOut 20 = .ok (.getfield 46, 3) := by decide +kernel
theorem dX8_carryOut_23 : decode cX8_carryOut 23 = .ok (.aload_n 0, 1) := by decide +kernel
theorem dX8_carryOut_24 : decode cX8_carryOut 24 = .ok (.getfield 12, 3) := by decide +kernel
theorem dX8_carryOut_27 : decode cX8_carryOut 27 = .ok (.invokevirtual 62, 3) := by decide +kernel
theorem dX8_carryOut_30 : decode cX8_carryOut 30 = .ok (.aload_n 0, 1) := by decide +kernel
theorem dX8_carryOut_31 : decode cX8_carryOut 31 = .ok (.invokevirtual 256, 3) := by decide +kernel
theorem dX8_carryOut_34 : decode cX8_carryOut 34 = .ok (.istore_n 1, 1) := by decide +kernel
theorem dX8_carryOut_35 : decode cX8_carryOut 35 = .ok (.aload_n 0, 1) := by decide +kernel
theorem dX8_carryOut_36 : decode cX8_carryOut 36 = .ok (.getfield 32, 3) := by decide +kernel
theorem dX8_carryOut_39 : decode cX8_carryOut 39 = .ok (.iconst 0, 1) := by decide +kernel
theorem dX8_carryOut_40 : decode cX8_carryOut 40 = .ok (.putfield 232, 3) := by decide +kernel
theorem dX8_carryOut_43 : decode cX8_carryOut 43 = .ok (.aload_n 0, 1) := by decide +kernel
theorem dX8_carryOut_44 : decode cX8_carryOut 44 = .ok (.iload_n 1, 1) := by decide +kernel
theorem dX8_carryOut_45 : decode cX8_carryOut 45 = .ok (.invokevirtual 69, 3) := by decide +kernel
theorem dX8_carryOut_48 : decode cX8_carryOut 48 = .ok (.ireturn, 1) := by decide +kernel
theorem dX8_undo_0 : decode cX8_undo 0 = .ok (.aload_n 0, 1) := by decide +kernel
theorem dX8_undo_1 : decode cX8_undo 1 = .ok (.getfield 46, 3) := by decide +kernel
theorem dX8_undo_4 : decode cX8_undo 4 = .ok (.invokevirtual 259, 3) := by decide +kernel
theorem dX8_undo_7 : decode cX8_undo 7 = .ok (.astore_n 1, 1) := by decide +kernel
theorem dX8_undo_8 : decode cX8_undo 8 = .ok (.aload_n 1, 1) := by decide +kernel
theorem dX8_undo_9 : decode cX8_undo 9 = .ok (.ifnonnull 6, 3) := by decide +kernel
theorem dX8_undo_12 : decode cX8_undo 12 = .ok (.bipush (-5), 2) := by decide +kernel
theorem dX8_undo_14 : decode cX8_undo 14 = .ok (.ireturn, 1) := by decide +kernel
theorem dX8_undo_15 : decode cX8_undo 15 = .ok (.aload_n 0, 1) := by decide +kernel
theorem dX8_undo_16 : decode cX8_undo 16 = .ok (.getfield 12, 3) := by decide +kernel
theorem dX8_undo_19 : decode cX8_undo 19 = .ok (.aload_n 1, 1) := by decide +kernel
theorem dX8_undo_20 : decode cX8_undo 20 = .ok (.invokevirtual 238, 3) := by decide +kernel
theorem dX8_undo_23 : decode cX8_undo 23 = .ok (.aload_n 0, 1) := by decide +kernel
theorem dX8_undo_24 : decode cX8_undo 24 = .ok (.getfield 19, 3) := by decide +kernel
theorem dX8_undo_27 : decode cX8_undo 27 = .ok (.aload_n 0, 1) := by decide +kernel
theorem dX8_undo_28 : decode cX8_undo 28 = .ok (.getfield 12, 3) := by decide +kernel
theorem dX8_undo_31 : decode cX8_undo 31 = .ok (.invokevirtual 58, 3) := by decide +kernel
theorem dX8_undo_34 : decode cX8_undo 34 = .ok (.aload_n 0, 1) := by decide +kernel
theorem dX8_undo_35 : decode cX8_undo 35 = .ok (.getfield 46, 3) := by decide +kernel
theorem dX8_undo_38 : decode cX8_undo 38 = .ok (.getfield 234, 3) := by decide +kernel
theorem dX8_undo_41 : decode cX8_undo 41 = .ok (.ireturn, 1) := by decide +kernel
theorem dX8_save_0 : decode cX8_save 0 = .ok (.aload_n 0, 1) := by decide +kernel
theorem dX8_save_1 : decode cX8_save 1 = .ok (.iload_n 1, 1) := by decide +kernel
theorem dX8_save_2 : decode cX8_save 2 = .ok (.invokevirtual 263, 3) := by decide +kernel
theorem dX8_save_5 : decode cX8_save 5 = .ok (.astore_n 2, 1) := by decide +kernel
theorem dX8_save_6 : decode cX8_save 6 = .ok (.aload_n 2, 1) := by decide +kernel
theorem dX8_save_7 : decode cX8_save 7 = .ok (.ifnonnull 6, 3) := by decide +kernel
theorem dX8_save_10 : decode cX8_save 10 = .ok (.bipush (-2), 2) := by decide +kernel
theorem dX8_save_12 : decode cX8_save 12 = .ok (.ireturn, 1) := by decide +kernel
theorem dX8_save_13 : decode cX8_save 13 = .ok (.aload_n 2, 1) := by decide +kernel
theorem dX8_save_14 : decode cX8_save 14 = .ok (.aload_n 0, 1) := by decide +kernel
theorem dX8_save_15 : decode cX8_save 15 = .ok (.getfield 12, 3) := by decide +kernel
theorem dX8_save_18 : decode cX8_save 18 = .ok (.invokevirtual 238, 3) := by decide +kernel
theorem dX8_save_21 : decode cX8_save 21 = .ok (.aload_n 0, 1) := by decide +kernel
theorem dX8_save_22 : decode cX8_save 22 = .ok (.getfield 54, 3) := by decide +kernel
theorem dX8_save_25 : decode cX8_save 25 = .ok (.iload_n 1, 1) := by decide +kernel
theorem dX8_save_26 : decode cX8_save 26 = .ok (.iconst 1, 1) := by decide +kernel
theorem dX8_save_27 : decode cX8_save 27 = .ok (.bastore, 1) := by decide +kernel
theorem dX8_save_28 : decode cX8_save 28 = .ok (.aload_n 0, 1) := by decide +kernel
theorem dX8_save_29 : decode cX8_save 29 = .ok (.getfield 12, 3) := by decide +kernel
theorem dX8_save_32 : decode cX8_save 32 = .ok (.getfield 140, 3) := by decide +kernel
theorem dX8_save_35 : decode cX8_save 35 = .ok (.getfield 215, 3) := by decide +kernel
theorem dX8_save_38 : decode cX8_save 38 = .ok (.ireturn, 1) := by decide +kernel
theorem dX8_restore_0 : decode cX8_restore 0 = .ok (.aload_n 0, 1) := by decide +kernel
theorem dX8_restore_1 : decode cX8_restore 1 = .ok (.iload_n 1, 1) := by decide +kernel
theorem dX8_restore_2 : decode cX8_restore 2 = .ok (.invokevirtual 263, 3) := by decide +kernel
theorem dX8_restore_5 : decode cX8_restore 5 = .ok (.astore_n 2, 1) := by decide +kernel
theorem dX8_restore_6 : decode cX8_restore 6 = .ok (.aload_n 2, 1) := by decide +kernel
theorem dX8_restore_7 : decode cX8_restore 7 = .ok (.ifnonnull 6, 3) := by decide +kernel
theorem dX8_restore_10 : decode cX8_restore 10 = .ok (.bipush (-2), 2) := by decide +kernel
theorem dX8_restore_12 : decode cX8_restore 12 = .ok (.ireturn, 1) := by decide +kernel
theorem dX8_restore_13 : decode cX8_restore 13 = .ok (.aload_n 0, 1) := by decide +kernel
theorem dX8_restore_14 : decode cX8_restore 14 = .ok (.getfield 54, 3) := by decide +kernel
theorem dX8_restore_17 : decode cX8_restore 17 = .ok (.iload_n 1, 1) := by decide +kernel
theorem dX8_restore_18 : decode cX8_restore 18 = .ok (.baload, 1) := by decide +kernel
theorem dX8_restore_19 : decode cX8_restore 19 = .ok (.ifCond .ne 6, 3) := by decide +kernel
theorem dX8_restore_22 : decode cX8_restore 22 = .ok (.bipush (-5), 2) := by decide +kernel
theorem dX8_restore_24 : decode cX8_restore 24 = .ok (.ireturn, 1) := by decide +kernel
theorem dX8_restore_25 : decode cX8_restore 25 = .ok (.aload_n 0, 1) := by decide +kernel
theorem dX8_restore_26 : decode cX8_restore 26 = .ok (.getfield 46, 3) := by decide +kernel
theorem dX8_restore_29 : decode cX8_restore 29 = .ok (.aload_n 0, 1) := by decide +kernel
theorem dX8_restore_30 : decode cX8_restore 30 = .ok (.getfield 12, 3) := by decide +kernel
theorem dX8_restore_33 : decode cX8_restore 33 = .ok (.invokevirtual 62, 3) := by decide +kernel
theorem dX8_restore_36 : decode cX8_restore 36 = .ok (.aload_n 0, 1) := by decide +kernel
theorem dX8_restore_37 : decode cX8_restore 37 = .ok (.getfield 12, 3) := by decide +kernel
theorem dX8_restore_40 : decode cX8_restore 40 = .ok (.aload_n 2, 1) := by decide +kernel
theorem dX8_restore_41 : decode cX8_restore 41 = .ok (.invokevirtual 238, 3) := by decide +kernel
theorem dX8_restore_44 : decode cX8_restore 44 = .ok (.aload_n 0, 1) := by decide +kernel
theorem dX8_restore_45 : decode cX8_restore 45 = .ok (.aload_n 0, 1) := by decide +kernel
theorem dX8_restore_46 : decode cX8_restore 46 = .ok (.getfield 12, 3) := by decide +kernel
theorem dX8_restore_49 : decode cX8_restore 49 = .ok (.getfield 140, 3) := by decide +kernel
theorem dX8_restore_52 : decode cX8_restore 52 = .ok (.getfield 215, 3) := by decide +kernel
theorem dX8_restore_55 : decode cX8_restore 55 = .ok (.invokevirtual 69, 3) := by decide +kernel
theorem dX8_restore_58 : decode cX8_restore 58 = .ok (.ireturn, 1) := by decide +kernel
theorem dX8_settle_0 : decode cX8_settle 0 = .ok (.iload_n 1, 1) := by decide +kernel
theorem dX8_settle_1 : decode cX8_settle 1 = .ok (.ifCond .lt 21, 3) := by decide +kernel
theorem dX8_settle_4 : decode cX8_settle 4 = .ok (.aload_n 0, 1) := by decide +kernel
theorem dX8_settle_5 : decode cX8_settle 5 = .ok (.getfield 46, 3) := by decide +kernel
theorem dX8_settle_8 : decode cX8_settle 8 = .ok (.invokevirtual 267, 3) := by decide +kernel
theorem dX8_settle_11 : decode cX8_settle 11 = .ok (.aload_n 0, 1) := by decide +kernel
theorem dX8_settle_12 : decode cX8_settle 12 = .ok (.getfield 19, 3) := by decide +kernel
theorem dX8_settle_15 : decode cX8_settle 15 = .ok (.aload_n 0, 1) := by decide +kernel
theorem dX8_settle_16 : decode cX8_settle 16 = .ok (.getfield 12, 3) := by decide +kernel
theorem dX8_settle_19 : decode cX8_settle 19 = .ok (.invokevirtual 58, 3) := by decide +kernel
theorem dX8_settle_22 : decode cX8_settle 22 = .ok (.iload_n 1, 1) := by decide +kernel
theorem dX8_settle_23 : decode cX8_settle 23 = .ok (.ireturn, 1) := by decide +kernel
theorem dX8_slotAt_0 : decode cX8_slotAt 0 = .ok (.iload_n 1, 1) := by decide +kernel
theorem dX8_slotAt_1 : decode cX8_slotAt 1 = .ok (.ifCond .lt 17, 3) := by decide +kernel
theorem dX8_slotAt_4 : decode cX8_slotAt 4 = .ok (.iload_n 1, 1) := by decide +kernel
theorem dX8_slotAt_5 : decode cX8_slotAt 5 = .ok (.iconst 2, 1) := by decide +kernel
theorem dX8_slotAt_6 : decode cX8_slotAt 6 = .ok (.if_icmp .ge 12, 3) := by decide +kernel
theorem dX8_slotAt_9 : decode cX8_slotAt 9 = .ok (.aload_n 0, 1) := by decide +kernel
theorem dX8_slotAt_10 : decode cX8_slotAt 10 = .ok (.getfield 50, 3) := by decide +kernel
theorem dX8_slotAt_13 : decode cX8_slotAt 13 = .ok (.iload_n 1, 1) := by decide +kernel
theorem dX8_slotAt_14 : decode cX8_slotAt 14 = .ok (.aaload, 1) := by decide +kernel
theorem dX8_slotAt_15 : decode cX8_slotAt 15 = .ok (.goto 4, 3) := by decide +kernel
theorem dX8_slotAt_18 : decode cX8_slotAt 18 = .ok (.aconst_null, 1) := by decide +kernel
theorem dX8_slotAt_19 : decode cX8_slotAt 19 = .ok (.areturn, 1) := by decide +kernel
theorem dX8_readingPace_0 : decode cX8_readingPace 0 = .ok (.aload_n 0, 1) := by decide +kernel
theorem dX8_readingPace_1 : decode cX8_readingPace 1 = .ok (.getfield 19, 3) := by decide +kernel
theorem dX8_readingPace_4 : decode cX8_readingPace 4 = .ok (.getfield 161, 3) := by decide +kernel
theorem dX8_readingPace_7 : decode cX8_readingPace 7 = .ok (.astore_n 2, 1) := by decide +kernel
theorem dX8_readingPace_8 : decode cX8_readingPace 8 = .ok (.aload_n 2, 1) := by decide +kernel
theorem dX8_readingPace_9 : decode cX8_readingPace 9 = .ok (.iload_n 1, 1) := by decide +kernel
theorem dX8_readingPace_10 : decode cX8_readingPace 10 = .ok (.invokevirtual 190, 3) := by decide +kernel
theorem dX8_readingPace_13 : decode cX8_readingPace 13 = .ok (.ifCond .ne 6, 3) := by decide +kernel
theorem dX8_readingPace_16 : decode cX8_readingPace 16 = .ok (.bipush (-6), 2) := by decide +kernel
theorem dX8_readingPace_18 : decode cX8_readingPace 18 = .ok (.ireturn, 1) := by decide +kernel
theorem dX8_readingPace_19 : decode cX8_readingPace 19 = .ok (.aload_n 2, 1) := by decide +kernel
theorem dX8_readingPace_20 : decode cX8_readingPace 20 = .ok (.getfield 196, 3) := by decide +kernel
theorem dX8_readingPace_23 : decode cX8_readingPace 23 = .ok (.iload_n 1, 1) := by decide +kernel
theorem dX8_readingPace_24 : decode cX8_readingPace 24 = .ok (.iaload, 1) := by decide +kernel
theorem dX8_readingPace_25 : decode cX8_readingPace 25 = .ok (.aload_n 2, 1) := by decide +kernel
theorem dX8_readingPace_26 : decode cX8_readingPace 26 = .ok (.getfield 193, 3) := by decide +kernel
theorem dX8_readingPace_29 : decode cX8_readingPace 29 = .ok (.iload_n 1, 1) := by decide +kernel
theorem dX8_readingPace_30 : decode cX8_readingPace 30 = .ok (.iaload, 1) := by decide +kernel
theorem dX8_readingPace_31 : decode cX8_readingPace 31 = .ok (.isub, 1) := by decide +kernel
theorem dX8_readingPace_32 : decode cX8_readingPace 32 = .ok (.istore_n 3, 1) := by decide +kernel
theorem dX8_readingPace_33 : decode cX8_readingPace 33 = .ok (.iload_n 3, 1) := by decide +kernel
theorem dX8_readingPace_34 : decode cX8_readingPace 34 = .ok (.ifCond .gt 7, 3) := by decide +kernel
theorem dX8_readingPace_37 : decode cX8_readingPace 37 = .ok (.sipush 999, 3) := by decide +kernel
theorem dX8_readingPace_40 : decode cX8_readingPace 40 = .ok (.ireturn, 1) := by decide +kernel
theorem dX8_readingPace_41 : decode cX8_readingPace 41 = .ok (.aload_n 0, 1) := by decide +kernel
theorem dX8_readingPace_42 : decode cX8_readingPace 42 = .ok (.getfield 12, 3) := by decide +kernel
theorem dX8_readingPace_45 : decode cX8_readingPace 45 = .ok (.getfield 140, 3) := by decide +kernel
theorem dX8_readingPace_48 : decode cX8_readingPace 48 = .ok (.getfield 158, 3) := by decide +kernel
theorem dX8_readingPace_51 : decode cX8_readingPace 51 = .ok (.aload_n 2, 1) := by decide +kernel
theorem dX8_readingPace_52 : decode cX8_readingPace 52 = .ok (.getfield 175, 3) := by decide +kernel
theorem dX8_readingPace_55 : decode cX8_readingPace 55 = .ok (.iload_n 1, 1) := by decide +kernel
theorem dX8_readingPace_56 : decode cX8_readingPace 56 = .ok (.iaload, 1) := by decide +kernel
theorem dX8_readingPace_57 : decode cX8_readingPace 57 = .ok (.iaload, 1) := by decide +kernel
theorem dX8_readingPace_58 : decode cX8_readingPace 58 = .ok (.bipush 10, 2) := by decide +kernel
theorem dX8_readingPace_60 : decode cX8_readingPace 60 = .ok (.imul, 1) := by decide +kernel
theorem dX8_readingPace_61 : decode cX8_readingPace 61 = .ok (.iload_n 3, 1) := by decide +kernel
theorem dX8_readingPace_62 : decode cX8_readingPace 62 = .ok (.idiv, 1) := by decide +kernel
theorem dX8_readingPace_63 : decode cX8_readingPace 63 = .ok (.ireturn, 1) := by decide +kernel
theorem dX8_titlesLost_0 : decode cX8_titlesLost 0 = .ok (.iconst 0, 1) := by decide +kernel
theorem dX8_titlesLost_1 : decode cX8_titlesLost 1 = .ok (.istore_n 1, 1) := by decide +kernel
theorem dX8_titlesLost_2 : decode cX8_titlesLost 2 = .ok (.iconst 0, 1) := by decide +kernel
theorem dX8_titlesLost_3 : decode cX8_titlesLost 3 = .ok (.istore_n 2, 1) := by decide +kernel
theorem dX8_titlesLost_4 : decode cX8_titlesLost 4 = .ok (.iload_n 2, 1) := by decide +kernel
theorem dX8_titlesLost_5 : decode cX8_titlesLost 5 = .ok (.aload_n 0, 1) := by decide +kernel
theorem dX8_titlesLost_6 : decode cX8_titlesLost 6 = .ok (.getfield 12, 3) := by decide +kernel
theorem dX8_titlesLost_9 : decode cX8_titlesLost 9 = .ok (.getfield 140, 3) := by decide +kernel
theorem dX8_titlesLost_12 : decode cX8_titlesLost 12 = .ok (.getfield 215, 3) := by decide +kernel
theorem dX8_titlesLost_15 : decode cX8_titlesLost 15 = .ok (.if_icmp .ge 43, 3) := by decide +kernel
theorem dX8_titlesLost_18 : decode cX8_titlesLost 18 = .ok (.aload_n 0, 1) := by decide +kernel
theorem dX8_titlesLost_19 : decode cX8_titlesLost 19 = .ok (.getfield 19, 3) := by decide +kernel
theorem dX8_titlesLost_22 : decode cX8_titlesLost 22 = .ok (.getfield 161, 3) := by decide +kernel
theorem dX8_titlesLost_25 : decode cX8_titlesLost 25 = .ok (.iload_n 2, 1) := by decide +kernel
theorem dX8_titlesLost_26 : decode cX8_titlesLost 26 = .ok (.invokevirtual 170, 3) := by decide +kernel
theorem dX8_titlesLost_29 : decode cX8_titlesLost 29 = .ok (.ifCond .le 23, 3) := by decide +kernel
theorem dX8_titlesLost_32 : decode cX8_titlesLost 32 = .ok (.aload_n 0, 1) := by decide +kernel
theorem dX8_titlesLost_33 : decode cX8_titlesLost 33 = .ok (.getfield 26, 3) := by decide +kernel
theorem dX8_titlesLost_36 : decode cX8_titlesLost 36 = .ok (.getfield 161, 3) := by decide +kernel
theorem dX8_titlesLost_39 : decode cX8_titlesLost 39 = .ok (.iload_n 2, 1) := by decide +kernel
theorem dX8_titlesLost_40 : decode cX8_titlesLost 40 = .ok (.invokevirtual 170, 3) := by decide +kernel
theorem dX8_titlesLost_43 : decode cX8_titlesLost 43 = .ok (.ifCond .ne 9, 3) := by decide +kernel
theorem dX8_titlesLost_46 : decode cX8_titlesLost 46 = .ok (.iload_n 1, 1) := by decide +kernel
theorem dX8_titlesLost_47 : decode cX8_titlesLost 47 = .ok (.iconst 1, 1) := by decide +kernel
theorem dX8_titlesLost_48 : decode cX8_titlesLost 48 = .ok (.iload_n 2, 1) := by decide +kernel
theorem dX8_titlesLost_49 : decode cX8_titlesLost 49 = .ok (.ishl, 1) := by decide +kernel
theorem dX8_titlesLost_50 : decode cX8_titlesLost 50 = .ok (.ior, 1) := by decide +kernel
theorem dX8_titlesLost_51 : decode cX8_titlesLost 51 = .ok (.istore_n 1, 1) := by decide +kernel
theorem dX8_titlesLost_52 : decode cX8_titlesLost 52 = .ok (.iinc 2 1, 3) := by decide +kernel
theorem dX8_titlesLost_55 : decode cX8_titlesLost 55 = .ok (.goto (-51), 3) := by decide +kernel
theorem dX8_titlesLost_58 : decode cX8_titlesLost 58 = .ok (.iload_n 1, 1) := by decide +kernel
theorem dX8_titlesLost_59 : decode cX8_titlesLost 59 = .ok (.ireturn, 1) := by decide +kernel
theorem dX8_carryOutOrders_0 : decode cX8_carryOutOrders 0 = .ok (.iconst 0, 1) := by decide +kernel
theorem dX8_carryOutOrders_1 : decode cX8_carryOutOrders 1 = .ok (.istore_n 1, 1) := by decide +kernel
theorem dX8_carryOutOrders_2 : decode cX8_carryOutOrders 2 = .ok (.aload_n 0, 1) := by decide +kernel
theorem dX8_carryOutOrders_3 : decode cX8_carryOutOrders 3 = .ok (.getfield 39, 3) := by decide +kernel
theorem dX8_carryOutOrders_6 : decode cX8_carryOutOrders 6 = .ok (.invokevirtual 270, 3) := by decide +kernel
theorem dX8_carryOutOrders_9 : decode cX8_carryOutOrders 9 = .ok (.iconst 0, 1) := by decide +kernel
theorem dX8_carryOutOrders_10 : decode cX8_carryOutOrders 10 = .ok (.istore_n 2, 1) := by decide +kernel
theorem dX8_carryOutOrders_11 : decode cX8_carryOutOrders 11 = .ok (.iload_n 2, 1) := by decide +kernel
theorem dX8_carryOutOrders_12 : decode cX8_carryOutOrders 12 = .ok (.aload_n 0, 1) := by decide +kernel
theorem dX8_carryOutOrders_13 : decode cX8_carryOutOrders 13 = .ok (.getfield 32, 3) := by decide +kernel
theorem dX8_carryOutOrders_16 : decode cX8_carryOutOrders 16 = .ok (.getfield 232, 3) := by decide +kernel
theorem dX8_carryOutOrders_19 : decode cX8_carryOutOrders 19 = .ok (.if_icmp .gt 62, 3) := by decide +kernel
theorem dX8_carryOutOrders_22 : decode cX8_carryOutOrders 22 = .ok (.iload_n 2, 1) := by decide +kernel
theorem dX8_carryOutOrders_23 : decode cX8_carryOutOrders 23 = .ok (.aload_n 0, 1) := by decide +kernel
theorem dX8_carryOutOrders_24 : decode cX8_carryOutOrders 24 = .ok (.getfield 32, 3) := by decide +kernel
theorem dX8_carryOutOrders_27 : decode cX8_carryOutOrders 27 = .ok (.getfield 232, 3) := by decide +kernel
theorem dX8_carryOutOrders_30 : decode cX8_carryOutOrders 30 = .ok (.if_icmp .ge 15, 3) := by decide +kernel
theorem dX8_carryOutOrders_33 : decode cX8_carryOutOrders 33 = .ok (.aload_n 0, 1) := by decide +kernel
theorem dX8_carryOutOrders_34 : decode cX8_carryOutOrders 34 = .ok (.getfield 32, 3) := by decide +kernel
theorem dX8_carryOutOrders_37 : decode cX8_carryOutOrders 37 = .ok (.getfield 273, 3) := by decide +kernel
theorem dX8_carryOutOrders_40 : decode cX8_carryOutOrders 40 = .ok (.iload_n 2, 1) := by decide +kernel
theorem dX8_carryOutOrders_41 : decode cX8_carryOutOrders 41 = .ok (.iaload, 1) := by decide +kernel
theorem dX8_carryOutOrders_42 : decode cX8_carryOutOrders 42 = .ok (.goto 5, 3) := by decide +kernel
theorem dX8_carryOutOrders_45 : decode cX8_carryOutOrders 45 = .ok (.bipush 59, 2) := by decide +kernel
theorem dX8_carryOutOrders_47 : decode cX8_carryOutOrders 47 = .ok (.istore_n 3, 1) := by decide +kernel
theorem dX8_carryOutOrders_48 : decode cX8_carryOutOrders 48 = .ok (.iload_n 3, 1) := by decide +kernel
theorem dX8_carryOutOrders_49 : decode cX8_carryOutOrders 49 = .ok (.bipush 59, 2) := by decide +kernel
theorem dX8_carryOutOrders_51 : decode cX8_carryOutOrders 51 = .ok (.if_icmp .ne 15, 3) := by decide +kernel
theorem dX8_carryOutOrders_54 : decode cX8_carryOutOrders 54 = .ok (.aload_n 0, 1) := by decide +kernel
theorem dX8_carryOutOrders_55 : decode cX8_carryOutOrders 55 = .ok (.invokevirtual 276, 3) := by decide +kernel
theorem dX8_carryOutOrders_58 : decode cX8_carryOutOrders 58 = .ok (.ifCond .ge 5, 3) := by decide +kernel
theorem dX8_carryOutOrders_61 : decode cX8_carryOutOrders 61 = .ok (.iload_n 1, 1) := by decide +kernel
theorem dX8_carryOutOrders_62 : decode cX8_carryOutOrders 62 = .ok (.ireturn, 1) := by decide +kernel
theorem dX8_carryOutOrders_63 : decode cX8_carryOutOrders 63 = .ok (.iinc 1 1, 3) := by decide +kernel
theorem dX8_carryOutOrders_66 : decode cX8_carryOutOrders 66 = .ok (.aload_n 0, 1) := by decide +kernel
theorem dX8_carryOutOrders_67 : decode cX8_carryOutOrders 67 = .ok (.getfield 39, 3) := by decide +kernel
theorem dX8_carryOutOrders_70 : decode cX8_carryOutOrders 70 = .ok (.iload_n 3, 1) := by decide +kernel
theorem dX8_carryOutOrders_71 : decode cX8_carryOutOrders 71 = .ok (.invokevirtual 279, 3) := by decide +kernel
theorem dX8_carryOutOrders_74 : decode cX8_carryOutOrders 74 = .ok (.pop, 1) := by decide +kernel
theorem dX8_carryOutOrders_75 : decode cX8_carryOutOrders 75 = .ok (.iinc 2 1, 3) := by decide +kernel
theorem dX8_carryOutOrders_78 : decode cX8_carryOutOrders 78 = .ok (.goto (-67), 3) := by decide +kernel
theorem dX8_carryOutOrders_81 : decode cX8_carryOutOrders 81 = .ok (.iload_n 1, 1) := by decide +kernel
theorem dX8_carryOutOrders_82 : decode cX8_carryOutOrders 82 = .ok (.ireturn, 1) := by decide +kernel
theorem dX8_carryOutOrder_0 : decode cX8_carryOutOrder 0 = .ok (.aload_n 0, 1) := by decide +kernel
theorem dX8_carryOutOrder_1 : decode cX8_carryOutOrder 1 = .ok (.getfield 39, 3) := by decide +kernel
theorem dX8_carryOutOrder_4 : decode cX8_carryOutOrder 4 = .ok (.getfield 282, 3) := by decide +kernel
theorem dX8_carryOutOrder_7 : decode cX8_carryOutOrder 7 = .ok (.astore_n 1, 1) := by decide +kernel
theorem dX8_carryOutOrder_8 : decode cX8_carryOutOrder 8 = .ok (.aload_n 0, 1) := by decide +kernel
theorem dX8_carryOutOrder_9 : decode cX8_carryOutOrder 9 = .ok (.getfield 39, 3) := by decide +kernel
theorem dX8_carryOutOrder_12 : decode cX8_carryOutOrder 12 = .ok (.getfield 285, 3) := by decide +kernel
theorem dX8_carryOutOrder_15 : decode cX8_carryOutOrder 15 = .ok (.lookupswitch 175 #[(45, 164), (98, 65), (101, 128), (108, 110), (110, 146), (114, 82), (120, 96)], 65) := by decide +kernel
theorem dX8_carryOutOrder_80 : decode cX8_carryOutOrder 80 = .ok (.aload_n 0, 1) := by decide +kernel
theorem dX8_carryOutOrder_81 : decode cX8_carryOutOrder 81 = .ok (.getfield 12, 3) := by decide +kernel
theorem dX8_carryOutOrder_84 : decode cX8_carryOutOrder 84 = .ok (.aload_n 1, 1) := by decide +kernel
theorem dX8_carryOutOrder_85 : decode cX8_carryOutOrder 85 = .ok (.iconst 0, 1) := by decide +kernel
theorem dX8_carryOutOrder_86 : decode cX8_carryOutOrder 86 = .ok (.iaload, 1) := by decide +kernel
theorem dX8_carryOutOrder_87 : decode cX8_carryOutOrder 87 = .ok (.aload_n 1, 1) := by decide +kernel
theorem dX8_carryOutOrder_88 : decode cX8_carryOutOrder 88 = .ok (.iconst 1, 1) := by decide +kernel
theorem dX8_carryOutOrder_89 : decode cX8_carryOutOrder 89 = .ok (.iaload, 1) := by decide +kernel
theorem dX8_carryOutOrder_90 : decode cX8_carryOutOrder 90 = .ok (.aload_n 1, 1) := by decide +kernel
theorem dX8_carryOutOrder_91 : decode cX8_carryOutOrder 91 = .ok (.iconst 2, 1) := by decide +kernel
theorem dX8_carryOutOrder_92 : decode cX8_carryOutOrder 92 = .ok (.iaload, 1) := by decide +kernel
theorem dX8_carryOutOrder_93 : decode cX8_carryOutOrder 93 = .ok (.invokevirtual 75, 3) := by decide +kernel
theorem dX8_carryOutOrder_96 : decode cX8_carryOutOrder 96 = .ok (.ireturn, 1) := by decide +kernel
theorem dX8_carryOutOrder_97 : decode cX8_carryOutOrder 97 = .ok (.aload_n 0, 1) := by decide +kernel
theorem dX8_carryOutOrder_98 : decode cX8_carryOutOrder 98 = .ok (.getfield 12, 3) := by decide +kernel
theorem dX8_carryOutOrder_101 : decode cX8_carryOutOrder 101 = .ok (.aload_n 1, 1) := by decide +kernel
theorem dX8_carryOutOrder_102 : decode cX8_carryOutOrder 102 = .ok (.iconst 0, 1) := by decide +kernel
theorem dX8_carryOutOrder_103 : decode cX8_carryOutOrder 103 = .ok (.iaload, 1) := by decide +kernel
theorem dX8_carryOutOrder_104 : decode cX8_carryOutOrder 104 = .ok (.aload_n 1, 1) := by decide +kernel
theorem dX8_carryOutOrder_105 : decode cX8_carryOutOrder 105 = .ok (.iconst 1, 1) := by decide +kernel
theorem dX8_carryOutOrder_106 : decode cX8_carryOutOrder 106 = .ok (.iaload, 1) := by decide +kernel
theorem dX8_carryOutOrder_107 : decode cX8_carryOutOrder 107 = .ok (.invokevirtual 79, 3) := by decide +kernel
theorem dX8_carryOutOrder_110 : decode cX8_carryOutOrder 110 = .ok (.ireturn, 1) := by decide +kernel
theorem dX8_carryOutOrder_111 : decode cX8_carryOutOrder 111 = .ok (.aload_n 0, 1) := by decide +kernel
theorem dX8_carryOutOrder_112 : decode cX8_carryOutOrder 112 = .ok (.getfield 12, 3) := by decide +kernel
theorem dX8_carryOutOrder_115 : decode cX8_carryOutOrder 115 = .ok (.aload_n 1, 1) := by decide +kernel
theorem dX8_carryOutOrder_116 : decode cX8_carryOutOrder 116 = .ok (.iconst 0, 1) := by decide +kernel
theorem dX8_carryOutOrder_117 : decode cX8_carryOutOrder 117 = .ok (.iaload, 1) := by decide +kernel
theorem dX8_carryOutOrder_118 : decode cX8_carryOutOrder 118 = .ok (.aload_n 1, 1) := by decide +kernel
theorem dX8_carryOutOrder_119 : decode cX8_carryOutOrder 119 = .ok (.iconst 1, 1) := by decide +kernel
theorem dX8_carryOutOrder_120 : decode cX8_carryOutOrder 120 = .ok (.iaload, 1) := by decide +kernel
theorem dX8_carryOutOrder_121 : decode cX8_carryOutOrder 121 = .ok (.invokevirtual 83, 3) := by decide +kernel
theorem dX8_carryOutOrder_124 : decode cX8_carryOutOrder 124 = .ok (.ireturn, 1) := by decide +kernel
theorem dX8_carryOutOrder_125 : decode cX8_carryOutOrder 125 = .ok (.aload_n 0, 1) := by decide +kernel
theorem dX8_carryOutOrder_126 : decode cX8_carryOutOrder 126 = .ok (.getfield 12, 3) := by decide +kernel
theorem dX8_carryOutOrder_129 : decode cX8_carryOutOrder 129 = .ok (.iconst 0, 1) := by decide +kernel
theorem dX8_carryOutOrder_130 : decode cX8_carryOutOrder 130 = .ok (.aload_n 1, 1) := by decide +kernel
theorem dX8_carryOutOrder_131 : decode cX8_carryOutOrder 131 = .ok (.iconst 0, 1) := by decide +kernel
theorem dX8_carryOutOrder_132 : decode cX8_carryOutOrder 132 = .ok (.iaload, 1) := by decide +kernel
theorem dX8_carryOutOrder_133 : decode cX8_carryOutOrder 133 = .ok (.aload_n 1, 1) := by decide +kernel
theorem dX8_carryOutOrder_134 : decode cX8_carryOutOrder 134 = .ok (.iconst 1, 1) := by decide +kernel
theorem dX8_carryOutOrder_135 : decode cX8_carryOutOrder 135 = .ok (.iaload, 1) := by decide +kernel
theorem dX8_carryOutOrder_136 : decode cX8_carryOutOrder 136 = .ok (.aload_n 1, 1) := by decide +kernel
theorem dX8_carryOutOrder_137 : decode cX8_carryOutOrder 137 = .ok (.iconst 2, 1) := by decide +kernel
theorem dX8_carryOutOrder_138 : decode cX8_carryOutOrder 138 = .ok (.iaload, 1) := by decide +kernel
theorem dX8_carryOutOrder_139 : decode cX8_carryOutOrder 139 = .ok (.invokevirtual 92, 3) := by decide +kernel
theorem dX8_carryOutOrder_142 : decode cX8_carryOutOrder 142 = .ok (.ireturn, 1) := by decide +kernel
theorem dX8_carryOutOrder_143 : decode cX8_carryOutOrder 143 = .ok (.aload_n 0, 1) := by decide +kernel
theorem dX8_carryOutOrder_144 : decode cX8_carryOutOrder 144 = .ok (.getfield 12, 3) := by decide +kernel
theorem dX8_carryOutOrder_147 : decode cX8_carryOutOrder 147 = .ok (.iconst 1, 1) := by decide +kernel
theorem dX8_carryOutOrder_148 : decode cX8_carryOutOrder 148 = .ok (.aload_n 1, 1) := by decide +kernel
theorem dX8_carryOutOrder_149 : decode cX8_carryOutOrder 149 = .ok (.iconst 0, 1) := by decide +kernel
theorem dX8_carryOutOrder_150 : decode cX8_carryOutOrder 150 = .ok (.iaload, 1) := by decide +kernel
theorem dX8_carryOutOrder_151 : decode cX8_carryOutOrder 151 = .ok (.aload_n 1, 1) := by decide +kernel
theorem dX8_carryOutOrder_152 : decode cX8_carryOutOrder 152 = .ok (.iconst 1, 1) := by decide +kernel
theorem dX8_carryOutOrder_153 : decode cX8_carryOutOrder 153 = .ok (.iaload, 1) := by decide +kernel
theorem dX8_carryOutOrder_154 : decode cX8_carryOutOrder 154 = .ok (.aload_n 1, 1) := by decide +kernel
theorem dX8_carryOutOrder_155 : decode cX8_carryOutOrder 155 = .ok (.iconst 2, 1) := by decide +kernel
theorem dX8_carryOutOrder_156 : decode cX8_carryOutOrder 156 = .ok (.iaload, 1) := by decide +kernel
theorem dX8_carryOutOrder_157 : decode cX8_carryOutOrder 157 = .ok (.invokevirtual 92, 3) := by decide +kernel
theorem dX8_carryOutOrder_160 : decode cX8_carryOutOrder 160 = .ok (.ireturn, 1) := by decide +kernel
theorem dX8_carryOutOrder_161 : decode cX8_carryOutOrder 161 = .ok (.aload_n 0, 1) := by decide +kernel
theorem dX8_carryOutOrder_162 : decode cX8_carryOutOrder 162 = .ok (.getfield 12, 3) := by decide +kernel
theorem dX8_carryOutOrder_165 : decode cX8_carryOutOrder 165 = .ok (.iconst 2, 1) := by decide +kernel
theorem dX8_carryOutOrder_166 : decode cX8_carryOutOrder 166 = .ok (.aload_n 1, 1) := by decide +kernel
theorem dX8_carryOutOrder_167 : decode cX8_carryOutOrder 167 = .ok (.iconst 0, 1) := by decide +kernel
theorem dX8_carryOutOrder_168 : decode cX8_carryOutOrder 168 = .ok (.iaload, 1) := by decide +kernel
theorem dX8_carryOutOrder_169 : decode cX8_carryOutOrder 169 = .ok (.aload_n 1, 1) := by decide +kernel
theorem dX8_carryOutOrder_170 : decode cX8_carryOutOrder 170 = .ok (.iconst 1, 1) := by decide +kernel
theorem dX8_carryOutOrder_171 : decode cX8_carryOutOrder 171 = .ok (.iaload, 1) := by decide +kernel
theorem dX8_carryOutOrder_172 : decode cX8_carryOutOrder 172 = .ok (.aload_n 1, 1) := by decide +kernel
theorem dX8_carryOutOrder_173 : decode cX8_carryOutOrder 173 = .ok (.iconst 2, 1) := by decide +kernel
theorem dX8_carryOutOrder_174 : decode cX8_carryOutOrder 174 = .ok (.iaload, 1) := by decide +kernel
theorem dX8_carryOutOrder_175 : decode cX8_carryOutOrder 175 = .ok (.invokevirtual 92, 3) := by decide +kernel
theorem dX8_carryOutOrder_178 : decode cX8_carryOutOrder 178 = .ok (.ireturn, 1) := by decide +kernel
theorem dX8_carryOutOrder_179 : decode cX8_carryOutOrder 179 = .ok (.aload_n 0, 1) := by decide +kernel
theorem dX8_carryOutOrder_180 : decode cX8_carryOutOrder 180 = .ok (.getfield 12, 3) := by decide +kernel
theorem dX8_carryOutOrder_183 : decode cX8_carryOutOrder 183 = .ok (.aload_n 1, 1) := by decide +kernel
theorem dX8_carryOutOrder_184 : decode cX8_carryOutOrder 184 = .ok (.iconst 0, 1) := by decide +kernel
theorem dX8_carryOutOrder_185 : decode cX8_carryOutOrder 185 = .ok (.iaload, 1) := by decide +kernel
theorem dX8_carryOutOrder_186 : decode cX8_carryOutOrder 186 = .ok (.invokevirtual 96, 3) := by decide +kernel
theorem dX8_carryOutOrder_189 : decode cX8_carryOutOrder 189 = .ok (.ireturn, 1) := by decide +kernel
theorem dX8_carryOutOrder_190 : decode cX8_carryOutOrder 190 = .ok (.bipush (-3), 2) := by decide +kernel
theorem dX8_carryOutOrder_192 : decode cX8_carryOutOrder 192 = .ok (.ireturn, 1) := by decide +kernel
theorem dX8_isWithin_0 : decode cX8_isWithin 0 = .ok (.iload_n 0, 1) := by decide +kernel
theorem dX8_isWithin_1 : decode cX8_isWithin 1 = .ok (.iload_n 1, 1) := by decide +kernel
theorem dX8_isWithin_2 : decode cX8_isWithin 2 = .ok (.if_icmp .lt 12, 3) := by decide +kernel
theorem dX8_isWithin_5 : decode cX8_isWithin 5 = .ok (.iload_n 0, 1) := by decide +kernel
theorem dX8_isWithin_6 : decode cX8_isWithin 6 = .ok (.iload_n 2, 1) := by decide +kernel
theorem dX8_isWithin_7 : decode cX8_isWithin 7 = .ok (.if_icmp .gt 7, 3) := by decide +kernel
theorem dX8_isWithin_10 : decode cX8_isWithin 10 = .ok (.iconst 1, 1) := by decide +kernel
theorem dX8_isWithin_11 : decode cX8_isWithin 11 = .ok (.goto 4, 3) := by decide +kernel
theorem dX8_isWithin_14 : decode cX8_isWithin 14 = .ok (.iconst 0, 1) := by decide +kernel
theorem dX8_isWithin_15 : decode cX8_isWithin 15 = .ok (.ireturn, 1) := by decide +kernel
theorem dX8_tenthsFor_0 : decode cX8_tenthsFor 0 = .ok (.iload_n 1, 1) := by decide +kernel
theorem dX8_tenthsFor_1 : decode cX8_tenthsFor 1 = .ok (.ifCond .gt 7, 3) := by decide +kernel
theorem dX8_tenthsFor_4 : decode cX8_tenthsFor 4 = .ok (.iconst 0, 1) := by decide +kernel
theorem dX8_tenthsFor_5 : decode cX8_tenthsFor 5 = .ok (.goto 10, 3) := by decide +kernel
theorem dX8_tenthsFor_8 : decode cX8_tenthsFor 8 = .ok (.sipush 600, 3) := by decide +kernel
theorem dX8_tenthsFor_11 : decode cX8_tenthsFor 11 = .ok (.iload_n 0, 1) := by decide +kernel
theorem dX8_tenthsFor_12 : decode cX8_tenthsFor 12 = .ok (.imul, 1) := by decide +kernel
theorem dX8_tenthsFor_13 : decode cX8_tenthsFor 13 = .ok (.iload_n 1, 1) := by decide +kernel
theorem dX8_tenthsFor_14 : decode cX8_tenthsFor 14 = .ok (.idiv, 1) := by decide +kernel
theorem dX8_tenthsFor_15 : decode cX8_tenthsFor 15 = .ok (.ireturn, 1) := by decide +kernel
theorem dX8_leadOf_0 : decode cX8_leadOf 0 = .ok (.iload_n 0, 1) := by decide +kernel
theorem dX8_leadOf_1 : decode cX8_leadOf 1 = .ok (.lookupswitch 32 #[(0, 27), (2, 29)], 27) := by decide +kernel
theorem dX8_leadOf_28 : decode cX8_leadOf 28 = .ok (.iconst 5, 1) := by decide +kernel
theorem dX8_leadOf_29 : decode cX8_leadOf 29 = .ok (.ireturn, 1) := by decide +kernel
theorem dX8_leadOf_30 : decode cX8_leadOf 30 = .ok (.bipush 20, 2) := by decide +kernel
theorem dX8_leadOf_32 : decode cX8_leadOf 32 = .ok (.ireturn, 1) := by decide +kernel
theorem dX8_leadOf_33 : decode cX8_leadOf 33 = .ok (.iconst 0, 1) := by decide +kernel
theorem dX8_leadOf_34 : decode cX8_leadOf 34 = .ok (.ireturn, 1) := by decide +kernel
theorem dX9_init_0 : decode cX9_init 0 = .ok (.aload_n 0, 1) := by decide +kernel
theorem dX9_init_1 : decode cX9_init 1 = .ok (.invokespecial 1, 3) := by decide +kernel
theorem dX9_init_4 : decode cX9_init 4 = .ok (.aload_n 0, 1) := by decide +kernel
theorem dX9_init_5 : decode cX9_init 5 = .ok (.sipush 228, 3) := by decide +kernel
theorem dX9_init_8 : decode cX9_init 8 = .ok (.newarray .int, 2) := by decide +kernel
theorem dX9_init_10 : decode cX9_init 10 = .ok (.putfield 7, 3) := by decide +kernel
theorem dX9_init_13 : decode cX9_init 13 = .ok (.aload_n 0, 1) := by decide +kernel
theorem dX9_init_14 : decode cX9_init 14 = .ok (.sipush 1368, 3) := by decide +kernel
theorem dX9_init_17 : decode cX9_init 17 = .ok (.newarray .int, 2) := by decide +kernel
theorem dX9_init_19 : decode cX9_init 19 = .ok (.putfield 13, 3) := by decide +kernel
theorem dX9_init_22 : decode cX9_init 22 = .ok (.aload_n 0, 1) := by decide +kernel
theorem dX9_init_23 : decode cX9_init 23 = .ok (.sipush 456, 3) := by decide +kernel
theorem dX9_init_26 : decode cX9_init 26 = .ok (.newarray .int, 2) := by decide +kernel
theorem dX9_init_28 : decode cX9_init 28 = .ok (.putfield 16, 3) := by decide +kernel
theorem dX9_init_31 : decode cX9_init 31 = .ok (.aload_n 0, 1) := by decide +kernel
theorem dX9_init_32 : decode cX9_init 32 = .ok (.iconst 2, 1) := by decide +kernel
theorem dX9_init_33 : decode cX9_init 33 = .ok (.newarray .boolean, 2) := by decide +kernel
theorem dX9_init_35 : decode cX9_init 35 = .ok (.putfield 19, 3) := by decide +kernel
theorem dX9_init_38 : decode cX9_init 38 = .ok (.aload_n 0, 1) := by decide +kernel
theorem dX9_init_39 : decode cX9_init 39 = .ok (.bipush 80, 2) := by decide +kernel
theorem dX9_init_41 : decode cX9_init 41 = .ok (.newarray .int, 2) := by decide +kernel
theorem dX9_init_43 : decode cX9_init 43 = .ok (.putfield 23, 3) := by decide +kernel
theorem dX9_init_46 : decode cX9_init 46 = .ok (.aload_n 0, 1) := by decide +kernel
theorem dX9_init_47 : decode cX9_init 47 = .ok (.sipush 128, 3) := by decide +kernel
theorem dX9_init_50 : decode cX9_init 50 = .ok (.newarray .int, 2) := by decide +kernel
theorem dX9_init_52 : decode cX9_init 52 = .ok (.putfield 26, 3) := by decide +kernel
theorem dX9_init_55 : decode cX9_init 55 = .ok (.aload_n 0, 1) := by decide +kernel
theorem dX9_init_56 : decode cX9_init 56 = .ok (.sipush 128, 3) := by decide +kernel
theorem dX9_init_59 : decode cX9_init 59 = .ok (.newarray .int, 2) := by decide +kernel
theorem dX9_init_61 : decode cX9_init 61 = .ok (.putfield 29, 3) := by decide +kernel
theorem dX9_init_64 : decode cX9_init 64 = .ok (.aload_n 0, 1) := by decide +kernel
theorem dX9_init_65 : decode cX9_init 65 = .ok (.bipush 48, 2) := by decide +kernel
theorem dX9_init_67 : decode cX9_init 67 = .ok (.newarray .int, 2) := by decide +kernel
theorem dX9_init_69 : decode cX9_init 69 = .ok (.putfield 32, 3) := by decide +kernel
theorem dX9_init_72 : decode cX9_init 72 = .ok (.aload_n 0, 1) := by decide +kernel
theorem dX9_init_73 : decode cX9_init 73 = .ok (.bipush 48, 2) := by decide +kernel
theorem dX9_init_75 : decode cX9_init 75 = .ok (.newarray .int, 2) := by decide +kernel
theorem dX9_init_77 : decode cX9_init 77 = .ok (.putfield 35, 3) := by decide +kernel
theorem dX9_init_80 : decode cX9_init 80 = .ok (.aload_n 0, 1) := by decide +kernel
theorem dX9_init_81 : decode cX9_init 81 = .ok (.bipush 48, 2) := by decide +kernel
theorem dX9_init_83 : decode cX9_init 83 = .ok (.newarray .int, 2) := by decide +kernel
theorem dX9_init_85 : decode cX9_init 85 = .ok (.putfield 38, 3) := by decide +kernel
theorem dX9_init_88 : decode cX9_init 88 = .ok (.aload_n 0, 1) := by decide +kernel
theorem dX9_init_89 : decode cX9_init 89 = .ok (.bipush 48, 2) := by decide +kernel
theorem dX9_init_91 : decode cX9_init 91 = .ok (.newarray .int, 2) := by decide +kernel
theorem dX9_init_93 : decode cX9_init 93 = .ok (.putfield 41, 3) := by decide +kernel
theorem dX9_init_96 : decode cX9_init 96 = .ok (.aload_n 0, 1) := by decide +kernel
theorem dX9_init_97 : decode cX9_init 97 = .ok (.bipush 48, 2) := by decide +kernel
theorem dX9_init_99 : decode cX9_init 99 = .ok (.newarray .int, 2) := by decide +kernel
theorem dX9_init_101 : decode cX9_init 101 = .ok (.putfield 44, 3) := by decide +kernel
theorem dX9_init_104 : decode cX9_init 104 = .ok (.aload_n 0, 1) := by decide +kernel
theorem dX9_init_105 : decode cX9_init 105 = .ok (.bipush 48, 2) := by decide +kernel
theorem dX9_init_107 : decode cX9_init 107 = .ok (.newarray .int, 2) := by decide +kernel
theorem dX9_init_109 : decode cX9_init 109 = .ok (.putfield 47, 3) := by decide +kernel
theorem dX9_init_112 : decode cX9_init 112 = .ok (.aload_n 0, 1) := by decide +kernel
theorem dX9_init_113 : decode cX9_init 113 = .ok (.bipush 48, 2) := by decide +kernel
theorem dX9_init_115 : decode cX9_init 115 = .ok (.newarray .int, 2) := by decide +kernel
theorem dX9_init_117 : decode cX9_init 117 = .ok (.putfield 50, 3) := by decide +kernel
theorem dX9_init_120 : decode cX9_init 120 = .ok (.aload_n 0, 1) := by decide +kernel
theorem dX9_init_121 : decode cX9_init 121 = .ok (.sipush 160, 3) := by decide +kernel
theorem dX9_init_124 : decode cX9_init 124 = .ok (.newarray .int, 2) := by decide +kernel
theorem dX9_init_126 : decode cX9_init 126 = .ok (.putfield 53, 3) := by decide +kernel
theorem dX9_init_129 : decode cX9_init 129 = .ok (.aload_n 0, 1) := by decide +kernel
theorem dX9_init_130 : decode cX9_init 130 = .ok (.iconst 0, 1) := by decide +kernel
theorem dX9_init_131 : decode cX9_init 131 = .ok (.putfield 56, 3) := by decide +kernel
theorem dX9_init_134 : decode cX9_init 134 = .ok (.aload_n 0, 1) := by decide +kernel
theorem dX9_init_135 : decode cX9_init 135 = .ok (.getfield 7, 3) := by decide +kernel
theorem dX9_init_138 : decode cX9_init 138 = .ok (.iconst 0, 1) := by decide +kernel
theorem dX9_init_139 : decode cX9_init 139 = .ok (.bipush 32, 2) := by decide +kernel
theorem dX9_init_141 : decode cX9_init 141 = .ok (.iastore, 1) := by decide +kernel
theorem dX9_init_142 : decode cX9_init 142 = .ok (.aload_n 0, 1) := by decide +kernel
theorem dX9_init_143 : decode cX9_init 143 = .ok (.getfield 7, 3) := by decide +kernel
theorem dX9_init_146 : decode cX9_init 146 = .ok (.iconst 1, 1) := by decide +kernel
theorem dX9_init_147 : decode cX9_init 147 = .ok (.bipush 10, 2) := by decide +kernel
theorem dX9_init_149 : decode cX9_init 149 = .ok (.iastore, 1) := by decide +kernel
theorem dX9_init_150 : decode cX9_init 150 = .ok (.iconst 0, 1) := by decide +kernel
theorem dX9_init_151 : decode cX9_init 151 = .ok (.istore_n 1, 1) := by decide +kernel
theorem dX9_init_152 : decode cX9_init 152 = .ok (.iload_n 1, 1) := by decide +kernel
theorem dX9_init_153 : decode cX9_init 153 = .ok (.bipush 60, 2) := by decide +kernel
theorem dX9_init_155 : decode cX9_init 155 = .ok (.if_icmp .ge 30, 3) := by decide +kernel
theorem dX9_init_158 : decode cX9_init 158 = .ok (.aload_n 0, 1) := by decide +kernel
theorem dX9_init_159 : decode cX9_init 159 = .ok (.getfield 7, 3) := by decide +kernel
theorem dX9_init_162 : decode cX9_init 162 = .ok (.bipush 6, 2) := by decide +kernel
theorem dX9_init_164 : decode cX9_init 164 = .ok (.iload_n 1, 1) := by decide +kernel
theorem dX9_init_165 : decode cX9_init 165 = .ok (.iadd, 1) := by decide +kernel
theorem dX9_init_166 : decode cX9_init 166 = .ok (.iconst 4, 1) := by decide +kernel
theorem dX9_init_167 : decode cX9_init 167 = .ok (.iastore, 1) := by decide +kernel
theorem dX9_init_168 : decode cX9_init 168 = .ok (.aload_n 0, 1) := by decide +kernel
theorem dX9_init_169 : decode cX9_init 169 = .ok (.getfield 7, 3) := by decide +kernel
theorem dX9_init_172 : decode cX9_init 172 = .ok (.bipush 66, 2) := by decide +kernel
theorem dX9_init_174 : decode cX9_init 174 = .ok (.iload_n 1, 1) := by decide +kernel
theorem dX9_init_175 : decode cX9_init 175 = .ok (.iadd, 1) := by decide +kernel
theorem dX9_init_176 : decode cX9_init 176 = .ok (.bipush 60, 2) := by decide +kernel
theorem dX9_init_178 : decode cX9_init 178 = .ok (.iastore, 1) := by decide +kernel
theorem dX9_init_179 : decode cX9_init 179 = .ok (.iinc 1 1, 3) := by decide +kernel
theorem dX9_init_182 : decode cX9_init 182 = .ok (.goto (-30), 3) := by decide +kernel
theorem dX9_init_185 : decode cX9_init 185 = .ok (.return_, 1) := by decide +kernel
theorem dX9_in_0 : decode cX9_in 0 = .ok (.iload_n 0, 1) := by decide +kernel
theorem dX9_in_1 : decode cX9_in 1 = .ok (.iload_n 1, 1) := by decide +kernel
theorem dX9_in_2 : decode cX9_in 2 = .ok (.if_icmp .lt 12, 3) := by decide +kernel
theorem dX9_in_5 : decode cX9_in 5 = .ok (.iload_n 0, 1) := by decide +kernel
theorem dX9_in_6 : decode cX9_in 6 = .ok (.iload_n 2, 1) := by decide +kernel
theorem dX9_in_7 : decode cX9_in 7 = .ok (.if_icmp .gt 7, 3) := by decide +kernel
theorem dX9_in_10 : decode cX9_in 10 = .ok (.iconst 1, 1) := by decide +kernel
theorem dX9_in_11 : decode cX9_in 11 = .ok (.goto 4, 3) := by decide +kernel
theorem dX9_in_14 : decode cX9_in 14 = .ok (.iconst 0, 1) := by decide +kernel
theorem dX9_in_15 : decode cX9_in 15 = .ok (.ireturn, 1) := by decide +kernel
theorem dX9_isBar_0 : decode cX9_isBar 0 = .ok (.iload_n 1, 1) := by decide +kernel
theorem dX9_isBar_1 : decode cX9_isBar 1 = .ok (.iconst 0, 1) := by decide +kernel
theorem dX9_isBar_2 : decode cX9_isBar 2 = .ok (.aload_n 0, 1) := by decide +kernel
theorem dX9_isBar_3 : decode cX9_isBar 3 = .ok (.getfield 7, 3) := by decide +kernel
theorem dX9_isBar_6 : decode cX9_isBar 6 = .ok (.iconst 0, 1) := by decide +kernel
theorem dX9_isBar_7 : decode cX9_isBar 7 = .ok (.iaload, 1) := by decide +kernel
theorem dX9_isBar_8 : decode cX9_isBar 8 = .ok (.iconst 1, 1) := by decide +kernel
theorem dX9_isBar_9 : decode cX9_isBar 9 = .ok (.isub, 1) := by decide +kernel
theorem dX9_isBar_10 : decode cX9_isBar 10 = .ok (.invokestatic 60, 3) := by decide +kernel
theorem dX9_isBar_13 : decode cX9_isBar 13 = .ok (.ireturn, 1) := by decide +kernel
theorem dX9_of_0 : decode cX9_of 0 = .ok (.aload_n 0, 1) := by decide +kernel
theorem dX9_of_1 : decode cX9_of 1 = .ok (.getfield 7, 3) := by decide +kernel
theorem dX9_of_4 : decode cX9_of 4 = .ok (.sipush 148, 3) := by decide +kernel
theorem dX9_of_7 : decode cX9_of 7 = .ok (.iconst 4, 1) := by decide +kernel
theorem dX9_of_8 : decode cX9_of 8 = .ok (.iload_n 1, 1) := by decide +kernel
theorem dX9_of_9 : decode cX9_of 9 = .ok (.imul, 1) := by decide +kernel
theorem dX9_of_10 : decode cX9_of 10 = .ok (.iadd, 1) := by decide +kernel
theorem dX9_of_11 : decode cX9_of 11 = .ok (.iload_n 2, 1) := by decide +kernel
theorem dX9_of_12 : decode cX9_of 12 = .ok (.iadd, 1) := by decide +kernel
theorem dX9_of_13 : decode cX9_of 13 = .ok (.iaload, 1) := by decide +kernel
theorem dX9_of_14 : decode cX9_of 14 = .ok (.ireturn, 1) := by decide +kernel
theorem dX9_records_0 : decode cX9_records 0 = .ok (.aload_n 0, 1) := by decide +kernel
theorem dX9_records_1 : decode cX9_records 1 = .ok (.getfield 64, 3) := by decide +kernel
theorem dX9_records_4 : decode cX9_records 4 = .ok (.bipush 6, 2) := by decide +kernel
theorem dX9_records_6 : decode cX9_records 6 = .ok (.if_icmp .ne 44, 3) := by decide +kernel
theorem dX9_records_9 : decode cX9_records 9 = .ok (.iconst 0, 1) := by decide +kernel
theorem dX9_records_10 : decode cX9_records 10 = .ok (.istore_n 1, 1) := by decide +kernel
theorem dX9_records_11 : decode cX9_records 11 = .ok (.iload_n 1, 1) := by decide +kernel
theorem dX9_records_12 : decode cX9_records 12 = .ok (.sipush 1140, 3) := by decide +kernel
theorem dX9_records_15 : decode cX9_records 15 = .ok (.if_icmp .ge 25, 3) := by decide +kernel
theorem dX9_records_18 : decode cX9_records 18 = .ok (.aload_n 0, 1) := by decide +kernel
theorem dX9_records_19 : decode cX9_records 19 = .ok (.getfield 13, 3) := by decide +kernel
theorem dX9_records_22 : decode cX9_records 22 = .ok (.iload_n 1, 1) := by decide +kernel
theorem dX9_records_23 : decode cX9_records 23 = .ok (.aload_n 0, 1) := by decide +kernel
theorem dX9_records_24 : decode cX9_records 24 = .ok (.getfield 13, 3) := by decide +kernel
theorem dX9_records_27 : decode cX9_records 27 = .ok (.iload_n 1, 1) := by decide +kernel
theorem dX9_records_28 : decode cX9_records 28 = .ok (.sipush 228, 3) := by decide +kernel
theorem dX9_records_31 : decode cX9_records 31 = .ok (.iadd, 1) := by decide +kernel
theorem dX9_records_32 : decode cX9_records 32 = .ok (.iaload, 1) := by decide +kernel
theorem dX9_records_33 : decode cX9_records 33 = .ok (.iastore, 1) := by decide +kernel
theorem dX9_records_34 : decode cX9_records 34 = .ok (.iinc 1 1, 3) := by decide +kernel
theorem dX9_records_37 : decode cX9_records 37 = .ok (.goto (-26), 3) := by decide +kernel
theorem dX9_records_40 : decode cX9_records 40 = .ok (.aload_n 0, 1) := by decide +kernel
theorem dX9_records_41 : decode cX9_records 41 = .ok (.dup, 1) := by decide +kernel
theorem dX9_records_42 : decode cX9_records 42 = .ok (.getfield 64, 3) := by decide +kernel
theorem dX9_records_45 : decode cX9_records 45 = .ok (.iconst 1, 1) := by decide +kernel
theorem dX9_records_46 : decode cX9_records 46 = .ok (.isub, 1) := by decide +kernel
theorem dX9_records_47 : decode cX9_records 47 = .ok (.putfield 64, 3) := by decide +kernel
theorem dX9_records_50 : decode cX9_records 50 = .ok (.iconst 0, 1) := by decide +kernel
theorem dX9_records_51 : decode cX9_records 51 = .ok (.istore_n 1, 1) := by decide +kernel
theorem dX9_records_52 : decode cX9_records 52 = .ok (.iload_n 1, 1) := by decide +kernel
theorem dX9_records_53 : decode cX9_records 53 = .ok (.sipush 228, 3) := by decide +kernel
theorem dX9_records_56 : decode cX9_records 56 = .ok (.if_icmp .ge 30, 3) := by decide +kernel
theorem dX9_records_59 : decode cX9_records 59 = .ok (.aload_n 0, 1) := by decide +kernel
theorem dX9_records_60 : decode cX9_records 60 = .ok (.getfield 13, 3) := by decide +kernel
theorem dX9_records_63 : decode cX9_records 63 = .ok (.sipush 228, 3) := by decide +kernel
theorem dX9_records_66 : decode cX9_records 66 = .ok (.aload_n 0, 1) := by decide +kernel
theorem dX9_records_67 : decode cX9_records 67 = .ok (.getfield 64, 3) := by decide +kernel
theorem dX9_records_70 : decode cX9_records 70 = .ok (.imul, 1) := by decide +kernel
theorem dX9_records_71 : decode cX9_records 71 = .ok (.iload_n 1, 1) := by decide +kernel
theorem dX9_records_72 : decode cX9_records 72 = .ok (.iadd, 1) := by decide +kernel
theorem dX9_records_73 : decode cX9_records 73 = .ok (.aload_n 0, 1) := by decide +kernel
theorem dX9_records_74 : decode cX9_records 74 = .ok (.getfield 7, 3) := by decide +kernel
theorem dX9_records_77 : decode cX9_records 77 = .ok (.iload_n 1, 1) := by decide +kernel
theorem dX9_records_78 : decode cX9_records 78 = .ok (.iaload, 1) := by decide +kernel
theorem dX9_records_79 : decode cX9_records 79 = .ok (.iastore, 1) := by decide +kernel
theorem dX9_records_80 : decode cX9_records 80 = .ok (.iinc 1 1, 3) := by decide +kernel
theorem dX9_records_83 : decode cX9_records 83 = .ok (.goto (-31), 3) := by decide +kernel
theorem dX9_records_86 : decode cX9_records 86 = .ok (.aload_n 0, 1) := by decide +kernel
theorem dX9_records_87 : decode cX9_records 87 = .ok (.dup, 1) := by decide +kernel
theorem dX9_records_88 : decode cX9_records 88 = .ok (.getfield 64, 3) := by decide +kernel
theorem dX9_records_91 : decode cX9_records 91 = .ok (.iconst 1, 1) := by decide +kernel
theorem dX9_records_92 : decode cX9_records 92 = .ok (.iadd, 1) := by decide +kernel
theorem dX9_records_93 : decode cX9_records 93 = .ok (.putfield 64, 3) := by decide +kernel
theorem dX9_records_96 : decode cX9_records 96 = .ok (.return_, 1) := by decide +kernel
theorem dX9_tenths_0 : decode cX9_tenths 0 = .ok (.sipush 600, 3) := by decide +kernel
theorem dX9_tenths_3 : decode cX9_tenths 3 = .ok (.aload_n 0, 1) := by decide +kernel
theorem dX9_tenths_4 : decode cX9_tenths 4 = .ok (.getfield 7, 3) := by decide +kernel
theorem dX9_tenths_7 : decode cX9_tenths 7 = .ok (.bipush 6, 2) := by decide +kernel
theorem dX9_tenths_9 : decode cX9_tenths 9 = .ok (.iload_n 1, 1) := by decide +kernel
theorem dX9_tenths_10 : decode cX9_tenths 10 = .ok (.iadd, 1) := by decide +kernel
theorem dX9_tenths_11 : decode cX9_tenths 11 = .ok (.iaload, 1) := by decide +kernel
theorem dX9_tenths_12 : decode cX9_tenths 12 = .ok (.imul, 1) := by decide +kernel
theorem dX9_tenths_13 : decode cX9_tenths 13 = .ok (.aload_n 0, 1) := by decide +kernel
theorem dX9_tenths_14 : decode cX9_tenths 14 = .ok (.getfield 7, 3) := by decide +kernel
theorem dX9_tenths_17 : decode cX9_tenths 17 = .ok (.bipush 66, 2) := by decide +kernel
theorem dX9_tenths_19 : decode cX9_tenths 19 = .ok (.iload_n 1, 1) := by decide +kernel
theorem dX9_tenths_20 : decode cX9_tenths 20 = .ok (.iadd, 1) := by decide +kernel
theorem dX9_tenths_21 : decode cX9_tenths 21 = .ok (.iaload, 1) := by decide +kernel
theorem dX9_tenths_22 : decode cX9_tenths 22 = .ok (.idiv, 1) := by decide +kernel
theorem dX9_tenths_23 : decode cX9_tenths 23 = .ok (.ireturn, 1) := by decide +kernel
theorem dX9_isCut_0 : decode cX9_isCut 0 = .ok (.iconst 0, 1) := by decide +kernel
theorem dX9_isCut_1 : decode cX9_isCut 1 = .ok (.istore_n 2, 1) := by decide +kernel
theorem dX9_isCut_2 : decode cX9_isCut 2 = .ok (.iconst 0, 1) := by decide +kernel
theorem dX9_isCut_3 : decode cX9_isCut 3 = .ok (.istore_n 3, 1) := by decide +kernel
theorem dX9_isCut_4 : decode cX9_isCut 4 = .ok (.iload_n 3, 1) := by decide +kernel
theorem dX9_isCut_5 : decode cX9_isCut 5 = .ok (.aload_n 0, 1) := by decide +kernel
theorem dX9_isCut_6 : decode cX9_isCut 6 = .ok (.getfield 7, 3) := by decide +kernel
theorem dX9_isCut_9 : decode cX9_isCut 9 = .ok (.iconst 3, 1) := by decide +kernel
theorem dX9_isCut_10 : decode cX9_isCut 10 = .ok (.iaload, 1) := by decide +kernel
theorem dX9_isCut_11 : decode cX9_isCut 11 = .ok (.if_icmp .ge 52, 3) := by decide +kernel
theorem dX9_isCut_14 : decode cX9_isCut 14 = .ok (.iload_n 2, 1) := by decide +kernel
theorem dX9_isCut_15 : decode cX9_isCut 15 = .ok (.ifCond .ne 36, 3) := by decide +kernel
theorem dX9_isCut_18 : decode cX9_isCut 18 = .ok (.iload_n 1, 1) := by decide +kernel
theorem dX9_isCut_19 : decode cX9_isCut 19 = .ok (.aload_n 0, 1) := by decide +kernel
theorem dX9_isCut_20 : decode cX9_isCut 20 = .ok (.getfield 7, 3) := by decide +kernel
theorem dX9_isCut_23 : decode cX9_isCut 23 = .ok (.sipush 134, 3) := by decide +kernel
theorem dX9_isCut_26 : decode cX9_isCut 26 = .ok (.iconst 2, 1) := by decide +kernel
theorem dX9_isCut_27 : decode cX9_isCut 27 = .ok (.iload_n 3, 1) := by decide +kernel
theorem dX9_isCut_28 : decode cX9_isCut 28 = .ok (.imul, 1) := by decide +kernel
theorem dX9_isCut_29 : decode cX9_isCut 29 = .ok (.iadd, 1) := by decide +kernel
theorem dX9_isCut_30 : decode cX9_isCut 30 = .ok (.iaload, 1) := by decide +kernel
theorem dX9_isCut_31 : decode cX9_isCut 31 = .ok (.aload_n 0, 1) := by decide +kernel
theorem dX9_isCut_32 : decode cX9_isCut 32 = .ok (.getfield 7, 3) := by decide +kernel
theorem dX9_isCut_35 : decode cX9_isCut 35 = .ok (.sipush 134, 3) := by decide +kernel
theorem dX9_isCut_38 : decode cX9_isCut 38 = .ok (.iconst 2, 1) := by decide +kernel
theorem dX9_isCut_39 : decode cX9_isCut 39 = .ok (.iload_n 3, 1) := by decide +kernel
theorem dX9_isCut_40 : decode cX9_isCut 40 = .ok (.imul, 1) := by decide +kernel
theorem dX9_isCut_41 : decode cX9_isCut 41 = .ok (.iadd, 1) := by decide +kernel
theorem dX9_isCut_42 : decode cX9_isCut 42 = .ok (.iconst 1, 1) := by decide +kernel
theorem dX9_isCut_43 : decode cX9_isCut 43 = .ok (.iadd, 1) := by decide +kernel
theorem dX9_isCut_44 : decode cX9_isCut 44 = .ok (.iaload, 1) := by decide +kernel
theorem dX9_isCut_45 : decode cX9_isCut 45 = .ok (.invokestatic 60, 3) := by decide +kernel
theorem dX9_isCut_48 : decode cX9_isCut 48 = .ok (.ifCond .eq 7, 3) := by decide +kernel
theorem dX9_isCut_51 : decode cX9_isCut 51 = .ok (.iconst 1, 1) := by decide +kernel
theorem dX9_isCut_52 : decode cX9_isCut 52 = .ok (.goto 4, 3) := by decide +kernel
theorem dX9_isCut_55 : decode cX9_isCut 55 = .ok (.iconst 0, 1) := by decide +kernel
theorem dX9_isCut_56 : decode cX9_isCut 56 = .ok (.istore_n 2, 1) := by decide +kernel
theorem dX9_isCut_57 : decode cX9_isCut 57 = .ok (.iinc 3 1, 3) := by decide +kernel
theorem dX9_isCut_60 : decode cX9_isCut 60 = .ok (.goto (-56), 3) := by decide +kernel
theorem dX9_isCut_63 : decode cX9_isCut 63 = .ok (.iload_n 2, 1) := by decide +kernel
theorem dX9_isCut_64 : decode cX9_isCut 64 = .ok (.ireturn, 1) := by decide +kernel
theorem dX9_sings_0 : decode cX9_sings 0 = .ok (.aload_n 0, 1) := by decide +kernel
theorem dX9_sings_1 : decode cX9_sings 1 = .ok (.iload_n 1, 1) := by decide +kernel
theorem dX9_sings_2 : decode cX9_sings 2 = .ok (.invokevirtual 67, 3) := by decide +kernel
theorem dX9_sings_5 : decode cX9_sings 5 = .ok (.ifCond .ne 50, 3) := by decide +kernel
theorem dX9_sings_8 : decode cX9_sings 8 = .ok (.aload_n 0, 1) := by decide +kernel
theorem dX9_sings_9 : decode cX9_sings 9 = .ok (.getfield 26, 3) := by decide +kernel
theorem dX9_sings_12 : decode cX9_sings 12 = .ok (.aload_n 0, 1) := by decide +kernel
theorem dX9_sings_13 : decode cX9_sings 13 = .ok (.getfield 71, 3) := by decide +kernel
theorem dX9_sings_16 : decode cX9_sings 16 = .ok (.iload_n 1, 1) := by decide +kernel
theorem dX9_sings_17 : decode cX9_sings 17 = .ok (.iastore, 1) := by decide +kernel
theorem dX9_sings_18 : decode cX9_sings 18 = .ok (.aload_n 0, 1) := by decide +kernel
theorem dX9_sings_19 : decode cX9_sings 19 = .ok (.getfield 29, 3) := by decide +kernel
theorem dX9_sings_22 : decode cX9_sings 22 = .ok (.aload_n 0, 1) := by decide +kernel
theorem dX9_sings_23 : decode cX9_sings 23 = .ok (.getfield 71, 3) := by decide +kernel
theorem dX9_sings_26 : decode cX9_sings 26 = .ok (.aload_n 0, 1) := by decide +kernel
theorem dX9_sings_27 : decode cX9_sings 27 = .ok (.getfield 74, 3) := by decide +kernel
theorem dX9_sings_30 : decode cX9_sings 30 = .ok (.iastore, 1) := by decide +kernel
theorem dX9_sings_31 : decode cX9_sings 31 = .ok (.aload_n 0, 1) := by decide +kernel
theorem dX9_sings_32 : decode cX9_sings 32 = .ok (.dup, 1) := by decide +kernel
theorem dX9_sings_33 : decode cX9_sings 33 = .ok (.getfield 74, 3) := by decide +kernel
theorem dX9_sings_36 : decode cX9_sings 36 = .ok (.aload_n 0, 1) := by decide +kernel
theorem dX9_sings_37 : decode cX9_sings 37 = .ok (.iload_n 1, 1) := by decide +kernel
theorem dX9_sings_38 : decode cX9_sings 38 = .ok (.invokevirtual 77, 3) := by decide +kernel
theorem dX9_sings_41 : decode cX9_sings 41 = .ok (.iadd, 1) := by decide +kernel
theorem dX9_sings_42 : decode cX9_sings 42 = .ok (.putfield 74, 3) := by decide +kernel
theorem dX9_sings_45 : decode cX9_sings 45 = .ok (.aload_n 0, 1) := by decide +kernel
theorem dX9_sings_46 : decode cX9_sings 46 = .ok (.dup, 1) := by decide +kernel
theorem dX9_sings_47 : decode cX9_sings 47 = .ok (.getfield 71, 3) := by decide +kernel
theorem dX9_sings_50 : decode cX9_sings 50 = .ok (.iconst 1, 1) := by decide +kernel
theorem dX9_sings_51 : decode cX9_sings 51 = .ok (.iadd, 1) := by decide +kernel
theorem dX9_sings_52 : decode cX9_sings 52 = .ok (.putfield 71, 3) := by decide +kernel
theorem dX9_sings_55 : decode cX9_sings 55 = .ok (.return_, 1) := by decide +kernel
theorem dX9_laysNight_0 : decode cX9_laysNight 0 = .ok (.aload_n 0, 1) := by decide +kernel
theorem dX9_laysNight_1 : decode cX9_laysNight 1 = .ok (.iconst 0, 1) := by decide +kernel
theorem dX9_laysNight_2 : decode cX9_laysNight 2 = .ok (.putfield 71, 3) := by decide +kernel
theorem dX9_laysNight_5 : decode cX9_laysNight 5 = .ok (.aload_n 0, 1) := by decide +kernel
theorem dX9_laysNight_6 : decode cX9_laysNight 6 = .ok (.iconst 0, 1) := by decide +kernel
theorem dX9_laysNight_7 : decode cX9_laysNight 7 = .ok (.putfield 74, 3) := by decide +kernel
theorem dX9_laysNight_10 : decode cX9_laysNight 10 = .ok (.iconst 0, 1) := by decide +kernel
theorem dX9_laysNight_11 : decode cX9_laysNight 11 = .ok (.istore_n 1, 1) := by decide +kernel
theorem dX9_laysNight_12 : decode cX9_laysNight 12 = .ok (.iload_n 1, 1) := by decide +kernel
theorem dX9_laysNight_13 : decode cX9_laysNight 13 = .ok (.aload_n 0, 1) := by decide +kernel
theorem dX9_laysNight_14 : decode cX9_laysNight 14 = .ok (.getfield 7, 3) := by decide +kernel
theorem dX9_laysNight_17 : decode cX9_laysNight 17 = .ok (.iconst 0, 1) := by decide +kernel
theorem dX9_laysNight_18 : decode cX9_laysNight 18 = .ok (.iaload, 1) := by decide +kernel
theorem dX9_laysNight_19 : decode cX9_laysNight 19 = .ok (.if_icmp .ge 65, 3) := by decide +kernel
theorem dX9_laysNight_22 : decode cX9_laysNight 22 = .ok (.aload_n 0, 1) := by decide +kernel
theorem dX9_laysNight_23 : decode cX9_laysNight 23 = .ok (.iload_n 1, 1) := by decide +kernel
theorem dX9_laysNight_24 : decode cX9_laysNight 24 = .ok (.invokevirtual 81, 3) := by decide +kernel
theorem dX9_laysNight_27 : decode cX9_laysNight 27 = .ok (.iconst 0, 1) := by decide +kernel
theorem dX9_laysNight_28 : decode cX9_laysNight 28 = .ok (.istore_n 2, 1) := by decide +kernel
theorem dX9_laysNight_29 : decode cX9_laysNight 29 = .ok (.iload_n 2, 1) := by decide +kernel
theorem dX9_laysNight_30 : decode cX9_laysNight 30 = .ok (.aload_n 0, 1) := by decide +kernel
theorem dX9_laysNight_31 : decode cX9_laysNight 31 = .ok (.getfield 7, 3) := by decide +kernel
theorem dX9_laysNight_34 : decode cX9_laysNight 34 = .ok (.iconst 2, 1) := by decide +kernel
theorem dX9_laysNight_35 : decode cX9_laysNight 35 = .ok (.iaload, 1) := by decide +kernel
theorem dX9_laysNight_36 : decode cX9_laysNight 36 = .ok (.if_icmp .ge 42, 3) := by decide +kernel
theorem dX9_laysNight_39 : decode cX9_laysNight 39 = .ok (.aload_n 0, 1) := by decide +kernel
theorem dX9_laysNight_40 : decode cX9_laysNight 40 = .ok (.getfield 7, 3) := by decide +kernel
theorem dX9_laysNight_43 : decode cX9_laysNight 43 = .ok (.bipush 126, 2) := by decide +kernel
theorem dX9_laysNight_45 : decode cX9_laysNight 45 = .ok (.iconst 2, 1) := by decide +kernel
theorem dX9_laysNight_46 : decode cX9_laysNight 46 = .ok (.iload_n 2, 1) := by decide +kernel
theorem dX9_laysNight_47 : decode cX9_laysNight 47 = .ok (.imul, 1) := by decide +kernel
theorem dX9_laysNight_48 : decode cX9_laysNight 48 = .ok (.iadd, 1) := by decide +kernel
theorem dX9_laysNight_49 : decode cX9_laysNight 49 = .ok (.iconst 1, 1) := by decide +kernel
theorem dX9_laysNight_50 : decode cX9_laysNight 50 = .ok (.iadd, 1) := by decide +kernel
theorem dX9_laysNight_51 : decode cX9_laysNight 51 = .ok (.iaload, 1) := by decide +kernel
theorem dX9_laysNight_52 : decode cX9_laysNight 52 = .ok (.iload_n 1, 1) := by decide +kernel
theorem dX9_laysNight_53 : decode cX9_laysNight 53 = .ok (.if_icmp .ne 19, 3) := by decide +kernel
theorem dX9_laysNight_56 : decode cX9_laysNight 56 = .ok (.aload_n 0, 1) := by decide +kernel
theorem dX9_laysNight_57 : decode cX9_laysNight 57 = .ok (.aload_n 0, 1) := by decide +kernel
theorem dX9_laysNight_58 : decode cX9_laysNight 58 = .ok (.getfield 7, 3) := by decide +kernel
theorem dX9_laysNight_61 : decode cX9_laysNight 61 = .ok (.bipush 126, 2) := by decide +kernel
theorem dX9_laysNight_63 : decode cX9_laysNight 63 = .ok (.iconst 2, 1) := by decide +kernel
theorem dX9_laysNight_64 : decode cX9_laysNight 64 = .ok (.iload_n 2, 1) := by decide +kernel
theorem dX9_laysNight_65 : decode cX9_laysNight 65 = .ok (.imul, 1) := by decide +kernel
theorem dX9_laysNight_66 : decode cX9_laysNight 66 = .ok (.iadd, 1) := by decide +kernel
theorem dX9_laysNight_67 : decode cX9_laysNight 67 = .ok (.iaload, 1) := by decide +kernel
theorem dX9_laysNight_68 : decode cX9_laysNight 68 = .ok (.iload_n 1, 1) := by decide +kernel
theorem dX9_laysNight_69 : decode cX9_laysNight 69 = .ok (.invokevirtual 85, 3) := by decide +kernel
theorem dX9_laysNight_72 : decode cX9_laysNight 72 = .ok (.iinc 2 1, 3) := by decide +kernel
theorem dX9_laysNight_75 : decode cX9_laysNight 75 = .ok (.goto (-46), 3) := by decide +kernel
theorem dX9_laysNight_78 : decode cX9_laysNight 78 = .ok (.iinc 1 1, 3) := by decide +kernel
theorem dX9_laysNight_81 : decode cX9_laysNight 81 = .ok (.goto (-69), 3) := by decide +kernel
theorem dX9_laysNight_84 : decode cX9_laysNight 84 = .ok (.return_, 1) := by decide +kernel
theorem dX9_repeats_0 : decode cX9_repeats 0 = .ok (.iload_n 1, 1) := by decide +kernel
theorem dX9_repeats_1 : decode cX9_repeats 1 = .ok (.istore_n 3, 1) := by decide +kernel
theorem dX9_repeats_2 : decode cX9_repeats 2 = .ok (.iload_n 3, 1) := by decide +kernel
theorem dX9_repeats_3 : decode cX9_repeats 3 = .ok (.iload_n 2, 1) := by decide +kernel
theorem dX9_repeats_4 : decode cX9_repeats 4 = .ok (.if_icmp .gt 14, 3) := by decide +kernel
theorem dX9_repeats_7 : decode cX9_repeats 7 = .ok (.aload_n 0, 1) := by decide +kernel
theorem dX9_repeats_8 : decode cX9_repeats 8 = .ok (.iload_n 3, 1) := by decide +kernel
theorem dX9_repeats_9 : decode cX9_repeats 9 = .ok (.invokevirtual 81, 3) := by decide +kernel
theorem dX9_repeats_12 : decode cX9_repeats 12 = .ok (.iinc 3 1, 3) := by decide +kernel
theorem dX9_repeats_15 : decode cX9_repeats 15 = .ok (.goto (-13), 3) := by decide +kernel
theorem dX9_repeats_18 : decode cX9_repeats 18 = .ok (.return_, 1) := by decide +kernel
theorem dX9_beginOf_0 : decode cX9_beginOf 0 = .ok (.iload_n 1, 1) := by decide +kernel
theorem dX9_beginOf_1 : decode cX9_beginOf 1 = .ok (.aload_n 0, 1) := by decide +kernel
theorem dX9_beginOf_2 : decode cX9_beginOf 2 = .ok (.getfield 71, 3) := by decide +kernel
theorem dX9_beginOf_5 : decode cX9_beginOf 5 = .ok (.if_icmp .ge 12, 3) := by decide +kernel
theorem dX9_beginOf_8 : decode cX9_beginOf 8 = .ok (.aload_n 0, 1) := by decide +kernel
theorem dX9_beginOf_9 : decode cX9_beginOf 9 = .ok (.getfield 29, 3) := by decide +kernel
theorem dX9_beginOf_12 : decode cX9_beginOf 12 = .ok (.iload_n 1, 1) := by decide +kernel
theorem dX9_beginOf_13 : decode cX9_beginOf 13 = .ok (.iaload, 1) := by decide +kernel
theorem dX9_beginOf_14 : decode cX9_beginOf 14 = .ok (.goto 7, 3) := by decide +kernel
theorem dX9_beginOf_17 : decode cX9_beginOf 17 = .ok (.aload_n 0, 1) := by decide +kernel
theorem dX9_beginOf_18 : decode cX9_beginOf 18 = .ok (.getfield 74, 3) := by decide +kernel
theorem dX9_beginOf_21 : decode cX9_beginOf 21 = .ok (.ireturn, 1) := by decide +kernel
theorem dX9_firstPlace_0 : decode cX9_firstPlace 0 = .ok (.iconst 0, 1) := by decide +kernel
theorem dX9_firstPlace_1 : decode cX9_firstPlace 1 = .ok (.istore_n 2, 1) := by decide +kernel
theorem dX9_firstPlace_2 : decode cX9_firstPlace 2 = .ok (.iload_n 2, 1) := by decide +kernel
theorem dX9_firstPlace_3 : decode cX9_firstPlace 3 = .ok (.aload_n 0, 1) := by decide +kernel
theorem dX9_firstPlace_4 : decode cX9_firstPlace 4 = .ok (.getfield 71, 3) := by decide +kernel
theorem dX9_firstPlace_7 : decode cX9_firstPlace 7 = .ok (.if_icmp .ge 21, 3) := by decide +kernel
theorem dX9_firstPlace_10 : decode cX9_firstPlace 10 = .ok (.aload_n 0, 1) := by decide +kernel
theorem dX9_firstPlace_11 : decode cX9_firstPlace 11 = .ok (.getfield 26, 3) := by decide +kernel
theorem dX9_firstPlace_14 : decode cX9_firstPlace 14 = .ok (.iload_n 2, 1) := by decide +kernel
theorem dX9_firstPlace_15 : decode cX9_firstPlace 15 = .ok (.iaload, 1) := by decide +kernel
theorem dX9_firstPlace_16 : decode cX9_firstPlace 16 = .ok (.iload_n 1, 1) := by decide +kernel
theorem dX9_firstPlace_17 : decode cX9_firstPlace 17 = .ok (.if_icmp .ne 5, 3) := by decide +kernel
theorem dX9_firstPlace_20 : decode cX9_firstPlace 20 = .ok (.iload_n 2, 1) := by decide +kernel
theorem dX9_firstPlace_21 : decode cX9_firstPlace 21 = .ok (.ireturn, 1) := by decide +kernel
theorem dX9_firstPlace_22 : decode cX9_firstPlace 22 = .ok (.iinc 2 1, 3) := by decide +kernel
theorem dX9_firstPlace_25 : decode cX9_firstPlace 25 = .ok (.goto (-23), 3) := by decide +kernel
theorem dX9_firstPlace_28 : decode cX9_firstPlace 28 = .ok (.bipush (-6), 2) := by decide +kernel
theorem dX9_firstPlace_30 : decode cX9_firstPlace 30 = .ok (.ireturn, 1) := by decide +kernel
theorem dX9_lastPlace_0 : decode cX9_lastPlace 0 = .ok (.bipush (-6), 2) := by decide +kernel
theorem dX9_lastPlace_2 : decode cX9_lastPlace 2 = .ok (.istore_n 2, 1) := by decide +kernel
theorem dX9_lastPlace_3 : decode cX9_lastPlace 3 = .ok (.iconst 0, 1) := by decide +kernel
theorem dX9_lastPlace_4 : decode cX9_lastPlace 4 = .ok (.istore_n 3, 1) := by decide +kernel
theorem dX9_lastPlace_5 : decode cX9_lastPlace 5 = .ok (.iload_n 3, 1) := by decide +kernel
theorem dX9_lastPlace_6 : decode cX9_lastPlace 6 = .ok (.aload_n 0, 1) := by decide +kernel
theorem dX9_lastPlace_7 : decode cX9_lastPlace 7 = .ok (.getfield 71, 3) := by decide +kernel
theorem dX9_lastPlace_10 : decode cX9_lastPlace 10 = .ok (.if_icmp .ge 25, 3) := by decide +kernel
theorem dX9_lastPlace_13 : decode cX9_lastPlace 13 = .ok (.aload_n 0, 1) := by decide +kernel
theorem dX9_lastPlace_14 : decode cX9_lastPlace 14 = .ok (.getfield 26, 3) := by decide +kernel
theorem dX9_lastPlace_17 : decode cX9_lastPlace 17 = .ok (.iload_n 3, 1) := by decide +kernel
theorem dX9_lastPlace_18 : decode cX9_lastPlace 18 = .ok (.iaload, 1) := by decide +kernel
theorem dX9_lastPlace_19 : decode cX9_lastPlace 19 = .ok (.iload_n 1, 1) := by decide +kernel
theorem dX9_lastPlace_20 : decode cX9_lastPlace 20 = .ok (.if_icmp .ne 7, 3) := by decide +kernel
theorem dX9_lastPlace_23 : decode cX9_lastPlace 23 = .ok (.iload_n 3, 1) := by decide +kernel
theorem dX9_lastPlace_24 : decode cX9_lastPlace 24 = .ok (.goto 4, 3) := by decide +kernel
theorem dX9_lastPlace_27 : decode cX9_lastPlace 27 = .ok (.iload_n 2, 1) := by decide +kernel
theorem dX9_lastPlace_28 : decode cX9_lastPlace 28 = .ok (.istore_n 2, 1) := by decide +kernel
theorem dX9_lastPlace_29 : decode cX9_lastPlace 29 = .ok (.iinc 3 1, 3) := by decide +kernel
theorem dX9_lastPlace_32 : decode cX9_lastPlace 32 = .ok (.goto (-27), 3) := by decide +kernel
theorem dX9_lastPlace_35 : decode cX9_lastPlace 35 = .ok (.iload_n 2, 1) := by decide +kernel
theorem dX9_lastPlace_36 : decode cX9_lastPlace 36 = .ok (.ireturn, 1) := by decide +kernel
theorem dX9_comes_0 : decode cX9_comes 0 = .ok (.aload_n 0, 1) := by decide +kernel
theorem dX9_comes_1 : decode cX9_comes 1 = .ok (.iload_n 1, 1) := by decide +kernel
theorem dX9_comes_2 : decode cX9_comes 2 = .ok (.iconst 1, 1) := by decide +kernel
theorem dX9_comes_3 : decode cX9_comes 3 = .ok (.invokevirtual 89, 3) := by decide +kernel
theorem dX9_comes_6 : decode cX9_comes 6 = .ok (.istore_n 3, 1) := by decide +kernel
theorem dX9_comes_7 : decode cX9_comes 7 = .ok (.aload_n 0, 1) := by decide +kernel
theorem dX9_comes_8 : decode cX9_comes 8 = .ok (.iload_n 1, 1) := by decide +kernel
theorem dX9_comes_9 : decode cX9_comes 9 = .ok (.iconst 0, 1) := by decide +kernel
theorem dX9_comes_10 : decode cX9_comes 10 = .ok (.invokevirtual 89, 3) := by decide +kernel
theorem dX9_comes_13 : decode cX9_comes 13 = .ok (.istore 4, 2) := by decide +kernel
theorem dX9_comes_15 : decode cX9_comes 15 = .ok (.aload_n 0, 1) := by decide +kernel
theorem dX9_comes_16 : decode cX9_comes 16 = .ok (.getfield 26, 3) := by decide +kernel
theorem dX9_comes_19 : decode cX9_comes 19 = .ok (.iload_n 2, 1) := by decide +kernel
theorem dX9_comes_20 : decode cX9_comes 20 = .ok (.iaload, 1) := by decide +kernel
theorem dX9_comes_21 : decode cX9_comes 21 = .ok (.iload_n 3, 1) := by decide +kernel
theorem dX9_comes_22 : decode cX9_comes 22 = .ok (.if_icmp .ne 35, 3) := by decide +kernel
theorem dX9_comes_25 : decode cX9_comes 25 = .ok (.iload 4, 2) := by decide +kernel
theorem dX9_comes_27 : decode cX9_comes 27 = .ok (.iconst 1, 1) := by decide +kernel
theorem dX9_comes_28 : decode cX9_comes 28 = .ok (.if_icmp .eq 25, 3) := by decide +kernel
theorem dX9_comes_31 : decode cX9_comes 31 = .ok (.iload_n 2, 1) := by decide +kernel
theorem dX9_comes_32 : decode cX9_comes 32 = .ok (.iload 4, 2) := by decide +kernel
theorem dX9_comes_34 : decode cX9_comes 34 = .ok (.ifCond .ne 11, 3) := by decide +kernel
theorem dX9_comes_37 : decode cX9_comes 37 = .ok (.aload_n 0, 1) := by decide +kernel
theorem dX9_comes_38 : decode cX9_comes 38 = .ok (.iload_n 3, 1) := by decide +kernel
theorem dX9_comes_39 : decode cX9_comes 39 = .ok (.invokevirtual 93, 3) := by decide +kernel
theorem dX9_comes_42 : decode cX9_comes 42 = .ok (.goto 8, 3) := by decide +kernel
theorem dX9_comes_45 : decode cX9_comes 45 = .ok (.aload_n 0, 1) := by decide +kernel
theorem dX9_comes_46 : decode cX9_comes 46 = .ok (.iload_n 3, 1) := by decide +kernel
theorem dX9_comes_47 : decode cX9_comes 47 = .ok (.invokevirtual 96, 3) := by decide +kernel
theorem dX9_comes_50 : decode cX9_comes 50 = .ok (.if_icmp .ne 7, 3) := by decide +kernel
theorem dX9_comes_53 : decode cX9_comes 53 = .ok (.iconst 1, 1) := by decide +kernel
theorem dX9_comes_54 : decode cX9_comes 54 = .ok (.goto 4, 3) := by decide +kernel
theorem dX9_comes_57 : decode cX9_comes 57 = .ok (.iconst 0, 1) := by decide +kernel
theorem dX9_comes_58 : decode cX9_comes 58 = .ok (.ireturn, 1) := by decide +kernel
theorem dX9_lead_0 : decode cX9_lead 0 = .ok (.iload_n 0, 1) := by decide +kernel
theorem dX9_lead_1 : decode cX9_lead 1 = .ok (.ifCond .ne 7, 3) := by decide +kernel
theorem dX9_lead_4 : decode cX9_lead 4 = .ok (.iconst 5, 1) := by decide +kernel
theorem dX9_lead_5 : decode cX9_lead 5 = .ok (.goto 14, 3) := by decide +kernel
theorem dX9_lead_8 : decode cX9_lead 8 = .ok (.iload_n 0, 1) := by decide +kernel
theorem dX9_lead_9 : decode cX9_lead 9 = .ok (.iconst 2, 1) := by decide +kernel
theorem dX9_lead_10 : decode cX9_lead 10 = .ok (.if_icmp .ne 8, 3) := by decide +kernel
theorem dX9_lead_13 : decode cX9_lead 13 = .ok (.bipush 20, 2) := by decide +kernel
theorem dX9_lead_15 : decode cX9_lead 15 = .ok (.goto 4, 3) := by decide +kernel
theorem dX9_lead_18 : decode cX9_lead 18 = .ok (.iconst 0, 1) := by decide +kernel
theorem dX9_lead_19 : decode cX9_lead 19 = .ok (.ireturn, 1) := by decide +kernel
theorem dX9_isDark_0 : decode cX9_isDark 0 = .ok (.iconst 0, 1) := by decide +kernel
theorem dX9_isDark_1 : decode cX9_isDark 1 = .ok (.istore_n 2, 1) := by decide +kernel
theorem dX9_isDark_2 : decode cX9_isDark 2 = .ok (.iconst 0, 1) := by decide +kernel
theorem dX9_isDark_3 : decode cX9_isDark 3 = .ok (.istore_n 3, 1) := by decide +kernel
theorem dX9_isDark_4 : decode cX9_isDark 4 = .ok (.iload_n 3, 1) := by decide +kernel
theorem dX9_isDark_5 : decode cX9_isDark 5 = .ok (.aload_n 0, 1) := by decide +kernel
theorem dX9_isDark_6 : decode cX9_isDark 6 = .ok (.getfield 7, 3) := by decide +kernel
theorem dX9_isDark_9 : decode cX9_isDark 9 = .ok (.iconst 4, 1) := by decide +kernel
theorem dX9_isDark_10 : decode cX9_isDark 10 = .ok (.iaload, 1) := by decide +kernel
theorem dX9_isDark_11 : decode cX9_isDark 11 = .ok (.if_icmp .ge 77, 3) := by decide +kernel
theorem dX9_isDark_14 : decode cX9_isDark 14 = .ok (.aload_n 0, 1) := by decide +kernel
theorem dX9_isDark_15 : decode cX9_isDark 15 = .ok (.getfield 7, 3) := by decide +kernel
theorem dX9_isDark_18 : decode cX9_isDark 18 = .ok (.sipush 142, 3) := by decide +kernel
theorem dX9_isDark_21 : decode cX9_isDark 21 = .ok (.iconst 2, 1) := by decide +kernel
theorem dX9_isDark_22 : decode cX9_isDark 22 = .ok (.iload_n 3, 1) := by decide +kernel
theorem dX9_isDark_23 : decode cX9_isDark 23 = .ok (.imul, 1) := by decide +kernel
theorem dX9_isDark_24 : decode cX9_isDark 24 = .ok (.iadd, 1) := by decide +kernel
theorem dX9_isDark_25 : decode cX9_isDark 25 = .ok (.iaload, 1) := by decide +kernel
theorem dX9_isDark_26 : decode cX9_isDark 26 = .ok (.istore 4, 2) := by decide +kernel
theorem dX9_isDark_28 : decode cX9_isDark 28 = .ok (.iload_n 2, 1) := by decide +kernel
theorem dX9_isDark_29 : decode cX9_isDark 29 = .ok (.ifCond .ne 47, 3) := by decide +kernel
theorem dX9_isDark_32 : decode cX9_isDark 32 = .ok (.iload 4, 2) := by decide +kernel
theorem dX9_isDark_34 : decode cX9_isDark 34 = .ok (.aload_n 0, 1) := by decide +kernel
theorem dX9_isDark_35 : decode cX9_isDark 35 = .ok (.getfield 71, 3) := by decide +kernel
theorem dX9_isDark_38 : decode cX9_isDark 38 = .ok (.if_icmp .ge 42, 3) := by decide +kernel
theorem dX9_isDark_41 : decode cX9_isDark 41 = .ok (.iload_n 1, 1) := by decide +kernel
theorem dX9_isDark_42 : decode cX9_isDark 42 = .ok (.aload_n 0, 1) := by decide +kernel
theorem dX9_isDark_43 : decode cX9_isDark 43 = .ok (.getfield 29, 3) := by decide +kernel
theorem dX9_isDark_46 : decode cX9_isDark 46 = .ok (.iload 4, 2) := by decide +kernel
theorem dX9_isDark_48 : decode cX9_isDark 48 = .ok (.iaload, 1) := by decide +kernel
theorem dX9_isDark_49 : decode cX9_isDark 49 = .ok (.if_icmp .lt 31, 3) := by decide +kernel
theorem dX9_isDark_52 : decode cX9_isDark 52 = .ok (.iload_n 1, 1) := by decide +kernel
theorem dX9_isDark_53 : decode cX9_isDark 53 = .ok (.aload_n 0, 1) := by decide +kernel
theorem dX9_isDark_54 : decode cX9_isDark 54 = .ok (.aload_n 0, 1) := by decide +kernel
theorem dX9_isDark_55 : decode cX9_isDark 55 = .ok (.getfield 7, 3) := by decide +kernel
theorem dX9_isDark_58 : decode cX9_isDark 58 = .ok (.sipush 142, 3) := by decide +kernel
theorem dX9_isDark_61 : decode cX9_isDark 61 = .ok (.iconst 2, 1) := by decide +kernel
theorem dX9_isDark_62 : decode cX9_isDark 62 = .ok (.iload_n 3, 1) := by decide +kernel
theorem dX9_isDark_63 : decode cX9_isDark 63 = .ok (.imul, 1) := by decide +kernel
theorem dX9_isDark_64 : decode cX9_isDark 64 = .ok (.iadd, 1) := by decide +kernel
theorem dX9_isDark_65 : decode cX9_isDark 65 = .ok (.iconst 1, 1) := by decide +kernel
theorem dX9_isDark_66 : decode cX9_isDark 66 = .ok (.iadd, 1) := by decide +kernel
theorem dX9_isDark_67 : decode cX9_isDark 67 = .ok (.iaload, 1) := by decide +kernel
theorem dX9_isDark_68 : decode cX9_isDark 68 = .ok (.iconst 1, 1) := by decide +kernel
theorem dX9_isDark_69 : decode cX9_isDark 69 = .ok (.iadd, 1) := by decide +kernel
theorem dX9_isDark_70 : decode cX9_isDark 70 = .ok (.invokevirtual 99, 3) := by decide +kernel
theorem dX9_isDark_73 : decode cX9_isDark 73 = .ok (.if_icmp .ge 7, 3) := by decide +kernel
theorem dX9_isDark_76 : decode cX9_isDark 76 = .ok (.iconst 1, 1) := by decide +kernel
theorem dX9_isDark_77 : decode cX9_isDark 77 = .ok (.goto 4, 3) := by decide +kernel
theorem dX9_isDark_80 : decode cX9_isDark 80 = .ok (.iconst 0, 1) := by decide +kernel
theorem dX9_isDark_81 : decode cX9_isDark 81 = .ok (.istore_n 2, 1) := by decide +kernel
theorem dX9_isDark_82 : decode cX9_isDark 82 = .ok (.iinc 3 1, 3) := by decide +kernel
theorem dX9_isDark_85 : decode cX9_isDark 85 = .ok (.goto (-81), 3) := by decide +kernel
theorem dX9_isDark_88 : decode cX9_isDark 88 = .ok (.iload_n 2, 1) := by decide +kernel
theorem dX9_isDark_89 : decode cX9_isDark 89 = .ok (.ireturn, 1) := by decide +kernel
theorem dX9_laysShowing_0 : decode cX9_laysShowing 0 = .ok (.aload_n 0, 1) := by decide +kernel
theorem dX9_laysShowing_1 : decode cX9_laysShowing 1 = .ok (.getfield 102, 3) := by decide +kernel
theorem dX9_laysShowing_4 : decode cX9_laysShowing 4 = .ok (.istore_n 3, 1) := by decide +kernel
theorem dX9_laysShowing_5 : decode cX9_laysShowing 5 = .ok (.aload_n 0, 1) := by decide +kernel
theorem dX9_laysShowing_6 : decode cX9_laysShowing 6 = .ok (.getfield 29, 3) := by decide +kernel
theorem dX9_laysShowing_9 : decode cX9_laysShowing 9 = .ok (.iload_n 2, 1) := by decide +kernel
theorem dX9_laysShowing_10 : decode cX9_laysShowing 10 = .ok (.iaload, 1) := by decide +kernel
theorem dX9_laysShowing_11 : decode cX9_laysShowing 11 = .ok (.aload_n 0, 1) := by decide +kernel
theorem dX9_laysShowing_12 : decode cX9_laysShowing 12 = .ok (.iload_n 1, 1) := by decide +kernel
theorem dX9_laysShowing_13 : decode cX9_laysShowing 13 = .ok (.iconst 0, 1) := by decide +kernel
theorem dX9_laysShowing_14 : decode cX9_laysShowing 14 = .ok (.invokevirtual 89, 3) := by decide +kernel
theorem dX9_laysShowing_17 : decode cX9_laysShowing 17 = .ok (.invokestatic 105, 3) := by decide +kernel
theorem dX9_laysShowing_20 : decode cX9_laysShowing 20 = .ok (.isub, 1) := by decide +kernel
theorem dX9_laysShowing_21 : decode cX9_laysShowing 21 = .ok (.istore 4, 2) := by decide +kernel
theorem dX9_laysShowing_23 : decode cX9_laysShowing 23 = .ok (.aload_n 0, 1) := by decide +kernel
theorem dX9_laysShowing_24 : decode cX9_laysShowing 24 = .ok (.getfield 32, 3) := by decide +kernel
theorem dX9_laysShowing_27 : decode cX9_laysShowing 27 = .ok (.iload_n 3, 1) := by decide +kernel
theorem dX9_laysShowing_28 : decode cX9_laysShowing 28 = .ok (.iload_n 1, 1) := by decide +kernel
theorem dX9_laysShowing_29 : decode cX9_laysShowing 29 = .ok (.iastore, 1) := by decide +kernel
theorem dX9_laysShowing_30 : decode cX9_laysShowing 30 = .ok (.aload_n 0, 1) := by decide +kernel
theorem dX9_laysShowing_31 : decode cX9_laysShowing 31 = .ok (.getfield 35, 3) := by decide +kernel
theorem dX9_laysShowing_34 : decode cX9_laysShowing 34 = .ok (.iload_n 3, 1) := by decide +kernel
theorem dX9_laysShowing_35 : decode cX9_laysShowing 35 = .ok (.iload_n 2, 1) := by decide +kernel
theorem dX9_laysShowing_36 : decode cX9_laysShowing 36 = .ok (.iastore, 1) := by decide +kernel
theorem dX9_laysShowing_37 : decode cX9_laysShowing 37 = .ok (.aload_n 0, 1) := by decide +kernel
theorem dX9_laysShowing_38 : decode cX9_laysShowing 38 = .ok (.getfield 38, 3) := by decide +kernel
theorem dX9_laysShowing_41 : decode cX9_laysShowing 41 = .ok (.iload_n 3, 1) := by decide +kernel
theorem dX9_laysShowing_42 : decode cX9_laysShowing 42 = .ok (.iload 4, 2) := by decide +kernel
theorem dX9_laysShowing_44 : decode cX9_laysShowing 44 = .ok (.ifCond .ge 7, 3) := by decide +kernel
theorem dX9_laysShowing_47 : decode cX9_laysShowing 47 = .ok (.iconst 0, 1) := by decide +kernel
theorem dX9_laysShowing_48 : decode cX9_laysShowing 48 = .ok (.goto 5, 3) := by decide +kernel
theorem dX9_laysShowing_51 : decode cX9_laysShowing 51 = .ok (.iload 4, 2) := by decide +kernel
theorem dX9_laysShowing_53 : decode cX9_laysShowing 53 = .ok (.iastore, 1) := by decide +kernel
theorem dX9_laysShowing_54 : decode cX9_laysShowing 54 = .ok (.aload_n 0, 1) := by decide +kernel
theorem dX9_laysShowing_55 : decode cX9_laysShowing 55 = .ok (.getfield 41, 3) := by decide +kernel
theorem dX9_laysShowing_58 : decode cX9_laysShowing 58 = .ok (.iload_n 3, 1) := by decide +kernel
theorem dX9_laysShowing_59 : decode cX9_laysShowing 59 = .ok (.aload_n 0, 1) := by decide +kernel
theorem dX9_laysShowing_60 : decode cX9_laysShowing 60 = .ok (.iload_n 2, 1) := by decide +kernel
theorem dX9_laysShowing_61 : decode cX9_laysShowing 61 = .ok (.aload_n 0, 1) := by decide +kernel
theorem dX9_laysShowing_62 : decode cX9_laysShowing 62 = .ok (.iload_n 1, 1) := by decide +kernel
theorem dX9_laysShowing_63 : decode cX9_laysShowing 63 = .ok (.iconst 2, 1) := by decide +kernel
theorem dX9_laysShowing_64 : decode cX9_laysShowing 64 = .ok (.invokevirtual 89, 3) := by decide +kernel
theorem dX9_laysShowing_67 : decode cX9_laysShowing 67 = .ok (.iadd, 1) := by decide +kernel
theorem dX9_laysShowing_68 : decode cX9_laysShowing 68 = .ok (.invokevirtual 99, 3) := by decide +kernel
theorem dX9_laysShowing_71 : decode cX9_laysShowing 71 = .ok (.iastore, 1) := by decide +kernel
theorem dX9_laysShowing_72 : decode cX9_laysShowing 72 = .ok (.aload_n 0, 1) := by decide +kernel
theorem dX9_laysShowing_73 : decode cX9_laysShowing 73 = .ok (.dup, 1) := by decide +kernel
theorem dX9_laysShowing_74 : decode cX9_laysShowing 74 = .ok (.getfield 102, 3) := by decide +kernel
theorem dX9_laysShowing_77 : decode cX9_laysShowing 77 = .ok (.iconst 1, 1) := by decide +kernel
theorem dX9_laysShowing_78 : decode cX9_laysShowing 78 = .ok (.iadd, 1) := by decide +kernel
theorem dX9_laysShowing_79 : decode cX9_laysShowing 79 = .ok (.putfield 102, 3) := by decide +kernel
theorem dX9_laysShowing_82 : decode cX9_laysShowing 82 = .ok (.return_, 1) := by decide +kernel
theorem dX9_laysShowings_0 : decode cX9_laysShowings 0 = .ok (.aload_n 0, 1) := by decide +kernel
theorem dX9_laysShowings_1 : decode cX9_laysShowings 1 = .ok (.invokevirtual 108, 3) := by decide +kernel
theorem dX9_laysShowings_4 : decode cX9_laysShowings 4 = .ok (.aload_n 0, 1) := by decide +kernel
theorem dX9_laysShowings_5 : decode cX9_laysShowings 5 = .ok (.iconst 0, 1) := by decide +kernel
theorem dX9_laysShowings_6 : decode cX9_laysShowings 6 = .ok (.putfield 102, 3) := by decide +kernel
theorem dX9_laysShowings_9 : decode cX9_laysShowings 9 = .ok (.iconst 0, 1) := by decide +kernel
theorem dX9_laysShowings_10 : decode cX9_laysShowings 10 = .ok (.istore_n 1, 1) := by decide +kernel
theorem dX9_laysShowings_11 : decode cX9_laysShowings 11 = .ok (.iload_n 1, 1) := by decide +kernel
theorem dX9_laysShowings_12 : decode cX9_laysShowings 12 = .ok (.aload_n 0, 1) := by decide +kernel
theorem dX9_laysShowings_13 : decode cX9_laysShowings 13 = .ok (.getfield 71, 3) := by decide +kernel
theorem dX9_laysShowings_16 : decode cX9_laysShowings 16 = .ok (.if_icmp .ge 42, 3) := by decide +kernel
theorem dX9_laysShowings_19 : decode cX9_laysShowings 19 = .ok (.iconst 0, 1) := by decide +kernel
theorem dX9_laysShowings_20 : decode cX9_laysShowings 20 = .ok (.istore_n 2, 1) := by decide +kernel
theorem dX9_laysShowings_21 : decode cX9_laysShowings 21 = .ok (.iload_n 2, 1) := by decide +kernel
theorem dX9_laysShowings_22 : decode cX9_laysShowings 22 = .ok (.aload_n 0, 1) := by decide +kernel
theorem dX9_laysShowings_23 : decode cX9_laysShowings 23 = .ok (.getfield 7, 3) := by decide +kernel
theorem dX9_laysShowings_26 : decode cX9_laysShowings 26 = .ok (.iconst 5, 1) := by decide +kernel
theorem dX9_laysShowings_27 : decode cX9_laysShowings 27 = .ok (.iaload, 1) := by decide +kernel
theorem dX9_laysShowings_28 : decode cX9_laysShowings 28 = .ok (.if_icmp .ge 24, 3) := by decide +kernel
theorem dX9_laysShowings_31 : decode cX9_laysShowings 31 = .ok (.aload_n 0, 1) := by decide +kernel
theorem dX9_laysShowings_32 : decode cX9_laysShowings 32 = .ok (.iload_n 2, 1) := by decide +kernel
theorem dX9_laysShowings_33 : decode cX9_laysShowings 33 = .ok (.iload_n 1, 1) := by decide +kernel
theorem dX9_laysShowings_34 : decode cX9_laysShowings 34 = .ok (.invokevirtual 111, 3) := by decide +kernel
theorem dX9_laysShowings_37 : decode cX9_laysShowings 37 = .ok (.ifCond .eq 9, 3) := by decide +kernel
theorem dX9_laysShowings_40 : decode cX9_laysShowings 40 = .ok (.aload_n 0, 1) := by decide +kernel
theorem dX9_laysShowings_41 : decode cX9_laysShowings 41 = .ok (.iload_n 2, 1) := by decide +kernel
theorem dX9_laysShowings_42 : decode cX9_laysShowings 42 = .ok (.iload_n 1, 1) := by decide +kernel
theorem dX9_laysShowings_43 : decode cX9_laysShowings 43 = .ok (.invokevirtual 115, 3) := by decide +kernel
theorem dX9_laysShowings_46 : decode cX9_laysShowings 46 = .ok (.iinc 2 1, 3) := by decide +kernel
theorem dX9_laysShowings_49 : decode cX9_laysShowings 49 = .ok (.goto (-28), 3) := by decide +kernel
theorem dX9_laysShowings_52 : decode cX9_laysShowings 52 = .ok (.iinc 1 1, 3) := by decide +kernel
theorem dX9_laysShowings_55 : decode cX9_laysShowings 55 = .ok (.goto (-44), 3) := by decide +kernel
theorem dX9_laysShowings_58 : decode cX9_laysShowings 58 = .ok (.bipush (-6), 2) := by decide +kernel
theorem dX9_laysShowings_60 : decode cX9_laysShowings 60 = .ok (.istore_n 1, 1) := by decide +kernel
theorem dX9_laysShowings_61 : decode cX9_laysShowings 61 = .ok (.iconst 0, 1) := by decide +kernel
theorem dX9_laysShowings_62 : decode cX9_laysShowings 62 = .ok (.istore_n 2, 1) := by decide +kernel
theorem dX9_laysShowings_63 : decode cX9_laysShowings 63 = .ok (.iload_n 2, 1) := by decide +kernel
theorem dX9_laysShowings_64 : decode cX9_laysShowings 64 = .ok (.aload_n 0, 1) := by decide +kernel
theorem dX9_laysShowings_65 : decode cX9_laysShowings 65 = .ok (.getfield 102, 3) := by decide +kernel
theorem dX9_laysShowings_68 : decode cX9_laysShowings 68 = .ok (.if_icmp .ge 24, 3) := by decide +kernel
theorem dX9_laysShowings_71 : decode cX9_laysShowings 71 = .ok (.aload_n 0, 1) := by decide +kernel
theorem dX9_laysShowings_72 : decode cX9_laysShowings 72 = .ok (.iload_n 2, 1) := by decide +kernel
theorem dX9_laysShowings_73 : decode cX9_laysShowings 73 = .ok (.iload_n 1, 1) := by decide +kernel
theorem dX9_laysShowings_74 : decode cX9_laysShowings 74 = .ok (.invokevirtual 118, 3) := by decide +kernel
theorem dX9_laysShowings_77 : decode cX9_laysShowings 77 = .ok (.ifCond .eq 7, 3) := by decide +kernel
theorem dX9_laysShowings_80 : decode cX9_laysShowings 80 = .ok (.iload_n 2, 1) := by decide +kernel
theorem dX9_laysShowings_81 : decode cX9_laysShowings 81 = .ok (.goto 4, 3) := by decide +kernel
theorem dX9_laysShowings_84 : decode cX9_laysShowings 84 = .ok (.iload_n 1, 1) := by decide +kernel
theorem dX9_laysShowings_85 : decode cX9_laysShowings 85 = .ok (.istore_n 1, 1) := by decide +kernel
theorem dX9_laysShowings_86 : decode cX9_laysShowings 86 = .ok (.iinc 2 1, 3) := by decide +kernel
theorem dX9_laysShowings_89 : decode cX9_laysShowings 89 = .ok (.goto (-26), 3) := by decide +kernel
theorem dX9_laysShowings_92 : decode cX9_laysShowings 92 = .ok (.return_, 1) := by decide +kernel
theorem dX9_looksAt_0 : decode cX9_looksAt 0 = .ok (.iload_n 2, 1) := by decide +kernel
theorem dX9_looksAt_1 : decode cX9_looksAt 1 = .ok (.bipush (-6), 2) := by decide +kernel
theorem dX9_looksAt_3 : decode cX9_looksAt 3 = .ok (.if_icmp .eq 22, 3) := by decide +kernel
theorem dX9_looksAt_6 : decode cX9_looksAt 6 = .ok (.aload_n 0, 1) := by decide +kernel
theorem dX9_looksAt_7 : decode cX9_looksAt 7 = .ok (.getfield 50, 3) := by decide +kernel
theorem dX9_looksAt_10 : decode cX9_looksAt 10 = .ok (.iload_n 2, 1) := by decide +kernel
theorem dX9_looksAt_11 : decode cX9_looksAt 11 = .ok (.iaload, 1) := by decide +kernel
theorem dX9_looksAt_12 : decode cX9_looksAt 12 = .ok (.aload_n 0, 1) := by decide +kernel
theorem dX9_looksAt_13 : decode cX9_looksAt 13 = .ok (.getfield 38, 3) := by decide +kernel
theorem dX9_looksAt_16 : decode cX9_looksAt 16 = .ok (.iload_n 1, 1) := by decide +kernel
theorem dX9_looksAt_17 : decode cX9_looksAt 17 = .ok (.iaload, 1) := by decide +kernel
theorem dX9_looksAt_18 : decode cX9_looksAt 18 = .ok (.if_icmp .le 7, 3) := by decide +kernel
theorem dX9_looksAt_21 : decode cX9_looksAt 21 = .ok (.iconst 1, 1) := by decide +kernel
theorem dX9_looksAt_22 : decode cX9_looksAt 22 = .ok (.goto 4, 3) := by decide +kernel
theorem dX9_looksAt_25 : decode cX9_looksAt 25 = .ok (.iconst 0, 1) := by decide +kernel
theorem dX9_looksAt_26 : decode cX9_looksAt 26 = .ok (.istore_n 3, 1) := by decide +kernel
theorem dX9_looksAt_27 : decode cX9_looksAt 27 = .ok (.aload_n 0, 1) := by decide +kernel
theorem dX9_looksAt_28 : decode cX9_looksAt 28 = .ok (.aload_n 0, 1) := by decide +kernel
theorem dX9_looksAt_29 : decode cX9_looksAt 29 = .ok (.getfield 32, 3) := by decide +kernel
theorem dX9_looksAt_32 : decode cX9_looksAt 32 = .ok (.iload_n 1, 1) := by decide +kernel
theorem dX9_looksAt_33 : decode cX9_looksAt 33 = .ok (.iaload, 1) := by decide +kernel
theorem dX9_looksAt_34 : decode cX9_looksAt 34 = .ok (.iconst 0, 1) := by decide +kernel
theorem dX9_looksAt_35 : decode cX9_looksAt 35 = .ok (.invokevirtual 89, 3) := by decide +kernel
theorem dX9_looksAt_38 : decode cX9_looksAt 38 = .ok (.iconst 1, 1) := by decide +kernel
theorem dX9_looksAt_39 : decode cX9_looksAt 39 = .ok (.if_icmp .eq 7, 3) := by decide +kernel
theorem dX9_looksAt_42 : decode cX9_looksAt 42 = .ok (.iconst 1, 1) := by decide +kernel
theorem dX9_looksAt_43 : decode cX9_looksAt 43 = .ok (.goto 4, 3) := by decide +kernel
theorem dX9_looksAt_46 : decode cX9_looksAt 46 = .ok (.iconst 0, 1) := by decide +kernel
theorem dX9_looksAt_47 : decode cX9_looksAt 47 = .ok (.istore 4, 2) := by decide +kernel
theorem dX9_looksAt_49 : decode cX9_looksAt 49 = .ok (.aload_n 0, 1) := by decide +kernel
theorem dX9_looksAt_50 : decode cX9_looksAt 50 = .ok (.getfield 38, 3) := by decide +kernel
theorem dX9_looksAt_53 : decode cX9_looksAt 53 = .ok (.iload_n 1, 1) := by decide +kernel
theorem dX9_looksAt_54 : decode cX9_looksAt 54 = .ok (.iaload, 1) := by decide +kernel
theorem dX9_looksAt_55 : decode cX9_looksAt 55 = .ok (.istore 5, 2) := by decide +kernel
theorem dX9_looksAt_57 : decode cX9_looksAt 57 = .ok (.iload_n 3, 1) := by decide +kernel
theorem dX9_looksAt_58 : decode cX9_looksAt 58 = .ok (.ifCond .eq 41, 3) := by decide +kernel
theorem dX9_looksAt_61 : decode cX9_looksAt 61 = .ok (.iload 4, 2) := by decide +kernel
theorem dX9_looksAt_63 : decode cX9_looksAt 63 = .ok (.ifCond .eq 12, 3) := by decide +kernel
theorem dX9_looksAt_66 : decode cX9_looksAt 66 = .ok (.aload_n 0, 1) := by decide +kernel
theorem dX9_looksAt_67 : decode cX9_looksAt 67 = .ok (.getfield 50, 3) := by decide +kernel
theorem dX9_looksAt_70 : decode cX9_looksAt 70 = .ok (.iload_n 2, 1) := by decide +kernel
theorem dX9_looksAt_71 : decode cX9_looksAt 71 = .ok (.iaload, 1) := by decide +kernel
theorem dX9_looksAt_72 : decode cX9_looksAt 72 = .ok (.goto 25, 3) := by decide +kernel
theorem dX9_looksAt_75 : decode cX9_looksAt 75 = .ok (.aload_n 0, 1) := by decide +kernel
theorem dX9_looksAt_76 : decode cX9_looksAt 76 = .ok (.getfield 47, 3) := by decide +kernel
theorem dX9_looksAt_79 : decode cX9_looksAt 79 = .ok (.iload_n 2, 1) := by decide +kernel
theorem dX9_looksAt_80 : decode cX9_looksAt 80 = .ok (.iaload, 1) := by decide +kernel
theorem dX9_looksAt_81 : decode cX9_looksAt 81 = .ok (.iload 5, 2) := by decide +kernel
theorem dX9_looksAt_83 : decode cX9_looksAt 83 = .ok (.if_icmp .le 12, 3) := by decide +kernel
theorem dX9_looksAt_86 : decode cX9_looksAt 86 = .ok (.aload_n 0, 1) := by decide +kernel
theorem dX9_looksAt_87 : decode cX9_looksAt 87 = .ok (.getfield 47, 3) := by decide +kernel
theorem dX9_looksAt_90 : decode cX9_looksAt 90 = .ok (.iload_n 2, 1) := by decide +kernel
theorem dX9_looksAt_91 : decode cX9_looksAt 91 = .ok (.iaload, 1) := by decide +kernel
theorem dX9_looksAt_92 : decode cX9_looksAt 92 = .ok (.goto 5, 3) := by decide +kernel
theorem dX9_looksAt_95 : decode cX9_looksAt 95 = .ok (.iload 5, 2) := by decide +kernel
theorem dX9_looksAt_97 : decode cX9_looksAt 97 = .ok (.istore 5, 2) := by decide +kernel
theorem dX9_looksAt_99 : decode cX9_looksAt 99 = .ok (.aload_n 0, 1) := by decide +kernel
theorem dX9_looksAt_100 : decode cX9_looksAt 100 = .ok (.getfield 41, 3) := by decide +kernel
theorem dX9_looksAt_103 : decode cX9_looksAt 103 = .ok (.iload_n 1, 1) := by decide +kernel
theorem dX9_looksAt_104 : decode cX9_looksAt 104 = .ok (.iaload, 1) := by decide +kernel
theorem dX9_looksAt_105 : decode cX9_looksAt 105 = .ok (.iload 5, 2) := by decide +kernel
theorem dX9_looksAt_107 : decode cX9_looksAt 107 = .ok (.if_icmp .le 15, 3) := by decide +kernel
theorem dX9_looksAt_110 : decode cX9_looksAt 110 = .ok (.aload_n 0, 1) := by decide +kernel
theorem dX9_looksAt_111 : decode cX9_looksAt 111 = .ok (.getfield 41, 3) := by decide +kernel
theorem dX9_looksAt_114 : decode cX9_looksAt 114 = .ok (.iload_n 1, 1) := by decide +kernel
theorem dX9_looksAt_115 : decode cX9_looksAt 115 = .ok (.iaload, 1) := by decide +kernel
theorem dX9_looksAt_116 : decode cX9_looksAt 116 = .ok (.iload 5, 2) := by decide +kernel
theorem dX9_looksAt_118 : decode cX9_looksAt 118 = .ok (.isub, 1) := by decide +kernel
theorem dX9_looksAt_119 : decode cX9_looksAt 119 = .ok (.goto 4, 3) := by decide +kernel
theorem dX9_looksAt_122 : decode cX9_looksAt 122 = .ok (.iconst 0, 1) := by decide +kernel
theorem dX9_looksAt_123 : decode cX9_looksAt 123 = .ok (.istore 6, 2) := by decide +kernel
theorem dX9_looksAt_125 : decode cX9_looksAt 125 = .ok (.aload_n 0, 1) := by decide +kernel
theorem dX9_looksAt_126 : decode cX9_looksAt 126 = .ok (.getfield 44, 3) := by decide +kernel
theorem dX9_looksAt_129 : decode cX9_looksAt 129 = .ok (.iload_n 1, 1) := by decide +kernel
theorem dX9_looksAt_130 : decode cX9_looksAt 130 = .ok (.aload_n 0, 1) := by decide +kernel
theorem dX9_looksAt_131 : decode cX9_looksAt 131 = .ok (.aload_n 0, 1) := by decide +kernel
theorem dX9_looksAt_132 : decode cX9_looksAt 132 = .ok (.getfield 38, 3) := by decide +kernel
theorem dX9_looksAt_135 : decode cX9_looksAt 135 = .ok (.iload_n 1, 1) := by decide +kernel
theorem dX9_looksAt_136 : decode cX9_looksAt 136 = .ok (.iaload, 1) := by decide +kernel
theorem dX9_looksAt_137 : decode cX9_looksAt 137 = .ok (.invokevirtual 121, 3) := by decide +kernel
theorem dX9_looksAt_140 : decode cX9_looksAt 140 = .ok (.ifCond .eq 7, 3) := by decide +kernel
theorem dX9_looksAt_143 : decode cX9_looksAt 143 = .ok (.iconst 1, 1) := by decide +kernel
theorem dX9_looksAt_144 : decode cX9_looksAt 144 = .ok (.goto 19, 3) := by decide +kernel
theorem dX9_looksAt_147 : decode cX9_looksAt 147 = .ok (.iload 6, 2) := by decide +kernel
theorem dX9_looksAt_149 : decode cX9_looksAt 149 = .ok (.aload_n 0, 1) := by decide +kernel
theorem dX9_looksAt_150 : decode cX9_looksAt 150 = .ok (.getfield 7, 3) := by decide +kernel
theorem dX9_looksAt_153 : decode cX9_looksAt 153 = .ok (.iconst 1, 1) := by decide +kernel
theorem dX9_looksAt_154 : decode cX9_looksAt 154 = .ok (.iaload, 1) := by decide +kernel
theorem dX9_looksAt_155 : decode cX9_looksAt 155 = .ok (.if_icmp .ge 7, 3) := by decide +kernel
theorem dX9_looksAt_158 : decode cX9_looksAt 158 = .ok (.iconst 2, 1) := by decide +kernel
theorem dX9_looksAt_159 : decode cX9_looksAt 159 = .ok (.goto 4, 3) := by decide +kernel
theorem dX9_looksAt_162 : decode cX9_looksAt 162 = .ok (.iconst 0, 1) := by decide +kernel
theorem dX9_looksAt_163 : decode cX9_looksAt 163 = .ok (.iastore, 1) := by decide +kernel
theorem dX9_looksAt_164 : decode cX9_looksAt 164 = .ok (.aload_n 0, 1) := by decide +kernel
theorem dX9_looksAt_165 : decode cX9_looksAt 165 = .ok (.getfield 44, 3) := by decide +kernel
theorem dX9_looksAt_168 : decode cX9_looksAt 168 = .ok (.iload_n 1, 1) := by decide +kernel
theorem dX9_looksAt_169 : decode cX9_looksAt 169 = .ok (.iaload, 1) := by decide +kernel
theorem dX9_looksAt_170 : decode cX9_looksAt 170 = .ok (.ifCond .eq 21, 3) := by decide +kernel
theorem dX9_looksAt_173 : decode cX9_looksAt 173 = .ok (.aload_n 0, 1) := by decide +kernel
theorem dX9_looksAt_174 : decode cX9_looksAt 174 = .ok (.getfield 47, 3) := by decide +kernel
theorem dX9_looksAt_177 : decode cX9_looksAt 177 = .ok (.iload_n 1, 1) := by decide +kernel
theorem dX9_looksAt_178 : decode cX9_looksAt 178 = .ok (.bipush (-6), 2) := by decide +kernel
theorem dX9_looksAt_180 : decode cX9_looksAt 180 = .ok (.iastore, 1) := by decide +kernel
theorem dX9_looksAt_181 : decode cX9_looksAt 181 = .ok (.aload_n 0, 1) := by decide +kernel
theorem dX9_looksAt_182 : decode cX9_looksAt 182 = .ok (.getfield 50, 3) := by decide +kernel
theorem dX9_looksAt_185 : decode cX9_looksAt 185 = .ok (.iload_n 1, 1) := by decide +kernel
theorem dX9_looksAt_186 : decode cX9_looksAt 186 = .ok (.bipush (-6), 2) := by decide +kernel
theorem dX9_looksAt_188 : decode cX9_looksAt 188 = .ok (.iastore, 1) := by decide +kernel
theorem dX9_looksAt_189 : decode cX9_looksAt 189 = .ok (.iconst 0, 1) := by decide +kernel
theorem dX9_looksAt_190 : decode cX9_looksAt 190 = .ok (.ireturn, 1) := by decide +kernel
theorem dX9_looksAt_191 : decode cX9_looksAt 191 = .ok (.iload_n 3, 1) := by decide +kernel
theorem dX9_looksAt_192 : decode cX9_looksAt 192 = .ok (.ifCond .eq 16, 3) := by decide +kernel
theorem dX9_looksAt_195 : decode cX9_looksAt 195 = .ok (.iload 4, 2) := by decide +kernel
theorem dX9_looksAt_197 : decode cX9_looksAt 197 = .ok (.ifCond .ne 11, 3) := by decide +kernel
theorem dX9_looksAt_200 : decode cX9_looksAt 200 = .ok (.aload_n 0, 1) := by decide +kernel
theorem dX9_looksAt_201 : decode cX9_looksAt 201 = .ok (.getfield 50, 3) := by decide +kernel
theorem dX9_looksAt_204 : decode cX9_looksAt 204 = .ok (.iload_n 2, 1) := by decide +kernel
theorem dX9_looksAt_205 : decode cX9_looksAt 205 = .ok (.iload 5, 2) := by decide +kernel
theorem dX9_looksAt_207 : decode cX9_looksAt 207 = .ok (.iastore, 1) := by decide +kernel
theorem dX9_looksAt_208 : decode cX9_looksAt 208 = .ok (.aload_n 0, 1) := by decide +kernel
theorem dX9_looksAt_209 : decode cX9_looksAt 209 = .ok (.getfield 47, 3) := by decide +kernel
theorem dX9_looksAt_212 : decode cX9_looksAt 212 = .ok (.iload_n 1, 1) := by decide +kernel
theorem dX9_looksAt_213 : decode cX9_looksAt 213 = .ok (.iload 5, 2) := by decide +kernel
theorem dX9_looksAt_215 : decode cX9_looksAt 215 = .ok (.iastore, 1) := by decide +kernel
theorem dX9_looksAt_216 : decode cX9_looksAt 216 = .ok (.aload_n 0, 1) := by decide +kernel
theorem dX9_looksAt_217 : decode cX9_looksAt 217 = .ok (.getfield 50, 3) := by decide +kernel
theorem dX9_looksAt_220 : decode cX9_looksAt 220 = .ok (.iload_n 1, 1) := by decide +kernel
theorem dX9_looksAt_221 : decode cX9_looksAt 221 = .ok (.iload 5, 2) := by decide +kernel
theorem dX9_looksAt_223 : decode cX9_looksAt 223 = .ok (.iload 6, 2) := by decide +kernel
theorem dX9_looksAt_225 : decode cX9_looksAt 225 = .ok (.iadd, 1) := by decide +kernel
theorem dX9_looksAt_226 : decode cX9_looksAt 226 = .ok (.iastore, 1) := by decide +kernel
theorem dX9_looksAt_227 : decode cX9_looksAt 227 = .ok (.iconst 1, 1) := by decide +kernel
theorem dX9_looksAt_228 : decode cX9_looksAt 228 = .ok (.ireturn, 1) := by decide +kernel
theorem dX9_withReason_0 : decode cX9_withReason 0 = .ok (.iconst 0, 1) := by decide +kernel
theorem dX9_withReason_1 : decode cX9_withReason 1 = .ok (.istore_n 2, 1) := by decide +kernel
theorem dX9_withReason_2 : decode cX9_withReason 2 = .ok (.iconst 0, 1) := by decide +kernel
theorem dX9_withReason_3 : decode cX9_withReason 3 = .ok (.istore_n 3, 1) := by decide +kernel
theorem dX9_withReason_4 : decode cX9_withReason 4 = .ok (.iload_n 3, 1) := by decide +kernel
theorem dX9_withReason_5 : decode cX9_withReason 5 = .ok (.aload_n 0, 1) := by decide +kernel
theorem dX9_withReason_6 : decode cX9_withReason 6 = .ok (.getfield 102, 3) := by decide +kernel
theorem dX9_withReason_9 : decode cX9_withReason 9 = .ok (.if_icmp .ge 27, 3) := by decide +kernel
theorem dX9_withReason_12 : decode cX9_withReason 12 = .ok (.iload_n 2, 1) := by decide +kernel
theorem dX9_withReason_13 : decode cX9_withReason 13 = .ok (.aload_n 0, 1) := by decide +kernel
theorem dX9_withReason_14 : decode cX9_withReason 14 = .ok (.getfield 44, 3) := by decide +kernel
theorem dX9_withReason_17 : decode cX9_withReason 17 = .ok (.iload_n 3, 1) := by decide +kernel
theorem dX9_withReason_18 : decode cX9_withReason 18 = .ok (.iaload, 1) := by decide +kernel
theorem dX9_withReason_19 : decode cX9_withReason 19 = .ok (.iload_n 1, 1) := by decide +kernel
theorem dX9_withReason_20 : decode cX9_withReason 20 = .ok (.if_icmp .ne 7, 3) := by decide +kernel
theorem dX9_withReason_23 : decode cX9_withReason 23 = .ok (.iconst 1, 1) := by decide +kernel
theorem dX9_withReason_24 : decode cX9_withReason 24 = .ok (.goto 4, 3) := by decide +kernel
theorem dX9_withReason_27 : decode cX9_withReason 27 = .ok (.iconst 0, 1) := by decide +kernel
theorem dX9_withReason_28 : decode cX9_withReason 28 = .ok (.iadd, 1) := by decide +kernel
theorem dX9_withReason_29 : decode cX9_withReason 29 = .ok (.istore_n 2, 1) := by decide +kernel
theorem dX9_withReason_30 : decode cX9_withReason 30 = .ok (.iinc 3 1, 3) := by decide +kernel
theorem dX9_withReason_33 : decode cX9_withReason 33 = .ok (.goto (-29), 3) := by decide +kernel
theorem dX9_withReason_36 : decode cX9_withReason 36 = .ok (.iload_n 2, 1) := by decide +kernel
theorem dX9_withReason_37 : decode cX9_withReason 37 = .ok (.ireturn, 1) := by decide +kernel
theorem dX9_titlesShown_0 : decode cX9_titlesShown 0 = .ok (.iconst 0, 1) := by decide +kernel
theorem dX9_titlesShown_1 : decode cX9_titlesShown 1 = .ok (.istore_n 1, 1) := by decide +kernel
theorem dX9_titlesShown_2 : decode cX9_titlesShown 2 = .ok (.iconst 0, 1) := by decide +kernel
theorem dX9_titlesShown_3 : decode cX9_titlesShown 3 = .ok (.istore_n 2, 1) := by decide +kernel
theorem dX9_titlesShown_4 : decode cX9_titlesShown 4 = .ok (.iload_n 2, 1) := by decide +kernel
theorem dX9_titlesShown_5 : decode cX9_titlesShown 5 = .ok (.aload_n 0, 1) := by decide +kernel
theorem dX9_titlesShown_6 : decode cX9_titlesShown 6 = .ok (.getfield 102, 3) := by decide +kernel
theorem dX9_titlesShown_9 : decode cX9_titlesShown 9 = .ok (.if_icmp .ge 33, 3) := by decide +kernel
theorem dX9_titlesShown_12 : decode cX9_titlesShown 12 = .ok (.iload_n 1, 1) := by decide +kernel
theorem dX9_titlesShown_13 : decode cX9_titlesShown 13 = .ok (.aload_n 0, 1) := by decide +kernel
theorem dX9_titlesShown_14 : decode cX9_titlesShown 14 = .ok (.getfield 44, 3) := by decide +kernel
theorem dX9_titlesShown_17 : decode cX9_titlesShown 17 = .ok (.iload_n 2, 1) := by decide +kernel
theorem dX9_titlesShown_18 : decode cX9_titlesShown 18 = .ok (.iaload, 1) := by decide +kernel
theorem dX9_titlesShown_19 : decode cX9_titlesShown 19 = .ok (.ifCond .ne 14, 3) := by decide +kernel
theorem dX9_titlesShown_22 : decode cX9_titlesShown 22 = .ok (.iconst 1, 1) := by decide +kernel
theorem dX9_titlesShown_23 : decode cX9_titlesShown 23 = .ok (.aload_n 0, 1) := by decide +kernel
theorem dX9_titlesShown_24 : decode cX9_titlesShown 24 = .ok (.getfield 32, 3) := by decide +kernel
theorem dX9_titlesShown_27 : decode cX9_titlesShown 27 = .ok (.iload_n 2, 1) := by decide +kernel
theorem dX9_titlesShown_28 : decode cX9_titlesShown 28 = .ok (.iaload, 1) := by decide +kernel
theorem dX9_titlesShown_29 : decode cX9_titlesShown 29 = .ok (.ishl, 1) := by decide +kernel
theorem dX9_titlesShown_30 : decode cX9_titlesShown 30 = .ok (.goto 4, 3) := by decide +kernel
theorem dX9_titlesShown_33 : decode cX9_titlesShown 33 = .ok (.iconst 0, 1) := by decide +kernel
theorem dX9_titlesShown_34 : decode cX9_titlesShown 34 = .ok (.ior, 1) := by decide +kernel
theorem dX9_titlesShown_35 : decode cX9_titlesShown 35 = .ok (.istore_n 1, 1) := by decide +kernel
theorem dX9_titlesShown_36 : decode cX9_titlesShown 36 = .ok (.iinc 2 1, 3) := by decide +kernel
theorem dX9_titlesShown_39 : decode cX9_titlesShown 39 = .ok (.goto (-35), 3) := by decide +kernel
theorem dX9_titlesShown_42 : decode cX9_titlesShown 42 = .ok (.iload_n 1, 1) := by decide +kernel
theorem dX9_titlesShown_43 : decode cX9_titlesShown 43 = .ok (.ireturn, 1) := by decide +kernel
theorem dX9_isBeyond_0 : decode cX9_isBeyond 0 = .ok (.iconst 0, 1) := by decide +kernel
theorem dX9_isBeyond_1 : decode cX9_isBeyond 1 = .ok (.istore_n 2, 1) := by decide +kernel
theorem dX9_isBeyond_2 : decode cX9_isBeyond 2 = .ok (.iconst 0, 1) := by decide +kernel
theorem dX9_isBeyond_3 : decode cX9_isBeyond 3 = .ok (.istore_n 3, 1) := by decide +kernel
theorem dX9_isBeyond_4 : decode cX9_isBeyond 4 = .ok (.iload_n 3, 1) := by decide +kernel
theorem dX9_isBeyond_5 : decode cX9_isBeyond 5 = .ok (.aload_n 0, 1) := by decide +kernel
theorem dX9_isBeyond_6 : decode cX9_isBeyond 6 = .ok (.getfield 7, 3) := by decide +kernel
theorem dX9_isBeyond_9 : decode cX9_isBeyond 9 = .ok (.iconst 2, 1) := by decide +kernel
theorem dX9_isBeyond_10 : decode cX9_isBeyond 10 = .ok (.iaload, 1) := by decide +kernel
theorem dX9_isBeyond_11 : decode cX9_isBeyond 11 = .ok (.if_icmp .ge 36, 3) := by decide +kernel
theorem dX9_isBeyond_14 : decode cX9_isBeyond 14 = .ok (.iload_n 2, 1) := by decide +kernel
theorem dX9_isBeyond_15 : decode cX9_isBeyond 15 = .ok (.ifCond .ne 20, 3) := by decide +kernel
theorem dX9_isBeyond_18 : decode cX9_isBeyond 18 = .ok (.aload_n 0, 1) := by decide +kernel
theorem dX9_isBeyond_19 : decode cX9_isBeyond 19 = .ok (.getfield 7, 3) := by decide +kernel
theorem dX9_isBeyond_22 : decode cX9_isBeyond 22 = .ok (.bipush 126, 2) := by decide +kernel
theorem dX9_isBeyond_24 : decode cX9_isBeyond 24 = .ok (.iconst 2, 1) := by decide +kernel
theorem dX9_isBeyond_25 : decode cX9_isBeyond 25 = .ok (.iload_n 3, 1) := by decide +kernel
theorem dX9_isBeyond_26 : decode cX9_isBeyond 26 = .ok (.imul, 1) := by decide +kernel
theorem dX9_isBeyond_27 : decode cX9_isBeyond 27 = .ok (.iadd, 1) := by decide +kernel
theorem dX9_isBeyond_28 : decode cX9_isBeyond 28 = .ok (.iconst 1, 1) := by decide +kernel
theorem dX9_isBeyond_29 : decode cX9_isBeyond 29 = .ok (.iadd, 1) := by decide +kernel
theorem dX9_isBeyond_30 : decode cX9_isBeyond 30 = .ok (.iaload, 1) := by decide +kernel
theorem dX9_isBeyond_31 : decode cX9_isBeyond 31 = .ok (.iload_n 1, 1) := by decide +kernel
theorem dX9_isBeyond_32 : decode cX9_isBeyond 32 = .ok (.if_icmp .lt 7, 3) := by decide +kernel
theorem dX9_isBeyond_35 : decode cX9_isBeyond 35 = .ok (.iconst 1, 1) := by decide +kernel
theorem dX9_isBeyond_36 : decode cX9_isBeyond 36 = .ok (.goto 4, 3) := by decide +kernel
theorem dX9_isBeyond_39 : decode cX9_isBeyond 39 = .ok (.iconst 0, 1) := by decide +kernel
theorem dX9_isBeyond_40 : decode cX9_isBeyond 40 = .ok (.istore_n 2, 1) := by decide +kernel
theorem dX9_isBeyond_41 : decode cX9_isBeyond 41 = .ok (.iinc 3 1, 3) := by decide +kernel
theorem dX9_isBeyond_44 : decode cX9_isBeyond 44 = .ok (.goto (-40), 3) := by decide +kernel
theorem dX9_isBeyond_47 : decode cX9_isBeyond 47 = .ok (.iconst 0, 1) := by decide +kernel
theorem dX9_isBeyond_48 : decode cX9_isBeyond 48 = .ok (.istore_n 3, 1) := by decide +kernel
theorem dX9_isBeyond_49 : decode cX9_isBeyond 49 = .ok (.iload_n 3, 1) := by decide +kernel
theorem dX9_isBeyond_50 : decode cX9_isBeyond 50 = .ok (.aload_n 0, 1) := by decide +kernel
theorem dX9_isBeyond_51 : decode cX9_isBeyond 51 = .ok (.getfield 7, 3) := by decide +kernel
theorem dX9_isBeyond_54 : decode cX9_isBeyond 54 = .ok (.iconst 3, 1) := by decide +kernel
theorem dX9_isBeyond_55 : decode cX9_isBeyond 55 = .ok (.iaload, 1) := by decide +kernel
theorem dX9_isBeyond_56 : decode cX9_isBeyond 56 = .ok (.if_icmp .ge 37, 3) := by decide +kernel
theorem dX9_isBeyond_59 : decode cX9_isBeyond 59 = .ok (.iload_n 2, 1) := by decide +kernel
theorem dX9_isBeyond_60 : decode cX9_isBeyond 60 = .ok (.ifCond .ne 21, 3) := by decide +kernel
theorem dX9_isBeyond_63 : decode cX9_isBeyond 63 = .ok (.aload_n 0, 1) := by decide +kernel
theorem dX9_isBeyond_64 : decode cX9_isBeyond 64 = .ok (.getfield 7, 3) := by decide +kernel
theorem dX9_isBeyond_67 : decode cX9_isBeyond 67 = .ok (.sipush 134, 3) := by decide +kernel
theorem dX9_isBeyond_70 : decode cX9_isBeyond 70 = .ok (.iconst 2, 1) := by decide +kernel
theorem dX9_isBeyond_71 : decode cX9_isBeyond 71 = .ok (.iload_n 3, 1) := by decide +kernel
theorem dX9_isBeyond_72 : decode cX9_isBeyond 72 = .ok (.imul, 1) := by decide +kernel
theorem dX9_isBeyond_73 : decode cX9_isBeyond 73 = .ok (.iadd, 1) := by decide +kernel
theorem dX9_isBeyond_74 : decode cX9_isBeyond 74 = .ok (.iconst 1, 1) := by decide +kernel
theorem dX9_isBeyond_75 : decode cX9_isBeyond 75 = .ok (.iadd, 1) := by decide +kernel
theorem dX9_isBeyond_76 : decode cX9_isBeyond 76 = .ok (.iaload, 1) := by decide +kernel
theorem dX9_isBeyond_77 : decode cX9_isBeyond 77 = .ok (.iload_n 1, 1) := by decide +kernel
theorem dX9_isBeyond_78 : decode cX9_isBeyond 78 = .ok (.if_icmp .lt 7, 3) := by decide +kernel
theorem dX9_isBeyond_81 : decode cX9_isBeyond 81 = .ok (.iconst 1, 1) := by decide +kernel
theorem dX9_isBeyond_82 : decode cX9_isBeyond 82 = .ok (.goto 4, 3) := by decide +kernel
theorem dX9_isBeyond_85 : decode cX9_isBeyond 85 = .ok (.iconst 0, 1) := by decide +kernel
theorem dX9_isBeyond_86 : decode cX9_isBeyond 86 = .ok (.istore_n 2, 1) := by decide +kernel
theorem dX9_isBeyond_87 : decode cX9_isBeyond 87 = .ok (.iinc 3 1, 3) := by decide +kernel
theorem dX9_isBeyond_90 : decode cX9_isBeyond 90 = .ok (.goto (-41), 3) := by decide +kernel
theorem dX9_isBeyond_93 : decode cX9_isBeyond 93 = .ok (.iconst 0, 1) := by decide +kernel
theorem dX9_isBeyond_94 : decode cX9_isBeyond 94 = .ok (.istore_n 3, 1) := by decide +kernel
theorem dX9_isBeyond_95 : decode cX9_isBeyond 95 = .ok (.iload_n 3, 1) := by decide +kernel
theorem dX9_isBeyond_96 : decode cX9_isBeyond 96 = .ok (.aload_n 0, 1) := by decide +kernel
theorem dX9_isBeyond_97 : decode cX9_isBeyond 97 = .ok (.getfield 7, 3) := by decide +kernel
theorem dX9_isBeyond_100 : decode cX9_isBeyond 100 = .ok (.iconst 5, 1) := by decide +kernel
theorem dX9_isBeyond_101 : decode cX9_isBeyond 101 = .ok (.iaload, 1) := by decide +kernel
theorem dX9_isBeyond_102 : decode cX9_isBeyond 102 = .ok (.if_icmp .ge 29, 3) := by decide +kernel
theorem dX9_isBeyond_105 : decode cX9_isBeyond 105 = .ok (.iload_n 2, 1) := by decide +kernel
theorem dX9_isBeyond_106 : decode cX9_isBeyond 106 = .ok (.ifCond .ne 13, 3) := by decide +kernel
theorem dX9_isBeyond_109 : decode cX9_isBeyond 109 = .ok (.aload_n 0, 1) := by decide +kernel
theorem dX9_isBeyond_110 : decode cX9_isBeyond 110 = .ok (.iload_n 3, 1) := by decide +kernel
theorem dX9_isBeyond_111 : decode cX9_isBeyond 111 = .ok (.iconst 1, 1) := by decide +kernel
theorem dX9_isBeyond_112 : decode cX9_isBeyond 112 = .ok (.invokevirtual 89, 3) := by decide +kernel
theorem dX9_isBeyond_115 : decode cX9_isBeyond 115 = .ok (.iload_n 1, 1) := by decide +kernel
theorem dX9_isBeyond_116 : decode cX9_isBeyond 116 = .ok (.if_icmp .lt 7, 3) := by decide +kernel
theorem dX9_isBeyond_119 : decode cX9_isBeyond 119 = .ok (.iconst 1, 1) := by decide +kernel
theorem dX9_isBeyond_120 : decode cX9_isBeyond 120 = .ok (.goto 4, 3) := by decide +kernel
theorem dX9_isBeyond_123 : decode cX9_isBeyond 123 = .ok (.iconst 0, 1) := by decide +kernel
theorem dX9_isBeyond_124 : decode cX9_isBeyond 124 = .ok (.istore_n 2, 1) := by decide +kernel
theorem dX9_isBeyond_125 : decode cX9_isBeyond 125 = .ok (.iinc 3 1, 3) := by decide +kernel
theorem dX9_isBeyond_128 : decode cX9_isBeyond 128 = .ok (.goto (-33), 3) := by decide +kernel
theorem dX9_isBeyond_131 : decode cX9_isBeyond 131 = .ok (.iload_n 2, 1) := by decide +kernel
theorem dX9_isBeyond_132 : decode cX9_isBeyond 132 = .ok (.ireturn, 1) := by decide +kernel
theorem dX9_bars_0 : decode cX9_bars 0 = .ok (.aload_n 0, 1) := by decide +kernel
theorem dX9_bars_1 : decode cX9_bars 1 = .ok (.iconst 0, 1) := by decide +kernel
theorem dX9_bars_2 : decode cX9_bars 2 = .ok (.putfield 56, 3) := by decide +kernel
theorem dX9_bars_5 : decode cX9_bars 5 = .ok (.iload_n 1, 1) := by decide +kernel
theorem dX9_bars_6 : decode cX9_bars 6 = .ok (.iconst 1, 1) := by decide +kernel
theorem dX9_bars_7 : decode cX9_bars 7 = .ok (.bipush 60, 2) := by decide +kernel
theorem dX9_bars_9 : decode cX9_bars 9 = .ok (.invokestatic 60, 3) := by decide +kernel
theorem dX9_bars_12 : decode cX9_bars 12 = .ok (.ifCond .ne 6, 3) := by decide +kernel
theorem dX9_bars_15 : decode cX9_bars 15 = .ok (.bipush (-2), 2) := by decide +kernel
theorem dX9_bars_17 : decode cX9_bars 17 = .ok (.ireturn, 1) := by decide +kernel
theorem dX9_bars_18 : decode cX9_bars 18 = .ok (.aload_n 0, 1) := by decide +kernel
theorem dX9_bars_19 : decode cX9_bars 19 = .ok (.iload_n 1, 1) := by decide +kernel
theorem dX9_bars_20 : decode cX9_bars 20 = .ok (.invokevirtual 124, 3) := by decide +kernel
theorem dX9_bars_23 : decode cX9_bars 23 = .ok (.ifCond .eq 6, 3) := by decide +kernel
theorem dX9_bars_26 : decode cX9_bars 26 = .ok (.bipush (-5), 2) := by decide +kernel
theorem dX9_bars_28 : decode cX9_bars 28 = .ok (.ireturn, 1) := by decide +kernel
theorem dX9_bars_29 : decode cX9_bars 29 = .ok (.aload_n 0, 1) := by decide +kernel
theorem dX9_bars_30 : decode cX9_bars 30 = .ok (.invokevirtual 127, 3) := by decide +kernel
theorem dX9_bars_33 : decode cX9_bars 33 = .ok (.aload_n 0, 1) := by decide +kernel
theorem dX9_bars_34 : decode cX9_bars 34 = .ok (.getfield 7, 3) := by decide +kernel
theorem dX9_bars_37 : decode cX9_bars 37 = .ok (.iconst 0, 1) := by decide +kernel
theorem dX9_bars_38 : decode cX9_bars 38 = .ok (.iaload, 1) := by decide +kernel
theorem dX9_bars_39 : decode cX9_bars 39 = .ok (.istore_n 2, 1) := by decide +kernel
theorem dX9_bars_40 : decode cX9_bars 40 = .ok (.aload_n 0, 1) := by decide +kernel
theorem dX9_bars_41 : decode cX9_bars 41 = .ok (.getfield 7, 3) := by decide +kernel
theorem dX9_bars_44 : decode cX9_bars 44 = .ok (.iconst 0, 1) := by decide +kernel
theorem dX9_bars_45 : decode cX9_bars 45 = .ok (.iload_n 1, 1) := by decide +kernel
theorem dX9_bars_46 : decode cX9_bars 46 = .ok (.iastore, 1) := by decide +kernel
theorem dX9_bars_47 : decode cX9_bars 47 = .ok (.iload_n 2, 1) := by decide +kernel
theorem dX9_bars_48 : decode cX9_bars 48 = .ok (.ireturn, 1) := by decide +kernel
theorem dX9_shortest_0 : decode cX9_shortest 0 = .ok (.aload_n 0, 1) := by decide +kernel
theorem dX9_shortest_1 : decode cX9_shortest 1 = .ok (.iconst 0, 1) := by decide +kernel
theorem dX9_shortest_2 : decode cX9_shortest 2 = .ok (.putfield 56, 3) := by decide +kernel
theorem dX9_shortest_5 : decode cX9_shortest 5 = .ok (.iload_n 1, 1) := by decide +kernel
theorem dX9_shortest_6 : decode cX9_shortest 6 = .ok (.iconst 0, 1) := by decide +kernel
theorem dX9_shortest_7 : decode cX9_shortest 7 = .ok (.bipush 50, 2) := by decide +kernel
theorem dX9_shortest_9 : decode cX9_shortest 9 = .ok (.invokestatic 60, 3) := by decide +kernel
theorem dX9_shortest_12 : decode cX9_shortest 12 = .ok (.ifCond .ne 6, 3) := by decide +kernel
theorem dX9_shortest_15 : decode cX9_shortest 15 = .ok (.bipush (-2), 2) := by decide +kernel
theorem dX9_shortest_17 : decode cX9_shortest 17 = .ok (.ireturn, 1) := by decide +kernel
theorem dX9_shortest_18 : decode cX9_shortest 18 = .ok (.aload_n 0, 1) := by decide +kernel
theorem dX9_shortest_19 : decode cX9_shortest 19 = .ok (.invokevirtual 127, 3) := by decide +kernel
theorem dX9_shortest_22 : decode cX9_shortest 22 = .ok (.aload_n 0, 1) := by decide +kernel
theorem dX9_shortest_23 : decode cX9_shortest 23 = .ok (.getfield 7, 3) := by decide +kernel
theorem dX9_shortest_26 : decode cX9_shortest 26 = .ok (.iconst 1, 1) := by decide +kernel
theorem dX9_shortest_27 : decode cX9_shortest 27 = .ok (.iaload, 1) := by decide +kernel
theorem dX9_shortest_28 : decode cX9_shortest 28 = .ok (.istore_n 2, 1) := by decide +kernel
theorem dX9_shortest_29 : decode cX9_shortest 29 = .ok (.aload_n 0, 1) := by decide +kernel
theorem dX9_shortest_30 : decode cX9_shortest 30 = .ok (.getfield 7, 3) := by decide +kernel
theorem dX9_shortest_33 : decode cX9_shortest 33 = .ok (.iconst 1, 1) := by decide +kernel
theorem dX9_shortest_34 : decode cX9_shortest 34 = .ok (.iload_n 1, 1) := by decide +kernel
theorem dX9_shortest_35 : decode cX9_shortest 35 = .ok (.iastore, 1) := by decide +kernel
theorem dX9_shortest_36 : decode cX9_shortest 36 = .ok (.iload_n 2, 1) := by decide +kernel
theorem dX9_shortest_37 : decode cX9_shortest 37 = .ok (.ireturn, 1) := by decide +kernel
theorem dX9_refusesBar_0 : decode cX9_refusesBar 0 = .ok (.aload_n 0, 1) := by decide +kernel
theorem dX9_refusesBar_1 : decode cX9_refusesBar 1 = .ok (.iload_n 1, 1) := by decide +kernel
theorem dX9_refusesBar_2 : decode cX9_refusesBar 2 = .ok (.invokevirtual 130, 3) := by decide +kernel
theorem dX9_refusesBar_5 : decode cX9_refusesBar 5 = .ok (.ifCond .ne 5, 3) := by decide +kernel
theorem dX9_refusesBar_8 : decode cX9_refusesBar 8 = .ok (.iconst (-1), 1) := by decide +kernel
theorem dX9_refusesBar_9 : decode cX9_refusesBar 9 = .ok (.ireturn, 1) := by decide +kernel
theorem dX9_refusesBar_10 : decode cX9_refusesBar 10 = .ok (.iload_n 2, 1) := by decide +kernel
theorem dX9_refusesBar_11 : decode cX9_refusesBar 11 = .ok (.iconst 1, 1) := by decide +kernel
theorem dX9_refusesBar_12 : decode cX9_refusesBar 12 = .ok (.bipush 12, 2) := by decide +kernel
theorem dX9_refusesBar_14 : decode cX9_refusesBar 14 = .ok (.invokestatic 60, 3) := by decide +kernel
theorem dX9_refusesBar_17 : decode cX9_refusesBar 17 = .ok (.ifCond .eq 19, 3) := by decide +kernel
theorem dX9_refusesBar_20 : decode cX9_refusesBar 20 = .ok (.iload_n 3, 1) := by decide +kernel
theorem dX9_refusesBar_21 : decode cX9_refusesBar 21 = .ok (.bipush 20, 2) := by decide +kernel
theorem dX9_refusesBar_23 : decode cX9_refusesBar 23 = .ok (.sipush 240, 3) := by decide +kernel
theorem dX9_refusesBar_26 : decode cX9_refusesBar 26 = .ok (.invokestatic 60, 3) := by decide +kernel
theorem dX9_refusesBar_29 : decode cX9_refusesBar 29 = .ok (.ifCond .eq 7, 3) := by decide +kernel
theorem dX9_refusesBar_32 : decode cX9_refusesBar 32 = .ok (.iconst 0, 1) := by decide +kernel
theorem dX9_refusesBar_33 : decode cX9_refusesBar 33 = .ok (.goto 5, 3) := by decide +kernel
theorem dX9_refusesBar_36 : decode cX9_refusesBar 36 = .ok (.bipush (-2), 2) := by decide +kernel
theorem dX9_refusesBar_38 : decode cX9_refusesBar 38 = .ok (.ireturn, 1) := by decide +kernel
theorem dX9_laysBar_0 : decode cX9_laysBar 0 = .ok (.aload_n 0, 1) := by decide +kernel
theorem dX9_laysBar_1 : decode cX9_laysBar 1 = .ok (.getfield 7, 3) := by decide +kernel
theorem dX9_laysBar_4 : decode cX9_laysBar 4 = .ok (.bipush 6, 2) := by decide +kernel
theorem dX9_laysBar_6 : decode cX9_laysBar 6 = .ok (.iload_n 1, 1) := by decide +kernel
theorem dX9_laysBar_7 : decode cX9_laysBar 7 = .ok (.iadd, 1) := by decide +kernel
theorem dX9_laysBar_8 : decode cX9_laysBar 8 = .ok (.iload_n 2, 1) := by decide +kernel
theorem dX9_laysBar_9 : decode cX9_laysBar 9 = .ok (.iastore, 1) := by decide +kernel
theorem dX9_laysBar_10 : decode cX9_laysBar 10 = .ok (.aload_n 0, 1) := by decide +kernel
theorem dX9_laysBar_11 : decode cX9_laysBar 11 = .ok (.getfield 7, 3) := by decide +kernel
theorem dX9_laysBar_14 : decode cX9_laysBar 14 = .ok (.bipush 66, 2) := by decide +kernel
theorem dX9_laysBar_16 : decode cX9_laysBar 16 = .ok (.iload_n 1, 1) := by decide +kernel
theorem dX9_laysBar_17 : decode cX9_laysBar 17 = .ok (.iadd, 1) := by decide +kernel
theorem dX9_laysBar_18 : decode cX9_laysBar 18 = .ok (.iload_n 3, 1) := by decide +kernel
theorem dX9_laysBar_19 : decode cX9_laysBar 19 = .ok (.iastore, 1) := by decide +kernel
theorem dX9_laysBar_20 : decode cX9_laysBar 20 = .ok (.return_, 1) := by decide +kernel
theorem dX9_bar_0 : decode cX9_bar 0 = .ok (.aload_n 0, 1) := by decide +kernel
theorem dX9_bar_1 : decode cX9_bar 1 = .ok (.iconst 0, 1) := by decide +kernel
theorem dX9_bar_2 : decode cX9_bar 2 = .ok (.putfield 56, 3) := by decide +kernel
theorem dX9_bar_5 : decode cX9_bar 5 = .ok (.aload_n 0, 1) := by decide +kernel
theorem dX9_bar_6 : decode cX9_bar 6 = .ok (.iload_n 1, 1) := by decide +kernel
theorem dX9_bar_7 : decode cX9_bar 7 = .ok (.iload_n 2, 1) := by decide +kernel
theorem dX9_bar_8 : decode cX9_bar 8 = .ok (.iload_n 3, 1) := by decide +kernel
theorem dX9_bar_9 : decode cX9_bar 9 = .ok (.invokevirtual 133, 3) := by decide +kernel
theorem dX9_bar_12 : decode cX9_bar 12 = .ok (.istore 4, 2) := by decide +kernel
theorem dX9_bar_14 : decode cX9_bar 14 = .ok (.iload 4, 2) := by decide +kernel
theorem dX9_bar_16 : decode cX9_bar 16 = .ok (.ifCond .eq 6, 3) := by decide +kernel
theorem dX9_bar_19 : decode cX9_bar 19 = .ok (.iload 4, 2) := by decide +kernel
theorem dX9_bar_21 : decode cX9_bar 21 = .ok (.ireturn, 1) := by decide +kernel
theorem dX9_bar_22 : decode cX9_bar 22 = .ok (.aload_n 0, 1) := by decide +kernel
theorem dX9_bar_23 : decode cX9_bar 23 = .ok (.invokevirtual 127, 3) := by decide +kernel
theorem dX9_bar_26 : decode cX9_bar 26 = .ok (.aload_n 0, 1) := by decide +kernel
theorem dX9_bar_27 : decode cX9_bar 27 = .ok (.iload_n 1, 1) := by decide +kernel
theorem dX9_bar_28 : decode cX9_bar 28 = .ok (.iload_n 2, 1) := by decide +kernel
theorem dX9_bar_29 : decode cX9_bar 29 = .ok (.iload_n 3, 1) := by decide +kernel
theorem dX9_bar_30 : decode cX9_bar 30 = .ok (.invokevirtual 137, 3) := by decide +kernel
theorem dX9_bar_33 : decode cX9_bar 33 = .ok (.aload_n 0, 1) := by decide +kernel
theorem dX9_bar_34 : decode cX9_bar 34 = .ok (.iload_n 1, 1) := by decide +kernel
theorem dX9_bar_35 : decode cX9_bar 35 = .ok (.invokevirtual 77, 3) := by decide +kernel
theorem dX9_bar_38 : decode cX9_bar 38 = .ok (.ireturn, 1) := by decide +kernel
theorem dX9_refusesSpan_0 : decode cX9_refusesSpan 0 = .ok (.aload_n 0, 1) := by decide +kernel
theorem dX9_refusesSpan_1 : decode cX9_refusesSpan 1 = .ok (.iload_n 1, 1) := by decide +kernel
theorem dX9_refusesSpan_2 : decode cX9_refusesSpan 2 = .ok (.invokevirtual 130, 3) := by decide +kernel
theorem dX9_refusesSpan_5 : decode cX9_refusesSpan 5 = .ok (.ifCond .eq 11, 3) := by decide +kernel
theorem dX9_refusesSpan_8 : decode cX9_refusesSpan 8 = .ok (.aload_n 0, 1) := by decide +kernel
theorem dX9_refusesSpan_9 : decode cX9_refusesSpan 9 = .ok (.iload_n 2, 1) := by decide +kernel
theorem dX9_refusesSpan_10 : decode cX9_refusesSpan 10 = .ok (.invokevirtual 130, 3) := by decide +kernel
theorem dX9_refusesSpan_13 : decode cX9_refusesSpan 13 = .ok (.ifCond .ne 5, 3) := by decide +kernel
theorem dX9_refusesSpan_16 : decode cX9_refusesSpan 16 = .ok (.iconst (-1), 1) := by decide +kernel
theorem dX9_refusesSpan_17 : decode cX9_refusesSpan 17 = .ok (.ireturn, 1) := by decide +kernel
theorem dX9_refusesSpan_18 : decode cX9_refusesSpan 18 = .ok (.iload_n 2, 1) := by decide +kernel
theorem dX9_refusesSpan_19 : decode cX9_refusesSpan 19 = .ok (.iload_n 1, 1) := by decide +kernel
theorem dX9_refusesSpan_20 : decode cX9_refusesSpan 20 = .ok (.if_icmp .ge 6, 3) := by decide +kernel
theorem dX9_refusesSpan_23 : decode cX9_refusesSpan 23 = .ok (.bipush (-2), 2) := by decide +kernel
theorem dX9_refusesSpan_25 : decode cX9_refusesSpan 25 = .ok (.ireturn, 1) := by decide +kernel
theorem dX9_refusesSpan_26 : decode cX9_refusesSpan 26 = .ok (.aload_n 0, 1) := by decide +kernel
theorem dX9_refusesSpan_27 : decode cX9_refusesSpan 27 = .ok (.getfield 7, 3) := by decide +kernel
theorem dX9_refusesSpan_30 : decode cX9_refusesSpan 30 = .ok (.iload_n 3, 1) := by decide +kernel
theorem dX9_refusesSpan_31 : decode cX9_refusesSpan 31 = .ok (.iaload, 1) := by decide +kernel
theorem dX9_refusesSpan_32 : decode cX9_refusesSpan 32 = .ok (.iconst 4, 1) := by decide +kernel
theorem dX9_refusesSpan_33 : decode cX9_refusesSpan 33 = .ok (.if_icmp .ne 8, 3) := by decide +kernel
theorem dX9_refusesSpan_36 : decode cX9_refusesSpan 36 = .ok (.bipush (-4), 2) := by decide +kernel
theorem dX9_refusesSpan_38 : decode cX9_refusesSpan 38 = .ok (.goto 4, 3) := by decide +kernel
theorem dX9_refusesSpan_41 : decode cX9_refusesSpan 41 = .ok (.iconst 0, 1) := by decide +kernel
theorem dX9_refusesSpan_42 : decode cX9_refusesSpan 42 = .ok (.ireturn, 1) := by decide +kernel
theorem dX9_refusesRepeat_0 : decode cX9_refusesRepeat 0 = .ok (.aload_n 0, 1) := by decide +kernel
theorem dX9_refusesRepeat_1 : decode cX9_refusesRepeat 1 = .ok (.iload_n 1, 1) := by decide +kernel
theorem dX9_refusesRepeat_2 : decode cX9_refusesRepeat 2 = .ok (.iload_n 2, 1) := by decide +kernel
theorem dX9_refusesRepeat_3 : decode cX9_refusesRepeat 3 = .ok (.iconst 2, 1) := by decide +kernel
theorem dX9_refusesRepeat_4 : decode cX9_refusesRepeat 4 = .ok (.invokevirtual 141, 3) := by decide +kernel
theorem dX9_refusesRepeat_7 : decode cX9_refusesRepeat 7 = .ok (.istore_n 3, 1) := by decide +kernel
theorem dX9_refusesRepeat_8 : decode cX9_refusesRepeat 8 = .ok (.iconst 0, 1) := by decide +kernel
theorem dX9_refusesRepeat_9 : decode cX9_refusesRepeat 9 = .ok (.istore 4, 2) := by decide +kernel
theorem dX9_refusesRepeat_11 : decode cX9_refusesRepeat 11 = .ok (.iload 4, 2) := by decide +kernel
theorem dX9_refusesRepeat_13 : decode cX9_refusesRepeat 13 = .ok (.aload_n 0, 1) := by decide +kernel
theorem dX9_refusesRepeat_14 : decode cX9_refusesRepeat 14 = .ok (.getfield 7, 3) := by decide +kernel
theorem dX9_refusesRepeat_17 : decode cX9_refusesRepeat 17 = .ok (.iconst 2, 1) := by decide +kernel
theorem dX9_refusesRepeat_18 : decode cX9_refusesRepeat 18 = .ok (.iaload, 1) := by decide +kernel
theorem dX9_refusesRepeat_19 : decode cX9_refusesRepeat 19 = .ok (.if_icmp .ge 54, 3) := by decide +kernel
theorem dX9_refusesRepeat_22 : decode cX9_refusesRepeat 22 = .ok (.iload_n 3, 1) := by decide +kernel
theorem dX9_refusesRepeat_23 : decode cX9_refusesRepeat 23 = .ok (.ifCond .ne 50, 3) := by decide +kernel
theorem dX9_refusesRepeat_26 : decode cX9_refusesRepeat 26 = .ok (.iload_n 1, 1) := by decide +kernel
theorem dX9_refusesRepeat_27 : decode cX9_refusesRepeat 27 = .ok (.aload_n 0, 1) := by decide +kernel
theorem dX9_refusesRepeat_28 : decode cX9_refusesRepeat 28 = .ok (.getfield 7, 3) := by decide +kernel
theorem dX9_refusesRepeat_31 : decode cX9_refusesRepeat 31 = .ok (.bipush 126, 2) := by decide +kernel
theorem dX9_refusesRepeat_33 : decode cX9_refusesRepeat 33 = .ok (.iconst 2, 1) := by decide +kernel
theorem dX9_refusesRepeat_34 : decode cX9_refusesRepeat 34 = .ok (.iload 4, 2) := by decide +kernel
theorem dX9_refusesRepeat_36 : decode cX9_refusesRepeat 36 = .ok (.imul, 1) := by decide +kernel
theorem dX9_refusesRepeat_37 : decode cX9_refusesRepeat 37 = .ok (.iadd, 1) := by decide +kernel
theorem dX9_refusesRepeat_38 : decode cX9_refusesRepeat 38 = .ok (.iconst 1, 1) := by decide +kernel
theorem dX9_refusesRepeat_39 : decode cX9_refusesRepeat 39 = .ok (.iadd, 1) := by decide +kernel
theorem dX9_refusesRepeat_40 : decode cX9_refusesRepeat 40 = .ok (.iaload, 1) := by decide +kernel
theorem dX9_refusesRepeat_41 : decode cX9_refusesRepeat 41 = .ok (.if_icmp .gt 24, 3) := by decide +kernel
theorem dX9_refusesRepeat_44 : decode cX9_refusesRepeat 44 = .ok (.iload_n 2, 1) := by decide +kernel
theorem dX9_refusesRepeat_45 : decode cX9_refusesRepeat 45 = .ok (.aload_n 0, 1) := by decide +kernel
theorem dX9_refusesRepeat_46 : decode cX9_refusesRepeat 46 = .ok (.getfield 7, 3) := by decide +kernel
theorem dX9_refusesRepeat_49 : decode cX9_refusesRepeat 49 = .ok (.bipush 126, 2) := by decide +kernel
theorem dX9_refusesRepeat_51 : decode cX9_refusesRepeat 51 = .ok (.iconst 2, 1) := by decide +kernel
theorem dX9_refusesRepeat_52 : decode cX9_refusesRepeat 52 = .ok (.iload 4, 2) := by decide +kernel
theorem dX9_refusesRepeat_54 : decode cX9_refusesRepeat 54 = .ok (.imul, 1) := by decide +kernel
theorem dX9_refusesRepeat_55 : decode cX9_refusesRepeat 55 = .ok (.iadd, 1) := by decide +kernel
theorem dX9_refusesRepeat_56 : decode cX9_refusesRepeat 56 = .ok (.iaload, 1) := by decide +kernel
theorem dX9_refusesRepeat_57 : decode cX9_refusesRepeat 57 = .ok (.if_icmp .lt 8, 3) := by decide +kernel
theorem dX9_refusesRepeat_60 : decode cX9_refusesRepeat 60 = .ok (.bipush (-5), 2) := by decide +kernel
theorem dX9_refusesRepeat_62 : decode cX9_refusesRepeat 62 = .ok (.goto 4, 3) := by decide +kernel
theorem dX9_refusesRepeat_65 : decode cX9_refusesRepeat 65 = .ok (.iconst 0, 1) := by decide +kernel
theorem dX9_refusesRepeat_66 : decode cX9_refusesRepeat 66 = .ok (.istore_n 3, 1) := by decide +kernel
theorem dX9_refusesRepeat_67 : decode cX9_refusesRepeat 67 = .ok (.iinc 4 1, 3) := by decide +kernel
theorem dX9_refusesRepeat_70 : decode cX9_refusesRepeat 70 = .ok (.goto (-59), 3) := by decide +kernel
theorem dX9_refusesRepeat_73 : decode cX9_refusesRepeat 73 = .ok (.iload_n 3, 1) := by decide +kernel
theorem dX9_refusesRepeat_74 : decode cX9_refusesRepeat 74 = .ok (.ireturn, 1) := by decide +kernel
theorem dX9_laysSpan_0 : decode cX9_laysSpan 0 = .ok (.aload_n 0, 1) := by decide +kernel
theorem dX9_laysSpan_1 : decode cX9_laysSpan 1 = .ok (.getfield 7, 3) := by decide +kernel
theorem dX9_laysSpan_4 : decode cX9_laysSpan 4 = .ok (.iload_n 1, 1) := by decide +kernel
theorem dX9_laysSpan_5 : decode cX9_laysSpan 5 = .ok (.iconst 2, 1) := by decide +kernel
theorem dX9_laysSpan_6 : decode cX9_laysSpan 6 = .ok (.aload_n 0, 1) := by decide +kernel
theorem dX9_laysSpan_7 : decode cX9_laysSpan 7 = .ok (.getfield 7, 3) := by decide +kernel
theorem dX9_laysSpan_10 : decode cX9_laysSpan 10 = .ok (.iload_n 2, 1) := by decide +kernel
theorem dX9_laysSpan_11 : decode cX9_laysSpan 11 = .ok (.iaload, 1) := by decide +kernel
theorem dX9_laysSpan_12 : decode cX9_laysSpan 12 = .ok (.imul, 1) := by decide +kernel
theorem dX9_laysSpan_13 : decode cX9_laysSpan 13 = .ok (.iadd, 1) := by decide +kernel
theorem dX9_laysSpan_14 : decode cX9_laysSpan 14 = .ok (.iload_n 3, 1) := by decide +kernel
theorem dX9_laysSpan_15 : decode cX9_laysSpan 15 = .ok (.iastore, 1) := by decide +kernel
theorem dX9_laysSpan_16 : decode cX9_laysSpan 16 = .ok (.aload_n 0, 1) := by decide +kernel
theorem dX9_laysSpan_17 : decode cX9_laysSpan 17 = .ok (.getfield 7, 3) := by decide +kernel
theorem dX9_laysSpan_20 : decode cX9_laysSpan 20 = .ok (.iload_n 1, 1) := by decide +kernel
theorem dX9_laysSpan_21 : decode cX9_laysSpan 21 = .ok (.iconst 2, 1) := by decide +kernel
theorem dX9_laysSpan_22 : decode cX9_laysSpan 22 = .ok (.aload_n 0, 1) := by decide +kernel
theorem dX9_laysSpan_23 : decode cX9_laysSpan 23 = .ok (.getfield 7, 3) := by decide +kernel
theorem dX9_laysSpan_26 : decode cX9_laysSpan 26 = .ok (.iload_n 2, 1) := by decide +kernel
theorem dX9_laysSpan_27 : decode cX9_laysSpan 27 = .ok (.iaload, 1) := by decide +kernel
theorem dX9_laysSpan_28 : decode cX9_laysSpan 28 = .ok (.imul, 1) := by decide +kernel
theorem dX9_laysSpan_29 : decode cX9_laysSpan 29 = .ok (.iadd, 1) := by decide +kernel
theorem dX9_laysSpan_30 : decode cX9_laysSpan 30 = .ok (.iconst 1, 1) := by decide +kernel
theorem dX9_laysSpan_31 : decode cX9_laysSpan 31 = .ok (.iadd, 1) := by decide +kernel
theorem dX9_laysSpan_32 : decode cX9_laysSpan 32 = .ok (.iload 4, 2) := by decide +kernel
theorem dX9_laysSpan_34 : decode cX9_laysSpan 34 = .ok (.iastore, 1) := by decide +kernel
theorem dX9_laysSpan_35 : decode cX9_laysSpan 35 = .ok (.aload_n 0, 1) := by decide +kernel
theorem dX9_laysSpan_36 : decode cX9_laysSpan 36 = .ok (.getfield 7, 3) := by decide +kernel
theorem dX9_laysSpan_39 : decode cX9_laysSpan 39 = .ok (.iload_n 2, 1) := by decide +kernel
theorem dX9_laysSpan_40 : decode cX9_laysSpan 40 = .ok (.dup2, 1) := by decide +kernel
theorem dX9_laysSpan_41 : decode cX9_laysSpan 41 = .ok (.iaload, 1) := by decide +kernel
theorem dX9_laysSpan_42 : decode cX9_laysSpan 42 = .ok (.iconst 1, 1) := by decide +kernel
theorem dX9_laysSpan_43 : decode cX9_laysSpan 43 = .ok (.iadd, 1) := by decide +kernel
theorem dX9_laysSpan_44 : decode cX9_laysSpan 44 = .ok (.iastore, 1) := by decide +kernel
theorem dX9_laysSpan_45 : decode cX9_laysSpan 45 = .ok (.aload_n 0, 1) := by decide +kernel
theorem dX9_laysSpan_46 : decode cX9_laysSpan 46 = .ok (.getfield 7, 3) := by decide +kernel
theorem dX9_laysSpan_49 : decode cX9_laysSpan 49 = .ok (.iload_n 2, 1) := by decide +kernel
theorem dX9_laysSpan_50 : decode cX9_laysSpan 50 = .ok (.iaload, 1) := by decide +kernel
theorem dX9_laysSpan_51 : decode cX9_laysSpan 51 = .ok (.iconst 1, 1) := by decide +kernel
theorem dX9_laysSpan_52 : decode cX9_laysSpan 52 = .ok (.isub, 1) := by decide +kernel
theorem dX9_laysSpan_53 : decode cX9_laysSpan 53 = .ok (.ireturn, 1) := by decide +kernel
theorem dX9_repeat_0 : decode cX9_repeat 0 = .ok (.aload_n 0, 1) := by decide +kernel
theorem dX9_repeat_1 : decode cX9_repeat 1 = .ok (.iconst 0, 1) := by decide +kernel
theorem dX9_repeat_2 : decode cX9_repeat 2 = .ok (.putfield 56, 3) := by decide +kernel
theorem dX9_repeat_5 : decode cX9_repeat 5 = .ok (.aload_n 0, 1) := by decide +kernel
theorem dX9_repeat_6 : decode cX9_repeat 6 = .ok (.iload_n 1, 1) := by decide +kernel
theorem dX9_repeat_7 : decode cX9_repeat 7 = .ok (.iload_n 2, 1) := by decide +kernel
theorem dX9_repeat_8 : decode cX9_repeat 8 = .ok (.invokevirtual 144, 3) := by decide +kernel
theorem dX9_repeat_11 : decode cX9_repeat 11 = .ok (.istore_n 3, 1) := by decide +kernel
theorem dX9_repeat_12 : decode cX9_repeat 12 = .ok (.iload_n 3, 1) := by decide +kernel
theorem dX9_repeat_13 : decode cX9_repeat 13 = .ok (.ifCond .eq 5, 3) := by decide +kernel
theorem dX9_repeat_16 : decode cX9_repeat 16 = .ok (.iload_n 3, 1) := by decide +kernel
theorem dX9_repeat_17 : decode cX9_repeat 17 = .ok (.ireturn, 1) := by decide +kernel
theorem dX9_repeat_18 : decode cX9_repeat 18 = .ok (.aload_n 0, 1) := by decide +kernel
theorem dX9_repeat_19 : decode cX9_repeat 19 = .ok (.invokevirtual 127, 3) := by decide +kernel
theorem dX9_repeat_22 : decode cX9_repeat 22 = .ok (.aload_n 0, 1) := by decide +kernel
theorem dX9_repeat_23 : decode cX9_repeat 23 = .ok (.bipush 126, 2) := by decide +kernel
theorem dX9_repeat_25 : decode cX9_repeat 25 = .ok (.iconst 2, 1) := by decide +kernel
theorem dX9_repeat_26 : decode cX9_repeat 26 = .ok (.iload_n 1, 1) := by decide +kernel
theorem dX9_repeat_27 : decode cX9_repeat 27 = .ok (.iload_n 2, 1) := by decide +kernel
theorem dX9_repeat_28 : decode cX9_repeat 28 = .ok (.invokevirtual 147, 3) := by decide +kernel
theorem dX9_repeat_31 : decode cX9_repeat 31 = .ok (.ireturn, 1) := by decide +kernel
theorem dX9_cut_0 : decode cX9_cut 0 = .ok (.aload_n 0, 1) := by decide +kernel
theorem dX9_cut_1 : decode cX9_cut 1 = .ok (.iconst 0, 1) := by decide +kernel
theorem dX9_cut_2 : decode cX9_cut 2 = .ok (.putfield 56, 3) := by decide +kernel
theorem dX9_cut_5 : decode cX9_cut 5 = .ok (.aload_n 0, 1) := by decide +kernel
theorem dX9_cut_6 : decode cX9_cut 6 = .ok (.iload_n 1, 1) := by decide +kernel
theorem dX9_cut_7 : decode cX9_cut 7 = .ok (.iload_n 2, 1) := by decide +kernel
theorem dX9_cut_8 : decode cX9_cut 8 = .ok (.iconst 3, 1) := by decide +kernel
theorem dX9_cut_9 : decode cX9_cut 9 = .ok (.invokevirtual 141, 3) := by decide +kernel
theorem dX9_cut_12 : decode cX9_cut 12 = .ok (.istore_n 3, 1) := by decide +kernel
theorem dX9_cut_13 : decode cX9_cut 13 = .ok (.iload_n 3, 1) := by decide +kernel
theorem dX9_cut_14 : decode cX9_cut 14 = .ok (.ifCond .eq 5, 3) := by decide +kernel
theorem dX9_cut_17 : decode cX9_cut 17 = .ok (.iload_n 3, 1) := by decide +kernel
theorem dX9_cut_18 : decode cX9_cut 18 = .ok (.ireturn, 1) := by decide +kernel
theorem dX9_cut_19 : decode cX9_cut 19 = .ok (.aload_n 0, 1) := by decide +kernel
theorem dX9_cut_20 : decode cX9_cut 20 = .ok (.invokevirtual 127, 3) := by decide +kernel
theorem dX9_cut_23 : decode cX9_cut 23 = .ok (.aload_n 0, 1) := by decide +kernel
theorem dX9_cut_24 : decode cX9_cut 24 = .ok (.sipush 134, 3) := by decide +kernel
theorem dX9_cut_27 : decode cX9_cut 27 = .ok (.iconst 3, 1) := by decide +kernel
theorem dX9_cut_28 : decode cX9_cut 28 = .ok (.iload_n 1, 1) := by decide +kernel
theorem dX9_cut_29 : decode cX9_cut 29 = .ok (.iload_n 2, 1) := by decide +kernel
theorem dX9_cut_30 : decode cX9_cut 30 = .ok (.invokevirtual 147, 3) := by decide +kernel
theorem dX9_cut_33 : decode cX9_cut 33 = .ok (.ireturn, 1) := by decide +kernel
theorem dX9_blackout_0 : decode cX9_blackout 0 = .ok (.aload_n 0, 1) := by decide +kernel
theorem dX9_blackout_1 : decode cX9_blackout 1 = .ok (.iconst 0, 1) := by decide +kernel
theorem dX9_blackout_2 : decode cX9_blackout 2 = .ok (.putfield 56, 3) := by decide +kernel
theorem dX9_blackout_5 : decode cX9_blackout 5 = .ok (.iload_n 1, 1) := by decide +kernel
theorem dX9_blackout_6 : decode cX9_blackout 6 = .ok (.ifCond .lt 14, 3) := by decide +kernel
theorem dX9_blackout_9 : decode cX9_blackout 9 = .ok (.iload_n 2, 1) := by decide +kernel
theorem dX9_blackout_10 : decode cX9_blackout 10 = .ok (.iload_n 1, 1) := by decide +kernel
theorem dX9_blackout_11 : decode cX9_blackout 11 = .ok (.sipush 199, 3) := by decide +kernel
theorem dX9_blackout_14 : decode cX9_blackout 14 = .ok (.invokestatic 60, 3) := by decide +kernel
theorem dX9_blackout_17 : decode cX9_blackout 17 = .ok (.ifCond .ne 6, 3) := by decide +kernel
theorem dX9_blackout_20 : decode cX9_blackout 20 = .ok (.bipush (-2), 2) := by decide +kernel
theorem dX9_blackout_22 : decode cX9_blackout 22 = .ok (.ireturn, 1) := by decide +kernel
theorem dX9_blackout_23 : decode cX9_blackout 23 = .ok (.aload_n 0, 1) := by decide +kernel
theorem dX9_blackout_24 : decode cX9_blackout 24 = .ok (.getfield 7, 3) := by decide +kernel
theorem dX9_blackout_27 : decode cX9_blackout 27 = .ok (.iconst 4, 1) := by decide +kernel
theorem dX9_blackout_28 : decode cX9_blackout 28 = .ok (.iaload, 1) := by decide +kernel
theorem dX9_blackout_29 : decode cX9_blackout 29 = .ok (.iconst 3, 1) := by decide +kernel
theorem dX9_blackout_30 : decode cX9_blackout 30 = .ok (.if_icmp .ne 6, 3) := by decide +kernel
theorem dX9_blackout_33 : decode cX9_blackout 33 = .ok (.bipush (-4), 2) := by decide +kernel
theorem dX9_blackout_35 : decode cX9_blackout 35 = .ok (.ireturn, 1) := by decide +kernel
theorem dX9_blackout_36 : decode cX9_blackout 36 = .ok (.aload_n 0, 1) := by decide +kernel
theorem dX9_blackout_37 : decode cX9_blackout 37 = .ok (.invokevirtual 127, 3) := by decide +kernel
theorem dX9_blackout_40 : decode cX9_blackout 40 = .ok (.aload_n 0, 1) := by decide +kernel
theorem dX9_blackout_41 : decode cX9_blackout 41 = .ok (.sipush 142, 3) := by decide +kernel
theorem dX9_blackout_44 : decode cX9_blackout 44 = .ok (.iconst 4, 1) := by decide +kernel
theorem dX9_blackout_45 : decode cX9_blackout 45 = .ok (.iload_n 1, 1) := by decide +kernel
theorem dX9_blackout_46 : decode cX9_blackout 46 = .ok (.iload_n 2, 1) := by decide +kernel
theorem dX9_blackout_47 : decode cX9_blackout 47 = .ok (.invokevirtual 147, 3) := by decide +kernel
theorem dX9_blackout_50 : decode cX9_blackout 50 = .ok (.ireturn, 1) := by decide +kernel
theorem dX9_undoSpan_0 : decode cX9_undoSpan 0 = .ok (.aload_n 0, 1) := by decide +kernel
theorem dX9_undoSpan_1 : decode cX9_undoSpan 1 = .ok (.iconst 0, 1) := by decide +kernel
theorem dX9_undoSpan_2 : decode cX9_undoSpan 2 = .ok (.putfield 56, 3) := by decide +kernel
theorem dX9_undoSpan_5 : decode cX9_undoSpan 5 = .ok (.iload_n 1, 1) := by decide +kernel
theorem dX9_undoSpan_6 : decode cX9_undoSpan 6 = .ok (.iconst 0, 1) := by decide +kernel
theorem dX9_undoSpan_7 : decode cX9_undoSpan 7 = .ok (.iconst 2, 1) := by decide +kernel
theorem dX9_undoSpan_8 : decode cX9_undoSpan 8 = .ok (.invokestatic 60, 3) := by decide +kernel
theorem dX9_undoSpan_11 : decode cX9_undoSpan 11 = .ok (.ifCond .ne 6, 3) := by decide +kernel
theorem dX9_undoSpan_14 : decode cX9_undoSpan 14 = .ok (.bipush (-2), 2) := by decide +kernel
theorem dX9_undoSpan_16 : decode cX9_undoSpan 16 = .ok (.ireturn, 1) := by decide +kernel
theorem dX9_undoSpan_17 : decode cX9_undoSpan 17 = .ok (.iload_n 2, 1) := by decide +kernel
theorem dX9_undoSpan_18 : decode cX9_undoSpan 18 = .ok (.iconst 0, 1) := by decide +kernel
theorem dX9_undoSpan_19 : decode cX9_undoSpan 19 = .ok (.aload_n 0, 1) := by decide +kernel
theorem dX9_undoSpan_20 : decode cX9_undoSpan 20 = .ok (.getfield 7, 3) := by decide +kernel
theorem dX9_undoSpan_23 : decode cX9_undoSpan 23 = .ok (.iconst 2, 1) := by decide +kernel
theorem dX9_undoSpan_24 : decode cX9_undoSpan 24 = .ok (.iload_n 1, 1) := by decide +kernel
theorem dX9_undoSpan_25 : decode cX9_undoSpan 25 = .ok (.iadd, 1) := by decide +kernel
theorem dX9_undoSpan_26 : decode cX9_undoSpan 26 = .ok (.iaload, 1) := by decide +kernel
theorem dX9_undoSpan_27 : decode cX9_undoSpan 27 = .ok (.iconst 1, 1) := by decide +kernel
theorem dX9_undoSpan_28 : decode cX9_undoSpan 28 = .ok (.isub, 1) := by decide +kernel
theorem dX9_undoSpan_29 : decode cX9_undoSpan 29 = .ok (.invokestatic 60, 3) := by decide +kernel
theorem dX9_undoSpan_32 : decode cX9_undoSpan 32 = .ok (.ifCond .ne 5, 3) := by decide +kernel
theorem dX9_undoSpan_35 : decode cX9_undoSpan 35 = .ok (.iconst (-1), 1) := by decide +kernel
theorem dX9_undoSpan_36 : decode cX9_undoSpan 36 = .ok (.ireturn, 1) := by decide +kernel
theorem dX9_undoSpan_37 : decode cX9_undoSpan 37 = .ok (.aload_n 0, 1) := by decide +kernel
theorem dX9_undoSpan_38 : decode cX9_undoSpan 38 = .ok (.invokevirtual 127, 3) := by decide +kernel
theorem dX9_undoSpan_41 : decode cX9_undoSpan 41 = .ok (.iload_n 1, 1) := by decide +kernel
theorem dX9_undoSpan_42 : decode cX9_undoSpan 42 = .ok (.ifCond .ne 8, 3) := by decide +kernel
theorem dX9_undoSpan_45 : decode cX9_undoSpan 45 = .ok (.bipush 126, 2) := by decide +kernel
theorem dX9_undoSpan_47 : decode cX9_undoSpan 47 = .ok (.goto 17, 3) := by decide +kernel
theorem dX9_undoSpan_50 : decode cX9_undoSpan 50 = .ok (.iload_n 1, 1) := by decide +kernel
theorem dX9_undoSpan_51 : decode cX9_undoSpan 51 = .ok (.iconst 1, 1) := by decide +kernel
theorem dX9_undoSpan_52 : decode cX9_undoSpan 52 = .ok (.if_icmp .ne 9, 3) := by decide +kernel
theorem dX9_undoSpan_55 : decode cX9_undoSpan 55 = .ok (.sipush 134, 3) := by decide +kernel
theorem dX9_undoSpan_58 : decode cX9_undoSpan 58 = .ok (.goto 6, 3) := by decide +kernel
theorem dX9_undoSpan_61 : decode cX9_undoSpan 61 = .ok (.sipush 142, 3) := by decide +kernel
theorem dX9_undoSpan_64 : decode cX9_undoSpan 64 = .ok (.istore_n 3, 1) := by decide +kernel
theorem dX9_undoSpan_65 : decode cX9_undoSpan 65 = .ok (.aload_n 0, 1) := by decide +kernel
theorem dX9_undoSpan_66 : decode cX9_undoSpan 66 = .ok (.getfield 7, 3) := by decide +kernel
theorem dX9_undoSpan_69 : decode cX9_undoSpan 69 = .ok (.iconst 2, 1) := by decide +kernel
theorem dX9_undoSpan_70 : decode cX9_undoSpan 70 = .ok (.iload_n 1, 1) := by decide +kernel
theorem dX9_undoSpan_71 : decode cX9_undoSpan 71 = .ok (.iadd, 1) := by decide +kernel
theorem dX9_undoSpan_72 : decode cX9_undoSpan 72 = .ok (.dup2, 1) := by decide +kernel
theorem dX9_undoSpan_73 : decode cX9_undoSpan 73 = .ok (.iaload, 1) := by decide +kernel
theorem dX9_undoSpan_74 : decode cX9_undoSpan 74 = .ok (.iconst 1, 1) := by decide +kernel
theorem dX9_undoSpan_75 : decode cX9_undoSpan 75 = .ok (.isub, 1) := by decide +kernel
theorem dX9_undoSpan_76 : decode cX9_undoSpan 76 = .ok (.iastore, 1) := by decide +kernel
theorem dX9_undoSpan_77 : decode cX9_undoSpan 77 = .ok (.iconst 2, 1) := by decide +kernel
theorem dX9_undoSpan_78 : decode cX9_undoSpan 78 = .ok (.iload_n 2, 1) := by decide +kernel
theorem dX9_undoSpan_79 : decode cX9_undoSpan 79 = .ok (.imul, 1) := by decide +kernel
theorem dX9_undoSpan_80 : decode cX9_undoSpan 80 = .ok (.istore 4, 2) := by decide +kernel
theorem dX9_undoSpan_82 : decode cX9_undoSpan 82 = .ok (.iload 4, 2) := by decide +kernel
theorem dX9_undoSpan_84 : decode cX9_undoSpan 84 = .ok (.iconst 2, 1) := by decide +kernel
theorem dX9_undoSpan_85 : decode cX9_undoSpan 85 = .ok (.aload_n 0, 1) := by decide +kernel
theorem dX9_undoSpan_86 : decode cX9_undoSpan 86 = .ok (.getfield 7, 3) := by decide +kernel
theorem dX9_undoSpan_89 : decode cX9_undoSpan 89 = .ok (.iconst 2, 1) := by decide +kernel
theorem dX9_undoSpan_90 : decode cX9_undoSpan 90 = .ok (.iload_n 1, 1) := by decide +kernel
theorem dX9_undoSpan_91 : decode cX9_undoSpan 91 = .ok (.iadd, 1) := by decide +kernel
theorem dX9_undoSpan_92 : decode cX9_undoSpan 92 = .ok (.iaload, 1) := by decide +kernel
theorem dX9_undoSpan_93 : decode cX9_undoSpan 93 = .ok (.imul, 1) := by decide +kernel
theorem dX9_undoSpan_94 : decode cX9_undoSpan 94 = .ok (.if_icmp .ge 29, 3) := by decide +kernel
theorem dX9_undoSpan_97 : decode cX9_undoSpan 97 = .ok (.aload_n 0, 1) := by decide +kernel
theorem dX9_undoSpan_98 : decode cX9_undoSpan 98 = .ok (.getfield 7, 3) := by decide +kernel
theorem dX9_undoSpan_101 : decode cX9_undoSpan 101 = .ok (.iload_n 3, 1) := by decide +kernel
theorem dX9_undoSpan_102 : decode cX9_undoSpan 102 = .ok (.iload 4, 2) := by decide +kernel
theorem dX9_undoSpan_104 : decode cX9_undoSpan 104 = .ok (.iadd, 1) := by decide +kernel
theorem dX9_undoSpan_105 : decode cX9_undoSpan 105 = .ok (.aload_n 0, 1) := by decide +kernel
theorem dX9_undoSpan_106 : decode cX9_undoSpan 106 = .ok (.getfield 7, 3) := by decide +kernel
theorem dX9_undoSpan_109 : decode cX9_undoSpan 109 = .ok (.iload_n 3, 1) := by decide +kernel
theorem dX9_undoSpan_110 : decode cX9_undoSpan 110 = .ok (.iload 4, 2) := by decide +kernel
theorem dX9_undoSpan_112 : decode cX9_undoSpan 112 = .ok (.iadd, 1) := by decide +kernel
theorem dX9_undoSpan_113 : decode cX9_undoSpan 113 = .ok (.iconst 2, 1) := by decide +kernel
theorem dX9_undoSpan_114 : decode cX9_undoSpan 114 = .ok (.iadd, 1) := by decide +kernel
theorem dX9_undoSpan_115 : decode cX9_undoSpan 115 = .ok (.iaload, 1) := by decide +kernel
theorem dX9_undoSpan_116 : decode cX9_undoSpan 116 = .ok (.iastore, 1) := by decide +kernel
theorem dX9_undoSpan_117 : decode cX9_undoSpan 117 = .ok (.iinc 4 1, 3) := by decide +kernel
theorem dX9_undoSpan_120 : decode cX9_undoSpan 120 = .ok (.goto (-38), 3) := by decide +kernel
theorem dX9_undoSpan_123 : decode cX9_undoSpan 123 = .ok (.aload_n 0, 1) := by decide +kernel
theorem dX9_undoSpan_124 : decode cX9_undoSpan 124 = .ok (.getfield 7, 3) := by decide +kernel
theorem dX9_undoSpan_127 : decode cX9_undoSpan 127 = .ok (.iload_n 3, 1) := by decide +kernel
theorem dX9_undoSpan_128 : decode cX9_undoSpan 128 = .ok (.iconst 2, 1) := by decide +kernel
theorem dX9_undoSpan_129 : decode cX9_undoSpan 129 = .ok (.aload_n 0, 1) := by decide +kernel
theorem dX9_undoSpan_130 : decode cX9_undoSpan 130 = .ok (.getfield 7, 3) := by decide +kernel
theorem dX9_undoSpan_133 : decode cX9_undoSpan 133 = .ok (.iconst 2, 1) := by decide +kernel
theorem dX9_undoSpan_134 : decode cX9_undoSpan 134 = .ok (.iload_n 1, 1) := by decide +kernel
theorem dX9_undoSpan_135 : decode cX9_undoSpan 135 = .ok (.iadd, 1) := by decide +kernel
theorem dX9_undoSpan_136 : decode cX9_undoSpan 136 = .ok (.iaload, 1) := by decide +kernel
theorem dX9_undoSpan_137 : decode cX9_undoSpan 137 = .ok (.imul, 1) := by decide +kernel
theorem dX9_undoSpan_138 : decode cX9_undoSpan 138 = .ok (.iadd, 1) := by decide +kernel
theorem dX9_undoSpan_139 : decode cX9_undoSpan 139 = .ok (.iconst 0, 1) := by decide +kernel
theorem dX9_undoSpan_140 : decode cX9_undoSpan 140 = .ok (.iastore, 1) := by decide +kernel
theorem dX9_undoSpan_141 : decode cX9_undoSpan 141 = .ok (.aload_n 0, 1) := by decide +kernel
theorem dX9_undoSpan_142 : decode cX9_undoSpan 142 = .ok (.getfield 7, 3) := by decide +kernel
theorem dX9_undoSpan_145 : decode cX9_undoSpan 145 = .ok (.iload_n 3, 1) := by decide +kernel
theorem dX9_undoSpan_146 : decode cX9_undoSpan 146 = .ok (.iconst 2, 1) := by decide +kernel
theorem dX9_undoSpan_147 : decode cX9_undoSpan 147 = .ok (.aload_n 0, 1) := by decide +kernel
theorem dX9_undoSpan_148 : decode cX9_undoSpan 148 = .ok (.getfield 7, 3) := by decide +kernel
theorem dX9_undoSpan_151 : decode cX9_undoSpan 151 = .ok (.iconst 2, 1) := by decide +kernel
theorem dX9_undoSpan_152 : decode cX9_undoSpan 152 = .ok (.iload_n 1, 1) := by decide +kernel
theorem dX9_undoSpan_153 : decode cX9_undoSpan 153 = .ok (.iadd, 1) := by decide +kernel
theorem dX9_undoSpan_154 : decode cX9_undoSpan 154 = .ok (.iaload, 1) := by decide +kernel
theorem dX9_undoSpan_155 : decode cX9_undoSpan 155 = .ok (.imul, 1) := by decide +kernel
theorem dX9_undoSpan_156 : decode cX9_undoSpan 156 = .ok (.iadd, 1) := by decide +kernel
theorem dX9_undoSpan_157 : decode cX9_undoSpan 157 = .ok (.iconst 1, 1) := by decide +kernel
theorem dX9_undoSpan_158 : decode cX9_undoSpan 158 = .ok (.iadd, 1) := by decide +kernel
theorem dX9_undoSpan_159 : decode cX9_undoSpan 159 = .ok (.iconst 0, 1) := by decide +kernel
theorem dX9_undoSpan_160 : decode cX9_undoSpan 160 = .ok (.iastore, 1) := by decide +kernel
theorem dX9_undoSpan_161 : decode cX9_undoSpan 161 = .ok (.aload_n 0, 1) := by decide +kernel
theorem dX9_undoSpan_162 : decode cX9_undoSpan 162 = .ok (.getfield 7, 3) := by decide +kernel
theorem dX9_undoSpan_165 : decode cX9_undoSpan 165 = .ok (.iconst 2, 1) := by decide +kernel
theorem dX9_undoSpan_166 : decode cX9_undoSpan 166 = .ok (.iload_n 1, 1) := by decide +kernel
theorem dX9_undoSpan_167 : decode cX9_undoSpan 167 = .ok (.iadd, 1) := by decide +kernel
theorem dX9_undoSpan_168 : decode cX9_undoSpan 168 = .ok (.iaload, 1) := by decide +kernel
theorem dX9_undoSpan_169 : decode cX9_undoSpan 169 = .ok (.ireturn, 1) := by decide +kernel
theorem dX9_refusesTitle_0 : decode cX9_refusesTitle 0 = .ok (.aload_n 0, 1) := by decide +kernel
theorem dX9_refusesTitle_1 : decode cX9_refusesTitle 1 = .ok (.iload_n 2, 1) := by decide +kernel
theorem dX9_refusesTitle_2 : decode cX9_refusesTitle 2 = .ok (.invokevirtual 130, 3) := by decide +kernel
theorem dX9_refusesTitle_5 : decode cX9_refusesTitle 5 = .ok (.ifCond .ne 5, 3) := by decide +kernel
theorem dX9_refusesTitle_8 : decode cX9_refusesTitle 8 = .ok (.iconst (-1), 1) := by decide +kernel
theorem dX9_refusesTitle_9 : decode cX9_refusesTitle 9 = .ok (.ireturn, 1) := by decide +kernel
theorem dX9_refusesTitle_10 : decode cX9_refusesTitle 10 = .ok (.iload_n 1, 1) := by decide +kernel
theorem dX9_refusesTitle_11 : decode cX9_refusesTitle 11 = .ok (.iconst 0, 1) := by decide +kernel
theorem dX9_refusesTitle_12 : decode cX9_refusesTitle 12 = .ok (.iconst 2, 1) := by decide +kernel
theorem dX9_refusesTitle_13 : decode cX9_refusesTitle 13 = .ok (.invokestatic 60, 3) := by decide +kernel
theorem dX9_refusesTitle_16 : decode cX9_refusesTitle 16 = .ok (.ifCond .eq 24, 3) := by decide +kernel
theorem dX9_refusesTitle_19 : decode cX9_refusesTitle 19 = .ok (.iload_n 3, 1) := by decide +kernel
theorem dX9_refusesTitle_20 : decode cX9_refusesTitle 20 = .ok (.iconst 1, 1) := by decide +kernel
theorem dX9_refusesTitle_21 : decode cX9_refusesTitle 21 = .ok (.bipush 20, 2) := by decide +kernel
theorem dX9_refusesTitle_23 : decode cX9_refusesTitle 23 = .ok (.invokestatic 60, 3) := by decide +kernel
theorem dX9_refusesTitle_26 : decode cX9_refusesTitle 26 = .ok (.ifCond .eq 14, 3) := by decide +kernel
theorem dX9_refusesTitle_29 : decode cX9_refusesTitle 29 = .ok (.iload 4, 2) := by decide +kernel
theorem dX9_refusesTitle_31 : decode cX9_refusesTitle 31 = .ok (.iconst 1, 1) := by decide +kernel
theorem dX9_refusesTitle_32 : decode cX9_refusesTitle 32 = .ok (.bipush 80, 2) := by decide +kernel
theorem dX9_refusesTitle_34 : decode cX9_refusesTitle 34 = .ok (.invokestatic 60, 3) := by decide +kernel
theorem dX9_refusesTitle_37 : decode cX9_refusesTitle 37 = .ok (.ifCond .ne 6, 3) := by decide +kernel
theorem dX9_refusesTitle_40 : decode cX9_refusesTitle 40 = .ok (.bipush (-2), 2) := by decide +kernel
theorem dX9_refusesTitle_42 : decode cX9_refusesTitle 42 = .ok (.ireturn, 1) := by decide +kernel
theorem dX9_refusesTitle_43 : decode cX9_refusesTitle 43 = .ok (.aload_n 0, 1) := by decide +kernel
theorem dX9_refusesTitle_44 : decode cX9_refusesTitle 44 = .ok (.getfield 7, 3) := by decide +kernel
end
section
theorem dX9_refusesTitle_47 : decode cX9_refusesTitle 47 = .ok (.iconst 5, 1) := by decide +kernel
theorem dX9_refusesTitle_48 : decode cX9_refusesTitle 48 = .ok (.iaload, 1) := by decide +kernel
theorem dX9_refusesTitle_49 : decode cX9_refusesTitle 49 = .ok (.bipush 20, 2) := by decide +kernel
theorem dX9_refusesTitle_51 : decode cX9_refusesTitle 51 = .ok (.if_icmp .ne 8, 3) := by decide +kernel
theorem dX9_refusesTitle_54 : decode cX9_refusesTitle 54 = .ok (.bipush (-4), 2) := by decide +kernel
theorem dX9_refusesTitle_56 : decode cX9_refusesTitle 56 = .ok (.goto 4, 3) := by decide +kernel
theorem dX9_refusesTitle_59 : decode cX9_refusesTitle 59 = .ok (.iconst 0, 1) := by decide +kernel
theorem dX9_refusesTitle_60 : decode cX9_refusesTitle 60 = .ok (.ireturn, 1) := by decide +kernel
theorem dX9_laysTitle_0 : decode cX9_laysTitle 0 = .ok (.sipush 148, 3) := by decide +kernel
theorem dX9_laysTitle_3 : decode cX9_laysTitle 3 = .ok (.iconst 4, 1) := by decide +kernel
theorem dX9_laysTitle_4 : decode cX9_laysTitle 4 = .ok (.aload_n 0, 1) := by decide +kernel
theorem dX9_laysTitle_5 : decode cX9_laysTitle 5 = .ok (.getfield 7, 3) := by decide +kernel
theorem dX9_laysTitle_8 : decode cX9_laysTitle 8 = .ok (.iconst 5, 1) := by decide +kernel
theorem dX9_laysTitle_9 : decode cX9_laysTitle 9 = .ok (.iaload, 1) := by decide +kernel
theorem dX9_laysTitle_10 : decode cX9_laysTitle 10 = .ok (.imul, 1) := by decide +kernel
theorem dX9_laysTitle_11 : decode cX9_laysTitle 11 = .ok (.iadd, 1) := by decide +kernel
theorem dX9_laysTitle_12 : decode cX9_laysTitle 12 = .ok (.istore 5, 2) := by decide +kernel
theorem dX9_laysTitle_14 : decode cX9_laysTitle 14 = .ok (.aload_n 0, 1) := by decide +kernel
theorem dX9_laysTitle_15 : decode cX9_laysTitle 15 = .ok (.getfield 7, 3) := by decide +kernel
theorem dX9_laysTitle_18 : decode cX9_laysTitle 18 = .ok (.iload 5, 2) := by decide +kernel
theorem dX9_laysTitle_20 : decode cX9_laysTitle 20 = .ok (.iconst 0, 1) := by decide +kernel
theorem dX9_laysTitle_21 : decode cX9_laysTitle 21 = .ok (.iadd, 1) := by decide +kernel
theorem dX9_laysTitle_22 : decode cX9_laysTitle 22 = .ok (.iload_n 1, 1) := by decide +kernel
theorem dX9_laysTitle_23 : decode cX9_laysTitle 23 = .ok (.iastore, 1) := by decide +kernel
theorem dX9_laysTitle_24 : decode cX9_laysTitle 24 = .ok (.aload_n 0, 1) := by decide +kernel
theorem dX9_laysTitle_25 : decode cX9_laysTitle 25 = .ok (.getfield 7, 3) := by decide +kernel
theorem dX9_laysTitle_28 : decode cX9_laysTitle 28 = .ok (.iload 5, 2) := by decide +kernel
theorem dX9_laysTitle_30 : decode cX9_laysTitle 30 = .ok (.iconst 1, 1) := by decide +kernel
theorem dX9_laysTitle_31 : decode cX9_laysTitle 31 = .ok (.iadd, 1) := by decide +kernel
theorem dX9_laysTitle_32 : decode cX9_laysTitle 32 = .ok (.iload_n 2, 1) := by decide +kernel
theorem dX9_laysTitle_33 : decode cX9_laysTitle 33 = .ok (.iastore, 1) := by decide +kernel
theorem dX9_laysTitle_34 : decode cX9_laysTitle 34 = .ok (.aload_n 0, 1) := by decide +kernel
theorem dX9_laysTitle_35 : decode cX9_laysTitle 35 = .ok (.getfield 7, 3) := by decide +kernel
theorem dX9_laysTitle_38 : decode cX9_laysTitle 38 = .ok (.iload 5, 2) := by decide +kernel
theorem dX9_laysTitle_40 : decode cX9_laysTitle 40 = .ok (.iconst 2, 1) := by decide +kernel
theorem dX9_laysTitle_41 : decode cX9_laysTitle 41 = .ok (.iadd, 1) := by decide +kernel
theorem dX9_laysTitle_42 : decode cX9_laysTitle 42 = .ok (.iload_n 3, 1) := by decide +kernel
theorem dX9_laysTitle_43 : decode cX9_laysTitle 43 = .ok (.iastore, 1) := by decide +kernel
theorem dX9_laysTitle_44 : decode cX9_laysTitle 44 = .ok (.aload_n 0, 1) := by decide +kernel
theorem dX9_laysTitle_45 : decode cX9_laysTitle 45 = .ok (.getfield 7, 3) := by decide +kernel
theorem dX9_laysTitle_48 : decode cX9_laysTitle 48 = .ok (.iload 5, 2) := by decide +kernel
theorem dX9_laysTitle_50 : decode cX9_laysTitle 50 = .ok (.iconst 3, 1) := by decide +kernel
theorem dX9_laysTitle_51 : decode cX9_laysTitle 51 = .ok (.iadd, 1) := by decide +kernel
theorem dX9_laysTitle_52 : decode cX9_laysTitle 52 = .ok (.iload 4, 2) := by decide +kernel
theorem dX9_laysTitle_54 : decode cX9_laysTitle 54 = .ok (.iastore, 1) := by decide +kernel
theorem dX9_laysTitle_55 : decode cX9_laysTitle 55 = .ok (.aload_n 0, 1) := by decide +kernel
theorem dX9_laysTitle_56 : decode cX9_laysTitle 56 = .ok (.getfield 7, 3) := by decide +kernel
theorem dX9_laysTitle_59 : decode cX9_laysTitle 59 = .ok (.iconst 5, 1) := by decide +kernel
theorem dX9_laysTitle_60 : decode cX9_laysTitle 60 = .ok (.dup2, 1) := by decide +kernel
theorem dX9_laysTitle_61 : decode cX9_laysTitle 61 = .ok (.iaload, 1) := by decide +kernel
theorem dX9_laysTitle_62 : decode cX9_laysTitle 62 = .ok (.iconst 1, 1) := by decide +kernel
theorem dX9_laysTitle_63 : decode cX9_laysTitle 63 = .ok (.iadd, 1) := by decide +kernel
theorem dX9_laysTitle_64 : decode cX9_laysTitle 64 = .ok (.iastore, 1) := by decide +kernel
theorem dX9_laysTitle_65 : decode cX9_laysTitle 65 = .ok (.aload_n 0, 1) := by decide +kernel
theorem dX9_laysTitle_66 : decode cX9_laysTitle 66 = .ok (.getfield 7, 3) := by decide +kernel
theorem dX9_laysTitle_69 : decode cX9_laysTitle 69 = .ok (.iconst 5, 1) := by decide +kernel
theorem dX9_laysTitle_70 : decode cX9_laysTitle 70 = .ok (.iaload, 1) := by decide +kernel
theorem dX9_laysTitle_71 : decode cX9_laysTitle 71 = .ok (.iconst 1, 1) := by decide +kernel
theorem dX9_laysTitle_72 : decode cX9_laysTitle 72 = .ok (.isub, 1) := by decide +kernel
theorem dX9_laysTitle_73 : decode cX9_laysTitle 73 = .ok (.ireturn, 1) := by decide +kernel
theorem dX9_title_0 : decode cX9_title 0 = .ok (.aload_n 0, 1) := by decide +kernel
theorem dX9_title_1 : decode cX9_title 1 = .ok (.iconst 0, 1) := by decide +kernel
theorem dX9_title_2 : decode cX9_title 2 = .ok (.putfield 56, 3) := by decide +kernel
theorem dX9_title_5 : decode cX9_title 5 = .ok (.aload_n 0, 1) := by decide +kernel
theorem dX9_title_6 : decode cX9_title 6 = .ok (.iload_n 1, 1) := by decide +kernel
theorem dX9_title_7 : decode cX9_title 7 = .ok (.iload_n 2, 1) := by decide +kernel
theorem dX9_title_8 : decode cX9_title 8 = .ok (.iload_n 3, 1) := by decide +kernel
theorem dX9_title_9 : decode cX9_title 9 = .ok (.iload 4, 2) := by decide +kernel
theorem dX9_title_11 : decode cX9_title 11 = .ok (.invokevirtual 151, 3) := by decide +kernel
theorem dX9_title_14 : decode cX9_title 14 = .ok (.istore 5, 2) := by decide +kernel
theorem dX9_title_16 : decode cX9_title 16 = .ok (.iload 5, 2) := by decide +kernel
theorem dX9_title_18 : decode cX9_title 18 = .ok (.ifCond .eq 6, 3) := by decide +kernel
theorem dX9_title_21 : decode cX9_title 21 = .ok (.iload 5, 2) := by decide +kernel
theorem dX9_title_23 : decode cX9_title 23 = .ok (.ireturn, 1) := by decide +kernel
theorem dX9_title_24 : decode cX9_title 24 = .ok (.aload_n 0, 1) := by decide +kernel
theorem dX9_title_25 : decode cX9_title 25 = .ok (.invokevirtual 127, 3) := by decide +kernel
theorem dX9_title_28 : decode cX9_title 28 = .ok (.aload_n 0, 1) := by decide +kernel
theorem dX9_title_29 : decode cX9_title 29 = .ok (.iload_n 1, 1) := by decide +kernel
theorem dX9_title_30 : decode cX9_title 30 = .ok (.iload_n 2, 1) := by decide +kernel
theorem dX9_title_31 : decode cX9_title 31 = .ok (.iload_n 3, 1) := by decide +kernel
theorem dX9_title_32 : decode cX9_title 32 = .ok (.iload 4, 2) := by decide +kernel
theorem dX9_title_34 : decode cX9_title 34 = .ok (.invokevirtual 154, 3) := by decide +kernel
theorem dX9_title_37 : decode cX9_title 37 = .ok (.ireturn, 1) := by decide +kernel
theorem dX9_dropsTitle_0 : decode cX9_dropsTitle 0 = .ok (.aload_n 0, 1) := by decide +kernel
theorem dX9_dropsTitle_1 : decode cX9_dropsTitle 1 = .ok (.getfield 7, 3) := by decide +kernel
theorem dX9_dropsTitle_4 : decode cX9_dropsTitle 4 = .ok (.iconst 5, 1) := by decide +kernel
theorem dX9_dropsTitle_5 : decode cX9_dropsTitle 5 = .ok (.dup2, 1) := by decide +kernel
theorem dX9_dropsTitle_6 : decode cX9_dropsTitle 6 = .ok (.iaload, 1) := by decide +kernel
theorem dX9_dropsTitle_7 : decode cX9_dropsTitle 7 = .ok (.iconst 1, 1) := by decide +kernel
theorem dX9_dropsTitle_8 : decode cX9_dropsTitle 8 = .ok (.isub, 1) := by decide +kernel
theorem dX9_dropsTitle_9 : decode cX9_dropsTitle 9 = .ok (.iastore, 1) := by decide +kernel
theorem dX9_dropsTitle_10 : decode cX9_dropsTitle 10 = .ok (.iconst 4, 1) := by decide +kernel
theorem dX9_dropsTitle_11 : decode cX9_dropsTitle 11 = .ok (.iload_n 1, 1) := by decide +kernel
theorem dX9_dropsTitle_12 : decode cX9_dropsTitle 12 = .ok (.imul, 1) := by decide +kernel
theorem dX9_dropsTitle_13 : decode cX9_dropsTitle 13 = .ok (.istore_n 2, 1) := by decide +kernel
theorem dX9_dropsTitle_14 : decode cX9_dropsTitle 14 = .ok (.iload_n 2, 1) := by decide +kernel
theorem dX9_dropsTitle_15 : decode cX9_dropsTitle 15 = .ok (.iconst 4, 1) := by decide +kernel
theorem dX9_dropsTitle_16 : decode cX9_dropsTitle 16 = .ok (.aload_n 0, 1) := by decide +kernel
theorem dX9_dropsTitle_17 : decode cX9_dropsTitle 17 = .ok (.getfield 7, 3) := by decide +kernel
theorem dX9_dropsTitle_20 : decode cX9_dropsTitle 20 = .ok (.iconst 5, 1) := by decide +kernel
theorem dX9_dropsTitle_21 : decode cX9_dropsTitle 21 = .ok (.iaload, 1) := by decide +kernel
theorem dX9_dropsTitle_22 : decode cX9_dropsTitle 22 = .ok (.imul, 1) := by decide +kernel
theorem dX9_dropsTitle_23 : decode cX9_dropsTitle 23 = .ok (.if_icmp .ge 31, 3) := by decide +kernel
theorem dX9_dropsTitle_26 : decode cX9_dropsTitle 26 = .ok (.aload_n 0, 1) := by decide +kernel
theorem dX9_dropsTitle_27 : decode cX9_dropsTitle 27 = .ok (.getfield 7, 3) := by decide +kernel
theorem dX9_dropsTitle_30 : decode cX9_dropsTitle 30 = .ok (.sipush 148, 3) := by decide +kernel
theorem dX9_dropsTitle_33 : decode cX9_dropsTitle 33 = .ok (.iload_n 2, 1) := by decide +kernel
theorem dX9_dropsTitle_34 : decode cX9_dropsTitle 34 = .ok (.iadd, 1) := by decide +kernel
theorem dX9_dropsTitle_35 : decode cX9_dropsTitle 35 = .ok (.aload_n 0, 1) := by decide +kernel
theorem dX9_dropsTitle_36 : decode cX9_dropsTitle 36 = .ok (.getfield 7, 3) := by decide +kernel
theorem dX9_dropsTitle_39 : decode cX9_dropsTitle 39 = .ok (.sipush 148, 3) := by decide +kernel
theorem dX9_dropsTitle_42 : decode cX9_dropsTitle 42 = .ok (.iload_n 2, 1) := by decide +kernel
theorem dX9_dropsTitle_43 : decode cX9_dropsTitle 43 = .ok (.iadd, 1) := by decide +kernel
theorem dX9_dropsTitle_44 : decode cX9_dropsTitle 44 = .ok (.iconst 4, 1) := by decide +kernel
theorem dX9_dropsTitle_45 : decode cX9_dropsTitle 45 = .ok (.iadd, 1) := by decide +kernel
theorem dX9_dropsTitle_46 : decode cX9_dropsTitle 46 = .ok (.iaload, 1) := by decide +kernel
theorem dX9_dropsTitle_47 : decode cX9_dropsTitle 47 = .ok (.iastore, 1) := by decide +kernel
theorem dX9_dropsTitle_48 : decode cX9_dropsTitle 48 = .ok (.iinc 2 1, 3) := by decide +kernel
theorem dX9_dropsTitle_51 : decode cX9_dropsTitle 51 = .ok (.goto (-37), 3) := by decide +kernel
theorem dX9_dropsTitle_54 : decode cX9_dropsTitle 54 = .ok (.iconst 0, 1) := by decide +kernel
theorem dX9_dropsTitle_55 : decode cX9_dropsTitle 55 = .ok (.istore_n 2, 1) := by decide +kernel
theorem dX9_dropsTitle_56 : decode cX9_dropsTitle 56 = .ok (.iload_n 2, 1) := by decide +kernel
theorem dX9_dropsTitle_57 : decode cX9_dropsTitle 57 = .ok (.iconst 4, 1) := by decide +kernel
theorem dX9_dropsTitle_58 : decode cX9_dropsTitle 58 = .ok (.if_icmp .ge 29, 3) := by decide +kernel
theorem dX9_dropsTitle_61 : decode cX9_dropsTitle 61 = .ok (.aload_n 0, 1) := by decide +kernel
theorem dX9_dropsTitle_62 : decode cX9_dropsTitle 62 = .ok (.getfield 7, 3) := by decide +kernel
theorem dX9_dropsTitle_65 : decode cX9_dropsTitle 65 = .ok (.sipush 148, 3) := by decide +kernel
theorem dX9_dropsTitle_68 : decode cX9_dropsTitle 68 = .ok (.iconst 4, 1) := by decide +kernel
theorem dX9_dropsTitle_69 : decode cX9_dropsTitle 69 = .ok (.aload_n 0, 1) := by decide +kernel
theorem dX9_dropsTitle_70 : decode cX9_dropsTitle 70 = .ok (.getfield 7, 3) := by decide +kernel
theorem dX9_dropsTitle_73 : decode cX9_dropsTitle 73 = .ok (.iconst 5, 1) := by decide +kernel
theorem dX9_dropsTitle_74 : decode cX9_dropsTitle 74 = .ok (.iaload, 1) := by decide +kernel
theorem dX9_dropsTitle_75 : decode cX9_dropsTitle 75 = .ok (.imul, 1) := by decide +kernel
theorem dX9_dropsTitle_76 : decode cX9_dropsTitle 76 = .ok (.iadd, 1) := by decide +kernel
theorem dX9_dropsTitle_77 : decode cX9_dropsTitle 77 = .ok (.iload_n 2, 1) := by decide +kernel
theorem dX9_dropsTitle_78 : decode cX9_dropsTitle 78 = .ok (.iadd, 1) := by decide +kernel
theorem dX9_dropsTitle_79 : decode cX9_dropsTitle 79 = .ok (.iconst 0, 1) := by decide +kernel
theorem dX9_dropsTitle_80 : decode cX9_dropsTitle 80 = .ok (.iastore, 1) := by decide +kernel
theorem dX9_dropsTitle_81 : decode cX9_dropsTitle 81 = .ok (.iinc 2 1, 3) := by decide +kernel
theorem dX9_dropsTitle_84 : decode cX9_dropsTitle 84 = .ok (.goto (-28), 3) := by decide +kernel
theorem dX9_dropsTitle_87 : decode cX9_dropsTitle 87 = .ok (.aload_n 0, 1) := by decide +kernel
theorem dX9_dropsTitle_88 : decode cX9_dropsTitle 88 = .ok (.getfield 7, 3) := by decide +kernel
theorem dX9_dropsTitle_91 : decode cX9_dropsTitle 91 = .ok (.iconst 5, 1) := by decide +kernel
theorem dX9_dropsTitle_92 : decode cX9_dropsTitle 92 = .ok (.iaload, 1) := by decide +kernel
theorem dX9_dropsTitle_93 : decode cX9_dropsTitle 93 = .ok (.ireturn, 1) := by decide +kernel
theorem dX9_drop_0 : decode cX9_drop 0 = .ok (.aload_n 0, 1) := by decide +kernel
theorem dX9_drop_1 : decode cX9_drop 1 = .ok (.iconst 0, 1) := by decide +kernel
theorem dX9_drop_2 : decode cX9_drop 2 = .ok (.putfield 56, 3) := by decide +kernel
theorem dX9_drop_5 : decode cX9_drop 5 = .ok (.iload_n 1, 1) := by decide +kernel
theorem dX9_drop_6 : decode cX9_drop 6 = .ok (.iconst 0, 1) := by decide +kernel
theorem dX9_drop_7 : decode cX9_drop 7 = .ok (.aload_n 0, 1) := by decide +kernel
theorem dX9_drop_8 : decode cX9_drop 8 = .ok (.getfield 7, 3) := by decide +kernel
theorem dX9_drop_11 : decode cX9_drop 11 = .ok (.iconst 5, 1) := by decide +kernel
theorem dX9_drop_12 : decode cX9_drop 12 = .ok (.iaload, 1) := by decide +kernel
theorem dX9_drop_13 : decode cX9_drop 13 = .ok (.iconst 1, 1) := by decide +kernel
theorem dX9_drop_14 : decode cX9_drop 14 = .ok (.isub, 1) := by decide +kernel
theorem dX9_drop_15 : decode cX9_drop 15 = .ok (.invokestatic 60, 3) := by decide +kernel
theorem dX9_drop_18 : decode cX9_drop 18 = .ok (.ifCond .ne 5, 3) := by decide +kernel
theorem dX9_drop_21 : decode cX9_drop 21 = .ok (.iconst (-1), 1) := by decide +kernel
theorem dX9_drop_22 : decode cX9_drop 22 = .ok (.ireturn, 1) := by decide +kernel
theorem dX9_drop_23 : decode cX9_drop 23 = .ok (.aload_n 0, 1) := by decide +kernel
theorem dX9_drop_24 : decode cX9_drop 24 = .ok (.invokevirtual 127, 3) := by decide +kernel
theorem dX9_drop_27 : decode cX9_drop 27 = .ok (.aload_n 0, 1) := by decide +kernel
theorem dX9_drop_28 : decode cX9_drop 28 = .ok (.iload_n 1, 1) := by decide +kernel
theorem dX9_drop_29 : decode cX9_drop 29 = .ok (.invokevirtual 157, 3) := by decide +kernel
theorem dX9_drop_32 : decode cX9_drop 32 = .ok (.ireturn, 1) := by decide +kernel
theorem dX9_timesSung_0 : decode cX9_timesSung 0 = .ok (.iconst 0, 1) := by decide +kernel
theorem dX9_timesSung_1 : decode cX9_timesSung 1 = .ok (.istore_n 2, 1) := by decide +kernel
theorem dX9_timesSung_2 : decode cX9_timesSung 2 = .ok (.iconst 0, 1) := by decide +kernel
theorem dX9_timesSung_3 : decode cX9_timesSung 3 = .ok (.istore_n 3, 1) := by decide +kernel
theorem dX9_timesSung_4 : decode cX9_timesSung 4 = .ok (.iload_n 3, 1) := by decide +kernel
theorem dX9_timesSung_5 : decode cX9_timesSung 5 = .ok (.aload_n 0, 1) := by decide +kernel
theorem dX9_timesSung_6 : decode cX9_timesSung 6 = .ok (.getfield 71, 3) := by decide +kernel
theorem dX9_timesSung_9 : decode cX9_timesSung 9 = .ok (.if_icmp .ge 27, 3) := by decide +kernel
theorem dX9_timesSung_12 : decode cX9_timesSung 12 = .ok (.iload_n 2, 1) := by decide +kernel
theorem dX9_timesSung_13 : decode cX9_timesSung 13 = .ok (.aload_n 0, 1) := by decide +kernel
theorem dX9_timesSung_14 : decode cX9_timesSung 14 = .ok (.getfield 26, 3) := by decide +kernel
theorem dX9_timesSung_17 : decode cX9_timesSung 17 = .ok (.iload_n 3, 1) := by decide +kernel
theorem dX9_timesSung_18 : decode cX9_timesSung 18 = .ok (.iaload, 1) := by decide +kernel
theorem dX9_timesSung_19 : decode cX9_timesSung 19 = .ok (.iload_n 1, 1) := by decide +kernel
theorem dX9_timesSung_20 : decode cX9_timesSung 20 = .ok (.if_icmp .ne 7, 3) := by decide +kernel
theorem dX9_timesSung_23 : decode cX9_timesSung 23 = .ok (.iconst 1, 1) := by decide +kernel
theorem dX9_timesSung_24 : decode cX9_timesSung 24 = .ok (.goto 4, 3) := by decide +kernel
theorem dX9_timesSung_27 : decode cX9_timesSung 27 = .ok (.iconst 0, 1) := by decide +kernel
theorem dX9_timesSung_28 : decode cX9_timesSung 28 = .ok (.iadd, 1) := by decide +kernel
theorem dX9_timesSung_29 : decode cX9_timesSung 29 = .ok (.istore_n 2, 1) := by decide +kernel
theorem dX9_timesSung_30 : decode cX9_timesSung 30 = .ok (.iinc 3 1, 3) := by decide +kernel
theorem dX9_timesSung_33 : decode cX9_timesSung 33 = .ok (.goto (-29), 3) := by decide +kernel
theorem dX9_timesSung_36 : decode cX9_timesSung 36 = .ok (.iload_n 2, 1) := by decide +kernel
theorem dX9_timesSung_37 : decode cX9_timesSung 37 = .ok (.ireturn, 1) := by decide +kernel
theorem dX9_ofBar_0 : decode cX9_ofBar 0 = .ok (.aload_n 0, 1) := by decide +kernel
theorem dX9_ofBar_1 : decode cX9_ofBar 1 = .ok (.iconst 0, 1) := by decide +kernel
theorem dX9_ofBar_2 : decode cX9_ofBar 2 = .ok (.putfield 56, 3) := by decide +kernel
theorem dX9_ofBar_5 : decode cX9_ofBar 5 = .ok (.aload_n 0, 1) := by decide +kernel
theorem dX9_ofBar_6 : decode cX9_ofBar 6 = .ok (.iload_n 1, 1) := by decide +kernel
theorem dX9_ofBar_7 : decode cX9_ofBar 7 = .ok (.invokevirtual 130, 3) := by decide +kernel
theorem dX9_ofBar_10 : decode cX9_ofBar 10 = .ok (.ifCond .ne 5, 3) := by decide +kernel
theorem dX9_ofBar_13 : decode cX9_ofBar 13 = .ok (.iconst (-1), 1) := by decide +kernel
theorem dX9_ofBar_14 : decode cX9_ofBar 14 = .ok (.ireturn, 1) := by decide +kernel
theorem dX9_ofBar_15 : decode cX9_ofBar 15 = .ok (.aload_n 0, 1) := by decide +kernel
theorem dX9_ofBar_16 : decode cX9_ofBar 16 = .ok (.invokevirtual 108, 3) := by decide +kernel
theorem dX9_ofBar_19 : decode cX9_ofBar 19 = .ok (.iload_n 2, 1) := by decide +kernel
theorem dX9_ofBar_20 : decode cX9_ofBar 20 = .ok (.tableswitch 92 0 5 #[40, 50, 60, 66, 72, 78], 40) := by decide +kernel
theorem dX9_ofBar_60 : decode cX9_ofBar 60 = .ok (.aload_n 0, 1) := by decide +kernel
theorem dX9_ofBar_61 : decode cX9_ofBar 61 = .ok (.getfield 7, 3) := by decide +kernel
theorem dX9_ofBar_64 : decode cX9_ofBar 64 = .ok (.bipush 6, 2) := by decide +kernel
theorem dX9_ofBar_66 : decode cX9_ofBar 66 = .ok (.iload_n 1, 1) := by decide +kernel
theorem dX9_ofBar_67 : decode cX9_ofBar 67 = .ok (.iadd, 1) := by decide +kernel
theorem dX9_ofBar_68 : decode cX9_ofBar 68 = .ok (.iaload, 1) := by decide +kernel
theorem dX9_ofBar_69 : decode cX9_ofBar 69 = .ok (.ireturn, 1) := by decide +kernel
theorem dX9_ofBar_70 : decode cX9_ofBar 70 = .ok (.aload_n 0, 1) := by decide +kernel
theorem dX9_ofBar_71 : decode cX9_ofBar 71 = .ok (.getfield 7, 3) := by decide +kernel
theorem dX9_ofBar_74 : decode cX9_ofBar 74 = .ok (.bipush 66, 2) := by decide +kernel
theorem dX9_ofBar_76 : decode cX9_ofBar 76 = .ok (.iload_n 1, 1) := by decide +kernel
theorem dX9_ofBar_77 : decode cX9_ofBar 77 = .ok (.iadd, 1) := by decide +kernel
theorem dX9_ofBar_78 : decode cX9_ofBar 78 = .ok (.iaload, 1) := by decide +kernel
theorem dX9_ofBar_79 : decode cX9_ofBar 79 = .ok (.ireturn, 1) := by decide +kernel
theorem dX9_ofBar_80 : decode cX9_ofBar 80 = .ok (.aload_n 0, 1) := by decide +kernel
theorem dX9_ofBar_81 : decode cX9_ofBar 81 = .ok (.iload_n 1, 1) := by decide +kernel
theorem dX9_ofBar_82 : decode cX9_ofBar 82 = .ok (.invokevirtual 77, 3) := by decide +kernel
theorem dX9_ofBar_85 : decode cX9_ofBar 85 = .ok (.ireturn, 1) := by decide +kernel
theorem dX9_ofBar_86 : decode cX9_ofBar 86 = .ok (.aload_n 0, 1) := by decide +kernel
theorem dX9_ofBar_87 : decode cX9_ofBar 87 = .ok (.iload_n 1, 1) := by decide +kernel
theorem dX9_ofBar_88 : decode cX9_ofBar 88 = .ok (.invokevirtual 160, 3) := by decide +kernel
theorem dX9_ofBar_91 : decode cX9_ofBar 91 = .ok (.ireturn, 1) := by decide +kernel
theorem dX9_ofBar_92 : decode cX9_ofBar 92 = .ok (.aload_n 0, 1) := by decide +kernel
theorem dX9_ofBar_93 : decode cX9_ofBar 93 = .ok (.iload_n 1, 1) := by decide +kernel
theorem dX9_ofBar_94 : decode cX9_ofBar 94 = .ok (.invokevirtual 93, 3) := by decide +kernel
theorem dX9_ofBar_97 : decode cX9_ofBar 97 = .ok (.ireturn, 1) := by decide +kernel
theorem dX9_ofBar_98 : decode cX9_ofBar 98 = .ok (.aload_n 0, 1) := by decide +kernel
theorem dX9_ofBar_99 : decode cX9_ofBar 99 = .ok (.iload_n 1, 1) := by decide +kernel
theorem dX9_ofBar_100 : decode cX9_ofBar 100 = .ok (.invokevirtual 67, 3) := by decide +kernel
theorem dX9_ofBar_103 : decode cX9_ofBar 103 = .ok (.ifCond .eq 7, 3) := by decide +kernel
theorem dX9_ofBar_106 : decode cX9_ofBar 106 = .ok (.iconst 1, 1) := by decide +kernel
theorem dX9_ofBar_107 : decode cX9_ofBar 107 = .ok (.goto 4, 3) := by decide +kernel
theorem dX9_ofBar_110 : decode cX9_ofBar 110 = .ok (.iconst 0, 1) := by decide +kernel
theorem dX9_ofBar_111 : decode cX9_ofBar 111 = .ok (.ireturn, 1) := by decide +kernel
theorem dX9_ofBar_112 : decode cX9_ofBar 112 = .ok (.bipush (-2), 2) := by decide +kernel
theorem dX9_ofBar_114 : decode cX9_ofBar 114 = .ok (.ireturn, 1) := by decide +kernel
theorem dX9_isBlack_0 : decode cX9_isBlack 0 = .ok (.iconst 0, 1) := by decide +kernel
theorem dX9_isBlack_1 : decode cX9_isBlack 1 = .ok (.istore_n 2, 1) := by decide +kernel
theorem dX9_isBlack_2 : decode cX9_isBlack 2 = .ok (.iconst 0, 1) := by decide +kernel
theorem dX9_isBlack_3 : decode cX9_isBlack 3 = .ok (.istore_n 3, 1) := by decide +kernel
theorem dX9_isBlack_4 : decode cX9_isBlack 4 = .ok (.iload_n 3, 1) := by decide +kernel
theorem dX9_isBlack_5 : decode cX9_isBlack 5 = .ok (.aload_n 0, 1) := by decide +kernel
theorem dX9_isBlack_6 : decode cX9_isBlack 6 = .ok (.getfield 7, 3) := by decide +kernel
theorem dX9_isBlack_9 : decode cX9_isBlack 9 = .ok (.iconst 4, 1) := by decide +kernel
theorem dX9_isBlack_10 : decode cX9_isBlack 10 = .ok (.iaload, 1) := by decide +kernel
theorem dX9_isBlack_11 : decode cX9_isBlack 11 = .ok (.if_icmp .ge 52, 3) := by decide +kernel
theorem dX9_isBlack_14 : decode cX9_isBlack 14 = .ok (.iload_n 2, 1) := by decide +kernel
theorem dX9_isBlack_15 : decode cX9_isBlack 15 = .ok (.ifCond .ne 36, 3) := by decide +kernel
theorem dX9_isBlack_18 : decode cX9_isBlack 18 = .ok (.iload_n 1, 1) := by decide +kernel
theorem dX9_isBlack_19 : decode cX9_isBlack 19 = .ok (.aload_n 0, 1) := by decide +kernel
theorem dX9_isBlack_20 : decode cX9_isBlack 20 = .ok (.getfield 7, 3) := by decide +kernel
theorem dX9_isBlack_23 : decode cX9_isBlack 23 = .ok (.sipush 142, 3) := by decide +kernel
theorem dX9_isBlack_26 : decode cX9_isBlack 26 = .ok (.iconst 2, 1) := by decide +kernel
theorem dX9_isBlack_27 : decode cX9_isBlack 27 = .ok (.iload_n 3, 1) := by decide +kernel
theorem dX9_isBlack_28 : decode cX9_isBlack 28 = .ok (.imul, 1) := by decide +kernel
theorem dX9_isBlack_29 : decode cX9_isBlack 29 = .ok (.iadd, 1) := by decide +kernel
theorem dX9_isBlack_30 : decode cX9_isBlack 30 = .ok (.iaload, 1) := by decide +kernel
theorem dX9_isBlack_31 : decode cX9_isBlack 31 = .ok (.aload_n 0, 1) := by decide +kernel
theorem dX9_isBlack_32 : decode cX9_isBlack 32 = .ok (.getfield 7, 3) := by decide +kernel
theorem dX9_isBlack_35 : decode cX9_isBlack 35 = .ok (.sipush 142, 3) := by decide +kernel
theorem dX9_isBlack_38 : decode cX9_isBlack 38 = .ok (.iconst 2, 1) := by decide +kernel
theorem dX9_isBlack_39 : decode cX9_isBlack 39 = .ok (.iload_n 3, 1) := by decide +kernel
theorem dX9_isBlack_40 : decode cX9_isBlack 40 = .ok (.imul, 1) := by decide +kernel
theorem dX9_isBlack_41 : decode cX9_isBlack 41 = .ok (.iadd, 1) := by decide +kernel
theorem dX9_isBlack_42 : decode cX9_isBlack 42 = .ok (.iconst 1, 1) := by decide +kernel
theorem dX9_isBlack_43 : decode cX9_isBlack 43 = .ok (.iadd, 1) := by decide +kernel
theorem dX9_isBlack_44 : decode cX9_isBlack 44 = .ok (.iaload, 1) := by decide +kernel
theorem dX9_isBlack_45 : decode cX9_isBlack 45 = .ok (.invokestatic 60, 3) := by decide +kernel
theorem dX9_isBlack_48 : decode cX9_isBlack 48 = .ok (.ifCond .eq 7, 3) := by decide +kernel
theorem dX9_isBlack_51 : decode cX9_isBlack 51 = .ok (.iconst 1, 1) := by decide +kernel
theorem dX9_isBlack_52 : decode cX9_isBlack 52 = .ok (.goto 4, 3) := by decide +kernel
theorem dX9_isBlack_55 : decode cX9_isBlack 55 = .ok (.iconst 0, 1) := by decide +kernel
theorem dX9_isBlack_56 : decode cX9_isBlack 56 = .ok (.istore_n 2, 1) := by decide +kernel
theorem dX9_isBlack_57 : decode cX9_isBlack 57 = .ok (.iinc 3 1, 3) := by decide +kernel
theorem dX9_isBlack_60 : decode cX9_isBlack 60 = .ok (.goto (-56), 3) := by decide +kernel
theorem dX9_isBlack_63 : decode cX9_isBlack 63 = .ok (.iload_n 2, 1) := by decide +kernel
theorem dX9_isBlack_64 : decode cX9_isBlack 64 = .ok (.ireturn, 1) := by decide +kernel
theorem dX9_sung_0 : decode cX9_sung 0 = .ok (.aload_n 0, 1) := by decide +kernel
theorem dX9_sung_1 : decode cX9_sung 1 = .ok (.iconst 0, 1) := by decide +kernel
theorem dX9_sung_2 : decode cX9_sung 2 = .ok (.putfield 56, 3) := by decide +kernel
theorem dX9_sung_5 : decode cX9_sung 5 = .ok (.aload_n 0, 1) := by decide +kernel
theorem dX9_sung_6 : decode cX9_sung 6 = .ok (.invokevirtual 108, 3) := by decide +kernel
theorem dX9_sung_9 : decode cX9_sung 9 = .ok (.iload_n 1, 1) := by decide +kernel
theorem dX9_sung_10 : decode cX9_sung 10 = .ok (.iconst 0, 1) := by decide +kernel
theorem dX9_sung_11 : decode cX9_sung 11 = .ok (.aload_n 0, 1) := by decide +kernel
theorem dX9_sung_12 : decode cX9_sung 12 = .ok (.getfield 71, 3) := by decide +kernel
theorem dX9_sung_15 : decode cX9_sung 15 = .ok (.iconst 1, 1) := by decide +kernel
theorem dX9_sung_16 : decode cX9_sung 16 = .ok (.isub, 1) := by decide +kernel
theorem dX9_sung_17 : decode cX9_sung 17 = .ok (.invokestatic 60, 3) := by decide +kernel
theorem dX9_sung_20 : decode cX9_sung 20 = .ok (.ifCond .ne 5, 3) := by decide +kernel
theorem dX9_sung_23 : decode cX9_sung 23 = .ok (.iconst (-1), 1) := by decide +kernel
theorem dX9_sung_24 : decode cX9_sung 24 = .ok (.ireturn, 1) := by decide +kernel
theorem dX9_sung_25 : decode cX9_sung 25 = .ok (.iload_n 2, 1) := by decide +kernel
theorem dX9_sung_26 : decode cX9_sung 26 = .ok (.tableswitch 54 0 2 #[26, 33, 40], 26) := by decide +kernel
theorem dX9_sung_52 : decode cX9_sung 52 = .ok (.aload_n 0, 1) := by decide +kernel
theorem dX9_sung_53 : decode cX9_sung 53 = .ok (.getfield 26, 3) := by decide +kernel
theorem dX9_sung_56 : decode cX9_sung 56 = .ok (.iload_n 1, 1) := by decide +kernel
theorem dX9_sung_57 : decode cX9_sung 57 = .ok (.iaload, 1) := by decide +kernel
theorem dX9_sung_58 : decode cX9_sung 58 = .ok (.ireturn, 1) := by decide +kernel
theorem dX9_sung_59 : decode cX9_sung 59 = .ok (.aload_n 0, 1) := by decide +kernel
theorem dX9_sung_60 : decode cX9_sung 60 = .ok (.getfield 29, 3) := by decide +kernel
theorem dX9_sung_63 : decode cX9_sung 63 = .ok (.iload_n 1, 1) := by decide +kernel
theorem dX9_sung_64 : decode cX9_sung 64 = .ok (.iaload, 1) := by decide +kernel
theorem dX9_sung_65 : decode cX9_sung 65 = .ok (.ireturn, 1) := by decide +kernel
theorem dX9_sung_66 : decode cX9_sung 66 = .ok (.aload_n 0, 1) := by decide +kernel
theorem dX9_sung_67 : decode cX9_sung 67 = .ok (.iload_n 1, 1) := by decide +kernel
theorem dX9_sung_68 : decode cX9_sung 68 = .ok (.invokevirtual 163, 3) := by decide +kernel
theorem dX9_sung_71 : decode cX9_sung 71 = .ok (.ifCond .eq 7, 3) := by decide +kernel
theorem dX9_sung_74 : decode cX9_sung 74 = .ok (.iconst 1, 1) := by decide +kernel
theorem dX9_sung_75 : decode cX9_sung 75 = .ok (.goto 4, 3) := by decide +kernel
theorem dX9_sung_78 : decode cX9_sung 78 = .ok (.iconst 0, 1) := by decide +kernel
theorem dX9_sung_79 : decode cX9_sung 79 = .ok (.ireturn, 1) := by decide +kernel
theorem dX9_sung_80 : decode cX9_sung 80 = .ok (.bipush (-2), 2) := by decide +kernel
theorem dX9_sung_82 : decode cX9_sung 82 = .ok (.ireturn, 1) := by decide +kernel
theorem dX9_showingsOf_0 : decode cX9_showingsOf 0 = .ok (.iconst 0, 1) := by decide +kernel
theorem dX9_showingsOf_1 : decode cX9_showingsOf 1 = .ok (.istore_n 3, 1) := by decide +kernel
theorem dX9_showingsOf_2 : decode cX9_showingsOf 2 = .ok (.iconst 0, 1) := by decide +kernel
theorem dX9_showingsOf_3 : decode cX9_showingsOf 3 = .ok (.istore 4, 2) := by decide +kernel
theorem dX9_showingsOf_5 : decode cX9_showingsOf 5 = .ok (.iload 4, 2) := by decide +kernel
theorem dX9_showingsOf_7 : decode cX9_showingsOf 7 = .ok (.aload_n 0, 1) := by decide +kernel
theorem dX9_showingsOf_8 : decode cX9_showingsOf 8 = .ok (.getfield 102, 3) := by decide +kernel
theorem dX9_showingsOf_11 : decode cX9_showingsOf 11 = .ok (.if_icmp .ge 90, 3) := by decide +kernel
theorem dX9_showingsOf_14 : decode cX9_showingsOf 14 = .ok (.aload_n 0, 1) := by decide +kernel
theorem dX9_showingsOf_15 : decode cX9_showingsOf 15 = .ok (.getfield 44, 3) := by decide +kernel
theorem dX9_showingsOf_18 : decode cX9_showingsOf 18 = .ok (.iload 4, 2) := by decide +kernel
theorem dX9_showingsOf_20 : decode cX9_showingsOf 20 = .ok (.iaload, 1) := by decide +kernel
theorem dX9_showingsOf_21 : decode cX9_showingsOf 21 = .ok (.ifCond .ne 7, 3) := by decide +kernel
theorem dX9_showingsOf_24 : decode cX9_showingsOf 24 = .ok (.iconst 1, 1) := by decide +kernel
theorem dX9_showingsOf_25 : decode cX9_showingsOf 25 = .ok (.goto 4, 3) := by decide +kernel
theorem dX9_showingsOf_28 : decode cX9_showingsOf 28 = .ok (.iconst 0, 1) := by decide +kernel
theorem dX9_showingsOf_29 : decode cX9_showingsOf 29 = .ok (.istore 5, 2) := by decide +kernel
theorem dX9_showingsOf_31 : decode cX9_showingsOf 31 = .ok (.iload_n 2, 1) := by decide +kernel
theorem dX9_showingsOf_32 : decode cX9_showingsOf 32 = .ok (.iconst 4, 1) := by decide +kernel
theorem dX9_showingsOf_33 : decode cX9_showingsOf 33 = .ok (.if_icmp .ne 7, 3) := by decide +kernel
theorem dX9_showingsOf_36 : decode cX9_showingsOf 36 = .ok (.iconst 1, 1) := by decide +kernel
theorem dX9_showingsOf_37 : decode cX9_showingsOf 37 = .ok (.goto 36, 3) := by decide +kernel
theorem dX9_showingsOf_40 : decode cX9_showingsOf 40 = .ok (.iload 5, 2) := by decide +kernel
theorem dX9_showingsOf_42 : decode cX9_showingsOf 42 = .ok (.ifCond .ne 7, 3) := by decide +kernel
theorem dX9_showingsOf_45 : decode cX9_showingsOf 45 = .ok (.iconst 0, 1) := by decide +kernel
theorem dX9_showingsOf_46 : decode cX9_showingsOf 46 = .ok (.goto 27, 3) := by decide +kernel
theorem dX9_showingsOf_49 : decode cX9_showingsOf 49 = .ok (.iload_n 2, 1) := by decide +kernel
theorem dX9_showingsOf_50 : decode cX9_showingsOf 50 = .ok (.iconst 5, 1) := by decide +kernel
theorem dX9_showingsOf_51 : decode cX9_showingsOf 51 = .ok (.if_icmp .ne 7, 3) := by decide +kernel
theorem dX9_showingsOf_54 : decode cX9_showingsOf 54 = .ok (.iconst 1, 1) := by decide +kernel
theorem dX9_showingsOf_55 : decode cX9_showingsOf 55 = .ok (.goto 18, 3) := by decide +kernel
theorem dX9_showingsOf_58 : decode cX9_showingsOf 58 = .ok (.aload_n 0, 1) := by decide +kernel
theorem dX9_showingsOf_59 : decode cX9_showingsOf 59 = .ok (.getfield 50, 3) := by decide +kernel
theorem dX9_showingsOf_62 : decode cX9_showingsOf 62 = .ok (.iload 4, 2) := by decide +kernel
theorem dX9_showingsOf_64 : decode cX9_showingsOf 64 = .ok (.iaload, 1) := by decide +kernel
theorem dX9_showingsOf_65 : decode cX9_showingsOf 65 = .ok (.aload_n 0, 1) := by decide +kernel
theorem dX9_showingsOf_66 : decode cX9_showingsOf 66 = .ok (.getfield 47, 3) := by decide +kernel
theorem dX9_showingsOf_69 : decode cX9_showingsOf 69 = .ok (.iload 4, 2) := by decide +kernel
theorem dX9_showingsOf_71 : decode cX9_showingsOf 71 = .ok (.iaload, 1) := by decide +kernel
theorem dX9_showingsOf_72 : decode cX9_showingsOf 72 = .ok (.isub, 1) := by decide +kernel
theorem dX9_showingsOf_73 : decode cX9_showingsOf 73 = .ok (.istore 6, 2) := by decide +kernel
theorem dX9_showingsOf_75 : decode cX9_showingsOf 75 = .ok (.iload_n 3, 1) := by decide +kernel
theorem dX9_showingsOf_76 : decode cX9_showingsOf 76 = .ok (.aload_n 0, 1) := by decide +kernel
theorem dX9_showingsOf_77 : decode cX9_showingsOf 77 = .ok (.getfield 32, 3) := by decide +kernel
theorem dX9_showingsOf_80 : decode cX9_showingsOf 80 = .ok (.iload 4, 2) := by decide +kernel
theorem dX9_showingsOf_82 : decode cX9_showingsOf 82 = .ok (.iaload, 1) := by decide +kernel
theorem dX9_showingsOf_83 : decode cX9_showingsOf 83 = .ok (.iload_n 1, 1) := by decide +kernel
theorem dX9_showingsOf_84 : decode cX9_showingsOf 84 = .ok (.if_icmp .ne 8, 3) := by decide +kernel
theorem dX9_showingsOf_87 : decode cX9_showingsOf 87 = .ok (.iload 6, 2) := by decide +kernel
theorem dX9_showingsOf_89 : decode cX9_showingsOf 89 = .ok (.goto 4, 3) := by decide +kernel
theorem dX9_showingsOf_92 : decode cX9_showingsOf 92 = .ok (.iconst 0, 1) := by decide +kernel
theorem dX9_showingsOf_93 : decode cX9_showingsOf 93 = .ok (.iadd, 1) := by decide +kernel
theorem dX9_showingsOf_94 : decode cX9_showingsOf 94 = .ok (.istore_n 3, 1) := by decide +kernel
theorem dX9_showingsOf_95 : decode cX9_showingsOf 95 = .ok (.iinc 4 1, 3) := by decide +kernel
theorem dX9_showingsOf_98 : decode cX9_showingsOf 98 = .ok (.goto (-93), 3) := by decide +kernel
theorem dX9_showingsOf_101 : decode cX9_showingsOf 101 = .ok (.iload_n 3, 1) := by decide +kernel
theorem dX9_showingsOf_102 : decode cX9_showingsOf 102 = .ok (.ireturn, 1) := by decide +kernel
theorem dX9_ofTitle_0 : decode cX9_ofTitle 0 = .ok (.aload_n 0, 1) := by decide +kernel
theorem dX9_ofTitle_1 : decode cX9_ofTitle 1 = .ok (.iconst 0, 1) := by decide +kernel
theorem dX9_ofTitle_2 : decode cX9_ofTitle 2 = .ok (.putfield 56, 3) := by decide +kernel
theorem dX9_ofTitle_5 : decode cX9_ofTitle 5 = .ok (.iload_n 1, 1) := by decide +kernel
theorem dX9_ofTitle_6 : decode cX9_ofTitle 6 = .ok (.iconst 0, 1) := by decide +kernel
theorem dX9_ofTitle_7 : decode cX9_ofTitle 7 = .ok (.aload_n 0, 1) := by decide +kernel
theorem dX9_ofTitle_8 : decode cX9_ofTitle 8 = .ok (.getfield 7, 3) := by decide +kernel
theorem dX9_ofTitle_11 : decode cX9_ofTitle 11 = .ok (.iconst 5, 1) := by decide +kernel
theorem dX9_ofTitle_12 : decode cX9_ofTitle 12 = .ok (.iaload, 1) := by decide +kernel
theorem dX9_ofTitle_13 : decode cX9_ofTitle 13 = .ok (.iconst 1, 1) := by decide +kernel
theorem dX9_ofTitle_14 : decode cX9_ofTitle 14 = .ok (.isub, 1) := by decide +kernel
theorem dX9_ofTitle_15 : decode cX9_ofTitle 15 = .ok (.invokestatic 60, 3) := by decide +kernel
theorem dX9_ofTitle_18 : decode cX9_ofTitle 18 = .ok (.ifCond .ne 5, 3) := by decide +kernel
theorem dX9_ofTitle_21 : decode cX9_ofTitle 21 = .ok (.iconst (-1), 1) := by decide +kernel
theorem dX9_ofTitle_22 : decode cX9_ofTitle 22 = .ok (.ireturn, 1) := by decide +kernel
theorem dX9_ofTitle_23 : decode cX9_ofTitle 23 = .ok (.iload_n 2, 1) := by decide +kernel
theorem dX9_ofTitle_24 : decode cX9_ofTitle 24 = .ok (.iconst 0, 1) := by decide +kernel
theorem dX9_ofTitle_25 : decode cX9_ofTitle 25 = .ok (.iconst 3, 1) := by decide +kernel
theorem dX9_ofTitle_26 : decode cX9_ofTitle 26 = .ok (.invokestatic 60, 3) := by decide +kernel
theorem dX9_ofTitle_29 : decode cX9_ofTitle 29 = .ok (.ifCond .eq 10, 3) := by decide +kernel
theorem dX9_ofTitle_32 : decode cX9_ofTitle 32 = .ok (.aload_n 0, 1) := by decide +kernel
theorem dX9_ofTitle_33 : decode cX9_ofTitle 33 = .ok (.iload_n 1, 1) := by decide +kernel
theorem dX9_ofTitle_34 : decode cX9_ofTitle 34 = .ok (.iload_n 2, 1) := by decide +kernel
theorem dX9_ofTitle_35 : decode cX9_ofTitle 35 = .ok (.invokevirtual 89, 3) := by decide +kernel
theorem dX9_ofTitle_38 : decode cX9_ofTitle 38 = .ok (.ireturn, 1) := by decide +kernel
theorem dX9_ofTitle_39 : decode cX9_ofTitle 39 = .ok (.aload_n 0, 1) := by decide +kernel
theorem dX9_ofTitle_40 : decode cX9_ofTitle 40 = .ok (.invokevirtual 166, 3) := by decide +kernel
theorem dX9_ofTitle_43 : decode cX9_ofTitle 43 = .ok (.iload_n 2, 1) := by decide +kernel
theorem dX9_ofTitle_44 : decode cX9_ofTitle 44 = .ok (.iconst 4, 1) := by decide +kernel
theorem dX9_ofTitle_45 : decode cX9_ofTitle 45 = .ok (.bipush 6, 2) := by decide +kernel
theorem dX9_ofTitle_47 : decode cX9_ofTitle 47 = .ok (.invokestatic 60, 3) := by decide +kernel
theorem dX9_ofTitle_50 : decode cX9_ofTitle 50 = .ok (.ifCond .eq 12, 3) := by decide +kernel
theorem dX9_ofTitle_53 : decode cX9_ofTitle 53 = .ok (.aload_n 0, 1) := by decide +kernel
theorem dX9_ofTitle_54 : decode cX9_ofTitle 54 = .ok (.iload_n 1, 1) := by decide +kernel
theorem dX9_ofTitle_55 : decode cX9_ofTitle 55 = .ok (.iload_n 2, 1) := by decide +kernel
theorem dX9_ofTitle_56 : decode cX9_ofTitle 56 = .ok (.invokevirtual 169, 3) := by decide +kernel
theorem dX9_ofTitle_59 : decode cX9_ofTitle 59 = .ok (.goto 5, 3) := by decide +kernel
theorem dX9_ofTitle_62 : decode cX9_ofTitle 62 = .ok (.bipush (-2), 2) := by decide +kernel
theorem dX9_ofTitle_64 : decode cX9_ofTitle 64 = .ok (.ireturn, 1) := by decide +kernel
theorem dX9_speed_0 : decode cX9_speed 0 = .ok (.aload_n 0, 1) := by decide +kernel
theorem dX9_speed_1 : decode cX9_speed 1 = .ok (.getfield 44, 3) := by decide +kernel
theorem dX9_speed_4 : decode cX9_speed 4 = .ok (.iload_n 1, 1) := by decide +kernel
theorem dX9_speed_5 : decode cX9_speed 5 = .ok (.iaload, 1) := by decide +kernel
theorem dX9_speed_6 : decode cX9_speed 6 = .ok (.ifCond .eq 6, 3) := by decide +kernel
theorem dX9_speed_9 : decode cX9_speed 9 = .ok (.bipush (-6), 2) := by decide +kernel
theorem dX9_speed_11 : decode cX9_speed 11 = .ok (.ireturn, 1) := by decide +kernel
theorem dX9_speed_12 : decode cX9_speed 12 = .ok (.aload_n 0, 1) := by decide +kernel
theorem dX9_speed_13 : decode cX9_speed 13 = .ok (.getfield 50, 3) := by decide +kernel
theorem dX9_speed_16 : decode cX9_speed 16 = .ok (.iload_n 1, 1) := by decide +kernel
theorem dX9_speed_17 : decode cX9_speed 17 = .ok (.iaload, 1) := by decide +kernel
theorem dX9_speed_18 : decode cX9_speed 18 = .ok (.aload_n 0, 1) := by decide +kernel
theorem dX9_speed_19 : decode cX9_speed 19 = .ok (.getfield 47, 3) := by decide +kernel
theorem dX9_speed_22 : decode cX9_speed 22 = .ok (.iload_n 1, 1) := by decide +kernel
theorem dX9_speed_23 : decode cX9_speed 23 = .ok (.iaload, 1) := by decide +kernel
theorem dX9_speed_24 : decode cX9_speed 24 = .ok (.isub, 1) := by decide +kernel
theorem dX9_speed_25 : decode cX9_speed 25 = .ok (.istore_n 2, 1) := by decide +kernel
theorem dX9_speed_26 : decode cX9_speed 26 = .ok (.iload_n 2, 1) := by decide +kernel
theorem dX9_speed_27 : decode cX9_speed 27 = .ok (.ifCond .ne 9, 3) := by decide +kernel
theorem dX9_speed_30 : decode cX9_speed 30 = .ok (.sipush 999, 3) := by decide +kernel
theorem dX9_speed_33 : decode cX9_speed 33 = .ok (.goto 19, 3) := by decide +kernel
theorem dX9_speed_36 : decode cX9_speed 36 = .ok (.aload_n 0, 1) := by decide +kernel
theorem dX9_speed_37 : decode cX9_speed 37 = .ok (.aload_n 0, 1) := by decide +kernel
theorem dX9_speed_38 : decode cX9_speed 38 = .ok (.getfield 32, 3) := by decide +kernel
theorem dX9_speed_41 : decode cX9_speed 41 = .ok (.iload_n 1, 1) := by decide +kernel
theorem dX9_speed_42 : decode cX9_speed 42 = .ok (.iaload, 1) := by decide +kernel
theorem dX9_speed_43 : decode cX9_speed 43 = .ok (.iconst 3, 1) := by decide +kernel
theorem dX9_speed_44 : decode cX9_speed 44 = .ok (.invokevirtual 89, 3) := by decide +kernel
theorem dX9_speed_47 : decode cX9_speed 47 = .ok (.bipush 10, 2) := by decide +kernel
theorem dX9_speed_49 : decode cX9_speed 49 = .ok (.imul, 1) := by decide +kernel
theorem dX9_speed_50 : decode cX9_speed 50 = .ok (.iload_n 2, 1) := by decide +kernel
theorem dX9_speed_51 : decode cX9_speed 51 = .ok (.idiv, 1) := by decide +kernel
theorem dX9_speed_52 : decode cX9_speed 52 = .ok (.ireturn, 1) := by decide +kernel
theorem dX9_showing_0 : decode cX9_showing 0 = .ok (.aload_n 0, 1) := by decide +kernel
theorem dX9_showing_1 : decode cX9_showing 1 = .ok (.iconst 0, 1) := by decide +kernel
theorem dX9_showing_2 : decode cX9_showing 2 = .ok (.putfield 56, 3) := by decide +kernel
theorem dX9_showing_5 : decode cX9_showing 5 = .ok (.aload_n 0, 1) := by decide +kernel
theorem dX9_showing_6 : decode cX9_showing 6 = .ok (.invokevirtual 166, 3) := by decide +kernel
theorem dX9_showing_9 : decode cX9_showing 9 = .ok (.iload_n 1, 1) := by decide +kernel
theorem dX9_showing_10 : decode cX9_showing 10 = .ok (.iconst 0, 1) := by decide +kernel
theorem dX9_showing_11 : decode cX9_showing 11 = .ok (.aload_n 0, 1) := by decide +kernel
theorem dX9_showing_12 : decode cX9_showing 12 = .ok (.getfield 102, 3) := by decide +kernel
theorem dX9_showing_15 : decode cX9_showing 15 = .ok (.iconst 1, 1) := by decide +kernel
theorem dX9_showing_16 : decode cX9_showing 16 = .ok (.isub, 1) := by decide +kernel
theorem dX9_showing_17 : decode cX9_showing 17 = .ok (.invokestatic 60, 3) := by decide +kernel
theorem dX9_showing_20 : decode cX9_showing 20 = .ok (.ifCond .ne 5, 3) := by decide +kernel
theorem dX9_showing_23 : decode cX9_showing 23 = .ok (.iconst (-1), 1) := by decide +kernel
theorem dX9_showing_24 : decode cX9_showing 24 = .ok (.ireturn, 1) := by decide +kernel
theorem dX9_showing_25 : decode cX9_showing 25 = .ok (.iload_n 2, 1) := by decide +kernel
theorem dX9_showing_26 : decode cX9_showing 26 = .ok (.tableswitch 101 0 7 #[46, 53, 60, 67, 74, 81, 88, 95], 46) := by decide +kernel
theorem dX9_showing_72 : decode cX9_showing 72 = .ok (.aload_n 0, 1) := by decide +kernel
theorem dX9_showing_73 : decode cX9_showing 73 = .ok (.getfield 32, 3) := by decide +kernel
theorem dX9_showing_76 : decode cX9_showing 76 = .ok (.iload_n 1, 1) := by decide +kernel
theorem dX9_showing_77 : decode cX9_showing 77 = .ok (.iaload, 1) := by decide +kernel
theorem dX9_showing_78 : decode cX9_showing 78 = .ok (.ireturn, 1) := by decide +kernel
theorem dX9_showing_79 : decode cX9_showing 79 = .ok (.aload_n 0, 1) := by decide +kernel
theorem dX9_showing_80 : decode cX9_showing 80 = .ok (.getfield 35, 3) := by decide +kernel
theorem dX9_showing_83 : decode cX9_showing 83 = .ok (.iload_n 1, 1) := by decide +kernel
theorem dX9_showing_84 : decode cX9_showing 84 = .ok (.iaload, 1) := by decide +kernel
theorem dX9_showing_85 : decode cX9_showing 85 = .ok (.ireturn, 1) := by decide +kernel
theorem dX9_showing_86 : decode cX9_showing 86 = .ok (.aload_n 0, 1) := by decide +kernel
theorem dX9_showing_87 : decode cX9_showing 87 = .ok (.getfield 38, 3) := by decide +kernel
theorem dX9_showing_90 : decode cX9_showing 90 = .ok (.iload_n 1, 1) := by decide +kernel
theorem dX9_showing_91 : decode cX9_showing 91 = .ok (.iaload, 1) := by decide +kernel
theorem dX9_showing_92 : decode cX9_showing 92 = .ok (.ireturn, 1) := by decide +kernel
theorem dX9_showing_93 : decode cX9_showing 93 = .ok (.aload_n 0, 1) := by decide +kernel
theorem dX9_showing_94 : decode cX9_showing 94 = .ok (.getfield 41, 3) := by decide +kernel
theorem dX9_showing_97 : decode cX9_showing 97 = .ok (.iload_n 1, 1) := by decide +kernel
theorem dX9_showing_98 : decode cX9_showing 98 = .ok (.iaload, 1) := by decide +kernel
theorem dX9_showing_99 : decode cX9_showing 99 = .ok (.ireturn, 1) := by decide +kernel
theorem dX9_showing_100 : decode cX9_showing 100 = .ok (.aload_n 0, 1) := by decide +kernel
theorem dX9_showing_101 : decode cX9_showing 101 = .ok (.getfield 44, 3) := by decide +kernel
theorem dX9_showing_104 : decode cX9_showing 104 = .ok (.iload_n 1, 1) := by decide +kernel
theorem dX9_showing_105 : decode cX9_showing 105 = .ok (.iaload, 1) := by decide +kernel
theorem dX9_showing_106 : decode cX9_showing 106 = .ok (.ireturn, 1) := by decide +kernel
theorem dX9_showing_107 : decode cX9_showing 107 = .ok (.aload_n 0, 1) := by decide +kernel
theorem dX9_showing_108 : decode cX9_showing 108 = .ok (.getfield 47, 3) := by decide +kernel
theorem dX9_showing_111 : decode cX9_showing 111 = .ok (.iload_n 1, 1) := by decide +kernel
theorem dX9_showing_112 : decode cX9_showing 112 = .ok (.iaload, 1) := by decide +kernel
theorem dX9_showing_113 : decode cX9_showing 113 = .ok (.ireturn, 1) := by decide +kernel
theorem dX9_showing_114 : decode cX9_showing 114 = .ok (.aload_n 0, 1) := by decide +kernel
theorem dX9_showing_115 : decode cX9_showing 115 = .ok (.getfield 50, 3) := by decide +kernel
theorem dX9_showing_118 : decode cX9_showing 118 = .ok (.iload_n 1, 1) := by decide +kernel
theorem dX9_showing_119 : decode cX9_showing 119 = .ok (.iaload, 1) := by decide +kernel
theorem dX9_showing_120 : decode cX9_showing 120 = .ok (.ireturn, 1) := by decide +kernel
theorem dX9_showing_121 : decode cX9_showing 121 = .ok (.aload_n 0, 1) := by decide +kernel
theorem dX9_showing_122 : decode cX9_showing 122 = .ok (.iload_n 1, 1) := by decide +kernel
theorem dX9_showing_123 : decode cX9_showing 123 = .ok (.invokevirtual 172, 3) := by decide +kernel
theorem dX9_showing_126 : decode cX9_showing 126 = .ok (.ireturn, 1) := by decide +kernel
theorem dX9_showing_127 : decode cX9_showing 127 = .ok (.bipush (-2), 2) := by decide +kernel
theorem dX9_showing_129 : decode cX9_showing 129 = .ok (.ireturn, 1) := by decide +kernel
theorem dX9_at_0 : decode cX9_at 0 = .ok (.aload_n 0, 1) := by decide +kernel
theorem dX9_at_1 : decode cX9_at 1 = .ok (.iconst 0, 1) := by decide +kernel
theorem dX9_at_2 : decode cX9_at 2 = .ok (.putfield 56, 3) := by decide +kernel
theorem dX9_at_5 : decode cX9_at 5 = .ok (.iload_n 1, 1) := by decide +kernel
theorem dX9_at_6 : decode cX9_at 6 = .ok (.ifCond .ge 6, 3) := by decide +kernel
theorem dX9_at_9 : decode cX9_at 9 = .ok (.bipush (-2), 2) := by decide +kernel
theorem dX9_at_11 : decode cX9_at 11 = .ok (.ireturn, 1) := by decide +kernel
theorem dX9_at_12 : decode cX9_at 12 = .ok (.aload_n 0, 1) := by decide +kernel
theorem dX9_at_13 : decode cX9_at 13 = .ok (.invokevirtual 166, 3) := by decide +kernel
theorem dX9_at_16 : decode cX9_at 16 = .ok (.iconst 0, 1) := by decide +kernel
theorem dX9_at_17 : decode cX9_at 17 = .ok (.istore_n 2, 1) := by decide +kernel
theorem dX9_at_18 : decode cX9_at 18 = .ok (.iload_n 2, 1) := by decide +kernel
theorem dX9_at_19 : decode cX9_at 19 = .ok (.aload_n 0, 1) := by decide +kernel
theorem dX9_at_20 : decode cX9_at 20 = .ok (.getfield 102, 3) := by decide +kernel
theorem dX9_at_23 : decode cX9_at 23 = .ok (.if_icmp .ge 45, 3) := by decide +kernel
theorem dX9_at_26 : decode cX9_at 26 = .ok (.aload_n 0, 1) := by decide +kernel
theorem dX9_at_27 : decode cX9_at 27 = .ok (.getfield 44, 3) := by decide +kernel
theorem dX9_at_30 : decode cX9_at 30 = .ok (.iload_n 2, 1) := by decide +kernel
theorem dX9_at_31 : decode cX9_at 31 = .ok (.iaload, 1) := by decide +kernel
theorem dX9_at_32 : decode cX9_at 32 = .ok (.ifCond .ne 30, 3) := by decide +kernel
theorem dX9_at_35 : decode cX9_at 35 = .ok (.aload_n 0, 1) := by decide +kernel
theorem dX9_at_36 : decode cX9_at 36 = .ok (.getfield 47, 3) := by decide +kernel
theorem dX9_at_39 : decode cX9_at 39 = .ok (.iload_n 2, 1) := by decide +kernel
theorem dX9_at_40 : decode cX9_at 40 = .ok (.iaload, 1) := by decide +kernel
theorem dX9_at_41 : decode cX9_at 41 = .ok (.iload_n 1, 1) := by decide +kernel
theorem dX9_at_42 : decode cX9_at 42 = .ok (.if_icmp .gt 20, 3) := by decide +kernel
theorem dX9_at_45 : decode cX9_at 45 = .ok (.aload_n 0, 1) := by decide +kernel
theorem dX9_at_46 : decode cX9_at 46 = .ok (.getfield 50, 3) := by decide +kernel
theorem dX9_at_49 : decode cX9_at 49 = .ok (.iload_n 2, 1) := by decide +kernel
theorem dX9_at_50 : decode cX9_at 50 = .ok (.iaload, 1) := by decide +kernel
theorem dX9_at_51 : decode cX9_at 51 = .ok (.iload_n 1, 1) := by decide +kernel
theorem dX9_at_52 : decode cX9_at 52 = .ok (.if_icmp .le 10, 3) := by decide +kernel
theorem dX9_at_55 : decode cX9_at 55 = .ok (.aload_n 0, 1) := by decide +kernel
theorem dX9_at_56 : decode cX9_at 56 = .ok (.getfield 32, 3) := by decide +kernel
theorem dX9_at_59 : decode cX9_at 59 = .ok (.iload_n 2, 1) := by decide +kernel
theorem dX9_at_60 : decode cX9_at 60 = .ok (.iaload, 1) := by decide +kernel
theorem dX9_at_61 : decode cX9_at 61 = .ok (.ireturn, 1) := by decide +kernel
theorem dX9_at_62 : decode cX9_at 62 = .ok (.iinc 2 1, 3) := by decide +kernel
theorem dX9_at_65 : decode cX9_at 65 = .ok (.goto (-47), 3) := by decide +kernel
theorem dX9_at_68 : decode cX9_at 68 = .ok (.bipush (-6), 2) := by decide +kernel
theorem dX9_at_70 : decode cX9_at 70 = .ok (.ireturn, 1) := by decide +kernel
theorem dX9_shownTenths_0 : decode cX9_shownTenths 0 = .ok (.iconst 0, 1) := by decide +kernel
theorem dX9_shownTenths_1 : decode cX9_shownTenths 1 = .ok (.istore_n 1, 1) := by decide +kernel
theorem dX9_shownTenths_2 : decode cX9_shownTenths 2 = .ok (.iconst 0, 1) := by decide +kernel
theorem dX9_shownTenths_3 : decode cX9_shownTenths 3 = .ok (.istore_n 2, 1) := by decide +kernel
theorem dX9_shownTenths_4 : decode cX9_shownTenths 4 = .ok (.iload_n 2, 1) := by decide +kernel
theorem dX9_shownTenths_5 : decode cX9_shownTenths 5 = .ok (.aload_n 0, 1) := by decide +kernel
theorem dX9_shownTenths_6 : decode cX9_shownTenths 6 = .ok (.getfield 102, 3) := by decide +kernel
theorem dX9_shownTenths_9 : decode cX9_shownTenths 9 = .ok (.if_icmp .ge 38, 3) := by decide +kernel
theorem dX9_shownTenths_12 : decode cX9_shownTenths 12 = .ok (.iload_n 1, 1) := by decide +kernel
theorem dX9_shownTenths_13 : decode cX9_shownTenths 13 = .ok (.aload_n 0, 1) := by decide +kernel
theorem dX9_shownTenths_14 : decode cX9_shownTenths 14 = .ok (.getfield 44, 3) := by decide +kernel
theorem dX9_shownTenths_17 : decode cX9_shownTenths 17 = .ok (.iload_n 2, 1) := by decide +kernel
theorem dX9_shownTenths_18 : decode cX9_shownTenths 18 = .ok (.iaload, 1) := by decide +kernel
theorem dX9_shownTenths_19 : decode cX9_shownTenths 19 = .ok (.ifCond .ne 19, 3) := by decide +kernel
theorem dX9_shownTenths_22 : decode cX9_shownTenths 22 = .ok (.aload_n 0, 1) := by decide +kernel
theorem dX9_shownTenths_23 : decode cX9_shownTenths 23 = .ok (.getfield 50, 3) := by decide +kernel
theorem dX9_shownTenths_26 : decode cX9_shownTenths 26 = .ok (.iload_n 2, 1) := by decide +kernel
theorem dX9_shownTenths_27 : decode cX9_shownTenths 27 = .ok (.iaload, 1) := by decide +kernel
theorem dX9_shownTenths_28 : decode cX9_shownTenths 28 = .ok (.aload_n 0, 1) := by decide +kernel
theorem dX9_shownTenths_29 : decode cX9_shownTenths 29 = .ok (.getfield 47, 3) := by decide +kernel
theorem dX9_shownTenths_32 : decode cX9_shownTenths 32 = .ok (.iload_n 2, 1) := by decide +kernel
theorem dX9_shownTenths_33 : decode cX9_shownTenths 33 = .ok (.iaload, 1) := by decide +kernel
theorem dX9_shownTenths_34 : decode cX9_shownTenths 34 = .ok (.isub, 1) := by decide +kernel
theorem dX9_shownTenths_35 : decode cX9_shownTenths 35 = .ok (.goto 4, 3) := by decide +kernel
theorem dX9_shownTenths_38 : decode cX9_shownTenths 38 = .ok (.iconst 0, 1) := by decide +kernel
theorem dX9_shownTenths_39 : decode cX9_shownTenths 39 = .ok (.iadd, 1) := by decide +kernel
theorem dX9_shownTenths_40 : decode cX9_shownTenths 40 = .ok (.istore_n 1, 1) := by decide +kernel
theorem dX9_shownTenths_41 : decode cX9_shownTenths 41 = .ok (.iinc 2 1, 3) := by decide +kernel
theorem dX9_shownTenths_44 : decode cX9_shownTenths 44 = .ok (.goto (-40), 3) := by decide +kernel
theorem dX9_shownTenths_47 : decode cX9_shownTenths 47 = .ok (.iload_n 1, 1) := by decide +kernel
theorem dX9_shownTenths_48 : decode cX9_shownTenths 48 = .ok (.ireturn, 1) := by decide +kernel
theorem dX9_count_0 : decode cX9_count 0 = .ok (.aload_n 0, 1) := by decide +kernel
theorem dX9_count_1 : decode cX9_count 1 = .ok (.iconst 0, 1) := by decide +kernel
theorem dX9_count_2 : decode cX9_count 2 = .ok (.putfield 56, 3) := by decide +kernel
theorem dX9_count_5 : decode cX9_count 5 = .ok (.aload_n 0, 1) := by decide +kernel
theorem dX9_count_6 : decode cX9_count 6 = .ok (.invokevirtual 166, 3) := by decide +kernel
theorem dX9_count_9 : decode cX9_count 9 = .ok (.iload_n 1, 1) := by decide +kernel
theorem dX9_count_10 : decode cX9_count 10 = .ok (.tableswitch 155 0 14 #[74, 81, 88, 95, 102, 109, 116, 121, 126, 131, 131, 131, 140, 145, 150], 74) := by decide +kernel
theorem dX9_count_84 : decode cX9_count 84 = .ok (.aload_n 0, 1) := by decide +kernel
theorem dX9_count_85 : decode cX9_count 85 = .ok (.getfield 7, 3) := by decide +kernel
theorem dX9_count_88 : decode cX9_count 88 = .ok (.iconst 0, 1) := by decide +kernel
theorem dX9_count_89 : decode cX9_count 89 = .ok (.iaload, 1) := by decide +kernel
theorem dX9_count_90 : decode cX9_count 90 = .ok (.ireturn, 1) := by decide +kernel
theorem dX9_count_91 : decode cX9_count 91 = .ok (.aload_n 0, 1) := by decide +kernel
theorem dX9_count_92 : decode cX9_count 92 = .ok (.getfield 7, 3) := by decide +kernel
theorem dX9_count_95 : decode cX9_count 95 = .ok (.iconst 2, 1) := by decide +kernel
theorem dX9_count_96 : decode cX9_count 96 = .ok (.iaload, 1) := by decide +kernel
theorem dX9_count_97 : decode cX9_count 97 = .ok (.ireturn, 1) := by decide +kernel
theorem dX9_count_98 : decode cX9_count 98 = .ok (.aload_n 0, 1) := by decide +kernel
theorem dX9_count_99 : decode cX9_count 99 = .ok (.getfield 7, 3) := by decide +kernel
theorem dX9_count_102 : decode cX9_count 102 = .ok (.iconst 3, 1) := by decide +kernel
theorem dX9_count_103 : decode cX9_count 103 = .ok (.iaload, 1) := by decide +kernel
theorem dX9_count_104 : decode cX9_count 104 = .ok (.ireturn, 1) := by decide +kernel
theorem dX9_count_105 : decode cX9_count 105 = .ok (.aload_n 0, 1) := by decide +kernel
theorem dX9_count_106 : decode cX9_count 106 = .ok (.getfield 7, 3) := by decide +kernel
theorem dX9_count_109 : decode cX9_count 109 = .ok (.iconst 4, 1) := by decide +kernel
theorem dX9_count_110 : decode cX9_count 110 = .ok (.iaload, 1) := by decide +kernel
theorem dX9_count_111 : decode cX9_count 111 = .ok (.ireturn, 1) := by decide +kernel
theorem dX9_count_112 : decode cX9_count 112 = .ok (.aload_n 0, 1) := by decide +kernel
theorem dX9_count_113 : decode cX9_count 113 = .ok (.getfield 7, 3) := by decide +kernel
theorem dX9_count_116 : decode cX9_count 116 = .ok (.iconst 5, 1) := by decide +kernel
theorem dX9_count_117 : decode cX9_count 117 = .ok (.iaload, 1) := by decide +kernel
theorem dX9_count_118 : decode cX9_count 118 = .ok (.ireturn, 1) := by decide +kernel
theorem dX9_count_119 : decode cX9_count 119 = .ok (.aload_n 0, 1) := by decide +kernel
theorem dX9_count_120 : decode cX9_count 120 = .ok (.getfield 7, 3) := by decide +kernel
theorem dX9_count_123 : decode cX9_count 123 = .ok (.iconst 1, 1) := by decide +kernel
theorem dX9_count_124 : decode cX9_count 124 = .ok (.iaload, 1) := by decide +kernel
theorem dX9_count_125 : decode cX9_count 125 = .ok (.ireturn, 1) := by decide +kernel
theorem dX9_count_126 : decode cX9_count 126 = .ok (.aload_n 0, 1) := by decide +kernel
theorem dX9_count_127 : decode cX9_count 127 = .ok (.getfield 71, 3) := by decide +kernel
theorem dX9_count_130 : decode cX9_count 130 = .ok (.ireturn, 1) := by decide +kernel
theorem dX9_count_131 : decode cX9_count 131 = .ok (.aload_n 0, 1) := by decide +kernel
theorem dX9_count_132 : decode cX9_count 132 = .ok (.getfield 74, 3) := by decide +kernel
theorem dX9_count_135 : decode cX9_count 135 = .ok (.ireturn, 1) := by decide +kernel
theorem dX9_count_136 : decode cX9_count 136 = .ok (.aload_n 0, 1) := by decide +kernel
theorem dX9_count_137 : decode cX9_count 137 = .ok (.getfield 102, 3) := by decide +kernel
theorem dX9_count_140 : decode cX9_count 140 = .ok (.ireturn, 1) := by decide +kernel
theorem dX9_count_141 : decode cX9_count 141 = .ok (.aload_n 0, 1) := by decide +kernel
theorem dX9_count_142 : decode cX9_count 142 = .ok (.iload_n 1, 1) := by decide +kernel
theorem dX9_count_143 : decode cX9_count 143 = .ok (.bipush 9, 2) := by decide +kernel
theorem dX9_count_145 : decode cX9_count 145 = .ok (.isub, 1) := by decide +kernel
theorem dX9_count_146 : decode cX9_count 146 = .ok (.invokevirtual 175, 3) := by decide +kernel
theorem dX9_count_149 : decode cX9_count 149 = .ok (.ireturn, 1) := by decide +kernel
theorem dX9_count_150 : decode cX9_count 150 = .ok (.aload_n 0, 1) := by decide +kernel
theorem dX9_count_151 : decode cX9_count 151 = .ok (.invokevirtual 178, 3) := by decide +kernel
theorem dX9_count_154 : decode cX9_count 154 = .ok (.ireturn, 1) := by decide +kernel
theorem dX9_count_155 : decode cX9_count 155 = .ok (.aload_n 0, 1) := by decide +kernel
theorem dX9_count_156 : decode cX9_count 156 = .ok (.getfield 182, 3) := by decide +kernel
theorem dX9_count_159 : decode cX9_count 159 = .ok (.ireturn, 1) := by decide +kernel
theorem dX9_count_160 : decode cX9_count 160 = .ok (.aload_n 0, 1) := by decide +kernel
theorem dX9_count_161 : decode cX9_count 161 = .ok (.getfield 64, 3) := by decide +kernel
theorem dX9_count_164 : decode cX9_count 164 = .ok (.ireturn, 1) := by decide +kernel
theorem dX9_count_165 : decode cX9_count 165 = .ok (.bipush (-2), 2) := by decide +kernel
theorem dX9_count_167 : decode cX9_count 167 = .ok (.ireturn, 1) := by decide +kernel
theorem dX9_cutIf_0 : decode cX9_cutIf 0 = .ok (.aload_n 0, 1) := by decide +kernel
theorem dX9_cutIf_1 : decode cX9_cutIf 1 = .ok (.iconst 0, 1) := by decide +kernel
theorem dX9_cutIf_2 : decode cX9_cutIf 2 = .ok (.putfield 56, 3) := by decide +kernel
theorem dX9_cutIf_5 : decode cX9_cutIf 5 = .ok (.aload_n 0, 1) := by decide +kernel
theorem dX9_cutIf_6 : decode cX9_cutIf 6 = .ok (.iload_n 1, 1) := by decide +kernel
theorem dX9_cutIf_7 : decode cX9_cutIf 7 = .ok (.invokevirtual 130, 3) := by decide +kernel
theorem dX9_cutIf_10 : decode cX9_cutIf 10 = .ok (.ifCond .eq 11, 3) := by decide +kernel
theorem dX9_cutIf_13 : decode cX9_cutIf 13 = .ok (.aload_n 0, 1) := by decide +kernel
theorem dX9_cutIf_14 : decode cX9_cutIf 14 = .ok (.iload_n 2, 1) := by decide +kernel
theorem dX9_cutIf_15 : decode cX9_cutIf 15 = .ok (.invokevirtual 130, 3) := by decide +kernel
theorem dX9_cutIf_18 : decode cX9_cutIf 18 = .ok (.ifCond .ne 5, 3) := by decide +kernel
theorem dX9_cutIf_21 : decode cX9_cutIf 21 = .ok (.iconst (-1), 1) := by decide +kernel
theorem dX9_cutIf_22 : decode cX9_cutIf 22 = .ok (.ireturn, 1) := by decide +kernel
theorem dX9_cutIf_23 : decode cX9_cutIf 23 = .ok (.iload_n 2, 1) := by decide +kernel
theorem dX9_cutIf_24 : decode cX9_cutIf 24 = .ok (.iload_n 1, 1) := by decide +kernel
theorem dX9_cutIf_25 : decode cX9_cutIf 25 = .ok (.if_icmp .lt 12, 3) := by decide +kernel
theorem dX9_cutIf_28 : decode cX9_cutIf 28 = .ok (.iload_n 3, 1) := by decide +kernel
theorem dX9_cutIf_29 : decode cX9_cutIf 29 = .ok (.iconst 0, 1) := by decide +kernel
theorem dX9_cutIf_30 : decode cX9_cutIf 30 = .ok (.iconst 1, 1) := by decide +kernel
theorem dX9_cutIf_31 : decode cX9_cutIf 31 = .ok (.invokestatic 60, 3) := by decide +kernel
theorem dX9_cutIf_34 : decode cX9_cutIf 34 = .ok (.ifCond .ne 6, 3) := by decide +kernel
theorem dX9_cutIf_37 : decode cX9_cutIf 37 = .ok (.bipush (-2), 2) := by decide +kernel
theorem dX9_cutIf_39 : decode cX9_cutIf 39 = .ok (.ireturn, 1) := by decide +kernel
theorem dX9_cutIf_40 : decode cX9_cutIf 40 = .ok (.aload_n 0, 1) := by decide +kernel
theorem dX9_cutIf_41 : decode cX9_cutIf 41 = .ok (.getfield 7, 3) := by decide +kernel
theorem dX9_cutIf_44 : decode cX9_cutIf 44 = .ok (.iconst 3, 1) := by decide +kernel
theorem dX9_cutIf_45 : decode cX9_cutIf 45 = .ok (.iaload, 1) := by decide +kernel
theorem dX9_cutIf_46 : decode cX9_cutIf 46 = .ok (.iconst 4, 1) := by decide +kernel
theorem dX9_cutIf_47 : decode cX9_cutIf 47 = .ok (.if_icmp .ne 6, 3) := by decide +kernel
theorem dX9_cutIf_50 : decode cX9_cutIf 50 = .ok (.bipush (-4), 2) := by decide +kernel
theorem dX9_cutIf_52 : decode cX9_cutIf 52 = .ok (.ireturn, 1) := by decide +kernel
theorem dX9_cutIf_53 : decode cX9_cutIf 53 = .ok (.aload_n 0, 1) := by decide +kernel
theorem dX9_cutIf_54 : decode cX9_cutIf 54 = .ok (.invokevirtual 166, 3) := by decide +kernel
theorem dX9_cutIf_57 : decode cX9_cutIf 57 = .ok (.aload_n 0, 1) := by decide +kernel
theorem dX9_cutIf_58 : decode cX9_cutIf 58 = .ok (.getfield 74, 3) := by decide +kernel
theorem dX9_cutIf_61 : decode cX9_cutIf 61 = .ok (.istore 4, 2) := by decide +kernel
theorem dX9_cutIf_63 : decode cX9_cutIf 63 = .ok (.aload_n 0, 1) := by decide +kernel
theorem dX9_cutIf_64 : decode cX9_cutIf 64 = .ok (.invokevirtual 185, 3) := by decide +kernel
theorem dX9_cutIf_67 : decode cX9_cutIf 67 = .ok (.istore 5, 2) := by decide +kernel
theorem dX9_cutIf_69 : decode cX9_cutIf 69 = .ok (.aload_n 0, 1) := by decide +kernel
theorem dX9_cutIf_70 : decode cX9_cutIf 70 = .ok (.sipush 134, 3) := by decide +kernel
theorem dX9_cutIf_73 : decode cX9_cutIf 73 = .ok (.iconst 3, 1) := by decide +kernel
theorem dX9_cutIf_74 : decode cX9_cutIf 74 = .ok (.iload_n 1, 1) := by decide +kernel
theorem dX9_cutIf_75 : decode cX9_cutIf 75 = .ok (.iload_n 2, 1) := by decide +kernel
theorem dX9_cutIf_76 : decode cX9_cutIf 76 = .ok (.invokevirtual 147, 3) := by decide +kernel
theorem dX9_cutIf_79 : decode cX9_cutIf 79 = .ok (.pop, 1) := by decide +kernel
theorem dX9_cutIf_80 : decode cX9_cutIf 80 = .ok (.aload_n 0, 1) := by decide +kernel
theorem dX9_cutIf_81 : decode cX9_cutIf 81 = .ok (.invokevirtual 166, 3) := by decide +kernel
theorem dX9_cutIf_84 : decode cX9_cutIf 84 = .ok (.aload_n 0, 1) := by decide +kernel
theorem dX9_cutIf_85 : decode cX9_cutIf 85 = .ok (.invokevirtual 185, 3) := by decide +kernel
theorem dX9_cutIf_88 : decode cX9_cutIf 88 = .ok (.istore 6, 2) := by decide +kernel
theorem dX9_cutIf_90 : decode cX9_cutIf 90 = .ok (.aload_n 0, 1) := by decide +kernel
theorem dX9_cutIf_91 : decode cX9_cutIf 91 = .ok (.getfield 7, 3) := by decide +kernel
theorem dX9_cutIf_94 : decode cX9_cutIf 94 = .ok (.iconst 3, 1) := by decide +kernel
theorem dX9_cutIf_95 : decode cX9_cutIf 95 = .ok (.dup2, 1) := by decide +kernel
theorem dX9_cutIf_96 : decode cX9_cutIf 96 = .ok (.iaload, 1) := by decide +kernel
theorem dX9_cutIf_97 : decode cX9_cutIf 97 = .ok (.iconst 1, 1) := by decide +kernel
theorem dX9_cutIf_98 : decode cX9_cutIf 98 = .ok (.isub, 1) := by decide +kernel
theorem dX9_cutIf_99 : decode cX9_cutIf 99 = .ok (.iastore, 1) := by decide +kernel
theorem dX9_cutIf_100 : decode cX9_cutIf 100 = .ok (.aload_n 0, 1) := by decide +kernel
theorem dX9_cutIf_101 : decode cX9_cutIf 101 = .ok (.getfield 7, 3) := by decide +kernel
theorem dX9_cutIf_104 : decode cX9_cutIf 104 = .ok (.sipush 134, 3) := by decide +kernel
theorem dX9_cutIf_107 : decode cX9_cutIf 107 = .ok (.iconst 2, 1) := by decide +kernel
theorem dX9_cutIf_108 : decode cX9_cutIf 108 = .ok (.aload_n 0, 1) := by decide +kernel
theorem dX9_cutIf_109 : decode cX9_cutIf 109 = .ok (.getfield 7, 3) := by decide +kernel
theorem dX9_cutIf_112 : decode cX9_cutIf 112 = .ok (.iconst 3, 1) := by decide +kernel
theorem dX9_cutIf_113 : decode cX9_cutIf 113 = .ok (.iaload, 1) := by decide +kernel
theorem dX9_cutIf_114 : decode cX9_cutIf 114 = .ok (.imul, 1) := by decide +kernel
theorem dX9_cutIf_115 : decode cX9_cutIf 115 = .ok (.iadd, 1) := by decide +kernel
theorem dX9_cutIf_116 : decode cX9_cutIf 116 = .ok (.iconst 0, 1) := by decide +kernel
theorem dX9_cutIf_117 : decode cX9_cutIf 117 = .ok (.iastore, 1) := by decide +kernel
theorem dX9_cutIf_118 : decode cX9_cutIf 118 = .ok (.aload_n 0, 1) := by decide +kernel
theorem dX9_cutIf_119 : decode cX9_cutIf 119 = .ok (.getfield 7, 3) := by decide +kernel
theorem dX9_cutIf_122 : decode cX9_cutIf 122 = .ok (.sipush 134, 3) := by decide +kernel
theorem dX9_cutIf_125 : decode cX9_cutIf 125 = .ok (.iconst 2, 1) := by decide +kernel
theorem dX9_cutIf_126 : decode cX9_cutIf 126 = .ok (.aload_n 0, 1) := by decide +kernel
theorem dX9_cutIf_127 : decode cX9_cutIf 127 = .ok (.getfield 7, 3) := by decide +kernel
theorem dX9_cutIf_130 : decode cX9_cutIf 130 = .ok (.iconst 3, 1) := by decide +kernel
theorem dX9_cutIf_131 : decode cX9_cutIf 131 = .ok (.iaload, 1) := by decide +kernel
theorem dX9_cutIf_132 : decode cX9_cutIf 132 = .ok (.imul, 1) := by decide +kernel
theorem dX9_cutIf_133 : decode cX9_cutIf 133 = .ok (.iadd, 1) := by decide +kernel
theorem dX9_cutIf_134 : decode cX9_cutIf 134 = .ok (.iconst 1, 1) := by decide +kernel
theorem dX9_cutIf_135 : decode cX9_cutIf 135 = .ok (.iadd, 1) := by decide +kernel
theorem dX9_cutIf_136 : decode cX9_cutIf 136 = .ok (.iconst 0, 1) := by decide +kernel
theorem dX9_cutIf_137 : decode cX9_cutIf 137 = .ok (.iastore, 1) := by decide +kernel
theorem dX9_cutIf_138 : decode cX9_cutIf 138 = .ok (.iload_n 3, 1) := by decide +kernel
theorem dX9_cutIf_139 : decode cX9_cutIf 139 = .ok (.ifCond .ne 13, 3) := by decide +kernel
theorem dX9_cutIf_142 : decode cX9_cutIf 142 = .ok (.iload 4, 2) := by decide +kernel
theorem dX9_cutIf_144 : decode cX9_cutIf 144 = .ok (.aload_n 0, 1) := by decide +kernel
theorem dX9_cutIf_145 : decode cX9_cutIf 145 = .ok (.getfield 74, 3) := by decide +kernel
theorem dX9_cutIf_148 : decode cX9_cutIf 148 = .ok (.isub, 1) := by decide +kernel
theorem dX9_cutIf_149 : decode cX9_cutIf 149 = .ok (.goto 10, 3) := by decide +kernel
theorem dX9_cutIf_152 : decode cX9_cutIf 152 = .ok (.iload 5, 2) := by decide +kernel
theorem dX9_cutIf_154 : decode cX9_cutIf 154 = .ok (.iload 6, 2) := by decide +kernel
theorem dX9_cutIf_156 : decode cX9_cutIf 156 = .ok (.iconst (-1), 1) := by decide +kernel
theorem dX9_cutIf_157 : decode cX9_cutIf 157 = .ok (.ixor, 1) := by decide +kernel
theorem dX9_cutIf_158 : decode cX9_cutIf 158 = .ok (.iand, 1) := by decide +kernel
theorem dX9_cutIf_159 : decode cX9_cutIf 159 = .ok (.ireturn, 1) := by decide +kernel
theorem dX9_nightAt_0 : decode cX9_nightAt 0 = .ok (.iconst 0, 1) := by decide +kernel
theorem dX9_nightAt_1 : decode cX9_nightAt 1 = .ok (.istore_n 2, 1) := by decide +kernel
theorem dX9_nightAt_2 : decode cX9_nightAt 2 = .ok (.iconst 0, 1) := by decide +kernel
theorem dX9_nightAt_3 : decode cX9_nightAt 3 = .ok (.istore_n 3, 1) := by decide +kernel
theorem dX9_nightAt_4 : decode cX9_nightAt 4 = .ok (.iload_n 3, 1) := by decide +kernel
theorem dX9_nightAt_5 : decode cX9_nightAt 5 = .ok (.aload_n 0, 1) := by decide +kernel
theorem dX9_nightAt_6 : decode cX9_nightAt 6 = .ok (.getfield 71, 3) := by decide +kernel
theorem dX9_nightAt_9 : decode cX9_nightAt 9 = .ok (.if_icmp .ge 32, 3) := by decide +kernel
theorem dX9_nightAt_12 : decode cX9_nightAt 12 = .ok (.iload_n 2, 1) := by decide +kernel
theorem dX9_nightAt_13 : decode cX9_nightAt 13 = .ok (.sipush 600, 3) := by decide +kernel
theorem dX9_nightAt_16 : decode cX9_nightAt 16 = .ok (.aload_n 0, 1) := by decide +kernel
theorem dX9_nightAt_17 : decode cX9_nightAt 17 = .ok (.getfield 7, 3) := by decide +kernel
theorem dX9_nightAt_20 : decode cX9_nightAt 20 = .ok (.bipush 6, 2) := by decide +kernel
theorem dX9_nightAt_22 : decode cX9_nightAt 22 = .ok (.aload_n 0, 1) := by decide +kernel
theorem dX9_nightAt_23 : decode cX9_nightAt 23 = .ok (.getfield 26, 3) := by decide +kernel
theorem dX9_nightAt_26 : decode cX9_nightAt 26 = .ok (.iload_n 3, 1) := by decide +kernel
theorem dX9_nightAt_27 : decode cX9_nightAt 27 = .ok (.iaload, 1) := by decide +kernel
theorem dX9_nightAt_28 : decode cX9_nightAt 28 = .ok (.iadd, 1) := by decide +kernel
theorem dX9_nightAt_29 : decode cX9_nightAt 29 = .ok (.iaload, 1) := by decide +kernel
theorem dX9_nightAt_30 : decode cX9_nightAt 30 = .ok (.imul, 1) := by decide +kernel
theorem dX9_nightAt_31 : decode cX9_nightAt 31 = .ok (.iload_n 1, 1) := by decide +kernel
theorem dX9_nightAt_32 : decode cX9_nightAt 32 = .ok (.idiv, 1) := by decide +kernel
theorem dX9_nightAt_33 : decode cX9_nightAt 33 = .ok (.iadd, 1) := by decide +kernel
theorem dX9_nightAt_34 : decode cX9_nightAt 34 = .ok (.istore_n 2, 1) := by decide +kernel
theorem dX9_nightAt_35 : decode cX9_nightAt 35 = .ok (.iinc 3 1, 3) := by decide +kernel
theorem dX9_nightAt_38 : decode cX9_nightAt 38 = .ok (.goto (-34), 3) := by decide +kernel
theorem dX9_nightAt_41 : decode cX9_nightAt 41 = .ok (.iload_n 2, 1) := by decide +kernel
theorem dX9_nightAt_42 : decode cX9_nightAt 42 = .ok (.ireturn, 1) := by decide +kernel
theorem dX9_slowest_0 : decode cX9_slowest 0 = .ok (.aload_n 0, 1) := by decide +kernel
theorem dX9_slowest_1 : decode cX9_slowest 1 = .ok (.iconst 0, 1) := by decide +kernel
theorem dX9_slowest_2 : decode cX9_slowest 2 = .ok (.putfield 56, 3) := by decide +kernel
theorem dX9_slowest_5 : decode cX9_slowest 5 = .ok (.iload_n 1, 1) := by decide +kernel
theorem dX9_slowest_6 : decode cX9_slowest 6 = .ok (.ifCond .ge 6, 3) := by decide +kernel
theorem dX9_slowest_9 : decode cX9_slowest 9 = .ok (.bipush (-2), 2) := by decide +kernel
theorem dX9_slowest_11 : decode cX9_slowest 11 = .ok (.ireturn, 1) := by decide +kernel
theorem dX9_slowest_12 : decode cX9_slowest 12 = .ok (.aload_n 0, 1) := by decide +kernel
theorem dX9_slowest_13 : decode cX9_slowest 13 = .ok (.invokevirtual 108, 3) := by decide +kernel
theorem dX9_slowest_16 : decode cX9_slowest 16 = .ok (.bipush 20, 2) := by decide +kernel
theorem dX9_slowest_18 : decode cX9_slowest 18 = .ok (.istore_n 2, 1) := by decide +kernel
theorem dX9_slowest_19 : decode cX9_slowest 19 = .ok (.iload_n 2, 1) := by decide +kernel
theorem dX9_slowest_20 : decode cX9_slowest 20 = .ok (.sipush 240, 3) := by decide +kernel
theorem dX9_slowest_23 : decode cX9_slowest 23 = .ok (.if_icmp .gt 20, 3) := by decide +kernel
theorem dX9_slowest_26 : decode cX9_slowest 26 = .ok (.aload_n 0, 1) := by decide +kernel
theorem dX9_slowest_27 : decode cX9_slowest 27 = .ok (.iload_n 2, 1) := by decide +kernel
theorem dX9_slowest_28 : decode cX9_slowest 28 = .ok (.invokevirtual 188, 3) := by decide +kernel
theorem dX9_slowest_31 : decode cX9_slowest 31 = .ok (.iload_n 1, 1) := by decide +kernel
theorem dX9_slowest_32 : decode cX9_slowest 32 = .ok (.if_icmp .gt 5, 3) := by decide +kernel
theorem dX9_slowest_35 : decode cX9_slowest 35 = .ok (.iload_n 2, 1) := by decide +kernel
theorem dX9_slowest_36 : decode cX9_slowest 36 = .ok (.ireturn, 1) := by decide +kernel
theorem dX9_slowest_37 : decode cX9_slowest 37 = .ok (.iinc 2 1, 3) := by decide +kernel
theorem dX9_slowest_40 : decode cX9_slowest 40 = .ok (.goto (-21), 3) := by decide +kernel
theorem dX9_slowest_43 : decode cX9_slowest 43 = .ok (.bipush (-6), 2) := by decide +kernel
theorem dX9_slowest_45 : decode cX9_slowest 45 = .ok (.ireturn, 1) := by decide +kernel
theorem dX9_put_0 : decode cX9_put 0 = .ok (.aload_n 0, 1) := by decide +kernel
theorem dX9_put_1 : decode cX9_put 1 = .ok (.iconst 0, 1) := by decide +kernel
theorem dX9_put_2 : decode cX9_put 2 = .ok (.putfield 56, 3) := by decide +kernel
theorem dX9_put_5 : decode cX9_put 5 = .ok (.iconst 0, 1) := by decide +kernel
theorem dX9_put_6 : decode cX9_put 6 = .ok (.istore_n 3, 1) := by decide +kernel
theorem dX9_put_7 : decode cX9_put 7 = .ok (.lload_n 1, 1) := by decide +kernel
theorem dX9_put_8 : decode cX9_put 8 = .ok (.lstore 4, 2) := by decide +kernel
theorem dX9_put_10 : decode cX9_put 10 = .ok (.iconst 1, 1) := by decide +kernel
theorem dX9_put_11 : decode cX9_put 11 = .ok (.istore 6, 2) := by decide +kernel
theorem dX9_put_13 : decode cX9_put 13 = .ok (.iload_n 3, 1) := by decide +kernel
theorem dX9_put_14 : decode cX9_put 14 = .ok (.bipush 8, 2) := by decide +kernel
theorem dX9_put_16 : decode cX9_put 16 = .ok (.if_icmp .ge 56, 3) := by decide +kernel
theorem dX9_put_19 : decode cX9_put 19 = .ok (.lload 4, 2) := by decide +kernel
theorem dX9_put_21 : decode cX9_put 21 = .ok (.ldc2_w 191, 3) := by decide +kernel
theorem dX9_put_24 : decode cX9_put 24 = .ok (.land, 1) := by decide +kernel
theorem dX9_put_25 : decode cX9_put 25 = .ok (.lconst 0, 1) := by decide +kernel
theorem dX9_put_26 : decode cX9_put 26 = .ok (.lcmp, 1) := by decide +kernel
theorem dX9_put_27 : decode cX9_put 27 = .ok (.ifCond .eq 45, 3) := by decide +kernel
theorem dX9_put_30 : decode cX9_put 30 = .ok (.iload 6, 2) := by decide +kernel
theorem dX9_put_32 : decode cX9_put 32 = .ok (.ifCond .eq 24, 3) := by decide +kernel
theorem dX9_put_35 : decode cX9_put 35 = .ok (.lload 4, 2) := by decide +kernel
theorem dX9_put_37 : decode cX9_put 37 = .ok (.ldc2_w 191, 3) := by decide +kernel
theorem dX9_put_40 : decode cX9_put 40 = .ok (.land, 1) := by decide +kernel
theorem dX9_put_41 : decode cX9_put 41 = .ok (.l2i, 1) := by decide +kernel
theorem dX9_put_42 : decode cX9_put 42 = .ok (.bipush 33, 2) := by decide +kernel
theorem dX9_put_44 : decode cX9_put 44 = .ok (.bipush 126, 2) := by decide +kernel
theorem dX9_put_46 : decode cX9_put 46 = .ok (.invokestatic 60, 3) := by decide +kernel
theorem dX9_put_49 : decode cX9_put 49 = .ok (.ifCond .eq 7, 3) := by decide +kernel
theorem dX9_put_52 : decode cX9_put 52 = .ok (.iconst 1, 1) := by decide +kernel
theorem dX9_put_53 : decode cX9_put 53 = .ok (.goto 4, 3) := by decide +kernel
theorem dX9_put_56 : decode cX9_put 56 = .ok (.iconst 0, 1) := by decide +kernel
theorem dX9_put_57 : decode cX9_put 57 = .ok (.istore 6, 2) := by decide +kernel
theorem dX9_put_59 : decode cX9_put 59 = .ok (.lload 4, 2) := by decide +kernel
theorem dX9_put_61 : decode cX9_put 61 = .ok (.bipush 8, 2) := by decide +kernel
theorem dX9_put_63 : decode cX9_put 63 = .ok (.lushr, 1) := by decide +kernel
theorem dX9_put_64 : decode cX9_put 64 = .ok (.lstore 4, 2) := by decide +kernel
theorem dX9_put_66 : decode cX9_put 66 = .ok (.iinc 3 1, 3) := by decide +kernel
theorem dX9_put_69 : decode cX9_put 69 = .ok (.goto (-56), 3) := by decide +kernel
theorem dX9_put_72 : decode cX9_put 72 = .ok (.iload_n 3, 1) := by decide +kernel
theorem dX9_put_73 : decode cX9_put 73 = .ok (.ifCond .eq 15, 3) := by decide +kernel
theorem dX9_put_76 : decode cX9_put 76 = .ok (.iload 6, 2) := by decide +kernel
theorem dX9_put_78 : decode cX9_put 78 = .ok (.ifCond .eq 10, 3) := by decide +kernel
theorem dX9_put_81 : decode cX9_put 81 = .ok (.lload 4, 2) := by decide +kernel
theorem dX9_put_83 : decode cX9_put 83 = .ok (.lconst 0, 1) := by decide +kernel
theorem dX9_put_84 : decode cX9_put 84 = .ok (.lcmp, 1) := by decide +kernel
theorem dX9_put_85 : decode cX9_put 85 = .ok (.ifCond .eq 6, 3) := by decide +kernel
theorem dX9_put_88 : decode cX9_put 88 = .ok (.bipush (-2), 2) := by decide +kernel
theorem dX9_put_90 : decode cX9_put 90 = .ok (.ireturn, 1) := by decide +kernel
theorem dX9_put_91 : decode cX9_put 91 = .ok (.aload_n 0, 1) := by decide +kernel
theorem dX9_put_92 : decode cX9_put 92 = .ok (.getfield 182, 3) := by decide +kernel
theorem dX9_put_95 : decode cX9_put 95 = .ok (.iload_n 3, 1) := by decide +kernel
theorem dX9_put_96 : decode cX9_put 96 = .ok (.iadd, 1) := by decide +kernel
theorem dX9_put_97 : decode cX9_put 97 = .ok (.bipush 80, 2) := by decide +kernel
theorem dX9_put_99 : decode cX9_put 99 = .ok (.if_icmp .le 6, 3) := by decide +kernel
theorem dX9_put_102 : decode cX9_put 102 = .ok (.bipush (-4), 2) := by decide +kernel
theorem dX9_put_104 : decode cX9_put 104 = .ok (.ireturn, 1) := by decide +kernel
theorem dX9_put_105 : decode cX9_put 105 = .ok (.iconst 0, 1) := by decide +kernel
theorem dX9_put_106 : decode cX9_put 106 = .ok (.istore 7, 2) := by decide +kernel
theorem dX9_put_108 : decode cX9_put 108 = .ok (.iload 7, 2) := by decide +kernel
theorem dX9_put_110 : decode cX9_put 110 = .ok (.iload_n 3, 1) := by decide +kernel
theorem dX9_put_111 : decode cX9_put 111 = .ok (.if_icmp .ge 37, 3) := by decide +kernel
theorem dX9_put_114 : decode cX9_put 114 = .ok (.aload_n 0, 1) := by decide +kernel
theorem dX9_put_115 : decode cX9_put 115 = .ok (.getfield 23, 3) := by decide +kernel
theorem dX9_put_118 : decode cX9_put 118 = .ok (.aload_n 0, 1) := by decide +kernel
theorem dX9_put_119 : decode cX9_put 119 = .ok (.getfield 182, 3) := by decide +kernel
theorem dX9_put_122 : decode cX9_put 122 = .ok (.iload 7, 2) := by decide +kernel
theorem dX9_put_124 : decode cX9_put 124 = .ok (.iadd, 1) := by decide +kernel
theorem dX9_put_125 : decode cX9_put 125 = .ok (.lload_n 1, 1) := by decide +kernel
theorem dX9_put_126 : decode cX9_put 126 = .ok (.bipush 8, 2) := by decide +kernel
theorem dX9_put_128 : decode cX9_put 128 = .ok (.iload_n 3, 1) := by decide +kernel
theorem dX9_put_129 : decode cX9_put 129 = .ok (.iconst 1, 1) := by decide +kernel
theorem dX9_put_130 : decode cX9_put 130 = .ok (.isub, 1) := by decide +kernel
theorem dX9_put_131 : decode cX9_put 131 = .ok (.iload 7, 2) := by decide +kernel
theorem dX9_put_133 : decode cX9_put 133 = .ok (.isub, 1) := by decide +kernel
theorem dX9_put_134 : decode cX9_put 134 = .ok (.imul, 1) := by decide +kernel
theorem dX9_put_135 : decode cX9_put 135 = .ok (.lushr, 1) := by decide +kernel
theorem dX9_put_136 : decode cX9_put 136 = .ok (.ldc2_w 191, 3) := by decide +kernel
theorem dX9_put_139 : decode cX9_put 139 = .ok (.land, 1) := by decide +kernel
theorem dX9_put_140 : decode cX9_put 140 = .ok (.l2i, 1) := by decide +kernel
theorem dX9_put_141 : decode cX9_put 141 = .ok (.iastore, 1) := by decide +kernel
theorem dX9_put_142 : decode cX9_put 142 = .ok (.iinc 7 1, 3) := by decide +kernel
theorem dX9_put_145 : decode cX9_put 145 = .ok (.goto (-37), 3) := by decide +kernel
theorem dX9_put_148 : decode cX9_put 148 = .ok (.aload_n 0, 1) := by decide +kernel
theorem dX9_put_149 : decode cX9_put 149 = .ok (.dup, 1) := by decide +kernel
theorem dX9_put_150 : decode cX9_put 150 = .ok (.getfield 182, 3) := by decide +kernel
theorem dX9_put_153 : decode cX9_put 153 = .ok (.iload_n 3, 1) := by decide +kernel
theorem dX9_put_154 : decode cX9_put 154 = .ok (.iadd, 1) := by decide +kernel
theorem dX9_put_155 : decode cX9_put 155 = .ok (.putfield 182, 3) := by decide +kernel
theorem dX9_put_158 : decode cX9_put 158 = .ok (.aload_n 0, 1) := by decide +kernel
theorem dX9_put_159 : decode cX9_put 159 = .ok (.getfield 182, 3) := by decide +kernel
theorem dX9_put_162 : decode cX9_put 162 = .ok (.ireturn, 1) := by decide +kernel
theorem dX9_wipe_0 : decode cX9_wipe 0 = .ok (.aload_n 0, 1) := by decide +kernel
theorem dX9_wipe_1 : decode cX9_wipe 1 = .ok (.iconst 0, 1) := by decide +kernel
theorem dX9_wipe_2 : decode cX9_wipe 2 = .ok (.putfield 56, 3) := by decide +kernel
theorem dX9_wipe_5 : decode cX9_wipe 5 = .ok (.aload_n 0, 1) := by decide +kernel
theorem dX9_wipe_6 : decode cX9_wipe 6 = .ok (.getfield 182, 3) := by decide +kernel
theorem dX9_wipe_9 : decode cX9_wipe 9 = .ok (.istore_n 1, 1) := by decide +kernel
theorem dX9_wipe_10 : decode cX9_wipe 10 = .ok (.aload_n 0, 1) := by decide +kernel
theorem dX9_wipe_11 : decode cX9_wipe 11 = .ok (.iconst 0, 1) := by decide +kernel
theorem dX9_wipe_12 : decode cX9_wipe 12 = .ok (.putfield 182, 3) := by decide +kernel
theorem dX9_wipe_15 : decode cX9_wipe 15 = .ok (.iload_n 1, 1) := by decide +kernel
theorem dX9_wipe_16 : decode cX9_wipe 16 = .ok (.ireturn, 1) := by decide +kernel
theorem dX9_sign_0 : decode cX9_sign 0 = .ok (.aload_n 0, 1) := by decide +kernel
theorem dX9_sign_1 : decode cX9_sign 1 = .ok (.getfield 193, 3) := by decide +kernel
theorem dX9_sign_4 : decode cX9_sign 4 = .ok (.aload_n 0, 1) := by decide +kernel
theorem dX9_sign_5 : decode cX9_sign 5 = .ok (.getfield 182, 3) := by decide +kernel
theorem dX9_sign_8 : decode cX9_sign 8 = .ok (.if_icmp .ge 15, 3) := by decide +kernel
theorem dX9_sign_11 : decode cX9_sign 11 = .ok (.aload_n 0, 1) := by decide +kernel
theorem dX9_sign_12 : decode cX9_sign 12 = .ok (.getfield 23, 3) := by decide +kernel
theorem dX9_sign_15 : decode cX9_sign 15 = .ok (.aload_n 0, 1) := by decide +kernel
theorem dX9_sign_16 : decode cX9_sign 16 = .ok (.getfield 193, 3) := by decide +kernel
theorem dX9_sign_19 : decode cX9_sign 19 = .ok (.iaload, 1) := by decide +kernel
theorem dX9_sign_20 : decode cX9_sign 20 = .ok (.goto 4, 3) := by decide +kernel
theorem dX9_sign_23 : decode cX9_sign 23 = .ok (.iconst 0, 1) := by decide +kernel
theorem dX9_sign_24 : decode cX9_sign 24 = .ok (.ireturn, 1) := by decide +kernel
theorem dX9_wants_0 : decode cX9_wants 0 = .ok (.aload_n 0, 1) := by decide +kernel
theorem dX9_wants_1 : decode cX9_wants 1 = .ok (.aload_n 0, 1) := by decide +kernel
theorem dX9_wants_2 : decode cX9_wants 2 = .ok (.getfield 196, 3) := by decide +kernel
theorem dX9_wants_5 : decode cX9_wants 5 = .ok (.ifCond .eq 15, 3) := by decide +kernel
theorem dX9_wants_8 : decode cX9_wants 8 = .ok (.aload_n 0, 1) := by decide +kernel
theorem dX9_wants_9 : decode cX9_wants 9 = .ok (.invokevirtual 200, 3) := by decide +kernel
theorem dX9_wants_12 : decode cX9_wants 12 = .ok (.iload_n 1, 1) := by decide +kernel
theorem dX9_wants_13 : decode cX9_wants 13 = .ok (.if_icmp .ne 7, 3) := by decide +kernel
theorem dX9_wants_16 : decode cX9_wants 16 = .ok (.iconst 1, 1) := by decide +kernel
theorem dX9_wants_17 : decode cX9_wants 17 = .ok (.goto 4, 3) := by decide +kernel
theorem dX9_wants_20 : decode cX9_wants 20 = .ok (.iconst 0, 1) := by decide +kernel
theorem dX9_wants_21 : decode cX9_wants 21 = .ok (.putfield 196, 3) := by decide +kernel
theorem dX9_wants_24 : decode cX9_wants 24 = .ok (.aload_n 0, 1) := by decide +kernel
theorem dX9_wants_25 : decode cX9_wants 25 = .ok (.dup, 1) := by decide +kernel
theorem dX9_wants_26 : decode cX9_wants 26 = .ok (.getfield 193, 3) := by decide +kernel
theorem dX9_wants_29 : decode cX9_wants 29 = .ok (.aload_n 0, 1) := by decide +kernel
theorem dX9_wants_30 : decode cX9_wants 30 = .ok (.getfield 196, 3) := by decide +kernel
theorem dX9_wants_33 : decode cX9_wants 33 = .ok (.ifCond .eq 7, 3) := by decide +kernel
theorem dX9_wants_36 : decode cX9_wants 36 = .ok (.iconst 1, 1) := by decide +kernel
theorem dX9_wants_37 : decode cX9_wants 37 = .ok (.goto 4, 3) := by decide +kernel
theorem dX9_wants_40 : decode cX9_wants 40 = .ok (.iconst 0, 1) := by decide +kernel
theorem dX9_wants_41 : decode cX9_wants 41 = .ok (.iadd, 1) := by decide +kernel
theorem dX9_wants_42 : decode cX9_wants 42 = .ok (.putfield 193, 3) := by decide +kernel
theorem dX9_wants_45 : decode cX9_wants 45 = .ok (.return_, 1) := by decide +kernel
theorem dX9_number_0 : decode cX9_number 0 = .ok (.aload_n 0, 1) := by decide +kernel
theorem dX9_number_1 : decode cX9_number 1 = .ok (.aload_n 0, 1) := by decide +kernel
theorem dX9_number_2 : decode cX9_number 2 = .ok (.getfield 196, 3) := by decide +kernel
theorem dX9_number_5 : decode cX9_number 5 = .ok (.ifCond .eq 21, 3) := by decide +kernel
theorem dX9_number_8 : decode cX9_number 8 = .ok (.aload_n 0, 1) := by decide +kernel
theorem dX9_number_9 : decode cX9_number 9 = .ok (.invokevirtual 200, 3) := by decide +kernel
theorem dX9_number_12 : decode cX9_number 12 = .ok (.bipush 48, 2) := by decide +kernel
theorem dX9_number_14 : decode cX9_number 14 = .ok (.bipush 57, 2) := by decide +kernel
theorem dX9_number_16 : decode cX9_number 16 = .ok (.invokestatic 60, 3) := by decide +kernel
theorem dX9_number_19 : decode cX9_number 19 = .ok (.ifCond .eq 7, 3) := by decide +kernel
theorem dX9_number_22 : decode cX9_number 22 = .ok (.iconst 1, 1) := by decide +kernel
theorem dX9_number_23 : decode cX9_number 23 = .ok (.goto 4, 3) := by decide +kernel
theorem dX9_number_26 : decode cX9_number 26 = .ok (.iconst 0, 1) := by decide +kernel
theorem dX9_number_27 : decode cX9_number 27 = .ok (.putfield 196, 3) := by decide +kernel
theorem dX9_number_30 : decode cX9_number 30 = .ok (.aload_n 0, 1) := by decide +kernel
theorem dX9_number_31 : decode cX9_number 31 = .ok (.invokevirtual 200, 3) := by decide +kernel
theorem dX9_number_34 : decode cX9_number 34 = .ok (.bipush 48, 2) := by decide +kernel
theorem dX9_number_36 : decode cX9_number 36 = .ok (.isub, 1) := by decide +kernel
theorem dX9_number_37 : decode cX9_number 37 = .ok (.istore_n 1, 1) := by decide +kernel
theorem dX9_number_38 : decode cX9_number 38 = .ok (.aload_n 0, 1) := by decide +kernel
theorem dX9_number_39 : decode cX9_number 39 = .ok (.dup, 1) := by decide +kernel
theorem dX9_number_40 : decode cX9_number 40 = .ok (.getfield 193, 3) := by decide +kernel
theorem dX9_number_43 : decode cX9_number 43 = .ok (.aload_n 0, 1) := by decide +kernel
theorem dX9_number_44 : decode cX9_number 44 = .ok (.getfield 196, 3) := by decide +kernel
theorem dX9_number_47 : decode cX9_number 47 = .ok (.ifCond .eq 7, 3) := by decide +kernel
theorem dX9_number_50 : decode cX9_number 50 = .ok (.iconst 1, 1) := by decide +kernel
theorem dX9_number_51 : decode cX9_number 51 = .ok (.goto 4, 3) := by decide +kernel
theorem dX9_number_54 : decode cX9_number 54 = .ok (.iconst 0, 1) := by decide +kernel
theorem dX9_number_55 : decode cX9_number 55 = .ok (.iadd, 1) := by decide +kernel
theorem dX9_number_56 : decode cX9_number 56 = .ok (.putfield 193, 3) := by decide +kernel
theorem dX9_number_59 : decode cX9_number 59 = .ok (.iconst 1, 1) := by decide +kernel
theorem dX9_number_60 : decode cX9_number 60 = .ok (.istore_n 2, 1) := by decide +kernel
theorem dX9_number_61 : decode cX9_number 61 = .ok (.iload_n 2, 1) := by decide +kernel
theorem dX9_number_62 : decode cX9_number 62 = .ok (.iconst 3, 1) := by decide +kernel
theorem dX9_number_63 : decode cX9_number 63 = .ok (.if_icmp .ge 57, 3) := by decide +kernel
theorem dX9_number_66 : decode cX9_number 66 = .ok (.aload_n 0, 1) := by decide +kernel
theorem dX9_number_67 : decode cX9_number 67 = .ok (.getfield 196, 3) := by decide +kernel
theorem dX9_number_70 : decode cX9_number 70 = .ok (.ifCond .eq 50, 3) := by decide +kernel
theorem dX9_number_73 : decode cX9_number 73 = .ok (.iload_n 1, 1) := by decide +kernel
theorem dX9_number_74 : decode cX9_number 74 = .ok (.ifCond .le 46, 3) := by decide +kernel
theorem dX9_number_77 : decode cX9_number 77 = .ok (.aload_n 0, 1) := by decide +kernel
theorem dX9_number_78 : decode cX9_number 78 = .ok (.invokevirtual 200, 3) := by decide +kernel
theorem dX9_number_81 : decode cX9_number 81 = .ok (.bipush 48, 2) := by decide +kernel
theorem dX9_number_83 : decode cX9_number 83 = .ok (.bipush 57, 2) := by decide +kernel
theorem dX9_number_85 : decode cX9_number 85 = .ok (.invokestatic 60, 3) := by decide +kernel
theorem dX9_number_88 : decode cX9_number 88 = .ok (.ifCond .eq 32, 3) := by decide +kernel
theorem dX9_number_91 : decode cX9_number 91 = .ok (.bipush 10, 2) := by decide +kernel
theorem dX9_number_93 : decode cX9_number 93 = .ok (.iload_n 1, 1) := by decide +kernel
theorem dX9_number_94 : decode cX9_number 94 = .ok (.imul, 1) := by decide +kernel
theorem dX9_number_95 : decode cX9_number 95 = .ok (.aload_n 0, 1) := by decide +kernel
theorem dX9_number_96 : decode cX9_number 96 = .ok (.invokevirtual 200, 3) := by decide +kernel
theorem dX9_number_99 : decode cX9_number 99 = .ok (.iadd, 1) := by decide +kernel
theorem dX9_number_100 : decode cX9_number 100 = .ok (.bipush 48, 2) := by decide +kernel
theorem dX9_number_102 : decode cX9_number 102 = .ok (.isub, 1) := by decide +kernel
theorem dX9_number_103 : decode cX9_number 103 = .ok (.istore_n 1, 1) := by decide +kernel
theorem dX9_number_104 : decode cX9_number 104 = .ok (.aload_n 0, 1) := by decide +kernel
theorem dX9_number_105 : decode cX9_number 105 = .ok (.dup, 1) := by decide +kernel
theorem dX9_number_106 : decode cX9_number 106 = .ok (.getfield 193, 3) := by decide +kernel
theorem dX9_number_109 : decode cX9_number 109 = .ok (.iconst 1, 1) := by decide +kernel
theorem dX9_number_110 : decode cX9_number 110 = .ok (.iadd, 1) := by decide +kernel
theorem dX9_number_111 : decode cX9_number 111 = .ok (.putfield 193, 3) := by decide +kernel
theorem dX9_number_114 : decode cX9_number 114 = .ok (.iinc 2 1, 3) := by decide +kernel
theorem dX9_number_117 : decode cX9_number 117 = .ok (.goto (-56), 3) := by decide +kernel
theorem dX9_number_120 : decode cX9_number 120 = .ok (.iload_n 1, 1) := by decide +kernel
theorem dX9_number_121 : decode cX9_number 121 = .ok (.ireturn, 1) := by decide +kernel
theorem dX9_readsOrder_0 : decode cX9_readsOrder 0 = .ok (.aload_n 0, 1) := by decide +kernel
theorem dX9_readsOrder_1 : decode cX9_readsOrder 1 = .ok (.invokevirtual 200, 3) := by decide +kernel
theorem dX9_readsOrder_4 : decode cX9_readsOrder 4 = .ok (.istore_n 1, 1) := by decide +kernel
theorem dX9_readsOrder_5 : decode cX9_readsOrder 5 = .ok (.iload_n 1, 1) := by decide +kernel
theorem dX9_readsOrder_6 : decode cX9_readsOrder 6 = .ok (.bipush 108, 2) := by decide +kernel
theorem dX9_readsOrder_8 : decode cX9_readsOrder 8 = .ok (.if_icmp .eq 15, 3) := by decide +kernel
theorem dX9_readsOrder_11 : decode cX9_readsOrder 11 = .ok (.iload_n 1, 1) := by decide +kernel
theorem dX9_readsOrder_12 : decode cX9_readsOrder 12 = .ok (.bipush 101, 2) := by decide +kernel
theorem dX9_readsOrder_14 : decode cX9_readsOrder 14 = .ok (.if_icmp .eq 9, 3) := by decide +kernel
theorem dX9_readsOrder_17 : decode cX9_readsOrder 17 = .ok (.iload_n 1, 1) := by decide +kernel
theorem dX9_readsOrder_18 : decode cX9_readsOrder 18 = .ok (.bipush 110, 2) := by decide +kernel
theorem dX9_readsOrder_20 : decode cX9_readsOrder 20 = .ok (.if_icmp .ne 7, 3) := by decide +kernel
theorem dX9_readsOrder_23 : decode cX9_readsOrder 23 = .ok (.iconst 1, 1) := by decide +kernel
theorem dX9_readsOrder_24 : decode cX9_readsOrder 24 = .ok (.goto 4, 3) := by decide +kernel
theorem dX9_readsOrder_27 : decode cX9_readsOrder 27 = .ok (.iconst 0, 1) := by decide +kernel
theorem dX9_readsOrder_28 : decode cX9_readsOrder 28 = .ok (.istore_n 2, 1) := by decide +kernel
theorem dX9_readsOrder_29 : decode cX9_readsOrder 29 = .ok (.aload_n 0, 1) := by decide +kernel
theorem dX9_readsOrder_30 : decode cX9_readsOrder 30 = .ok (.aload_n 0, 1) := by decide +kernel
theorem dX9_readsOrder_31 : decode cX9_readsOrder 31 = .ok (.getfield 196, 3) := by decide +kernel
theorem dX9_readsOrder_34 : decode cX9_readsOrder 34 = .ok (.ifCond .eq 35, 3) := by decide +kernel
theorem dX9_readsOrder_37 : decode cX9_readsOrder 37 = .ok (.iload_n 2, 1) := by decide +kernel
theorem dX9_readsOrder_38 : decode cX9_readsOrder 38 = .ok (.ifCond .ne 27, 3) := by decide +kernel
theorem dX9_readsOrder_41 : decode cX9_readsOrder 41 = .ok (.iload_n 1, 1) := by decide +kernel
theorem dX9_readsOrder_42 : decode cX9_readsOrder 42 = .ok (.bipush 98, 2) := by decide +kernel
theorem dX9_readsOrder_44 : decode cX9_readsOrder 44 = .ok (.if_icmp .eq 21, 3) := by decide +kernel
theorem dX9_readsOrder_47 : decode cX9_readsOrder 47 = .ok (.iload_n 1, 1) := by decide +kernel
theorem dX9_readsOrder_48 : decode cX9_readsOrder 48 = .ok (.bipush 114, 2) := by decide +kernel
theorem dX9_readsOrder_50 : decode cX9_readsOrder 50 = .ok (.if_icmp .eq 15, 3) := by decide +kernel
theorem dX9_readsOrder_53 : decode cX9_readsOrder 53 = .ok (.iload_n 1, 1) := by decide +kernel
theorem dX9_readsOrder_54 : decode cX9_readsOrder 54 = .ok (.bipush 120, 2) := by decide +kernel
theorem dX9_readsOrder_56 : decode cX9_readsOrder 56 = .ok (.if_icmp .eq 9, 3) := by decide +kernel
theorem dX9_readsOrder_59 : decode cX9_readsOrder 59 = .ok (.iload_n 1, 1) := by decide +kernel
theorem dX9_readsOrder_60 : decode cX9_readsOrder 60 = .ok (.bipush 45, 2) := by decide +kernel
theorem dX9_readsOrder_62 : decode cX9_readsOrder 62 = .ok (.if_icmp .ne 7, 3) := by decide +kernel
theorem dX9_readsOrder_65 : decode cX9_readsOrder 65 = .ok (.iconst 1, 1) := by decide +kernel
theorem dX9_readsOrder_66 : decode cX9_readsOrder 66 = .ok (.goto 4, 3) := by decide +kernel
theorem dX9_readsOrder_69 : decode cX9_readsOrder 69 = .ok (.iconst 0, 1) := by decide +kernel
theorem dX9_readsOrder_70 : decode cX9_readsOrder 70 = .ok (.putfield 196, 3) := by decide +kernel
theorem dX9_readsOrder_73 : decode cX9_readsOrder 73 = .ok (.aload_n 0, 1) := by decide +kernel
theorem dX9_readsOrder_74 : decode cX9_readsOrder 74 = .ok (.dup, 1) := by decide +kernel
theorem dX9_readsOrder_75 : decode cX9_readsOrder 75 = .ok (.getfield 193, 3) := by decide +kernel
theorem dX9_readsOrder_78 : decode cX9_readsOrder 78 = .ok (.aload_n 0, 1) := by decide +kernel
theorem dX9_readsOrder_79 : decode cX9_readsOrder 79 = .ok (.getfield 196, 3) := by decide +kernel
theorem dX9_readsOrder_82 : decode cX9_readsOrder 82 = .ok (.ifCond .eq 7, 3) := by decide +kernel
theorem dX9_readsOrder_85 : decode cX9_readsOrder 85 = .ok (.iconst 1, 1) := by decide +kernel
theorem dX9_readsOrder_86 : decode cX9_readsOrder 86 = .ok (.goto 4, 3) := by decide +kernel
theorem dX9_readsOrder_89 : decode cX9_readsOrder 89 = .ok (.iconst 0, 1) := by decide +kernel
theorem dX9_readsOrder_90 : decode cX9_readsOrder 90 = .ok (.iadd, 1) := by decide +kernel
theorem dX9_readsOrder_91 : decode cX9_readsOrder 91 = .ok (.putfield 193, 3) := by decide +kernel
theorem dX9_readsOrder_94 : decode cX9_readsOrder 94 = .ok (.aload_n 0, 1) := by decide +kernel
theorem dX9_readsOrder_95 : decode cX9_readsOrder 95 = .ok (.invokevirtual 203, 3) := by decide +kernel
theorem dX9_readsOrder_98 : decode cX9_readsOrder 98 = .ok (.istore_n 3, 1) := by decide +kernel
theorem dX9_readsOrder_99 : decode cX9_readsOrder 99 = .ok (.iconst 0, 1) := by decide +kernel
theorem dX9_readsOrder_100 : decode cX9_readsOrder 100 = .ok (.istore 4, 2) := by decide +kernel
theorem dX9_readsOrder_102 : decode cX9_readsOrder 102 = .ok (.iconst 0, 1) := by decide +kernel
theorem dX9_readsOrder_103 : decode cX9_readsOrder 103 = .ok (.istore 5, 2) := by decide +kernel
theorem dX9_readsOrder_105 : decode cX9_readsOrder 105 = .ok (.iload_n 1, 1) := by decide +kernel
theorem dX9_readsOrder_106 : decode cX9_readsOrder 106 = .ok (.bipush 98, 2) := by decide +kernel
theorem dX9_readsOrder_108 : decode cX9_readsOrder 108 = .ok (.if_icmp .eq 7, 3) := by decide +kernel
theorem dX9_readsOrder_111 : decode cX9_readsOrder 111 = .ok (.iload_n 2, 1) := by decide +kernel
theorem dX9_readsOrder_112 : decode cX9_readsOrder 112 = .ok (.ifCond .eq 48, 3) := by decide +kernel
theorem dX9_readsOrder_115 : decode cX9_readsOrder 115 = .ok (.aload_n 0, 1) := by decide +kernel
theorem dX9_readsOrder_116 : decode cX9_readsOrder 116 = .ok (.iload_n 2, 1) := by decide +kernel
theorem dX9_readsOrder_117 : decode cX9_readsOrder 117 = .ok (.ifCond .eq 8, 3) := by decide +kernel
theorem dX9_readsOrder_120 : decode cX9_readsOrder 120 = .ok (.bipush 43, 2) := by decide +kernel
theorem dX9_readsOrder_122 : decode cX9_readsOrder 122 = .ok (.goto 5, 3) := by decide +kernel
theorem dX9_readsOrder_125 : decode cX9_readsOrder 125 = .ok (.bipush 61, 2) := by decide +kernel
theorem dX9_readsOrder_127 : decode cX9_readsOrder 127 = .ok (.invokevirtual 206, 3) := by decide +kernel
theorem dX9_readsOrder_130 : decode cX9_readsOrder 130 = .ok (.aload_n 0, 1) := by decide +kernel
theorem dX9_readsOrder_131 : decode cX9_readsOrder 131 = .ok (.invokevirtual 203, 3) := by decide +kernel
theorem dX9_readsOrder_134 : decode cX9_readsOrder 134 = .ok (.istore 4, 2) := by decide +kernel
theorem dX9_readsOrder_136 : decode cX9_readsOrder 136 = .ok (.aload_n 0, 1) := by decide +kernel
theorem dX9_readsOrder_137 : decode cX9_readsOrder 137 = .ok (.iload_n 2, 1) := by decide +kernel
theorem dX9_readsOrder_138 : decode cX9_readsOrder 138 = .ok (.ifCond .eq 8, 3) := by decide +kernel
theorem dX9_readsOrder_141 : decode cX9_readsOrder 141 = .ok (.bipush 58, 2) := by decide +kernel
theorem dX9_readsOrder_143 : decode cX9_readsOrder 143 = .ok (.goto 5, 3) := by decide +kernel
theorem dX9_readsOrder_146 : decode cX9_readsOrder 146 = .ok (.bipush 64, 2) := by decide +kernel
theorem dX9_readsOrder_148 : decode cX9_readsOrder 148 = .ok (.invokevirtual 206, 3) := by decide +kernel
theorem dX9_readsOrder_151 : decode cX9_readsOrder 151 = .ok (.aload_n 0, 1) := by decide +kernel
theorem dX9_readsOrder_152 : decode cX9_readsOrder 152 = .ok (.invokevirtual 203, 3) := by decide +kernel
theorem dX9_readsOrder_155 : decode cX9_readsOrder 155 = .ok (.istore 5, 2) := by decide +kernel
theorem dX9_readsOrder_157 : decode cX9_readsOrder 157 = .ok (.goto 27, 3) := by decide +kernel
theorem dX9_readsOrder_160 : decode cX9_readsOrder 160 = .ok (.iload_n 1, 1) := by decide +kernel
theorem dX9_readsOrder_161 : decode cX9_readsOrder 161 = .ok (.bipush 114, 2) := by decide +kernel
theorem dX9_readsOrder_163 : decode cX9_readsOrder 163 = .ok (.if_icmp .eq 9, 3) := by decide +kernel
theorem dX9_readsOrder_166 : decode cX9_readsOrder 166 = .ok (.iload_n 1, 1) := by decide +kernel
theorem dX9_readsOrder_167 : decode cX9_readsOrder 167 = .ok (.bipush 120, 2) := by decide +kernel
theorem dX9_readsOrder_169 : decode cX9_readsOrder 169 = .ok (.if_icmp .ne 15, 3) := by decide +kernel
theorem dX9_readsOrder_172 : decode cX9_readsOrder 172 = .ok (.aload_n 0, 1) := by decide +kernel
theorem dX9_readsOrder_173 : decode cX9_readsOrder 173 = .ok (.bipush 45, 2) := by decide +kernel
theorem dX9_readsOrder_175 : decode cX9_readsOrder 175 = .ok (.invokevirtual 206, 3) := by decide +kernel
theorem dX9_readsOrder_178 : decode cX9_readsOrder 178 = .ok (.aload_n 0, 1) := by decide +kernel
theorem dX9_readsOrder_179 : decode cX9_readsOrder 179 = .ok (.invokevirtual 203, 3) := by decide +kernel
theorem dX9_readsOrder_182 : decode cX9_readsOrder 182 = .ok (.istore 4, 2) := by decide +kernel
theorem dX9_readsOrder_184 : decode cX9_readsOrder 184 = .ok (.aload_n 0, 1) := by decide +kernel
theorem dX9_readsOrder_185 : decode cX9_readsOrder 185 = .ok (.getfield 196, 3) := by decide +kernel
theorem dX9_readsOrder_188 : decode cX9_readsOrder 188 = .ok (.ifCond .eq 69, 3) := by decide +kernel
theorem dX9_readsOrder_191 : decode cX9_readsOrder 191 = .ok (.aload_n 0, 1) := by decide +kernel
theorem dX9_readsOrder_192 : decode cX9_readsOrder 192 = .ok (.getfield 53, 3) := by decide +kernel
theorem dX9_readsOrder_195 : decode cX9_readsOrder 195 = .ok (.iconst 4, 1) := by decide +kernel
theorem dX9_readsOrder_196 : decode cX9_readsOrder 196 = .ok (.aload_n 0, 1) := by decide +kernel
theorem dX9_readsOrder_197 : decode cX9_readsOrder 197 = .ok (.getfield 209, 3) := by decide +kernel
theorem dX9_readsOrder_200 : decode cX9_readsOrder 200 = .ok (.imul, 1) := by decide +kernel
theorem dX9_readsOrder_201 : decode cX9_readsOrder 201 = .ok (.iload_n 1, 1) := by decide +kernel
theorem dX9_readsOrder_202 : decode cX9_readsOrder 202 = .ok (.iastore, 1) := by decide +kernel
theorem dX9_readsOrder_203 : decode cX9_readsOrder 203 = .ok (.aload_n 0, 1) := by decide +kernel
theorem dX9_readsOrder_204 : decode cX9_readsOrder 204 = .ok (.getfield 53, 3) := by decide +kernel
theorem dX9_readsOrder_207 : decode cX9_readsOrder 207 = .ok (.iconst 4, 1) := by decide +kernel
theorem dX9_readsOrder_208 : decode cX9_readsOrder 208 = .ok (.aload_n 0, 1) := by decide +kernel
theorem dX9_readsOrder_209 : decode cX9_readsOrder 209 = .ok (.getfield 209, 3) := by decide +kernel
theorem dX9_readsOrder_212 : decode cX9_readsOrder 212 = .ok (.imul, 1) := by decide +kernel
theorem dX9_readsOrder_213 : decode cX9_readsOrder 213 = .ok (.iconst 1, 1) := by decide +kernel
theorem dX9_readsOrder_214 : decode cX9_readsOrder 214 = .ok (.iadd, 1) := by decide +kernel
theorem dX9_readsOrder_215 : decode cX9_readsOrder 215 = .ok (.iload_n 3, 1) := by decide +kernel
theorem dX9_readsOrder_216 : decode cX9_readsOrder 216 = .ok (.iastore, 1) := by decide +kernel
theorem dX9_readsOrder_217 : decode cX9_readsOrder 217 = .ok (.aload_n 0, 1) := by decide +kernel
theorem dX9_readsOrder_218 : decode cX9_readsOrder 218 = .ok (.getfield 53, 3) := by decide +kernel
theorem dX9_readsOrder_221 : decode cX9_readsOrder 221 = .ok (.iconst 4, 1) := by decide +kernel
theorem dX9_readsOrder_222 : decode cX9_readsOrder 222 = .ok (.aload_n 0, 1) := by decide +kernel
theorem dX9_readsOrder_223 : decode cX9_readsOrder 223 = .ok (.getfield 209, 3) := by decide +kernel
theorem dX9_readsOrder_226 : decode cX9_readsOrder 226 = .ok (.imul, 1) := by decide +kernel
theorem dX9_readsOrder_227 : decode cX9_readsOrder 227 = .ok (.iconst 2, 1) := by decide +kernel
theorem dX9_readsOrder_228 : decode cX9_readsOrder 228 = .ok (.iadd, 1) := by decide +kernel
theorem dX9_readsOrder_229 : decode cX9_readsOrder 229 = .ok (.iload 4, 2) := by decide +kernel
theorem dX9_readsOrder_231 : decode cX9_readsOrder 231 = .ok (.iastore, 1) := by decide +kernel
theorem dX9_readsOrder_232 : decode cX9_readsOrder 232 = .ok (.aload_n 0, 1) := by decide +kernel
theorem dX9_readsOrder_233 : decode cX9_readsOrder 233 = .ok (.getfield 53, 3) := by decide +kernel
theorem dX9_readsOrder_236 : decode cX9_readsOrder 236 = .ok (.iconst 4, 1) := by decide +kernel
theorem dX9_readsOrder_237 : decode cX9_readsOrder 237 = .ok (.aload_n 0, 1) := by decide +kernel
theorem dX9_readsOrder_238 : decode cX9_readsOrder 238 = .ok (.getfield 209, 3) := by decide +kernel
theorem dX9_readsOrder_241 : decode cX9_readsOrder 241 = .ok (.imul, 1) := by decide +kernel
theorem dX9_readsOrder_242 : decode cX9_readsOrder 242 = .ok (.iconst 3, 1) := by decide +kernel
theorem dX9_readsOrder_243 : decode cX9_readsOrder 243 = .ok (.iadd, 1) := by decide +kernel
theorem dX9_readsOrder_244 : decode cX9_readsOrder 244 = .ok (.iload 5, 2) := by decide +kernel
theorem dX9_readsOrder_246 : decode cX9_readsOrder 246 = .ok (.iastore, 1) := by decide +kernel
theorem dX9_readsOrder_247 : decode cX9_readsOrder 247 = .ok (.aload_n 0, 1) := by decide +kernel
theorem dX9_readsOrder_248 : decode cX9_readsOrder 248 = .ok (.dup, 1) := by decide +kernel
theorem dX9_readsOrder_249 : decode cX9_readsOrder 249 = .ok (.getfield 209, 3) := by decide +kernel
theorem dX9_readsOrder_252 : decode cX9_readsOrder 252 = .ok (.iconst 1, 1) := by decide +kernel
theorem dX9_readsOrder_253 : decode cX9_readsOrder 253 = .ok (.iadd, 1) := by decide +kernel
theorem dX9_readsOrder_254 : decode cX9_readsOrder 254 = .ok (.putfield 209, 3) := by decide +kernel
theorem dX9_readsOrder_257 : decode cX9_readsOrder 257 = .ok (.return_, 1) := by decide +kernel
theorem dX9_reads_0 : decode cX9_reads 0 = .ok (.aload_n 0, 1) := by decide +kernel
theorem dX9_reads_1 : decode cX9_reads 1 = .ok (.iconst 0, 1) := by decide +kernel
theorem dX9_reads_2 : decode cX9_reads 2 = .ok (.putfield 193, 3) := by decide +kernel
theorem dX9_reads_5 : decode cX9_reads 5 = .ok (.aload_n 0, 1) := by decide +kernel
theorem dX9_reads_6 : decode cX9_reads 6 = .ok (.iconst 1, 1) := by decide +kernel
theorem dX9_reads_7 : decode cX9_reads 7 = .ok (.putfield 196, 3) := by decide +kernel
theorem dX9_reads_10 : decode cX9_reads 10 = .ok (.aload_n 0, 1) := by decide +kernel
theorem dX9_reads_11 : decode cX9_reads 11 = .ok (.iconst 0, 1) := by decide +kernel
theorem dX9_reads_12 : decode cX9_reads 12 = .ok (.putfield 209, 3) := by decide +kernel
theorem dX9_reads_15 : decode cX9_reads 15 = .ok (.aload_n 0, 1) := by decide +kernel
theorem dX9_reads_16 : decode cX9_reads 16 = .ok (.invokevirtual 212, 3) := by decide +kernel
theorem dX9_reads_19 : decode cX9_reads 19 = .ok (.aload_n 0, 1) := by decide +kernel
theorem dX9_reads_20 : decode cX9_reads 20 = .ok (.getfield 196, 3) := by decide +kernel
theorem dX9_reads_23 : decode cX9_reads 23 = .ok (.ifCond .eq 34, 3) := by decide +kernel
theorem dX9_reads_26 : decode cX9_reads 26 = .ok (.aload_n 0, 1) := by decide +kernel
theorem dX9_reads_27 : decode cX9_reads 27 = .ok (.getfield 193, 3) := by decide +kernel
theorem dX9_reads_30 : decode cX9_reads 30 = .ok (.aload_n 0, 1) := by decide +kernel
theorem dX9_reads_31 : decode cX9_reads 31 = .ok (.getfield 182, 3) := by decide +kernel
theorem dX9_reads_34 : decode cX9_reads 34 = .ok (.if_icmp .ge 23, 3) := by decide +kernel
theorem dX9_reads_37 : decode cX9_reads 37 = .ok (.aload_n 0, 1) := by decide +kernel
theorem dX9_reads_38 : decode cX9_reads 38 = .ok (.bipush 59, 2) := by decide +kernel
theorem dX9_reads_40 : decode cX9_reads 40 = .ok (.invokevirtual 206, 3) := by decide +kernel
theorem dX9_reads_43 : decode cX9_reads 43 = .ok (.aload_n 0, 1) := by decide +kernel
theorem dX9_reads_44 : decode cX9_reads 44 = .ok (.getfield 196, 3) := by decide +kernel
theorem dX9_reads_47 : decode cX9_reads 47 = .ok (.ifCond .eq (-28), 3) := by decide +kernel
theorem dX9_reads_50 : decode cX9_reads 50 = .ok (.aload_n 0, 1) := by decide +kernel
theorem dX9_reads_51 : decode cX9_reads 51 = .ok (.invokevirtual 212, 3) := by decide +kernel
theorem dX9_reads_54 : decode cX9_reads 54 = .ok (.goto (-35), 3) := by decide +kernel
theorem dX9_reads_57 : decode cX9_reads 57 = .ok (.aload_n 0, 1) := by decide +kernel
theorem dX9_reads_58 : decode cX9_reads 58 = .ok (.getfield 196, 3) := by decide +kernel
theorem dX9_reads_61 : decode cX9_reads 61 = .ok (.ifCond .eq 8, 3) := by decide +kernel
theorem dX9_reads_64 : decode cX9_reads 64 = .ok (.bipush (-6), 2) := by decide +kernel
theorem dX9_reads_66 : decode cX9_reads 66 = .ok (.goto 7, 3) := by decide +kernel
theorem dX9_reads_69 : decode cX9_reads 69 = .ok (.aload_n 0, 1) := by decide +kernel
theorem dX9_reads_70 : decode cX9_reads 70 = .ok (.getfield 193, 3) := by decide +kernel
theorem dX9_reads_73 : decode cX9_reads 73 = .ok (.ireturn, 1) := by decide +kernel
theorem dX9_fault_0 : decode cX9_fault 0 = .ok (.aload_n 0, 1) := by decide +kernel
theorem dX9_fault_1 : decode cX9_fault 1 = .ok (.iconst 0, 1) := by decide +kernel
theorem dX9_fault_2 : decode cX9_fault 2 = .ok (.putfield 56, 3) := by decide +kernel
theorem dX9_fault_5 : decode cX9_fault 5 = .ok (.aload_n 0, 1) := by decide +kernel
theorem dX9_fault_6 : decode cX9_fault 6 = .ok (.invokevirtual 215, 3) := by decide +kernel
theorem dX9_fault_9 : decode cX9_fault 9 = .ok (.ireturn, 1) := by decide +kernel
theorem dX9_kindBy_0 : decode cX9_kindBy 0 = .ok (.iload_n 0, 1) := by decide +kernel
theorem dX9_kindBy_1 : decode cX9_kindBy 1 = .ok (.bipush 108, 2) := by decide +kernel
theorem dX9_kindBy_3 : decode cX9_kindBy 3 = .ok (.if_icmp .ne 7, 3) := by decide +kernel
theorem dX9_kindBy_6 : decode cX9_kindBy 6 = .ok (.iconst 0, 1) := by decide +kernel
theorem dX9_kindBy_7 : decode cX9_kindBy 7 = .ok (.goto 14, 3) := by decide +kernel
theorem dX9_kindBy_10 : decode cX9_kindBy 10 = .ok (.iload_n 0, 1) := by decide +kernel
theorem dX9_kindBy_11 : decode cX9_kindBy 11 = .ok (.bipush 101, 2) := by decide +kernel
theorem dX9_kindBy_13 : decode cX9_kindBy 13 = .ok (.if_icmp .ne 7, 3) := by decide +kernel
theorem dX9_kindBy_16 : decode cX9_kindBy 16 = .ok (.iconst 1, 1) := by decide +kernel
theorem dX9_kindBy_17 : decode cX9_kindBy 17 = .ok (.goto 4, 3) := by decide +kernel
theorem dX9_kindBy_20 : decode cX9_kindBy 20 = .ok (.iconst 2, 1) := by decide +kernel
theorem dX9_kindBy_21 : decode cX9_kindBy 21 = .ok (.ireturn, 1) := by decide +kernel
theorem dX9_refuses_0 : decode cX9_refuses 0 = .ok (.iload_n 1, 1) := by decide +kernel
theorem dX9_refuses_1 : decode cX9_refuses 1 = .ok (.lookupswitch 89 #[(45, 67), (98, 43), (114, 52), (120, 59)], 43) := by decide +kernel
theorem dX9_refuses_44 : decode cX9_refuses 44 = .ok (.aload_n 0, 1) := by decide +kernel
theorem dX9_refuses_45 : decode cX9_refuses 45 = .ok (.iload_n 2, 1) := by decide +kernel
theorem dX9_refuses_46 : decode cX9_refuses 46 = .ok (.iload_n 3, 1) := by decide +kernel
theorem dX9_refuses_47 : decode cX9_refuses 47 = .ok (.iload 4, 2) := by decide +kernel
theorem dX9_refuses_49 : decode cX9_refuses 49 = .ok (.invokevirtual 133, 3) := by decide +kernel
theorem dX9_refuses_52 : decode cX9_refuses 52 = .ok (.ireturn, 1) := by decide +kernel
theorem dX9_refuses_53 : decode cX9_refuses 53 = .ok (.aload_n 0, 1) := by decide +kernel
theorem dX9_refuses_54 : decode cX9_refuses 54 = .ok (.iload_n 2, 1) := by decide +kernel
theorem dX9_refuses_55 : decode cX9_refuses 55 = .ok (.iload_n 3, 1) := by decide +kernel
theorem dX9_refuses_56 : decode cX9_refuses 56 = .ok (.invokevirtual 144, 3) := by decide +kernel
theorem dX9_refuses_59 : decode cX9_refuses 59 = .ok (.ireturn, 1) := by decide +kernel
theorem dX9_refuses_60 : decode cX9_refuses 60 = .ok (.aload_n 0, 1) := by decide +kernel
theorem dX9_refuses_61 : decode cX9_refuses 61 = .ok (.iload_n 2, 1) := by decide +kernel
theorem dX9_refuses_62 : decode cX9_refuses 62 = .ok (.iload_n 3, 1) := by decide +kernel
theorem dX9_refuses_63 : decode cX9_refuses 63 = .ok (.iconst 3, 1) := by decide +kernel
theorem dX9_refuses_64 : decode cX9_refuses 64 = .ok (.invokevirtual 141, 3) := by decide +kernel
theorem dX9_refuses_67 : decode cX9_refuses 67 = .ok (.ireturn, 1) := by decide +kernel
theorem dX9_refuses_68 : decode cX9_refuses 68 = .ok (.iload_n 2, 1) := by decide +kernel
theorem dX9_refuses_69 : decode cX9_refuses 69 = .ok (.iconst 0, 1) := by decide +kernel
theorem dX9_refuses_70 : decode cX9_refuses 70 = .ok (.aload_n 0, 1) := by decide +kernel
theorem dX9_refuses_71 : decode cX9_refuses 71 = .ok (.getfield 7, 3) := by decide +kernel
theorem dX9_refuses_74 : decode cX9_refuses 74 = .ok (.iconst 5, 1) := by decide +kernel
theorem dX9_refuses_75 : decode cX9_refuses 75 = .ok (.iaload, 1) := by decide +kernel
theorem dX9_refuses_76 : decode cX9_refuses 76 = .ok (.iconst 1, 1) := by decide +kernel
theorem dX9_refuses_77 : decode cX9_refuses 77 = .ok (.isub, 1) := by decide +kernel
theorem dX9_refuses_78 : decode cX9_refuses 78 = .ok (.invokestatic 60, 3) := by decide +kernel
theorem dX9_refuses_81 : decode cX9_refuses 81 = .ok (.ifCond .eq 7, 3) := by decide +kernel
theorem dX9_refuses_84 : decode cX9_refuses 84 = .ok (.iconst 0, 1) := by decide +kernel
theorem dX9_refuses_85 : decode cX9_refuses 85 = .ok (.goto 4, 3) := by decide +kernel
theorem dX9_refuses_88 : decode cX9_refuses 88 = .ok (.iconst (-1), 1) := by decide +kernel
theorem dX9_refuses_89 : decode cX9_refuses 89 = .ok (.ireturn, 1) := by decide +kernel
theorem dX9_refuses_90 : decode cX9_refuses 90 = .ok (.aload_n 0, 1) := by decide +kernel
theorem dX9_refuses_91 : decode cX9_refuses 91 = .ok (.iload_n 1, 1) := by decide +kernel
theorem dX9_refuses_92 : decode cX9_refuses 92 = .ok (.invokestatic 218, 3) := by decide +kernel
theorem dX9_refuses_95 : decode cX9_refuses 95 = .ok (.iload_n 2, 1) := by decide +kernel
theorem dX9_refuses_96 : decode cX9_refuses 96 = .ok (.iload_n 3, 1) := by decide +kernel
theorem dX9_refuses_97 : decode cX9_refuses 97 = .ok (.iload 4, 2) := by decide +kernel
theorem dX9_refuses_99 : decode cX9_refuses 99 = .ok (.invokevirtual 151, 3) := by decide +kernel
theorem dX9_refuses_102 : decode cX9_refuses 102 = .ok (.ireturn, 1) := by decide +kernel
theorem dX9_does_0 : decode cX9_does 0 = .ok (.iload_n 1, 1) := by decide +kernel
theorem dX9_does_1 : decode cX9_does 1 = .ok (.lookupswitch 90 #[(45, 81), (98, 43), (114, 54), (120, 67)], 43) := by decide +kernel
theorem dX9_does_44 : decode cX9_does 44 = .ok (.aload_n 0, 1) := by decide +kernel
theorem dX9_does_45 : decode cX9_does 45 = .ok (.iload_n 2, 1) := by decide +kernel
theorem dX9_does_46 : decode cX9_does 46 = .ok (.iload_n 3, 1) := by decide +kernel
theorem dX9_does_47 : decode cX9_does 47 = .ok (.iload 4, 2) := by decide +kernel
theorem dX9_does_49 : decode cX9_does 49 = .ok (.invokevirtual 137, 3) := by decide +kernel
theorem dX9_does_52 : decode cX9_does 52 = .ok (.goto 52, 3) := by decide +kernel
theorem dX9_does_55 : decode cX9_does 55 = .ok (.aload_n 0, 1) := by decide +kernel
theorem dX9_does_56 : decode cX9_does 56 = .ok (.bipush 126, 2) := by decide +kernel
theorem dX9_does_58 : decode cX9_does 58 = .ok (.iconst 2, 1) := by decide +kernel
theorem dX9_does_59 : decode cX9_does 59 = .ok (.iload_n 2, 1) := by decide +kernel
theorem dX9_does_60 : decode cX9_does 60 = .ok (.iload_n 3, 1) := by decide +kernel
theorem dX9_does_61 : decode cX9_does 61 = .ok (.invokevirtual 147, 3) := by decide +kernel
theorem dX9_does_64 : decode cX9_does 64 = .ok (.pop, 1) := by decide +kernel
theorem dX9_does_65 : decode cX9_does 65 = .ok (.goto 39, 3) := by decide +kernel
theorem dX9_does_68 : decode cX9_does 68 = .ok (.aload_n 0, 1) := by decide +kernel
theorem dX9_does_69 : decode cX9_does 69 = .ok (.sipush 134, 3) := by decide +kernel
theorem dX9_does_72 : decode cX9_does 72 = .ok (.iconst 3, 1) := by decide +kernel
theorem dX9_does_73 : decode cX9_does 73 = .ok (.iload_n 2, 1) := by decide +kernel
theorem dX9_does_74 : decode cX9_does 74 = .ok (.iload_n 3, 1) := by decide +kernel
theorem dX9_does_75 : decode cX9_does 75 = .ok (.invokevirtual 147, 3) := by decide +kernel
theorem dX9_does_78 : decode cX9_does 78 = .ok (.pop, 1) := by decide +kernel
theorem dX9_does_79 : decode cX9_does 79 = .ok (.goto 25, 3) := by decide +kernel
theorem dX9_does_82 : decode cX9_does 82 = .ok (.aload_n 0, 1) := by decide +kernel
theorem dX9_does_83 : decode cX9_does 83 = .ok (.iload_n 2, 1) := by decide +kernel
theorem dX9_does_84 : decode cX9_does 84 = .ok (.invokevirtual 157, 3) := by decide +kernel
theorem dX9_does_87 : decode cX9_does 87 = .ok (.pop, 1) := by decide +kernel
theorem dX9_does_88 : decode cX9_does 88 = .ok (.goto 16, 3) := by decide +kernel
theorem dX9_does_91 : decode cX9_does 91 = .ok (.aload_n 0, 1) := by decide +kernel
theorem dX9_does_92 : decode cX9_does 92 = .ok (.iload_n 1, 1) := by decide +kernel
theorem dX9_does_93 : decode cX9_does 93 = .ok (.invokestatic 218, 3) := by decide +kernel
theorem dX9_does_96 : decode cX9_does 96 = .ok (.iload_n 2, 1) := by decide +kernel
theorem dX9_does_97 : decode cX9_does 97 = .ok (.iload_n 3, 1) := by decide +kernel
theorem dX9_does_98 : decode cX9_does 98 = .ok (.iload 4, 2) := by decide +kernel
theorem dX9_does_100 : decode cX9_does 100 = .ok (.invokevirtual 154, 3) := by decide +kernel
theorem dX9_does_103 : decode cX9_does 103 = .ok (.pop, 1) := by decide +kernel
theorem dX9_does_104 : decode cX9_does 104 = .ok (.return_, 1) := by decide +kernel
theorem dX9_carryOut_0 : decode cX9_carryOut 0 = .ok (.aload_n 0, 1) := by decide +kernel
theorem dX9_carryOut_1 : decode cX9_carryOut 1 = .ok (.iconst 0, 1) := by decide +kernel
theorem dX9_carryOut_2 : decode cX9_carryOut 2 = .ok (.putfield 56, 3) := by decide +kernel
theorem dX9_carryOut_5 : decode cX9_carryOut 5 = .ok (.aload_n 0, 1) := by decide +kernel
theorem dX9_carryOut_6 : decode cX9_carryOut 6 = .ok (.invokevirtual 215, 3) := by decide +kernel
theorem dX9_carryOut_9 : decode cX9_carryOut 9 = .ok (.bipush (-6), 2) := by decide +kernel
theorem dX9_carryOut_11 : decode cX9_carryOut 11 = .ok (.if_icmp .eq 6, 3) := by decide +kernel
theorem dX9_carryOut_14 : decode cX9_carryOut 14 = .ok (.bipush (-3), 2) := by decide +kernel
theorem dX9_carryOut_16 : decode cX9_carryOut 16 = .ok (.ireturn, 1) := by decide +kernel
theorem dX9_carryOut_17 : decode cX9_carryOut 17 = .ok (.aload_n 0, 1) := by decide +kernel
theorem dX9_carryOut_18 : decode cX9_carryOut 18 = .ok (.invokevirtual 127, 3) := by decide +kernel
theorem dX9_carryOut_21 : decode cX9_carryOut 21 = .ok (.aload_n 0, 1) := by decide +kernel
theorem dX9_carryOut_22 : decode cX9_carryOut 22 = .ok (.iconst 0, 1) := by decide +kernel
theorem dX9_carryOut_23 : decode cX9_carryOut 23 = .ok (.putfield 182, 3) := by decide +kernel
theorem dX9_carryOut_26 : decode cX9_carryOut 26 = .ok (.iconst 0, 1) := by decide +kernel
theorem dX9_carryOut_27 : decode cX9_carryOut 27 = .ok (.istore_n 1, 1) := by decide +kernel
theorem dX9_carryOut_28 : decode cX9_carryOut 28 = .ok (.iload_n 1, 1) := by decide +kernel
theorem dX9_carryOut_29 : decode cX9_carryOut 29 = .ok (.aload_n 0, 1) := by decide +kernel
theorem dX9_carryOut_30 : decode cX9_carryOut 30 = .ok (.getfield 209, 3) := by decide +kernel
theorem dX9_carryOut_33 : decode cX9_carryOut 33 = .ok (.if_icmp .ge 78, 3) := by decide +kernel
theorem dX9_carryOut_36 : decode cX9_carryOut 36 = .ok (.aload_n 0, 1) := by decide +kernel
theorem dX9_carryOut_37 : decode cX9_carryOut 37 = .ok (.getfield 53, 3) := by decide +kernel
theorem dX9_carryOut_40 : decode cX9_carryOut 40 = .ok (.iconst 4, 1) := by decide +kernel
theorem dX9_carryOut_41 : decode cX9_carryOut 41 = .ok (.iload_n 1, 1) := by decide +kernel
theorem dX9_carryOut_42 : decode cX9_carryOut 42 = .ok (.imul, 1) := by decide +kernel
theorem dX9_carryOut_43 : decode cX9_carryOut 43 = .ok (.iaload, 1) := by decide +kernel
theorem dX9_carryOut_44 : decode cX9_carryOut 44 = .ok (.istore_n 2, 1) := by decide +kernel
theorem dX9_carryOut_45 : decode cX9_carryOut 45 = .ok (.aload_n 0, 1) := by decide +kernel
theorem dX9_carryOut_46 : decode cX9_carryOut 46 = .ok (.getfield 53, 3) := by decide +kernel
theorem dX9_carryOut_49 : decode cX9_carryOut 49 = .ok (.iconst 4, 1) := by decide +kernel
theorem dX9_carryOut_50 : decode cX9_carryOut 50 = .ok (.iload_n 1, 1) := by decide +kernel
theorem dX9_carryOut_51 : decode cX9_carryOut 51 = .ok (.imul, 1) := by decide +kernel
theorem dX9_carryOut_52 : decode cX9_carryOut 52 = .ok (.iconst 1, 1) := by decide +kernel
theorem dX9_carryOut_53 : decode cX9_carryOut 53 = .ok (.iadd, 1) := by decide +kernel
theorem dX9_carryOut_54 : decode cX9_carryOut 54 = .ok (.iaload, 1) := by decide +kernel
theorem dX9_carryOut_55 : decode cX9_carryOut 55 = .ok (.istore_n 3, 1) := by decide +kernel
theorem dX9_carryOut_56 : decode cX9_carryOut 56 = .ok (.aload_n 0, 1) := by decide +kernel
theorem dX9_carryOut_57 : decode cX9_carryOut 57 = .ok (.getfield 53, 3) := by decide +kernel
theorem dX9_carryOut_60 : decode cX9_carryOut 60 = .ok (.iconst 4, 1) := by decide +kernel
theorem dX9_carryOut_61 : decode cX9_carryOut 61 = .ok (.iload_n 1, 1) := by decide +kernel
theorem dX9_carryOut_62 : decode cX9_carryOut 62 = .ok (.imul, 1) := by decide +kernel
theorem dX9_carryOut_63 : decode cX9_carryOut 63 = .ok (.iconst 2, 1) := by decide +kernel
theorem dX9_carryOut_64 : decode cX9_carryOut 64 = .ok (.iadd, 1) := by decide +kernel
theorem dX9_carryOut_65 : decode cX9_carryOut 65 = .ok (.iaload, 1) := by decide +kernel
theorem dX9_carryOut_66 : decode cX9_carryOut 66 = .ok (.istore 4, 2) := by decide +kernel
theorem dX9_carryOut_68 : decode cX9_carryOut 68 = .ok (.aload_n 0, 1) := by decide +kernel
theorem dX9_carryOut_69 : decode cX9_carryOut 69 = .ok (.getfield 53, 3) := by decide +kernel
theorem dX9_carryOut_72 : decode cX9_carryOut 72 = .ok (.iconst 4, 1) := by decide +kernel
theorem dX9_carryOut_73 : decode cX9_carryOut 73 = .ok (.iload_n 1, 1) := by decide +kernel
theorem dX9_carryOut_74 : decode cX9_carryOut 74 = .ok (.imul, 1) := by decide +kernel
theorem dX9_carryOut_75 : decode cX9_carryOut 75 = .ok (.iconst 3, 1) := by decide +kernel
theorem dX9_carryOut_76 : decode cX9_carryOut 76 = .ok (.iadd, 1) := by decide +kernel
theorem dX9_carryOut_77 : decode cX9_carryOut 77 = .ok (.iaload, 1) := by decide +kernel
theorem dX9_carryOut_78 : decode cX9_carryOut 78 = .ok (.istore 5, 2) := by decide +kernel
theorem dX9_carryOut_80 : decode cX9_carryOut 80 = .ok (.aload_n 0, 1) := by decide +kernel
theorem dX9_carryOut_81 : decode cX9_carryOut 81 = .ok (.iload_n 2, 1) := by decide +kernel
theorem dX9_carryOut_82 : decode cX9_carryOut 82 = .ok (.iload_n 3, 1) := by decide +kernel
theorem dX9_carryOut_83 : decode cX9_carryOut 83 = .ok (.iload 4, 2) := by decide +kernel
theorem dX9_carryOut_85 : decode cX9_carryOut 85 = .ok (.iload 5, 2) := by decide +kernel
theorem dX9_carryOut_87 : decode cX9_carryOut 87 = .ok (.invokevirtual 221, 3) := by decide +kernel
theorem dX9_carryOut_90 : decode cX9_carryOut 90 = .ok (.ifCond .eq 5, 3) := by decide +kernel
theorem dX9_carryOut_93 : decode cX9_carryOut 93 = .ok (.iload_n 1, 1) := by decide +kernel
theorem dX9_carryOut_94 : decode cX9_carryOut 94 = .ok (.ireturn, 1) := by decide +kernel
theorem dX9_carryOut_95 : decode cX9_carryOut 95 = .ok (.aload_n 0, 1) := by decide +kernel
theorem dX9_carryOut_96 : decode cX9_carryOut 96 = .ok (.iload_n 2, 1) := by decide +kernel
theorem dX9_carryOut_97 : decode cX9_carryOut 97 = .ok (.iload_n 3, 1) := by decide +kernel
theorem dX9_carryOut_98 : decode cX9_carryOut 98 = .ok (.iload 4, 2) := by decide +kernel
theorem dX9_carryOut_100 : decode cX9_carryOut 100 = .ok (.iload 5, 2) := by decide +kernel
theorem dX9_carryOut_102 : decode cX9_carryOut 102 = .ok (.invokevirtual 224, 3) := by decide +kernel
theorem dX9_carryOut_105 : decode cX9_carryOut 105 = .ok (.iinc 1 1, 3) := by decide +kernel
theorem dX9_carryOut_108 : decode cX9_carryOut 108 = .ok (.goto (-80), 3) := by decide +kernel
theorem dX9_carryOut_111 : decode cX9_carryOut 111 = .ok (.aload_n 0, 1) := by decide +kernel
theorem dX9_carryOut_112 : decode cX9_carryOut 112 = .ok (.getfield 209, 3) := by decide +kernel
theorem dX9_carryOut_115 : decode cX9_carryOut 115 = .ok (.ireturn, 1) := by decide +kernel
theorem dX9_undo_0 : decode cX9_undo 0 = .ok (.aload_n 0, 1) := by decide +kernel
theorem dX9_undo_1 : decode cX9_undo 1 = .ok (.iconst 0, 1) := by decide +kernel
theorem dX9_undo_2 : decode cX9_undo 2 = .ok (.putfield 56, 3) := by decide +kernel
theorem dX9_undo_5 : decode cX9_undo 5 = .ok (.aload_n 0, 1) := by decide +kernel
theorem dX9_undo_6 : decode cX9_undo 6 = .ok (.getfield 64, 3) := by decide +kernel
theorem dX9_undo_9 : decode cX9_undo 9 = .ok (.ifCond .ne 6, 3) := by decide +kernel
theorem dX9_undo_12 : decode cX9_undo 12 = .ok (.bipush (-5), 2) := by decide +kernel
theorem dX9_undo_14 : decode cX9_undo 14 = .ok (.ireturn, 1) := by decide +kernel
theorem dX9_undo_15 : decode cX9_undo 15 = .ok (.aload_n 0, 1) := by decide +kernel
theorem dX9_undo_16 : decode cX9_undo 16 = .ok (.dup, 1) := by decide +kernel
theorem dX9_undo_17 : decode cX9_undo 17 = .ok (.getfield 64, 3) := by decide +kernel
theorem dX9_undo_20 : decode cX9_undo 20 = .ok (.iconst 1, 1) := by decide +kernel
theorem dX9_undo_21 : decode cX9_undo 21 = .ok (.isub, 1) := by decide +kernel
theorem dX9_undo_22 : decode cX9_undo 22 = .ok (.putfield 64, 3) := by decide +kernel
theorem dX9_undo_25 : decode cX9_undo 25 = .ok (.iconst 0, 1) := by decide +kernel
theorem dX9_undo_26 : decode cX9_undo 26 = .ok (.istore_n 1, 1) := by decide +kernel
theorem dX9_undo_27 : decode cX9_undo 27 = .ok (.iload_n 1, 1) := by decide +kernel
theorem dX9_undo_28 : decode cX9_undo 28 = .ok (.sipush 228, 3) := by decide +kernel
theorem dX9_undo_31 : decode cX9_undo 31 = .ok (.if_icmp .ge 30, 3) := by decide +kernel
theorem dX9_undo_34 : decode cX9_undo 34 = .ok (.aload_n 0, 1) := by decide +kernel
theorem dX9_undo_35 : decode cX9_undo 35 = .ok (.getfield 7, 3) := by decide +kernel
theorem dX9_undo_38 : decode cX9_undo 38 = .ok (.iload_n 1, 1) := by decide +kernel
theorem dX9_undo_39 : decode cX9_undo 39 = .ok (.aload_n 0, 1) := by decide +kernel
theorem dX9_undo_40 : decode cX9_undo 40 = .ok (.getfield 13, 3) := by decide +kernel
theorem dX9_undo_43 : decode cX9_undo 43 = .ok (.sipush 228, 3) := by decide +kernel
theorem dX9_undo_46 : decode cX9_undo 46 = .ok (.aload_n 0, 1) := by decide +kernel
theorem dX9_undo_47 : decode cX9_undo 47 = .ok (.getfield 64, 3) := by decide +kernel
theorem dX9_undo_50 : decode cX9_undo 50 = .ok (.imul, 1) := by decide +kernel
theorem dX9_undo_51 : decode cX9_undo 51 = .ok (.iload_n 1, 1) := by decide +kernel
theorem dX9_undo_52 : decode cX9_undo 52 = .ok (.iadd, 1) := by decide +kernel
theorem dX9_undo_53 : decode cX9_undo 53 = .ok (.iaload, 1) := by decide +kernel
theorem dX9_undo_54 : decode cX9_undo 54 = .ok (.iastore, 1) := by decide +kernel
theorem dX9_undo_55 : decode cX9_undo 55 = .ok (.iinc 1 1, 3) := by decide +kernel
theorem dX9_undo_58 : decode cX9_undo 58 = .ok (.goto (-31), 3) := by decide +kernel
theorem dX9_undo_61 : decode cX9_undo 61 = .ok (.aload_n 0, 1) := by decide +kernel
theorem dX9_undo_62 : decode cX9_undo 62 = .ok (.getfield 64, 3) := by decide +kernel
theorem dX9_undo_65 : decode cX9_undo 65 = .ok (.ireturn, 1) := by decide +kernel
theorem dX9_save_0 : decode cX9_save 0 = .ok (.aload_n 0, 1) := by decide +kernel
theorem dX9_save_1 : decode cX9_save 1 = .ok (.iconst 0, 1) := by decide +kernel
theorem dX9_save_2 : decode cX9_save 2 = .ok (.putfield 56, 3) := by decide +kernel
theorem dX9_save_5 : decode cX9_save 5 = .ok (.iload_n 1, 1) := by decide +kernel
theorem dX9_save_6 : decode cX9_save 6 = .ok (.iconst 0, 1) := by decide +kernel
theorem dX9_save_7 : decode cX9_save 7 = .ok (.iconst 1, 1) := by decide +kernel
theorem dX9_save_8 : decode cX9_save 8 = .ok (.invokestatic 60, 3) := by decide +kernel
theorem dX9_save_11 : decode cX9_save 11 = .ok (.ifCond .ne 6, 3) := by decide +kernel
theorem dX9_save_14 : decode cX9_save 14 = .ok (.bipush (-2), 2) := by decide +kernel
theorem dX9_save_16 : decode cX9_save 16 = .ok (.ireturn, 1) := by decide +kernel
theorem dX9_save_17 : decode cX9_save 17 = .ok (.iconst 0, 1) := by decide +kernel
theorem dX9_save_18 : decode cX9_save 18 = .ok (.istore_n 2, 1) := by decide +kernel
theorem dX9_save_19 : decode cX9_save 19 = .ok (.iload_n 2, 1) := by decide +kernel
theorem dX9_save_20 : decode cX9_save 20 = .ok (.sipush 228, 3) := by decide +kernel
theorem dX9_save_23 : decode cX9_save 23 = .ok (.if_icmp .ge 27, 3) := by decide +kernel
theorem dX9_save_26 : decode cX9_save 26 = .ok (.aload_n 0, 1) := by decide +kernel
theorem dX9_save_27 : decode cX9_save 27 = .ok (.getfield 16, 3) := by decide +kernel
theorem dX9_save_30 : decode cX9_save 30 = .ok (.sipush 228, 3) := by decide +kernel
theorem dX9_save_33 : decode cX9_save 33 = .ok (.iload_n 1, 1) := by decide +kernel
theorem dX9_save_34 : decode cX9_save 34 = .ok (.imul, 1) := by decide +kernel
theorem dX9_save_35 : decode cX9_save 35 = .ok (.iload_n 2, 1) := by decide +kernel
theorem dX9_save_36 : decode cX9_save 36 = .ok (.iadd, 1) := by decide +kernel
theorem dX9_save_37 : decode cX9_save 37 = .ok (.aload_n 0, 1) := by decide +kernel
theorem dX9_save_38 : decode cX9_save 38 = .ok (.getfield 7, 3) := by decide +kernel
theorem dX9_save_41 : decode cX9_save 41 = .ok (.iload_n 2, 1) := by decide +kernel
theorem dX9_save_42 : decode cX9_save 42 = .ok (.iaload, 1) := by decide +kernel
theorem dX9_save_43 : decode cX9_save 43 = .ok (.iastore, 1) := by decide +kernel
theorem dX9_save_44 : decode cX9_save 44 = .ok (.iinc 2 1, 3) := by decide +kernel
theorem dX9_save_47 : decode cX9_save 47 = .ok (.goto (-28), 3) := by decide +kernel
theorem dX9_save_50 : decode cX9_save 50 = .ok (.aload_n 0, 1) := by decide +kernel
theorem dX9_save_51 : decode cX9_save 51 = .ok (.getfield 19, 3) := by decide +kernel
theorem dX9_save_54 : decode cX9_save 54 = .ok (.iload_n 1, 1) := by decide +kernel
theorem dX9_save_55 : decode cX9_save 55 = .ok (.iconst 1, 1) := by decide +kernel
theorem dX9_save_56 : decode cX9_save 56 = .ok (.bastore, 1) := by decide +kernel
theorem dX9_save_57 : decode cX9_save 57 = .ok (.aload_n 0, 1) := by decide +kernel
theorem dX9_save_58 : decode cX9_save 58 = .ok (.getfield 7, 3) := by decide +kernel
theorem dX9_save_61 : decode cX9_save 61 = .ok (.iconst 5, 1) := by decide +kernel
theorem dX9_save_62 : decode cX9_save 62 = .ok (.iaload, 1) := by decide +kernel
theorem dX9_save_63 : decode cX9_save 63 = .ok (.ireturn, 1) := by decide +kernel
theorem dX9_restore_0 : decode cX9_restore 0 = .ok (.aload_n 0, 1) := by decide +kernel
theorem dX9_restore_1 : decode cX9_restore 1 = .ok (.iconst 0, 1) := by decide +kernel
theorem dX9_restore_2 : decode cX9_restore 2 = .ok (.putfield 56, 3) := by decide +kernel
theorem dX9_restore_5 : decode cX9_restore 5 = .ok (.iload_n 1, 1) := by decide +kernel
theorem dX9_restore_6 : decode cX9_restore 6 = .ok (.iconst 0, 1) := by decide +kernel
theorem dX9_restore_7 : decode cX9_restore 7 = .ok (.iconst 1, 1) := by decide +kernel
theorem dX9_restore_8 : decode cX9_restore 8 = .ok (.invokestatic 60, 3) := by decide +kernel
theorem dX9_restore_11 : decode cX9_restore 11 = .ok (.ifCond .ne 6, 3) := by decide +kernel
theorem dX9_restore_14 : decode cX9_restore 14 = .ok (.bipush (-2), 2) := by decide +kernel
theorem dX9_restore_16 : decode cX9_restore 16 = .ok (.ireturn, 1) := by decide +kernel
theorem dX9_restore_17 : decode cX9_restore 17 = .ok (.aload_n 0, 1) := by decide +kernel
theorem dX9_restore_18 : decode cX9_restore 18 = .ok (.getfield 19, 3) := by decide +kernel
theorem dX9_restore_21 : decode cX9_restore 21 = .ok (.iload_n 1, 1) := by decide +kernel
theorem dX9_restore_22 : decode cX9_restore 22 = .ok (.baload, 1) := by decide +kernel
theorem dX9_restore_23 : decode cX9_restore 23 = .ok (.ifCond .ne 6, 3) := by decide +kernel
theorem dX9_restore_26 : decode cX9_restore 26 = .ok (.bipush (-5), 2) := by decide +kernel
theorem dX9_restore_28 : decode cX9_restore 28 = .ok (.ireturn, 1) := by decide +kernel
theorem dX9_restore_29 : decode cX9_restore 29 = .ok (.aload_n 0, 1) := by decide +kernel
theorem dX9_restore_30 : decode cX9_restore 30 = .ok (.invokevirtual 127, 3) := by decide +kernel
theorem dX9_restore_33 : decode cX9_restore 33 = .ok (.iconst 0, 1) := by decide +kernel
theorem dX9_restore_34 : decode cX9_restore 34 = .ok (.istore_n 2, 1) := by decide +kernel
theorem dX9_restore_35 : decode cX9_restore 35 = .ok (.iload_n 2, 1) := by decide +kernel
theorem dX9_restore_36 : decode cX9_restore 36 = .ok (.sipush 228, 3) := by decide +kernel
theorem dX9_restore_39 : decode cX9_restore 39 = .ok (.if_icmp .ge 27, 3) := by decide +kernel
theorem dX9_restore_42 : decode cX9_restore 42 = .ok (.aload_n 0, 1) := by decide +kernel
theorem dX9_restore_43 : decode cX9_restore 43 = .ok (.getfield 7, 3) := by decide +kernel
theorem dX9_restore_46 : decode cX9_restore 46 = .ok (.iload_n 2, 1) := by decide +kernel
theorem dX9_restore_47 : decode cX9_restore 47 = .ok (.aload_n 0, 1) := by decide +kernel
theorem dX9_restore_48 : decode cX9_restore 48 = .ok (.getfield 16, 3) := by decide +kernel
theorem dX9_restore_51 : decode cX9_restore 51 = .ok (.sipush 228, 3) := by decide +kernel
theorem dX9_restore_54 : decode cX9_restore 54 = .ok (.iload_n 1, 1) := by decide +kernel
theorem dX9_restore_55 : decode cX9_restore 55 = .ok (.imul, 1) := by decide +kernel
theorem dX9_restore_56 : decode cX9_restore 56 = .ok (.iload_n 2, 1) := by decide +kernel
theorem dX9_restore_57 : decode cX9_restore 57 = .ok (.iadd, 1) := by decide +kernel
theorem dX9_restore_58 : decode cX9_restore 58 = .ok (.iaload, 1) := by decide +kernel
theorem dX9_restore_59 : decode cX9_restore 59 = .ok (.iastore, 1) := by decide +kernel
theorem dX9_restore_60 : decode cX9_restore 60 = .ok (.iinc 2 1, 3) := by decide +kernel
theorem dX9_restore_63 : decode cX9_restore 63 = .ok (.goto (-28), 3) := by decide +kernel
theorem dX9_restore_66 : decode cX9_restore 66 = .ok (.aload_n 0, 1) := by decide +kernel
theorem dX9_restore_67 : decode cX9_restore 67 = .ok (.getfield 7, 3) := by decide +kernel
theorem dX9_restore_70 : decode cX9_restore 70 = .ok (.iconst 5, 1) := by decide +kernel
theorem dX9_restore_71 : decode cX9_restore 71 = .ok (.iaload, 1) := by decide +kernel
theorem dX9_restore_72 : decode cX9_restore 72 = .ok (.ireturn, 1) := by decide +kernel
theorem dJ9_max_7cf53_0 : decode cJ9_max_7cf53 0 = .ok (.iload_n 0, 1) := by decide +kernel
theorem dJ9_max_7cf53_1 : decode cJ9_max_7cf53 1 = .ok (.iload_n 1, 1) := by decide +kernel
theorem dJ9_max_7cf53_2 : decode cJ9_max_7cf53 2 = .ok (.if_icmp .lt 7, 3) := by decide +kernel
theorem dJ9_max_7cf53_5 : decode cJ9_max_7cf53 5 = .ok (.iload_n 0, 1) := by decide +kernel
theorem dJ9_max_7cf53_6 : decode cJ9_max_7cf53 6 = .ok (.goto 4, 3) := by decide +kernel
theorem dJ9_max_7cf53_9 : decode cJ9_max_7cf53 9 = .ok (.iload_n 1, 1) := by decide +kernel
theorem dJ9_max_7cf53_10 : decode cJ9_max_7cf53 10 = .ok (.ireturn, 1) := by decide +kernel
theorem dJ9_min_7cf53_0 : decode cJ9_min_7cf53 0 = .ok (.iload_n 0, 1) := by decide +kernel
theorem dJ9_min_7cf53_1 : decode cJ9_min_7cf53 1 = .ok (.iload_n 1, 1) := by decide +kernel
theorem dJ9_min_7cf53_2 : decode cJ9_min_7cf53 2 = .ok (.if_icmp .gt 7, 3) := by decide +kernel
theorem dJ9_min_7cf53_5 : decode cJ9_min_7cf53 5 = .ok (.iload_n 0, 1) := by decide +kernel
theorem dJ9_min_7cf53_6 : decode cJ9_min_7cf53 6 = .ok (.goto 4, 3) := by decide +kernel
theorem dJ9_min_7cf53_9 : decode cJ9_min_7cf53 9 = .ok (.iload_n 1, 1) := by decide +kernel
theorem dJ9_min_7cf53_10 : decode cJ9_min_7cf53 10 = .ok (.ireturn, 1) := by decide +kernel
theorem dL_law_0 : decode cL_law 0 = .ok (.new 7, 3) := by decide +kernel
theorem dL_law_3 : decode cL_law 3 = .ok (.dup, 1) := by decide +kernel
theorem dL_law_4 : decode cL_law 4 = .ok (.invokespecial 9, 3) := by decide +kernel
theorem dL_law_7 : decode cL_law 7 = .ok (.astore_n 1, 1) := by decide +kernel
theorem dL_law_8 : decode cL_law 8 = .ok (.new 10, 3) := by decide +kernel
theorem dL_law_11 : decode cL_law 11 = .ok (.dup, 1) := by decide +kernel
theorem dL_law_12 : decode cL_law 12 = .ok (.invokespecial 12, 3) := by decide +kernel
theorem dL_law_15 : decode cL_law 15 = .ok (.astore_n 2, 1) := by decide +kernel
theorem dL_law_16 : decode cL_law 16 = .ok (.iconst 0, 1) := by decide +kernel
theorem dL_law_17 : decode cL_law 17 = .ok (.istore_n 3, 1) := by decide +kernel
theorem dL_law_18 : decode cL_law 18 = .ok (.iload_n 3, 1) := by decide +kernel
theorem dL_law_19 : decode cL_law 19 = .ok (.aload_n 0, 1) := by decide +kernel
theorem dL_law_20 : decode cL_law 20 = .ok (.arraylength, 1) := by decide +kernel
theorem dL_law_21 : decode cL_law 21 = .ok (.iconst 5, 1) := by decide +kernel
theorem dL_law_22 : decode cL_law 22 = .ok (.isub, 1) := by decide +kernel
theorem dL_law_23 : decode cL_law 23 = .ok (.if_icmp .gt 819, 3) := by decide +kernel
theorem dL_law_26 : decode cL_law 26 = .ok (.aload_n 0, 1) := by decide +kernel
theorem dL_law_27 : decode cL_law 27 = .ok (.iload_n 3, 1) := by decide +kernel
theorem dL_law_28 : decode cL_law 28 = .ok (.iaload, 1) := by decide +kernel
theorem dL_law_29 : decode cL_law 29 = .ok (.bipush 31, 2) := by decide +kernel
theorem dL_law_31 : decode cL_law 31 = .ok (.iand, 1) := by decide +kernel
theorem dL_law_32 : decode cL_law 32 = .ok (.tableswitch 804 0 23 #[112, 135, 158, 201, 234, 267, 300, 333, 386, 409, 442, 475, 508, 541, 564, 587, 630, 653, 706, 719, 732, 745, 758, 781], 112) := by decide +kernel
theorem dL_law_144 : decode cL_law 144 = .ok (.aload_n 1, 1) := by decide +kernel
theorem dL_law_145 : decode cL_law 145 = .ok (.aload_n 0, 1) := by decide +kernel
theorem dL_law_146 : decode cL_law 146 = .ok (.iload_n 3, 1) := by decide +kernel
theorem dL_law_147 : decode cL_law 147 = .ok (.iconst 1, 1) := by decide +kernel
theorem dL_law_148 : decode cL_law 148 = .ok (.iadd, 1) := by decide +kernel
theorem dL_law_149 : decode cL_law 149 = .ok (.iaload, 1) := by decide +kernel
theorem dL_law_150 : decode cL_law 150 = .ok (.invokevirtual 13, 3) := by decide +kernel
theorem dL_law_153 : decode cL_law 153 = .ok (.aload_n 2, 1) := by decide +kernel
theorem dL_law_154 : decode cL_law 154 = .ok (.aload_n 0, 1) := by decide +kernel
theorem dL_law_155 : decode cL_law 155 = .ok (.iload_n 3, 1) := by decide +kernel
theorem dL_law_156 : decode cL_law 156 = .ok (.iconst 1, 1) := by decide +kernel
theorem dL_law_157 : decode cL_law 157 = .ok (.iadd, 1) := by decide +kernel
theorem dL_law_158 : decode cL_law 158 = .ok (.iaload, 1) := by decide +kernel
theorem dL_law_159 : decode cL_law 159 = .ok (.invokevirtual 17, 3) := by decide +kernel
theorem dL_law_162 : decode cL_law 162 = .ok (.if_icmp .eq 674, 3) := by decide +kernel
theorem dL_law_165 : decode cL_law 165 = .ok (.iconst 0, 1) := by decide +kernel
theorem dL_law_166 : decode cL_law 166 = .ok (.ireturn, 1) := by decide +kernel
theorem dL_law_167 : decode cL_law 167 = .ok (.aload_n 1, 1) := by decide +kernel
theorem dL_law_168 : decode cL_law 168 = .ok (.aload_n 0, 1) := by decide +kernel
theorem dL_law_169 : decode cL_law 169 = .ok (.iload_n 3, 1) := by decide +kernel
theorem dL_law_170 : decode cL_law 170 = .ok (.iconst 1, 1) := by decide +kernel
theorem dL_law_171 : decode cL_law 171 = .ok (.iadd, 1) := by decide +kernel
theorem dL_law_172 : decode cL_law 172 = .ok (.iaload, 1) := by decide +kernel
theorem dL_law_173 : decode cL_law 173 = .ok (.invokevirtual 18, 3) := by decide +kernel
theorem dL_law_176 : decode cL_law 176 = .ok (.aload_n 2, 1) := by decide +kernel
theorem dL_law_177 : decode cL_law 177 = .ok (.aload_n 0, 1) := by decide +kernel
theorem dL_law_178 : decode cL_law 178 = .ok (.iload_n 3, 1) := by decide +kernel
theorem dL_law_179 : decode cL_law 179 = .ok (.iconst 1, 1) := by decide +kernel
theorem dL_law_180 : decode cL_law 180 = .ok (.iadd, 1) := by decide +kernel
theorem dL_law_181 : decode cL_law 181 = .ok (.iaload, 1) := by decide +kernel
theorem dL_law_182 : decode cL_law 182 = .ok (.invokevirtual 21, 3) := by decide +kernel
theorem dL_law_185 : decode cL_law 185 = .ok (.if_icmp .eq 651, 3) := by decide +kernel
theorem dL_law_188 : decode cL_law 188 = .ok (.iconst 0, 1) := by decide +kernel
theorem dL_law_189 : decode cL_law 189 = .ok (.ireturn, 1) := by decide +kernel
theorem dL_law_190 : decode cL_law 190 = .ok (.aload_n 1, 1) := by decide +kernel
theorem dL_law_191 : decode cL_law 191 = .ok (.aload_n 0, 1) := by decide +kernel
theorem dL_law_192 : decode cL_law 192 = .ok (.iload_n 3, 1) := by decide +kernel
theorem dL_law_193 : decode cL_law 193 = .ok (.iconst 1, 1) := by decide +kernel
theorem dL_law_194 : decode cL_law 194 = .ok (.iadd, 1) := by decide +kernel
theorem dL_law_195 : decode cL_law 195 = .ok (.iaload, 1) := by decide +kernel
theorem dL_law_196 : decode cL_law 196 = .ok (.aload_n 0, 1) := by decide +kernel
theorem dL_law_197 : decode cL_law 197 = .ok (.iload_n 3, 1) := by decide +kernel
theorem dL_law_198 : decode cL_law 198 = .ok (.iconst 2, 1) := by decide +kernel
theorem dL_law_199 : decode cL_law 199 = .ok (.iadd, 1) := by decide +kernel
theorem dL_law_200 : decode cL_law 200 = .ok (.iaload, 1) := by decide +kernel
theorem dL_law_201 : decode cL_law 201 = .ok (.aload_n 0, 1) := by decide +kernel
theorem dL_law_202 : decode cL_law 202 = .ok (.iload_n 3, 1) := by decide +kernel
theorem dL_law_203 : decode cL_law 203 = .ok (.iconst 3, 1) := by decide +kernel
theorem dL_law_204 : decode cL_law 204 = .ok (.iadd, 1) := by decide +kernel
theorem dL_law_205 : decode cL_law 205 = .ok (.iaload, 1) := by decide +kernel
theorem dL_law_206 : decode cL_law 206 = .ok (.invokevirtual 22, 3) := by decide +kernel
theorem dL_law_209 : decode cL_law 209 = .ok (.aload_n 2, 1) := by decide +kernel
theorem dL_law_210 : decode cL_law 210 = .ok (.aload_n 0, 1) := by decide +kernel
theorem dL_law_211 : decode cL_law 211 = .ok (.iload_n 3, 1) := by decide +kernel
theorem dL_law_212 : decode cL_law 212 = .ok (.iconst 1, 1) := by decide +kernel
theorem dL_law_213 : decode cL_law 213 = .ok (.iadd, 1) := by decide +kernel
theorem dL_law_214 : decode cL_law 214 = .ok (.iaload, 1) := by decide +kernel
theorem dL_law_215 : decode cL_law 215 = .ok (.aload_n 0, 1) := by decide +kernel
theorem dL_law_216 : decode cL_law 216 = .ok (.iload_n 3, 1) := by decide +kernel
theorem dL_law_217 : decode cL_law 217 = .ok (.iconst 2, 1) := by decide +kernel
theorem dL_law_218 : decode cL_law 218 = .ok (.iadd, 1) := by decide +kernel
theorem dL_law_219 : decode cL_law 219 = .ok (.iaload, 1) := by decide +kernel
theorem dL_law_220 : decode cL_law 220 = .ok (.aload_n 0, 1) := by decide +kernel
theorem dL_law_221 : decode cL_law 221 = .ok (.iload_n 3, 1) := by decide +kernel
theorem dL_law_222 : decode cL_law 222 = .ok (.iconst 3, 1) := by decide +kernel
theorem dL_law_223 : decode cL_law 223 = .ok (.iadd, 1) := by decide +kernel
theorem dL_law_224 : decode cL_law 224 = .ok (.iaload, 1) := by decide +kernel
theorem dL_law_225 : decode cL_law 225 = .ok (.invokevirtual 26, 3) := by decide +kernel
theorem dL_law_228 : decode cL_law 228 = .ok (.if_icmp .eq 608, 3) := by decide +kernel
theorem dL_law_231 : decode cL_law 231 = .ok (.iconst 0, 1) := by decide +kernel
theorem dL_law_232 : decode cL_law 232 = .ok (.ireturn, 1) := by decide +kernel
theorem dL_law_233 : decode cL_law 233 = .ok (.aload_n 1, 1) := by decide +kernel
theorem dL_law_234 : decode cL_law 234 = .ok (.aload_n 0, 1) := by decide +kernel
theorem dL_law_235 : decode cL_law 235 = .ok (.iload_n 3, 1) := by decide +kernel
theorem dL_law_236 : decode cL_law 236 = .ok (.iconst 1, 1) := by decide +kernel
theorem dL_law_237 : decode cL_law 237 = .ok (.iadd, 1) := by decide +kernel
theorem dL_law_238 : decode cL_law 238 = .ok (.iaload, 1) := by decide +kernel
theorem dL_law_239 : decode cL_law 239 = .ok (.aload_n 0, 1) := by decide +kernel
theorem dL_law_240 : decode cL_law 240 = .ok (.iload_n 3, 1) := by decide +kernel
theorem dL_law_241 : decode cL_law 241 = .ok (.iconst 2, 1) := by decide +kernel
theorem dL_law_242 : decode cL_law 242 = .ok (.iadd, 1) := by decide +kernel
theorem dL_law_243 : decode cL_law 243 = .ok (.iaload, 1) := by decide +kernel
theorem dL_law_244 : decode cL_law 244 = .ok (.invokevirtual 27, 3) := by decide +kernel
theorem dL_law_247 : decode cL_law 247 = .ok (.aload_n 2, 1) := by decide +kernel
theorem dL_law_248 : decode cL_law 248 = .ok (.aload_n 0, 1) := by decide +kernel
theorem dL_law_249 : decode cL_law 249 = .ok (.iload_n 3, 1) := by decide +kernel
theorem dL_law_250 : decode cL_law 250 = .ok (.iconst 1, 1) := by decide +kernel
theorem dL_law_251 : decode cL_law 251 = .ok (.iadd, 1) := by decide +kernel
theorem dL_law_252 : decode cL_law 252 = .ok (.iaload, 1) := by decide +kernel
theorem dL_law_253 : decode cL_law 253 = .ok (.aload_n 0, 1) := by decide +kernel
theorem dL_law_254 : decode cL_law 254 = .ok (.iload_n 3, 1) := by decide +kernel
theorem dL_law_255 : decode cL_law 255 = .ok (.iconst 2, 1) := by decide +kernel
theorem dL_law_256 : decode cL_law 256 = .ok (.iadd, 1) := by decide +kernel
theorem dL_law_257 : decode cL_law 257 = .ok (.iaload, 1) := by decide +kernel
theorem dL_law_258 : decode cL_law 258 = .ok (.invokevirtual 31, 3) := by decide +kernel
theorem dL_law_261 : decode cL_law 261 = .ok (.if_icmp .eq 575, 3) := by decide +kernel
theorem dL_law_264 : decode cL_law 264 = .ok (.iconst 0, 1) := by decide +kernel
theorem dL_law_265 : decode cL_law 265 = .ok (.ireturn, 1) := by decide +kernel
theorem dL_law_266 : decode cL_law 266 = .ok (.aload_n 1, 1) := by decide +kernel
theorem dL_law_267 : decode cL_law 267 = .ok (.aload_n 0, 1) := by decide +kernel
theorem dL_law_268 : decode cL_law 268 = .ok (.iload_n 3, 1) := by decide +kernel
theorem dL_law_269 : decode cL_law 269 = .ok (.iconst 1, 1) := by decide +kernel
theorem dL_law_270 : decode cL_law 270 = .ok (.iadd, 1) := by decide +kernel
theorem dL_law_271 : decode cL_law 271 = .ok (.iaload, 1) := by decide +kernel
theorem dL_law_272 : decode cL_law 272 = .ok (.aload_n 0, 1) := by decide +kernel
theorem dL_law_273 : decode cL_law 273 = .ok (.iload_n 3, 1) := by decide +kernel
theorem dL_law_274 : decode cL_law 274 = .ok (.iconst 2, 1) := by decide +kernel
theorem dL_law_275 : decode cL_law 275 = .ok (.iadd, 1) := by decide +kernel
theorem dL_law_276 : decode cL_law 276 = .ok (.iaload, 1) := by decide +kernel
theorem dL_law_277 : decode cL_law 277 = .ok (.invokevirtual 32, 3) := by decide +kernel
theorem dL_law_280 : decode cL_law 280 = .ok (.aload_n 2, 1) := by decide +kernel
theorem dL_law_281 : decode cL_law 281 = .ok (.aload_n 0, 1) := by decide +kernel
theorem dL_law_282 : decode cL_law 282 = .ok (.iload_n 3, 1) := by decide +kernel
theorem dL_law_283 : decode cL_law 283 = .ok (.iconst 1, 1) := by decide +kernel
theorem dL_law_284 : decode cL_law 284 = .ok (.iadd, 1) := by decide +kernel
theorem dL_law_285 : decode cL_law 285 = .ok (.iaload, 1) := by decide +kernel
theorem dL_law_286 : decode cL_law 286 = .ok (.aload_n 0, 1) := by decide +kernel
theorem dL_law_287 : decode cL_law 287 = .ok (.iload_n 3, 1) := by decide +kernel
theorem dL_law_288 : decode cL_law 288 = .ok (.iconst 2, 1) := by decide +kernel
theorem dL_law_289 : decode cL_law 289 = .ok (.iadd, 1) := by decide +kernel
theorem dL_law_290 : decode cL_law 290 = .ok (.iaload, 1) := by decide +kernel
theorem dL_law_291 : decode cL_law 291 = .ok (.invokevirtual 35, 3) := by decide +kernel
theorem dL_law_294 : decode cL_law 294 = .ok (.if_icmp .eq 542, 3) := by decide +kernel
theorem dL_law_297 : decode cL_law 297 = .ok (.iconst 0, 1) := by decide +kernel
theorem dL_law_298 : decode cL_law 298 = .ok (.ireturn, 1) := by decide +kernel
theorem dL_law_299 : decode cL_law 299 = .ok (.aload_n 1, 1) := by decide +kernel
theorem dL_law_300 : decode cL_law 300 = .ok (.aload_n 0, 1) := by decide +kernel
theorem dL_law_301 : decode cL_law 301 = .ok (.iload_n 3, 1) := by decide +kernel
theorem dL_law_302 : decode cL_law 302 = .ok (.iconst 1, 1) := by decide +kernel
theorem dL_law_303 : decode cL_law 303 = .ok (.iadd, 1) := by decide +kernel
theorem dL_law_304 : decode cL_law 304 = .ok (.iaload, 1) := by decide +kernel
theorem dL_law_305 : decode cL_law 305 = .ok (.aload_n 0, 1) := by decide +kernel
theorem dL_law_306 : decode cL_law 306 = .ok (.iload_n 3, 1) := by decide +kernel
theorem dL_law_307 : decode cL_law 307 = .ok (.iconst 2, 1) := by decide +kernel
theorem dL_law_308 : decode cL_law 308 = .ok (.iadd, 1) := by decide +kernel
theorem dL_law_309 : decode cL_law 309 = .ok (.iaload, 1) := by decide +kernel
theorem dL_law_310 : decode cL_law 310 = .ok (.invokevirtual 36, 3) := by decide +kernel
theorem dL_law_313 : decode cL_law 313 = .ok (.aload_n 2, 1) := by decide +kernel
theorem dL_law_314 : decode cL_law 314 = .ok (.aload_n 0, 1) := by decide +kernel
theorem dL_law_315 : decode cL_law 315 = .ok (.iload_n 3, 1) := by decide +kernel
theorem dL_law_316 : decode cL_law 316 = .ok (.iconst 1, 1) := by decide +kernel
theorem dL_law_317 : decode cL_law 317 = .ok (.iadd, 1) := by decide +kernel
theorem dL_law_318 : decode cL_law 318 = .ok (.iaload, 1) := by decide +kernel
theorem dL_law_319 : decode cL_law 319 = .ok (.aload_n 0, 1) := by decide +kernel
theorem dL_law_320 : decode cL_law 320 = .ok (.iload_n 3, 1) := by decide +kernel
theorem dL_law_321 : decode cL_law 321 = .ok (.iconst 2, 1) := by decide +kernel
theorem dL_law_322 : decode cL_law 322 = .ok (.iadd, 1) := by decide +kernel
theorem dL_law_323 : decode cL_law 323 = .ok (.iaload, 1) := by decide +kernel
theorem dL_law_324 : decode cL_law 324 = .ok (.invokevirtual 39, 3) := by decide +kernel
theorem dL_law_327 : decode cL_law 327 = .ok (.if_icmp .eq 509, 3) := by decide +kernel
theorem dL_law_330 : decode cL_law 330 = .ok (.iconst 0, 1) := by decide +kernel
theorem dL_law_331 : decode cL_law 331 = .ok (.ireturn, 1) := by decide +kernel
theorem dL_law_332 : decode cL_law 332 = .ok (.aload_n 1, 1) := by decide +kernel
theorem dL_law_333 : decode cL_law 333 = .ok (.aload_n 0, 1) := by decide +kernel
theorem dL_law_334 : decode cL_law 334 = .ok (.iload_n 3, 1) := by decide +kernel
theorem dL_law_335 : decode cL_law 335 = .ok (.iconst 1, 1) := by decide +kernel
theorem dL_law_336 : decode cL_law 336 = .ok (.iadd, 1) := by decide +kernel
theorem dL_law_337 : decode cL_law 337 = .ok (.iaload, 1) := by decide +kernel
theorem dL_law_338 : decode cL_law 338 = .ok (.aload_n 0, 1) := by decide +kernel
theorem dL_law_339 : decode cL_law 339 = .ok (.iload_n 3, 1) := by decide +kernel
theorem dL_law_340 : decode cL_law 340 = .ok (.iconst 2, 1) := by decide +kernel
theorem dL_law_341 : decode cL_law 341 = .ok (.iadd, 1) := by decide +kernel
theorem dL_law_342 : decode cL_law 342 = .ok (.iaload, 1) := by decide +kernel
theorem dL_law_343 : decode cL_law 343 = .ok (.invokevirtual 40, 3) := by decide +kernel
theorem dL_law_346 : decode cL_law 346 = .ok (.aload_n 2, 1) := by decide +kernel
theorem dL_law_347 : decode cL_law 347 = .ok (.aload_n 0, 1) := by decide +kernel
theorem dL_law_348 : decode cL_law 348 = .ok (.iload_n 3, 1) := by decide +kernel
theorem dL_law_349 : decode cL_law 349 = .ok (.iconst 1, 1) := by decide +kernel
theorem dL_law_350 : decode cL_law 350 = .ok (.iadd, 1) := by decide +kernel
theorem dL_law_351 : decode cL_law 351 = .ok (.iaload, 1) := by decide +kernel
theorem dL_law_352 : decode cL_law 352 = .ok (.aload_n 0, 1) := by decide +kernel
theorem dL_law_353 : decode cL_law 353 = .ok (.iload_n 3, 1) := by decide +kernel
theorem dL_law_354 : decode cL_law 354 = .ok (.iconst 2, 1) := by decide +kernel
theorem dL_law_355 : decode cL_law 355 = .ok (.iadd, 1) := by decide +kernel
theorem dL_law_356 : decode cL_law 356 = .ok (.iaload, 1) := by decide +kernel
theorem dL_law_357 : decode cL_law 357 = .ok (.invokevirtual 43, 3) := by decide +kernel
theorem dL_law_360 : decode cL_law 360 = .ok (.if_icmp .eq 476, 3) := by decide +kernel
theorem dL_law_363 : decode cL_law 363 = .ok (.iconst 0, 1) := by decide +kernel
theorem dL_law_364 : decode cL_law 364 = .ok (.ireturn, 1) := by decide +kernel
theorem dL_law_365 : decode cL_law 365 = .ok (.aload_n 1, 1) := by decide +kernel
theorem dL_law_366 : decode cL_law 366 = .ok (.aload_n 0, 1) := by decide +kernel
theorem dL_law_367 : decode cL_law 367 = .ok (.iload_n 3, 1) := by decide +kernel
theorem dL_law_368 : decode cL_law 368 = .ok (.iconst 1, 1) := by decide +kernel
theorem dL_law_369 : decode cL_law 369 = .ok (.iadd, 1) := by decide +kernel
theorem dL_law_370 : decode cL_law 370 = .ok (.iaload, 1) := by decide +kernel
theorem dL_law_371 : decode cL_law 371 = .ok (.aload_n 0, 1) := by decide +kernel
theorem dL_law_372 : decode cL_law 372 = .ok (.iload_n 3, 1) := by decide +kernel
theorem dL_law_373 : decode cL_law 373 = .ok (.iconst 2, 1) := by decide +kernel
theorem dL_law_374 : decode cL_law 374 = .ok (.iadd, 1) := by decide +kernel
theorem dL_law_375 : decode cL_law 375 = .ok (.iaload, 1) := by decide +kernel
theorem dL_law_376 : decode cL_law 376 = .ok (.aload_n 0, 1) := by decide +kernel
theorem dL_law_377 : decode cL_law 377 = .ok (.iload_n 3, 1) := by decide +kernel
theorem dL_law_378 : decode cL_law 378 = .ok (.iconst 3, 1) := by decide +kernel
theorem dL_law_379 : decode cL_law 379 = .ok (.iadd, 1) := by decide +kernel
theorem dL_law_380 : decode cL_law 380 = .ok (.iaload, 1) := by decide +kernel
theorem dL_law_381 : decode cL_law 381 = .ok (.aload_n 0, 1) := by decide +kernel
theorem dL_law_382 : decode cL_law 382 = .ok (.iload_n 3, 1) := by decide +kernel
theorem dL_law_383 : decode cL_law 383 = .ok (.iconst 4, 1) := by decide +kernel
theorem dL_law_384 : decode cL_law 384 = .ok (.iadd, 1) := by decide +kernel
theorem dL_law_385 : decode cL_law 385 = .ok (.iaload, 1) := by decide +kernel
theorem dL_law_386 : decode cL_law 386 = .ok (.invokevirtual 44, 3) := by decide +kernel
theorem dL_law_389 : decode cL_law 389 = .ok (.aload_n 2, 1) := by decide +kernel
theorem dL_law_390 : decode cL_law 390 = .ok (.aload_n 0, 1) := by decide +kernel
theorem dL_law_391 : decode cL_law 391 = .ok (.iload_n 3, 1) := by decide +kernel
theorem dL_law_392 : decode cL_law 392 = .ok (.iconst 1, 1) := by decide +kernel
theorem dL_law_393 : decode cL_law 393 = .ok (.iadd, 1) := by decide +kernel
theorem dL_law_394 : decode cL_law 394 = .ok (.iaload, 1) := by decide +kernel
theorem dL_law_395 : decode cL_law 395 = .ok (.aload_n 0, 1) := by decide +kernel
theorem dL_law_396 : decode cL_law 396 = .ok (.iload_n 3, 1) := by decide +kernel
theorem dL_law_397 : decode cL_law 397 = .ok (.iconst 2, 1) := by decide +kernel
theorem dL_law_398 : decode cL_law 398 = .ok (.iadd, 1) := by decide +kernel
theorem dL_law_399 : decode cL_law 399 = .ok (.iaload, 1) := by decide +kernel
theorem dL_law_400 : decode cL_law 400 = .ok (.aload_n 0, 1) := by decide +kernel
theorem dL_law_401 : decode cL_law 401 = .ok (.iload_n 3, 1) := by decide +kernel
theorem dL_law_402 : decode cL_law 402 = .ok (.iconst 3, 1) := by decide +kernel
theorem dL_law_403 : decode cL_law 403 = .ok (.iadd, 1) := by decide +kernel
theorem dL_law_404 : decode cL_law 404 = .ok (.iaload, 1) := by decide +kernel
theorem dL_law_405 : decode cL_law 405 = .ok (.aload_n 0, 1) := by decide +kernel
theorem dL_law_406 : decode cL_law 406 = .ok (.iload_n 3, 1) := by decide +kernel
theorem dL_law_407 : decode cL_law 407 = .ok (.iconst 4, 1) := by decide +kernel
theorem dL_law_408 : decode cL_law 408 = .ok (.iadd, 1) := by decide +kernel
theorem dL_law_409 : decode cL_law 409 = .ok (.iaload, 1) := by decide +kernel
theorem dL_law_410 : decode cL_law 410 = .ok (.invokevirtual 48, 3) := by decide +kernel
theorem dL_law_413 : decode cL_law 413 = .ok (.if_icmp .eq 423, 3) := by decide +kernel
theorem dL_law_416 : decode cL_law 416 = .ok (.iconst 0, 1) := by decide +kernel
theorem dL_law_417 : decode cL_law 417 = .ok (.ireturn, 1) := by decide +kernel
theorem dL_law_418 : decode cL_law 418 = .ok (.aload_n 1, 1) := by decide +kernel
theorem dL_law_419 : decode cL_law 419 = .ok (.aload_n 0, 1) := by decide +kernel
theorem dL_law_420 : decode cL_law 420 = .ok (.iload_n 3, 1) := by decide +kernel
theorem dL_law_421 : decode cL_law 421 = .ok (.iconst 1, 1) := by decide +kernel
theorem dL_law_422 : decode cL_law 422 = .ok (.iadd, 1) := by decide +kernel
theorem dL_law_423 : decode cL_law 423 = .ok (.iaload, 1) := by decide +kernel
theorem dL_law_424 : decode cL_law 424 = .ok (.invokevirtual 49, 3) := by decide +kernel
theorem dL_law_427 : decode cL_law 427 = .ok (.aload_n 2, 1) := by decide +kernel
theorem dL_law_428 : decode cL_law 428 = .ok (.aload_n 0, 1) := by decide +kernel
theorem dL_law_429 : decode cL_law 429 = .ok (.iload_n 3, 1) := by decide +kernel
theorem dL_law_430 : decode cL_law 430 = .ok (.iconst 1, 1) := by decide +kernel
theorem dL_law_431 : decode cL_law 431 = .ok (.iadd, 1) := by decide +kernel
theorem dL_law_432 : decode cL_law 432 = .ok (.iaload, 1) := by decide +kernel
theorem dL_law_433 : decode cL_law 433 = .ok (.invokevirtual 52, 3) := by decide +kernel
theorem dL_law_436 : decode cL_law 436 = .ok (.if_icmp .eq 400, 3) := by decide +kernel
theorem dL_law_439 : decode cL_law 439 = .ok (.iconst 0, 1) := by decide +kernel
theorem dL_law_440 : decode cL_law 440 = .ok (.ireturn, 1) := by decide +kernel
theorem dL_law_441 : decode cL_law 441 = .ok (.aload_n 1, 1) := by decide +kernel
theorem dL_law_442 : decode cL_law 442 = .ok (.aload_n 0, 1) := by decide +kernel
theorem dL_law_443 : decode cL_law 443 = .ok (.iload_n 3, 1) := by decide +kernel
theorem dL_law_444 : decode cL_law 444 = .ok (.iconst 1, 1) := by decide +kernel
theorem dL_law_445 : decode cL_law 445 = .ok (.iadd, 1) := by decide +kernel
theorem dL_law_446 : decode cL_law 446 = .ok (.iaload, 1) := by decide +kernel
theorem dL_law_447 : decode cL_law 447 = .ok (.aload_n 0, 1) := by decide +kernel
theorem dL_law_448 : decode cL_law 448 = .ok (.iload_n 3, 1) := by decide +kernel
theorem dL_law_449 : decode cL_law 449 = .ok (.iconst 2, 1) := by decide +kernel
theorem dL_law_450 : decode cL_law 450 = .ok (.iadd, 1) := by decide +kernel
theorem dL_law_451 : decode cL_law 451 = .ok (.iaload, 1) := by decide +kernel
theorem dL_law_452 : decode cL_law 452 = .ok (.invokevirtual 53, 3) := by decide +kernel
theorem dL_law_455 : decode cL_law 455 = .ok (.aload_n 2, 1) := by decide +kernel
theorem dL_law_456 : decode cL_law 456 = .ok (.aload_n 0, 1) := by decide +kernel
theorem dL_law_457 : decode cL_law 457 = .ok (.iload_n 3, 1) := by decide +kernel
theorem dL_law_458 : decode cL_law 458 = .ok (.iconst 1, 1) := by decide +kernel
theorem dL_law_459 : decode cL_law 459 = .ok (.iadd, 1) := by decide +kernel
theorem dL_law_460 : decode cL_law 460 = .ok (.iaload, 1) := by decide +kernel
theorem dL_law_461 : decode cL_law 461 = .ok (.aload_n 0, 1) := by decide +kernel
theorem dL_law_462 : decode cL_law 462 = .ok (.iload_n 3, 1) := by decide +kernel
theorem dL_law_463 : decode cL_law 463 = .ok (.iconst 2, 1) := by decide +kernel
theorem dL_law_464 : decode cL_law 464 = .ok (.iadd, 1) := by decide +kernel
theorem dL_law_465 : decode cL_law 465 = .ok (.iaload, 1) := by decide +kernel
theorem dL_law_466 : decode cL_law 466 = .ok (.invokevirtual 56, 3) := by decide +kernel
theorem dL_law_469 : decode cL_law 469 = .ok (.if_icmp .eq 367, 3) := by decide +kernel
theorem dL_law_472 : decode cL_law 472 = .ok (.iconst 0, 1) := by decide +kernel
theorem dL_law_473 : decode cL_law 473 = .ok (.ireturn, 1) := by decide +kernel
theorem dL_law_474 : decode cL_law 474 = .ok (.aload_n 1, 1) := by decide +kernel
theorem dL_law_475 : decode cL_law 475 = .ok (.aload_n 0, 1) := by decide +kernel
theorem dL_law_476 : decode cL_law 476 = .ok (.iload_n 3, 1) := by decide +kernel
theorem dL_law_477 : decode cL_law 477 = .ok (.iconst 1, 1) := by decide +kernel
theorem dL_law_478 : decode cL_law 478 = .ok (.iadd, 1) := by decide +kernel
theorem dL_law_479 : decode cL_law 479 = .ok (.iaload, 1) := by decide +kernel
theorem dL_law_480 : decode cL_law 480 = .ok (.aload_n 0, 1) := by decide +kernel
theorem dL_law_481 : decode cL_law 481 = .ok (.iload_n 3, 1) := by decide +kernel
theorem dL_law_482 : decode cL_law 482 = .ok (.iconst 2, 1) := by decide +kernel
theorem dL_law_483 : decode cL_law 483 = .ok (.iadd, 1) := by decide +kernel
theorem dL_law_484 : decode cL_law 484 = .ok (.iaload, 1) := by decide +kernel
theorem dL_law_485 : decode cL_law 485 = .ok (.invokevirtual 57, 3) := by decide +kernel
theorem dL_law_488 : decode cL_law 488 = .ok (.aload_n 2, 1) := by decide +kernel
theorem dL_law_489 : decode cL_law 489 = .ok (.aload_n 0, 1) := by decide +kernel
theorem dL_law_490 : decode cL_law 490 = .ok (.iload_n 3, 1) := by decide +kernel
theorem dL_law_491 : decode cL_law 491 = .ok (.iconst 1, 1) := by decide +kernel
theorem dL_law_492 : decode cL_law 492 = .ok (.iadd, 1) := by decide +kernel
theorem dL_law_493 : decode cL_law 493 = .ok (.iaload, 1) := by decide +kernel
theorem dL_law_494 : decode cL_law 494 = .ok (.aload_n 0, 1) := by decide +kernel
theorem dL_law_495 : decode cL_law 495 = .ok (.iload_n 3, 1) := by decide +kernel
theorem dL_law_496 : decode cL_law 496 = .ok (.iconst 2, 1) := by decide +kernel
theorem dL_law_497 : decode cL_law 497 = .ok (.iadd, 1) := by decide +kernel
theorem dL_law_498 : decode cL_law 498 = .ok (.iaload, 1) := by decide +kernel
theorem dL_law_499 : decode cL_law 499 = .ok (.invokevirtual 60, 3) := by decide +kernel
theorem dL_law_502 : decode cL_law 502 = .ok (.if_icmp .eq 334, 3) := by decide +kernel
theorem dL_law_505 : decode cL_law 505 = .ok (.iconst 0, 1) := by decide +kernel
theorem dL_law_506 : decode cL_law 506 = .ok (.ireturn, 1) := by decide +kernel
theorem dL_law_507 : decode cL_law 507 = .ok (.aload_n 1, 1) := by decide +kernel
theorem dL_law_508 : decode cL_law 508 = .ok (.aload_n 0, 1) := by decide +kernel
theorem dL_law_509 : decode cL_law 509 = .ok (.iload_n 3, 1) := by decide +kernel
theorem dL_law_510 : decode cL_law 510 = .ok (.iconst 1, 1) := by decide +kernel
theorem dL_law_511 : decode cL_law 511 = .ok (.iadd, 1) := by decide +kernel
theorem dL_law_512 : decode cL_law 512 = .ok (.iaload, 1) := by decide +kernel
theorem dL_law_513 : decode cL_law 513 = .ok (.aload_n 0, 1) := by decide +kernel
theorem dL_law_514 : decode cL_law 514 = .ok (.iload_n 3, 1) := by decide +kernel
theorem dL_law_515 : decode cL_law 515 = .ok (.iconst 2, 1) := by decide +kernel
theorem dL_law_516 : decode cL_law 516 = .ok (.iadd, 1) := by decide +kernel
theorem dL_law_517 : decode cL_law 517 = .ok (.iaload, 1) := by decide +kernel
theorem dL_law_518 : decode cL_law 518 = .ok (.invokevirtual 61, 3) := by decide +kernel
theorem dL_law_521 : decode cL_law 521 = .ok (.aload_n 2, 1) := by decide +kernel
theorem dL_law_522 : decode cL_law 522 = .ok (.aload_n 0, 1) := by decide +kernel
theorem dL_law_523 : decode cL_law 523 = .ok (.iload_n 3, 1) := by decide +kernel
theorem dL_law_524 : decode cL_law 524 = .ok (.iconst 1, 1) := by decide +kernel
theorem dL_law_525 : decode cL_law 525 = .ok (.iadd, 1) := by decide +kernel
theorem dL_law_526 : decode cL_law 526 = .ok (.iaload, 1) := by decide +kernel
theorem dL_law_527 : decode cL_law 527 = .ok (.aload_n 0, 1) := by decide +kernel
theorem dL_law_528 : decode cL_law 528 = .ok (.iload_n 3, 1) := by decide +kernel
theorem dL_law_529 : decode cL_law 529 = .ok (.iconst 2, 1) := by decide +kernel
theorem dL_law_530 : decode cL_law 530 = .ok (.iadd, 1) := by decide +kernel
theorem dL_law_531 : decode cL_law 531 = .ok (.iaload, 1) := by decide +kernel
theorem dL_law_532 : decode cL_law 532 = .ok (.invokevirtual 64, 3) := by decide +kernel
theorem dL_law_535 : decode cL_law 535 = .ok (.if_icmp .eq 301, 3) := by decide +kernel
theorem dL_law_538 : decode cL_law 538 = .ok (.iconst 0, 1) := by decide +kernel
theorem dL_law_539 : decode cL_law 539 = .ok (.ireturn, 1) := by decide +kernel
theorem dL_law_540 : decode cL_law 540 = .ok (.aload_n 1, 1) := by decide +kernel
theorem dL_law_541 : decode cL_law 541 = .ok (.aload_n 0, 1) := by decide +kernel
theorem dL_law_542 : decode cL_law 542 = .ok (.iload_n 3, 1) := by decide +kernel
theorem dL_law_543 : decode cL_law 543 = .ok (.iconst 1, 1) := by decide +kernel
theorem dL_law_544 : decode cL_law 544 = .ok (.iadd, 1) := by decide +kernel
theorem dL_law_545 : decode cL_law 545 = .ok (.iaload, 1) := by decide +kernel
theorem dL_law_546 : decode cL_law 546 = .ok (.aload_n 0, 1) := by decide +kernel
theorem dL_law_547 : decode cL_law 547 = .ok (.iload_n 3, 1) := by decide +kernel
theorem dL_law_548 : decode cL_law 548 = .ok (.iconst 2, 1) := by decide +kernel
theorem dL_law_549 : decode cL_law 549 = .ok (.iadd, 1) := by decide +kernel
theorem dL_law_550 : decode cL_law 550 = .ok (.iaload, 1) := by decide +kernel
theorem dL_law_551 : decode cL_law 551 = .ok (.invokevirtual 65, 3) := by decide +kernel
theorem dL_law_554 : decode cL_law 554 = .ok (.aload_n 2, 1) := by decide +kernel
theorem dL_law_555 : decode cL_law 555 = .ok (.aload_n 0, 1) := by decide +kernel
theorem dL_law_556 : decode cL_law 556 = .ok (.iload_n 3, 1) := by decide +kernel
theorem dL_law_557 : decode cL_law 557 = .ok (.iconst 1, 1) := by decide +kernel
theorem dL_law_558 : decode cL_law 558 = .ok (.iadd, 1) := by decide +kernel
theorem dL_law_559 : decode cL_law 559 = .ok (.iaload, 1) := by decide +kernel
theorem dL_law_560 : decode cL_law 560 = .ok (.aload_n 0, 1) := by decide +kernel
theorem dL_law_561 : decode cL_law 561 = .ok (.iload_n 3, 1) := by decide +kernel
theorem dL_law_562 : decode cL_law 562 = .ok (.iconst 2, 1) := by decide +kernel
theorem dL_law_563 : decode cL_law 563 = .ok (.iadd, 1) := by decide +kernel
theorem dL_law_564 : decode cL_law 564 = .ok (.iaload, 1) := by decide +kernel
theorem dL_law_565 : decode cL_law 565 = .ok (.invokevirtual 68, 3) := by decide +kernel
theorem dL_law_568 : decode cL_law 568 = .ok (.if_icmp .eq 268, 3) := by decide +kernel
theorem dL_law_571 : decode cL_law 571 = .ok (.iconst 0, 1) := by decide +kernel
theorem dL_law_572 : decode cL_law 572 = .ok (.ireturn, 1) := by decide +kernel
theorem dL_law_573 : decode cL_law 573 = .ok (.aload_n 1, 1) := by decide +kernel
theorem dL_law_574 : decode cL_law 574 = .ok (.aload_n 0, 1) := by decide +kernel
theorem dL_law_575 : decode cL_law 575 = .ok (.iload_n 3, 1) := by decide +kernel
theorem dL_law_576 : decode cL_law 576 = .ok (.iconst 1, 1) := by decide +kernel
theorem dL_law_577 : decode cL_law 577 = .ok (.iadd, 1) := by decide +kernel
theorem dL_law_578 : decode cL_law 578 = .ok (.iaload, 1) := by decide +kernel
theorem dL_law_579 : decode cL_law 579 = .ok (.invokevirtual 69, 3) := by decide +kernel
theorem dL_law_582 : decode cL_law 582 = .ok (.aload_n 2, 1) := by decide +kernel
theorem dL_law_583 : decode cL_law 583 = .ok (.aload_n 0, 1) := by decide +kernel
theorem dL_law_584 : decode cL_law 584 = .ok (.iload_n 3, 1) := by decide +kernel
theorem dL_law_585 : decode cL_law 585 = .ok (.iconst 1, 1) := by decide +kernel
theorem dL_law_586 : decode cL_law 586 = .ok (.iadd, 1) := by decide +kernel
theorem dL_law_587 : decode cL_law 587 = .ok (.iaload, 1) := by decide +kernel
theorem dL_law_588 : decode cL_law 588 = .ok (.invokevirtual 72, 3) := by decide +kernel
theorem dL_law_591 : decode cL_law 591 = .ok (.if_icmp .eq 245, 3) := by decide +kernel
theorem dL_law_594 : decode cL_law 594 = .ok (.iconst 0, 1) := by decide +kernel
theorem dL_law_595 : decode cL_law 595 = .ok (.ireturn, 1) := by decide +kernel
theorem dL_law_596 : decode cL_law 596 = .ok (.aload_n 1, 1) := by decide +kernel
theorem dL_law_597 : decode cL_law 597 = .ok (.aload_n 0, 1) := by decide +kernel
theorem dL_law_598 : decode cL_law 598 = .ok (.iload_n 3, 1) := by decide +kernel
theorem dL_law_599 : decode cL_law 599 = .ok (.iconst 1, 1) := by decide +kernel
theorem dL_law_600 : decode cL_law 600 = .ok (.iadd, 1) := by decide +kernel
theorem dL_law_601 : decode cL_law 601 = .ok (.iaload, 1) := by decide +kernel
theorem dL_law_602 : decode cL_law 602 = .ok (.invokevirtual 73, 3) := by decide +kernel
theorem dL_law_605 : decode cL_law 605 = .ok (.aload_n 2, 1) := by decide +kernel
theorem dL_law_606 : decode cL_law 606 = .ok (.aload_n 0, 1) := by decide +kernel
theorem dL_law_607 : decode cL_law 607 = .ok (.iload_n 3, 1) := by decide +kernel
theorem dL_law_608 : decode cL_law 608 = .ok (.iconst 1, 1) := by decide +kernel
theorem dL_law_609 : decode cL_law 609 = .ok (.iadd, 1) := by decide +kernel
theorem dL_law_610 : decode cL_law 610 = .ok (.iaload, 1) := by decide +kernel
theorem dL_law_611 : decode cL_law 611 = .ok (.invokevirtual 76, 3) := by decide +kernel
theorem dL_law_614 : decode cL_law 614 = .ok (.if_icmp .eq 222, 3) := by decide +kernel
theorem dL_law_617 : decode cL_law 617 = .ok (.iconst 0, 1) := by decide +kernel
theorem dL_law_618 : decode cL_law 618 = .ok (.ireturn, 1) := by decide +kernel
theorem dL_law_619 : decode cL_law 619 = .ok (.aload_n 1, 1) := by decide +kernel
theorem dL_law_620 : decode cL_law 620 = .ok (.aload_n 0, 1) := by decide +kernel
theorem dL_law_621 : decode cL_law 621 = .ok (.iload_n 3, 1) := by decide +kernel
theorem dL_law_622 : decode cL_law 622 = .ok (.iconst 1, 1) := by decide +kernel
theorem dL_law_623 : decode cL_law 623 = .ok (.iadd, 1) := by decide +kernel
theorem dL_law_624 : decode cL_law 624 = .ok (.iaload, 1) := by decide +kernel
theorem dL_law_625 : decode cL_law 625 = .ok (.aload_n 0, 1) := by decide +kernel
theorem dL_law_626 : decode cL_law 626 = .ok (.iload_n 3, 1) := by decide +kernel
theorem dL_law_627 : decode cL_law 627 = .ok (.iconst 2, 1) := by decide +kernel
theorem dL_law_628 : decode cL_law 628 = .ok (.iadd, 1) := by decide +kernel
theorem dL_law_629 : decode cL_law 629 = .ok (.iaload, 1) := by decide +kernel
theorem dL_law_630 : decode cL_law 630 = .ok (.aload_n 0, 1) := by decide +kernel
theorem dL_law_631 : decode cL_law 631 = .ok (.iload_n 3, 1) := by decide +kernel
theorem dL_law_632 : decode cL_law 632 = .ok (.iconst 3, 1) := by decide +kernel
theorem dL_law_633 : decode cL_law 633 = .ok (.iadd, 1) := by decide +kernel
theorem dL_law_634 : decode cL_law 634 = .ok (.iaload, 1) := by decide +kernel
theorem dL_law_635 : decode cL_law 635 = .ok (.invokevirtual 77, 3) := by decide +kernel
theorem dL_law_638 : decode cL_law 638 = .ok (.aload_n 2, 1) := by decide +kernel
theorem dL_law_639 : decode cL_law 639 = .ok (.aload_n 0, 1) := by decide +kernel
theorem dL_law_640 : decode cL_law 640 = .ok (.iload_n 3, 1) := by decide +kernel
theorem dL_law_641 : decode cL_law 641 = .ok (.iconst 1, 1) := by decide +kernel
theorem dL_law_642 : decode cL_law 642 = .ok (.iadd, 1) := by decide +kernel
theorem dL_law_643 : decode cL_law 643 = .ok (.iaload, 1) := by decide +kernel
theorem dL_law_644 : decode cL_law 644 = .ok (.aload_n 0, 1) := by decide +kernel
theorem dL_law_645 : decode cL_law 645 = .ok (.iload_n 3, 1) := by decide +kernel
theorem dL_law_646 : decode cL_law 646 = .ok (.iconst 2, 1) := by decide +kernel
theorem dL_law_647 : decode cL_law 647 = .ok (.iadd, 1) := by decide +kernel
theorem dL_law_648 : decode cL_law 648 = .ok (.iaload, 1) := by decide +kernel
theorem dL_law_649 : decode cL_law 649 = .ok (.aload_n 0, 1) := by decide +kernel
theorem dL_law_650 : decode cL_law 650 = .ok (.iload_n 3, 1) := by decide +kernel
theorem dL_law_651 : decode cL_law 651 = .ok (.iconst 3, 1) := by decide +kernel
theorem dL_law_652 : decode cL_law 652 = .ok (.iadd, 1) := by decide +kernel
theorem dL_law_653 : decode cL_law 653 = .ok (.iaload, 1) := by decide +kernel
theorem dL_law_654 : decode cL_law 654 = .ok (.invokevirtual 80, 3) := by decide +kernel
theorem dL_law_657 : decode cL_law 657 = .ok (.if_icmp .eq 179, 3) := by decide +kernel
theorem dL_law_660 : decode cL_law 660 = .ok (.iconst 0, 1) := by decide +kernel
theorem dL_law_661 : decode cL_law 661 = .ok (.ireturn, 1) := by decide +kernel
theorem dL_law_662 : decode cL_law 662 = .ok (.aload_n 1, 1) := by decide +kernel
theorem dL_law_663 : decode cL_law 663 = .ok (.aload_n 0, 1) := by decide +kernel
theorem dL_law_664 : decode cL_law 664 = .ok (.iload_n 3, 1) := by decide +kernel
theorem dL_law_665 : decode cL_law 665 = .ok (.iconst 1, 1) := by decide +kernel
theorem dL_law_666 : decode cL_law 666 = .ok (.iadd, 1) := by decide +kernel
theorem dL_law_667 : decode cL_law 667 = .ok (.iaload, 1) := by decide +kernel
theorem dL_law_668 : decode cL_law 668 = .ok (.invokevirtual 81, 3) := by decide +kernel
theorem dL_law_671 : decode cL_law 671 = .ok (.aload_n 2, 1) := by decide +kernel
theorem dL_law_672 : decode cL_law 672 = .ok (.aload_n 0, 1) := by decide +kernel
theorem dL_law_673 : decode cL_law 673 = .ok (.iload_n 3, 1) := by decide +kernel
theorem dL_law_674 : decode cL_law 674 = .ok (.iconst 1, 1) := by decide +kernel
theorem dL_law_675 : decode cL_law 675 = .ok (.iadd, 1) := by decide +kernel
theorem dL_law_676 : decode cL_law 676 = .ok (.iaload, 1) := by decide +kernel
theorem dL_law_677 : decode cL_law 677 = .ok (.invokevirtual 84, 3) := by decide +kernel
theorem dL_law_680 : decode cL_law 680 = .ok (.if_icmp .eq 156, 3) := by decide +kernel
theorem dL_law_683 : decode cL_law 683 = .ok (.iconst 0, 1) := by decide +kernel
theorem dL_law_684 : decode cL_law 684 = .ok (.ireturn, 1) := by decide +kernel
theorem dL_law_685 : decode cL_law 685 = .ok (.aload_n 1, 1) := by decide +kernel
theorem dL_law_686 : decode cL_law 686 = .ok (.aload_n 0, 1) := by decide +kernel
theorem dL_law_687 : decode cL_law 687 = .ok (.iload_n 3, 1) := by decide +kernel
theorem dL_law_688 : decode cL_law 688 = .ok (.iconst 1, 1) := by decide +kernel
theorem dL_law_689 : decode cL_law 689 = .ok (.iadd, 1) := by decide +kernel
theorem dL_law_690 : decode cL_law 690 = .ok (.iaload, 1) := by decide +kernel
theorem dL_law_691 : decode cL_law 691 = .ok (.i2l, 1) := by decide +kernel
theorem dL_law_692 : decode cL_law 692 = .ok (.bipush 32, 2) := by decide +kernel
theorem dL_law_694 : decode cL_law 694 = .ok (.lshl, 1) := by decide +kernel
theorem dL_law_695 : decode cL_law 695 = .ok (.aload_n 0, 1) := by decide +kernel
theorem dL_law_696 : decode cL_law 696 = .ok (.iload_n 3, 1) := by decide +kernel
theorem dL_law_697 : decode cL_law 697 = .ok (.iconst 2, 1) := by decide +kernel
theorem dL_law_698 : decode cL_law 698 = .ok (.iadd, 1) := by decide +kernel
theorem dL_law_699 : decode cL_law 699 = .ok (.iaload, 1) := by decide +kernel
theorem dL_law_700 : decode cL_law 700 = .ok (.i2l, 1) := by decide +kernel
theorem dL_law_701 : decode cL_law 701 = .ok (.ldc2_w 85, 3) := by decide +kernel
theorem dL_law_704 : decode cL_law 704 = .ok (.land, 1) := by decide +kernel
theorem dL_law_705 : decode cL_law 705 = .ok (.lor, 1) := by decide +kernel
theorem dL_law_706 : decode cL_law 706 = .ok (.invokevirtual 87, 3) := by decide +kernel
theorem dL_law_709 : decode cL_law 709 = .ok (.aload_n 2, 1) := by decide +kernel
theorem dL_law_710 : decode cL_law 710 = .ok (.aload_n 0, 1) := by decide +kernel
theorem dL_law_711 : decode cL_law 711 = .ok (.iload_n 3, 1) := by decide +kernel
theorem dL_law_712 : decode cL_law 712 = .ok (.iconst 1, 1) := by decide +kernel
theorem dL_law_713 : decode cL_law 713 = .ok (.iadd, 1) := by decide +kernel
theorem dL_law_714 : decode cL_law 714 = .ok (.iaload, 1) := by decide +kernel
theorem dL_law_715 : decode cL_law 715 = .ok (.i2l, 1) := by decide +kernel
theorem dL_law_716 : decode cL_law 716 = .ok (.bipush 32, 2) := by decide +kernel
theorem dL_law_718 : decode cL_law 718 = .ok (.lshl, 1) := by decide +kernel
theorem dL_law_719 : decode cL_law 719 = .ok (.aload_n 0, 1) := by decide +kernel
theorem dL_law_720 : decode cL_law 720 = .ok (.iload_n 3, 1) := by decide +kernel
theorem dL_law_721 : decode cL_law 721 = .ok (.iconst 2, 1) := by decide +kernel
theorem dL_law_722 : decode cL_law 722 = .ok (.iadd, 1) := by decide +kernel
theorem dL_law_723 : decode cL_law 723 = .ok (.iaload, 1) := by decide +kernel
theorem dL_law_724 : decode cL_law 724 = .ok (.i2l, 1) := by decide +kernel
theorem dL_law_725 : decode cL_law 725 = .ok (.ldc2_w 85, 3) := by decide +kernel
theorem dL_law_728 : decode cL_law 728 = .ok (.land, 1) := by decide +kernel
theorem dL_law_729 : decode cL_law 729 = .ok (.lor, 1) := by decide +kernel
theorem dL_law_730 : decode cL_law 730 = .ok (.invokevirtual 91, 3) := by decide +kernel
theorem dL_law_733 : decode cL_law 733 = .ok (.if_icmp .eq 103, 3) := by decide +kernel
theorem dL_law_736 : decode cL_law 736 = .ok (.iconst 0, 1) := by decide +kernel
theorem dL_law_737 : decode cL_law 737 = .ok (.ireturn, 1) := by decide +kernel
theorem dL_law_738 : decode cL_law 738 = .ok (.aload_n 1, 1) := by decide +kernel
theorem dL_law_739 : decode cL_law 739 = .ok (.invokevirtual 92, 3) := by decide +kernel
theorem dL_law_742 : decode cL_law 742 = .ok (.aload_n 2, 1) := by decide +kernel
theorem dL_law_743 : decode cL_law 743 = .ok (.invokevirtual 96, 3) := by decide +kernel
theorem dL_law_746 : decode cL_law 746 = .ok (.if_icmp .eq 90, 3) := by decide +kernel
theorem dL_law_749 : decode cL_law 749 = .ok (.iconst 0, 1) := by decide +kernel
theorem dL_law_750 : decode cL_law 750 = .ok (.ireturn, 1) := by decide +kernel
theorem dL_law_751 : decode cL_law 751 = .ok (.aload_n 1, 1) := by decide +kernel
theorem dL_law_752 : decode cL_law 752 = .ok (.invokevirtual 97, 3) := by decide +kernel
theorem dL_law_755 : decode cL_law 755 = .ok (.aload_n 2, 1) := by decide +kernel
theorem dL_law_756 : decode cL_law 756 = .ok (.invokevirtual 100, 3) := by decide +kernel
theorem dL_law_759 : decode cL_law 759 = .ok (.if_icmp .eq 77, 3) := by decide +kernel
theorem dL_law_762 : decode cL_law 762 = .ok (.iconst 0, 1) := by decide +kernel
theorem dL_law_763 : decode cL_law 763 = .ok (.ireturn, 1) := by decide +kernel
theorem dL_law_764 : decode cL_law 764 = .ok (.aload_n 1, 1) := by decide +kernel
theorem dL_law_765 : decode cL_law 765 = .ok (.invokevirtual 101, 3) := by decide +kernel
theorem dL_law_768 : decode cL_law 768 = .ok (.aload_n 2, 1) := by decide +kernel
theorem dL_law_769 : decode cL_law 769 = .ok (.invokevirtual 104, 3) := by decide +kernel
theorem dL_law_772 : decode cL_law 772 = .ok (.if_icmp .eq 64, 3) := by decide +kernel
theorem dL_law_775 : decode cL_law 775 = .ok (.iconst 0, 1) := by decide +kernel
theorem dL_law_776 : decode cL_law 776 = .ok (.ireturn, 1) := by decide +kernel
theorem dL_law_777 : decode cL_law 777 = .ok (.aload_n 1, 1) := by decide +kernel
theorem dL_law_778 : decode cL_law 778 = .ok (.invokevirtual 105, 3) := by decide +kernel
theorem dL_law_781 : decode cL_law 781 = .ok (.aload_n 2, 1) := by decide +kernel
theorem dL_law_782 : decode cL_law 782 = .ok (.invokevirtual 108, 3) := by decide +kernel
theorem dL_law_785 : decode cL_law 785 = .ok (.if_icmp .eq 51, 3) := by decide +kernel
theorem dL_law_788 : decode cL_law 788 = .ok (.iconst 0, 1) := by decide +kernel
theorem dL_law_789 : decode cL_law 789 = .ok (.ireturn, 1) := by decide +kernel
theorem dL_law_790 : decode cL_law 790 = .ok (.aload_n 1, 1) := by decide +kernel
theorem dL_law_791 : decode cL_law 791 = .ok (.aload_n 0, 1) := by decide +kernel
theorem dL_law_792 : decode cL_law 792 = .ok (.iload_n 3, 1) := by decide +kernel
theorem dL_law_793 : decode cL_law 793 = .ok (.iconst 1, 1) := by decide +kernel
theorem dL_law_794 : decode cL_law 794 = .ok (.iadd, 1) := by decide +kernel
theorem dL_law_795 : decode cL_law 795 = .ok (.iaload, 1) := by decide +kernel
theorem dL_law_796 : decode cL_law 796 = .ok (.invokevirtual 109, 3) := by decide +kernel
theorem dL_law_799 : decode cL_law 799 = .ok (.aload_n 2, 1) := by decide +kernel
theorem dL_law_800 : decode cL_law 800 = .ok (.aload_n 0, 1) := by decide +kernel
theorem dL_law_801 : decode cL_law 801 = .ok (.iload_n 3, 1) := by decide +kernel
theorem dL_law_802 : decode cL_law 802 = .ok (.iconst 1, 1) := by decide +kernel
theorem dL_law_803 : decode cL_law 803 = .ok (.iadd, 1) := by decide +kernel
theorem dL_law_804 : decode cL_law 804 = .ok (.iaload, 1) := by decide +kernel
theorem dL_law_805 : decode cL_law 805 = .ok (.invokevirtual 112, 3) := by decide +kernel
theorem dL_law_808 : decode cL_law 808 = .ok (.if_icmp .eq 28, 3) := by decide +kernel
theorem dL_law_811 : decode cL_law 811 = .ok (.iconst 0, 1) := by decide +kernel
theorem dL_law_812 : decode cL_law 812 = .ok (.ireturn, 1) := by decide +kernel
theorem dL_law_813 : decode cL_law 813 = .ok (.aload_n 1, 1) := by decide +kernel
theorem dL_law_814 : decode cL_law 814 = .ok (.aload_n 0, 1) := by decide +kernel
theorem dL_law_815 : decode cL_law 815 = .ok (.iload_n 3, 1) := by decide +kernel
theorem dL_law_816 : decode cL_law 816 = .ok (.iconst 1, 1) := by decide +kernel
theorem dL_law_817 : decode cL_law 817 = .ok (.iadd, 1) := by decide +kernel
theorem dL_law_818 : decode cL_law 818 = .ok (.iaload, 1) := by decide +kernel
theorem dL_law_819 : decode cL_law 819 = .ok (.invokevirtual 113, 3) := by decide +kernel
theorem dL_law_822 : decode cL_law 822 = .ok (.aload_n 2, 1) := by decide +kernel
theorem dL_law_823 : decode cL_law 823 = .ok (.aload_n 0, 1) := by decide +kernel
theorem dL_law_824 : decode cL_law 824 = .ok (.iload_n 3, 1) := by decide +kernel
theorem dL_law_825 : decode cL_law 825 = .ok (.iconst 1, 1) := by decide +kernel
theorem dL_law_826 : decode cL_law 826 = .ok (.iadd, 1) := by decide +kernel
theorem dL_law_827 : decode cL_law 827 = .ok (.iaload, 1) := by decide +kernel
theorem dL_law_828 : decode cL_law 828 = .ok (.invokevirtual 116, 3) := by decide +kernel
theorem dL_law_831 : decode cL_law 831 = .ok (.if_icmp .eq 5, 3) := by decide +kernel
theorem dL_law_834 : decode cL_law 834 = .ok (.iconst 0, 1) := by decide +kernel
theorem dL_law_835 : decode cL_law 835 = .ok (.ireturn, 1) := by decide +kernel
theorem dL_law_836 : decode cL_law 836 = .ok (.iinc 3 5, 3) := by decide +kernel
theorem dL_law_839 : decode cL_law 839 = .ok (.goto (-821), 3) := by decide +kernel
theorem dL_law_842 : decode cL_law 842 = .ok (.iconst 1, 1) := by decide +kernel
theorem dL_law_843 : decode cL_law 843 = .ok (.ireturn, 1) := by decide +kernel
end
section
/-- words by their places in the table -/
def q_tbl : List Cond := lw_tbl.filter goodWord
theorem q_mem {w : Cond} (i : Nat) (h : lw_tbl[i]? = some w) (hg : goodWord w = true) : w ∈ q_tbl := List.mem_filter.mpr ⟨List.mem_of_getElem? h, hg⟩
theorem q_places {ws : List Cond} (ps : List Nat) (h : ps.filterMap (fun i => lw_tbl[i]?) = ws) (hg : ws.all goodWord = true) : ∀ w ∈ ws, w ∈ q_tbl := by
  intro w hw
  have hw2 := List.all_eq_true.mp hg w hw
  rw [← h] at hw
  obtain ⟨i, -, hi⟩ := List.mem_filterMap.mp hw
  exact q_mem i hi hw2
theorem q_tbl_good : GoodIn lw_tbl q_tbl := fun w h => ⟨(List.mem_filter.mp h).1, good_of_word (List.mem_filter.mp h).2⟩
theorem q_tbl_self : GoodIn q_tbl q_tbl := fun w h => ⟨h, good_of_word (List.mem_filter.mp h).2⟩
def q_ty : Nat → Nat → FieldType := fun t => match t with
  | 0 => tyX0
  | 1 => tyX1
  | 2 => tyX2
  | 3 => tyX3
  | 4 => tyX4
  | 5 => tyX5
  | 6 => tyX6
  | 7 => tyX7
  | 8 => tyX8
  | _ => tyX9
/-- the pool place idx of the class own is the field k of the class t -/
def q_FL (own : String) (idx t : Nat) (k : Int) (ty : FieldType) (fin : Bool) : Prop :=
  ∃ (R : String) (T : u_T) (N kn : Nat), vwCl[t]? = some (R, T, N) ∧ k = (kn : Int) ∧ kn < N ∧ (T kn).1 = R ∧ Cond.fieldLink own idx R (T kn).2.1 (T kn).2.2.1 ∈ q_tbl ∧ q_ty t kn = ty ∧ (T kn).2.2.2 = fin ∧ t < 10
/-- what the tables say of a method -/
def q_M (y : MethodName) (cc : ByteArray) (mL : Nat) (ret : Option FieldType) (np : Nat) : Prop :=
  Cond.code y cc mL ret ∈ q_tbl ∧ Cond.initialized y.cls ∈ q_tbl ∧ y.cls ≠ "java/lang/invoke/MethodHandle" ∧ y.cls ≠ "java/lang/invoke/VarHandle" ∧ plainName y.cls = true ∧ (parseMethodDescriptor y.desc).map (fun d => d.parameters.length) = some np
def q_nest : List Cond := [.methodLinkNest RX4 64 yX8_tenthsFor RX8, .methodLinkNest RX1 111 yX8_leadOf RX8, .methodLinkNest RX4 68 yX8_isWithin RX8, .methodLinkNest RX1 61 yX8_tenthsFor RX8, .methodLinkNest RX2 27 yX8_isWithin RX8, .methodLinkNest RX3 47 yX8_isWithin RX8]
theorem q_nest_in : ∀ w ∈ q_nest, w ∈ lw_tbl := by
  have h : ([348, 363, 468, 671, 687, 712] : List Nat).filterMap (fun i => lw_tbl[i]?) = q_nest := by decide +kernel
  intro w hw
  rw [← h] at hw
  obtain ⟨i, -, hi⟩ := List.mem_filterMap.mp hw
  exact List.mem_of_getElem? hi
theorem q_inX0 : ∀ w ∈ u_ws RX0 TX0 3, w ∈ q_tbl := q_places [312, 314, 316] (by decide +kernel) (by decide +kernel)
theorem q_inX1 : ∀ w ∈ u_ws RX1 TX1 8, w ∈ q_tbl := q_places [244, 246, 248, 250, 252, 254, 256, 258] (by decide +kernel) (by decide +kernel)
theorem q_inX2 : ∀ w ∈ u_ws RX2 TX2 2, w ∈ q_tbl := q_places [273, 275] (by decide +kernel) (by decide +kernel)
theorem q_inX3 : ∀ w ∈ u_ws RX3 TX3 4, w ∈ q_tbl := q_places [290, 292, 294, 296] (by decide +kernel) (by decide +kernel)
theorem q_inX4 : ∀ w ∈ u_ws RX4 TX4 8, w ∈ q_tbl := q_places [163, 165, 167, 169, 171, 173, 175, 177] (by decide +kernel) (by decide +kernel)
theorem q_inX5 : ∀ w ∈ u_ws RX5 TX5 8, w ∈ q_tbl := q_places [212, 214, 216, 218, 220, 222, 224, 226] (by decide +kernel) (by decide +kernel)
theorem q_inX6 : ∀ w ∈ u_ws RX6 TX6 3, w ∈ q_tbl := q_places [101, 103, 105] (by decide +kernel) (by decide +kernel)
theorem q_inX7 : ∀ w ∈ u_ws RX7 TX7 5, w ∈ q_tbl := q_places [129, 131, 133, 135, 137] (by decide +kernel) (by decide +kernel)
theorem q_inX8 : ∀ w ∈ u_ws RX8 TX8 9, w ∈ q_tbl := q_places [414, 416, 418, 420, 422, 424, 426, 428, 430] (by decide +kernel) (by decide +kernel)
theorem q_inX9 : ∀ w ∈ u_ws RX9 TX9 24, w ∈ q_tbl := q_places [793, 795, 797, 799, 801, 803, 805, 807, 809, 811, 813, 815, 817, 819, 821, 823, 825, 827, 829, 831, 833, 835, 837, 839] (by decide +kernel) (by decide +kernel)
theorem li_RL : Cond.initialized RL ∈ q_tbl := q_mem 61 (by decide +kernel) rfl
theorem li_RX8 : Cond.initialized RX8 ∈ q_tbl := q_mem 62 (by decide +kernel) rfl
theorem li_RX4 : Cond.initialized RX4 ∈ q_tbl := q_mem 63 (by decide +kernel) rfl
theorem li_RX6 : Cond.initialized RX6 ∈ q_tbl := q_mem 64 (by decide +kernel) rfl
theorem li_RX7 : Cond.initialized RX7 ∈ q_tbl := q_mem 65 (by decide +kernel) rfl
theorem li_RX1 : Cond.initialized RX1 ∈ q_tbl := q_mem 66 (by decide +kernel) rfl
theorem li_RX5 : Cond.initialized RX5 ∈ q_tbl := q_mem 67 (by decide +kernel) rfl
theorem li_RX2 : Cond.initialized RX2 ∈ q_tbl := q_mem 68 (by decide +kernel) rfl
theorem li_RX3 : Cond.initialized RX3 ∈ q_tbl := q_mem 69 (by decide +kernel) rfl
theorem li_RX0 : Cond.initialized RX0 ∈ q_tbl := q_mem 70 (by decide +kernel) rfl
theorem li_RJ9 : Cond.initialized RJ9 ∈ q_tbl := q_mem 71 (by decide +kernel) rfl
theorem li_RX9 : Cond.initialized RX9 ∈ q_tbl := q_mem 72 (by decide +kernel) rfl
theorem li_RJ10 : Cond.initialized RJ10 ∈ q_tbl := q_mem 73 (by decide +kernel) rfl
theorem lc_RL_7 : Cond.classLink RL 7 RX8 ∈ q_tbl := q_mem 74 (by decide +kernel) rfl
theorem lk_RX8 : Cond.instantiable RX8 9 ∈ q_tbl := q_mem 75 (by decide +kernel) rfl
theorem lm_RL_9 : Cond.methodLink RL 9 yX8_init ∈ q_tbl := q_mem 76 (by decide +kernel) rfl
theorem lm_RX8_3 : Cond.methodLink RX8 3 objectInit ∈ q_tbl := q_mem 79 (by decide +kernel) rfl
theorem lc_RX8_9 : Cond.classLink RX8 9 RX4 ∈ q_tbl := q_mem 82 (by decide +kernel) rfl
theorem lk_RX4 : Cond.instantiable RX4 8 ∈ q_tbl := q_mem 83 (by decide +kernel) rfl
theorem lm_RX8_11 : Cond.methodLink RX8 11 yX4_init ∈ q_tbl := q_mem 84 (by decide +kernel) rfl
theorem lm_RX4_3 : Cond.methodLink RX4 3 objectInit ∈ q_tbl := q_mem 87 (by decide +kernel) rfl
theorem lc_RX4_25 : Cond.classLink RX4 25 RX6 ∈ q_tbl := q_mem 88 (by decide +kernel) rfl
theorem lk_RX6 : Cond.instantiable RX6 3 ∈ q_tbl := q_mem 89 (by decide +kernel) rfl
theorem lm_RX4_27 : Cond.methodLink RX4 27 yX6_init ∈ q_tbl := q_mem 90 (by decide +kernel) rfl
theorem lm_RX6_3 : Cond.methodLink RX6 3 objectInit ∈ q_tbl := q_mem 93 (by decide +kernel) rfl
theorem lf_RX6_9 : q_FL RX6 9 6 0 (.array .int) true := ⟨RX6, TX6, 3, 0, rfl, rfl, by decide, rfl, q_mem 94 (by decide +kernel) rfl, rfl, rfl, by decide⟩
theorem lf_RX1_156 : q_FL RX1 156 6 0 (.array .int) true := ⟨RX6, TX6, 3, 0, rfl, rfl, by decide, rfl, q_mem 95 (by decide +kernel) rfl, rfl, rfl, by decide⟩
theorem lf_RX6_15 : q_FL RX6 15 6 1 (.array .int) true := ⟨RX6, TX6, 3, 1, rfl, rfl, by decide, rfl, q_mem 96 (by decide +kernel) rfl, rfl, rfl, by decide⟩
theorem lf_RX1_162 : q_FL RX1 162 6 1 (.array .int) true := ⟨RX6, TX6, 3, 1, rfl, rfl, by decide, rfl, q_mem 97 (by decide +kernel) rfl, rfl, rfl, by decide⟩
theorem lf_RX6_24 : q_FL RX6 24 6 2 .int false := ⟨RX6, TX6, 3, 2, rfl, rfl, by decide, rfl, q_mem 98 (by decide +kernel) rfl, rfl, rfl, by decide⟩
theorem lf_RX1_155 : q_FL RX1 155 6 2 .int false := ⟨RX6, TX6, 3, 2, rfl, rfl, by decide, rfl, q_mem 99 (by decide +kernel) rfl, rfl, rfl, by decide⟩
theorem lf_RX8_212 : q_FL RX8 212 6 2 .int false := ⟨RX6, TX6, 3, 2, rfl, rfl, by decide, rfl, q_mem 100 (by decide +kernel) rfl, rfl, rfl, by decide⟩
theorem la_int : Cond.arrayClass .int ∈ q_tbl := q_mem 108 (by decide +kernel) rfl
theorem lc_RX4_40 : Cond.classLink RX4 40 RX7 ∈ q_tbl := q_mem 109 (by decide +kernel) rfl
theorem lk_RX7 : Cond.instantiable RX7 5 ∈ q_tbl := q_mem 110 (by decide +kernel) rfl
theorem lm_RX4_42 : Cond.methodLink RX4 42 yX7_init ∈ q_tbl := q_mem 111 (by decide +kernel) rfl
theorem lm_RX7_3 : Cond.methodLink RX7 3 objectInit ∈ q_tbl := q_mem 114 (by decide +kernel) rfl
theorem lf_RX7_9 : q_FL RX7 9 7 0 (.array .int) true := ⟨RX7, TX7, 5, 0, rfl, rfl, by decide, rfl, q_mem 115 (by decide +kernel) rfl, rfl, rfl, by decide⟩
theorem lf_RX1_101 : q_FL RX1 101 7 0 (.array .int) true := ⟨RX7, TX7, 5, 0, rfl, rfl, by decide, rfl, q_mem 116 (by decide +kernel) rfl, rfl, rfl, by decide⟩
theorem lf_RX8_149 : q_FL RX8 149 7 0 (.array .int) true := ⟨RX7, TX7, 5, 0, rfl, rfl, by decide, rfl, q_mem 117 (by decide +kernel) rfl, rfl, rfl, by decide⟩
theorem lf_RX7_15 : q_FL RX7 15 7 1 (.array .int) true := ⟨RX7, TX7, 5, 1, rfl, rfl, by decide, rfl, q_mem 118 (by decide +kernel) rfl, rfl, rfl, by decide⟩
theorem lf_RX1_104 : q_FL RX1 104 7 1 (.array .int) true := ⟨RX7, TX7, 5, 1, rfl, rfl, by decide, rfl, q_mem 119 (by decide +kernel) rfl, rfl, rfl, by decide⟩
theorem lf_RX8_152 : q_FL RX8 152 7 1 (.array .int) true := ⟨RX7, TX7, 5, 1, rfl, rfl, by decide, rfl, q_mem 120 (by decide +kernel) rfl, rfl, rfl, by decide⟩
theorem lf_RX7_18 : q_FL RX7 18 7 2 (.array .int) true := ⟨RX7, TX7, 5, 2, rfl, rfl, by decide, rfl, q_mem 121 (by decide +kernel) rfl, rfl, rfl, by decide⟩
theorem lf_RX1_119 : q_FL RX1 119 7 2 (.array .int) true := ⟨RX7, TX7, 5, 2, rfl, rfl, by decide, rfl, q_mem 122 (by decide +kernel) rfl, rfl, rfl, by decide⟩
theorem lf_RX8_155 : q_FL RX8 155 7 2 (.array .int) true := ⟨RX7, TX7, 5, 2, rfl, rfl, by decide, rfl, q_mem 123 (by decide +kernel) rfl, rfl, rfl, by decide⟩
theorem lf_RX7_21 : q_FL RX7 21 7 3 (.array .int) true := ⟨RX7, TX7, 5, 3, rfl, rfl, by decide, rfl, q_mem 124 (by decide +kernel) rfl, rfl, rfl, by decide⟩
theorem lf_RX8_158 : q_FL RX8 158 7 3 (.array .int) true := ⟨RX7, TX7, 5, 3, rfl, rfl, by decide, rfl, q_mem 125 (by decide +kernel) rfl, rfl, rfl, by decide⟩
theorem lf_RX7_24 : q_FL RX7 24 7 4 .int false := ⟨RX7, TX7, 5, 4, rfl, rfl, by decide, rfl, q_mem 126 (by decide +kernel) rfl, rfl, rfl, by decide⟩
theorem lf_RX1_98 : q_FL RX1 98 7 4 .int false := ⟨RX7, TX7, 5, 4, rfl, rfl, by decide, rfl, q_mem 127 (by decide +kernel) rfl, rfl, rfl, by decide⟩
theorem lf_RX8_215 : q_FL RX8 215 7 4 .int false := ⟨RX7, TX7, 5, 4, rfl, rfl, by decide, rfl, q_mem 128 (by decide +kernel) rfl, rfl, rfl, by decide⟩
theorem lf_RX4_9 : q_FL RX4 9 4 0 .int false := ⟨RX4, TX4, 8, 0, rfl, rfl, by decide, rfl, q_mem 140 (by decide +kernel) rfl, rfl, rfl, by decide⟩
theorem lf_RX1_55 : q_FL RX1 55 4 0 .int false := ⟨RX4, TX4, 8, 0, rfl, rfl, by decide, rfl, q_mem 141 (by decide +kernel) rfl, rfl, rfl, by decide⟩
theorem lf_RX8_205 : q_FL RX8 205 4 0 .int false := ⟨RX4, TX4, 8, 0, rfl, rfl, by decide, rfl, q_mem 142 (by decide +kernel) rfl, rfl, rfl, by decide⟩
theorem lf_RX4_15 : q_FL RX4 15 4 1 .int false := ⟨RX4, TX4, 8, 1, rfl, rfl, by decide, rfl, q_mem 143 (by decide +kernel) rfl, rfl, rfl, by decide⟩
theorem lf_RX1_145 : q_FL RX1 145 4 1 .int false := ⟨RX4, TX4, 8, 1, rfl, rfl, by decide, rfl, q_mem 144 (by decide +kernel) rfl, rfl, rfl, by decide⟩
theorem lf_RX8_216 : q_FL RX8 216 4 1 .int false := ⟨RX4, TX4, 8, 1, rfl, rfl, by decide, rfl, q_mem 145 (by decide +kernel) rfl, rfl, rfl, by decide⟩
theorem lf_RX4_18 : q_FL RX4 18 4 2 (.array .int) true := ⟨RX4, TX4, 8, 2, rfl, rfl, by decide, rfl, q_mem 146 (by decide +kernel) rfl, rfl, rfl, by decide⟩
theorem lf_RX1_58 : q_FL RX1 58 4 2 (.array .int) true := ⟨RX4, TX4, 8, 2, rfl, rfl, by decide, rfl, q_mem 147 (by decide +kernel) rfl, rfl, rfl, by decide⟩
theorem lf_RX8_103 : q_FL RX8 103 4 2 (.array .int) true := ⟨RX4, TX4, 8, 2, rfl, rfl, by decide, rfl, q_mem 148 (by decide +kernel) rfl, rfl, rfl, by decide⟩
theorem lf_RX4_22 : q_FL RX4 22 4 3 (.array .int) true := ⟨RX4, TX4, 8, 3, rfl, rfl, by decide, rfl, q_mem 149 (by decide +kernel) rfl, rfl, rfl, by decide⟩
theorem lf_RX8_107 : q_FL RX8 107 4 3 (.array .int) true := ⟨RX4, TX4, 8, 3, rfl, rfl, by decide, rfl, q_mem 150 (by decide +kernel) rfl, rfl, rfl, by decide⟩
theorem lf_RX4_30 : q_FL RX4 30 4 4 (.object "TitleCaller$Spans") true := ⟨RX4, TX4, 8, 4, rfl, rfl, by decide, rfl, q_mem 151 (by decide +kernel) rfl, rfl, rfl, by decide⟩
theorem lf_RX1_72 : q_FL RX1 72 4 4 (.object "TitleCaller$Spans") true := ⟨RX4, TX4, 8, 4, rfl, rfl, by decide, rfl, q_mem 152 (by decide +kernel) rfl, rfl, rfl, by decide⟩
theorem lf_RX8_209 : q_FL RX8 209 4 4 (.object "TitleCaller$Spans") true := ⟨RX4, TX4, 8, 4, rfl, rfl, by decide, rfl, q_mem 153 (by decide +kernel) rfl, rfl, rfl, by decide⟩
theorem lf_RX4_34 : q_FL RX4 34 4 5 (.object "TitleCaller$Spans") true := ⟨RX4, TX4, 8, 5, rfl, rfl, by decide, rfl, q_mem 154 (by decide +kernel) rfl, rfl, rfl, by decide⟩
theorem lf_RX1_86 : q_FL RX1 86 4 5 (.object "TitleCaller$Spans") true := ⟨RX4, TX4, 8, 5, rfl, rfl, by decide, rfl, q_mem 155 (by decide +kernel) rfl, rfl, rfl, by decide⟩
theorem lf_RX8_119 : q_FL RX8 119 4 5 (.object "TitleCaller$Spans") true := ⟨RX4, TX4, 8, 5, rfl, rfl, by decide, rfl, q_mem 156 (by decide +kernel) rfl, rfl, rfl, by decide⟩
theorem lf_RX4_37 : q_FL RX4 37 4 6 (.object "TitleCaller$Spans") true := ⟨RX4, TX4, 8, 6, rfl, rfl, by decide, rfl, q_mem 157 (by decide +kernel) rfl, rfl, rfl, by decide⟩
theorem lf_RX1_129 : q_FL RX1 129 4 6 (.object "TitleCaller$Spans") true := ⟨RX4, TX4, 8, 6, rfl, rfl, by decide, rfl, q_mem 158 (by decide +kernel) rfl, rfl, rfl, by decide⟩
theorem lf_RX8_137 : q_FL RX8 137 4 6 (.object "TitleCaller$Spans") true := ⟨RX4, TX4, 8, 6, rfl, rfl, by decide, rfl, q_mem 159 (by decide +kernel) rfl, rfl, rfl, by decide⟩
theorem lf_RX4_43 : q_FL RX4 43 4 7 (.object "TitleCaller$Titles") true := ⟨RX4, TX4, 8, 7, rfl, rfl, by decide, rfl, q_mem 160 (by decide +kernel) rfl, rfl, rfl, by decide⟩
theorem lf_RX1_38 : q_FL RX1 38 4 7 (.object "TitleCaller$Titles") true := ⟨RX4, TX4, 8, 7, rfl, rfl, by decide, rfl, q_mem 161 (by decide +kernel) rfl, rfl, rfl, by decide⟩
theorem lf_RX8_140 : q_FL RX8 140 4 7 (.object "TitleCaller$Titles") true := ⟨RX4, TX4, 8, 7, rfl, rfl, by decide, rfl, q_mem 162 (by decide +kernel) rfl, rfl, rfl, by decide⟩
theorem lc_RX8_16 : Cond.classLink RX8 16 RX1 ∈ q_tbl := q_mem 180 (by decide +kernel) rfl
theorem lk_RX1 : Cond.instantiable RX1 8 ∈ q_tbl := q_mem 181 (by decide +kernel) rfl
theorem lm_RX8_18 : Cond.methodLink RX8 18 yX1_init ∈ q_tbl := q_mem 182 (by decide +kernel) rfl
theorem lm_RX1_3 : Cond.methodLink RX1 3 objectInit ∈ q_tbl := q_mem 185 (by decide +kernel) rfl
theorem lc_RX1_27 : Cond.classLink RX1 27 RX5 ∈ q_tbl := q_mem 186 (by decide +kernel) rfl
theorem lk_RX5 : Cond.instantiable RX5 8 ∈ q_tbl := q_mem 187 (by decide +kernel) rfl
theorem lm_RX1_29 : Cond.methodLink RX1 29 yX5_init ∈ q_tbl := q_mem 188 (by decide +kernel) rfl
theorem lm_RX5_3 : Cond.methodLink RX5 3 objectInit ∈ q_tbl := q_mem 191 (by decide +kernel) rfl
theorem lf_RX5_9 : q_FL RX5 9 5 0 (.array .int) true := ⟨RX5, TX5, 8, 0, rfl, rfl, by decide, rfl, q_mem 192 (by decide +kernel) rfl, rfl, rfl, by decide⟩
theorem lf_RX1_142 : q_FL RX1 142 5 0 (.array .int) true := ⟨RX5, TX5, 8, 0, rfl, rfl, by decide, rfl, q_mem 193 (by decide +kernel) rfl, rfl, rfl, by decide⟩
theorem lf_RX8_175 : q_FL RX8 175 5 0 (.array .int) true := ⟨RX5, TX5, 8, 0, rfl, rfl, by decide, rfl, q_mem 194 (by decide +kernel) rfl, rfl, rfl, by decide⟩
theorem lf_RX5_15 : q_FL RX5 15 5 1 (.array .int) true := ⟨RX5, TX5, 8, 1, rfl, rfl, by decide, rfl, q_mem 195 (by decide +kernel) rfl, rfl, rfl, by decide⟩
theorem lf_RX8_178 : q_FL RX8 178 5 1 (.array .int) true := ⟨RX5, TX5, 8, 1, rfl, rfl, by decide, rfl, q_mem 196 (by decide +kernel) rfl, rfl, rfl, by decide⟩
theorem lf_RX5_18 : q_FL RX5 18 5 2 (.array .int) true := ⟨RX5, TX5, 8, 2, rfl, rfl, by decide, rfl, q_mem 197 (by decide +kernel) rfl, rfl, rfl, by decide⟩
theorem lf_RX1_132 : q_FL RX1 132 5 2 (.array .int) true := ⟨RX5, TX5, 8, 2, rfl, rfl, by decide, rfl, q_mem 198 (by decide +kernel) rfl, rfl, rfl, by decide⟩
theorem lf_RX8_181 : q_FL RX8 181 5 2 (.array .int) true := ⟨RX5, TX5, 8, 2, rfl, rfl, by decide, rfl, q_mem 199 (by decide +kernel) rfl, rfl, rfl, by decide⟩
theorem lf_RX5_21 : q_FL RX5 21 5 3 (.array .int) true := ⟨RX5, TX5, 8, 3, rfl, rfl, by decide, rfl, q_mem 200 (by decide +kernel) rfl, rfl, rfl, by decide⟩
theorem lf_RX8_184 : q_FL RX8 184 5 3 (.array .int) true := ⟨RX5, TX5, 8, 3, rfl, rfl, by decide, rfl, q_mem 201 (by decide +kernel) rfl, rfl, rfl, by decide⟩
theorem lf_RX5_24 : q_FL RX5 24 5 4 (.array .int) true := ⟨RX5, TX5, 8, 4, rfl, rfl, by decide, rfl, q_mem 202 (by decide +kernel) rfl, rfl, rfl, by decide⟩
theorem lf_RX1_139 : q_FL RX1 139 5 4 (.array .int) true := ⟨RX5, TX5, 8, 4, rfl, rfl, by decide, rfl, q_mem 203 (by decide +kernel) rfl, rfl, rfl, by decide⟩
theorem lf_RX8_187 : q_FL RX8 187 5 4 (.array .int) true := ⟨RX5, TX5, 8, 4, rfl, rfl, by decide, rfl, q_mem 204 (by decide +kernel) rfl, rfl, rfl, by decide⟩
theorem lf_RX5_27 : q_FL RX5 27 5 5 (.array .int) true := ⟨RX5, TX5, 8, 5, rfl, rfl, by decide, rfl, q_mem 205 (by decide +kernel) rfl, rfl, rfl, by decide⟩
theorem lf_RX8_193 : q_FL RX8 193 5 5 (.array .int) true := ⟨RX5, TX5, 8, 5, rfl, rfl, by decide, rfl, q_mem 206 (by decide +kernel) rfl, rfl, rfl, by decide⟩
theorem lf_RX5_30 : q_FL RX5 30 5 6 (.array .int) true := ⟨RX5, TX5, 8, 6, rfl, rfl, by decide, rfl, q_mem 207 (by decide +kernel) rfl, rfl, rfl, by decide⟩
theorem lf_RX8_196 : q_FL RX8 196 5 6 (.array .int) true := ⟨RX5, TX5, 8, 6, rfl, rfl, by decide, rfl, q_mem 208 (by decide +kernel) rfl, rfl, rfl, by decide⟩
theorem lf_RX5_33 : q_FL RX5 33 5 7 .int false := ⟨RX5, TX5, 8, 7, rfl, rfl, by decide, rfl, q_mem 209 (by decide +kernel) rfl, rfl, rfl, by decide⟩
theorem lf_RX1_95 : q_FL RX1 95 5 7 .int false := ⟨RX5, TX5, 8, 7, rfl, rfl, by decide, rfl, q_mem 210 (by decide +kernel) rfl, rfl, rfl, by decide⟩
theorem lf_RX8_224 : q_FL RX8 224 5 7 .int false := ⟨RX5, TX5, 8, 7, rfl, rfl, by decide, rfl, q_mem 211 (by decide +kernel) rfl, rfl, rfl, by decide⟩
theorem lf_RX1_9 : q_FL RX1 9 1 0 (.array .int) true := ⟨RX1, TX1, 8, 0, rfl, rfl, by decide, rfl, q_mem 229 (by decide +kernel) rfl, rfl, rfl, by decide⟩
theorem lf_RX8_131 : q_FL RX8 131 1 0 (.array .int) true := ⟨RX1, TX1, 8, 0, rfl, rfl, by decide, rfl, q_mem 230 (by decide +kernel) rfl, rfl, rfl, by decide⟩
theorem lf_RX1_15 : q_FL RX1 15 1 1 (.array .int) true := ⟨RX1, TX1, 8, 1, rfl, rfl, by decide, rfl, q_mem 231 (by decide +kernel) rfl, rfl, rfl, by decide⟩
theorem lf_RX8_134 : q_FL RX8 134 1 1 (.array .int) true := ⟨RX1, TX1, 8, 1, rfl, rfl, by decide, rfl, q_mem 232 (by decide +kernel) rfl, rfl, rfl, by decide⟩
theorem lf_RX1_18 : q_FL RX1 18 1 2 (.array .int) true := ⟨RX1, TX1, 8, 2, rfl, rfl, by decide, rfl, q_mem 233 (by decide +kernel) rfl, rfl, rfl, by decide⟩
theorem lf_RX8_113 : q_FL RX8 113 1 2 (.array .int) true := ⟨RX1, TX1, 8, 2, rfl, rfl, by decide, rfl, q_mem 234 (by decide +kernel) rfl, rfl, rfl, by decide⟩
theorem lf_RX1_21 : q_FL RX1 21 1 3 (.array .int) true := ⟨RX1, TX1, 8, 3, rfl, rfl, by decide, rfl, q_mem 235 (by decide +kernel) rfl, rfl, rfl, by decide⟩
theorem lf_RX8_116 : q_FL RX8 116 1 3 (.array .int) true := ⟨RX1, TX1, 8, 3, rfl, rfl, by decide, rfl, q_mem 236 (by decide +kernel) rfl, rfl, rfl, by decide⟩
theorem lf_RX1_24 : q_FL RX1 24 1 4 (.array .int) true := ⟨RX1, TX1, 8, 4, rfl, rfl, by decide, rfl, q_mem 237 (by decide +kernel) rfl, rfl, rfl, by decide⟩
theorem lf_RX1_30 : q_FL RX1 30 1 5 (.object "TitleCaller$Showings") true := ⟨RX1, TX1, 8, 5, rfl, rfl, by decide, rfl, q_mem 238 (by decide +kernel) rfl, rfl, rfl, by decide⟩
theorem lf_RX8_161 : q_FL RX8 161 1 5 (.object "TitleCaller$Showings") true := ⟨RX1, TX1, 8, 5, rfl, rfl, by decide, rfl, q_mem 239 (by decide +kernel) rfl, rfl, rfl, by decide⟩
theorem lf_RX1_51 : q_FL RX1 51 1 6 .int false := ⟨RX1, TX1, 8, 6, rfl, rfl, by decide, rfl, q_mem 240 (by decide +kernel) rfl, rfl, rfl, by decide⟩
theorem lf_RX8_219 : q_FL RX8 219 1 6 .int false := ⟨RX1, TX1, 8, 6, rfl, rfl, by decide, rfl, q_mem 241 (by decide +kernel) rfl, rfl, rfl, by decide⟩
theorem lf_RX1_65 : q_FL RX1 65 1 7 .int false := ⟨RX1, TX1, 8, 7, rfl, rfl, by decide, rfl, q_mem 242 (by decide +kernel) rfl, rfl, rfl, by decide⟩
theorem lf_RX8_222 : q_FL RX8 222 1 7 .int false := ⟨RX1, TX1, 8, 7, rfl, rfl, by decide, rfl, q_mem 243 (by decide +kernel) rfl, rfl, rfl, by decide⟩
theorem lc_RX8_29 : Cond.classLink RX8 29 RX2 ∈ q_tbl := q_mem 261 (by decide +kernel) rfl
theorem lk_RX2 : Cond.instantiable RX2 2 ∈ q_tbl := q_mem 262 (by decide +kernel) rfl
theorem lm_RX8_31 : Cond.methodLink RX8 31 yX2_init ∈ q_tbl := q_mem 263 (by decide +kernel) rfl
theorem lm_RX2_3 : Cond.methodLink RX2 3 objectInit ∈ q_tbl := q_mem 266 (by decide +kernel) rfl
theorem lf_RX2_9 : q_FL RX2 9 2 0 (.array .int) true := ⟨RX2, TX2, 2, 0, rfl, rfl, by decide, rfl, q_mem 267 (by decide +kernel) rfl, rfl, rfl, by decide⟩
theorem lf_RX3_33 : q_FL RX3 33 2 0 (.array .int) true := ⟨RX2, TX2, 2, 0, rfl, rfl, by decide, rfl, q_mem 268 (by decide +kernel) rfl, rfl, rfl, by decide⟩
theorem lf_RX8_273 : q_FL RX8 273 2 0 (.array .int) true := ⟨RX2, TX2, 2, 0, rfl, rfl, by decide, rfl, q_mem 269 (by decide +kernel) rfl, rfl, rfl, by decide⟩
theorem lf_RX2_19 : q_FL RX2 19 2 1 .int false := ⟨RX2, TX2, 2, 1, rfl, rfl, by decide, rfl, q_mem 270 (by decide +kernel) rfl, rfl, rfl, by decide⟩
theorem lf_RX3_28 : q_FL RX3 28 2 1 .int false := ⟨RX2, TX2, 2, 1, rfl, rfl, by decide, rfl, q_mem 271 (by decide +kernel) rfl, rfl, rfl, by decide⟩
theorem lf_RX8_232 : q_FL RX8 232 2 1 .int false := ⟨RX2, TX2, 2, 1, rfl, rfl, by decide, rfl, q_mem 272 (by decide +kernel) rfl, rfl, rfl, by decide⟩
theorem lc_RX8_36 : Cond.classLink RX8 36 RX3 ∈ q_tbl := q_mem 278 (by decide +kernel) rfl
theorem lk_RX3 : Cond.instantiable RX3 4 ∈ q_tbl := q_mem 279 (by decide +kernel) rfl
theorem lm_RX8_38 : Cond.methodLink RX8 38 yX3_init ∈ q_tbl := q_mem 280 (by decide +kernel) rfl
theorem lm_RX3_3 : Cond.methodLink RX3 3 objectInit ∈ q_tbl := q_mem 283 (by decide +kernel) rfl
theorem lf_RX3_9 : q_FL RX3 9 3 0 (.array .int) true := ⟨RX3, TX3, 4, 0, rfl, rfl, by decide, rfl, q_mem 284 (by decide +kernel) rfl, rfl, rfl, by decide⟩
theorem lf_RX8_282 : q_FL RX8 282 3 0 (.array .int) true := ⟨RX3, TX3, 4, 0, rfl, rfl, by decide, rfl, q_mem 285 (by decide +kernel) rfl, rfl, rfl, by decide⟩
theorem lf_RX3_15 : q_FL RX3 15 3 1 .int false := ⟨RX3, TX3, 4, 1, rfl, rfl, by decide, rfl, q_mem 286 (by decide +kernel) rfl, rfl, rfl, by decide⟩
theorem lf_RX8_285 : q_FL RX8 285 3 1 .int false := ⟨RX3, TX3, 4, 1, rfl, rfl, by decide, rfl, q_mem 287 (by decide +kernel) rfl, rfl, rfl, by decide⟩
theorem lf_RX3_19 : q_FL RX3 19 3 2 .int false := ⟨RX3, TX3, 4, 2, rfl, rfl, by decide, rfl, q_mem 288 (by decide +kernel) rfl, rfl, rfl, by decide⟩
theorem lf_RX3_22 : q_FL RX3 22 3 3 .int false := ⟨RX3, TX3, 4, 3, rfl, rfl, by decide, rfl, q_mem 289 (by decide +kernel) rfl, rfl, rfl, by decide⟩
theorem lc_RX8_43 : Cond.classLink RX8 43 RX0 ∈ q_tbl := q_mem 299 (by decide +kernel) rfl
theorem lk_RX0 : Cond.instantiable RX0 3 ∈ q_tbl := q_mem 300 (by decide +kernel) rfl
theorem lm_RX8_45 : Cond.methodLink RX8 45 yX0_init ∈ q_tbl := q_mem 301 (by decide +kernel) rfl
theorem lm_RX0_3 : Cond.methodLink RX0 3 objectInit ∈ q_tbl := q_mem 304 (by decide +kernel) rfl
theorem lc_RX0_11 : Cond.classLink RX0 11 RX4 ∈ q_tbl := q_mem 305 (by decide +kernel) rfl
theorem lo_Score : Cond.arrayOver (.object RX4) ∈ lw_tbl := List.mem_of_getElem? (i := 306) (by decide +kernel)
theorem lm_RX0_17 : Cond.methodLink RX0 17 yX4_init ∈ q_tbl := q_mem 307 (by decide +kernel) rfl
theorem lf_RX0_13 : q_FL RX0 13 0 0 (.array (.object "TitleCaller$Score")) true := ⟨RX0, TX0, 3, 0, rfl, rfl, by decide, rfl, q_mem 308 (by decide +kernel) rfl, rfl, rfl, by decide⟩
theorem lf_RX0_30 : q_FL RX0 30 0 1 .int false := ⟨RX0, TX0, 3, 1, rfl, rfl, by decide, rfl, q_mem 309 (by decide +kernel) rfl, rfl, rfl, by decide⟩
theorem lf_RX0_18 : q_FL RX0 18 0 2 .int false := ⟨RX0, TX0, 3, 2, rfl, rfl, by decide, rfl, q_mem 310 (by decide +kernel) rfl, rfl, rfl, by decide⟩
theorem lf_RX8_234 : q_FL RX8 234 0 2 .int false := ⟨RX0, TX0, 3, 2, rfl, rfl, by decide, rfl, q_mem 311 (by decide +kernel) rfl, rfl, rfl, by decide⟩
theorem lm_RX8_58 : Cond.methodLink RX8 58 yX1_workOut ∈ q_tbl := q_mem 319 (by decide +kernel) rfl
theorem lm_RX1_34 : Cond.methodLink RX1 34 yX1_singAll ∈ q_tbl := q_mem 323 (by decide +kernel) rfl
theorem lm_RX1_68 : Cond.methodLink RX1 68 yX1_singBar ∈ q_tbl := q_mem 327 (by decide +kernel) rfl
theorem lm_RX1_82 : Cond.methodLink RX1 82 yX4_hasBar ∈ q_tbl := q_mem 331 (by decide +kernel) rfl
theorem lm_RX1_89 : Cond.methodLink RX1 89 yX6_covers ∈ q_tbl := q_mem 335 (by decide +kernel) rfl
theorem lm_RX6_38 : Cond.methodLink RX6 38 yX6_meets ∈ q_tbl := q_mem 339 (by decide +kernel) rfl
theorem lm_RX1_92 : Cond.methodLink RX1 92 yX4_tenthsOf ∈ q_tbl := q_mem 343 (by decide +kernel) rfl
theorem lm_RX4_60 : Cond.methodLink RX4 60 yX4_hasBar ∈ q_tbl := q_mem 347 (by decide +kernel) rfl
theorem ln_RX4_64 : Cond.methodLinkNest RX4 64 yX8_tenthsFor RX8 ∈ q_nest := List.mem_of_getElem? (i := 0) rfl
theorem lm_RX1_76 : Cond.methodLink RX1 76 yX6_backFrom ∈ q_tbl := q_mem 351 (by decide +kernel) rfl
theorem lm_RX1_44 : Cond.methodLink RX1 44 yX1_gatherShowings ∈ q_tbl := q_mem 355 (by decide +kernel) rfl
theorem lm_RX1_107 : Cond.methodLink RX1 107 yX1_comesWith ∈ q_tbl := q_mem 359 (by decide +kernel) rfl
theorem ln_RX1_111 : Cond.methodLinkNest RX1 111 yX8_leadOf RX8 ∈ q_nest := List.mem_of_getElem? (i := 1) rfl
theorem lm_RX1_114 : Cond.methodLink RX1 114 Lib.Math.max.name ∈ q_tbl := q_mem 366 (by decide +kernel) rfl
theorem lm_RX1_122 : Cond.methodLink RX1 122 yX1_beginOrEnd ∈ q_tbl := q_mem 369 (by decide +kernel) rfl
theorem lm_RX1_159 : Cond.methodLink RX1 159 yX1_hasPlace ∈ q_tbl := q_mem 373 (by decide +kernel) rfl
theorem lm_RX1_125 : Cond.methodLink RX1 125 yX5_add ∈ q_tbl := q_mem 377 (by decide +kernel) rfl
theorem lm_RX1_48 : Cond.methodLink RX1 48 yX1_lookAtShowings ∈ q_tbl := q_mem 381 (by decide +kernel) rfl
theorem lm_RX1_135 : Cond.methodLink RX1 135 yX1_isBlackAt ∈ q_tbl := q_mem 385 (by decide +kernel) rfl
theorem lm_RX1_148 : Cond.methodLink RX1 148 yX5_lookAt ∈ q_tbl := q_mem 389 (by decide +kernel) rfl
theorem lm_RX5_37 : Cond.methodLink RX5 37 yX5_has ∈ q_tbl := q_mem 393 (by decide +kernel) rfl
theorem lm_RX5_41 : Cond.methodLink RX5 41 Lib.Math.max.name ∈ q_tbl := q_mem 397 (by decide +kernel) rfl
theorem lm_RX5_47 : Cond.methodLink RX5 47 Lib.Math.min.name ∈ q_tbl := q_mem 398 (by decide +kernel) rfl
theorem lm_RX1_152 : Cond.methodLink RX1 152 yX5_shows ∈ q_tbl := q_mem 401 (by decide +kernel) rfl
theorem lf_RX8_12 : q_FL RX8 12 8 0 (.object "TitleCaller$Score") true := ⟨RX8, TX8, 9, 0, rfl, rfl, by decide, rfl, q_mem 405 (by decide +kernel) rfl, rfl, rfl, by decide⟩
theorem lf_RX8_19 : q_FL RX8 19 8 1 (.object "TitleCaller$Night") true := ⟨RX8, TX8, 9, 1, rfl, rfl, by decide, rfl, q_mem 406 (by decide +kernel) rfl, rfl, rfl, by decide⟩
theorem lf_RX8_23 : q_FL RX8 23 8 2 (.object "TitleCaller$Score") true := ⟨RX8, TX8, 9, 2, rfl, rfl, by decide, rfl, q_mem 407 (by decide +kernel) rfl, rfl, rfl, by decide⟩
theorem lf_RX8_26 : q_FL RX8 26 8 3 (.object "TitleCaller$Night") true := ⟨RX8, TX8, 9, 3, rfl, rfl, by decide, rfl, q_mem 408 (by decide +kernel) rfl, rfl, rfl, by decide⟩
theorem lf_RX8_32 : q_FL RX8 32 8 4 (.object "TitleCaller$Pad") true := ⟨RX8, TX8, 9, 4, rfl, rfl, by decide, rfl, q_mem 409 (by decide +kernel) rfl, rfl, rfl, by decide⟩
theorem lf_RX8_39 : q_FL RX8 39 8 5 (.object "TitleCaller$Reader") true := ⟨RX8, TX8, 9, 5, rfl, rfl, by decide, rfl, q_mem 410 (by decide +kernel) rfl, rfl, rfl, by decide⟩
theorem lf_RX8_46 : q_FL RX8 46 8 6 (.object "TitleCaller$History") true := ⟨RX8, TX8, 9, 6, rfl, rfl, by decide, rfl, q_mem 411 (by decide +kernel) rfl, rfl, rfl, by decide⟩
theorem lf_RX8_50 : q_FL RX8 50 8 7 (.array (.object "TitleCaller$Score")) true := ⟨RX8, TX8, 9, 7, rfl, rfl, by decide, rfl, q_mem 412 (by decide +kernel) rfl, rfl, rfl, by decide⟩
theorem lf_RX8_54 : q_FL RX8 54 8 8 (.array .boolean) true := ⟨RX8, TX8, 9, 8, rfl, rfl, by decide, rfl, q_mem 413 (by decide +kernel) rfl, rfl, rfl, by decide⟩
theorem la_boolean : Cond.arrayClass .boolean ∈ q_tbl := q_mem 433 (by decide +kernel) rfl
theorem lm_RL_13 : Cond.methodLink RL 13 yX8_bars ∈ q_tbl := q_mem 434 (by decide +kernel) rfl
theorem lm_RX8_62 : Cond.methodLink RX8 62 yX0_prepare ∈ q_tbl := q_mem 438 (by decide +kernel) rfl
theorem lm_RX0_22 : Cond.methodLink RX0 22 yX0_rowAt ∈ q_tbl := q_mem 442 (by decide +kernel) rfl
theorem lm_RX0_26 : Cond.methodLink RX0 26 yX4_copyFrom ∈ q_tbl := q_mem 446 (by decide +kernel) rfl
theorem lm_RX4_47 : Cond.methodLink RX4 47 arraycopyName ∈ q_tbl := q_mem 450 (by decide +kernel) rfl
theorem l_native : Cond.native arraycopyName ∈ q_tbl := q_mem 452 (by decide +kernel) rfl
theorem lm_RX4_53 : Cond.methodLink RX4 53 yX6_copyFrom ∈ q_tbl := q_mem 453 (by decide +kernel) rfl
theorem lm_RX6_18 : Cond.methodLink RX6 18 Lib.Math.min.name ∈ q_tbl := q_mem 457 (by decide +kernel) rfl
theorem lm_RX6_28 : Cond.methodLink RX6 28 arraycopyName ∈ q_tbl := q_mem 458 (by decide +kernel) rfl
theorem lm_RX4_57 : Cond.methodLink RX4 57 yX7_copyFrom ∈ q_tbl := q_mem 459 (by decide +kernel) rfl
theorem lm_RX7_28 : Cond.methodLink RX7 28 arraycopyName ∈ q_tbl := q_mem 463 (by decide +kernel) rfl
theorem lm_RX8_65 : Cond.methodLink RX8 65 yX4_changeBars ∈ q_tbl := q_mem 464 (by decide +kernel) rfl
theorem ln_RX4_68 : Cond.methodLinkNest RX4 68 yX8_isWithin RX8 ∈ q_nest := List.mem_of_getElem? (i := 2) rfl
theorem lm_RX4_72 : Cond.methodLink RX4 72 yX4_highestBarInUse ∈ q_tbl := q_mem 471 (by decide +kernel) rfl
theorem lm_RX4_101 : Cond.methodLink RX4 101 yX7_highestBar ∈ q_tbl := q_mem 475 (by decide +kernel) rfl
theorem lm_RX7_38 : Cond.methodLink RX7 38 Lib.Math.max.name ∈ q_tbl := q_mem 479 (by decide +kernel) rfl
theorem lm_RX4_104 : Cond.methodLink RX4 104 yX6_highest ∈ q_tbl := q_mem 480 (by decide +kernel) rfl
theorem lm_RX6_42 : Cond.methodLink RX6 42 Lib.Math.max.name ∈ q_tbl := q_mem 484 (by decide +kernel) rfl
theorem lm_RX4_107 : Cond.methodLink RX4 107 Lib.Math.max.name ∈ q_tbl := q_mem 485 (by decide +kernel) rfl
theorem lm_RX8_69 : Cond.methodLink RX8 69 yX8_settle ∈ q_tbl := q_mem 486 (by decide +kernel) rfl
theorem lm_RX8_267 : Cond.methodLink RX8 267 yX0_record ∈ q_tbl := q_mem 490 (by decide +kernel) rfl
theorem lm_RL_18 : Cond.methodLink RL 18 yX8_shortest ∈ q_tbl := q_mem 494 (by decide +kernel) rfl
theorem lm_RX8_72 : Cond.methodLink RX8 72 yX4_changeShortest ∈ q_tbl := q_mem 498 (by decide +kernel) rfl
theorem lm_RL_22 : Cond.methodLink RL 22 yX8_bar ∈ q_tbl := q_mem 502 (by decide +kernel) rfl
theorem lm_RX8_75 : Cond.methodLink RX8 75 yX4_changeBar ∈ q_tbl := q_mem 506 (by decide +kernel) rfl
theorem lm_RX4_76 : Cond.methodLink RX4 76 yX4_tenthsOf ∈ q_tbl := q_mem 510 (by decide +kernel) rfl
theorem lm_RL_27 : Cond.methodLink RL 27 yX8_repeat ∈ q_tbl := q_mem 511 (by decide +kernel) rfl
theorem lm_RX8_79 : Cond.methodLink RX8 79 yX4_addRepeat ∈ q_tbl := q_mem 515 (by decide +kernel) rfl
theorem lm_RX4_80 : Cond.methodLink RX4 80 yX4_spanError ∈ q_tbl := q_mem 519 (by decide +kernel) rfl
theorem lm_RX4_83 : Cond.methodLink RX4 83 yX6_isFull ∈ q_tbl := q_mem 523 (by decide +kernel) rfl
theorem lm_RX4_87 : Cond.methodLink RX4 87 yX6_meets ∈ q_tbl := q_mem 527 (by decide +kernel) rfl
theorem lm_RX4_91 : Cond.methodLink RX4 91 yX6_add ∈ q_tbl := q_mem 528 (by decide +kernel) rfl
theorem lm_RX6_34 : Cond.methodLink RX6 34 yX6_isFull ∈ q_tbl := q_mem 532 (by decide +kernel) rfl
theorem lm_RL_32 : Cond.methodLink RL 32 yX8_cut ∈ q_tbl := q_mem 533 (by decide +kernel) rfl
theorem lm_RX8_83 : Cond.methodLink RX8 83 yX4_addCut ∈ q_tbl := q_mem 537 (by decide +kernel) rfl
theorem lm_RL_36 : Cond.methodLink RL 36 yX8_blackout ∈ q_tbl := q_mem 541 (by decide +kernel) rfl
theorem lm_RX8_86 : Cond.methodLink RX8 86 yX4_addBlackout ∈ q_tbl := q_mem 545 (by decide +kernel) rfl
theorem lm_RL_40 : Cond.methodLink RL 40 yX8_undoSpan ∈ q_tbl := q_mem 549 (by decide +kernel) rfl
theorem lm_RX8_89 : Cond.methodLink RX8 89 yX4_removeSpan ∈ q_tbl := q_mem 553 (by decide +kernel) rfl
theorem lm_RX4_94 : Cond.methodLink RX4 94 yX6_remove ∈ q_tbl := q_mem 557 (by decide +kernel) rfl
theorem lm_RL_44 : Cond.methodLink RL 44 yX8_title ∈ q_tbl := q_mem 561 (by decide +kernel) rfl
theorem lm_RX8_92 : Cond.methodLink RX8 92 yX4_addTitle ∈ q_tbl := q_mem 565 (by decide +kernel) rfl
theorem lm_RX4_97 : Cond.methodLink RX4 97 yX7_add ∈ q_tbl := q_mem 569 (by decide +kernel) rfl
theorem lm_RL_49 : Cond.methodLink RL 49 yX8_drop ∈ q_tbl := q_mem 573 (by decide +kernel) rfl
theorem lm_RX8_96 : Cond.methodLink RX8 96 yX4_removeTitle ∈ q_tbl := q_mem 577 (by decide +kernel) rfl
theorem lm_RX4_100 : Cond.methodLink RX4 100 yX7_remove ∈ q_tbl := q_mem 581 (by decide +kernel) rfl
theorem lm_RX7_34 : Cond.methodLink RX7 34 yX7_has ∈ q_tbl := q_mem 585 (by decide +kernel) rfl
theorem lm_RL_53 : Cond.methodLink RL 53 yX8_ofBar ∈ q_tbl := q_mem 589 (by decide +kernel) rfl
theorem lm_RX8_99 : Cond.methodLink RX8 99 yX4_hasBar ∈ q_tbl := q_mem 593 (by decide +kernel) rfl
theorem lm_RX8_110 : Cond.methodLink RX8 110 yX4_tenthsOf ∈ q_tbl := q_mem 594 (by decide +kernel) rfl
theorem lm_RX8_123 : Cond.methodLink RX8 123 yX6_covers ∈ q_tbl := q_mem 595 (by decide +kernel) rfl
theorem lm_RL_57 : Cond.methodLink RL 57 yX8_sung ∈ q_tbl := q_mem 596 (by decide +kernel) rfl
theorem lm_RX8_128 : Cond.methodLink RX8 128 yX1_hasPlace ∈ q_tbl := q_mem 600 (by decide +kernel) rfl
theorem lm_RL_61 : Cond.methodLink RL 61 yX8_ofTitle ∈ q_tbl := q_mem 601 (by decide +kernel) rfl
theorem lm_RX8_144 : Cond.methodLink RX8 144 yX7_has ∈ q_tbl := q_mem 605 (by decide +kernel) rfl
theorem lm_RX8_165 : Cond.methodLink RX8 165 yX5_countOf ∈ q_tbl := q_mem 606 (by decide +kernel) rfl
theorem lm_RX8_170 : Cond.methodLink RX8 170 yX5_countShownOf ∈ q_tbl := q_mem 610 (by decide +kernel) rfl
theorem lm_RX8_173 : Cond.methodLink RX8 173 yX5_tenthsOf ∈ q_tbl := q_mem 614 (by decide +kernel) rfl
theorem lm_RX5_50 : Cond.methodLink RX5 50 yX5_shownTenths ∈ q_tbl := q_mem 618 (by decide +kernel) rfl
theorem lm_RX5_54 : Cond.methodLink RX5 54 yX5_shows ∈ q_tbl := q_mem 622 (by decide +kernel) rfl
theorem lm_RL_65 : Cond.methodLink RL 65 yX8_showing ∈ q_tbl := q_mem 623 (by decide +kernel) rfl
theorem lm_RX8_174 : Cond.methodLink RX8 174 yX5_has ∈ q_tbl := q_mem 627 (by decide +kernel) rfl
theorem lm_RX8_190 : Cond.methodLink RX8 190 yX5_shows ∈ q_tbl := q_mem 628 (by decide +kernel) rfl
theorem lm_RX8_199 : Cond.methodLink RX8 199 yX8_readingPace ∈ q_tbl := q_mem 629 (by decide +kernel) rfl
theorem lm_RL_69 : Cond.methodLink RL 69 yX8_at ∈ q_tbl := q_mem 633 (by decide +kernel) rfl
theorem lm_RX8_202 : Cond.methodLink RX8 202 yX5_titleAt ∈ q_tbl := q_mem 637 (by decide +kernel) rfl
theorem lm_RL_73 : Cond.methodLink RL 73 yX8_count ∈ q_tbl := q_mem 641 (by decide +kernel) rfl
theorem lm_RX8_225 : Cond.methodLink RX8 225 yX5_countWith ∈ q_tbl := q_mem 645 (by decide +kernel) rfl
theorem lm_RX8_228 : Cond.methodLink RX8 228 yX5_tenthsOfAll ∈ q_tbl := q_mem 649 (by decide +kernel) rfl
theorem lm_RL_77 : Cond.methodLink RL 77 yX8_cutIf ∈ q_tbl := q_mem 653 (by decide +kernel) rfl
theorem lm_RX8_235 : Cond.methodLink RX8 235 yX4_spanError ∈ q_tbl := q_mem 657 (by decide +kernel) rfl
theorem lm_RX8_238 : Cond.methodLink RX8 238 yX4_copyFrom ∈ q_tbl := q_mem 658 (by decide +kernel) rfl
theorem lm_RX8_241 : Cond.methodLink RX8 241 yX8_titlesLost ∈ q_tbl := q_mem 659 (by decide +kernel) rfl
theorem lm_RL_81 : Cond.methodLink RL 81 yX8_slowest ∈ q_tbl := q_mem 663 (by decide +kernel) rfl
theorem lm_RX8_244 : Cond.methodLink RX8 244 yX1_endIfAllAt ∈ q_tbl := q_mem 667 (by decide +kernel) rfl
theorem ln_RX1_61 : Cond.methodLinkNest RX1 61 yX8_tenthsFor RX8 ∈ q_nest := List.mem_of_getElem? (i := 3) rfl
theorem lm_RL_87 : Cond.methodLink RL 87 yX8_put ∈ q_tbl := q_mem 672 (by decide +kernel) rfl
theorem lm_RX8_248 : Cond.methodLink RX8 248 yX2_append ∈ q_tbl := q_mem 676 (by decide +kernel) rfl
theorem lm_RX2_15 : Cond.methodLink RX2 15 yX2_countOf ∈ q_tbl := q_mem 680 (by decide +kernel) rfl
theorem lm_RX2_23 : Cond.methodLink RX2 23 yX2_codeAt ∈ q_tbl := q_mem 683 (by decide +kernel) rfl
theorem ll_RX2_31 : Cond.constantLong RX2 31 255 ∈ q_tbl := q_mem 686 (by decide +kernel) rfl
theorem ln_RX2_27 : Cond.methodLinkNest RX2 27 yX8_isWithin RX8 ∈ q_nest := List.mem_of_getElem? (i := 4) rfl
theorem lm_RL_92 : Cond.methodLink RL 92 yX8_wipe ∈ q_tbl := q_mem 688 (by decide +kernel) rfl
theorem lm_RL_97 : Cond.methodLink RL 97 yX8_fault ∈ q_tbl := q_mem 692 (by decide +kernel) rfl
theorem lm_RX8_252 : Cond.methodLink RX8 252 yX3_faultOf ∈ q_tbl := q_mem 696 (by decide +kernel) rfl
theorem lm_RX3_25 : Cond.methodLink RX3 25 yX3_start ∈ q_tbl := q_mem 700 (by decide +kernel) rfl
theorem lm_RX3_36 : Cond.methodLink RX3 36 yX3_take ∈ q_tbl := q_mem 704 (by decide +kernel) rfl
theorem lm_RX3_44 : Cond.methodLink RX3 44 yX3_open ∈ q_tbl := q_mem 708 (by decide +kernel) rfl
theorem ln_RX3_47 : Cond.methodLinkNest RX3 47 yX8_isWithin RX8 ∈ q_nest := List.mem_of_getElem? (i := 5) rfl
theorem lm_RX3_51 : Cond.methodLink RX3 51 yX3_takeDigit ∈ q_tbl := q_mem 713 (by decide +kernel) rfl
theorem lm_RX3_54 : Cond.methodLink RX3 54 yX3_takeSign ∈ q_tbl := q_mem 717 (by decide +kernel) rfl
theorem lm_RX3_57 : Cond.methodLink RX3 57 yX3_signBehindNumber ∈ q_tbl := q_mem 721 (by decide +kernel) rfl
theorem lm_RX3_40 : Cond.methodLink RX3 40 yX3_canEnd ∈ q_tbl := q_mem 725 (by decide +kernel) rfl
theorem lm_RL_101 : Cond.methodLink RL 101 yX8_carryOut ∈ q_tbl := q_mem 729 (by decide +kernel) rfl
theorem lm_RX8_256 : Cond.methodLink RX8 256 yX8_carryOutOrders ∈ q_tbl := q_mem 733 (by decide +kernel) rfl
theorem lm_RX8_270 : Cond.methodLink RX8 270 yX3_start ∈ q_tbl := q_mem 737 (by decide +kernel) rfl
theorem lm_RX8_276 : Cond.methodLink RX8 276 yX8_carryOutOrder ∈ q_tbl := q_mem 738 (by decide +kernel) rfl
theorem lm_RX8_279 : Cond.methodLink RX8 279 yX3_take ∈ q_tbl := q_mem 742 (by decide +kernel) rfl
theorem lm_RL_105 : Cond.methodLink RL 105 yX8_undo ∈ q_tbl := q_mem 743 (by decide +kernel) rfl
theorem lm_RX8_259 : Cond.methodLink RX8 259 yX0_takeLatest ∈ q_tbl := q_mem 747 (by decide +kernel) rfl
theorem lm_RL_109 : Cond.methodLink RL 109 yX8_save ∈ q_tbl := q_mem 751 (by decide +kernel) rfl
theorem lm_RX8_263 : Cond.methodLink RX8 263 yX8_slotAt ∈ q_tbl := q_mem 755 (by decide +kernel) rfl
theorem lm_RL_113 : Cond.methodLink RL 113 yX8_restore ∈ q_tbl := q_mem 759 (by decide +kernel) rfl
theorem lc_RL_10 : Cond.classLink RL 10 RX9 ∈ q_tbl := q_mem 763 (by decide +kernel) rfl
theorem lk_RX9 : Cond.instantiable RX9 24 ∈ q_tbl := q_mem 764 (by decide +kernel) rfl
theorem lm_RL_12 : Cond.methodLink RL 12 yX9_init ∈ q_tbl := q_mem 765 (by decide +kernel) rfl
theorem lm_RX9_1 : Cond.methodLink RX9 1 objectInit ∈ q_tbl := q_mem 768 (by decide +kernel) rfl
theorem lf_RX9_56 : q_FL RX9 56 9 0 .int false := ⟨RX9, TX9, 24, 0, rfl, rfl, by decide, rfl, q_mem 769 (by decide +kernel) rfl, rfl, rfl, by decide⟩
theorem lf_RX9_7 : q_FL RX9 7 9 1 (.array .int) true := ⟨RX9, TX9, 24, 1, rfl, rfl, by decide, rfl, q_mem 770 (by decide +kernel) rfl, rfl, rfl, by decide⟩
theorem lf_RX9_13 : q_FL RX9 13 9 2 (.array .int) true := ⟨RX9, TX9, 24, 2, rfl, rfl, by decide, rfl, q_mem 771 (by decide +kernel) rfl, rfl, rfl, by decide⟩
theorem lf_RX9_64 : q_FL RX9 64 9 3 .int false := ⟨RX9, TX9, 24, 3, rfl, rfl, by decide, rfl, q_mem 772 (by decide +kernel) rfl, rfl, rfl, by decide⟩
theorem lf_RX9_16 : q_FL RX9 16 9 4 (.array .int) true := ⟨RX9, TX9, 24, 4, rfl, rfl, by decide, rfl, q_mem 773 (by decide +kernel) rfl, rfl, rfl, by decide⟩
theorem lf_RX9_19 : q_FL RX9 19 9 5 (.array .boolean) true := ⟨RX9, TX9, 24, 5, rfl, rfl, by decide, rfl, q_mem 774 (by decide +kernel) rfl, rfl, rfl, by decide⟩
theorem lf_RX9_23 : q_FL RX9 23 9 6 (.array .int) true := ⟨RX9, TX9, 24, 6, rfl, rfl, by decide, rfl, q_mem 775 (by decide +kernel) rfl, rfl, rfl, by decide⟩
theorem lf_RX9_182 : q_FL RX9 182 9 7 .int false := ⟨RX9, TX9, 24, 7, rfl, rfl, by decide, rfl, q_mem 776 (by decide +kernel) rfl, rfl, rfl, by decide⟩
theorem lf_RX9_26 : q_FL RX9 26 9 8 (.array .int) true := ⟨RX9, TX9, 24, 8, rfl, rfl, by decide, rfl, q_mem 777 (by decide +kernel) rfl, rfl, rfl, by decide⟩
theorem lf_RX9_29 : q_FL RX9 29 9 9 (.array .int) true := ⟨RX9, TX9, 24, 9, rfl, rfl, by decide, rfl, q_mem 778 (by decide +kernel) rfl, rfl, rfl, by decide⟩
theorem lf_RX9_71 : q_FL RX9 71 9 10 .int false := ⟨RX9, TX9, 24, 10, rfl, rfl, by decide, rfl, q_mem 779 (by decide +kernel) rfl, rfl, rfl, by decide⟩
theorem lf_RX9_74 : q_FL RX9 74 9 11 .int false := ⟨RX9, TX9, 24, 11, rfl, rfl, by decide, rfl, q_mem 780 (by decide +kernel) rfl, rfl, rfl, by decide⟩
theorem lf_RX9_32 : q_FL RX9 32 9 12 (.array .int) true := ⟨RX9, TX9, 24, 12, rfl, rfl, by decide, rfl, q_mem 781 (by decide +kernel) rfl, rfl, rfl, by decide⟩
theorem lf_RX9_35 : q_FL RX9 35 9 13 (.array .int) true := ⟨RX9, TX9, 24, 13, rfl, rfl, by decide, rfl, q_mem 782 (by decide +kernel) rfl, rfl, rfl, by decide⟩
theorem lf_RX9_38 : q_FL RX9 38 9 14 (.array .int) true := ⟨RX9, TX9, 24, 14, rfl, rfl, by decide, rfl, q_mem 783 (by decide +kernel) rfl, rfl, rfl, by decide⟩
theorem lf_RX9_41 : q_FL RX9 41 9 15 (.array .int) true := ⟨RX9, TX9, 24, 15, rfl, rfl, by decide, rfl, q_mem 784 (by decide +kernel) rfl, rfl, rfl, by decide⟩
theorem lf_RX9_44 : q_FL RX9 44 9 16 (.array .int) true := ⟨RX9, TX9, 24, 16, rfl, rfl, by decide, rfl, q_mem 785 (by decide +kernel) rfl, rfl, rfl, by decide⟩
theorem lf_RX9_47 : q_FL RX9 47 9 17 (.array .int) true := ⟨RX9, TX9, 24, 17, rfl, rfl, by decide, rfl, q_mem 786 (by decide +kernel) rfl, rfl, rfl, by decide⟩
theorem lf_RX9_50 : q_FL RX9 50 9 18 (.array .int) true := ⟨RX9, TX9, 24, 18, rfl, rfl, by decide, rfl, q_mem 787 (by decide +kernel) rfl, rfl, rfl, by decide⟩
theorem lf_RX9_102 : q_FL RX9 102 9 19 .int false := ⟨RX9, TX9, 24, 19, rfl, rfl, by decide, rfl, q_mem 788 (by decide +kernel) rfl, rfl, rfl, by decide⟩
theorem lf_RX9_193 : q_FL RX9 193 9 20 .int false := ⟨RX9, TX9, 24, 20, rfl, rfl, by decide, rfl, q_mem 789 (by decide +kernel) rfl, rfl, rfl, by decide⟩
theorem lf_RX9_196 : q_FL RX9 196 9 21 .boolean false := ⟨RX9, TX9, 24, 21, rfl, rfl, by decide, rfl, q_mem 790 (by decide +kernel) rfl, rfl, rfl, by decide⟩
theorem lf_RX9_53 : q_FL RX9 53 9 22 (.array .int) true := ⟨RX9, TX9, 24, 22, rfl, rfl, by decide, rfl, q_mem 791 (by decide +kernel) rfl, rfl, rfl, by decide⟩
theorem lf_RX9_209 : q_FL RX9 209 9 23 .int false := ⟨RX9, TX9, 24, 23, rfl, rfl, by decide, rfl, q_mem 792 (by decide +kernel) rfl, rfl, rfl, by decide⟩
theorem lm_RL_17 : Cond.methodLink RL 17 yX9_bars ∈ q_tbl := q_mem 842 (by decide +kernel) rfl
theorem lm_RX9_60 : Cond.methodLink RX9 60 yX9_in ∈ q_tbl := q_mem 846 (by decide +kernel) rfl
theorem lm_RX9_124 : Cond.methodLink RX9 124 yX9_isBeyond ∈ q_tbl := q_mem 849 (by decide +kernel) rfl
theorem lm_RX9_89 : Cond.methodLink RX9 89 yX9_of ∈ q_tbl := q_mem 853 (by decide +kernel) rfl
theorem lm_RX9_127 : Cond.methodLink RX9 127 yX9_records ∈ q_tbl := q_mem 857 (by decide +kernel) rfl
theorem lm_RL_21 : Cond.methodLink RL 21 yX9_shortest ∈ q_tbl := q_mem 861 (by decide +kernel) rfl
theorem lm_RL_26 : Cond.methodLink RL 26 yX9_bar ∈ q_tbl := q_mem 865 (by decide +kernel) rfl
theorem lm_RX9_133 : Cond.methodLink RX9 133 yX9_refusesBar ∈ q_tbl := q_mem 869 (by decide +kernel) rfl
theorem lm_RX9_130 : Cond.methodLink RX9 130 yX9_isBar ∈ q_tbl := q_mem 873 (by decide +kernel) rfl
theorem lm_RX9_137 : Cond.methodLink RX9 137 yX9_laysBar ∈ q_tbl := q_mem 877 (by decide +kernel) rfl
theorem lm_RX9_77 : Cond.methodLink RX9 77 yX9_tenths ∈ q_tbl := q_mem 881 (by decide +kernel) rfl
theorem lm_RL_31 : Cond.methodLink RL 31 yX9_repeat ∈ q_tbl := q_mem 885 (by decide +kernel) rfl
theorem lm_RX9_144 : Cond.methodLink RX9 144 yX9_refusesRepeat ∈ q_tbl := q_mem 889 (by decide +kernel) rfl
theorem lm_RX9_141 : Cond.methodLink RX9 141 yX9_refusesSpan ∈ q_tbl := q_mem 893 (by decide +kernel) rfl
theorem lm_RX9_147 : Cond.methodLink RX9 147 yX9_laysSpan ∈ q_tbl := q_mem 897 (by decide +kernel) rfl
theorem lm_RL_35 : Cond.methodLink RL 35 yX9_cut ∈ q_tbl := q_mem 901 (by decide +kernel) rfl
theorem lm_RL_39 : Cond.methodLink RL 39 yX9_blackout ∈ q_tbl := q_mem 905 (by decide +kernel) rfl
theorem lm_RL_43 : Cond.methodLink RL 43 yX9_undoSpan ∈ q_tbl := q_mem 909 (by decide +kernel) rfl
theorem lm_RL_48 : Cond.methodLink RL 48 yX9_title ∈ q_tbl := q_mem 913 (by decide +kernel) rfl
theorem lm_RX9_151 : Cond.methodLink RX9 151 yX9_refusesTitle ∈ q_tbl := q_mem 917 (by decide +kernel) rfl
theorem lm_RX9_154 : Cond.methodLink RX9 154 yX9_laysTitle ∈ q_tbl := q_mem 921 (by decide +kernel) rfl
theorem lm_RL_52 : Cond.methodLink RL 52 yX9_drop ∈ q_tbl := q_mem 925 (by decide +kernel) rfl
theorem lm_RX9_157 : Cond.methodLink RX9 157 yX9_dropsTitle ∈ q_tbl := q_mem 929 (by decide +kernel) rfl
theorem lm_RL_56 : Cond.methodLink RL 56 yX9_ofBar ∈ q_tbl := q_mem 933 (by decide +kernel) rfl
theorem lm_RX9_108 : Cond.methodLink RX9 108 yX9_laysNight ∈ q_tbl := q_mem 937 (by decide +kernel) rfl
theorem lm_RX9_81 : Cond.methodLink RX9 81 yX9_sings ∈ q_tbl := q_mem 941 (by decide +kernel) rfl
theorem lm_RX9_67 : Cond.methodLink RX9 67 yX9_isCut ∈ q_tbl := q_mem 945 (by decide +kernel) rfl
theorem lm_RX9_85 : Cond.methodLink RX9 85 yX9_repeats ∈ q_tbl := q_mem 949 (by decide +kernel) rfl
theorem lm_RX9_160 : Cond.methodLink RX9 160 yX9_timesSung ∈ q_tbl := q_mem 953 (by decide +kernel) rfl
theorem lm_RX9_93 : Cond.methodLink RX9 93 yX9_firstPlace ∈ q_tbl := q_mem 957 (by decide +kernel) rfl
theorem lm_RL_60 : Cond.methodLink RL 60 yX9_sung ∈ q_tbl := q_mem 961 (by decide +kernel) rfl
theorem lm_RX9_163 : Cond.methodLink RX9 163 yX9_isBlack ∈ q_tbl := q_mem 965 (by decide +kernel) rfl
theorem lm_RL_64 : Cond.methodLink RL 64 yX9_ofTitle ∈ q_tbl := q_mem 969 (by decide +kernel) rfl
theorem lm_RX9_166 : Cond.methodLink RX9 166 yX9_laysShowings ∈ q_tbl := q_mem 973 (by decide +kernel) rfl
theorem lm_RX9_111 : Cond.methodLink RX9 111 yX9_comes ∈ q_tbl := q_mem 977 (by decide +kernel) rfl
theorem lm_RX9_96 : Cond.methodLink RX9 96 yX9_lastPlace ∈ q_tbl := q_mem 981 (by decide +kernel) rfl
theorem lm_RX9_115 : Cond.methodLink RX9 115 yX9_laysShowing ∈ q_tbl := q_mem 985 (by decide +kernel) rfl
theorem lm_RX9_105 : Cond.methodLink RX9 105 yX9_lead ∈ q_tbl := q_mem 989 (by decide +kernel) rfl
theorem lm_RX9_99 : Cond.methodLink RX9 99 yX9_beginOf ∈ q_tbl := q_mem 992 (by decide +kernel) rfl
theorem lm_RX9_118 : Cond.methodLink RX9 118 yX9_looksAt ∈ q_tbl := q_mem 996 (by decide +kernel) rfl
theorem lm_RX9_121 : Cond.methodLink RX9 121 yX9_isDark ∈ q_tbl := q_mem 1000 (by decide +kernel) rfl
theorem lm_RX9_169 : Cond.methodLink RX9 169 yX9_showingsOf ∈ q_tbl := q_mem 1004 (by decide +kernel) rfl
theorem lm_RL_68 : Cond.methodLink RL 68 yX9_showing ∈ q_tbl := q_mem 1008 (by decide +kernel) rfl
theorem lm_RX9_172 : Cond.methodLink RX9 172 yX9_speed ∈ q_tbl := q_mem 1012 (by decide +kernel) rfl
theorem lm_RL_72 : Cond.methodLink RL 72 yX9_at ∈ q_tbl := q_mem 1016 (by decide +kernel) rfl
theorem lm_RL_76 : Cond.methodLink RL 76 yX9_count ∈ q_tbl := q_mem 1020 (by decide +kernel) rfl
theorem lm_RX9_175 : Cond.methodLink RX9 175 yX9_withReason ∈ q_tbl := q_mem 1024 (by decide +kernel) rfl
theorem lm_RX9_178 : Cond.methodLink RX9 178 yX9_shownTenths ∈ q_tbl := q_mem 1028 (by decide +kernel) rfl
theorem lm_RL_80 : Cond.methodLink RL 80 yX9_cutIf ∈ q_tbl := q_mem 1032 (by decide +kernel) rfl
theorem lm_RX9_185 : Cond.methodLink RX9 185 yX9_titlesShown ∈ q_tbl := q_mem 1036 (by decide +kernel) rfl
theorem lm_RL_84 : Cond.methodLink RL 84 yX9_slowest ∈ q_tbl := q_mem 1040 (by decide +kernel) rfl
theorem lm_RX9_188 : Cond.methodLink RX9 188 yX9_nightAt ∈ q_tbl := q_mem 1044 (by decide +kernel) rfl
theorem lm_RL_91 : Cond.methodLink RL 91 yX9_put ∈ q_tbl := q_mem 1048 (by decide +kernel) rfl
theorem ll_RX9_191 : Cond.constantLong RX9 191 255 ∈ q_tbl := q_mem 1052 (by decide +kernel) rfl
theorem lm_RL_96 : Cond.methodLink RL 96 yX9_wipe ∈ q_tbl := q_mem 1053 (by decide +kernel) rfl
theorem lm_RL_100 : Cond.methodLink RL 100 yX9_fault ∈ q_tbl := q_mem 1057 (by decide +kernel) rfl
theorem lm_RX9_215 : Cond.methodLink RX9 215 yX9_reads ∈ q_tbl := q_mem 1061 (by decide +kernel) rfl
theorem lm_RX9_212 : Cond.methodLink RX9 212 yX9_readsOrder ∈ q_tbl := q_mem 1065 (by decide +kernel) rfl
theorem lm_RX9_200 : Cond.methodLink RX9 200 yX9_sign ∈ q_tbl := q_mem 1069 (by decide +kernel) rfl
theorem lm_RX9_203 : Cond.methodLink RX9 203 yX9_number ∈ q_tbl := q_mem 1073 (by decide +kernel) rfl
theorem lm_RX9_206 : Cond.methodLink RX9 206 yX9_wants ∈ q_tbl := q_mem 1077 (by decide +kernel) rfl
theorem lm_RL_104 : Cond.methodLink RL 104 yX9_carryOut ∈ q_tbl := q_mem 1081 (by decide +kernel) rfl
theorem lm_RX9_221 : Cond.methodLink RX9 221 yX9_refuses ∈ q_tbl := q_mem 1085 (by decide +kernel) rfl
theorem lm_RX9_218 : Cond.methodLink RX9 218 yX9_kindBy ∈ q_tbl := q_mem 1089 (by decide +kernel) rfl
theorem lm_RX9_224 : Cond.methodLink RX9 224 yX9_does ∈ q_tbl := q_mem 1092 (by decide +kernel) rfl
theorem lm_RL_108 : Cond.methodLink RL 108 yX9_undo ∈ q_tbl := q_mem 1096 (by decide +kernel) rfl
theorem lm_RL_112 : Cond.methodLink RL 112 yX9_save ∈ q_tbl := q_mem 1100 (by decide +kernel) rfl
theorem lm_RL_116 : Cond.methodLink RL 116 yX9_restore ∈ q_tbl := q_mem 1104 (by decide +kernel) rfl
theorem ll_RL_85 : Cond.constantLong RL 85 4294967295 ∈ q_tbl := q_mem 1108 (by decide +kernel) rfl
theorem m_X8_init : q_M yX8_init cX8_init 2 none 0 := ⟨q_mem 78 (by decide +kernel) rfl, li_RX8, by decide, by decide, by decide, by decide +kernel⟩
theorem mk_X8_init : Cond.instanceMethod yX8_init ∈ q_tbl := q_mem 77 (by decide +kernel) rfl
theorem l_obji : Cond.instanceMethod objectInit ∈ q_tbl := q_mem 80 (by decide +kernel) rfl
theorem l_objc : Cond.code objectInit ⟨#[0xb1]⟩ 1 none ∈ q_tbl := q_mem 81 (by decide +kernel) rfl
theorem m_X4_init : q_M yX4_init cX4_init 2 none 0 := ⟨q_mem 86 (by decide +kernel) rfl, li_RX4, by decide, by decide, by decide, by decide +kernel⟩
theorem mk_X4_init : Cond.instanceMethod yX4_init ∈ q_tbl := q_mem 85 (by decide +kernel) rfl
theorem m_X6_init : q_M yX6_init cX6_init 2 none 1 := ⟨q_mem 92 (by decide +kernel) rfl, li_RX6, by decide, by decide, by decide, by decide +kernel⟩
theorem mk_X6_init : Cond.instanceMethod yX6_init ∈ q_tbl := q_mem 91 (by decide +kernel) rfl
theorem m_X7_init : q_M yX7_init cX7_init 1 none 0 := ⟨q_mem 113 (by decide +kernel) rfl, li_RX7, by decide, by decide, by decide, by decide +kernel⟩
theorem mk_X7_init : Cond.instanceMethod yX7_init ∈ q_tbl := q_mem 112 (by decide +kernel) rfl
theorem m_X1_init : q_M yX1_init cX1_init 1 none 0 := ⟨q_mem 184 (by decide +kernel) rfl, li_RX1, by decide, by decide, by decide, by decide +kernel⟩
theorem mk_X1_init : Cond.instanceMethod yX1_init ∈ q_tbl := q_mem 183 (by decide +kernel) rfl
theorem m_X5_init : q_M yX5_init cX5_init 1 none 0 := ⟨q_mem 190 (by decide +kernel) rfl, li_RX5, by decide, by decide, by decide, by decide +kernel⟩
theorem mk_X5_init : Cond.instanceMethod yX5_init ∈ q_tbl := q_mem 189 (by decide +kernel) rfl
theorem m_X2_init : q_M yX2_init cX2_init 1 none 0 := ⟨q_mem 265 (by decide +kernel) rfl, li_RX2, by decide, by decide, by decide, by decide +kernel⟩
theorem mk_X2_init : Cond.instanceMethod yX2_init ∈ q_tbl := q_mem 264 (by decide +kernel) rfl
theorem m_X3_init : q_M yX3_init cX3_init 1 none 0 := ⟨q_mem 282 (by decide +kernel) rfl, li_RX3, by decide, by decide, by decide, by decide +kernel⟩
theorem mk_X3_init : Cond.instanceMethod yX3_init ∈ q_tbl := q_mem 281 (by decide +kernel) rfl
theorem m_X0_init : q_M yX0_init cX0_init 2 none 0 := ⟨q_mem 303 (by decide +kernel) rfl, li_RX0, by decide, by decide, by decide, by decide +kernel⟩
theorem mk_X0_init : Cond.instanceMethod yX0_init ∈ q_tbl := q_mem 302 (by decide +kernel) rfl
theorem m_X1_workOut : q_M yX1_workOut cX1_workOut 2 none 1 := ⟨q_mem 322 (by decide +kernel) rfl, li_RX1, by decide, by decide, by decide, by decide +kernel⟩
theorem mk_X1_workOut : Cond.instanceMethod yX1_workOut ∈ q_tbl := q_mem 320 (by decide +kernel) rfl
theorem ms_X1_workOut : Cond.selects RX1 yX1_workOut yX1_workOut ∈ q_tbl := q_mem 321 (by decide +kernel) rfl
theorem m_X1_singAll : q_M yX1_singAll cX1_singAll 4 none 1 := ⟨q_mem 326 (by decide +kernel) rfl, li_RX1, by decide, by decide, by decide, by decide +kernel⟩
theorem mk_X1_singAll : Cond.instanceMethod yX1_singAll ∈ q_tbl := q_mem 325 (by decide +kernel) rfl
theorem ms_X1_singAll : Cond.selects RX1 yX1_singAll yX1_singAll ∈ q_tbl := q_mem 0 (by decide +kernel) rfl
theorem m_X1_singBar : q_M yX1_singBar cX1_singBar 3 none 2 := ⟨q_mem 330 (by decide +kernel) rfl, li_RX1, by decide, by decide, by decide, by decide +kernel⟩
theorem mk_X1_singBar : Cond.instanceMethod yX1_singBar ∈ q_tbl := q_mem 329 (by decide +kernel) rfl
theorem ms_X1_singBar : Cond.selects RX1 yX1_singBar yX1_singBar ∈ q_tbl := q_mem 1 (by decide +kernel) rfl
theorem m_X4_hasBar : q_M yX4_hasBar cX4_hasBar 2 (some .boolean) 1 := ⟨q_mem 334 (by decide +kernel) rfl, li_RX4, by decide, by decide, by decide, by decide +kernel⟩
theorem mk_X4_hasBar : Cond.instanceMethod yX4_hasBar ∈ q_tbl := q_mem 332 (by decide +kernel) rfl
theorem ms_X4_hasBar : Cond.selects RX4 yX4_hasBar yX4_hasBar ∈ q_tbl := q_mem 333 (by decide +kernel) rfl
theorem m_X6_covers : q_M yX6_covers cX6_covers 2 (some .boolean) 1 := ⟨q_mem 338 (by decide +kernel) rfl, li_RX6, by decide, by decide, by decide, by decide +kernel⟩
theorem mk_X6_covers : Cond.instanceMethod yX6_covers ∈ q_tbl := q_mem 336 (by decide +kernel) rfl
theorem ms_X6_covers : Cond.selects RX6 yX6_covers yX6_covers ∈ q_tbl := q_mem 337 (by decide +kernel) rfl
theorem m_X6_meets : q_M yX6_meets cX6_meets 4 (some .boolean) 2 := ⟨q_mem 342 (by decide +kernel) rfl, li_RX6, by decide, by decide, by decide, by decide +kernel⟩
theorem mk_X6_meets : Cond.instanceMethod yX6_meets ∈ q_tbl := q_mem 340 (by decide +kernel) rfl
theorem ms_X6_meets : Cond.selects RX6 yX6_meets yX6_meets ∈ q_tbl := q_mem 341 (by decide +kernel) rfl
theorem m_X4_tenthsOf : q_M yX4_tenthsOf cX4_tenthsOf 2 (some .int) 1 := ⟨q_mem 346 (by decide +kernel) rfl, li_RX4, by decide, by decide, by decide, by decide +kernel⟩
theorem mk_X4_tenthsOf : Cond.instanceMethod yX4_tenthsOf ∈ q_tbl := q_mem 344 (by decide +kernel) rfl
theorem ms_X4_tenthsOf : Cond.selects RX4 yX4_tenthsOf yX4_tenthsOf ∈ q_tbl := q_mem 345 (by decide +kernel) rfl
theorem m_X8_tenthsFor : q_M yX8_tenthsFor cX8_tenthsFor 2 (some .int) 2 := ⟨q_mem 350 (by decide +kernel) rfl, li_RX8, by decide, by decide, by decide, by decide +kernel⟩
theorem mk_X8_tenthsFor : Cond.static yX8_tenthsFor ∈ q_tbl := q_mem 349 (by decide +kernel) rfl
theorem m_X6_backFrom : q_M yX6_backFrom cX6_backFrom 3 (some .int) 1 := ⟨q_mem 354 (by decide +kernel) rfl, li_RX6, by decide, by decide, by decide, by decide +kernel⟩
theorem mk_X6_backFrom : Cond.instanceMethod yX6_backFrom ∈ q_tbl := q_mem 352 (by decide +kernel) rfl
theorem ms_X6_backFrom : Cond.selects RX6 yX6_backFrom yX6_backFrom ∈ q_tbl := q_mem 353 (by decide +kernel) rfl
theorem m_X1_gatherShowings : q_M yX1_gatherShowings cX1_gatherShowings 5 none 1 := ⟨q_mem 358 (by decide +kernel) rfl, li_RX1, by decide, by decide, by decide, by decide +kernel⟩
theorem mk_X1_gatherShowings : Cond.instanceMethod yX1_gatherShowings ∈ q_tbl := q_mem 357 (by decide +kernel) rfl
theorem ms_X1_gatherShowings : Cond.selects RX1 yX1_gatherShowings yX1_gatherShowings ∈ q_tbl := q_mem 2 (by decide +kernel) rfl
theorem m_X1_comesWith : q_M yX1_comesWith cX1_comesWith 4 (some .boolean) 3 := ⟨q_mem 362 (by decide +kernel) rfl, li_RX1, by decide, by decide, by decide, by decide +kernel⟩
theorem mk_X1_comesWith : Cond.instanceMethod yX1_comesWith ∈ q_tbl := q_mem 361 (by decide +kernel) rfl
theorem ms_X1_comesWith : Cond.selects RX1 yX1_comesWith yX1_comesWith ∈ q_tbl := q_mem 3 (by decide +kernel) rfl
theorem m_X8_leadOf : q_M yX8_leadOf cX8_leadOf 1 (some .int) 1 := ⟨q_mem 365 (by decide +kernel) rfl, li_RX8, by decide, by decide, by decide, by decide +kernel⟩
theorem mk_X8_leadOf : Cond.static yX8_leadOf ∈ q_tbl := q_mem 364 (by decide +kernel) rfl
theorem l_maxs : Cond.static Lib.Math.max.name ∈ q_tbl := q_mem 367 (by decide +kernel) rfl
theorem l_maxc : Cond.code Lib.Math.max.name Lib.Math.max.code 2 (some .int) ∈ q_tbl := q_mem 368 (by decide +kernel) rfl
theorem m_X1_beginOrEnd : q_M yX1_beginOrEnd cX1_beginOrEnd 2 (some .int) 1 := ⟨q_mem 372 (by decide +kernel) rfl, li_RX1, by decide, by decide, by decide, by decide +kernel⟩
theorem mk_X1_beginOrEnd : Cond.instanceMethod yX1_beginOrEnd ∈ q_tbl := q_mem 371 (by decide +kernel) rfl
theorem ms_X1_beginOrEnd : Cond.selects RX1 yX1_beginOrEnd yX1_beginOrEnd ∈ q_tbl := q_mem 4 (by decide +kernel) rfl
theorem m_X1_hasPlace : q_M yX1_hasPlace cX1_hasPlace 2 (some .boolean) 1 := ⟨q_mem 376 (by decide +kernel) rfl, li_RX1, by decide, by decide, by decide, by decide +kernel⟩
theorem mk_X1_hasPlace : Cond.instanceMethod yX1_hasPlace ∈ q_tbl := q_mem 374 (by decide +kernel) rfl
theorem ms_X1_hasPlace : Cond.selects RX1 yX1_hasPlace yX1_hasPlace ∈ q_tbl := q_mem 375 (by decide +kernel) rfl
theorem m_X5_add : q_M yX5_add cX5_add 5 none 4 := ⟨q_mem 380 (by decide +kernel) rfl, li_RX5, by decide, by decide, by decide, by decide +kernel⟩
theorem mk_X5_add : Cond.instanceMethod yX5_add ∈ q_tbl := q_mem 378 (by decide +kernel) rfl
theorem ms_X5_add : Cond.selects RX5 yX5_add yX5_add ∈ q_tbl := q_mem 379 (by decide +kernel) rfl
theorem m_X1_lookAtShowings : q_M yX1_lookAtShowings cX1_lookAtShowings 5 none 1 := ⟨q_mem 384 (by decide +kernel) rfl, li_RX1, by decide, by decide, by decide, by decide +kernel⟩
theorem mk_X1_lookAtShowings : Cond.instanceMethod yX1_lookAtShowings ∈ q_tbl := q_mem 383 (by decide +kernel) rfl
theorem ms_X1_lookAtShowings : Cond.selects RX1 yX1_lookAtShowings yX1_lookAtShowings ∈ q_tbl := q_mem 5 (by decide +kernel) rfl
theorem m_X1_isBlackAt : q_M yX1_isBlackAt cX1_isBlackAt 5 (some .boolean) 2 := ⟨q_mem 388 (by decide +kernel) rfl, li_RX1, by decide, by decide, by decide, by decide +kernel⟩
theorem mk_X1_isBlackAt : Cond.instanceMethod yX1_isBlackAt ∈ q_tbl := q_mem 387 (by decide +kernel) rfl
theorem ms_X1_isBlackAt : Cond.selects RX1 yX1_isBlackAt yX1_isBlackAt ∈ q_tbl := q_mem 6 (by decide +kernel) rfl
theorem m_X5_lookAt : q_M yX5_lookAt cX5_lookAt 7 none 4 := ⟨q_mem 392 (by decide +kernel) rfl, li_RX5, by decide, by decide, by decide, by decide +kernel⟩
theorem mk_X5_lookAt : Cond.instanceMethod yX5_lookAt ∈ q_tbl := q_mem 390 (by decide +kernel) rfl
theorem ms_X5_lookAt : Cond.selects RX5 yX5_lookAt yX5_lookAt ∈ q_tbl := q_mem 391 (by decide +kernel) rfl
theorem m_X5_has : q_M yX5_has cX5_has 2 (some .boolean) 1 := ⟨q_mem 396 (by decide +kernel) rfl, li_RX5, by decide, by decide, by decide, by decide +kernel⟩
theorem mk_X5_has : Cond.instanceMethod yX5_has ∈ q_tbl := q_mem 394 (by decide +kernel) rfl
theorem ms_X5_has : Cond.selects RX5 yX5_has yX5_has ∈ q_tbl := q_mem 395 (by decide +kernel) rfl
theorem l_mins : Cond.static Lib.Math.min.name ∈ q_tbl := q_mem 399 (by decide +kernel) rfl
theorem l_minc : Cond.code Lib.Math.min.name Lib.Math.min.code 2 (some .int) ∈ q_tbl := q_mem 400 (by decide +kernel) rfl
theorem m_X5_shows : q_M yX5_shows cX5_shows 2 (some .boolean) 1 := ⟨q_mem 404 (by decide +kernel) rfl, li_RX5, by decide, by decide, by decide, by decide +kernel⟩
theorem mk_X5_shows : Cond.instanceMethod yX5_shows ∈ q_tbl := q_mem 402 (by decide +kernel) rfl
theorem ms_X5_shows : Cond.selects RX5 yX5_shows yX5_shows ∈ q_tbl := q_mem 403 (by decide +kernel) rfl
theorem m_X8_bars : q_M yX8_bars cX8_bars 2 (some .int) 1 := ⟨q_mem 437 (by decide +kernel) rfl, li_RX8, by decide, by decide, by decide, by decide +kernel⟩
theorem mk_X8_bars : Cond.instanceMethod yX8_bars ∈ q_tbl := q_mem 435 (by decide +kernel) rfl
theorem ms_X8_bars : Cond.selects RX8 yX8_bars yX8_bars ∈ q_tbl := q_mem 436 (by decide +kernel) rfl
theorem m_X0_prepare : q_M yX0_prepare cX0_prepare 3 none 1 := ⟨q_mem 441 (by decide +kernel) rfl, li_RX0, by decide, by decide, by decide, by decide +kernel⟩
theorem mk_X0_prepare : Cond.instanceMethod yX0_prepare ∈ q_tbl := q_mem 439 (by decide +kernel) rfl
theorem ms_X0_prepare : Cond.selects RX0 yX0_prepare yX0_prepare ∈ q_tbl := q_mem 440 (by decide +kernel) rfl
theorem m_X0_rowAt : q_M yX0_rowAt cX0_rowAt 3 (some (.object "TitleCaller$Score")) 1 := ⟨q_mem 445 (by decide +kernel) rfl, li_RX0, by decide, by decide, by decide, by decide +kernel⟩
theorem mk_X0_rowAt : Cond.instanceMethod yX0_rowAt ∈ q_tbl := q_mem 444 (by decide +kernel) rfl
theorem ms_X0_rowAt : Cond.selects RX0 yX0_rowAt yX0_rowAt ∈ q_tbl := q_mem 7 (by decide +kernel) rfl
theorem m_X4_copyFrom : q_M yX4_copyFrom cX4_copyFrom 2 none 1 := ⟨q_mem 449 (by decide +kernel) rfl, li_RX4, by decide, by decide, by decide, by decide +kernel⟩
theorem mk_X4_copyFrom : Cond.instanceMethod yX4_copyFrom ∈ q_tbl := q_mem 447 (by decide +kernel) rfl
theorem ms_X4_copyFrom : Cond.selects RX4 yX4_copyFrom yX4_copyFrom ∈ q_tbl := q_mem 448 (by decide +kernel) rfl
theorem l_acs : Cond.static arraycopyName ∈ q_tbl := q_mem 451 (by decide +kernel) rfl
theorem m_X6_copyFrom : q_M yX6_copyFrom cX6_copyFrom 3 none 1 := ⟨q_mem 456 (by decide +kernel) rfl, li_RX6, by decide, by decide, by decide, by decide +kernel⟩
theorem mk_X6_copyFrom : Cond.instanceMethod yX6_copyFrom ∈ q_tbl := q_mem 454 (by decide +kernel) rfl
theorem ms_X6_copyFrom : Cond.selects RX6 yX6_copyFrom yX6_copyFrom ∈ q_tbl := q_mem 455 (by decide +kernel) rfl
theorem m_X7_copyFrom : q_M yX7_copyFrom cX7_copyFrom 2 none 1 := ⟨q_mem 462 (by decide +kernel) rfl, li_RX7, by decide, by decide, by decide, by decide +kernel⟩
theorem mk_X7_copyFrom : Cond.instanceMethod yX7_copyFrom ∈ q_tbl := q_mem 460 (by decide +kernel) rfl
theorem ms_X7_copyFrom : Cond.selects RX7 yX7_copyFrom yX7_copyFrom ∈ q_tbl := q_mem 461 (by decide +kernel) rfl
theorem m_X4_changeBars : q_M yX4_changeBars cX4_changeBars 3 (some .int) 1 := ⟨q_mem 467 (by decide +kernel) rfl, li_RX4, by decide, by decide, by decide, by decide +kernel⟩
theorem mk_X4_changeBars : Cond.instanceMethod yX4_changeBars ∈ q_tbl := q_mem 465 (by decide +kernel) rfl
theorem ms_X4_changeBars : Cond.selects RX4 yX4_changeBars yX4_changeBars ∈ q_tbl := q_mem 466 (by decide +kernel) rfl
theorem m_X8_isWithin : q_M yX8_isWithin cX8_isWithin 3 (some .boolean) 3 := ⟨q_mem 470 (by decide +kernel) rfl, li_RX8, by decide, by decide, by decide, by decide +kernel⟩
theorem mk_X8_isWithin : Cond.static yX8_isWithin ∈ q_tbl := q_mem 469 (by decide +kernel) rfl
theorem m_X4_highestBarInUse : q_M yX4_highestBarInUse cX4_highestBarInUse 1 (some .int) 0 := ⟨q_mem 474 (by decide +kernel) rfl, li_RX4, by decide, by decide, by decide, by decide +kernel⟩
theorem mk_X4_highestBarInUse : Cond.instanceMethod yX4_highestBarInUse ∈ q_tbl := q_mem 473 (by decide +kernel) rfl
theorem ms_X4_highestBarInUse : Cond.selects RX4 yX4_highestBarInUse yX4_highestBarInUse ∈ q_tbl := q_mem 8 (by decide +kernel) rfl
theorem m_X7_highestBar : q_M yX7_highestBar cX7_highestBar 3 (some .int) 0 := ⟨q_mem 478 (by decide +kernel) rfl, li_RX7, by decide, by decide, by decide, by decide +kernel⟩
theorem mk_X7_highestBar : Cond.instanceMethod yX7_highestBar ∈ q_tbl := q_mem 476 (by decide +kernel) rfl
theorem ms_X7_highestBar : Cond.selects RX7 yX7_highestBar yX7_highestBar ∈ q_tbl := q_mem 477 (by decide +kernel) rfl
theorem m_X6_highest : q_M yX6_highest cX6_highest 3 (some .int) 0 := ⟨q_mem 483 (by decide +kernel) rfl, li_RX6, by decide, by decide, by decide, by decide +kernel⟩
theorem mk_X6_highest : Cond.instanceMethod yX6_highest ∈ q_tbl := q_mem 481 (by decide +kernel) rfl
theorem ms_X6_highest : Cond.selects RX6 yX6_highest yX6_highest ∈ q_tbl := q_mem 482 (by decide +kernel) rfl
theorem m_X8_settle : q_M yX8_settle cX8_settle 2 (some .int) 1 := ⟨q_mem 489 (by decide +kernel) rfl, li_RX8, by decide, by decide, by decide, by decide +kernel⟩
theorem mk_X8_settle : Cond.instanceMethod yX8_settle ∈ q_tbl := q_mem 488 (by decide +kernel) rfl
theorem ms_X8_settle : Cond.selects RX8 yX8_settle yX8_settle ∈ q_tbl := q_mem 9 (by decide +kernel) rfl
theorem m_X0_record : q_M yX0_record cX0_record 1 none 0 := ⟨q_mem 493 (by decide +kernel) rfl, li_RX0, by decide, by decide, by decide, by decide +kernel⟩
theorem mk_X0_record : Cond.instanceMethod yX0_record ∈ q_tbl := q_mem 491 (by decide +kernel) rfl
theorem ms_X0_record : Cond.selects RX0 yX0_record yX0_record ∈ q_tbl := q_mem 492 (by decide +kernel) rfl
theorem m_X8_shortest : q_M yX8_shortest cX8_shortest 2 (some .int) 1 := ⟨q_mem 497 (by decide +kernel) rfl, li_RX8, by decide, by decide, by decide, by decide +kernel⟩
theorem mk_X8_shortest : Cond.instanceMethod yX8_shortest ∈ q_tbl := q_mem 495 (by decide +kernel) rfl
theorem ms_X8_shortest : Cond.selects RX8 yX8_shortest yX8_shortest ∈ q_tbl := q_mem 496 (by decide +kernel) rfl
theorem m_X4_changeShortest : q_M yX4_changeShortest cX4_changeShortest 3 (some .int) 1 := ⟨q_mem 501 (by decide +kernel) rfl, li_RX4, by decide, by decide, by decide, by decide +kernel⟩
theorem mk_X4_changeShortest : Cond.instanceMethod yX4_changeShortest ∈ q_tbl := q_mem 499 (by decide +kernel) rfl
theorem ms_X4_changeShortest : Cond.selects RX4 yX4_changeShortest yX4_changeShortest ∈ q_tbl := q_mem 500 (by decide +kernel) rfl
theorem m_X8_bar : q_M yX8_bar cX8_bar 4 (some .int) 3 := ⟨q_mem 505 (by decide +kernel) rfl, li_RX8, by decide, by decide, by decide, by decide +kernel⟩
theorem mk_X8_bar : Cond.instanceMethod yX8_bar ∈ q_tbl := q_mem 503 (by decide +kernel) rfl
theorem ms_X8_bar : Cond.selects RX8 yX8_bar yX8_bar ∈ q_tbl := q_mem 504 (by decide +kernel) rfl
theorem m_X4_changeBar : q_M yX4_changeBar cX4_changeBar 4 (some .int) 3 := ⟨q_mem 509 (by decide +kernel) rfl, li_RX4, by decide, by decide, by decide, by decide +kernel⟩
theorem mk_X4_changeBar : Cond.instanceMethod yX4_changeBar ∈ q_tbl := q_mem 507 (by decide +kernel) rfl
theorem ms_X4_changeBar : Cond.selects RX4 yX4_changeBar yX4_changeBar ∈ q_tbl := q_mem 508 (by decide +kernel) rfl
theorem m_X8_repeat : q_M yX8_repeat cX8_repeat 3 (some .int) 2 := ⟨q_mem 514 (by decide +kernel) rfl, li_RX8, by decide, by decide, by decide, by decide +kernel⟩
theorem mk_X8_repeat : Cond.instanceMethod yX8_repeat ∈ q_tbl := q_mem 512 (by decide +kernel) rfl
theorem ms_X8_repeat : Cond.selects RX8 yX8_repeat yX8_repeat ∈ q_tbl := q_mem 513 (by decide +kernel) rfl
theorem m_X4_addRepeat : q_M yX4_addRepeat cX4_addRepeat 4 (some .int) 2 := ⟨q_mem 518 (by decide +kernel) rfl, li_RX4, by decide, by decide, by decide, by decide +kernel⟩
theorem mk_X4_addRepeat : Cond.instanceMethod yX4_addRepeat ∈ q_tbl := q_mem 516 (by decide +kernel) rfl
theorem ms_X4_addRepeat : Cond.selects RX4 yX4_addRepeat yX4_addRepeat ∈ q_tbl := q_mem 517 (by decide +kernel) rfl
theorem m_X4_spanError : q_M yX4_spanError cX4_spanError 3 (some .int) 2 := ⟨q_mem 522 (by decide +kernel) rfl, li_RX4, by decide, by decide, by decide, by decide +kernel⟩
theorem mk_X4_spanError : Cond.instanceMethod yX4_spanError ∈ q_tbl := q_mem 520 (by decide +kernel) rfl
theorem ms_X4_spanError : Cond.selects RX4 yX4_spanError yX4_spanError ∈ q_tbl := q_mem 521 (by decide +kernel) rfl
theorem m_X6_isFull : q_M yX6_isFull cX6_isFull 1 (some .boolean) 0 := ⟨q_mem 526 (by decide +kernel) rfl, li_RX6, by decide, by decide, by decide, by decide +kernel⟩
theorem mk_X6_isFull : Cond.instanceMethod yX6_isFull ∈ q_tbl := q_mem 524 (by decide +kernel) rfl
theorem ms_X6_isFull : Cond.selects RX6 yX6_isFull yX6_isFull ∈ q_tbl := q_mem 525 (by decide +kernel) rfl
theorem m_X6_add : q_M yX6_add cX6_add 3 (some .int) 2 := ⟨q_mem 531 (by decide +kernel) rfl, li_RX6, by decide, by decide, by decide, by decide +kernel⟩
theorem mk_X6_add : Cond.instanceMethod yX6_add ∈ q_tbl := q_mem 529 (by decide +kernel) rfl
theorem ms_X6_add : Cond.selects RX6 yX6_add yX6_add ∈ q_tbl := q_mem 530 (by decide +kernel) rfl
theorem m_X8_cut : q_M yX8_cut cX8_cut 3 (some .int) 2 := ⟨q_mem 536 (by decide +kernel) rfl, li_RX8, by decide, by decide, by decide, by decide +kernel⟩
theorem mk_X8_cut : Cond.instanceMethod yX8_cut ∈ q_tbl := q_mem 534 (by decide +kernel) rfl
theorem ms_X8_cut : Cond.selects RX8 yX8_cut yX8_cut ∈ q_tbl := q_mem 535 (by decide +kernel) rfl
theorem m_X4_addCut : q_M yX4_addCut cX4_addCut 4 (some .int) 2 := ⟨q_mem 540 (by decide +kernel) rfl, li_RX4, by decide, by decide, by decide, by decide +kernel⟩
theorem mk_X4_addCut : Cond.instanceMethod yX4_addCut ∈ q_tbl := q_mem 538 (by decide +kernel) rfl
theorem ms_X4_addCut : Cond.selects RX4 yX4_addCut yX4_addCut ∈ q_tbl := q_mem 539 (by decide +kernel) rfl
theorem m_X8_blackout : q_M yX8_blackout cX8_blackout 3 (some .int) 2 := ⟨q_mem 544 (by decide +kernel) rfl, li_RX8, by decide, by decide, by decide, by decide +kernel⟩
theorem mk_X8_blackout : Cond.instanceMethod yX8_blackout ∈ q_tbl := q_mem 542 (by decide +kernel) rfl
theorem ms_X8_blackout : Cond.selects RX8 yX8_blackout yX8_blackout ∈ q_tbl := q_mem 543 (by decide +kernel) rfl
theorem m_X4_addBlackout : q_M yX4_addBlackout cX4_addBlackout 3 (some .int) 2 := ⟨q_mem 548 (by decide +kernel) rfl, li_RX4, by decide, by decide, by decide, by decide +kernel⟩
theorem mk_X4_addBlackout : Cond.instanceMethod yX4_addBlackout ∈ q_tbl := q_mem 546 (by decide +kernel) rfl
theorem ms_X4_addBlackout : Cond.selects RX4 yX4_addBlackout yX4_addBlackout ∈ q_tbl := q_mem 547 (by decide +kernel) rfl
theorem m_X8_undoSpan : q_M yX8_undoSpan cX8_undoSpan 3 (some .int) 2 := ⟨q_mem 552 (by decide +kernel) rfl, li_RX8, by decide, by decide, by decide, by decide +kernel⟩
theorem mk_X8_undoSpan : Cond.instanceMethod yX8_undoSpan ∈ q_tbl := q_mem 550 (by decide +kernel) rfl
theorem ms_X8_undoSpan : Cond.selects RX8 yX8_undoSpan yX8_undoSpan ∈ q_tbl := q_mem 551 (by decide +kernel) rfl
theorem m_X4_removeSpan : q_M yX4_removeSpan cX4_removeSpan 3 (some .int) 2 := ⟨q_mem 556 (by decide +kernel) rfl, li_RX4, by decide, by decide, by decide, by decide +kernel⟩
theorem mk_X4_removeSpan : Cond.instanceMethod yX4_removeSpan ∈ q_tbl := q_mem 554 (by decide +kernel) rfl
theorem ms_X4_removeSpan : Cond.selects RX4 yX4_removeSpan yX4_removeSpan ∈ q_tbl := q_mem 555 (by decide +kernel) rfl
theorem m_X6_remove : q_M yX6_remove cX6_remove 3 (some .int) 1 := ⟨q_mem 560 (by decide +kernel) rfl, li_RX6, by decide, by decide, by decide, by decide +kernel⟩
theorem mk_X6_remove : Cond.instanceMethod yX6_remove ∈ q_tbl := q_mem 558 (by decide +kernel) rfl
theorem ms_X6_remove : Cond.selects RX6 yX6_remove yX6_remove ∈ q_tbl := q_mem 559 (by decide +kernel) rfl
theorem m_X8_title : q_M yX8_title cX8_title 5 (some .int) 4 := ⟨q_mem 564 (by decide +kernel) rfl, li_RX8, by decide, by decide, by decide, by decide +kernel⟩
theorem mk_X8_title : Cond.instanceMethod yX8_title ∈ q_tbl := q_mem 562 (by decide +kernel) rfl
theorem ms_X8_title : Cond.selects RX8 yX8_title yX8_title ∈ q_tbl := q_mem 563 (by decide +kernel) rfl
theorem m_X4_addTitle : q_M yX4_addTitle cX4_addTitle 6 (some .int) 4 := ⟨q_mem 568 (by decide +kernel) rfl, li_RX4, by decide, by decide, by decide, by decide +kernel⟩
theorem mk_X4_addTitle : Cond.instanceMethod yX4_addTitle ∈ q_tbl := q_mem 566 (by decide +kernel) rfl
theorem ms_X4_addTitle : Cond.selects RX4 yX4_addTitle yX4_addTitle ∈ q_tbl := q_mem 567 (by decide +kernel) rfl
theorem m_X7_add : q_M yX7_add cX7_add 5 (some .int) 4 := ⟨q_mem 572 (by decide +kernel) rfl, li_RX7, by decide, by decide, by decide, by decide +kernel⟩
theorem mk_X7_add : Cond.instanceMethod yX7_add ∈ q_tbl := q_mem 570 (by decide +kernel) rfl
theorem ms_X7_add : Cond.selects RX7 yX7_add yX7_add ∈ q_tbl := q_mem 571 (by decide +kernel) rfl
theorem m_X8_drop : q_M yX8_drop cX8_drop 2 (some .int) 1 := ⟨q_mem 576 (by decide +kernel) rfl, li_RX8, by decide, by decide, by decide, by decide +kernel⟩
theorem mk_X8_drop : Cond.instanceMethod yX8_drop ∈ q_tbl := q_mem 574 (by decide +kernel) rfl
theorem ms_X8_drop : Cond.selects RX8 yX8_drop yX8_drop ∈ q_tbl := q_mem 575 (by decide +kernel) rfl
theorem m_X4_removeTitle : q_M yX4_removeTitle cX4_removeTitle 2 (some .int) 1 := ⟨q_mem 580 (by decide +kernel) rfl, li_RX4, by decide, by decide, by decide, by decide +kernel⟩
theorem mk_X4_removeTitle : Cond.instanceMethod yX4_removeTitle ∈ q_tbl := q_mem 578 (by decide +kernel) rfl
theorem ms_X4_removeTitle : Cond.selects RX4 yX4_removeTitle yX4_removeTitle ∈ q_tbl := q_mem 579 (by decide +kernel) rfl
theorem m_X7_remove : q_M yX7_remove cX7_remove 3 (some .int) 1 := ⟨q_mem 584 (by decide +kernel) rfl, li_RX7, by decide, by decide, by decide, by decide +kernel⟩
theorem mk_X7_remove : Cond.instanceMethod yX7_remove ∈ q_tbl := q_mem 582 (by decide +kernel) rfl
theorem ms_X7_remove : Cond.selects RX7 yX7_remove yX7_remove ∈ q_tbl := q_mem 583 (by decide +kernel) rfl
theorem m_X7_has : q_M yX7_has cX7_has 2 (some .boolean) 1 := ⟨q_mem 588 (by decide +kernel) rfl, li_RX7, by decide, by decide, by decide, by decide +kernel⟩
theorem mk_X7_has : Cond.instanceMethod yX7_has ∈ q_tbl := q_mem 586 (by decide +kernel) rfl
theorem ms_X7_has : Cond.selects RX7 yX7_has yX7_has ∈ q_tbl := q_mem 587 (by decide +kernel) rfl
theorem m_X8_ofBar : q_M yX8_ofBar cX8_ofBar 3 (some .int) 2 := ⟨q_mem 592 (by decide +kernel) rfl, li_RX8, by decide, by decide, by decide, by decide +kernel⟩
theorem mk_X8_ofBar : Cond.instanceMethod yX8_ofBar ∈ q_tbl := q_mem 590 (by decide +kernel) rfl
theorem ms_X8_ofBar : Cond.selects RX8 yX8_ofBar yX8_ofBar ∈ q_tbl := q_mem 591 (by decide +kernel) rfl
theorem m_X8_sung : q_M yX8_sung cX8_sung 3 (some .int) 2 := ⟨q_mem 599 (by decide +kernel) rfl, li_RX8, by decide, by decide, by decide, by decide +kernel⟩
theorem mk_X8_sung : Cond.instanceMethod yX8_sung ∈ q_tbl := q_mem 597 (by decide +kernel) rfl
theorem ms_X8_sung : Cond.selects RX8 yX8_sung yX8_sung ∈ q_tbl := q_mem 598 (by decide +kernel) rfl
theorem m_X8_ofTitle : q_M yX8_ofTitle cX8_ofTitle 3 (some .int) 2 := ⟨q_mem 604 (by decide +kernel) rfl, li_RX8, by decide, by decide, by decide, by decide +kernel⟩
theorem mk_X8_ofTitle : Cond.instanceMethod yX8_ofTitle ∈ q_tbl := q_mem 602 (by decide +kernel) rfl
theorem ms_X8_ofTitle : Cond.selects RX8 yX8_ofTitle yX8_ofTitle ∈ q_tbl := q_mem 603 (by decide +kernel) rfl
theorem m_X5_countOf : q_M yX5_countOf cX5_countOf 4 (some .int) 1 := ⟨q_mem 609 (by decide +kernel) rfl, li_RX5, by decide, by decide, by decide, by decide +kernel⟩
theorem mk_X5_countOf : Cond.instanceMethod yX5_countOf ∈ q_tbl := q_mem 607 (by decide +kernel) rfl
theorem ms_X5_countOf : Cond.selects RX5 yX5_countOf yX5_countOf ∈ q_tbl := q_mem 608 (by decide +kernel) rfl
theorem m_X5_countShownOf : q_M yX5_countShownOf cX5_countShownOf 4 (some .int) 1 := ⟨q_mem 613 (by decide +kernel) rfl, li_RX5, by decide, by decide, by decide, by decide +kernel⟩
theorem mk_X5_countShownOf : Cond.instanceMethod yX5_countShownOf ∈ q_tbl := q_mem 611 (by decide +kernel) rfl
theorem ms_X5_countShownOf : Cond.selects RX5 yX5_countShownOf yX5_countShownOf ∈ q_tbl := q_mem 612 (by decide +kernel) rfl
theorem m_X5_tenthsOf : q_M yX5_tenthsOf cX5_tenthsOf 4 (some .int) 1 := ⟨q_mem 617 (by decide +kernel) rfl, li_RX5, by decide, by decide, by decide, by decide +kernel⟩
theorem mk_X5_tenthsOf : Cond.instanceMethod yX5_tenthsOf ∈ q_tbl := q_mem 615 (by decide +kernel) rfl
theorem ms_X5_tenthsOf : Cond.selects RX5 yX5_tenthsOf yX5_tenthsOf ∈ q_tbl := q_mem 616 (by decide +kernel) rfl
theorem m_X5_shownTenths : q_M yX5_shownTenths cX5_shownTenths 2 (some .int) 1 := ⟨q_mem 621 (by decide +kernel) rfl, li_RX5, by decide, by decide, by decide, by decide +kernel⟩
theorem mk_X5_shownTenths : Cond.instanceMethod yX5_shownTenths ∈ q_tbl := q_mem 620 (by decide +kernel) rfl
theorem ms_X5_shownTenths : Cond.selects RX5 yX5_shownTenths yX5_shownTenths ∈ q_tbl := q_mem 10 (by decide +kernel) rfl
theorem m_X8_showing : q_M yX8_showing cX8_showing 4 (some .int) 2 := ⟨q_mem 626 (by decide +kernel) rfl, li_RX8, by decide, by decide, by decide, by decide +kernel⟩
theorem mk_X8_showing : Cond.instanceMethod yX8_showing ∈ q_tbl := q_mem 624 (by decide +kernel) rfl
theorem ms_X8_showing : Cond.selects RX8 yX8_showing yX8_showing ∈ q_tbl := q_mem 625 (by decide +kernel) rfl
theorem m_X8_readingPace : q_M yX8_readingPace cX8_readingPace 4 (some .int) 1 := ⟨q_mem 632 (by decide +kernel) rfl, li_RX8, by decide, by decide, by decide, by decide +kernel⟩
theorem mk_X8_readingPace : Cond.instanceMethod yX8_readingPace ∈ q_tbl := q_mem 631 (by decide +kernel) rfl
theorem ms_X8_readingPace : Cond.selects RX8 yX8_readingPace yX8_readingPace ∈ q_tbl := q_mem 11 (by decide +kernel) rfl
theorem m_X8_at : q_M yX8_at cX8_at 2 (some .int) 1 := ⟨q_mem 636 (by decide +kernel) rfl, li_RX8, by decide, by decide, by decide, by decide +kernel⟩
theorem mk_X8_at : Cond.instanceMethod yX8_at ∈ q_tbl := q_mem 634 (by decide +kernel) rfl
theorem ms_X8_at : Cond.selects RX8 yX8_at yX8_at ∈ q_tbl := q_mem 635 (by decide +kernel) rfl
theorem m_X5_titleAt : q_M yX5_titleAt cX5_titleAt 3 (some .int) 1 := ⟨q_mem 640 (by decide +kernel) rfl, li_RX5, by decide, by decide, by decide, by decide +kernel⟩
theorem mk_X5_titleAt : Cond.instanceMethod yX5_titleAt ∈ q_tbl := q_mem 638 (by decide +kernel) rfl
theorem ms_X5_titleAt : Cond.selects RX5 yX5_titleAt yX5_titleAt ∈ q_tbl := q_mem 639 (by decide +kernel) rfl
theorem m_X8_count : q_M yX8_count cX8_count 2 (some .int) 1 := ⟨q_mem 644 (by decide +kernel) rfl, li_RX8, by decide, by decide, by decide, by decide +kernel⟩
theorem mk_X8_count : Cond.instanceMethod yX8_count ∈ q_tbl := q_mem 642 (by decide +kernel) rfl
theorem ms_X8_count : Cond.selects RX8 yX8_count yX8_count ∈ q_tbl := q_mem 643 (by decide +kernel) rfl
theorem m_X5_countWith : q_M yX5_countWith cX5_countWith 4 (some .int) 1 := ⟨q_mem 648 (by decide +kernel) rfl, li_RX5, by decide, by decide, by decide, by decide +kernel⟩
theorem mk_X5_countWith : Cond.instanceMethod yX5_countWith ∈ q_tbl := q_mem 646 (by decide +kernel) rfl
theorem ms_X5_countWith : Cond.selects RX5 yX5_countWith yX5_countWith ∈ q_tbl := q_mem 647 (by decide +kernel) rfl
theorem m_X5_tenthsOfAll : q_M yX5_tenthsOfAll cX5_tenthsOfAll 3 (some .int) 0 := ⟨q_mem 652 (by decide +kernel) rfl, li_RX5, by decide, by decide, by decide, by decide +kernel⟩
theorem mk_X5_tenthsOfAll : Cond.instanceMethod yX5_tenthsOfAll ∈ q_tbl := q_mem 650 (by decide +kernel) rfl
theorem ms_X5_tenthsOfAll : Cond.selects RX5 yX5_tenthsOfAll yX5_tenthsOfAll ∈ q_tbl := q_mem 651 (by decide +kernel) rfl
theorem m_X8_cutIf : q_M yX8_cutIf cX8_cutIf 6 (some .int) 3 := ⟨q_mem 656 (by decide +kernel) rfl, li_RX8, by decide, by decide, by decide, by decide +kernel⟩
theorem mk_X8_cutIf : Cond.instanceMethod yX8_cutIf ∈ q_tbl := q_mem 654 (by decide +kernel) rfl
theorem ms_X8_cutIf : Cond.selects RX8 yX8_cutIf yX8_cutIf ∈ q_tbl := q_mem 655 (by decide +kernel) rfl
theorem m_X8_titlesLost : q_M yX8_titlesLost cX8_titlesLost 3 (some .int) 0 := ⟨q_mem 662 (by decide +kernel) rfl, li_RX8, by decide, by decide, by decide, by decide +kernel⟩
theorem mk_X8_titlesLost : Cond.instanceMethod yX8_titlesLost ∈ q_tbl := q_mem 661 (by decide +kernel) rfl
theorem ms_X8_titlesLost : Cond.selects RX8 yX8_titlesLost yX8_titlesLost ∈ q_tbl := q_mem 12 (by decide +kernel) rfl
theorem m_X8_slowest : q_M yX8_slowest cX8_slowest 4 (some .int) 1 := ⟨q_mem 666 (by decide +kernel) rfl, li_RX8, by decide, by decide, by decide, by decide +kernel⟩
theorem mk_X8_slowest : Cond.instanceMethod yX8_slowest ∈ q_tbl := q_mem 664 (by decide +kernel) rfl
theorem ms_X8_slowest : Cond.selects RX8 yX8_slowest yX8_slowest ∈ q_tbl := q_mem 665 (by decide +kernel) rfl
theorem m_X1_endIfAllAt : q_M yX1_endIfAllAt cX1_endIfAllAt 5 (some .int) 2 := ⟨q_mem 670 (by decide +kernel) rfl, li_RX1, by decide, by decide, by decide, by decide +kernel⟩
theorem mk_X1_endIfAllAt : Cond.instanceMethod yX1_endIfAllAt ∈ q_tbl := q_mem 668 (by decide +kernel) rfl
theorem ms_X1_endIfAllAt : Cond.selects RX1 yX1_endIfAllAt yX1_endIfAllAt ∈ q_tbl := q_mem 669 (by decide +kernel) rfl
theorem m_X8_put : q_M yX8_put cX8_put 3 (some .int) 1 := ⟨q_mem 675 (by decide +kernel) rfl, li_RX8, by decide, by decide, by decide, by decide +kernel⟩
theorem mk_X8_put : Cond.instanceMethod yX8_put ∈ q_tbl := q_mem 673 (by decide +kernel) rfl
theorem ms_X8_put : Cond.selects RX8 yX8_put yX8_put ∈ q_tbl := q_mem 674 (by decide +kernel) rfl
theorem m_X2_append : q_M yX2_append cX2_append 5 (some .int) 1 := ⟨q_mem 679 (by decide +kernel) rfl, li_RX2, by decide, by decide, by decide, by decide +kernel⟩
theorem mk_X2_append : Cond.instanceMethod yX2_append ∈ q_tbl := q_mem 677 (by decide +kernel) rfl
theorem ms_X2_append : Cond.selects RX2 yX2_append yX2_append ∈ q_tbl := q_mem 678 (by decide +kernel) rfl
theorem m_X2_countOf : q_M yX2_countOf cX2_countOf 5 (some .int) 1 := ⟨q_mem 682 (by decide +kernel) rfl, li_RX2, by decide, by decide, by decide, by decide +kernel⟩
theorem mk_X2_countOf : Cond.static yX2_countOf ∈ q_tbl := q_mem 681 (by decide +kernel) rfl
theorem m_X2_codeAt : q_M yX2_codeAt cX2_codeAt 3 (some .int) 2 := ⟨q_mem 685 (by decide +kernel) rfl, li_RX2, by decide, by decide, by decide, by decide +kernel⟩
theorem mk_X2_codeAt : Cond.static yX2_codeAt ∈ q_tbl := q_mem 684 (by decide +kernel) rfl
theorem m_X8_wipe : q_M yX8_wipe cX8_wipe 2 (some .int) 0 := ⟨q_mem 691 (by decide +kernel) rfl, li_RX8, by decide, by decide, by decide, by decide +kernel⟩
theorem mk_X8_wipe : Cond.instanceMethod yX8_wipe ∈ q_tbl := q_mem 689 (by decide +kernel) rfl
theorem ms_X8_wipe : Cond.selects RX8 yX8_wipe yX8_wipe ∈ q_tbl := q_mem 690 (by decide +kernel) rfl
theorem m_X8_fault : q_M yX8_fault cX8_fault 1 (some .int) 0 := ⟨q_mem 695 (by decide +kernel) rfl, li_RX8, by decide, by decide, by decide, by decide +kernel⟩
theorem mk_X8_fault : Cond.instanceMethod yX8_fault ∈ q_tbl := q_mem 693 (by decide +kernel) rfl
theorem ms_X8_fault : Cond.selects RX8 yX8_fault yX8_fault ∈ q_tbl := q_mem 694 (by decide +kernel) rfl
theorem m_X3_faultOf : q_M yX3_faultOf cX3_faultOf 3 (some .int) 1 := ⟨q_mem 699 (by decide +kernel) rfl, li_RX3, by decide, by decide, by decide, by decide +kernel⟩
theorem mk_X3_faultOf : Cond.instanceMethod yX3_faultOf ∈ q_tbl := q_mem 697 (by decide +kernel) rfl
theorem ms_X3_faultOf : Cond.selects RX3 yX3_faultOf yX3_faultOf ∈ q_tbl := q_mem 698 (by decide +kernel) rfl
theorem m_X3_start : q_M yX3_start cX3_start 2 none 0 := ⟨q_mem 703 (by decide +kernel) rfl, li_RX3, by decide, by decide, by decide, by decide +kernel⟩
theorem mk_X3_start : Cond.instanceMethod yX3_start ∈ q_tbl := q_mem 701 (by decide +kernel) rfl
theorem ms_X3_start : Cond.selects RX3 yX3_start yX3_start ∈ q_tbl := q_mem 702 (by decide +kernel) rfl
theorem m_X3_take : q_M yX3_take cX3_take 2 (some .boolean) 1 := ⟨q_mem 707 (by decide +kernel) rfl, li_RX3, by decide, by decide, by decide, by decide +kernel⟩
theorem mk_X3_take : Cond.instanceMethod yX3_take ∈ q_tbl := q_mem 705 (by decide +kernel) rfl
theorem ms_X3_take : Cond.selects RX3 yX3_take yX3_take ∈ q_tbl := q_mem 706 (by decide +kernel) rfl
theorem m_X3_open : q_M yX3_open cX3_open 2 (some .boolean) 1 := ⟨q_mem 711 (by decide +kernel) rfl, li_RX3, by decide, by decide, by decide, by decide +kernel⟩
theorem mk_X3_open : Cond.instanceMethod yX3_open ∈ q_tbl := q_mem 710 (by decide +kernel) rfl
theorem ms_X3_open : Cond.selects RX3 yX3_open yX3_open ∈ q_tbl := q_mem 13 (by decide +kernel) rfl
theorem m_X3_takeDigit : q_M yX3_takeDigit cX3_takeDigit 4 (some .boolean) 1 := ⟨q_mem 716 (by decide +kernel) rfl, li_RX3, by decide, by decide, by decide, by decide +kernel⟩
theorem mk_X3_takeDigit : Cond.instanceMethod yX3_takeDigit ∈ q_tbl := q_mem 715 (by decide +kernel) rfl
theorem ms_X3_takeDigit : Cond.selects RX3 yX3_takeDigit yX3_takeDigit ∈ q_tbl := q_mem 14 (by decide +kernel) rfl
theorem m_X3_takeSign : q_M yX3_takeSign cX3_takeSign 2 (some .boolean) 1 := ⟨q_mem 720 (by decide +kernel) rfl, li_RX3, by decide, by decide, by decide, by decide +kernel⟩
theorem mk_X3_takeSign : Cond.instanceMethod yX3_takeSign ∈ q_tbl := q_mem 719 (by decide +kernel) rfl
theorem ms_X3_takeSign : Cond.selects RX3 yX3_takeSign yX3_takeSign ∈ q_tbl := q_mem 15 (by decide +kernel) rfl
theorem m_X3_signBehindNumber : q_M yX3_signBehindNumber cX3_signBehindNumber 1 (some .int) 0 := ⟨q_mem 724 (by decide +kernel) rfl, li_RX3, by decide, by decide, by decide, by decide +kernel⟩
theorem mk_X3_signBehindNumber : Cond.instanceMethod yX3_signBehindNumber ∈ q_tbl := q_mem 723 (by decide +kernel) rfl
theorem ms_X3_signBehindNumber : Cond.selects RX3 yX3_signBehindNumber yX3_signBehindNumber ∈ q_tbl := q_mem 16 (by decide +kernel) rfl
theorem m_X3_canEnd : q_M yX3_canEnd cX3_canEnd 1 (some .boolean) 0 := ⟨q_mem 728 (by decide +kernel) rfl, li_RX3, by decide, by decide, by decide, by decide +kernel⟩
theorem mk_X3_canEnd : Cond.instanceMethod yX3_canEnd ∈ q_tbl := q_mem 727 (by decide +kernel) rfl
theorem ms_X3_canEnd : Cond.selects RX3 yX3_canEnd yX3_canEnd ∈ q_tbl := q_mem 17 (by decide +kernel) rfl
theorem m_X8_carryOut : q_M yX8_carryOut cX8_carryOut 2 (some .int) 0 := ⟨q_mem 732 (by decide +kernel) rfl, li_RX8, by decide, by decide, by decide, by decide +kernel⟩
theorem mk_X8_carryOut : Cond.instanceMethod yX8_carryOut ∈ q_tbl := q_mem 730 (by decide +kernel) rfl
theorem ms_X8_carryOut : Cond.selects RX8 yX8_carryOut yX8_carryOut ∈ q_tbl := q_mem 731 (by decide +kernel) rfl
theorem m_X8_carryOutOrders : q_M yX8_carryOutOrders cX8_carryOutOrders 4 (some .int) 0 := ⟨q_mem 736 (by decide +kernel) rfl, li_RX8, by decide, by decide, by decide, by decide +kernel⟩
theorem mk_X8_carryOutOrders : Cond.instanceMethod yX8_carryOutOrders ∈ q_tbl := q_mem 735 (by decide +kernel) rfl
theorem ms_X8_carryOutOrders : Cond.selects RX8 yX8_carryOutOrders yX8_carryOutOrders ∈ q_tbl := q_mem 18 (by decide +kernel) rfl
theorem m_X8_carryOutOrder : q_M yX8_carryOutOrder cX8_carryOutOrder 2 (some .int) 0 := ⟨q_mem 741 (by decide +kernel) rfl, li_RX8, by decide, by decide, by decide, by decide +kernel⟩
theorem mk_X8_carryOutOrder : Cond.instanceMethod yX8_carryOutOrder ∈ q_tbl := q_mem 740 (by decide +kernel) rfl
theorem ms_X8_carryOutOrder : Cond.selects RX8 yX8_carryOutOrder yX8_carryOutOrder ∈ q_tbl := q_mem 19 (by decide +kernel) rfl
theorem m_X8_undo : q_M yX8_undo cX8_undo 2 (some .int) 0 := ⟨q_mem 746 (by decide +kernel) rfl, li_RX8, by decide, by decide, by decide, by decide +kernel⟩
theorem mk_X8_undo : Cond.instanceMethod yX8_undo ∈ q_tbl := q_mem 744 (by decide +kernel) rfl
theorem ms_X8_undo : Cond.selects RX8 yX8_undo yX8_undo ∈ q_tbl := q_mem 745 (by decide +kernel) rfl
theorem m_X0_takeLatest : q_M yX0_takeLatest cX0_takeLatest 1 (some (.object "TitleCaller$Score")) 0 := ⟨q_mem 750 (by decide +kernel) rfl, li_RX0, by decide, by decide, by decide, by decide +kernel⟩
theorem mk_X0_takeLatest : Cond.instanceMethod yX0_takeLatest ∈ q_tbl := q_mem 748 (by decide +kernel) rfl
theorem ms_X0_takeLatest : Cond.selects RX0 yX0_takeLatest yX0_takeLatest ∈ q_tbl := q_mem 749 (by decide +kernel) rfl
theorem m_X8_save : q_M yX8_save cX8_save 3 (some .int) 1 := ⟨q_mem 754 (by decide +kernel) rfl, li_RX8, by decide, by decide, by decide, by decide +kernel⟩
theorem mk_X8_save : Cond.instanceMethod yX8_save ∈ q_tbl := q_mem 752 (by decide +kernel) rfl
theorem ms_X8_save : Cond.selects RX8 yX8_save yX8_save ∈ q_tbl := q_mem 753 (by decide +kernel) rfl
theorem m_X8_slotAt : q_M yX8_slotAt cX8_slotAt 2 (some (.object "TitleCaller$Score")) 1 := ⟨q_mem 758 (by decide +kernel) rfl, li_RX8, by decide, by decide, by decide, by decide +kernel⟩
theorem mk_X8_slotAt : Cond.instanceMethod yX8_slotAt ∈ q_tbl := q_mem 757 (by decide +kernel) rfl
theorem ms_X8_slotAt : Cond.selects RX8 yX8_slotAt yX8_slotAt ∈ q_tbl := q_mem 20 (by decide +kernel) rfl
theorem m_X8_restore : q_M yX8_restore cX8_restore 3 (some .int) 1 := ⟨q_mem 762 (by decide +kernel) rfl, li_RX8, by decide, by decide, by decide, by decide +kernel⟩
theorem mk_X8_restore : Cond.instanceMethod yX8_restore ∈ q_tbl := q_mem 760 (by decide +kernel) rfl
theorem ms_X8_restore : Cond.selects RX8 yX8_restore yX8_restore ∈ q_tbl := q_mem 761 (by decide +kernel) rfl
theorem m_X9_init : q_M yX9_init cX9_init 2 none 0 := ⟨q_mem 767 (by decide +kernel) rfl, li_RX9, by decide, by decide, by decide, by decide +kernel⟩
theorem mk_X9_init : Cond.instanceMethod yX9_init ∈ q_tbl := q_mem 766 (by decide +kernel) rfl
theorem m_X9_bars : q_M yX9_bars cX9_bars 3 (some .int) 1 := ⟨q_mem 845 (by decide +kernel) rfl, li_RX9, by decide, by decide, by decide, by decide +kernel⟩
theorem mk_X9_bars : Cond.instanceMethod yX9_bars ∈ q_tbl := q_mem 843 (by decide +kernel) rfl
theorem ms_X9_bars : Cond.selects RX9 yX9_bars yX9_bars ∈ q_tbl := q_mem 844 (by decide +kernel) rfl
theorem m_X9_in : q_M yX9_in cX9_in 3 (some .boolean) 3 := ⟨q_mem 848 (by decide +kernel) rfl, li_RX9, by decide, by decide, by decide, by decide +kernel⟩
theorem mk_X9_in : Cond.static yX9_in ∈ q_tbl := q_mem 847 (by decide +kernel) rfl
theorem m_X9_isBeyond : q_M yX9_isBeyond cX9_isBeyond 4 (some .boolean) 1 := ⟨q_mem 852 (by decide +kernel) rfl, li_RX9, by decide, by decide, by decide, by decide +kernel⟩
theorem mk_X9_isBeyond : Cond.instanceMethod yX9_isBeyond ∈ q_tbl := q_mem 851 (by decide +kernel) rfl
theorem ms_X9_isBeyond : Cond.selects RX9 yX9_isBeyond yX9_isBeyond ∈ q_tbl := q_mem 21 (by decide +kernel) rfl
theorem m_X9_of : q_M yX9_of cX9_of 3 (some .int) 2 := ⟨q_mem 856 (by decide +kernel) rfl, li_RX9, by decide, by decide, by decide, by decide +kernel⟩
theorem mk_X9_of : Cond.instanceMethod yX9_of ∈ q_tbl := q_mem 855 (by decide +kernel) rfl
theorem ms_X9_of : Cond.selects RX9 yX9_of yX9_of ∈ q_tbl := q_mem 22 (by decide +kernel) rfl
theorem m_X9_records : q_M yX9_records cX9_records 2 none 0 := ⟨q_mem 860 (by decide +kernel) rfl, li_RX9, by decide, by decide, by decide, by decide +kernel⟩
theorem mk_X9_records : Cond.instanceMethod yX9_records ∈ q_tbl := q_mem 859 (by decide +kernel) rfl
theorem ms_X9_records : Cond.selects RX9 yX9_records yX9_records ∈ q_tbl := q_mem 23 (by decide +kernel) rfl
theorem m_X9_shortest : q_M yX9_shortest cX9_shortest 3 (some .int) 1 := ⟨q_mem 864 (by decide +kernel) rfl, li_RX9, by decide, by decide, by decide, by decide +kernel⟩
theorem mk_X9_shortest : Cond.instanceMethod yX9_shortest ∈ q_tbl := q_mem 862 (by decide +kernel) rfl
theorem ms_X9_shortest : Cond.selects RX9 yX9_shortest yX9_shortest ∈ q_tbl := q_mem 863 (by decide +kernel) rfl
theorem m_X9_bar : q_M yX9_bar cX9_bar 5 (some .int) 3 := ⟨q_mem 868 (by decide +kernel) rfl, li_RX9, by decide, by decide, by decide, by decide +kernel⟩
theorem mk_X9_bar : Cond.instanceMethod yX9_bar ∈ q_tbl := q_mem 866 (by decide +kernel) rfl
theorem ms_X9_bar : Cond.selects RX9 yX9_bar yX9_bar ∈ q_tbl := q_mem 867 (by decide +kernel) rfl
theorem m_X9_refusesBar : q_M yX9_refusesBar cX9_refusesBar 4 (some .int) 3 := ⟨q_mem 872 (by decide +kernel) rfl, li_RX9, by decide, by decide, by decide, by decide +kernel⟩
theorem mk_X9_refusesBar : Cond.instanceMethod yX9_refusesBar ∈ q_tbl := q_mem 871 (by decide +kernel) rfl
theorem ms_X9_refusesBar : Cond.selects RX9 yX9_refusesBar yX9_refusesBar ∈ q_tbl := q_mem 24 (by decide +kernel) rfl
theorem m_X9_isBar : q_M yX9_isBar cX9_isBar 2 (some .boolean) 1 := ⟨q_mem 876 (by decide +kernel) rfl, li_RX9, by decide, by decide, by decide, by decide +kernel⟩
theorem mk_X9_isBar : Cond.instanceMethod yX9_isBar ∈ q_tbl := q_mem 875 (by decide +kernel) rfl
theorem ms_X9_isBar : Cond.selects RX9 yX9_isBar yX9_isBar ∈ q_tbl := q_mem 25 (by decide +kernel) rfl
theorem m_X9_laysBar : q_M yX9_laysBar cX9_laysBar 4 none 3 := ⟨q_mem 880 (by decide +kernel) rfl, li_RX9, by decide, by decide, by decide, by decide +kernel⟩
theorem mk_X9_laysBar : Cond.instanceMethod yX9_laysBar ∈ q_tbl := q_mem 879 (by decide +kernel) rfl
theorem ms_X9_laysBar : Cond.selects RX9 yX9_laysBar yX9_laysBar ∈ q_tbl := q_mem 26 (by decide +kernel) rfl
theorem m_X9_tenths : q_M yX9_tenths cX9_tenths 2 (some .int) 1 := ⟨q_mem 884 (by decide +kernel) rfl, li_RX9, by decide, by decide, by decide, by decide +kernel⟩
theorem mk_X9_tenths : Cond.instanceMethod yX9_tenths ∈ q_tbl := q_mem 883 (by decide +kernel) rfl
theorem ms_X9_tenths : Cond.selects RX9 yX9_tenths yX9_tenths ∈ q_tbl := q_mem 27 (by decide +kernel) rfl
theorem m_X9_repeat : q_M yX9_repeat cX9_repeat 4 (some .int) 2 := ⟨q_mem 888 (by decide +kernel) rfl, li_RX9, by decide, by decide, by decide, by decide +kernel⟩
theorem mk_X9_repeat : Cond.instanceMethod yX9_repeat ∈ q_tbl := q_mem 886 (by decide +kernel) rfl
theorem ms_X9_repeat : Cond.selects RX9 yX9_repeat yX9_repeat ∈ q_tbl := q_mem 887 (by decide +kernel) rfl
theorem m_X9_refusesRepeat : q_M yX9_refusesRepeat cX9_refusesRepeat 5 (some .int) 2 := ⟨q_mem 892 (by decide +kernel) rfl, li_RX9, by decide, by decide, by decide, by decide +kernel⟩
theorem mk_X9_refusesRepeat : Cond.instanceMethod yX9_refusesRepeat ∈ q_tbl := q_mem 891 (by decide +kernel) rfl
theorem ms_X9_refusesRepeat : Cond.selects RX9 yX9_refusesRepeat yX9_refusesRepeat ∈ q_tbl := q_mem 28 (by decide +kernel) rfl
theorem m_X9_refusesSpan : q_M yX9_refusesSpan cX9_refusesSpan 4 (some .int) 3 := ⟨q_mem 896 (by decide +kernel) rfl, li_RX9, by decide, by decide, by decide, by decide +kernel⟩
theorem mk_X9_refusesSpan : Cond.instanceMethod yX9_refusesSpan ∈ q_tbl := q_mem 895 (by decide +kernel) rfl
theorem ms_X9_refusesSpan : Cond.selects RX9 yX9_refusesSpan yX9_refusesSpan ∈ q_tbl := q_mem 29 (by decide +kernel) rfl
theorem m_X9_laysSpan : q_M yX9_laysSpan cX9_laysSpan 5 (some .int) 4 := ⟨q_mem 900 (by decide +kernel) rfl, li_RX9, by decide, by decide, by decide, by decide +kernel⟩
theorem mk_X9_laysSpan : Cond.instanceMethod yX9_laysSpan ∈ q_tbl := q_mem 899 (by decide +kernel) rfl
theorem ms_X9_laysSpan : Cond.selects RX9 yX9_laysSpan yX9_laysSpan ∈ q_tbl := q_mem 30 (by decide +kernel) rfl
theorem m_X9_cut : q_M yX9_cut cX9_cut 4 (some .int) 2 := ⟨q_mem 904 (by decide +kernel) rfl, li_RX9, by decide, by decide, by decide, by decide +kernel⟩
theorem mk_X9_cut : Cond.instanceMethod yX9_cut ∈ q_tbl := q_mem 902 (by decide +kernel) rfl
theorem ms_X9_cut : Cond.selects RX9 yX9_cut yX9_cut ∈ q_tbl := q_mem 903 (by decide +kernel) rfl
theorem m_X9_blackout : q_M yX9_blackout cX9_blackout 3 (some .int) 2 := ⟨q_mem 908 (by decide +kernel) rfl, li_RX9, by decide, by decide, by decide, by decide +kernel⟩
theorem mk_X9_blackout : Cond.instanceMethod yX9_blackout ∈ q_tbl := q_mem 906 (by decide +kernel) rfl
theorem ms_X9_blackout : Cond.selects RX9 yX9_blackout yX9_blackout ∈ q_tbl := q_mem 907 (by decide +kernel) rfl
theorem m_X9_undoSpan : q_M yX9_undoSpan cX9_undoSpan 5 (some .int) 2 := ⟨q_mem 912 (by decide +kernel) rfl, li_RX9, by decide, by decide, by decide, by decide +kernel⟩
theorem mk_X9_undoSpan : Cond.instanceMethod yX9_undoSpan ∈ q_tbl := q_mem 910 (by decide +kernel) rfl
theorem ms_X9_undoSpan : Cond.selects RX9 yX9_undoSpan yX9_undoSpan ∈ q_tbl := q_mem 911 (by decide +kernel) rfl
theorem m_X9_title : q_M yX9_title cX9_title 6 (some .int) 4 := ⟨q_mem 916 (by decide +kernel) rfl, li_RX9, by decide, by decide, by decide, by decide +kernel⟩
theorem mk_X9_title : Cond.instanceMethod yX9_title ∈ q_tbl := q_mem 914 (by decide +kernel) rfl
theorem ms_X9_title : Cond.selects RX9 yX9_title yX9_title ∈ q_tbl := q_mem 915 (by decide +kernel) rfl
theorem m_X9_refusesTitle : q_M yX9_refusesTitle cX9_refusesTitle 5 (some .int) 4 := ⟨q_mem 920 (by decide +kernel) rfl, li_RX9, by decide, by decide, by decide, by decide +kernel⟩
theorem mk_X9_refusesTitle : Cond.instanceMethod yX9_refusesTitle ∈ q_tbl := q_mem 919 (by decide +kernel) rfl
theorem ms_X9_refusesTitle : Cond.selects RX9 yX9_refusesTitle yX9_refusesTitle ∈ q_tbl := q_mem 31 (by decide +kernel) rfl
theorem m_X9_laysTitle : q_M yX9_laysTitle cX9_laysTitle 6 (some .int) 4 := ⟨q_mem 924 (by decide +kernel) rfl, li_RX9, by decide, by decide, by decide, by decide +kernel⟩
theorem mk_X9_laysTitle : Cond.instanceMethod yX9_laysTitle ∈ q_tbl := q_mem 923 (by decide +kernel) rfl
theorem ms_X9_laysTitle : Cond.selects RX9 yX9_laysTitle yX9_laysTitle ∈ q_tbl := q_mem 32 (by decide +kernel) rfl
theorem m_X9_drop : q_M yX9_drop cX9_drop 2 (some .int) 1 := ⟨q_mem 928 (by decide +kernel) rfl, li_RX9, by decide, by decide, by decide, by decide +kernel⟩
theorem mk_X9_drop : Cond.instanceMethod yX9_drop ∈ q_tbl := q_mem 926 (by decide +kernel) rfl
theorem ms_X9_drop : Cond.selects RX9 yX9_drop yX9_drop ∈ q_tbl := q_mem 927 (by decide +kernel) rfl
theorem m_X9_dropsTitle : q_M yX9_dropsTitle cX9_dropsTitle 3 (some .int) 1 := ⟨q_mem 932 (by decide +kernel) rfl, li_RX9, by decide, by decide, by decide, by decide +kernel⟩
theorem mk_X9_dropsTitle : Cond.instanceMethod yX9_dropsTitle ∈ q_tbl := q_mem 931 (by decide +kernel) rfl
theorem ms_X9_dropsTitle : Cond.selects RX9 yX9_dropsTitle yX9_dropsTitle ∈ q_tbl := q_mem 33 (by decide +kernel) rfl
theorem m_X9_ofBar : q_M yX9_ofBar cX9_ofBar 3 (some .int) 2 := ⟨q_mem 936 (by decide +kernel) rfl, li_RX9, by decide, by decide, by decide, by decide +kernel⟩
theorem mk_X9_ofBar : Cond.instanceMethod yX9_ofBar ∈ q_tbl := q_mem 934 (by decide +kernel) rfl
theorem ms_X9_ofBar : Cond.selects RX9 yX9_ofBar yX9_ofBar ∈ q_tbl := q_mem 935 (by decide +kernel) rfl
theorem m_X9_laysNight : q_M yX9_laysNight cX9_laysNight 3 none 0 := ⟨q_mem 940 (by decide +kernel) rfl, li_RX9, by decide, by decide, by decide, by decide +kernel⟩
theorem mk_X9_laysNight : Cond.instanceMethod yX9_laysNight ∈ q_tbl := q_mem 939 (by decide +kernel) rfl
theorem ms_X9_laysNight : Cond.selects RX9 yX9_laysNight yX9_laysNight ∈ q_tbl := q_mem 34 (by decide +kernel) rfl
theorem m_X9_sings : q_M yX9_sings cX9_sings 2 none 1 := ⟨q_mem 944 (by decide +kernel) rfl, li_RX9, by decide, by decide, by decide, by decide +kernel⟩
theorem mk_X9_sings : Cond.instanceMethod yX9_sings ∈ q_tbl := q_mem 943 (by decide +kernel) rfl
theorem ms_X9_sings : Cond.selects RX9 yX9_sings yX9_sings ∈ q_tbl := q_mem 35 (by decide +kernel) rfl
theorem m_X9_isCut : q_M yX9_isCut cX9_isCut 4 (some .boolean) 1 := ⟨q_mem 948 (by decide +kernel) rfl, li_RX9, by decide, by decide, by decide, by decide +kernel⟩
theorem mk_X9_isCut : Cond.instanceMethod yX9_isCut ∈ q_tbl := q_mem 947 (by decide +kernel) rfl
theorem ms_X9_isCut : Cond.selects RX9 yX9_isCut yX9_isCut ∈ q_tbl := q_mem 36 (by decide +kernel) rfl
theorem m_X9_repeats : q_M yX9_repeats cX9_repeats 4 none 2 := ⟨q_mem 952 (by decide +kernel) rfl, li_RX9, by decide, by decide, by decide, by decide +kernel⟩
theorem mk_X9_repeats : Cond.instanceMethod yX9_repeats ∈ q_tbl := q_mem 951 (by decide +kernel) rfl
theorem ms_X9_repeats : Cond.selects RX9 yX9_repeats yX9_repeats ∈ q_tbl := q_mem 37 (by decide +kernel) rfl
theorem m_X9_timesSung : q_M yX9_timesSung cX9_timesSung 4 (some .int) 1 := ⟨q_mem 956 (by decide +kernel) rfl, li_RX9, by decide, by decide, by decide, by decide +kernel⟩
theorem mk_X9_timesSung : Cond.instanceMethod yX9_timesSung ∈ q_tbl := q_mem 955 (by decide +kernel) rfl
theorem ms_X9_timesSung : Cond.selects RX9 yX9_timesSung yX9_timesSung ∈ q_tbl := q_mem 38 (by decide +kernel) rfl
theorem m_X9_firstPlace : q_M yX9_firstPlace cX9_firstPlace 3 (some .int) 1 := ⟨q_mem 960 (by decide +kernel) rfl, li_RX9, by decide, by decide, by decide, by decide +kernel⟩
theorem mk_X9_firstPlace : Cond.instanceMethod yX9_firstPlace ∈ q_tbl := q_mem 959 (by decide +kernel) rfl
theorem ms_X9_firstPlace : Cond.selects RX9 yX9_firstPlace yX9_firstPlace ∈ q_tbl := q_mem 39 (by decide +kernel) rfl
theorem m_X9_sung : q_M yX9_sung cX9_sung 3 (some .int) 2 := ⟨q_mem 964 (by decide +kernel) rfl, li_RX9, by decide, by decide, by decide, by decide +kernel⟩
theorem mk_X9_sung : Cond.instanceMethod yX9_sung ∈ q_tbl := q_mem 962 (by decide +kernel) rfl
theorem ms_X9_sung : Cond.selects RX9 yX9_sung yX9_sung ∈ q_tbl := q_mem 963 (by decide +kernel) rfl
theorem m_X9_isBlack : q_M yX9_isBlack cX9_isBlack 4 (some .boolean) 1 := ⟨q_mem 968 (by decide +kernel) rfl, li_RX9, by decide, by decide, by decide, by decide +kernel⟩
theorem mk_X9_isBlack : Cond.instanceMethod yX9_isBlack ∈ q_tbl := q_mem 967 (by decide +kernel) rfl
theorem ms_X9_isBlack : Cond.selects RX9 yX9_isBlack yX9_isBlack ∈ q_tbl := q_mem 40 (by decide +kernel) rfl
theorem m_X9_ofTitle : q_M yX9_ofTitle cX9_ofTitle 3 (some .int) 2 := ⟨q_mem 972 (by decide +kernel) rfl, li_RX9, by decide, by decide, by decide, by decide +kernel⟩
theorem mk_X9_ofTitle : Cond.instanceMethod yX9_ofTitle ∈ q_tbl := q_mem 970 (by decide +kernel) rfl
theorem ms_X9_ofTitle : Cond.selects RX9 yX9_ofTitle yX9_ofTitle ∈ q_tbl := q_mem 971 (by decide +kernel) rfl
theorem m_X9_laysShowings : q_M yX9_laysShowings cX9_laysShowings 3 none 0 := ⟨q_mem 976 (by decide +kernel) rfl, li_RX9, by decide, by decide, by decide, by decide +kernel⟩
theorem mk_X9_laysShowings : Cond.instanceMethod yX9_laysShowings ∈ q_tbl := q_mem 975 (by decide +kernel) rfl
theorem ms_X9_laysShowings : Cond.selects RX9 yX9_laysShowings yX9_laysShowings ∈ q_tbl := q_mem 41 (by decide +kernel) rfl
theorem m_X9_comes : q_M yX9_comes cX9_comes 5 (some .boolean) 2 := ⟨q_mem 980 (by decide +kernel) rfl, li_RX9, by decide, by decide, by decide, by decide +kernel⟩
theorem mk_X9_comes : Cond.instanceMethod yX9_comes ∈ q_tbl := q_mem 979 (by decide +kernel) rfl
theorem ms_X9_comes : Cond.selects RX9 yX9_comes yX9_comes ∈ q_tbl := q_mem 42 (by decide +kernel) rfl
theorem m_X9_lastPlace : q_M yX9_lastPlace cX9_lastPlace 4 (some .int) 1 := ⟨q_mem 984 (by decide +kernel) rfl, li_RX9, by decide, by decide, by decide, by decide +kernel⟩
theorem mk_X9_lastPlace : Cond.instanceMethod yX9_lastPlace ∈ q_tbl := q_mem 983 (by decide +kernel) rfl
theorem ms_X9_lastPlace : Cond.selects RX9 yX9_lastPlace yX9_lastPlace ∈ q_tbl := q_mem 43 (by decide +kernel) rfl
theorem m_X9_laysShowing : q_M yX9_laysShowing cX9_laysShowing 5 none 2 := ⟨q_mem 988 (by decide +kernel) rfl, li_RX9, by decide, by decide, by decide, by decide +kernel⟩
theorem mk_X9_laysShowing : Cond.instanceMethod yX9_laysShowing ∈ q_tbl := q_mem 987 (by decide +kernel) rfl
theorem ms_X9_laysShowing : Cond.selects RX9 yX9_laysShowing yX9_laysShowing ∈ q_tbl := q_mem 44 (by decide +kernel) rfl
theorem m_X9_lead : q_M yX9_lead cX9_lead 1 (some .int) 1 := ⟨q_mem 991 (by decide +kernel) rfl, li_RX9, by decide, by decide, by decide, by decide +kernel⟩
theorem mk_X9_lead : Cond.static yX9_lead ∈ q_tbl := q_mem 990 (by decide +kernel) rfl
theorem m_X9_beginOf : q_M yX9_beginOf cX9_beginOf 2 (some .int) 1 := ⟨q_mem 995 (by decide +kernel) rfl, li_RX9, by decide, by decide, by decide, by decide +kernel⟩
theorem mk_X9_beginOf : Cond.instanceMethod yX9_beginOf ∈ q_tbl := q_mem 994 (by decide +kernel) rfl
theorem ms_X9_beginOf : Cond.selects RX9 yX9_beginOf yX9_beginOf ∈ q_tbl := q_mem 45 (by decide +kernel) rfl
theorem m_X9_looksAt : q_M yX9_looksAt cX9_looksAt 7 (some .boolean) 2 := ⟨q_mem 999 (by decide +kernel) rfl, li_RX9, by decide, by decide, by decide, by decide +kernel⟩
theorem mk_X9_looksAt : Cond.instanceMethod yX9_looksAt ∈ q_tbl := q_mem 998 (by decide +kernel) rfl
theorem ms_X9_looksAt : Cond.selects RX9 yX9_looksAt yX9_looksAt ∈ q_tbl := q_mem 46 (by decide +kernel) rfl
theorem m_X9_isDark : q_M yX9_isDark cX9_isDark 5 (some .boolean) 1 := ⟨q_mem 1003 (by decide +kernel) rfl, li_RX9, by decide, by decide, by decide, by decide +kernel⟩
theorem mk_X9_isDark : Cond.instanceMethod yX9_isDark ∈ q_tbl := q_mem 1002 (by decide +kernel) rfl
theorem ms_X9_isDark : Cond.selects RX9 yX9_isDark yX9_isDark ∈ q_tbl := q_mem 47 (by decide +kernel) rfl
theorem m_X9_showingsOf : q_M yX9_showingsOf cX9_showingsOf 7 (some .int) 2 := ⟨q_mem 1007 (by decide +kernel) rfl, li_RX9, by decide, by decide, by decide, by decide +kernel⟩
theorem mk_X9_showingsOf : Cond.instanceMethod yX9_showingsOf ∈ q_tbl := q_mem 1006 (by decide +kernel) rfl
theorem ms_X9_showingsOf : Cond.selects RX9 yX9_showingsOf yX9_showingsOf ∈ q_tbl := q_mem 48 (by decide +kernel) rfl
theorem m_X9_showing : q_M yX9_showing cX9_showing 3 (some .int) 2 := ⟨q_mem 1011 (by decide +kernel) rfl, li_RX9, by decide, by decide, by decide, by decide +kernel⟩
theorem mk_X9_showing : Cond.instanceMethod yX9_showing ∈ q_tbl := q_mem 1009 (by decide +kernel) rfl
theorem ms_X9_showing : Cond.selects RX9 yX9_showing yX9_showing ∈ q_tbl := q_mem 1010 (by decide +kernel) rfl
theorem m_X9_speed : q_M yX9_speed cX9_speed 3 (some .int) 1 := ⟨q_mem 1015 (by decide +kernel) rfl, li_RX9, by decide, by decide, by decide, by decide +kernel⟩
theorem mk_X9_speed : Cond.instanceMethod yX9_speed ∈ q_tbl := q_mem 1014 (by decide +kernel) rfl
theorem ms_X9_speed : Cond.selects RX9 yX9_speed yX9_speed ∈ q_tbl := q_mem 49 (by decide +kernel) rfl
theorem m_X9_at : q_M yX9_at cX9_at 3 (some .int) 1 := ⟨q_mem 1019 (by decide +kernel) rfl, li_RX9, by decide, by decide, by decide, by decide +kernel⟩
theorem mk_X9_at : Cond.instanceMethod yX9_at ∈ q_tbl := q_mem 1017 (by decide +kernel) rfl
theorem ms_X9_at : Cond.selects RX9 yX9_at yX9_at ∈ q_tbl := q_mem 1018 (by decide +kernel) rfl
theorem m_X9_count : q_M yX9_count cX9_count 2 (some .int) 1 := ⟨q_mem 1023 (by decide +kernel) rfl, li_RX9, by decide, by decide, by decide, by decide +kernel⟩
theorem mk_X9_count : Cond.instanceMethod yX9_count ∈ q_tbl := q_mem 1021 (by decide +kernel) rfl
theorem ms_X9_count : Cond.selects RX9 yX9_count yX9_count ∈ q_tbl := q_mem 1022 (by decide +kernel) rfl
theorem m_X9_withReason : q_M yX9_withReason cX9_withReason 4 (some .int) 1 := ⟨q_mem 1027 (by decide +kernel) rfl, li_RX9, by decide, by decide, by decide, by decide +kernel⟩
theorem mk_X9_withReason : Cond.instanceMethod yX9_withReason ∈ q_tbl := q_mem 1026 (by decide +kernel) rfl
theorem ms_X9_withReason : Cond.selects RX9 yX9_withReason yX9_withReason ∈ q_tbl := q_mem 50 (by decide +kernel) rfl
theorem m_X9_shownTenths : q_M yX9_shownTenths cX9_shownTenths 3 (some .int) 0 := ⟨q_mem 1031 (by decide +kernel) rfl, li_RX9, by decide, by decide, by decide, by decide +kernel⟩
theorem mk_X9_shownTenths : Cond.instanceMethod yX9_shownTenths ∈ q_tbl := q_mem 1030 (by decide +kernel) rfl
theorem ms_X9_shownTenths : Cond.selects RX9 yX9_shownTenths yX9_shownTenths ∈ q_tbl := q_mem 51 (by decide +kernel) rfl
theorem m_X9_cutIf : q_M yX9_cutIf cX9_cutIf 7 (some .int) 3 := ⟨q_mem 1035 (by decide +kernel) rfl, li_RX9, by decide, by decide, by decide, by decide +kernel⟩
theorem mk_X9_cutIf : Cond.instanceMethod yX9_cutIf ∈ q_tbl := q_mem 1033 (by decide +kernel) rfl
theorem ms_X9_cutIf : Cond.selects RX9 yX9_cutIf yX9_cutIf ∈ q_tbl := q_mem 1034 (by decide +kernel) rfl
theorem m_X9_titlesShown : q_M yX9_titlesShown cX9_titlesShown 3 (some .int) 0 := ⟨q_mem 1039 (by decide +kernel) rfl, li_RX9, by decide, by decide, by decide, by decide +kernel⟩
theorem mk_X9_titlesShown : Cond.instanceMethod yX9_titlesShown ∈ q_tbl := q_mem 1038 (by decide +kernel) rfl
theorem ms_X9_titlesShown : Cond.selects RX9 yX9_titlesShown yX9_titlesShown ∈ q_tbl := q_mem 52 (by decide +kernel) rfl
theorem m_X9_slowest : q_M yX9_slowest cX9_slowest 3 (some .int) 1 := ⟨q_mem 1043 (by decide +kernel) rfl, li_RX9, by decide, by decide, by decide, by decide +kernel⟩
theorem mk_X9_slowest : Cond.instanceMethod yX9_slowest ∈ q_tbl := q_mem 1041 (by decide +kernel) rfl
theorem ms_X9_slowest : Cond.selects RX9 yX9_slowest yX9_slowest ∈ q_tbl := q_mem 1042 (by decide +kernel) rfl
theorem m_X9_nightAt : q_M yX9_nightAt cX9_nightAt 4 (some .int) 1 := ⟨q_mem 1047 (by decide +kernel) rfl, li_RX9, by decide, by decide, by decide, by decide +kernel⟩
theorem mk_X9_nightAt : Cond.instanceMethod yX9_nightAt ∈ q_tbl := q_mem 1046 (by decide +kernel) rfl
theorem ms_X9_nightAt : Cond.selects RX9 yX9_nightAt yX9_nightAt ∈ q_tbl := q_mem 53 (by decide +kernel) rfl
theorem m_X9_put : q_M yX9_put cX9_put 8 (some .int) 1 := ⟨q_mem 1051 (by decide +kernel) rfl, li_RX9, by decide, by decide, by decide, by decide +kernel⟩
theorem mk_X9_put : Cond.instanceMethod yX9_put ∈ q_tbl := q_mem 1049 (by decide +kernel) rfl
theorem ms_X9_put : Cond.selects RX9 yX9_put yX9_put ∈ q_tbl := q_mem 1050 (by decide +kernel) rfl
theorem m_X9_wipe : q_M yX9_wipe cX9_wipe 2 (some .int) 0 := ⟨q_mem 1056 (by decide +kernel) rfl, li_RX9, by decide, by decide, by decide, by decide +kernel⟩
theorem mk_X9_wipe : Cond.instanceMethod yX9_wipe ∈ q_tbl := q_mem 1054 (by decide +kernel) rfl
theorem ms_X9_wipe : Cond.selects RX9 yX9_wipe yX9_wipe ∈ q_tbl := q_mem 1055 (by decide +kernel) rfl
theorem m_X9_fault : q_M yX9_fault cX9_fault 1 (some .int) 0 := ⟨q_mem 1060 (by decide +kernel) rfl, li_RX9, by decide, by decide, by decide, by decide +kernel⟩
theorem mk_X9_fault : Cond.instanceMethod yX9_fault ∈ q_tbl := q_mem 1058 (by decide +kernel) rfl
theorem ms_X9_fault : Cond.selects RX9 yX9_fault yX9_fault ∈ q_tbl := q_mem 1059 (by decide +kernel) rfl
theorem m_X9_reads : q_M yX9_reads cX9_reads 1 (some .int) 0 := ⟨q_mem 1064 (by decide +kernel) rfl, li_RX9, by decide, by decide, by decide, by decide +kernel⟩
theorem mk_X9_reads : Cond.instanceMethod yX9_reads ∈ q_tbl := q_mem 1063 (by decide +kernel) rfl
theorem ms_X9_reads : Cond.selects RX9 yX9_reads yX9_reads ∈ q_tbl := q_mem 54 (by decide +kernel) rfl
theorem m_X9_readsOrder : q_M yX9_readsOrder cX9_readsOrder 6 none 0 := ⟨q_mem 1068 (by decide +kernel) rfl, li_RX9, by decide, by decide, by decide, by decide +kernel⟩
theorem mk_X9_readsOrder : Cond.instanceMethod yX9_readsOrder ∈ q_tbl := q_mem 1067 (by decide +kernel) rfl
theorem ms_X9_readsOrder : Cond.selects RX9 yX9_readsOrder yX9_readsOrder ∈ q_tbl := q_mem 55 (by decide +kernel) rfl
theorem m_X9_sign : q_M yX9_sign cX9_sign 1 (some .int) 0 := ⟨q_mem 1072 (by decide +kernel) rfl, li_RX9, by decide, by decide, by decide, by decide +kernel⟩
theorem mk_X9_sign : Cond.instanceMethod yX9_sign ∈ q_tbl := q_mem 1071 (by decide +kernel) rfl
theorem ms_X9_sign : Cond.selects RX9 yX9_sign yX9_sign ∈ q_tbl := q_mem 56 (by decide +kernel) rfl
theorem m_X9_number : q_M yX9_number cX9_number 3 (some .int) 0 := ⟨q_mem 1076 (by decide +kernel) rfl, li_RX9, by decide, by decide, by decide, by decide +kernel⟩
theorem mk_X9_number : Cond.instanceMethod yX9_number ∈ q_tbl := q_mem 1075 (by decide +kernel) rfl
theorem ms_X9_number : Cond.selects RX9 yX9_number yX9_number ∈ q_tbl := q_mem 57 (by decide +kernel) rfl
theorem m_X9_wants : q_M yX9_wants cX9_wants 2 none 1 := ⟨q_mem 1080 (by decide +kernel) rfl, li_RX9, by decide, by decide, by decide, by decide +kernel⟩
theorem mk_X9_wants : Cond.instanceMethod yX9_wants ∈ q_tbl := q_mem 1079 (by decide +kernel) rfl
theorem ms_X9_wants : Cond.selects RX9 yX9_wants yX9_wants ∈ q_tbl := q_mem 58 (by decide +kernel) rfl
theorem m_X9_carryOut : q_M yX9_carryOut cX9_carryOut 6 (some .int) 0 := ⟨q_mem 1084 (by decide +kernel) rfl, li_RX9, by decide, by decide, by decide, by decide +kernel⟩
theorem mk_X9_carryOut : Cond.instanceMethod yX9_carryOut ∈ q_tbl := q_mem 1082 (by decide +kernel) rfl
theorem ms_X9_carryOut : Cond.selects RX9 yX9_carryOut yX9_carryOut ∈ q_tbl := q_mem 1083 (by decide +kernel) rfl
theorem m_X9_refuses : q_M yX9_refuses cX9_refuses 5 (some .int) 4 := ⟨q_mem 1088 (by decide +kernel) rfl, li_RX9, by decide, by decide, by decide, by decide +kernel⟩
theorem mk_X9_refuses : Cond.instanceMethod yX9_refuses ∈ q_tbl := q_mem 1087 (by decide +kernel) rfl
theorem ms_X9_refuses : Cond.selects RX9 yX9_refuses yX9_refuses ∈ q_tbl := q_mem 59 (by decide +kernel) rfl
theorem m_X9_kindBy : q_M yX9_kindBy cX9_kindBy 1 (some .int) 1 := ⟨q_mem 1091 (by decide +kernel) rfl, li_RX9, by decide, by decide, by decide, by decide +kernel⟩
theorem mk_X9_kindBy : Cond.static yX9_kindBy ∈ q_tbl := q_mem 1090 (by decide +kernel) rfl
theorem m_X9_does : q_M yX9_does cX9_does 5 none 4 := ⟨q_mem 1095 (by decide +kernel) rfl, li_RX9, by decide, by decide, by decide, by decide +kernel⟩
theorem mk_X9_does : Cond.instanceMethod yX9_does ∈ q_tbl := q_mem 1094 (by decide +kernel) rfl
theorem ms_X9_does : Cond.selects RX9 yX9_does yX9_does ∈ q_tbl := q_mem 60 (by decide +kernel) rfl
theorem m_X9_undo : q_M yX9_undo cX9_undo 2 (some .int) 0 := ⟨q_mem 1099 (by decide +kernel) rfl, li_RX9, by decide, by decide, by decide, by decide +kernel⟩
theorem mk_X9_undo : Cond.instanceMethod yX9_undo ∈ q_tbl := q_mem 1097 (by decide +kernel) rfl
theorem ms_X9_undo : Cond.selects RX9 yX9_undo yX9_undo ∈ q_tbl := q_mem 1098 (by decide +kernel) rfl
theorem m_X9_save : q_M yX9_save cX9_save 3 (some .int) 1 := ⟨q_mem 1103 (by decide +kernel) rfl, li_RX9, by decide, by decide, by decide, by decide +kernel⟩
theorem mk_X9_save : Cond.instanceMethod yX9_save ∈ q_tbl := q_mem 1101 (by decide +kernel) rfl
theorem ms_X9_save : Cond.selects RX9 yX9_save yX9_save ∈ q_tbl := q_mem 1102 (by decide +kernel) rfl
theorem m_X9_restore : q_M yX9_restore cX9_restore 3 (some .int) 1 := ⟨q_mem 1107 (by decide +kernel) rfl, li_RX9, by decide, by decide, by decide, by decide +kernel⟩
theorem mk_X9_restore : Cond.instanceMethod yX9_restore ∈ q_tbl := q_mem 1105 (by decide +kernel) rfl
theorem ms_X9_restore : Cond.selects RX9 yX9_restore yX9_restore ∈ q_tbl := q_mem 1106 (by decide +kernel) rfl
theorem li_Math : Cond.initialized "java/lang/Math" ∈ q_tbl := q_mem 71 (by decide +kernel) rfl
theorem li_System : Cond.initialized "java/lang/System" ∈ q_tbl := q_mem 73 (by decide +kernel) rfl
end
section
/-! The abstract machine's state: values are whole numbers; a heap is two functions (references r, numbers h) of address and place. -/
abbrev qV : Type := Int ⊕ (Int ⊕ Int)
abbrev qi (z : Int) : qV := Sum.inl z
abbrev qa (z : Int) : qV := Sum.inr (Sum.inl z)
abbrev ql (z : Int) : qV := Sum.inr (Sum.inr z)
def q_opt (z : Int) : Option Nat := if z = 0 then none else some z.toNat
def qconc : qV → Value
  | .inl z => .int (Int32.ofInt z)
  | .inr (.inl z) => va_rf (q_opt z)
  | .inr (.inr z) => .long (Int64.ofInt z)
abbrev q_r32 (z : Int) : Prop := -2147483648 ≤ z ∧ z ≤ 2147483647
abbrev q_r64 (z : Int) : Prop := -9223372036854775808 ≤ z ∧ z ≤ 9223372036854775807
def qok : qV → Prop
  | .inl z => q_r32 z
  | .inr (.inl _) => True
  | .inr (.inr z) => q_r64 z
def q_is2 : qV → Bool
  | .inl _ => false
  | .inr (.inl _) => false
  | .inr (.inr _) => true
abbrev qH : Type := Int → Int → Int
/-- base, classes' numbers and slots, array classes, shapes (kind, length) -/
abbrev qG : Type := Nat × va_G × (ClassId × ClassId × ClassId) × (Int → Nat × Int)
abbrev q_tys (G : qG) : List (ClassId × FieldType) := [(G.2.2.1.1, .int), (G.2.2.1.2.1, .boolean), (G.2.2.1.2.2, .object RX4)]
def q_nf (t : Nat) : Nat := ((vwCl[t]?).map (fun q => q.2.2)).getD 0
def q_fv (ty : FieldType) (x y : Int) : Value := if ty.isReference = true then va_rf (q_opt x) else .int (Int32.ofInt y)
def q_fs (t : Nat) (r h : Int → Int) : List Value := (List.range (q_nf t)).map (fun k => q_fv (q_ty t k) (r (k : Int)) (h (k : Int)))
def q_enc (G : qG) (r h : qH) (a : Nat) : va_E :=
  if (G.2.2.2 (a : Int)).1 = 10 then .inl (G.2.2.1.1, (G.2.2.2 (a : Int)).2.toNat, .inl (fun j => Int32.ofInt (h (a : Int) (j : Int))))
  else if (G.2.2.2 (a : Int)).1 = 11 then .inl (G.2.2.1.2.1, (G.2.2.2 (a : Int)).2.toNat, .inl (fun j => Int32.ofInt (h (a : Int) (j : Int))))
  else if (G.2.2.2 (a : Int)).1 = 12 then .inl (G.2.2.1.2.2, (G.2.2.2 (a : Int)).2.toNat, .inr (.inr (.inr (.inr (fun j => q_opt (r (a : Int) (j : Int)))))))
  else .inr ((G.2.2.2 (a : Int)).1, q_fs (G.2.2.2 (a : Int)).1 (r (a : Int)) (h (a : Int)))
def q_L (G : qG) (n : Int) : List Nat := (List.range (n.toNat - G.1)).map (fun i => G.1 + i)
/-- the heap holds the numbers -/
def q_Wh (G : qG) (n : Int) (r h : qH) (H : Heap) : Prop := 0 < G.1 ∧ (G.1 : Int) ≤ n ∧ n ≤ (H.size : Int) ∧ (∀ p k, q_r32 (h p k)) ∧ va_P G.2.1 vwCl (va_pl (q_L G n) (q_enc G r h)) H
/-- what is known of the classes -/
def q_En (G : qG) (U : State) : Prop := va_K G.2.1 vwCl (q_tys G) U ∧ (∀ w ∈ q_nest, va_Nw w U) ∧ va_AO RX4 U
abbrev qA (G : qG) : Nat → Prop := fun q => G.1 ≤ q
/-- an address that is used: its kind and length -/
def q_al (G : qG) (n p : Int) (t : Nat) (len : Int) : Prop := (G.1 : Int) ≤ p ∧ p < n ∧ G.2.2.2 p = (t, len) ∧ 0 ≤ len
def hset (h : qH) (p k v : Int) : qH := fun a b => if a = p ∧ b = k then v else h a b
def hcpy (h : qH) (q sp p dp m : Int) : qH := fun a b => if a = p ∧ dp ≤ b ∧ b < dp + m then h q (sp + (b - dp)) else h a b
theorem hset_same (h : qH) (p k v : Int) : hset h p k v p k = v := by simp [hset]
theorem hset_ne (h : qH) {p k a b : Int} (v : Int) (hn : a ≠ p ∨ b ≠ k) : hset h p k v a b = h a b := by
  unfold hset; rw [if_neg]; omega
theorem hset_nea (h : qH) {p k a : Int} (v b : Int) (hn : a ≠ p) : hset h p k v a b = h a b := hset_ne h v (Or.inl hn)
theorem hset_neb (h : qH) {p k b : Int} (v a : Int) (hn : b ≠ k) : hset h p k v a b = h a b := hset_ne h v (Or.inr hn)
theorem hset_ap (h : qH) (p k v a b : Int) : hset h p k v a b = if a = p ∧ b = k then v else h a b := rfl
theorem hcpy_ap (h : qH) (q sp p dp m a b : Int) : hcpy h q sp p dp m a b = if a = p ∧ dp ≤ b ∧ b < dp + m then h q (sp + (b - dp)) else h a b := rfl
theorem q_i32 {z : Int} (h : q_r32 z) : (Int32.ofInt z).toInt = z := Int32.toInt_ofInt_of_le h.1 (by have := h.2; omega)
theorem q_i64 {z : Int} (h : q_r64 z) : (Int64.ofInt z).toInt = z := Int64.toInt_ofInt_of_le h.1 (by have := h.2; omega)
theorem q_eq32 {x y : Int} (hx : q_r32 x) (hy : q_r32 y) : Int32.ofInt x = Int32.ofInt y ↔ x = y := ⟨fun e => by rw [← q_i32 hx, e, q_i32 hy], fun e => by rw [e]⟩
theorem q_lt32 {x y : Int} (hx : q_r32 x) (hy : q_r32 y) : Int32.ofInt x < Int32.ofInt y ↔ x < y := by rw [Int32.lt_iff_toInt_lt, q_i32 hx, q_i32 hy]
theorem q_le32 {x y : Int} (hx : q_r32 x) (hy : q_r32 y) : Int32.ofInt x ≤ Int32.ofInt y ↔ x ≤ y := by rw [Int32.le_iff_toInt_le, q_i32 hx, q_i32 hy]
theorem q_0 : (0 : Int32) = Int32.ofInt 0 := by decide
theorem q_rz : q_r32 0 := by decide
theorem q_toI (x : Int32) : Int32.ofInt x.toInt = x := Int32.ofInt_toInt x
theorem q_rI (x : Int32) : q_r32 x.toInt := ⟨Int32.le_toInt x, by have := Int32.toInt_lt x; omega⟩
theorem q_clamp {z : Int} (h : q_r32 z) : (Int32.ofInt z).toNatClampNeg = z.toNat := by
  unfold Int32.toNatClampNeg; rw [q_i32 h]
theorem q_cat (v : qV) : (qconc v).category = if q_is2 v = true then 2 else 1 := by
  rcases v with z | z | z
  · rfl
  · show (va_rf (q_opt z)).category = 1
    unfold q_opt va_rf; split <;> rfl
  · rfl
theorem q_cat1 {v : qV} (h : q_is2 v = false) : (qconc v).category = 1 := by rw [q_cat, h]; rfl
theorem q_pos {G : qG} {n p : Int} {t : Nat} {len : Int} {r h : qH} {H : Heap} (hW : q_Wh G n r h H) (ha : q_al G n p t len) : 0 < p := by
  have h1 := hW.1; have h2 := ha.1; omega
theorem q_conc_a {p : Int} (h : 0 < p) : qconc (qa p) = .ref p.toNat := by
  show va_rf (q_opt p) = _
  unfold q_opt; rw [if_neg (by omega)]; rfl
theorem q_conc_n : qconc (qa 0) = .null := rfl
theorem q_mem_L {G : qG} {n : Int} {a : Nat} : a ∈ q_L G n ↔ G.1 ≤ a ∧ a < n.toNat := by
  unfold q_L
  rw [List.mem_map]
  constructor
  · rintro ⟨i, hi, rfl⟩
    have := List.mem_range.mp hi
    omega
  · rintro ⟨h1, h2⟩
    exact ⟨a - G.1, List.mem_range.mpr (by omega), by omega⟩
theorem q_in_L {G : qG} {n p : Int} {t : Nat} {len : Int} (ha : q_al G n p t len) : p.toNat ∈ q_L G n := by
  have h1 := ha.1; have h2 := ha.2.1
  exact q_mem_L.mpr ⟨by omega, by omega⟩
theorem q_cast {G : qG} {n p : Int} {t : Nat} {len : Int} (ha : q_al G n p t len) : ((p.toNat : Nat) : Int) = p := by
  have h1 := ha.1; omega
theorem q_L_at {G : qG} {n : Int} {i : Nat} {q : Nat × va_E} {f : Nat → va_E} (h : (va_pl (q_L G n) f)[i]? = some q) : q.1 = G.1 + i ∧ i < n.toNat - G.1 := by
  unfold va_pl q_L at h
  rw [List.getElem?_map, List.getElem?_map] at h
  rw [Option.map_eq_some_iff] at h
  obtain ⟨a, h1, h2⟩ := h
  rw [Option.map_eq_some_iff] at h1
  obtain ⟨b, h3, h4⟩ := h1
  have h5 := List.getElem?_eq_some_iff.mp h3
  obtain ⟨h6, h7⟩ := h5
  rw [List.getElem_range] at h7
  subst h2; subst h4; subst h7
  exact ⟨rfl, by simpa using h6⟩
theorem q_pl_D (G : qG) (n : Int) (f : Nat → va_E) : va_D (qA G) (va_pl (q_L G n) f) := by
  refine ⟨fun i j p q hi hj he => ?_, fun k q hq => ?_⟩
  · have h1 := (q_L_at hi).1; have h2 := (q_L_at hj).1; omega
  · have h1 := (q_L_at hq).1
    show G.1 ≤ q.1
    omega
theorem q_cls {t : Nat} {R : String} {T : u_T} {N : Nat} (h : vwCl[t]? = some (R, T, N)) : (∀ w ∈ u_ws R T N, w ∈ q_tbl) ∧ (∀ k, k < N → parseFieldDescriptor (T k).2.2.1 = some (q_ty t k)) ∧ (∀ a, a < N → ∀ b, b < N → a ≠ b → (T a).2.1 ≠ (T b).2.1) ∧ q_nf t = N := by
  match t, h with
  | 0, h => cases h; exact ⟨q_inX0, tyX0_ok, nmX0, rfl⟩
  | 1, h => cases h; exact ⟨q_inX1, tyX1_ok, nmX1, rfl⟩
  | 2, h => cases h; exact ⟨q_inX2, tyX2_ok, nmX2, rfl⟩
  | 3, h => cases h; exact ⟨q_inX3, tyX3_ok, nmX3, rfl⟩
  | 4, h => cases h; exact ⟨q_inX4, tyX4_ok, nmX4, rfl⟩
  | 5, h => cases h; exact ⟨q_inX5, tyX5_ok, nmX5, rfl⟩
  | 6, h => cases h; exact ⟨q_inX6, tyX6_ok, nmX6, rfl⟩
  | 7, h => cases h; exact ⟨q_inX7, tyX7_ok, nmX7, rfl⟩
  | 8, h => cases h; exact ⟨q_inX8, tyX8_ok, nmX8, rfl⟩
  | 9, h => cases h; exact ⟨q_inX9, tyX9_ok, nmX9, rfl⟩
  | k + 10, h => simp [vwCl] at h
/-- the cells of an address, by its kind -/
theorem q_enc_o {G : qG} {n p : Int} {t : Nat} {len : Int} {r h : qH} (ha : q_al G n p t len) (ht : t < 10) : q_enc G r h p.toNat = .inr (t, q_fs t (r p) (h p)) := by
  have hs := ha.2.2.1
  unfold q_enc
  rw [q_cast ha, hs]
  simp only
  rw [if_neg (by omega), if_neg (by omega), if_neg (by omega)]
theorem q_enc_i {G : qG} {n p : Int} {len : Int} {r h : qH} (ha : q_al G n p 10 len) : q_enc G r h p.toNat = .inl (G.2.2.1.1, len.toNat, .inl (fun j => Int32.ofInt (h p (j : Int)))) := by
  have hs := ha.2.2.1
  unfold q_enc
  rw [q_cast ha, hs]
  simp
theorem q_enc_z {G : qG} {n p : Int} {len : Int} {r h : qH} (ha : q_al G n p 11 len) : q_enc G r h p.toNat = .inl (G.2.2.1.2.1, len.toNat, .inl (fun j => Int32.ofInt (h p (j : Int)))) := by
  have hs := ha.2.2.1
  unfold q_enc
  rw [q_cast ha, hs]
  simp
theorem q_enc_q {G : qG} {n p : Int} {len : Int} {r h : qH} (ha : q_al G n p 12 len) : q_enc G r h p.toNat = .inl (G.2.2.1.2.2, len.toNat, .inr (.inr (.inr (.inr (fun j => q_opt (r p (j : Int))))))) := by
  have hs := ha.2.2.1
  unfold q_enc
  rw [q_cast ha, hs]
  simp
theorem q_fs_at {t k N : Nat} {R : String} {T : u_T} {r h : Int → Int} (hc : vwCl[t]? = some (R, T, N)) (hk : k < N) : (q_fs t r h)[k]? = some (q_fv (q_ty t k) (r (k : Int)) (h (k : Int))) := by
  unfold q_fs
  rw [(q_cls hc).2.2.2, List.getElem?_map, List.getElem?_range hk]
  rfl
theorem q_fs_len {t N : Nat} {R : String} {T : u_T} {r h : Int → Int} (hc : vwCl[t]? = some (R, T, N)) : (q_fs t r h).length = N := by
  unfold q_fs
  rw [(q_cls hc).2.2.2]; simp
theorem q_fs_set {t k N : Nat} {R : String} {T : u_T} {r h r' h' : Int → Int} (hc : vwCl[t]? = some (R, T, N)) (hk : k < N) (hr : ∀ j : Nat, j < N → j ≠ k → r' (j : Int) = r (j : Int) ∧ h' (j : Int) = h (j : Int)) :
    (q_fs t r h).set k (q_fv (q_ty t k) (r' (k : Int)) (h' (k : Int))) = q_fs t r' h' := by
  apply List.ext_getElem?
  intro j
  by_cases hj : j = k
  · subst hj
    rw [List.getElem?_set_self (by rw [q_fs_len hc]; exact hk), q_fs_at hc hk]
  · rw [List.getElem?_set_ne (Ne.symm hj)]
    by_cases hjN : j < N
    · rw [q_fs_at hc hjN, q_fs_at hc hjN, (hr j hjN hj).1, (hr j hjN hj).2]
    · have h1 := q_fs_len (r := r) (h := h) hc
      have h2 := q_fs_len (r := r') (h := h') hc
      rw [List.getElem?_eq_none (by omega), List.getElem?_eq_none (by omega)]
/-- a world changed at one address -/
theorem q_enc_up {G : qG} {n : Int} {r h r' h' : qH} {e : va_E} {a : Nat} (he : q_enc G r' h' a = e) (ho : ∀ b : Nat, b ≠ a → r' (b : Int) = r (b : Int) ∧ h' (b : Int) = h (b : Int)) : va_pl (q_L G n) (va_up (q_enc G r h) a e) = va_pl (q_L G n) (q_enc G r' h') := by
  apply va_pl_congr
  intro b
  by_cases hb : b = a
  · subst hb; rw [va_up_self, he]
  · rw [va_up_ne _ _ hb]
    obtain ⟨h1, h2⟩ := ho b hb
    unfold q_enc
    rw [h1, h2]
theorem q_hset_row {h : qH} {p k v : Int} {b : Nat} (hb : ((b : Nat) : Int) ≠ p) : hset h p k v (b : Int) = h (b : Int) := by
  funext j
  exact hset_nea h v j hb
theorem q_rg {h : qH} {p k v : Int} (hr : ∀ a b, q_r32 (h a b)) (hv : q_r32 v) : ∀ a b, q_r32 (hset h p k v a b) := by
  intro a b
  unfold hset
  split
  · exact hv
  · exact hr a b
end
section
/-! The judgement: from here, whatever the machine's heap and locals be that hold these numbers, the method comes to its end as P says. -/
abbrev qX : Type := Program × Launch × Env × Room × State × MethodId × Array Value × List Frame × Method × Code × (Nat × Nat)
abbrev xp (X : qX) : Program := X.1
abbrev xl (X : qX) : Launch := X.2.1
abbrev xe (X : qX) : Env := X.2.2.1
abbrev xR (X : qX) : Room := X.2.2.2.1
abbrev xs (X : qX) : State := X.2.2.2.2.1
abbrev xm (X : qX) : MethodId := X.2.2.2.2.2.1
abbrev xa (X : qX) : Array Value := X.2.2.2.2.2.2.1
abbrev xb (X : qX) : List Frame := X.2.2.2.2.2.2.2.1
abbrev xme (X : qX) : Method := X.2.2.2.2.2.2.2.2.1
abbrev xc (X : qX) : Code := X.2.2.2.2.2.2.2.2.2.1
abbrev xmc (X : qX) : Nat × Nat := X.2.2.2.2.2.2.2.2.2.2
abbrev qP : Type := Option qV → qH → qH → Prop
def q_Qc (G : qG) (P : qP) (n : Int) : Array Value → State → Outcome → State → Prop := fun _ st oc t =>
  (∃ (v : Option qV) (r h : qH), oc = .returned (v.map qconc) ∧ (∀ w, v = some w → qok w) ∧ P v r h ∧ q_Wh G n r h t.heap) ∧ va_F (qA G) st t
abbrev q_lc (q : Nat × qV) : Nat × Value := (q.1, qconc q.2)
def Aj (G : qG) (X : qX) (P : qP) (cc : ByteArray) (nL : Nat) (cs : Nat × Nat) (n : Int) (r h : qH) (pc : Nat) (al : List (Nat × qV)) (st : List qV) : Prop :=
  ∀ (H : Heap) (locs : List Loc) (ls : Array Slot), q_Wh G n r h H → ((xs X).heap.size : Int) + cs.1 = n → va_S (qA G) (xs X).heap H locs → (∀ q ∈ al, qok q.2) → (∀ v ∈ st, qok v) → lv_has ls nL (al.map q_lc) →
    W (xp X) (xl X) (xe X) (xR X) (xs X) (xm X) (xa X) (xb X) (xme X) (xc X) H locs cs.1 cs.2 (MQ (xb X) (q_Qc G P (((xs X).heap.size : Int) + (xmc X).1)) (xa X) (xs X) (xmc X).1 (xmc X).2 (qA G)) (F0 (xm X) pc ls (st.map qconc))
/-- what stays the same while a method runs -/
def q_C (G : qG) (X : qX) (cc : ByteArray) (nL : Nat) (own : String) (ret : Option FieldType) (rm : Room) : Prop :=
  (xp X).tables.exec = Jvm.exec ∧ (xc X).code = cc ∧ (xc X).maxLocals = nL ∧ (xs X).vm.findClass own = some (xm X).cls ∧ (∀ w ∈ q_tbl, w.before (xa X) (xs X) = true) ∧ (xme X).sig.returnType = ret ∧ (xme X).locks = false ∧ xR X = rm ∧ q_En G (xs X)
abbrev q_rm (fr lo mc ms : Nat) : Room := { frames := fr, cells := mc, slots := ms, locals := lo }
/-- a method's contract -/
def q_Cm (l : Launch) (G : qG) (y : MethodName) (cc : ByteArray) (mL : Nat) (ret : Option FieldType) (fr lo : Nat) (as : List qV) (n : Int) (r h : qH) (P : qP) (mc ms : Nat) : Prop :=
  (∀ a ∈ as, qok a) → Met l y (Cond.code y cc mL ret :: q_tbl) (q_rm fr lo mc ms) (va_Pc (as.map qconc) (fun U => q_En G U ∧ q_Wh G n r h U.heap ∧ (U.heap.size : Int) = n)) (q_Qc G P (n + mc)) mc ms (qA G)
def q_Pi (r : qH) (P : Int → qH → Prop) : qP := fun v r' h' => ∃ z, v = some (qi z) ∧ r' = r ∧ P z h'
def q_Pq (r : qH) (P : Int → qH → Prop) : qP := fun v r' h' => ∃ z, v = some (qa z) ∧ r' = r ∧ P z h'
def q_Pv (r : qH) (P : qH → Prop) : qP := fun v r' h' => v = none ∧ r' = r ∧ P h'
def q_Pn (P : qH → qH → Prop) : qP := fun v r' h' => v = none ∧ P r' h'
def q_args : Nat → List qV → List (Nat × qV)
  | _, [] => []
  | i, v :: vs => (i, v) :: q_args (if q_is2 v = true then i + 2 else i + 1) vs
def q_words : List qV → Nat
  | [] => 0
  | v :: vs => (if q_is2 v = true then 2 else 1) + q_words vs
theorem q_args_eq (as : List qV) : ∀ i, lv_args i (as.map qconc) = (q_args i as).map q_lc := by
  induction as with
  | nil => intro i; rfl
  | cons a as ih =>
    intro i
    show (i, qconc a) :: lv_args (if (qconc a).category = 2 then i + 2 else i + 1) (as.map qconc) = (i, qconc a) :: (q_args (if q_is2 a = true then i + 2 else i + 1) as).map q_lc
    rw [ih, q_cat]
    cases q_is2 a <;> rfl
theorem q_words_eq (as : List qV) : (lg_sl (as.map qconc)).length = q_words as := by
  induction as with
  | nil => rfl
  | cons a as ih =>
    show ((if (qconc a).category = 2 then [Slot.val (qconc a), Slot.second] else [Slot.val (qconc a)]) ++ lg_sl (as.map qconc)).length = (if q_is2 a = true then 2 else 1) + q_words as
    rw [List.length_append, ih, q_cat]
    cases q_is2 a <;> rfl
theorem q_args_mem {as : List qV} : ∀ {i : Nat} {q : Nat × qV}, q ∈ q_args i as → q.2 ∈ as := by
  induction as with
  | nil => intro i q h; cases h
  | cons a as ih =>
    intro i q h
    rcases List.mem_cons.mp h with rfl | h
    · exact List.mem_cons_self
    · exact List.mem_cons_of_mem _ (ih h)
theorem q_En.same {G : qG} {u U : State} (h : u.vm = U.vm) (e : q_En G u) : q_En G U :=
  ⟨va_K.moved (h ▸ Vm.Alike.refl _) e.1, fun w hw => by
    have h1 := e.2.1 w hw
    have h2 : w.onTables = true := by
      have h3 : ∀ w ∈ q_nest, w.onTables = true := by decide
      exact h3 w hw
    exact va_Nw.same h2 h h1, va_AO.moved (h ▸ Vm.Alike.refl _) e.2.2⟩
theorem q_En.warm {G : qG} {s U : State} (hW : s.WarmedH U.vm) (e : q_En G s) : q_En G U :=
  ⟨va_K.moved hW.alike e.1, fun w hw => by
    have h1 := e.2.1 w hw
    have h3 : ∀ w ∈ q_nest, ∃ a i x h, w = .methodLinkNest a i x h := by
      intro w hw
      simp only [q_nest, List.mem_cons, List.not_mem_nil, or_false] at hw
      rcases hw with rfl | rfl | rfl | rfl | rfl | rfl <;> exact ⟨_, _, _, _, rfl⟩
    obtain ⟨a, i, x, hh, rfl⟩ := h3 w hw
    exact va_Nw.warmM hW h1, va_AO.moved hW.alike e.2.2⟩
theorem q_blind (G : qG) (vs : List Value) (n : Int) (r h : qH) : FrameBlind (va_Pc vs (fun U => q_En G U ∧ q_Wh G n r h U.heap ∧ (U.heap.size : Int) = n)) := fun a U g mk q => by
  obtain ⟨q1, q2, q3⟩ := q
  exact ⟨q1, q_En.same (u := U) (U := U.calling g mk a) rfl q2, q3⟩
/-- a method is proved from its first instruction on -/
theorem q_enter {l : Launch} {G : qG} {y : MethodName} {cc : ByteArray} {mL np : Nat} {ret : Option FieldType} {fr lo : Nat} {as : List qV} {n : Int} {r h : qH} {P : qP} {mc ms : Nat} {al : List (Nat × qV)} (hm : q_M y cc mL ret np) (hal : q_args 0 as = al) (hw : q_words as ≤ mL)
    (body : (∀ a ∈ as, qok a) → ∀ X, q_C G X cc mL y.cls ret (q_rm fr lo mc ms) → xmc X = (mc, ms) → xl X = l → (y.name = "<init>" → (xme X).name = "<init>") → Aj G X P cc mL (0, 0) n r h 0 al []) : q_Cm l G y cc mL ret fr lo as n r h P mc ms := by
  intro hok
  refine Met.ofW (cc := cc) (maxL := mL) (ret := ret) hm.2.2.2.2.1 rfl ?_
  intro p e s m args below meth c s₁ B hml hv
  obtain ⟨hargs, hE, hH, hZ⟩ := hv
  have hts := atoms_spec (ws := Cond.code y cc mL ret :: q_tbl) B.pre
  have hown := findClass_of_methodNamed B.named
  have k := body hok (p, l, e, q_rm fr lo mc ms, s, m, args, below, meth, c, (mc, ms)) ⟨B.exec, B.bytes, hml, hown, fun w h => hts w (List.mem_cons_of_mem _ h), B.returns, B.notSynchronized, rfl, hE⟩ rfl rfl (fun h1 => (name_of_methodNamed B.named B.method).1.trans h1)
  subst hargs
  have hl := lv_entry (as.map qconc) (n := mL) (by rw [q_words_eq]; exact hw)
  rw [q_args_eq, hal] at hl
  rw [lg_entry_eq]
  have hQ : n + mc = (s.heap.size : Int) + mc := by rw [hZ]
  rw [hQ]
  exact k s.heap [] _ hH (by show (s.heap.size : Int) + ((0 : Nat) : Int) = n; rw [hZ]; omega) va_S.rf (fun q hq => by
    rw [← hal] at hq
    exact hok _ (q_args_mem hq)) (fun v hv => by cases hv) hl
end
section
section
variable {G : qG} {X : qX} {P : qP} {cc : ByteArray} {nL : Nat} {own : String} {ret : Option FieldType} {rm : Room} {cs : Nat × Nat} {n : Int} {r h : qH} {pc : Nat} {al al2 : List (Nat × qV)} {st : List qV}
theorem q_ok1 {v : qV} {st : List qV} (hs : ∀ v ∈ st, qok v) (hv : qok v) : ∀ w ∈ v :: st, qok w := fun w hw => (List.mem_cons.mp hw).elim (fun e => e ▸ hv) (hs w)
theorem q_tl {v : qV} {st : List qV} (hs : ∀ w ∈ v :: st, qok w) : ∀ w ∈ st, qok w := fun w hw => hs w (List.mem_cons_of_mem _ hw)
theorem q_hd {v : qV} {st : List qV} (hs : ∀ w ∈ v :: st, qok w) : qok v := hs v List.mem_cons_self
theorem q_lat {ls : Array Slot} {nL : Nat} {al : List (Nat × qV)} (hl : lv_has ls nL (al.map q_lc)) (j : Nat) {i : Nat} {v : qV} (hj : al[j]? = some (i, v)) : ls[i]? = some (.val (qconc v)) := lv_at hl j (by rw [List.getElem?_map, hj]; rfl)
theorem q_aok {al : List (Nat × qV)} (ha : ∀ q ∈ al, qok q.2) {j i : Nat} {v : qV} (hj : al[j]? = some (i, v)) : qok v := ha _ (List.mem_of_getElem? hj)
def q_drop1 (i : Nat) (al : List (Nat × qV)) : List (Nat × qV) := al.filter (fun q => !(q.1 == i) && !(q.1 + 1 == i && q_is2 q.2))
def q_drop2 (i : Nat) (al : List (Nat × qV)) : List (Nat × qV) := al.filter (fun q => !(q.1 == i) && (!(q.1 == i + 1) && !(q.1 + 1 == i && q_is2 q.2)))
theorem q_catb (v : qV) : ((qconc v).category == 2) = q_is2 v := by rw [q_cat]; cases q_is2 v <;> rfl
theorem q_drop1_eq (i : Nat) (al : List (Nat × qV)) : (al.map q_lc).filter (fun q => !(q.1 == i) && !(q.1 + 1 == i && q.2.category == 2)) = (q_drop1 i al).map q_lc := by
  unfold q_drop1
  rw [List.filter_map]
  congr 1
  apply List.filter_congr
  intro q _
  show (!(q.1 == i) && !(q.1 + 1 == i && (qconc q.2).category == 2)) = _
  rw [q_catb]
theorem q_drop2_eq (i : Nat) (al : List (Nat × qV)) : (al.map q_lc).filter (fun q => !(q.1 == i) && (!(q.1 == i + 1) && !(q.1 + 1 == i && q.2.category == 2))) = (q_drop2 i al).map q_lc := by
  unfold q_drop2
  rw [List.filter_map]
  congr 1
  apply List.filter_congr
  intro q _
  show (!(q.1 == i) && (!(q.1 == i + 1) && !(q.1 + 1 == i && (qconc q.2).category == 2))) = _
  rw [q_catb]
theorem q_aset1 {al al2 : List (Nat × qV)} {i : Nat} {v : qV} (ha : ∀ q ∈ al, qok q.2) (hv : qok v) (h2 : (i, v) :: q_drop1 i al = al2) : ∀ q ∈ al2, qok q.2 := by
  subst h2
  intro q hq
  rcases List.mem_cons.mp hq with rfl | hq
  · exact hv
  · exact ha q (List.mem_filter.mp hq).1
theorem q_aset2 {al al2 : List (Nat × qV)} {i : Nat} {v : qV} (ha : ∀ q ∈ al, qok q.2) (hv : qok v) (h2 : (i, v) :: q_drop2 i al = al2) : ∀ q ∈ al2, qok q.2 := by
  subst h2
  intro q hq
  rcases List.mem_cons.mp hq with rfl | hq
  · exact hv
  · exact ha q (List.mem_filter.mp hq).1
theorem q_lset {al al2 : List (Nat × qV)} {i : Nat} {v : qV} (h2 : (i, v) :: q_drop1 i al = al2) : (i, qconc v) :: (al.map q_lc).filter (fun q => !(q.1 == i) && !(q.1 + 1 == i && q.2.category == 2)) = al2.map q_lc := by
  subst h2; rw [q_drop1_eq]; rfl
theorem q_lset2 {al al2 : List (Nat × qV)} {i : Nat} {v : qV} (h2 : (i, v) :: q_drop2 i al = al2) : (i, qconc v) :: (al.map q_lc).filter (fun q => !(q.1 == i) && (!(q.1 == i + 1) && !(q.1 + 1 == i && q.2.category == 2))) = al2.map q_lc := by
  subst h2; rw [q_drop2_eq]; rfl

theorem Aj.pick (ks : List Nat) (hk : ks.filterMap (fun k => al[k]?) = al2) (k : Aj G X P cc nL cs n r h pc al2 st) : Aj G X P cc nL cs n r h pc al st := by
  intro H locs ls hW hN hS ha hs hl
  refine k H locs ls hW hN hS (fun q hq => ?_) hs ?_
  · rw [← hk] at hq
    obtain ⟨i, -, hi⟩ := List.mem_filterMap.mp hq
    exact ha q (List.mem_of_getElem? hi)
  · refine lv_sub hl ks ?_
    subst hk
    unfold lv_pick
    rw [List.map_filterMap]
    congr 1
    funext i
    rw [List.getElem?_map]

theorem Aj.rg (k : (∀ a b, q_r32 (h a b)) → Aj G X P cc nL cs n r h pc al st) : Aj G X P cc nL cs n r h pc al st := by
  intro H locs ls hW hN hS ha hs hl
  exact k hW.2.2.2.1 H locs ls hW hN hS ha hs hl
theorem Aj.nn (k : 0 < n → Aj G X P cc nL cs n r h pc al st) : Aj G X P cc nL cs n r h pc al st := by
  intro H locs ls hW hN hS ha hs hl
  exact k (by have h1 := hW.1; have h2 := hW.2.1; omega) H locs ls hW hN hS ha hs hl
theorem Aj.lok (k : (∀ q ∈ al, qok q.2) → Aj G X P cc nL cs n r h pc al st) : Aj G X P cc nL cs n r h pc al st := by
  intro H locs ls hW hN hS ha hs hl
  exact k ha H locs ls hW hN hS ha hs hl

theorem Aj.iconst (C : q_C G X cc nL own ret rm) {z : Int} (d : decode cc pc = .ok (.iconst z, 1)) (hz : q_r32 z) (k : Aj G X P cc nL cs n r h (pc + 1) al (qi z :: st)) : Aj G X P cc nL cs n r h pc al st := by
  intro H locs ls hW hN hS ha hs hl
  exact lv_iconst C.1 C.2.1 d rfl (k H locs ls hW hN hS ha (q_ok1 hs hz) hl)

theorem Aj.bipush (C : q_C G X cc nL own ret rm) {z : Int} (d : decode cc pc = .ok (.bipush z, 2)) (hv : (Int8.ofInt z).toInt32 = Int32.ofInt z) (hz : q_r32 z) (k : Aj G X P cc nL cs n r h (pc + 2) al (qi z :: st)) : Aj G X P cc nL cs n r h pc al st := by
  intro H locs ls hW hN hS ha hs hl
  exact lv_bipush C.1 C.2.1 d hv (k H locs ls hW hN hS ha (q_ok1 hs hz) hl)

theorem Aj.sipush (C : q_C G X cc nL own ret rm) {z : Int} (d : decode cc pc = .ok (.sipush z, 3)) (hv : (Int16.ofInt z).toInt32 = Int32.ofInt z) (hz : q_r32 z) (k : Aj G X P cc nL cs n r h (pc + 3) al (qi z :: st)) : Aj G X P cc nL cs n r h pc al st := by
  intro H locs ls hW hN hS ha hs hl
  exact lv_sipush C.1 C.2.1 d hv (k H locs ls hW hN hS ha (q_ok1 hs hz) hl)

theorem Aj.lconst (C : q_C G X cc nL own ret rm) {z : Fin 2} {w : Int} (d : decode cc pc = .ok (.lconst z, 1)) (hv : Int64.ofNat (z : Nat) = Int64.ofInt w) (hz : q_r64 w) (k : Aj G X P cc nL cs n r h (pc + 1) al (ql w :: st)) : Aj G X P cc nL cs n r h pc al st := by
  intro H locs ls hW hN hS ha hs hl
  exact lv_lconst C.1 C.2.1 d hv (k H locs ls hW hN hS ha (q_ok1 hs hz) hl)

theorem Aj.ldc2 (C : q_C G X cc nL own ret rm) {idx : Nat} {v : Int64} {w : Int} (hw : Cond.constantLong own idx v ∈ q_tbl) (d : decode cc pc = .ok (.ldc2_w idx, 3)) (hv : v = Int64.ofInt w) (hz : q_r64 w) (k : Aj G X P cc nL cs n r h (pc + 3) al (ql w :: st)) : Aj G X P cc nL cs n r h pc al st := by
  intro H locs ls hW hN hS ha hs hl
  subst hv
  exact lv_ldc2 C.1 C.2.1 C.2.2.2.1 (C.2.2.2.2.1 _ hw) d (k H locs ls hW hN hS ha (q_ok1 hs hz) hl)

theorem Aj.anull (C : q_C G X cc nL own ret rm) (d : decode cc pc = .ok (.aconst_null, 1)) (k : Aj G X P cc nL cs n r h (pc + 1) al (qa 0 :: st)) : Aj G X P cc nL cs n r h pc al st := by
  intro H locs ls hW hN hS ha hs hl
  exact lv_null C.1 C.2.1 d (k H locs ls hW hN hS ha (q_ok1 hs (v := qa 0) trivial) hl)

theorem Aj.iload_n (C : q_C G X cc nL own ret rm) (j : Nat) {f : Fin 4} {z : Int} (d : decode cc pc = .ok (.iload_n f, 1)) (hj : al[j]? = some ((f : Nat), qi z)) (k : Aj G X P cc nL cs n r h (pc + 1) al (qi z :: st)) : Aj G X P cc nL cs n r h pc al st := by
  intro H locs ls hW hN hS ha hs hl
  exact lv_iload_n C.1 C.2.1 d rfl (q_lat hl j hj) (k H locs ls hW hN hS ha (q_ok1 hs (q_aok ha hj)) hl)

theorem Aj.iload (C : q_C G X cc nL own ret rm) (j : Nat) {f : Nat} {z : Int} (d : decode cc pc = .ok (.iload f, 2)) (hj : al[j]? = some (f, qi z)) (k : Aj G X P cc nL cs n r h (pc + 2) al (qi z :: st)) : Aj G X P cc nL cs n r h pc al st := by
  intro H locs ls hW hN hS ha hs hl
  exact lv_iload C.1 C.2.1 d (q_lat hl j hj) (k H locs ls hW hN hS ha (q_ok1 hs (q_aok ha hj)) hl)

theorem Aj.lload_n (C : q_C G X cc nL own ret rm) (j : Nat) {f : Fin 4} {z : Int} (d : decode cc pc = .ok (.lload_n f, 1)) (hj : al[j]? = some ((f : Nat), ql z)) (k : Aj G X P cc nL cs n r h (pc + 1) al (ql z :: st)) : Aj G X P cc nL cs n r h pc al st := by
  intro H locs ls hW hN hS ha hs hl
  exact lv_lload_n C.1 C.2.1 d rfl (q_lat hl j hj) (k H locs ls hW hN hS ha (q_ok1 hs (q_aok ha hj)) hl)

theorem Aj.lload (C : q_C G X cc nL own ret rm) (j : Nat) {f : Nat} {z : Int} (d : decode cc pc = .ok (.lload f, 2)) (hj : al[j]? = some (f, ql z)) (k : Aj G X P cc nL cs n r h (pc + 2) al (ql z :: st)) : Aj G X P cc nL cs n r h pc al st := by
  intro H locs ls hW hN hS ha hs hl
  exact lv_lload C.1 C.2.1 d (q_lat hl j hj) (k H locs ls hW hN hS ha (q_ok1 hs (q_aok ha hj)) hl)

theorem Aj.aload_n (C : q_C G X cc nL own ret rm) (j : Nat) {f : Fin 4} {z : Int} (d : decode cc pc = .ok (.aload_n f, 1)) (hj : al[j]? = some ((f : Nat), qa z)) (k : Aj G X P cc nL cs n r h (pc + 1) al (qa z :: st)) : Aj G X P cc nL cs n r h pc al st := by
  intro H locs ls hW hN hS ha hs hl
  have h1 := q_lat hl j hj
  have k1 := k H locs ls hW hN hS ha (q_ok1 hs (q_aok ha hj)) hl
  simp only [List.map_cons, qconc] at k1
  simp only [qconc] at h1
  unfold va_rf at h1 k1
  split at h1
  · rename_i e
    rw [e] at k1
    exact lv_aload_nN C.1 C.2.1 d rfl h1 k1
  · rename_i e
    rw [e] at k1
    exact lv_aload_n C.1 C.2.1 d rfl h1 k1

theorem Aj.aload (C : q_C G X cc nL own ret rm) (j : Nat) {f : Nat} {z : Int} (d : decode cc pc = .ok (.aload f, 2)) (hj : al[j]? = some (f, qa z)) (k : Aj G X P cc nL cs n r h (pc + 2) al (qa z :: st)) : Aj G X P cc nL cs n r h pc al st := by
  intro H locs ls hW hN hS ha hs hl
  have h1 := q_lat hl j hj
  have k1 := k H locs ls hW hN hS ha (q_ok1 hs (q_aok ha hj)) hl
  simp only [List.map_cons, qconc] at k1
  simp only [qconc] at h1
  unfold va_rf at h1 k1
  split at h1
  · rename_i e
    rw [e] at k1
    exact lv_aloadN C.1 C.2.1 d h1 k1
  · rename_i e
    rw [e] at k1
    exact lv_aload C.1 C.2.1 d h1 k1

theorem Aj.istore_n (C : q_C G X cc nL own ret rm) {f : Fin 4} {z : Int} (d : decode cc pc = .ok (.istore_n f, 1)) (hn : (f : Nat) < nL) (h2 : ((f : Nat), qi z) :: q_drop1 (f : Nat) al = al2) (k : Aj G X P cc nL cs n r h (pc + 1) al2 st) : Aj G X P cc nL cs n r h pc al (qi z :: st) := by
  intro H locs ls hW hN hS ha hs hl
  exact lv_istore_n C.1 C.2.1 d rfl hl hn (q_lset h2) (fun ls2 hl2 => k H locs ls2 hW hN hS (q_aset1 ha (q_hd hs) h2) (q_tl hs) hl2)

theorem Aj.istore (C : q_C G X cc nL own ret rm) {f : Nat} {z : Int} (d : decode cc pc = .ok (.istore f, 2)) (hn : f < nL) (h2 : (f, qi z) :: q_drop1 f al = al2) (k : Aj G X P cc nL cs n r h (pc + 2) al2 st) : Aj G X P cc nL cs n r h pc al (qi z :: st) := by
  intro H locs ls hW hN hS ha hs hl
  exact lv_istore C.1 C.2.1 d hl hn (q_lset h2) (fun ls2 hl2 => k H locs ls2 hW hN hS (q_aset1 ha (q_hd hs) h2) (q_tl hs) hl2)

theorem Aj.lstore_n (C : q_C G X cc nL own ret rm) {f : Fin 4} {z : Int} (d : decode cc pc = .ok (.lstore_n f, 1)) (hn : (f : Nat) + 1 < nL) (h2 : ((f : Nat), ql z) :: q_drop2 (f : Nat) al = al2) (k : Aj G X P cc nL cs n r h (pc + 1) al2 st) : Aj G X P cc nL cs n r h pc al (ql z :: st) := by
  intro H locs ls hW hN hS ha hs hl
  exact lv_lstore_n C.1 C.2.1 d rfl hl hn (q_lset2 h2) (fun ls2 hl2 => k H locs ls2 hW hN hS (q_aset2 ha (q_hd hs) h2) (q_tl hs) hl2)

theorem Aj.lstore (C : q_C G X cc nL own ret rm) {f : Nat} {z : Int} (d : decode cc pc = .ok (.lstore f, 2)) (hn : f + 1 < nL) (h2 : (f, ql z) :: q_drop2 f al = al2) (k : Aj G X P cc nL cs n r h (pc + 2) al2 st) : Aj G X P cc nL cs n r h pc al (ql z :: st) := by
  intro H locs ls hW hN hS ha hs hl
  exact lv_lstore C.1 C.2.1 d hl hn (q_lset2 h2) (fun ls2 hl2 => k H locs ls2 hW hN hS (q_aset2 ha (q_hd hs) h2) (q_tl hs) hl2)

theorem Aj.astore_n (C : q_C G X cc nL own ret rm) {f : Fin 4} {z : Int} (d : decode cc pc = .ok (.astore_n f, 1)) (hn : (f : Nat) < nL) (h2 : ((f : Nat), qa z) :: q_drop1 (f : Nat) al = al2) (k : Aj G X P cc nL cs n r h (pc + 1) al2 st) : Aj G X P cc nL cs n r h pc al (qa z :: st) := by
  intro H locs ls hW hN hS ha hs hl
  have hq := q_lset h2
  show W _ _ _ _ _ _ _ _ _ _ _ _ _ _ _ (F0 _ _ _ (qconc (qa z) :: _))
  have k1 := fun ls2 hl2 => k H locs ls2 hW hN hS (q_aset1 ha (q_hd hs) h2) (q_tl hs) hl2
  simp only [qconc] at hq ⊢
  unfold va_rf at hq ⊢
  split
  · rename_i e
    rw [e] at hq
    exact lv_astore_nN C.1 C.2.1 d rfl hl hn hq k1
  · rename_i e
    rw [e] at hq
    exact lv_astore_n C.1 C.2.1 d rfl hl hn hq k1

theorem Aj.astore (C : q_C G X cc nL own ret rm) {f : Nat} {z : Int} (d : decode cc pc = .ok (.astore f, 2)) (hn : f < nL) (h2 : (f, qa z) :: q_drop1 f al = al2) (k : Aj G X P cc nL cs n r h (pc + 2) al2 st) : Aj G X P cc nL cs n r h pc al (qa z :: st) := by
  intro H locs ls hW hN hS ha hs hl
  have hq := q_lset h2
  show W _ _ _ _ _ _ _ _ _ _ _ _ _ _ _ (F0 _ _ _ (qconc (qa z) :: _))
  have k1 := fun ls2 hl2 => k H locs ls2 hW hN hS (q_aset1 ha (q_hd hs) h2) (q_tl hs) hl2
  simp only [qconc] at hq ⊢
  unfold va_rf at hq ⊢
  split
  · rename_i e
    rw [e] at hq
    exact lv_astoreN C.1 C.2.1 d hl hn hq k1
  · rename_i e
    rw [e] at hq
    exact lv_astore C.1 C.2.1 d hl hn hq k1

theorem Aj.iinc (C : q_C G X cc nL own ret rm) (j : Nat) {f : Nat} {m z : Int} (d : decode cc pc = .ok (.iinc f m, 3)) (hj : al[j]? = some (f, qi z)) (hn : f < nL) (hr : q_r32 (z + m)) (h2 : (f, qi (z + m)) :: q_drop1 f al = al2) (k : Aj G X P cc nL cs n r h (pc + 3) al2 st) : Aj G X P cc nL cs n r h pc al st := by
  intro H locs ls hW hN hS ha hs hl
  exact lv_iinc (k := j) C.1 C.2.1 d hl (by rw [List.getElem?_map, hj]; rfl) (Int32.ofInt_add z m).symm hn (q_lset h2) (fun ls2 hl2 => k H locs ls2 hW hN hS (q_aset1 (v := qi (z + m)) ha hr h2) hs hl2)

theorem Aj.iadd (C : q_C G X cc nL own ret rm) {x y : Int} (d : decode cc pc = .ok (.iadd, 1)) (hr : q_r32 (x + y)) (k : Aj G X P cc nL cs n r h (pc + 1) al (qi (x + y) :: st)) : Aj G X P cc nL cs n r h pc al (qi y :: qi x :: st) := by
  intro H locs ls hW hN hS ha hs hl
  refine lv_iadd C.1 C.2.1 d ?_
  rw [← Int32.ofInt_add]
  exact k H locs ls hW hN hS ha (q_ok1 (q_tl (q_tl hs)) hr) hl

theorem Aj.isub (C : q_C G X cc nL own ret rm) {x y : Int} (d : decode cc pc = .ok (.isub, 1)) (hr : q_r32 (x - y)) (k : Aj G X P cc nL cs n r h (pc + 1) al (qi (x - y) :: st)) : Aj G X P cc nL cs n r h pc al (qi y :: qi x :: st) := by
  intro H locs ls hW hN hS ha hs hl
  refine lv_isub C.1 C.2.1 d ?_
  rw [← Int32.ofInt_sub]
  exact k H locs ls hW hN hS ha (q_ok1 (q_tl (q_tl hs)) hr) hl

theorem Aj.imul (C : q_C G X cc nL own ret rm) {x y : Int} (d : decode cc pc = .ok (.imul, 1)) (hr : q_r32 (x * y)) (k : Aj G X P cc nL cs n r h (pc + 1) al (qi (x * y) :: st)) : Aj G X P cc nL cs n r h pc al (qi y :: qi x :: st) := by
  intro H locs ls hW hN hS ha hs hl
  refine lv_imul C.1 C.2.1 d ?_
  rw [← Int32.ofInt_mul]
  exact k H locs ls hW hN hS ha (q_ok1 (q_tl (q_tl hs)) hr) hl

theorem Aj.idiv (C : q_C G X cc nL own ret rm) {x y : Int} (d : decode cc pc = .ok (.idiv, 1)) (hx : 0 ≤ x) (hy : 0 < y) (k : Aj G X P cc nL cs n r h (pc + 1) al (qi (x / y) :: st)) : Aj G X P cc nL cs n r h pc al (qi y :: qi x :: st) := by
  intro H locs ls hW hN hS ha hs hl
  have rx : q_r32 x := q_hd (q_tl hs)
  have ry : q_r32 y := q_hd hs
  have hne : ¬ Int32.ofInt y = 0 := by rw [q_0, q_eq32 ry q_rz]; omega
  refine lv_idiv C.1 C.2.1 d hne ?_
  have h1 := Int.ediv_nonneg hx (by omega : 0 ≤ y)
  have h2 : x / y ≤ x := Int.ediv_le_self y hx
  have hq : q_r32 (x / y) := by omega
  have he : Int32.ofInt x / Int32.ofInt y = Int32.ofInt (x / y) := by
    apply Int32.toInt_inj.mp
    rw [Int32.toInt_div, q_i32 rx, q_i32 ry, q_i32 hq, Int.tdiv_eq_ediv_of_nonneg hx]
    rw [Int.bmod_def]
    split <;> omega
  rw [he]
  exact k H locs ls hW hN hS ha (q_ok1 (q_tl (q_tl hs)) hq) hl

theorem Aj.irem (C : q_C G X cc nL own ret rm) {x y : Int} (d : decode cc pc = .ok (.irem, 1)) (hx : 0 ≤ x) (hy : 0 < y) (k : Aj G X P cc nL cs n r h (pc + 1) al (qi (x % y) :: st)) : Aj G X P cc nL cs n r h pc al (qi y :: qi x :: st) := by
  intro H locs ls hW hN hS ha hs hl
  have rx : q_r32 x := q_hd (q_tl hs)
  have ry : q_r32 y := q_hd hs
  have hne : ¬ Int32.ofInt y = 0 := by rw [q_0, q_eq32 ry q_rz]; omega
  refine lv_irem C.1 C.2.1 d hne ?_
  have h1 := Int.emod_nonneg x (by omega : y ≠ 0)
  have h2 := Int.emod_lt_of_pos x hy
  have hq : q_r32 (x % y) := by omega
  have he : Int32.ofInt x - Int32.ofInt x / Int32.ofInt y * Int32.ofInt y = Int32.ofInt (x % y) := by
    apply Int32.toInt_inj.mp
    rw [rem_toInt, q_i32 rx, q_i32 ry, q_i32 hq, Int.tmod_eq_emod_of_nonneg hx]
  rw [he]
  exact k H locs ls hW hN hS ha (q_ok1 (q_tl (q_tl hs)) hq) hl

def b_and (x y : Int) : Int := (Int32.ofInt x &&& Int32.ofInt y).toInt
def b_or (x y : Int) : Int := (Int32.ofInt x ||| Int32.ofInt y).toInt
def b_xor (x y : Int) : Int := (Int32.ofInt x ^^^ Int32.ofInt y).toInt
def b_shl (x y : Int) : Int := (Int32.ofInt x <<< (Int32.ofInt y &&& 31)).toInt

theorem Aj.iand (C : q_C G X cc nL own ret rm) {x y : Int} (d : decode cc pc = .ok (.iand, 1)) (k : Aj G X P cc nL cs n r h (pc + 1) al (qi (b_and x y) :: st)) : Aj G X P cc nL cs n r h pc al (qi y :: qi x :: st) := by
  intro H locs ls hW hN hS ha hs hl
  refine lv_iand C.1 C.2.1 d ?_
  have k1 := k H locs ls hW hN hS ha (q_ok1 (q_tl (q_tl hs)) (q_rI _)) hl
  simp only [List.map_cons, qconc, b_and, q_toI] at k1
  exact k1

theorem Aj.ior (C : q_C G X cc nL own ret rm) {x y : Int} (d : decode cc pc = .ok (.ior, 1)) (k : Aj G X P cc nL cs n r h (pc + 1) al (qi (b_or x y) :: st)) : Aj G X P cc nL cs n r h pc al (qi y :: qi x :: st) := by
  intro H locs ls hW hN hS ha hs hl
  refine lv_ior C.1 C.2.1 d ?_
  have k1 := k H locs ls hW hN hS ha (q_ok1 (q_tl (q_tl hs)) (q_rI _)) hl
  simp only [List.map_cons, qconc, b_or, q_toI] at k1
  exact k1

theorem Aj.ixor (C : q_C G X cc nL own ret rm) {x y : Int} (d : decode cc pc = .ok (.ixor, 1)) (k : Aj G X P cc nL cs n r h (pc + 1) al (qi (b_xor x y) :: st)) : Aj G X P cc nL cs n r h pc al (qi y :: qi x :: st) := by
  intro H locs ls hW hN hS ha hs hl
  refine lv_ixor C.1 C.2.1 d ?_
  have k1 := k H locs ls hW hN hS ha (q_ok1 (q_tl (q_tl hs)) (q_rI _)) hl
  simp only [List.map_cons, qconc, b_xor, q_toI] at k1
  exact k1

theorem Aj.ishl (C : q_C G X cc nL own ret rm) {x y : Int} (d : decode cc pc = .ok (.ishl, 1)) (k : Aj G X P cc nL cs n r h (pc + 1) al (qi (b_shl x y) :: st)) : Aj G X P cc nL cs n r h pc al (qi y :: qi x :: st) := by
  intro H locs ls hW hN hS ha hs hl
  refine lv_ishl C.1 C.2.1 d ?_
  have k1 := k H locs ls hW hN hS ha (q_ok1 (q_tl (q_tl hs)) (q_rI _)) hl
  simp only [List.map_cons, qconc, b_shl, q_toI] at k1
  exact k1

def l_and (x y : Int) : Int := (Int64.ofInt x &&& Int64.ofInt y).toInt
def l_or (x y : Int) : Int := (Int64.ofInt x ||| Int64.ofInt y).toInt
def l_shl (x y : Int) : Int := (Int64.ofInt x <<< ((Int32.ofInt y).toInt64 &&& 63)).toInt
def l_ushr (x y : Int) : Int := ((Int64.ofInt x).toUInt64 >>> ((Int32.ofInt y).toInt64.toUInt64 &&& Int64.toUInt64 63)).toInt64.toInt
def l_2i (x : Int) : Int := (Int64.ofInt x).toInt32.toInt
def l_cmp (x y : Int) : Int := if x > y then 1 else if x = y then 0 else -1
theorem q_toL (x : Int64) : Int64.ofInt x.toInt = x := Int64.ofInt_toInt x
theorem q_rL (x : Int64) : q_r64 x.toInt := ⟨Int64.le_toInt x, by have := Int64.toInt_lt x; omega⟩

theorem Aj.land (C : q_C G X cc nL own ret rm) {x y : Int} (d : decode cc pc = .ok (.land, 1)) (k : Aj G X P cc nL cs n r h (pc + 1) al (ql (l_and x y) :: st)) : Aj G X P cc nL cs n r h pc al (ql y :: ql x :: st) := by
  intro H locs ls hW hN hS ha hs hl
  refine lv_land C.1 C.2.1 d ?_
  have k1 := k H locs ls hW hN hS ha (q_ok1 (q_tl (q_tl hs)) (q_rL _)) hl
  simp only [List.map_cons, qconc, l_and, q_toL] at k1
  exact k1

theorem Aj.lor (C : q_C G X cc nL own ret rm) {x y : Int} (d : decode cc pc = .ok (.lor, 1)) (k : Aj G X P cc nL cs n r h (pc + 1) al (ql (l_or x y) :: st)) : Aj G X P cc nL cs n r h pc al (ql y :: ql x :: st) := by
  intro H locs ls hW hN hS ha hs hl
  refine lv_lor C.1 C.2.1 d ?_
  have k1 := k H locs ls hW hN hS ha (q_ok1 (q_tl (q_tl hs)) (q_rL _)) hl
  simp only [List.map_cons, qconc, l_or, q_toL] at k1
  exact k1

theorem Aj.lushr (C : q_C G X cc nL own ret rm) {x y : Int} (d : decode cc pc = .ok (.lushr, 1)) (k : Aj G X P cc nL cs n r h (pc + 1) al (ql (l_ushr x y) :: st)) : Aj G X P cc nL cs n r h pc al (qi y :: ql x :: st) := by
  intro H locs ls hW hN hS ha hs hl
  refine lv_lushr C.1 C.2.1 d rfl ?_
  have k1 := k H locs ls hW hN hS ha (q_ok1 (q_tl (q_tl hs)) (q_rL _)) hl
  simp only [List.map_cons, qconc, l_ushr, q_toL] at k1
  exact k1

theorem Aj.lshl (C : q_C G X cc nL own ret rm) {x y : Int} (d : decode cc pc = .ok (.lshl, 1)) (k : Aj G X P cc nL cs n r h (pc + 1) al (ql (l_shl x y) :: st)) : Aj G X P cc nL cs n r h pc al (qi y :: ql x :: st) := by
  intro H locs ls hW hN hS ha hs hl
  refine lv_lshl C.1 C.2.1 d rfl ?_
  have k1 := k H locs ls hW hN hS ha (q_ok1 (q_tl (q_tl hs)) (q_rL _)) hl
  simp only [List.map_cons, qconc, l_shl, q_toL] at k1
  exact k1

theorem Aj.l2i (C : q_C G X cc nL own ret rm) {x : Int} (d : decode cc pc = .ok (.l2i, 1)) (k : Aj G X P cc nL cs n r h (pc + 1) al (qi (l_2i x) :: st)) : Aj G X P cc nL cs n r h pc al (ql x :: st) := by
  intro H locs ls hW hN hS ha hs hl
  refine lv_l2i C.1 C.2.1 d rfl ?_
  have k1 := k H locs ls hW hN hS ha (q_ok1 (q_tl hs) (q_rI _)) hl
  simp only [List.map_cons, qconc, l_2i, q_toI] at k1
  exact k1

theorem Aj.i2l (C : q_C G X cc nL own ret rm) {x : Int} (d : decode cc pc = .ok (.i2l, 1)) (k : Aj G X P cc nL cs n r h (pc + 1) al (ql x :: st)) : Aj G X P cc nL cs n r h pc al (qi x :: st) := by
  intro H locs ls hW hN hS ha hs hl
  have rx : q_r32 x := q_hd hs
  refine lv_i2l C.1 C.2.1 d (v := Int64.ofInt x) ?_ ?_
  · apply Int64.toInt_inj.mp
    rw [Int32.toInt_toInt64, q_i32 rx, q_i64 (by omega)]
  · exact k H locs ls hW hN hS ha (q_ok1 (q_tl hs) (show q_r64 x by omega)) hl

theorem Aj.lcmp (C : q_C G X cc nL own ret rm) {x y : Int} (d : decode cc pc = .ok (.lcmp, 1)) (k : Aj G X P cc nL cs n r h (pc + 1) al (qi (l_cmp x y) :: st)) : Aj G X P cc nL cs n r h pc al (ql y :: ql x :: st) := by
  intro H locs ls hW hN hS ha hs hl
  have rx : q_r64 x := q_hd (q_tl hs)
  have ry : q_r64 y := q_hd hs
  refine W.lcmp C.1 C.2.1 d ?_
  have e : lg_cmp (Int64.ofInt x) (Int64.ofInt y) = Int32.ofInt (l_cmp x y) := by
    unfold lg_cmp l_cmp
    have h1 : Int64.ofInt x > Int64.ofInt y ↔ x > y := by
      show Int64.ofInt y < Int64.ofInt x ↔ y < x
      rw [Int64.lt_iff_toInt_lt, q_i64 rx, q_i64 ry]
    have h2 : Int64.ofInt x = Int64.ofInt y ↔ x = y := ⟨fun e => by rw [← q_i64 rx, e, q_i64 ry], fun e => by rw [e]⟩
    simp only [h1, h2]
    split
    · rfl
    · split <;> rfl
  rw [e]
  exact k H locs ls hW hN hS ha (q_ok1 (q_tl (q_tl hs)) (show q_r32 (l_cmp x y) by unfold l_cmp; split; decide; split <;> decide)) hl

theorem Aj.dup_qi (C : q_C G X cc nL own ret rm) {z : Int} (d : decode cc pc = .ok (.dup, 1)) (k : Aj G X P cc nL cs n r h (pc + 1) al (qi z :: qi z :: st)) : Aj G X P cc nL cs n r h pc al (qi z :: st) := by
  intro H locs ls hW hN hS ha hs hl
  exact lv_dup C.1 C.2.1 d (q_cat1 rfl) (k H locs ls hW hN hS ha (q_ok1 hs (q_hd hs)) hl)

theorem Aj.dup_qa (C : q_C G X cc nL own ret rm) {z : Int} (d : decode cc pc = .ok (.dup, 1)) (k : Aj G X P cc nL cs n r h (pc + 1) al (qa z :: qa z :: st)) : Aj G X P cc nL cs n r h pc al (qa z :: st) := by
  intro H locs ls hW hN hS ha hs hl
  exact lv_dup C.1 C.2.1 d (q_cat1 rfl) (k H locs ls hW hN hS ha (q_ok1 hs (q_hd hs)) hl)

theorem Aj.dup2 (C : q_C G X cc nL own ret rm) {z p : Int} (d : decode cc pc = .ok (.dup2, 1)) (k : Aj G X P cc nL cs n r h (pc + 1) al (qi z :: qa p :: qi z :: qa p :: st)) : Aj G X P cc nL cs n r h pc al (qi z :: qa p :: st) := by
  intro H locs ls hW hN hS ha hs hl
  exact lv_dup2_11 C.1 C.2.1 d (q_cat1 (v := qi z) rfl) (q_cat1 (v := qa p) rfl) (k H locs ls hW hN hS ha (q_ok1 (q_ok1 hs (v := qa p) trivial) (q_hd hs)) hl)

theorem Aj.dup_x1 (C : q_C G X cc nL own ret rm) {z p : Int} (d : decode cc pc = .ok (.dup_x1, 1)) (k : Aj G X P cc nL cs n r h (pc + 1) al (qi z :: qa p :: qi z :: st)) : Aj G X P cc nL cs n r h pc al (qi z :: qa p :: st) := by
  intro H locs ls hW hN hS ha hs hl
  exact lv_dup_x1 C.1 C.2.1 d (q_cat1 (v := qi z) rfl) (q_cat1 (v := qa p) rfl) (k H locs ls hW hN hS ha (q_ok1 (q_ok1 (q_ok1 (q_tl (q_tl hs)) (q_hd hs)) (v := qa p) trivial) (q_hd hs)) hl)

theorem Aj.pop (C : q_C G X cc nL own ret rm) {v : qV} (d : decode cc pc = .ok (.pop, 1)) (hv : q_is2 v = false) (k : Aj G X P cc nL cs n r h (pc + 1) al st) : Aj G X P cc nL cs n r h pc al (v :: st) := by
  intro H locs ls hW hN hS ha hs hl
  exact lv_pop C.1 C.2.1 d (q_cat1 hv) (k H locs ls hW hN hS ha (q_tl hs) hl)

theorem Aj.icmp_eq (C : q_C G X cc nL own ret rm) {x y : Int} {off : Int} {tgt : Nat} (d : decode cc pc = .ok (.if_icmp .eq off, 3)) (ht : (pc : Int) + off = (tgt : Int)) (kt : x = y → Aj G X P cc nL cs n r h tgt al st) (kf : x ≠ y → Aj G X P cc nL cs n r h (pc + 3) al st) : Aj G X P cc nL cs n r h pc al (qi y :: qi x :: st) := by
  intro H locs ls hW hN hS ha hs hl
  have ry : q_r32 y := q_hd hs
  have rx : q_r32 x := q_hd (q_tl hs)
  refine lv_icmp_eq C.1 C.2.1 d ht (fun e => ?_) (fun e => ?_)
  · have e2 : x = y := by (try rw [q_0] at e); (try simp only [ge_iff_le, gt_iff_lt, ne_eq] at e); (first | rw [q_eq32 rx ry] at e | skip); (first | exact e | omega)
    exact kt e2 H locs ls hW hN hS ha (q_tl (q_tl hs)) hl
  · have e2 : x ≠ y := by (try rw [q_0] at e); (try simp only [ge_iff_le, gt_iff_lt, ne_eq] at e); (first | rw [q_eq32 rx ry] at e | skip); (first | exact e | omega)
    exact kf e2 H locs ls hW hN hS ha (q_tl (q_tl hs)) hl

theorem Aj.if_eq (C : q_C G X cc nL own ret rm) {x : Int} {off : Int} {tgt : Nat} (d : decode cc pc = .ok (.ifCond .eq off, 3)) (ht : (pc : Int) + off = (tgt : Int)) (kt : x = 0 → Aj G X P cc nL cs n r h tgt al st) (kf : x ≠ 0 → Aj G X P cc nL cs n r h (pc + 3) al st) : Aj G X P cc nL cs n r h pc al (qi x :: st) := by
  intro H locs ls hW hN hS ha hs hl
  have ry : q_r32 0 := q_rz
  have rx : q_r32 x := q_hd hs
  refine lv_if_eq C.1 C.2.1 d ht (fun e => ?_) (fun e => ?_)
  · have e2 : x = 0 := by (try rw [q_0] at e); (try simp only [ge_iff_le, gt_iff_lt, ne_eq] at e); (first | rw [q_eq32 rx ry] at e | skip); (first | exact e | omega)
    exact kt e2 H locs ls hW hN hS ha (q_tl hs) hl
  · have e2 : x ≠ 0 := by (try rw [q_0] at e); (try simp only [ge_iff_le, gt_iff_lt, ne_eq] at e); (first | rw [q_eq32 rx ry] at e | skip); (first | exact e | omega)
    exact kf e2 H locs ls hW hN hS ha (q_tl hs) hl

theorem Aj.icmp_ne (C : q_C G X cc nL own ret rm) {x y : Int} {off : Int} {tgt : Nat} (d : decode cc pc = .ok (.if_icmp .ne off, 3)) (ht : (pc : Int) + off = (tgt : Int)) (kt : x ≠ y → Aj G X P cc nL cs n r h tgt al st) (kf : x = y → Aj G X P cc nL cs n r h (pc + 3) al st) : Aj G X P cc nL cs n r h pc al (qi y :: qi x :: st) := by
  intro H locs ls hW hN hS ha hs hl
  have ry : q_r32 y := q_hd hs
  have rx : q_r32 x := q_hd (q_tl hs)
  refine lv_icmp_ne C.1 C.2.1 d ht (fun e => ?_) (fun e => ?_)
  · have e2 : x ≠ y := by (try rw [q_0] at e); (try simp only [ge_iff_le, gt_iff_lt, ne_eq] at e); (first | rw [q_eq32 rx ry] at e | skip); (first | exact e | omega)
    exact kt e2 H locs ls hW hN hS ha (q_tl (q_tl hs)) hl
  · have e2 : x = y := by (try rw [q_0] at e); (try simp only [ge_iff_le, gt_iff_lt, ne_eq] at e); (first | rw [q_eq32 rx ry] at e | skip); (first | exact e | omega)
    exact kf e2 H locs ls hW hN hS ha (q_tl (q_tl hs)) hl

theorem Aj.if_ne (C : q_C G X cc nL own ret rm) {x : Int} {off : Int} {tgt : Nat} (d : decode cc pc = .ok (.ifCond .ne off, 3)) (ht : (pc : Int) + off = (tgt : Int)) (kt : x ≠ 0 → Aj G X P cc nL cs n r h tgt al st) (kf : x = 0 → Aj G X P cc nL cs n r h (pc + 3) al st) : Aj G X P cc nL cs n r h pc al (qi x :: st) := by
  intro H locs ls hW hN hS ha hs hl
  have ry : q_r32 0 := q_rz
  have rx : q_r32 x := q_hd hs
  refine lv_if_ne C.1 C.2.1 d ht (fun e => ?_) (fun e => ?_)
  · have e2 : x ≠ 0 := by (try rw [q_0] at e); (try simp only [ge_iff_le, gt_iff_lt, ne_eq] at e); (first | rw [q_eq32 rx ry] at e | skip); (first | exact e | omega)
    exact kt e2 H locs ls hW hN hS ha (q_tl hs) hl
  · have e2 : x = 0 := by (try rw [q_0] at e); (try simp only [ge_iff_le, gt_iff_lt, ne_eq] at e); (first | rw [q_eq32 rx ry] at e | skip); (first | exact e | omega)
    exact kf e2 H locs ls hW hN hS ha (q_tl hs) hl

theorem Aj.icmp_lt (C : q_C G X cc nL own ret rm) {x y : Int} {off : Int} {tgt : Nat} (d : decode cc pc = .ok (.if_icmp .lt off, 3)) (ht : (pc : Int) + off = (tgt : Int)) (kt : x < y → Aj G X P cc nL cs n r h tgt al st) (kf : y ≤ x → Aj G X P cc nL cs n r h (pc + 3) al st) : Aj G X P cc nL cs n r h pc al (qi y :: qi x :: st) := by
  intro H locs ls hW hN hS ha hs hl
  have ry : q_r32 y := q_hd hs
  have rx : q_r32 x := q_hd (q_tl hs)
  refine lv_icmp_lt C.1 C.2.1 d ht (fun e => ?_) (fun e => ?_)
  · have e2 : x < y := by (try rw [q_0] at e); (try simp only [ge_iff_le, gt_iff_lt, ne_eq] at e); (first | rw [q_lt32 rx ry] at e | skip); (first | exact e | omega)
    exact kt e2 H locs ls hW hN hS ha (q_tl (q_tl hs)) hl
  · have e2 : y ≤ x := by (try rw [q_0] at e); (try simp only [ge_iff_le, gt_iff_lt, ne_eq] at e); (first | rw [q_lt32 rx ry] at e | skip); (first | exact e | omega)
    exact kf e2 H locs ls hW hN hS ha (q_tl (q_tl hs)) hl

theorem Aj.if_lt (C : q_C G X cc nL own ret rm) {x : Int} {off : Int} {tgt : Nat} (d : decode cc pc = .ok (.ifCond .lt off, 3)) (ht : (pc : Int) + off = (tgt : Int)) (kt : x < 0 → Aj G X P cc nL cs n r h tgt al st) (kf : 0 ≤ x → Aj G X P cc nL cs n r h (pc + 3) al st) : Aj G X P cc nL cs n r h pc al (qi x :: st) := by
  intro H locs ls hW hN hS ha hs hl
  have ry : q_r32 0 := q_rz
  have rx : q_r32 x := q_hd hs
  refine lv_if_lt C.1 C.2.1 d ht (fun e => ?_) (fun e => ?_)
  · have e2 : x < 0 := by (try rw [q_0] at e); (try simp only [ge_iff_le, gt_iff_lt, ne_eq] at e); (first | rw [q_lt32 rx ry] at e | skip); (first | exact e | omega)
    exact kt e2 H locs ls hW hN hS ha (q_tl hs) hl
  · have e2 : 0 ≤ x := by (try rw [q_0] at e); (try simp only [ge_iff_le, gt_iff_lt, ne_eq] at e); (first | rw [q_lt32 rx ry] at e | skip); (first | exact e | omega)
    exact kf e2 H locs ls hW hN hS ha (q_tl hs) hl

theorem Aj.icmp_ge (C : q_C G X cc nL own ret rm) {x y : Int} {off : Int} {tgt : Nat} (d : decode cc pc = .ok (.if_icmp .ge off, 3)) (ht : (pc : Int) + off = (tgt : Int)) (kt : y ≤ x → Aj G X P cc nL cs n r h tgt al st) (kf : x < y → Aj G X P cc nL cs n r h (pc + 3) al st) : Aj G X P cc nL cs n r h pc al (qi y :: qi x :: st) := by
  intro H locs ls hW hN hS ha hs hl
  have ry : q_r32 y := q_hd hs
  have rx : q_r32 x := q_hd (q_tl hs)
  refine lv_icmp_ge C.1 C.2.1 d ht (fun e => ?_) (fun e => ?_)
  · have e2 : y ≤ x := by (try rw [q_0] at e); (try simp only [ge_iff_le, gt_iff_lt, ne_eq] at e); (first | rw [q_le32 ry rx] at e | skip); (first | exact e | omega)
    exact kt e2 H locs ls hW hN hS ha (q_tl (q_tl hs)) hl
  · have e2 : x < y := by (try rw [q_0] at e); (try simp only [ge_iff_le, gt_iff_lt, ne_eq] at e); (first | rw [q_le32 ry rx] at e | skip); (first | exact e | omega)
    exact kf e2 H locs ls hW hN hS ha (q_tl (q_tl hs)) hl

theorem Aj.if_ge (C : q_C G X cc nL own ret rm) {x : Int} {off : Int} {tgt : Nat} (d : decode cc pc = .ok (.ifCond .ge off, 3)) (ht : (pc : Int) + off = (tgt : Int)) (kt : 0 ≤ x → Aj G X P cc nL cs n r h tgt al st) (kf : x < 0 → Aj G X P cc nL cs n r h (pc + 3) al st) : Aj G X P cc nL cs n r h pc al (qi x :: st) := by
  intro H locs ls hW hN hS ha hs hl
  have ry : q_r32 0 := q_rz
  have rx : q_r32 x := q_hd hs
  refine lv_if_ge C.1 C.2.1 d ht (fun e => ?_) (fun e => ?_)
  · have e2 : 0 ≤ x := by (try rw [q_0] at e); (try simp only [ge_iff_le, gt_iff_lt, ne_eq] at e); (first | rw [q_le32 ry rx] at e | skip); (first | exact e | omega)
    exact kt e2 H locs ls hW hN hS ha (q_tl hs) hl
  · have e2 : x < 0 := by (try rw [q_0] at e); (try simp only [ge_iff_le, gt_iff_lt, ne_eq] at e); (first | rw [q_le32 ry rx] at e | skip); (first | exact e | omega)
    exact kf e2 H locs ls hW hN hS ha (q_tl hs) hl

theorem Aj.icmp_gt (C : q_C G X cc nL own ret rm) {x y : Int} {off : Int} {tgt : Nat} (d : decode cc pc = .ok (.if_icmp .gt off, 3)) (ht : (pc : Int) + off = (tgt : Int)) (kt : y < x → Aj G X P cc nL cs n r h tgt al st) (kf : x ≤ y → Aj G X P cc nL cs n r h (pc + 3) al st) : Aj G X P cc nL cs n r h pc al (qi y :: qi x :: st) := by
  intro H locs ls hW hN hS ha hs hl
  have ry : q_r32 y := q_hd hs
  have rx : q_r32 x := q_hd (q_tl hs)
  refine lv_icmp_gt C.1 C.2.1 d ht (fun e => ?_) (fun e => ?_)
  · have e2 : y < x := by (try rw [q_0] at e); (try simp only [ge_iff_le, gt_iff_lt, ne_eq] at e); (first | rw [q_lt32 ry rx] at e | skip); (first | exact e | omega)
    exact kt e2 H locs ls hW hN hS ha (q_tl (q_tl hs)) hl
  · have e2 : x ≤ y := by (try rw [q_0] at e); (try simp only [ge_iff_le, gt_iff_lt, ne_eq] at e); (first | rw [q_lt32 ry rx] at e | skip); (first | exact e | omega)
    exact kf e2 H locs ls hW hN hS ha (q_tl (q_tl hs)) hl

theorem Aj.if_gt (C : q_C G X cc nL own ret rm) {x : Int} {off : Int} {tgt : Nat} (d : decode cc pc = .ok (.ifCond .gt off, 3)) (ht : (pc : Int) + off = (tgt : Int)) (kt : 0 < x → Aj G X P cc nL cs n r h tgt al st) (kf : x ≤ 0 → Aj G X P cc nL cs n r h (pc + 3) al st) : Aj G X P cc nL cs n r h pc al (qi x :: st) := by
  intro H locs ls hW hN hS ha hs hl
  have ry : q_r32 0 := q_rz
  have rx : q_r32 x := q_hd hs
  refine lv_if_gt C.1 C.2.1 d ht (fun e => ?_) (fun e => ?_)
  · have e2 : 0 < x := by (try rw [q_0] at e); (try simp only [ge_iff_le, gt_iff_lt, ne_eq] at e); (first | rw [q_lt32 ry rx] at e | skip); (first | exact e | omega)
    exact kt e2 H locs ls hW hN hS ha (q_tl hs) hl
  · have e2 : x ≤ 0 := by (try rw [q_0] at e); (try simp only [ge_iff_le, gt_iff_lt, ne_eq] at e); (first | rw [q_lt32 ry rx] at e | skip); (first | exact e | omega)
    exact kf e2 H locs ls hW hN hS ha (q_tl hs) hl

theorem Aj.icmp_le (C : q_C G X cc nL own ret rm) {x y : Int} {off : Int} {tgt : Nat} (d : decode cc pc = .ok (.if_icmp .le off, 3)) (ht : (pc : Int) + off = (tgt : Int)) (kt : x ≤ y → Aj G X P cc nL cs n r h tgt al st) (kf : y < x → Aj G X P cc nL cs n r h (pc + 3) al st) : Aj G X P cc nL cs n r h pc al (qi y :: qi x :: st) := by
  intro H locs ls hW hN hS ha hs hl
  have ry : q_r32 y := q_hd hs
  have rx : q_r32 x := q_hd (q_tl hs)
  refine lv_icmp_le C.1 C.2.1 d ht (fun e => ?_) (fun e => ?_)
  · have e2 : x ≤ y := by (try rw [q_0] at e); (try simp only [ge_iff_le, gt_iff_lt, ne_eq] at e); (first | rw [q_le32 rx ry] at e | skip); (first | exact e | omega)
    exact kt e2 H locs ls hW hN hS ha (q_tl (q_tl hs)) hl
  · have e2 : y < x := by (try rw [q_0] at e); (try simp only [ge_iff_le, gt_iff_lt, ne_eq] at e); (first | rw [q_le32 rx ry] at e | skip); (first | exact e | omega)
    exact kf e2 H locs ls hW hN hS ha (q_tl (q_tl hs)) hl

theorem Aj.if_le (C : q_C G X cc nL own ret rm) {x : Int} {off : Int} {tgt : Nat} (d : decode cc pc = .ok (.ifCond .le off, 3)) (ht : (pc : Int) + off = (tgt : Int)) (kt : x ≤ 0 → Aj G X P cc nL cs n r h tgt al st) (kf : 0 < x → Aj G X P cc nL cs n r h (pc + 3) al st) : Aj G X P cc nL cs n r h pc al (qi x :: st) := by
  intro H locs ls hW hN hS ha hs hl
  have ry : q_r32 0 := q_rz
  have rx : q_r32 x := q_hd hs
  refine lv_if_le C.1 C.2.1 d ht (fun e => ?_) (fun e => ?_)
  · have e2 : x ≤ 0 := by (try rw [q_0] at e); (try simp only [ge_iff_le, gt_iff_lt, ne_eq] at e); (first | rw [q_le32 rx ry] at e | skip); (first | exact e | omega)
    exact kt e2 H locs ls hW hN hS ha (q_tl hs) hl
  · have e2 : 0 < x := by (try rw [q_0] at e); (try simp only [ge_iff_le, gt_iff_lt, ne_eq] at e); (first | rw [q_le32 rx ry] at e | skip); (first | exact e | omega)
    exact kf e2 H locs ls hW hN hS ha (q_tl hs) hl

theorem Aj.goto (C : q_C G X cc nL own ret rm) {off : Int} {tgt : Nat} (d : decode cc pc = .ok (.goto off, 3)) (ht : (pc : Int) + off = (tgt : Int)) (k : Aj G X P cc nL cs n r h tgt al st) : Aj G X P cc nL cs n r h pc al st := by
  intro H locs ls hW hN hS ha hs hl
  exact lv_goto C.1 C.2.1 d ht (k H locs ls hW hN hS ha hs hl)

theorem Aj.ifnull (C : q_C G X cc nL own ret rm) {z : Int} {off : Int} {tgt : Nat} (d : decode cc pc = .ok (.ifnull off, 3)) (ht : (pc : Int) + off = (tgt : Int)) (kt : z = 0 → Aj G X P cc nL cs n r h tgt al st) (kf : z ≠ 0 → Aj G X P cc nL cs n r h (pc + 3) al st) : Aj G X P cc nL cs n r h pc al (qa z :: st) := by
  intro H locs ls hW hN hS ha hs hl
  by_cases e : z = 0
  · subst e
    exact lv_ifnullN C.1 C.2.1 d ht (kt rfl H locs ls hW hN hS ha (q_tl hs) hl)
  · have e1 : qconc (qa z) = .ref z.toNat := by show va_rf (q_opt z) = _; unfold q_opt; rw [if_neg e]; rfl
    show W _ _ _ _ _ _ _ _ _ _ _ _ _ _ _ (F0 _ _ _ (qconc (qa z) :: _))
    rw [e1]
    exact lv_ifnull C.1 C.2.1 d (kf e H locs ls hW hN hS ha (q_tl hs) hl)

theorem Aj.ifnonnull (C : q_C G X cc nL own ret rm) {z : Int} {off : Int} {tgt : Nat} (d : decode cc pc = .ok (.ifnonnull off, 3)) (ht : (pc : Int) + off = (tgt : Int)) (kt : z ≠ 0 → Aj G X P cc nL cs n r h tgt al st) (kf : z = 0 → Aj G X P cc nL cs n r h (pc + 3) al st) : Aj G X P cc nL cs n r h pc al (qa z :: st) := by
  intro H locs ls hW hN hS ha hs hl
  by_cases e : z = 0
  · subst e
    exact lv_ifnonnullN C.1 C.2.1 d (kf rfl H locs ls hW hN hS ha (q_tl hs) hl)
  · have e1 : qconc (qa z) = .ref z.toNat := by show va_rf (q_opt z) = _; unfold q_opt; rw [if_neg e]; rfl
    show W _ _ _ _ _ _ _ _ _ _ _ _ _ _ _ (F0 _ _ _ (qconc (qa z) :: _))
    rw [e1]
    exact lv_ifnonnull C.1 C.2.1 d ht (kt e H locs ls hW hN hS ha (q_tl hs) hl)

theorem Aj.lookup (C : q_C G X cc nL own ret rm) {x dflt : Int} {ps : Array (Int × Int)} {len : Nat} (off : Int) {tgt : Nat} (d : decode cc pc = .ok (.lookupswitch dflt ps, len)) (hp : (ps.toList.zip (ps.toList.drop 1)).all (fun (a, next) => a.1 < next.1) = true) (ho : Op.lookupswitch.offset ps.toList dflt x = off) (ht : (pc : Int) + off = (tgt : Int)) (k : Aj G X P cc nL cs n r h tgt al st) : Aj G X P cc nL cs n r h pc al (qi x :: st) := by
  intro H locs ls hW hN hS ha hs hl
  have rx : q_r32 x := q_hd hs
  exact lv_lookup C.1 C.2.1 d hp (by rw [q_i32 rx]; exact ho) ht (k H locs ls hW hN hS ha (q_tl hs) hl)

theorem Aj.tableOut (C : q_C G X cc nL own ret rm) {x dflt lo hi : Int} {offs : Array Int} {len : Nat} {tgt : Nat} (d : decode cc pc = .ok (.tableswitch dflt lo hi offs, len)) (hx : x < lo ∨ hi < x) (ht : (pc : Int) + dflt = (tgt : Int)) (k : Aj G X P cc nL cs n r h tgt al st) : Aj G X P cc nL cs n r h pc al (qi x :: st) := by
  intro H locs ls hW hN hS ha hs hl
  have rx : q_r32 x := q_hd hs
  exact lv_tableOut C.1 C.2.1 d (by rw [q_i32 rx]; exact hx) ht (k H locs ls hW hN hS ha (q_tl hs) hl)

theorem Aj.tableIn (C : q_C G X cc nL own ret rm) {x dflt lo hi : Int} {offs : Array Int} {len : Nat} (off : Int) {tgt : Nat} (d : decode cc pc = .ok (.tableswitch dflt lo hi offs, len)) (hx : lo ≤ x ∧ x ≤ hi) (ho : offs[(x - lo).toNat]? = some off) (ht : (pc : Int) + off = (tgt : Int)) (k : Aj G X P cc nL cs n r h tgt al st) : Aj G X P cc nL cs n r h pc al (qi x :: st) := by
  intro H locs ls hW hN hS ha hs hl
  have rx : q_r32 x := q_hd hs
  exact lv_tableIn C.1 C.2.1 d (by rw [q_i32 rx]; omega) (by rw [q_i32 rx]; omega) (by rw [q_i32 rx]; exact ho) ht (k H locs ls hW hN hS ha (q_tl hs) hl)

end
end
section
section
variable {G : qG} {X : qX} {P : qP} {cc : ByteArray} {nL : Nat} {own : String} {ret : Option FieldType} {rm : Room} {cs : Nat × Nat} {n : Int} {r h : qH} {pc : Nat} {al al2 : List (Nat × qV)} {st : List qV}
theorem q_tys0 (G : qG) : (q_tys G)[0]? = some (G.2.2.1.1, .int) := rfl
theorem q_tys1 (G : qG) : (q_tys G)[1]? = some (G.2.2.1.2.1, .boolean) := rfl
theorem q_tys2 (G : qG) : (q_tys G)[2]? = some (G.2.2.1.2.2, .object RX4) := rfl
theorem q_fvI {ty : FieldType} (h : ty.isReference = false) (x y : Int) : q_fv ty x y = .int (Int32.ofInt y) := by unfold q_fv; rw [h]; rfl
theorem q_fvR {ty : FieldType} (h : ty.isReference = true) (x y : Int) : q_fv ty x y = qconc (qa x) := by unfold q_fv; rw [h]; rfl
theorem Aj.get (C : q_C G X cc nL own ret rm) {idx t : Nat} {k : Int} {ty : FieldType} {fin : Bool} (hf : q_FL own idx t k ty fin) {p len : Int} (ha0 : q_al G n p t len) (d : decode cc pc = .ok (.getfield idx, 3)) {v : qV} (hv : q_fv ty (r p k) (h p k) = qconc v) (hvo : (∀ a b, q_r32 (h a b)) → qok v) (kk : Aj G X P cc nL cs n r h (pc + 3) al (v :: st)) : Aj G X P cc nL cs n r h pc al (qa p :: st) := by
  intro H locs ls hW hN hS ha hs hl
  obtain ⟨R, T, N, kn, hc, rfl, hk, hown, hlink, hty, -, ht⟩ := hf
  have hpos := q_pos hW ha0
  obtain ⟨j, hj⟩ := va_pl_get (X := []) (f := q_enc G r h) (q_in_L ha0)
  have he : (va_pl (q_L G n) (q_enc G r h))[j]? = some (p.toNat, .inr (t, q_fs t (r p) (h p))) := by
    rw [← q_enc_o ha0 ht]; exact hj
  show W _ _ _ _ _ _ _ _ _ _ _ _ _ _ _ (F0 _ _ _ (qconc (qa p) :: st.map qconc))
  rw [q_conc_a hpos]
  have hfv := q_fs_at (r := r p) (h := h p) hc hk
  rw [hty, hv] at hfv
  refine va_get (D := G.2.1) (ci := t) (v := qconc v) C.1 C.2.1 C.2.2.2.2.1 (q_cls hc).1 C.2.2.2.1 C.2.2.2.2.2.2.2.2.1 hW.2.2.2.2 j he hc kn hk (C.2.2.2.2.1 _ hlink) (fun x hx => by rw [hown] at hx; exact hx) hfv d ?_
  exact kk H locs ls hW hN hS ha (q_ok1 (q_tl hs) (hvo hW.2.2.2.1)) hl
theorem Aj.getI (C : q_C G X cc nL own ret rm) {idx t : Nat} {k : Int} {ty : FieldType} {fin : Bool} (hf : q_FL own idx t k ty fin) (hty : ty.isReference = false) {p len : Int} (ha0 : q_al G n p t len) (d : decode cc pc = .ok (.getfield idx, 3)) (kk : Aj G X P cc nL cs n r h (pc + 3) al (qi (h p k) :: st)) : Aj G X P cc nL cs n r h pc al (qa p :: st) :=
  Aj.get C hf ha0 d (v := qi (h p k)) (q_fvI hty _ _) (fun hr => hr p k) kk
theorem Aj.getR (C : q_C G X cc nL own ret rm) {idx t : Nat} {k : Int} {ty : FieldType} {fin : Bool} (hf : q_FL own idx t k ty fin) (hty : ty.isReference = true) {p len z : Int} (ha0 : q_al G n p t len) (hz : r p k = z) (d : decode cc pc = .ok (.getfield idx, 3)) (kk : Aj G X P cc nL cs n r h (pc + 3) al (qa z :: st)) : Aj G X P cc nL cs n r h pc al (qa p :: st) :=
  Aj.get C hf ha0 d (v := qa z) (by rw [q_fvR hty, hz]) (fun _ => trivial) kk
theorem q_wset {t kn N : Nat} {R : String} {T : u_T} {p len : Int} {r2 h2 : qH} (ha0 : q_al G n p t len) (ht : t < 10) (hc : vwCl[t]? = some (R, T, N)) (hk : kn < N) {v : Value} (hv : q_fv (q_ty t kn) (r2 p (kn : Int)) (h2 p (kn : Int)) = v)
    (ho : ∀ a b : Int, (a ≠ p ∨ b ≠ (kn : Int)) → r2 a b = r a b ∧ h2 a b = h a b) : va_pl (q_L G n) (va_up (q_enc G r h) p.toNat (.inr (t, (q_fs t (r p) (h p)).set kn v))) = va_pl (q_L G n) (q_enc G r2 h2) := by
  apply q_enc_up
  · rw [q_enc_o ha0 ht, ← hv, q_fs_set hc hk]
    intro j _ hj
    exact ho p j (Or.inr (by omega))
  · intro b hb
    have h1 := q_cast ha0
    have h2 : ((b : Nat) : Int) ≠ p := by omega
    exact ⟨funext fun j => (ho b j (Or.inl h2)).1, funext fun j => (ho b j (Or.inl h2)).2⟩
theorem q_size_of {H1 : Heap} {f : Nat → va_E} {p len : Int} {t : Nat} (ha0 : q_al G n p t len) (hP : va_P G.2.1 vwCl (va_pl (q_L G n) f) H1) : n ≤ (H1.size : Int) := by
  have h1 := ha0.1
  have h2 := ha0.2.1
  have h3 := va_pl_lt (X := []) hP (q_mem_L.mpr (show G.1 ≤ (n - 1).toNat ∧ (n - 1).toNat < n.toNat by omega))
  omega
theorem Aj.put (C : q_C G X cc nL own ret rm) {idx t : Nat} {k : Int} {ty : FieldType} {fin : Bool} (hf : q_FL own idx t k ty fin) {p len : Int} (ha0 : q_al G n p t len) (hfin : fin = false ∨ ((xme X).name = "<init>" ∧ (vwCl[t]?).map (fun q => q.1) = some own)) (d : decode cc pc = .ok (.putfield idx, 3)) {v : qV} {r2 h2 : qH} (hv : q_fv ty (r2 p k) (h2 p k) = qconc v) (hn : narrow ty (qconc v) = qconc v) (hfit : fits ty (qconc v) = true)
    (ho : ∀ a b : Int, (a ≠ p ∨ b ≠ k) → r2 a b = r a b ∧ h2 a b = h a b) (hrg : qok v → (∀ a b, q_r32 (h a b)) → ∀ a b, q_r32 (h2 a b)) (kk : Aj G X P cc nL cs n r2 h2 (pc + 3) al st) : Aj G X P cc nL cs n r h pc al (v :: qa p :: st) := by
  intro H locs ls hW hN hS ha hs hl
  obtain ⟨R, T, N, kn, hc, rfl, hk, hown, hlink, hty, hfi, ht⟩ := hf
  have hpos := q_pos hW ha0
  obtain ⟨j, hj⟩ := va_pl_get (X := []) (f := q_enc G r h) (q_in_L ha0)
  have he : (va_pl (q_L G n) (q_enc G r h))[j]? = some (p.toNat, .inr (t, q_fs t (r p) (h p))) := by
    rw [← q_enc_o ha0 ht]; exact hj
  show W _ _ _ _ _ _ _ _ _ _ _ _ _ _ _ (F0 _ _ _ (qconc v :: qconc (qa p) :: st.map qconc))
  rw [q_conc_a hpos]
  have hcl := q_cls hc
  have hD := q_pl_D G n (q_enc G r h)
  have hset : (va_pl (q_L G n) (q_enc G r h)).set j (p.toNat, .inr (t, (q_fs t (r p) (h p)).set kn (qconc v))) = va_pl (q_L G n) (q_enc G r2 h2) := by
    have h1 := va_pl_set (X := []) (f := q_enc G r h) (e := .inr (t, (q_fs t (r p) (h p)).set kn (qconc v))) hD (q_in_L ha0) hj
    refine Eq.trans h1 ?_
    exact q_wset ha0 ht hc hk (by rw [hty]; exact hv) ho
  have go : ∀ (H1 : Heap) (locs1 : List Loc), va_P G.2.1 vwCl ((va_pl (q_L G n) (q_enc G r h)).set j (p.toNat, .inr (t, (q_fs t (r p) (h p)).set kn (qconc v)))) H1 → va_S (qA G) (xs X).heap H1 locs1 → W (xp X) (xl X) (xe X) (xR X) (xs X) (xm X) (xa X) (xb X) (xme X) (xc X) H1 locs1 cs.1 cs.2 (MQ (xb X) (q_Qc G P (((xs X).heap.size : Int) + (xmc X).1)) (xa X) (xs X) (xmc X).1 (xmc X).2 (qA G)) (F0 (xm X) (pc + 3) ls (st.map qconc)) := by
    intro H1 locs1 hP hS1
    rw [hset] at hP
    exact kk H1 locs1 ls ⟨hW.1, hW.2.1, q_size_of ha0 hP, hrg (q_hd hs) hW.2.2.2.1, hP⟩ hN hS1 ha (q_tl (q_tl hs)) hl
  have hlen : kn < (q_fs t (r p) (h p)).length := by rw [q_fs_len hc]; exact hk
  have hdsc : parseFieldDescriptor (T kn).2.2.1 = some ty := by rw [← hty]; exact hcl.2.1 kn hk
  have hsame : ∀ x, (xs X).fieldFound? (T kn).1 (T kn).2.1 (T kn).2.2.1 = some x → (xs X).fieldFound? R (T kn).2.1 (T kn).2.2.1 = some x := fun x hx => by rw [hown] at hx; exact hx
  rcases hfin with hfin | ⟨hin, hR⟩
  · exact va_put (ty := ty) C.1 C.2.1 C.2.2.2.2.1 hcl.1 (q_ty t) hcl.2.1 hcl.2.2.1 C.2.2.2.1 C.2.2.2.2.2.2.2.2.1 hW.2.2.2.2 hD hS j he hc kn hk (C.2.2.2.2.1 _ hlink) hsame (by rw [hfi]; exact hfin) hdsc hn hfit hlen d (fun H1 locs1 h1 _ h3 => go H1 locs1 h1 h3)
  · by_cases hfb : fin = false
    · exact va_put (ty := ty) C.1 C.2.1 C.2.2.2.2.1 hcl.1 (q_ty t) hcl.2.1 hcl.2.2.1 C.2.2.2.1 C.2.2.2.2.2.2.2.2.1 hW.2.2.2.2 hD hS j he hc kn hk (C.2.2.2.2.1 _ hlink) hsame (by rw [hfi]; exact hfb) hdsc hn hfit hlen d (fun H1 locs1 h1 _ h3 => go H1 locs1 h1 h3)
    · have hRo : R = own := by
        rw [hc] at hR
        exact Option.some.inj hR
      exact va_putF (ty := ty) C.1 C.2.1 C.2.2.2.2.1 hcl.1 (q_ty t) hcl.2.1 hcl.2.2.1 C.2.2.2.1 C.2.2.2.2.2.2.2.2.1 hW.2.2.2.2 hD hS j he hc kn hk (C.2.2.2.2.1 _ hlink) hsame (by rw [hfi]; simpa using hfb) hin (by rw [hown, hRo]) hdsc hn hfit hlen d (fun H1 locs1 h1 _ h3 => go H1 locs1 h1 h3)
theorem Aj.putI (C : q_C G X cc nL own ret rm) {idx t : Nat} {k : Int} (hf : q_FL own idx t k .int false) {p len : Int} (ha0 : q_al G n p t len) (d : decode cc pc = .ok (.putfield idx, 3)) {z : Int} (kk : ∀ h2, h2 = hset h p k z → Aj G X P cc nL cs n r h2 (pc + 3) al st) : Aj G X P cc nL cs n r h pc al (qi z :: qa p :: st) :=
  Aj.put C hf ha0 (Or.inl rfl) d (r2 := r) (h2 := hset h p k z) (by rw [hset_same]; rfl) rfl rfl (fun a b hn => ⟨rfl, hset_ne h z hn⟩) (fun h1 h2 => q_rg h2 h1) (kk _ rfl)
theorem q_zb {z : Int} (hz : z = 0 ∨ z = 1) : narrow .boolean (qconc (qi z)) = qconc (qi z) ∧ fits .boolean (qconc (qi z)) = true := by
  rcases hz with rfl | rfl <;> exact ⟨by decide, by decide⟩
theorem Aj.putZ (C : q_C G X cc nL own ret rm) {idx t : Nat} {k : Int} (hf : q_FL own idx t k .boolean false) {p len : Int} (ha0 : q_al G n p t len) (d : decode cc pc = .ok (.putfield idx, 3)) {z : Int} (hz : z = 0 ∨ z = 1) (kk : ∀ h2, h2 = hset h p k z → Aj G X P cc nL cs n r h2 (pc + 3) al st) : Aj G X P cc nL cs n r h pc al (qi z :: qa p :: st) :=
  Aj.put C hf ha0 (Or.inl rfl) d (r2 := r) (h2 := hset h p k z) (by rw [hset_same]; rfl) (q_zb hz).1 (q_zb hz).2 (fun a b hn => ⟨rfl, hset_ne h z hn⟩) (fun h1 h2 => q_rg h2 h1) (kk _ rfl)
theorem Aj.putR (C : q_C G X cc nL own ret rm) {idx t : Nat} {k : Int} {ty : FieldType} (hf : q_FL own idx t k ty true) (hty : ty.isReference = true) {p len : Int} (ha0 : q_al G n p t len) (hin : (xme X).name = "<init>") (hR : (vwCl[t]?).map (fun q => q.1) = some own) (d : decode cc pc = .ok (.putfield idx, 3)) {z : Int} (kk : ∀ r2, r2 = hset r p k z → Aj G X P cc nL cs n r2 h (pc + 3) al st) : Aj G X P cc nL cs n r h pc al (qa z :: qa p :: st) := by
  have e : narrow ty (qconc (qa z)) = qconc (qa z) ∧ fits ty (qconc (qa z)) = true := by
    show narrow ty (va_rf (q_opt z)) = va_rf (q_opt z) ∧ fits ty (va_rf (q_opt z)) = true
    cases ty <;> first | (exact absurd hty (by decide)) | (cases q_opt z <;> exact ⟨rfl, rfl⟩)
  exact Aj.put C hf ha0 (Or.inr ⟨hin, hR⟩) d (r2 := hset r p k z) (h2 := h) (by rw [q_fvR hty, hset_same]) e.1 e.2 (fun a b hn => ⟨hset_ne r z hn, rfl⟩) (fun _ h2 => h2) (kk _ rfl)
/-! arrays -/
theorem q_vin {z len : Int} (hz : q_r32 z) (h0 : 0 ≤ z) (h1 : z < len) : vp_in (Int32.ofInt z) len.toNat := by
  rw [vp_in_iff, q_i32 hz]
  omega
theorem q_cidx {z : Int} (hz : q_r32 z) (h0 : 0 ≤ z) : (((Int32.ofInt z).toNatClampNeg : Nat) : Int) = z := by rw [q_clamp hz]; omega
theorem Aj.iald (C : q_C G X cc nL own ret rm) {p z len : Int} (ha0 : q_al G n p 10 len) (hz : 0 ≤ z ∧ z < len) (d : decode cc pc = .ok (.iaload, 1)) (kk : Aj G X P cc nL cs n r h (pc + 1) al (qi (h p z) :: st)) : Aj G X P cc nL cs n r h pc al (qi z :: qa p :: st) := by
  intro H locs ls hW hN hS ha hs hl
  have rz : q_r32 z := q_hd hs
  obtain ⟨j, hj⟩ := va_pl_get (X := []) (f := q_enc G r h) (q_in_L ha0)
  rw [q_enc_i ha0] at hj
  show W _ _ _ _ _ _ _ _ _ _ _ _ _ _ _ (F0 _ _ _ (qconc (qi z) :: qconc (qa p) :: st.map qconc))
  rw [q_conc_a (q_pos hW ha0)]
  refine va_iald C.1 C.2.1 C.2.2.2.2.2.2.2.2.1 hW.2.2.2.2 j 0 hj (q_tys0 G) (q_vin rz hz.1 hz.2) d ?_
  rw [q_cidx rz hz.1]
  exact kk H locs ls hW hN hS ha (q_ok1 (q_tl (q_tl hs)) (hW.2.2.2.1 p z)) hl
theorem Aj.zald (C : q_C G X cc nL own ret rm) {p z len : Int} (ha0 : q_al G n p 11 len) (hz : 0 ≤ z ∧ z < len) (d : decode cc pc = .ok (.baload, 1)) (kk : Aj G X P cc nL cs n r h (pc + 1) al (qi (h p z) :: st)) : Aj G X P cc nL cs n r h pc al (qi z :: qa p :: st) := by
  intro H locs ls hW hN hS ha hs hl
  have rz : q_r32 z := q_hd hs
  obtain ⟨j, hj⟩ := va_pl_get (X := []) (f := q_enc G r h) (q_in_L ha0)
  rw [q_enc_z ha0] at hj
  show W _ _ _ _ _ _ _ _ _ _ _ _ _ _ _ (F0 _ _ _ (qconc (qi z) :: qconc (qa p) :: st.map qconc))
  rw [q_conc_a (q_pos hW ha0)]
  refine va_zald C.1 C.2.1 C.2.2.2.2.2.2.2.2.1 hW.2.2.2.2 j 1 hj (q_tys1 G) (q_vin rz hz.1 hz.2) d ?_
  rw [q_cidx rz hz.1]
  exact kk H locs ls hW hN hS ha (q_ok1 (q_tl (q_tl hs)) (hW.2.2.2.1 p z)) hl
theorem Aj.aald (C : q_C G X cc nL own ret rm) {p z w len : Int} (ha0 : q_al G n p 12 len) (hz : 0 ≤ z ∧ z < len) (hw : r p z = w) (d : decode cc pc = .ok (.aaload, 1)) (kk : Aj G X P cc nL cs n r h (pc + 1) al (qa w :: st)) : Aj G X P cc nL cs n r h pc al (qi z :: qa p :: st) := by
  intro H locs ls hW hN hS ha hs hl
  have rz : q_r32 z := q_hd hs
  subst hw
  obtain ⟨j, hj⟩ := va_pl_get (X := []) (f := q_enc G r h) (q_in_L ha0)
  rw [q_enc_q ha0] at hj
  show W _ _ _ _ _ _ _ _ _ _ _ _ _ _ _ (F0 _ _ _ (qconc (qi z) :: qconc (qa p) :: st.map qconc))
  rw [q_conc_a (q_pos hW ha0)]
  refine va_aldq C.1 C.2.1 C.2.2.2.2.2.2.2.2.1 hW.2.2.2.2 j 2 hj (q_tys2 G) (q_vin rz hz.1 hz.2) d ?_
  rw [q_cidx rz hz.1]
  exact kk H locs ls hW hN hS ha (q_ok1 (q_tl (q_tl hs)) (v := qa (r p z)) trivial) hl
theorem q_aset {p len : Int} {r2 h2 : qH} {t : Nat} (ha0 : q_al G n p t len) {e : va_E} (he : q_enc G r2 h2 p.toNat = e) (ho : ∀ a b : Int, a ≠ p → r2 a b = r a b ∧ h2 a b = h a b) : va_pl (q_L G n) (va_up (q_enc G r h) p.toNat e) = va_pl (q_L G n) (q_enc G r2 h2) := by
  apply q_enc_up he
  intro b hb
  have h1 := q_cast ha0
  have h2 : ((b : Nat) : Int) ≠ p := by omega
  exact ⟨funext fun j => (ho b j h2).1, funext fun j => (ho b j h2).2⟩
theorem Aj.iast (C : q_C G X cc nL own ret rm) {p z v len : Int} (ha0 : q_al G n p 10 len) (hz : 0 ≤ z ∧ z < len) (d : decode cc pc = .ok (.iastore, 1)) (kk : ∀ h2, h2 = hset h p z v → Aj G X P cc nL cs n r h2 (pc + 1) al st) : Aj G X P cc nL cs n r h pc al (qi v :: qi z :: qa p :: st) := by
  intro H locs ls hW hN hS ha hs hl
  have rz : q_r32 z := q_hd (q_tl hs)
  have rv : q_r32 v := q_hd hs
  obtain ⟨j, hj⟩ := va_pl_get (X := []) (f := q_enc G r h) (q_in_L ha0)
  have hD := q_pl_D G n (q_enc G r h)
  have hst := fun e => va_pl_set (X := []) (f := q_enc G r h) (e := e) hD (q_in_L ha0) hj
  rw [q_enc_i ha0] at hj
  show W _ _ _ _ _ _ _ _ _ _ _ _ _ _ _ (F0 _ _ _ (qconc (qi v) :: qconc (qi z) :: qconc (qa p) :: st.map qconc))
  rw [q_conc_a (q_pos hW ha0)]
  refine va_iast C.1 C.2.1 C.2.2.2.2.2.2.2.2.1 hW.2.2.2.2 hD hS j 0 hj (q_tys0 G) (q_vin rz hz.1 hz.2) d (fun H1 locs1 hP _ hS1 => ?_)
  have e1 := hst (.inl (G.2.2.1.1, len.toNat, .inl (upd (fun j => Int32.ofInt (h p (j : Int))) (Int32.ofInt z).toNatClampNeg (Int32.ofInt v))))
  rw [List.nil_append, List.nil_append] at e1
  rw [e1, q_aset (r2 := r) (h2 := hset h p z v) ha0 ?_ ?_] at hP
  · exact kk _ rfl H1 locs1 ls ⟨hW.1, hW.2.1, q_size_of ha0 hP, q_rg hW.2.2.2.1 rv, hP⟩ hN hS1 ha (q_tl (q_tl (q_tl hs))) hl
  · rw [q_enc_i ha0]
    congr 4
    funext i
    unfold upd hset
    rw [q_clamp rz]
    by_cases hi : i = z.toNat
    · rw [if_pos hi, if_pos ⟨rfl, by omega⟩]
    · rw [if_neg hi, if_neg (by omega)]
  · exact fun a b hn => ⟨rfl, hset_nea h v b hn⟩
theorem Aj.zast (C : q_C G X cc nL own ret rm) {p z v len : Int} (ha0 : q_al G n p 11 len) (hz : 0 ≤ z ∧ z < len) (hv : v = 0 ∨ v = 1) (d : decode cc pc = .ok (.bastore, 1)) (kk : ∀ h2, h2 = hset h p z v → Aj G X P cc nL cs n r h2 (pc + 1) al st) : Aj G X P cc nL cs n r h pc al (qi v :: qi z :: qa p :: st) := by
  intro H locs ls hW hN hS ha hs hl
  have rz : q_r32 z := q_hd (q_tl hs)
  have rv : q_r32 v := q_hd hs
  obtain ⟨j, hj⟩ := va_pl_get (X := []) (f := q_enc G r h) (q_in_L ha0)
  have hD := q_pl_D G n (q_enc G r h)
  have hst := fun e => va_pl_set (X := []) (f := q_enc G r h) (e := e) hD (q_in_L ha0) hj
  rw [q_enc_z ha0] at hj
  show W _ _ _ _ _ _ _ _ _ _ _ _ _ _ _ (F0 _ _ _ (qconc (qi v) :: qconc (qi z) :: qconc (qa p) :: st.map qconc))
  rw [q_conc_a (q_pos hW ha0)]
  refine va_zast C.1 C.2.1 C.2.2.2.2.2.2.2.2.1 hW.2.2.2.2 hD hS j 1 hj (q_tys1 G) (q_vin rz hz.1 hz.2) d (fun H1 locs1 hP _ hS1 => ?_)
  have e1 := hst (.inl (G.2.2.1.2.1, len.toNat, .inl (upd (fun j => Int32.ofInt (h p (j : Int))) (Int32.ofInt z).toNatClampNeg (vp_nar .boolean (Int32.ofInt v)))))
  have e2 : vp_nar .boolean (Int32.ofInt v) = Int32.ofInt v := by rcases hv with rfl | rfl <;> decide
  rw [List.nil_append, List.nil_append] at e1
  rw [e1, e2, q_aset (r2 := r) (h2 := hset h p z v) ha0 ?_ ?_] at hP
  · exact kk _ rfl H1 locs1 ls ⟨hW.1, hW.2.1, q_size_of ha0 hP, q_rg hW.2.2.2.1 rv, hP⟩ hN hS1 ha (q_tl (q_tl (q_tl hs))) hl
  · rw [q_enc_z ha0]
    congr 4
    funext i
    unfold upd hset
    rw [q_clamp rz]
    by_cases hi : i = z.toNat
    · rw [if_pos hi, if_pos ⟨rfl, by omega⟩]
    · rw [if_neg hi, if_neg (by omega)]
  · exact fun a b hn => ⟨rfl, hset_nea h v b hn⟩
theorem Aj.aast (C : q_C G X cc nL own ret rm) {p z w len lw : Int} (ha0 : q_al G n p 12 len) (hw0 : q_al G n w 4 lw) (hz : 0 ≤ z ∧ z < len) (d : decode cc pc = .ok (.aastore, 1)) (kk : ∀ r2, r2 = hset r p z w → Aj G X P cc nL cs n r2 h (pc + 1) al st) : Aj G X P cc nL cs n r h pc al (qa w :: qi z :: qa p :: st) := by
  intro H locs ls hW hN hS ha hs hl
  have rz : q_r32 z := q_hd (q_tl hs)
  obtain ⟨j, hj⟩ := va_pl_get (X := []) (f := q_enc G r h) (q_in_L ha0)
  obtain ⟨j2, hj2⟩ := va_pl_get (X := []) (f := q_enc G r h) (q_in_L hw0)
  have hD := q_pl_D G n (q_enc G r h)
  have hst := fun e => va_pl_set (X := []) (f := q_enc G r h) (e := e) hD (q_in_L ha0) hj
  rw [q_enc_q ha0] at hj
  rw [q_enc_o hw0 (by decide)] at hj2
  show W _ _ _ _ _ _ _ _ _ _ _ _ _ _ _ (F0 _ _ _ (qconc (qa w) :: qconc (qi z) :: qconc (qa p) :: st.map qconc))
  rw [q_conc_a (q_pos hW ha0), q_conc_a (q_pos hW hw0)]
  refine va_astq (r := (RX4, TX4, 8)) C.1 C.2.1 C.2.2.2.2.2.2.2.2.1 hW.2.2.2.2 hD hS j 2 j2 4 hj (q_tys2 G) hj2 rfl (q_vin rz hz.1 hz.2) d (fun H1 locs1 hP _ hS1 => ?_)
  have e1 := hst (.inl (G.2.2.1.2.2, len.toNat, .inr (.inr (.inr (.inr (va_up (fun j => q_opt (r p (j : Int))) (Int32.ofInt z).toNatClampNeg (some w.toNat)))))))
  rw [List.nil_append, List.nil_append] at e1
  rw [e1, q_aset (r2 := hset r p z w) (h2 := h) ha0 ?_ ?_] at hP
  · exact kk _ rfl H1 locs1 ls ⟨hW.1, hW.2.1, q_size_of ha0 hP, hW.2.2.2.1, hP⟩ hN hS1 ha (q_tl (q_tl (q_tl hs))) hl
  · rw [q_enc_q ha0]
    congr 7
    funext i
    unfold va_up hset
    rw [q_clamp rz]
    by_cases hi : i = z.toNat
    · rw [if_pos hi, if_pos ⟨rfl, by omega⟩]
      unfold q_opt
      rw [if_neg (by have := q_pos hW hw0; omega)]
    · rw [if_neg hi, if_neg (by omega)]
  · exact fun a b hn => ⟨hset_nea r w b hn, rfl⟩
theorem Aj.alen (C : q_C G X cc nL own ret rm) {p len : Int} {t : Nat} (ha0 : q_al G n p t len) (ht : t = 10 ∨ t = 11 ∨ t = 12) (hlen : len ≤ 2147483647) (d : decode cc pc = .ok (.arraylength, 1)) (kk : Aj G X P cc nL cs n r h (pc + 1) al (qi len :: st)) : Aj G X P cc nL cs n r h pc al (qa p :: st) := by
  intro H locs ls hW hN hS ha hs hl
  have h0 := ha0.2.2.2
  obtain ⟨j, hj⟩ := va_pl_get (X := []) (f := q_enc G r h) (q_in_L ha0)
  show W _ _ _ _ _ _ _ _ _ _ _ _ _ _ _ (F0 _ _ _ (qconc (qa p) :: st.map qconc))
  rw [q_conc_a (q_pos hW ha0)]
  have hv : Int32.ofNat len.toNat = Int32.ofInt len := by
    apply Int32.toInt_inj.mp
    rw [q_i32 (by omega), toInt_of rfl (by omega)]
    omega
  have k1 := kk H locs ls hW hN hS ha (q_ok1 (q_tl hs) (show q_r32 len by omega)) hl
  rcases ht with rfl | rfl | rfl
  · rw [q_enc_i ha0] at hj
    exact va_alen C.1 C.2.1 C.2.2.2.2.2.2.2.2.1 hW.2.2.2.2 j 0 hj (q_tys0 G) hv d k1
  · rw [q_enc_z ha0] at hj
    exact va_alen C.1 C.2.1 C.2.2.2.2.2.2.2.2.1 hW.2.2.2.2 j 1 hj (q_tys1 G) hv d k1
  · rw [q_enc_q ha0] at hj
    exact va_alen C.1 C.2.1 C.2.2.2.2.2.2.2.2.1 hW.2.2.2.2 j 2 hj (q_tys2 G) hv d k1
end
end
section
section
variable {G : qG} {X : qX} {P : qP} {cc : ByteArray} {nL : Nat} {own : String} {ret : Option FieldType} {rm : Room} {cs : Nat × Nat} {n : Int} {r h : qH} {pc : Nat} {al al2 : List (Nat × qV)} {st : List qV}
/-! returns -/
theorem q_ret {v : Option qV} {H : Heap} {locs : List Loc} (hok : ∀ w, v = some w → qok w) (hp : P v r h) (hW : q_Wh G n r h H) (hN : ((xs X).heap.size : Int) + cs.1 = n) (hcs : cs.1 = (xmc X).1) (hS : va_S (qA G) (xs X).heap H locs) (t : State) (ht : t.heap = H) (a : Array Value) :
    q_Qc G P (((xs X).heap.size : Int) + (xmc X).1) a (xs X) (.returned (v.map qconc)) t := by
  refine ⟨⟨v, r, h, rfl, hok, hp, ?_⟩, hS.F ht⟩
  rw [ht, ← hcs, hN]
  exact hW
theorem Aj.iret (C : q_C G X cc nL own (some .int) rm) {z : Int} (d : decode cc pc = .ok (.ireturn, 1)) (hc : cs.1 = (xmc X).1 ∧ cs.2 ≤ (xmc X).2) (hp : P (some (qi z)) r h) : Aj G X P cc nL cs n r h pc al [qi z] := by
  intro H locs ls hW hN hS ha hs hl
  refine W.widen (k := (xmc X).1) (n := (xmc X).2) (Nat.le_of_eq hc.1) hc.2 ?_
  exact W.iret (v := Int32.ofInt z) C.1 C.2.1 C.2.2.2.2.2.1 (fun t ht _ => q_ret (v := some (qi z)) (fun w hw => by cases hw; exact q_hd hs) hp hW hN hc.1 hS t ht _) hS.2.2 d C.2.2.2.2.2.2.1
theorem Aj.zret (C : q_C G X cc nL own (some .boolean) rm) {z : Int} (d : decode cc pc = .ok (.ireturn, 1)) (hz : z = 0 ∨ z = 1) (hc : cs.1 = (xmc X).1 ∧ cs.2 ≤ (xmc X).2) (hp : P (some (qi z)) r h) : Aj G X P cc nL cs n r h pc al [qi z] := by
  intro H locs ls hW hN hS ha hs hl
  refine W.widen (k := (xmc X).1) (n := (xmc X).2) (Nat.le_of_eq hc.1) hc.2 ?_
  exact W.zret (v := Int32.ofInt z) (ty := .boolean) C.1 C.2.1 C.2.2.2.2.2.1 (q_zb hz).1 (fun t ht _ => q_ret (v := some (qi z)) (fun w hw => by cases hw; exact q_hd hs) hp hW hN hc.1 hS t ht _) hS.2.2 d C.2.2.2.2.2.2.1
theorem Aj.vret (C : q_C G X cc nL own none rm) (d : decode cc pc = .ok (.return_, 1)) (hc : cs.1 = (xmc X).1 ∧ cs.2 ≤ (xmc X).2) (hp : P none r h) : Aj G X P cc nL cs n r h pc al [] := by
  intro H locs ls hW hN hS ha hs hl
  refine W.widen (k := (xmc X).1) (n := (xmc X).2) (Nat.le_of_eq hc.1) hc.2 ?_
  exact W.vret C.1 C.2.1 C.2.2.2.2.2.1 (fun t ht _ => q_ret (v := none) (fun w hw => by cases hw) hp hW hN hc.1 hS t ht _) hS.2.2 d C.2.2.2.2.2.2.1
theorem Aj.aret {C0 : String} (C : q_C G X cc nL own (some (.object C0)) rm) {z : Int} (d : decode cc pc = .ok (.areturn, 1)) (hc : cs.1 = (xmc X).1 ∧ cs.2 ≤ (xmc X).2) (hp : P (some (qa z)) r h) : Aj G X P cc nL cs n r h pc al [qa z] := by
  intro H locs ls hW hN hS ha hs hl
  refine W.widen (k := (xmc X).1) (n := (xmc X).2) (Nat.le_of_eq hc.1) hc.2 ?_
  refine W.aret (v := qconc (qa z)) (rt := .object C0) C.1 C.2.1 C.2.2.2.2.2.1 (Or.inl ⟨_, rfl⟩) ?_ (fun t ht _ => q_ret (v := some (qa z)) (fun w hw => by cases hw; exact trivial) hp hW hN hc.1 hS t ht _) hS.2.2 d C.2.2.2.2.2.2.1
  show va_rf (q_opt z) = .null ∨ ∃ a, va_rf (q_opt z) = .ref a
  cases q_opt z with
  | none => exact Or.inl rfl
  | some a => exact Or.inr ⟨a, rfl⟩
/-! calls -/
def q_sum (st : List qV) : Nat := (st.map fun v => if q_is2 v = true then 2 else 1).sum
theorem q_sum_eq (st : List qV) : ((st.map qconc).map fun v => v.category).sum = q_sum st := by
  unfold q_sum
  rw [List.map_map]
  congr 1
  apply List.map_congr_left
  intro v _
  exact q_cat v
theorem q_exact {T : State} {H : Heap} {locs : List Loc} {ca sl : Nat} (hT : T.heap = H) (S : Stand (xp X) (xl X) (xe X) (xR X) (xs X) (xm X) (xa X) (xb X) (xme X) (xc X) T locs ca sl) (hN : ((xs X).heap.size : Int) + ca = n) (hW : q_Wh G n r h H) : (H.size : Int) = n := by
  have h1 : T.heap.size ≤ (xs X).heap.size + ca := S.same.2.2.1
  have h2 := hW.2.2.1
  rw [hT] at h1
  omega
theorem q_call {P' : qP} {mc ms : Nat} {st0 : List qV} {rest : List qV} {a : Array Value} {H : Heap} {locs : List Loc} {ls : Array Slot} (hN : ((xs X).heap.size : Int) + cs.1 = n) (hS : va_S (qA G) (xs X).heap H locs)
    (hr : ∀ T : State, T.heap = H → Stand (xp X) (xl X) (xe X) (xR X) (xs X) (xm X) (xa X) (xb X) (xme X) (xc X) T locs cs.1 cs.2 → va_Run (xp X) (xl X) (xe X) (xR X) (xs X) (xm X) (xa X) (xb X) (xme X) (xc X) H locs cs.1 cs.2 mc ms (F0 (xm X) pc ls (st0.map qconc)) (rest.map qconc) (q_Qc G P' (n + mc) a) (qA G))
    (ha : ∀ q ∈ al, qok q.2) (hs : ∀ v ∈ rest, qok v) (hl : lv_has ls nL (al.map q_lc))
    (k : ∀ (v : Option qV) (r2 h2 : qH), (∀ w, v = some w → qok w) → P' v r2 h2 → Aj G X P cc nL (cs.1 + mc, cs.2 + ms) (n + mc) r2 h2 (pc + 3) al (v.toList ++ rest)) :
    W (xp X) (xl X) (xe X) (xR X) (xs X) (xm X) (xa X) (xb X) (xme X) (xc X) H locs cs.1 cs.2 (MQ (xb X) (q_Qc G P (((xs X).heap.size : Int) + (xmc X).1)) (xa X) (xs X) (xmc X).1 (xmc X).2 (qA G)) (F0 (xm X) pc ls (st0.map qconc)) := by
  intro T hT S
  obtain ⟨v, st₀, t, T', L, h0, S', hL, e1, e2, ⟨⟨v0, r2, h2, hv, hok, hp, hw2⟩, hz, hk⟩, stp⟩ := hr T hT S T hT S
  rw [h0] at hz hk
  have hvv : v = v0.map qconc := Outcome.returned.inj hv
  subst hvv
  rw [← e1] at hw2 hz hk
  have k1 := k v0 r2 h2 hok hp T'.heap (locs ++ L) ls hw2 (by show ((xs X).heap.size : Int) + ((cs.1 + mc : Nat) : Int) = n + mc; rw [← hN]; omega)
    ⟨Nat.le_trans hS.1 hz, fun q h1 h2 => by rw [hk q (Nat.lt_of_lt_of_le h1 hS.1) h2]; exact hS.2.1 q h1 h2, fun q hq => by
      rcases List.mem_append.mp hq with h | h
      · exact hS.2.2 q h
      · exact hL q h⟩ ha (fun w hw => by
      rcases List.mem_append.mp hw with h | h
      · cases v0 with
        | none => cases h
        | some x =>
          have hx : w = x := by simpa using h
          rw [hx]
          exact hok x rfl
      · exact hs w h) hl T' rfl S'
  obtain ⟨t2, a1, b1⟩ := k1
  refine ⟨t2, stp t2 ?_, b1⟩
  have e3 : (v0.map qconc).toList ++ rest.map qconc = (v0.toList ++ rest).map qconc := by
    rw [List.map_append]
    cases v0 <;> rfl
  rw [e3]
  exact a1
/-- the words of a callee -/
theorem q_cb {y : MethodName} {cc' : ByteArray} {mL np : Nat} {ret' : Option FieldType} {fr lo mc ms idx : Nat} (C : q_C G X cc nL own ret rm) (hm : q_M y cc' mL ret' np) (hl : Cond.methodLink own idx y ∈ q_tbl) (hroom : fr + 1 ≤ rm.frames ∧ 8 + (mL + 11) + lo ≤ rm.locals) :
    CallB (xR X) (xs X) (xa X) own idx y cc' mL ret' (Cond.code y cc' mL ret' :: q_tbl) (q_rm fr lo mc ms) mc ms np := by
  refine callB_of (Ts := q_tbl) (ws' := q_tbl) np C.2.2.2.2.1 (fun w hw => ?_) rfl rfl rfl (C.2.2.2.2.1 _ hm.2.1) (C.2.2.2.2.1 _ hl) ⟨hm.2.2.1, hm.2.2.2.1, hm.2.2.2.2.2⟩ ?_
  · rcases List.mem_cons.mp hw with rfl | hw
    · exact q_tbl_self _ hm.1
    · exact q_tbl_self _ hw
  · rw [C.2.2.2.2.2.2.2.1]; exact hroom
theorem q_cbN {y : MethodName} {cc' : ByteArray} {mL np : Nat} {ret' : Option FieldType} {fr lo mc ms idx : Nat} {host : String} (C : q_C G X cc nL own ret rm) (hm : q_M y cc' mL ret' np) (hl : Cond.methodLinkNest own idx y host ∈ q_nest) (hroom : fr + 1 ≤ rm.frames ∧ 8 + (mL + 11) + lo ≤ rm.locals) :
    va_CN (xR X) (xs X) (xa X) own idx y host cc' mL ret' (Cond.code y cc' mL ret' :: q_tbl) (q_rm fr lo mc ms) mc ms np := by
  refine va_cnB (Ts := q_tbl) (ws' := q_tbl) np C.2.2.2.2.1 (fun w hw => ?_) rfl rfl rfl (C.2.2.2.2.2.2.2.2.2.1 _ hl) (C.2.2.2.2.1 _ hm.2.1) ⟨hm.2.2.1, hm.2.2.2.1, hm.2.2.2.2.2⟩ ?_
  · rcases List.mem_cons.mp hw with rfl | hw
    · exact q_tbl_self _ hm.1
    · exact q_tbl_self _ hw
  · rw [C.2.2.2.2.2.2.2.1]; exact hroom
theorem q_pre {as : List qV} {H : Heap} (C : q_C G X cc nL own ret rm) (hW : q_Wh G n r h H) (hz : (H.size : Int) = n) (U : State) (hU : U.heap = H) (hw : (xs X).WarmedH U.vm) : va_Pc (as.map qconc) (fun U => q_En G U ∧ q_Wh G n r h U.heap ∧ (U.heap.size : Int) = n) ((as.map qconc).toArray) U :=
  ⟨rfl, C.2.2.2.2.2.2.2.2.warm hw, by rw [hU]; exact hW, by rw [hU]; exact hz⟩
theorem q_asok {As st : List qV} {p : qV} (h : ∀ v ∈ As.reverse ++ p :: st, qok v) : (∀ v ∈ p :: As, qok v) ∧ ∀ v ∈ st, qok v := by
  refine ⟨fun v hv => ?_, fun v hv => h v (List.mem_append_right _ (List.mem_cons_of_mem _ hv))⟩
  rcases List.mem_cons.mp hv with rfl | hv
  · exact h _ (List.mem_append_right _ List.mem_cons_self)
  · exact h v (List.mem_append_left _ (List.mem_reverse.mpr hv))
theorem Aj.callV (C : q_C G X cc nL own ret rm) {y : MethodName} {cc' : ByteArray} {mL np : Nat} {ret' : Option FieldType} {fr lo mc ms idx : Nat} {P' : qP} {p len : Int} {t : Nat} {R : String} {T : u_T} {N : Nat} {As st2 : List qV} (hl : Cond.methodLink own idx y ∈ q_tbl) (hm : q_M y cc' mL ret' np) (hi : Cond.instanceMethod y ∈ q_tbl) (hsel : Cond.selects y.cls y y ∈ q_tbl)
    (hM : q_Cm (xl X) G y cc' mL ret' fr lo (qa p :: As) n r h P' mc ms) (ha0 : q_al G n p t len) (hc : vwCl[t]? = some (R, T, N)) (hR : R = y.cls) (hst : st2 = As.reverse ++ qa p :: st) (hnp : As.length = np) (hroom : fr + 1 ≤ rm.frames ∧ 8 + (mL + 11) + lo ≤ rm.locals) (hsum : q_sum st ≤ 8) (hroom2 : cs.1 + mc ≤ rm.cells ∧ cs.2 + ms ≤ rm.slots) (d : decode cc pc = .ok (.invokevirtual idx, 3))
    (k : ∀ (v : Option qV) (r2 h2 : qH), (∀ w, v = some w → qok w) → P' v r2 h2 → Aj G X P cc nL (cs.1 + mc, cs.2 + ms) (n + mc) r2 h2 (pc + 3) al (v.toList ++ st)) : Aj G X P cc nL cs n r h pc al st2 := by
  intro H locs ls hW hN hS ha hs hl2
  subst hst
  obtain ⟨hso, hst⟩ := q_asok hs
  refine q_call (rest := st) (a := (Value.ref p.toNat :: As.map qconc).toArray) hN hS (fun U hU SU => ?_) ha hst hl2 k
  have hz := q_exact hU SU hN hW
  obtain ⟨j, hj⟩ := va_pl_get (X := []) (f := q_enc G r h) (q_in_L ha0)
  have ht10 : t < 10 := by
    rcases Nat.lt_or_ge t 10 with q | q
    · exact q
    · rw [List.getElem?_eq_none (by exact q)] at hc; cases hc
  rw [q_enc_o ha0 ht10] at hj
  have hrv := va_recv C.2.2.2.2.2.2.2.2.1 hW.2.2.2.2 hc hj
  have ep := q_conc_a (q_pos hW ha0)
  have hpr := fun U hU hw => q_pre (as := qa p :: As) C hW hz U hU hw
  rw [List.map_cons, ep] at hpr
  exact va_runV (C := y.cls) (b := p.toNat) (As := As.map qconc) (rest := st.map qconc) (g := F0 (xm X) pc ls ((As.reverse ++ qa p :: st).map qconc)) ⟨C.1, C.2.1, C.2.2.1, C.2.2.2.1, C.2.2.2.2.1⟩ (hM hso) ⟨q_cb (ms := ms) (mc := mc) C hm hl hroom, C.2.2.2.2.1 _ hi, C.2.2.2.2.1 _ hsel⟩
    ⟨q_blind _ _ _ _ _, by rw [← hR]; exact hrv, by
      rw [List.map_cons, ep]
      exact hpr⟩ rfl (by rw [List.length_map]; exact hnp) (hl2.1) (by show (As.reverse ++ qa p :: st).map qconc = _; rw [List.map_append, List.map_cons, ep, List.map_reverse]) (lv_room (by rw [q_sum_eq]; exact hsum)) d ⟨by rw [C.2.2.2.2.2.2.2.1]; exact hroom2.1, by rw [C.2.2.2.2.2.2.2.1]; exact hroom2.2⟩
theorem Aj.callS (C : q_C G X cc nL own ret rm) {y : MethodName} {cc' : ByteArray} {mL np : Nat} {ret' : Option FieldType} {fr lo mc ms idx : Nat} {P' : qP} {As st2 : List qV} (hl : Cond.methodLink own idx y ∈ q_tbl) (hm : q_M y cc' mL ret' np) (hi : Cond.static y ∈ q_tbl)
    (hM : q_Cm (xl X) G y cc' mL ret' fr lo As n r h P' mc ms) (hst : st2 = As.reverse ++ st) (hnp : As.length = np) (hroom : fr + 1 ≤ rm.frames ∧ 8 + (mL + 11) + lo ≤ rm.locals) (hsum : q_sum st ≤ 8) (hroom2 : cs.1 + mc ≤ rm.cells ∧ cs.2 + ms ≤ rm.slots) (d : decode cc pc = .ok (.invokestatic idx, 3))
    (k : ∀ (v : Option qV) (r2 h2 : qH), (∀ w, v = some w → qok w) → P' v r2 h2 → Aj G X P cc nL (cs.1 + mc, cs.2 + ms) (n + mc) r2 h2 (pc + 3) al (v.toList ++ st)) : Aj G X P cc nL cs n r h pc al st2 := by
  intro H locs ls hW hN hS ha hs hl2
  subst hst
  have hso : ∀ v ∈ As, qok v := fun v hv => hs v (List.mem_append_left _ (List.mem_reverse.mpr hv))
  have hst : ∀ v ∈ st, qok v := fun v hv => hs v (List.mem_append_right _ hv)
  refine q_call (rest := st) (a := (As.map qconc).toArray) hN hS (fun U hU SU => ?_) ha hst hl2 k
  have hz := q_exact hU SU hN hW
  exact va_runS (As := As.map qconc) (rest := st.map qconc) (g := F0 (xm X) pc ls ((As.reverse ++ st).map qconc)) ⟨C.1, C.2.1, C.2.2.1, C.2.2.2.1, C.2.2.2.2.1⟩ (hM hso) ⟨q_cb (ms := ms) (mc := mc) C hm hl hroom, C.2.2.2.2.1 _ hi⟩
    ⟨q_blind _ _ _ _ _, fun U hU hw => q_pre C hW hz U hU hw⟩ rfl (by rw [List.length_map]; exact hnp) (hl2.1) (by show (As.reverse ++ st).map qconc = _; rw [List.map_append, List.map_reverse]) (lv_room (by rw [q_sum_eq]; exact hsum)) d ⟨by rw [C.2.2.2.2.2.2.2.1]; exact hroom2.1, by rw [C.2.2.2.2.2.2.2.1]; exact hroom2.2⟩
theorem Aj.callSN (C : q_C G X cc nL own ret rm) {y : MethodName} {cc' : ByteArray} {mL np : Nat} {ret' : Option FieldType} {fr lo mc ms idx : Nat} {host : String} {P' : qP} {As st2 : List qV} (hl : Cond.methodLinkNest own idx y host ∈ q_nest) (hm : q_M y cc' mL ret' np) (hi : Cond.static y ∈ q_tbl)
    (hM : q_Cm (xl X) G y cc' mL ret' fr lo As n r h P' mc ms) (hst : st2 = As.reverse ++ st) (hnp : As.length = np) (hroom : fr + 1 ≤ rm.frames ∧ 8 + (mL + 11) + lo ≤ rm.locals) (hsum : q_sum st ≤ 8) (hroom2 : cs.1 + mc ≤ rm.cells ∧ cs.2 + ms ≤ rm.slots) (d : decode cc pc = .ok (.invokestatic idx, 3))
    (k : ∀ (v : Option qV) (r2 h2 : qH), (∀ w, v = some w → qok w) → P' v r2 h2 → Aj G X P cc nL (cs.1 + mc, cs.2 + ms) (n + mc) r2 h2 (pc + 3) al (v.toList ++ st)) : Aj G X P cc nL cs n r h pc al st2 := by
  intro H locs ls hW hN hS ha hs hl2
  subst hst
  have hso : ∀ v ∈ As, qok v := fun v hv => hs v (List.mem_append_left _ (List.mem_reverse.mpr hv))
  have hst : ∀ v ∈ st, qok v := fun v hv => hs v (List.mem_append_right _ hv)
  refine q_call (rest := st) (a := (As.map qconc).toArray) hN hS (fun U hU SU => ?_) ha hst hl2 k
  have hz := q_exact hU SU hN hW
  exact va_runSN (As := As.map qconc) (rest := st.map qconc) (g := F0 (xm X) pc ls ((As.reverse ++ st).map qconc)) (Ts := q_tbl) ⟨C.1, C.2.1, C.2.2.1, C.2.2.2.1, C.2.2.2.2.1⟩ (hM hso) ⟨q_cbN (ms := ms) (mc := mc) C hm hl hroom, C.2.2.2.2.1 _ hi, trivial⟩
    ⟨q_blind _ _ _ _ _, fun U hU hw => q_pre C hW hz U hU hw⟩ rfl (by rw [List.length_map]; exact hnp) (hl2.1) (by show (As.reverse ++ st).map qconc = _; rw [List.map_append, List.map_reverse]) (lv_room (by rw [q_sum_eq]; exact hsum)) d ⟨by rw [C.2.2.2.2.2.2.2.1]; exact hroom2.1, by rw [C.2.2.2.2.2.2.2.1]; exact hroom2.2⟩
theorem Aj.callI (C : q_C G X cc nL own ret rm) {y : MethodName} {cc' : ByteArray} {mL np : Nat} {fr lo mc ms idx : Nat} {P' : qP} {p len : Int} {t : Nat} {As st2 : List qV} (hl : Cond.methodLink own idx y ∈ q_tbl) (hm : q_M y cc' mL none np) (hi : Cond.instanceMethod y ∈ q_tbl) (hin : y.name = "<init>")
    (hM : q_Cm (xl X) G y cc' mL none fr lo (qa p :: As) n r h P' mc ms) (ha0 : q_al G n p t len) (hst : st2 = As.reverse ++ qa p :: st) (hnp : As.length = np) (hroom : fr + 1 ≤ rm.frames ∧ 8 + (mL + 11) + lo ≤ rm.locals) (hsum : q_sum st ≤ 8) (hroom2 : cs.1 + mc ≤ rm.cells ∧ cs.2 + ms ≤ rm.slots) (d : decode cc pc = .ok (.invokespecial idx, 3))
    (k : ∀ (v : Option qV) (r2 h2 : qH), (∀ w, v = some w → qok w) → P' v r2 h2 → Aj G X P cc nL (cs.1 + mc, cs.2 + ms) (n + mc) r2 h2 (pc + 3) al (v.toList ++ st)) : Aj G X P cc nL cs n r h pc al st2 := by
  intro H locs ls hW hN hS ha hs hl2
  subst hst
  obtain ⟨hso, hst⟩ := q_asok hs
  refine q_call (rest := st) (a := (Value.ref p.toNat :: As.map qconc).toArray) hN hS (fun U hU SU => ?_) ha hst hl2 k
  have hz := q_exact hU SU hN hW
  have ep := q_conc_a (q_pos hW ha0)
  have hpr := fun U hU hw => q_pre (as := qa p :: As) C hW hz U hU hw
  rw [List.map_cons, ep] at hpr
  exact va_runI (b := p.toNat) (As := As.map qconc) (rest := st.map qconc) (g := F0 (xm X) pc ls ((As.reverse ++ qa p :: st).map qconc)) ⟨C.1, C.2.1, C.2.2.1, C.2.2.2.1, C.2.2.2.2.1⟩ (hM hso) ⟨q_cb (ms := ms) (mc := mc) C hm hl hroom, hin, C.2.2.2.2.1 _ hi⟩
    ⟨q_blind _ _ _ _ _, by
      rw [List.map_cons, ep]
      exact hpr⟩ rfl (by rw [List.length_map]; exact hnp) (hl2.1) (by show (As.reverse ++ qa p :: st).map qconc = _; rw [List.map_append, List.map_cons, ep, List.map_reverse]) (lv_room (by rw [q_sum_eq]; exact hsum)) d ⟨by rw [C.2.2.2.2.2.2.2.1]; exact hroom2.1, by rw [C.2.2.2.2.2.2.2.1]; exact hroom2.2⟩
theorem Aj.objInit (C : q_C G X cc nL own ret rm) {idx : Nat} {p len : Int} {t : Nat} (hl : Cond.methodLink own idx objectInit ∈ q_tbl) (ha0 : q_al G n p t len) (hroom : 1 ≤ rm.frames ∧ q_sum st + 12 ≤ rm.locals) (d : decode cc pc = .ok (.invokespecial idx, 3)) (k : Aj G X P cc nL cs n r h (pc + 3) al st) : Aj G X P cc nL cs n r h pc al (qa p :: st) := by
  intro H locs ls hW hN hS ha hs hl2
  show W _ _ _ _ _ _ _ _ _ _ _ _ _ _ _ (F0 _ _ _ (qconc (qa p) :: st.map qconc))
  rw [q_conc_a (q_pos hW ha0)]
  refine W.objInit C.1 C.2.1 C.2.2.2.1 (C.2.2.2.2.1 _ hl) (C.2.2.2.2.1 _ l_obji) (C.2.2.2.2.1 _ l_objc) rfl (by rw [C.2.2.1]; exact hl2.1) rfl d (by rw [C.2.2.2.2.2.2.2.1]; exact hroom.1) ?_ ?_
  · rw [q_sum_eq, C.2.2.2.2.2.2.2.1]
    show 2 * 0 + _ + 12 ≤ _
    have := hroom.2
    omega
  · exact k H locs ls hW hN hS ha (q_tl hs) hl2
theorem Aj.mmax (C : q_C G X cc nL own ret rm) {idx : Nat} {x y : Int} (hl : Cond.methodLink own idx Lib.Math.max.name ∈ q_tbl) (hroom : 1 ≤ rm.frames ∧ q_sum st + 13 ≤ rm.locals) (hc : cs.1 ≤ rm.cells ∧ cs.2 ≤ rm.slots) (d : decode cc pc = .ok (.invokestatic idx, 3)) (k : Aj G X P cc nL cs n r h (pc + 3) al (qi (max x y) :: st)) : Aj G X P cc nL cs n r h pc al (qi y :: qi x :: st) := by
  intro H locs ls hW hN hS ha hs hl2
  have rx : q_r32 x := q_hd (q_tl hs)
  have ry : q_r32 y := q_hd hs
  have hrm := C.2.2.2.2.2.2.2.1
  refine va_mmax C.1 C.2.1 (by rw [C.2.2.1]; exact hl2.1.symm) C.2.2.2.1 (C.2.2.2.2.1 _ hl) (C.2.2.2.2.1 _ l_maxs) (C.2.2.2.2.1 _ li_Math) (C.2.2.2.2.1 _ l_maxc) (by rw [hrm]; exact hroom.1) (by rw [q_sum_eq, hrm]; exact hroom.2) (by rw [hrm]; exact hc.1) (by rw [hrm]; exact hc.2) d ?_
  have e : (if Int32.ofInt x < Int32.ofInt y then Int32.ofInt y else Int32.ofInt x) = Int32.ofInt (max x y) := by
    by_cases q : x < y
    · rw [if_pos ((q_lt32 rx ry).mpr q), Int.max_eq_right (by omega)]
    · rw [if_neg (fun z => q ((q_lt32 rx ry).mp z)), Int.max_eq_left (by omega)]
  rw [e]
  exact k H locs ls hW hN hS ha (q_ok1 (q_tl (q_tl hs)) (show q_r32 (max x y) by omega)) hl2
theorem Aj.mmin (C : q_C G X cc nL own ret rm) {idx : Nat} {x y : Int} (hl : Cond.methodLink own idx Lib.Math.min.name ∈ q_tbl) (hroom : 1 ≤ rm.frames ∧ q_sum st + 13 ≤ rm.locals) (hc : cs.1 ≤ rm.cells ∧ cs.2 ≤ rm.slots) (d : decode cc pc = .ok (.invokestatic idx, 3)) (k : Aj G X P cc nL cs n r h (pc + 3) al (qi (min x y) :: st)) : Aj G X P cc nL cs n r h pc al (qi y :: qi x :: st) := by
  intro H locs ls hW hN hS ha hs hl2
  have rx : q_r32 x := q_hd (q_tl hs)
  have ry : q_r32 y := q_hd hs
  have hrm := C.2.2.2.2.2.2.2.1
  refine va_mmin C.1 C.2.1 (by rw [C.2.2.1]; exact hl2.1.symm) C.2.2.2.1 (C.2.2.2.2.1 _ hl) (C.2.2.2.2.1 _ l_mins) (C.2.2.2.2.1 _ li_Math) (C.2.2.2.2.1 _ l_minc) (by rw [hrm]; exact hroom.1) (by rw [q_sum_eq, hrm]; exact hroom.2) (by rw [hrm]; exact hc.1) (by rw [hrm]; exact hc.2) d ?_
  have e : (if Int32.ofInt y < Int32.ofInt x then Int32.ofInt y else Int32.ofInt x) = Int32.ofInt (min x y) := by
    by_cases q : y < x
    · rw [if_pos ((q_lt32 ry rx).mpr q), Int.min_eq_right (by omega)]
    · rw [if_neg (fun z => q ((q_lt32 ry rx).mp z)), Int.min_eq_left (by omega)]
  rw [e]
  exact k H locs ls hW hN hS ha (q_ok1 (q_tl (q_tl hs)) (show q_r32 (min x y) by omega)) hl2
theorem Aj.acopy (C : q_C G X cc nL own ret rm) {idx : Nat} {p q sp dp m lp lq : Int} (hl : Cond.methodLink own idx arraycopyName ∈ q_tbl) (hap : q_al G n p 10 lp) (haq : q_al G n q 10 lq) (h1 : 0 ≤ sp) (h2 : 0 ≤ dp) (h3 : 0 ≤ m) (h4 : sp + m ≤ lq) (h5 : dp + m ≤ lp) (hroom : 1 ≤ rm.frames ∧ q_sum st + (nativeFrameWords "java/lang/System" "arraycopy" 5 + 11) ≤ rm.locals) (d : decode cc pc = .ok (.invokestatic idx, 3)) (k : ∀ h2, h2 = hcpy h q sp p dp m → Aj G X P cc nL cs n r h2 (pc + 3) al st) : Aj G X P cc nL cs n r h pc al (qi m :: qi dp :: qa p :: qi sp :: qa q :: st) := by
  intro H locs ls hW hN hS ha hs hl2
  have rm1 : q_r32 m := q_hd hs
  have rd : q_r32 dp := q_hd (q_tl hs)
  have rs : q_r32 sp := q_hd (q_tl (q_tl (q_tl hs)))
  have hrm := C.2.2.2.2.2.2.2.1
  obtain ⟨j, hj⟩ := va_pl_get (X := []) (f := q_enc G r h) (q_in_L hap)
  obtain ⟨j2, hj2⟩ := va_pl_get (X := []) (f := q_enc G r h) (q_in_L haq)
  have hD := q_pl_D G n (q_enc G r h)
  have hst := fun e => va_pl_set (X := []) (f := q_enc G r h) (e := e) hD (q_in_L hap) hj
  rw [q_enc_i hap] at hj
  rw [q_enc_i haq] at hj2
  show W _ _ _ _ _ _ _ _ _ _ _ _ _ _ _ (F0 _ _ _ (qconc (qi m) :: qconc (qi dp) :: qconc (qa p) :: qconc (qi sp) :: qconc (qa q) :: st.map qconc))
  rw [q_conc_a (q_pos hW hap), q_conc_a (q_pos hW haq)]
  have nn : ∀ z : Int, q_r32 z → 0 ≤ z → ¬ Int32.ofInt z < 0 := fun z hz h0 e => by
    rw [q_0, q_lt32 hz q_rz] at e
    omega
  refine va_copyi C.1 C.2.1 (by rw [C.2.2.1]; exact hl2.1.symm) C.2.2.2.1 (C.2.2.2.2.1 _ hl) (C.2.2.2.2.1 _ l_native) (C.2.2.2.2.1 _ l_acs) (C.2.2.2.2.1 _ li_System) C.2.2.2.2.2.2.2.2.1 hW.2.2.2.2 hD hS j2 j 0 0 hj2 hj (q_tys0 G) (q_tys0 G) rfl (nn sp rs h1) (nn dp rd h2) (nn m rm1 h3) (by rw [q_clamp rs, q_clamp rm1]; omega) (by rw [q_clamp rd, q_clamp rm1]; omega) (fun i _ => rfl) (by rw [hrm]; exact hroom.1) (by rw [q_sum_eq, hrm]; exact hroom.2) d (fun H1 locs1 hP _ hS1 => ?_)
  have e1 := hst (.inl (G.2.2.1.1, lp.toNat, .inl (va_cpy (fun j => Int32.ofInt (h q (j : Int))) (fun j => Int32.ofInt (h p (j : Int))) (Int32.ofInt sp).toNatClampNeg (Int32.ofInt dp).toNatClampNeg (Int32.ofInt m).toNatClampNeg)))
  rw [List.nil_append, List.nil_append] at e1
  rw [e1, q_aset (r2 := r) (h2 := hcpy h q sp p dp m) hap ?_ ?_] at hP
  · refine k _ rfl H1 locs1 ls ⟨hW.1, hW.2.1, q_size_of hap hP, fun a b => ?_, hP⟩ hN hS1 ha (q_tl (q_tl (q_tl (q_tl (q_tl hs))))) hl2
    unfold hcpy
    split
    · exact hW.2.2.2.1 _ _
    · exact hW.2.2.2.1 _ _
  · rw [q_enc_i hap]
    congr 4
    funext i
    unfold va_cpy hcpy
    rw [q_clamp rs, q_clamp rd, q_clamp rm1]
    by_cases hi : dp.toNat ≤ i ∧ i < dp.toNat + m.toNat
    · rw [if_pos hi, if_pos ⟨rfl, by omega, by omega⟩]
      congr 2
      omega
    · rw [if_neg hi, if_neg (by omega)]
  · intro a b hn
    refine ⟨rfl, ?_⟩
    unfold hcpy
    rw [if_neg (fun q => hn q.1)]
/-! making cells -/
theorem q_L_push {G : qG} {n : Int} (h : (G.1 : Int) ≤ n) : q_L G (n + 1) = q_L G n ++ [n.toNat] := by
  unfold q_L
  have h1 : (n + 1).toNat - G.1 = (n.toNat - G.1) + 1 := by omega
  rw [h1, List.range_succ, List.map_append, List.map_cons, List.map_nil]
  congr 2
  omega
theorem q_new_W {H H1 : Heap} (hW : q_Wh G n r h H) (hz : (H.size : Int) = n) (z1 : H1.size = H.size + 1) (o1 : ∀ q : Nat, q < H.size → H1[q]? = H[q]?) (he : va_at G.2.1 vwCl (n.toNat, q_enc G r h n.toNat) H1) : q_Wh G (n + 1) r h H1 := by
  refine ⟨hW.1, by have := hW.2.1; omega, by omega, hW.2.2.2.1, ?_⟩
  rw [q_L_push hW.2.1]
  unfold va_pl
  rw [List.map_append, List.map_cons, List.map_nil]
  have hk : va_P G.2.1 vwCl (va_pl (q_L G n) (q_enc G r h)) H1 := hW.2.2.2.2.kept (fun k x hx => o1 x.1 ((hW.2.2.2.2 k x hx).lt))
  refine va_P.app hk (fun k x hx => ?_)
  have hz : k < 1 := (List.getElem?_eq_some_iff.mp hx).1
  rw [show k = 0 by omega] at hx
  cases hx
  exact he
theorem q_new_S {H H1 : Heap} {locs : List Loc} (hS : va_S (qA G) (xs X).heap H locs) (z1 : H1.size = H.size + 1) (o1 : ∀ q : Nat, q < H.size → H1[q]? = H[q]?) : va_S (qA G) (xs X).heap H1 locs :=
  ⟨Nat.le_trans hS.1 (by omega), fun x h1 h2 => (o1 x (Nat.lt_of_lt_of_le h1 hS.1)).trans (hS.2.1 x h1 h2), hS.2.2⟩
theorem q_dflt {t : Nat} {R : String} {T : u_T} {N : Nat} (hc : vwCl[t]? = some (R, T, N)) : ∀ k, k < N → defaultValue (q_ty t k) = q_fv (q_ty t k) 0 0 := by
  match t, hc with
  | 0, h => cases h; decide +kernel
  | 1, h => cases h; decide +kernel
  | 2, h => cases h; decide +kernel
  | 3, h => cases h; decide +kernel
  | 4, h => cases h; decide +kernel
  | 5, h => cases h; decide +kernel
  | 6, h => cases h; decide +kernel
  | 7, h => cases h; decide +kernel
  | 8, h => cases h; decide +kernel
  | 9, h => cases h; decide +kernel
  | k + 10, h => simp [vwCl] at h
theorem Aj.new (C : q_C G X cc nL own ret rm) {idx t N : Nat} {R : String} {T : u_T} {len : Int} (hcl : Cond.classLink own idx R ∈ q_tbl) (hk : Cond.instantiable R N ∈ q_tbl) (hini : Cond.initialized R ∈ q_tbl) (hc : vwCl[t]? = some (R, T, N)) (hσ : G.2.2.2 n = (t, len)) (ht : t < 10) (hz0 : ∀ b, r n b = 0 ∧ h n b = 0) (hroom : cs.1 + 1 ≤ rm.cells ∧ cs.2 + N ≤ rm.slots) (d : decode cc pc = .ok (.new idx, 3))
    (k : Aj G X P cc nL (cs.1 + 1, cs.2 + N) (n + 1) r h (pc + 3) al (qa n :: st)) : Aj G X P cc nL cs n r h pc al st := by
  intro H locs ls hW hN hS ha hs hl U hU SU
  have hz := q_exact hU SU hN hW
  have hrm := C.2.2.2.2.2.2.2.1
  have hKn := C.2.2.2.2.2.2.2.2.1.1 t _ hc
  have hn0 : 0 < n := by have h1 := hW.1; have h2 := hW.2.1; omega
  have hcast : ((n.toNat : Nat) : Int) = n := by omega
  have he : q_enc G r h n.toNat = .inr (t, q_fs t (r n) (h n)) := by
    unfold q_enc
    rw [hcast, hσ]
    simp only
    rw [if_neg (by omega), if_neg (by omega), if_neg (by omega)]
  have w : W (xp X) (xl X) (xe X) (xR X) (xs X) (xm X) (xa X) (xb X) (xme X) (xc X) H locs cs.1 cs.2 (MQ (xb X) (q_Qc G P (((xs X).heap.size : Int) + (xmc X).1)) (xa X) (xs X) (xmc X).1 (xmc X).2 (qA G)) (F0 (xm X) pc ls (st.map qconc)) := by
    refine W.newcK C.1 C.2.1 C.2.2.2.1 (C.2.2.2.2.1 _ hcl) (C.2.2.2.2.1 _ hk) (C.2.2.2.2.1 _ hini) rfl d (by rw [hrm]; exact hroom.1) (by rw [hrm]; exact hroom.2) hKn.2.1 (h := n.toNat) (by omega) (fun H1 kC hkC e1 z1 o1 => ?_)
    have z1' : H1.size = H.size + 1 := by omega
    have o1' : ∀ q : Nat, q < H.size → H1[q]? = H[q]? := fun q hq => o1 q (by omega)
    have hat : va_at G.2.1 vwCl (n.toNat, q_enc G r h n.toNat) H1 := by
      rw [he]
      refine ⟨_, hc, (u_born (q_ty t) C.2.2.2.2.1 (q_cls hc).1 hKn hkC e1 (q_cls hc).2.1).to (fun j hj => ?_)⟩
      rw [q_dflt hc j hj]
      unfold vp_V
      rw [List.getD_eq_getElem?_getD, q_fs_at hc hj, (hz0 _).1, (hz0 _).2]
      rfl
    have k1 := k H1 locs ls (q_new_W hW hz z1' o1' hat) (by show ((xs X).heap.size : Int) + ((cs.1 + 1 : Nat) : Int) = n + 1; omega) (q_new_S hS z1' o1') ha (q_ok1 hs (v := qa n) trivial) hl
    rw [List.map_cons, q_conc_a hn0] at k1
    exact k1
  exact w U hU SU
theorem q_znn {z : Int} (rz : q_r32 z) (h0 : 0 ≤ z) : ¬ Int32.ofInt z < 0 := fun e => by
  rw [q_0, q_lt32 rz q_rz] at e
  omega
theorem q_dfun {ty : FieldType} {v : Value} (h : defaultValue ty = v) (cA : ClassId) (N : Nat) (f : Nat → Value) (hf : ∀ j, f j = v) : arrV cA N (fun _ => defaultValue ty) = arrV cA N f := by
  congr 1
  funext j
  rw [hf, h]
theorem Aj.newaI (C : q_C G X cc nL own ret rm) {z : Int} (h0 : 0 ≤ z) (hz4 : z ≤ 100000) (hσ : G.2.2.2 n = (10, z)) (hz0 : ∀ b, r n b = 0 ∧ h n b = 0) (hroom : cs.1 + 1 ≤ rm.cells ∧ cs.2 + z.toNat ≤ rm.slots) (d : decode cc pc = .ok (.newarray .int, 2))
    (k : Aj G X P cc nL (cs.1 + 1, cs.2 + z.toNat) (n + 1) r h (pc + 2) al (qa n :: st)) : Aj G X P cc nL cs n r h pc al (qi z :: st) := by
  intro H locs ls hW hN hS ha hs hl U hU SU
  have hz := q_exact hU SU hN hW
  have hrm := C.2.2.2.2.2.2.2.1
  have rz : q_r32 z := q_hd hs
  have hn0 : 0 < n := by have h1 := hW.1; have h2 := hW.2.1; omega
  have hcast : ((n.toNat : Nat) : Int) = n := by omega
  have he : q_enc G r h n.toNat = .inl (G.2.2.1.1, z.toNat, .inl (fun j => Int32.ofInt (h n (j : Int)))) := by
    unfold q_enc
    rw [hcast, hσ]
    simp
  have w : W (xp X) (xl X) (xe X) (xR X) (xs X) (xm X) (xa X) (xb X) (xme X) (xc X) H locs cs.1 cs.2 (MQ (xb X) (q_Qc G P (((xs X).heap.size : Int) + (xmc X).1)) (xa X) (xs X) (xmc X).1 (xmc X).2 (qA G)) (F0 (xm X) pc ls (.int (Int32.ofInt z) :: st.map qconc)) := by
    refine va_newaK (atype := .int) C.1 C.2.1 (C.2.2.2.2.1 _ la_int) rfl d rfl (q_znn rz h0) (q_clamp rz) (by show z.toNat * 4 ≤ _; omega) (by rw [hrm]; exact hroom.1) (by rw [hrm]; exact hroom.2) (h := n.toNat) (by omega) (fun H1 cA e1 z1 o1 _ hfc => ?_)
    have hcA : cA = G.2.2.1.1 := Option.some.inj (hfc.symm.trans (C.2.2.2.2.2.2.2.2.1.2 0 _ (q_tys0 G)).2)
    subst hcA
    have z1' : H1.size = H.size + 1 := by omega
    have o1' : ∀ q : Nat, q < H.size → H1[q]? = H[q]? := fun q hq => o1 q (by omega)
    have hat : va_at G.2.1 vwCl (n.toNat, q_enc G r h n.toNat) H1 := by
      rw [he]
      show H1[n.toNat]? = some (vp_cell G.2.2.1.1 (z.toNat, .inl (fun j => Int32.ofInt (h n (j : Int)))))
      rw [vp_cell_i, e1, q_dfun (v := .int 0) rfl _ _ (fun j : Nat => Value.int (Int32.ofInt (h n (j : Int)))) (fun j => by rw [(hz0 _).2]; rfl)]
    have k1 := k H1 locs ls (q_new_W hW hz z1' o1' hat) (by show ((xs X).heap.size : Int) + ((cs.1 + 1 : Nat) : Int) = n + 1; omega) (q_new_S hS z1' o1') ha (q_ok1 (q_tl hs) (v := qa n) trivial) hl
    rw [List.map_cons, q_conc_a hn0] at k1
    exact k1
  exact w U hU SU
theorem Aj.newaZ (C : q_C G X cc nL own ret rm) {z : Int} (h0 : 0 ≤ z) (hz4 : z ≤ 100000) (hσ : G.2.2.2 n = (11, z)) (hz0 : ∀ b, r n b = 0 ∧ h n b = 0) (hroom : cs.1 + 1 ≤ rm.cells ∧ cs.2 + z.toNat ≤ rm.slots) (d : decode cc pc = .ok (.newarray .boolean, 2))
    (k : Aj G X P cc nL (cs.1 + 1, cs.2 + z.toNat) (n + 1) r h (pc + 2) al (qa n :: st)) : Aj G X P cc nL cs n r h pc al (qi z :: st) := by
  intro H locs ls hW hN hS ha hs hl U hU SU
  have hz := q_exact hU SU hN hW
  have hrm := C.2.2.2.2.2.2.2.1
  have rz : q_r32 z := q_hd hs
  have hn0 : 0 < n := by have h1 := hW.1; have h2 := hW.2.1; omega
  have hcast : ((n.toNat : Nat) : Int) = n := by omega
  have he : q_enc G r h n.toNat = .inl (G.2.2.1.2.1, z.toNat, .inl (fun j => Int32.ofInt (h n (j : Int)))) := by
    unfold q_enc
    rw [hcast, hσ]
    simp
  have w : W (xp X) (xl X) (xe X) (xR X) (xs X) (xm X) (xa X) (xb X) (xme X) (xc X) H locs cs.1 cs.2 (MQ (xb X) (q_Qc G P (((xs X).heap.size : Int) + (xmc X).1)) (xa X) (xs X) (xmc X).1 (xmc X).2 (qA G)) (F0 (xm X) pc ls (.int (Int32.ofInt z) :: st.map qconc)) := by
    refine va_newaK (atype := .boolean) C.1 C.2.1 (C.2.2.2.2.1 _ la_boolean) rfl d rfl (q_znn rz h0) (q_clamp rz) (by show z.toNat * 1 ≤ _; omega) (by rw [hrm]; exact hroom.1) (by rw [hrm]; exact hroom.2) (h := n.toNat) (by omega) (fun H1 cA e1 z1 o1 _ hfc => ?_)
    have hcA : cA = G.2.2.1.2.1 := Option.some.inj (hfc.symm.trans (C.2.2.2.2.2.2.2.2.1.2 1 _ (q_tys1 G)).2)
    subst hcA
    have z1' : H1.size = H.size + 1 := by omega
    have o1' : ∀ q : Nat, q < H.size → H1[q]? = H[q]? := fun q hq => o1 q (by omega)
    have hat : va_at G.2.1 vwCl (n.toNat, q_enc G r h n.toNat) H1 := by
      rw [he]
      show H1[n.toNat]? = some (vp_cell G.2.2.1.2.1 (z.toNat, .inl (fun j => Int32.ofInt (h n (j : Int)))))
      rw [vp_cell_i, e1, q_dfun (v := .int 0) rfl _ _ (fun j : Nat => Value.int (Int32.ofInt (h n (j : Int)))) (fun j => by rw [(hz0 _).2]; rfl)]
    have k1 := k H1 locs ls (q_new_W hW hz z1' o1' hat) (by show ((xs X).heap.size : Int) + ((cs.1 + 1 : Nat) : Int) = n + 1; omega) (q_new_S hS z1' o1') ha (q_ok1 (q_tl hs) (v := qa n) trivial) hl
    rw [List.map_cons, q_conc_a hn0] at k1
    exact k1
  exact w U hU SU
theorem Aj.newaR (C : q_C G X cc nL own ret rm) {z : Int} {idx : Nat} (h0 : 0 ≤ z) (hz4 : z ≤ 100000) (hcl : Cond.classLink own idx RX4 ∈ q_tbl) (hσ : G.2.2.2 n = (12, z)) (hz0 : ∀ b, r n b = 0 ∧ h n b = 0) (hroom : cs.1 + 1 ≤ rm.cells ∧ cs.2 + z.toNat ≤ rm.slots) (d : decode cc pc = .ok (.anewarray idx, 3))
    (k : Aj G X P cc nL (cs.1 + 1, cs.2 + z.toNat) (n + 1) r h (pc + 3) al (qa n :: st)) : Aj G X P cc nL cs n r h pc al (qi z :: st) := by
  intro H locs ls hW hN hS ha hs hl U hU SU
  have hz := q_exact hU SU hN hW
  have hrm := C.2.2.2.2.2.2.2.1
  have rz : q_r32 z := q_hd hs
  have hn0 : 0 < n := by have h1 := hW.1; have h2 := hW.2.1; omega
  have hcast : ((n.toNat : Nat) : Int) = n := by omega
  have he : q_enc G r h n.toNat = .inl (G.2.2.1.2.2, z.toNat, .inr (.inr (.inr (.inr (fun j => q_opt (r n (j : Int))))))) := by
    unfold q_enc
    rw [hcast, hσ]
    simp
  have w : W (xp X) (xl X) (xe X) (xR X) (xs X) (xm X) (xa X) (xb X) (xme X) (xc X) H locs cs.1 cs.2 (MQ (xb X) (q_Qc G P (((xs X).heap.size : Int) + (xmc X).1)) (xa X) (xs X) (xmc X).1 (xmc X).2 (qA G)) (F0 (xm X) pc ls (.int (Int32.ofInt z) :: st.map qconc)) := by
    refine W.anew C.1 C.2.1 C.2.2.2.1 (C.2.2.2.2.1 _ hcl) (va_AO.use C.2.2.2.2.2.2.2.2.2.2) rfl d rfl (q_znn rz h0) (by rw [q_clamp rz]; omega) (by rw [hrm]; exact hroom.1) (by rw [hrm, q_clamp rz]; exact hroom.2) (fun cA kA comp f1 f2 f3 f4 => ?_)
    obtain ⟨kA2, comp2, g1, g2, g3, g4⟩ := (C.2.2.2.2.2.2.2.2.1.2 2 _ (q_tys2 G)).2
    have hcA : cA = G.2.2.1.2.2 := Option.some.inj (f1.symm.trans g4)
    subst hcA
    rw [q_clamp rz]
    generalize hH1 : H.push ({ cls := G.2.2.1.2.2, slots := Array.replicate z.toNat .null, vm := .none } : Cell) = H1
    have z1' : H1.size = H.size + 1 := by rw [← hH1, Array.size_push]
    have o1' : ∀ q : Nat, q < H.size → H1[q]? = H[q]? := fun q hq => by rw [← hH1, Array.getElem?_push, if_neg (Nat.ne_of_lt hq)]
    have hzn : H.size = n.toNat := by omega
    have e1 : H1[n.toNat]? = some (arrV G.2.2.1.2.2 z.toNat (fun _ => .null)) := by rw [← hH1, ← hzn, Array.getElem?_push_size, ← arrV_new]
    have hat : va_at G.2.1 vwCl (n.toNat, q_enc G r h n.toNat) H1 := by
      rw [he]
      show H1[n.toNat]? = some (vp_cell G.2.2.1.2.2 (z.toNat, .inr (.inr (.inr (.inr (fun j => q_opt (r n (j : Int))))))))
      rw [vp_cell_q, e1]
      congr 2
      funext j
      rw [(hz0 _).1]
      rfl
    have k1 := k H1 locs ls (q_new_W hW hz z1' o1' hat) (by show ((xs X).heap.size : Int) + ((cs.1 + 1 : Nat) : Int) = n + 1; omega) (q_new_S hS z1' o1') ha (q_ok1 (q_tl hs) (v := qa n) trivial) hl
    rw [List.map_cons, q_conc_a hn0] at k1
    rw [hzn]
    exact k1
  exact w U hU SU
end
end
section
section
variable {G : qG} {X : qX} {P : qP} {cc : ByteArray} {nL : Nat} {own : String} {ret : Option FieldType} {rm : Room} {cs : Nat × Nat} {n : Int} {r h : qH} {pc : Nat} {al al2 : List (Nat × qV)} {st : List qV}
theorem Aj.getIe (C : q_C G X cc nL own ret rm) {idx t : Nat} {k : Int} {ty : FieldType} {fin : Bool} (hf : q_FL own idx t k ty fin) (hty : ty.isReference = false) {p len : Int} (ha0 : q_al G n p t len) (d : decode cc pc = .ok (.getfield idx, 3)) {z : Int} (hz : h p k = z) (kk : Aj G X P cc nL cs n r h (pc + 3) al (qi z :: st)) : Aj G X P cc nL cs n r h pc al (qa p :: st) := by
  subst hz; exact Aj.getI C hf hty ha0 d kk
theorem Aj.ialde (C : q_C G X cc nL own ret rm) {p z len : Int} (ha0 : q_al G n p 10 len) (hz : 0 ≤ z ∧ z < len) (d : decode cc pc = .ok (.iaload, 1)) {w : Int} (hw : h p z = w) (kk : Aj G X P cc nL cs n r h (pc + 1) al (qi w :: st)) : Aj G X P cc nL cs n r h pc al (qi z :: qa p :: st) := by
  subst hw; exact Aj.iald C ha0 hz d kk
theorem Aj.zalde (C : q_C G X cc nL own ret rm) {p z len : Int} (ha0 : q_al G n p 11 len) (hz : 0 ≤ z ∧ z < len) (d : decode cc pc = .ok (.baload, 1)) {w : Int} (hw : h p z = w) (kk : Aj G X P cc nL cs n r h (pc + 1) al (qi w :: st)) : Aj G X P cc nL cs n r h pc al (qi z :: qa p :: st) := by
  subst hw; exact Aj.zald C ha0 hz d kk
/-- the top of the stack under another name -/
theorem Aj.topI {x y : Int} (e : x = y) (k : Aj G X P cc nL cs n r h pc al (qi y :: st)) : Aj G X P cc nL cs n r h pc al (qi x :: st) := by
  subst e; exact k
theorem q_n0 (n : Int) : n + ((0 : Nat) : Int) = n := by omega
theorem Aj.callVi (C : q_C G X cc nL own ret rm) {y : MethodName} {cc' : ByteArray} {mL np : Nat} {ret' : Option FieldType} {fr lo idx : Nat} {Pz : Int → qH → Prop} {p len : Int} {t : Nat} {R : String} {T : u_T} {N : Nat} {As st2 : List qV} (hl : Cond.methodLink own idx y ∈ q_tbl) (hm : q_M y cc' mL ret' np) (hi : Cond.instanceMethod y ∈ q_tbl) (hsel : Cond.selects y.cls y y ∈ q_tbl)
    (hM : q_Cm (xl X) G y cc' mL ret' fr lo (qa p :: As) n r h (q_Pi r Pz) 0 0) (ha0 : q_al G n p t len) (hc : vwCl[t]? = some (R, T, N)) (hR : R = y.cls) (hst : st2 = As.reverse ++ qa p :: st) (hnp : As.length = np) (hroom : fr + 1 ≤ rm.frames ∧ 8 + (mL + 11) + lo ≤ rm.locals) (hsum : q_sum st ≤ 8) (hroom2 : cs.1 ≤ rm.cells ∧ cs.2 ≤ rm.slots) (d : decode cc pc = .ok (.invokevirtual idx, 3))
    (k : ∀ (z : Int) (h2 : qH), q_r32 z → Pz z h2 → Aj G X P cc nL cs n r h2 (pc + 3) al (qi z :: st)) : Aj G X P cc nL cs n r h pc al st2 := by
  refine Aj.callV C hl hm hi hsel hM ha0 hc hR hst hnp hroom hsum hroom2 d (fun v r2 h2 hok hp => ?_)
  obtain ⟨z, rfl, rfl, hp⟩ := hp
  rw [q_n0]
  exact k z h2 (hok _ rfl) hp
theorem Aj.callVv (C : q_C G X cc nL own ret rm) {y : MethodName} {cc' : ByteArray} {mL np : Nat} {ret' : Option FieldType} {fr lo idx : Nat} {Pz : qH → Prop} {p len : Int} {t : Nat} {R : String} {T : u_T} {N : Nat} {As st2 : List qV} (hl : Cond.methodLink own idx y ∈ q_tbl) (hm : q_M y cc' mL ret' np) (hi : Cond.instanceMethod y ∈ q_tbl) (hsel : Cond.selects y.cls y y ∈ q_tbl)
    (hM : q_Cm (xl X) G y cc' mL ret' fr lo (qa p :: As) n r h (q_Pv r Pz) 0 0) (ha0 : q_al G n p t len) (hc : vwCl[t]? = some (R, T, N)) (hR : R = y.cls) (hst : st2 = As.reverse ++ qa p :: st) (hnp : As.length = np) (hroom : fr + 1 ≤ rm.frames ∧ 8 + (mL + 11) + lo ≤ rm.locals) (hsum : q_sum st ≤ 8) (hroom2 : cs.1 ≤ rm.cells ∧ cs.2 ≤ rm.slots) (d : decode cc pc = .ok (.invokevirtual idx, 3))
    (k : ∀ (h2 : qH), Pz h2 → Aj G X P cc nL cs n r h2 (pc + 3) al st) : Aj G X P cc nL cs n r h pc al st2 := by
  refine Aj.callV C hl hm hi hsel hM ha0 hc hR hst hnp hroom hsum hroom2 d (fun v r2 h2 hok hp => ?_)
  obtain ⟨rfl, rfl, hp⟩ := hp
  rw [q_n0]
  exact k h2 hp
theorem Aj.callVq (C : q_C G X cc nL own ret rm) {y : MethodName} {cc' : ByteArray} {mL np : Nat} {ret' : Option FieldType} {fr lo idx : Nat} {Pz : Int → qH → Prop} {p len : Int} {t : Nat} {R : String} {T : u_T} {N : Nat} {As st2 : List qV} (hl : Cond.methodLink own idx y ∈ q_tbl) (hm : q_M y cc' mL ret' np) (hi : Cond.instanceMethod y ∈ q_tbl) (hsel : Cond.selects y.cls y y ∈ q_tbl)
    (hM : q_Cm (xl X) G y cc' mL ret' fr lo (qa p :: As) n r h (q_Pq r Pz) 0 0) (ha0 : q_al G n p t len) (hc : vwCl[t]? = some (R, T, N)) (hR : R = y.cls) (hst : st2 = As.reverse ++ qa p :: st) (hnp : As.length = np) (hroom : fr + 1 ≤ rm.frames ∧ 8 + (mL + 11) + lo ≤ rm.locals) (hsum : q_sum st ≤ 8) (hroom2 : cs.1 ≤ rm.cells ∧ cs.2 ≤ rm.slots) (d : decode cc pc = .ok (.invokevirtual idx, 3))
    (k : ∀ (z : Int) (h2 : qH), Pz z h2 → Aj G X P cc nL cs n r h2 (pc + 3) al (qa z :: st)) : Aj G X P cc nL cs n r h pc al st2 := by
  refine Aj.callV C hl hm hi hsel hM ha0 hc hR hst hnp hroom hsum hroom2 d (fun v r2 h2 hok hp => ?_)
  obtain ⟨z, rfl, rfl, hp⟩ := hp
  rw [q_n0]
  exact k z h2 hp
theorem Aj.callSi (C : q_C G X cc nL own ret rm) {y : MethodName} {cc' : ByteArray} {mL np : Nat} {ret' : Option FieldType} {fr lo idx : Nat} {Pz : Int → qH → Prop} {As st2 : List qV} (hl : Cond.methodLink own idx y ∈ q_tbl) (hm : q_M y cc' mL ret' np) (hi : Cond.static y ∈ q_tbl)
    (hM : q_Cm (xl X) G y cc' mL ret' fr lo As n r h (q_Pi r Pz) 0 0) (hst : st2 = As.reverse ++ st) (hnp : As.length = np) (hroom : fr + 1 ≤ rm.frames ∧ 8 + (mL + 11) + lo ≤ rm.locals) (hsum : q_sum st ≤ 8) (hroom2 : cs.1 ≤ rm.cells ∧ cs.2 ≤ rm.slots) (d : decode cc pc = .ok (.invokestatic idx, 3))
    (k : ∀ (z : Int) (h2 : qH), q_r32 z → Pz z h2 → Aj G X P cc nL cs n r h2 (pc + 3) al (qi z :: st)) : Aj G X P cc nL cs n r h pc al st2 := by
  refine Aj.callS C hl hm hi hM hst hnp hroom hsum hroom2 d (fun v r2 h2 hok hp => ?_)
  obtain ⟨z, rfl, rfl, hp⟩ := hp
  rw [q_n0]
  exact k z h2 (hok _ rfl) hp
theorem Aj.callNi (C : q_C G X cc nL own ret rm) {y : MethodName} {cc' : ByteArray} {mL np : Nat} {ret' : Option FieldType} {fr lo idx : Nat} {host : String} {Pz : Int → qH → Prop} {As st2 : List qV} (hl : Cond.methodLinkNest own idx y host ∈ q_nest) (hm : q_M y cc' mL ret' np) (hi : Cond.static y ∈ q_tbl)
    (hM : q_Cm (xl X) G y cc' mL ret' fr lo As n r h (q_Pi r Pz) 0 0) (hst : st2 = As.reverse ++ st) (hnp : As.length = np) (hroom : fr + 1 ≤ rm.frames ∧ 8 + (mL + 11) + lo ≤ rm.locals) (hsum : q_sum st ≤ 8) (hroom2 : cs.1 ≤ rm.cells ∧ cs.2 ≤ rm.slots) (d : decode cc pc = .ok (.invokestatic idx, 3))
    (k : ∀ (z : Int) (h2 : qH), q_r32 z → Pz z h2 → Aj G X P cc nL cs n r h2 (pc + 3) al (qi z :: st)) : Aj G X P cc nL cs n r h pc al st2 := by
  refine Aj.callSN C hl hm hi hM hst hnp hroom hsum hroom2 d (fun v r2 h2 hok hp => ?_)
  obtain ⟨z, rfl, rfl, hp⟩ := hp
  rw [q_n0]
  exact k z h2 (hok _ rfl) hp
theorem Aj.callIn (C : q_C G X cc nL own ret rm) {y : MethodName} {cc' : ByteArray} {mL np : Nat} {fr lo mc ms idx : Nat} {Pz : qH → qH → Prop} {p len : Int} {t : Nat} {As st2 : List qV} (hl : Cond.methodLink own idx y ∈ q_tbl) (hm : q_M y cc' mL none np) (hi : Cond.instanceMethod y ∈ q_tbl) (hin : y.name = "<init>")
    (hM : q_Cm (xl X) G y cc' mL none fr lo (qa p :: As) n r h (q_Pn Pz) mc ms) (ha0 : q_al G n p t len) (hst : st2 = As.reverse ++ qa p :: st) (hnp : As.length = np) (hroom : fr + 1 ≤ rm.frames ∧ 8 + (mL + 11) + lo ≤ rm.locals) (hsum : q_sum st ≤ 8) (hroom2 : cs.1 + mc ≤ rm.cells ∧ cs.2 + ms ≤ rm.slots) (d : decode cc pc = .ok (.invokespecial idx, 3))
    (k : ∀ (r2 h2 : qH), Pz r2 h2 → Aj G X P cc nL (cs.1 + mc, cs.2 + ms) (n + mc) r2 h2 (pc + 3) al st) : Aj G X P cc nL cs n r h pc al st2 := by
  refine Aj.callI C hl hm hi hin hM ha0 hst hnp hroom hsum hroom2 d (fun v r2 h2 hok hp => ?_)
  obtain ⟨rfl, hp⟩ := hp
  exact k r2 h2 hp
theorem q_lkd : ∀ (ps : List (Int × Int)) (d x : Int), (∀ q ∈ ps, q.1 ≠ x) → Op.lookupswitch.offset ps d x = d := by
  intro ps
  induction ps with
  | nil => intro d x _; rfl
  | cons a ps ih =>
    intro d x hq
    obtain ⟨k, o⟩ := a
    rw [Op.lookupswitch.offset_cons, if_neg (fun e => hq (k, o) List.mem_cons_self (by first | exact e | exact e.symm | simpa using e | simpa using e.symm))]
    exact ih d x (fun q h => hq q (List.mem_cons_of_mem _ h))
end
end
section
/-! Where the parts of an object lie: addresses behind each other, in the order in which they are made -/
def LSpans (G : qG) (n : Int) (r : qH) (p cap : Int) : Prop := q_al G n p 6 0 ∧ q_al G n (p + 1) 10 cap ∧ q_al G n (p + 2) 10 cap ∧ r p 0 = p + 1 ∧ r p 1 = p + 2
theorem LSpans.a {G : qG} {n : Int} {r : qH} {p cap : Int} (L : LSpans G n r p cap) : q_al G n p 6 0 := L.1
theorem LSpans.a1 {G : qG} {n : Int} {r : qH} {p cap : Int} (L : LSpans G n r p cap) : q_al G n (p + 1) 10 cap := L.2.1
theorem LSpans.a2 {G : qG} {n : Int} {r : qH} {p cap : Int} (L : LSpans G n r p cap) : q_al G n (p + 2) 10 cap := L.2.2.1
theorem LSpans.r0 {G : qG} {n : Int} {r : qH} {p cap : Int} (L : LSpans G n r p cap) : r p 0 = p + 1 := L.2.2.2.1
theorem LSpans.r1 {G : qG} {n : Int} {r : qH} {p cap : Int} (L : LSpans G n r p cap) : r p 1 = p + 2 := L.2.2.2.2
def LTitles (G : qG) (n : Int) (r : qH) (p : Int) : Prop := q_al G n p 7 0 ∧ (q_al G n (p + 1) 10 20 ∧ q_al G n (p + 2) 10 20 ∧ q_al G n (p + 3) 10 20 ∧ q_al G n (p + 4) 10 20) ∧ r p 0 = p + 1 ∧ r p 1 = p + 2 ∧ r p 2 = p + 3 ∧ r p 3 = p + 4
section
variable {G : qG} {n : Int} {r : qH} {p : Int}
theorem LTitles.a (L : LTitles G n r p) : q_al G n p 7 0 := L.1
theorem LTitles.a1 (L : LTitles G n r p) : q_al G n (p + 1) 10 20 := L.2.1.1
theorem LTitles.a2 (L : LTitles G n r p) : q_al G n (p + 2) 10 20 := L.2.1.2.1
theorem LTitles.a3 (L : LTitles G n r p) : q_al G n (p + 3) 10 20 := L.2.1.2.2.1
theorem LTitles.a4 (L : LTitles G n r p) : q_al G n (p + 4) 10 20 := L.2.1.2.2.2
theorem LTitles.r0 (L : LTitles G n r p) : r p 0 = p + 1 := L.2.2.1
theorem LTitles.r1 (L : LTitles G n r p) : r p 1 = p + 2 := L.2.2.2.1
theorem LTitles.r2 (L : LTitles G n r p) : r p 2 = p + 3 := L.2.2.2.2.1
theorem LTitles.r3 (L : LTitles G n r p) : r p 3 = p + 4 := L.2.2.2.2.2
end
def LScore (G : qG) (n : Int) (r : qH) (p : Int) : Prop := (q_al G n p 4 0 ∧ q_al G n (p + 1) 10 60 ∧ q_al G n (p + 2) 10 60) ∧ (r p 2 = p + 1 ∧ r p 3 = p + 2 ∧ r p 4 = p + 3 ∧ r p 5 = p + 6 ∧ r p 6 = p + 9 ∧ r p 7 = p + 12) ∧ LSpans G n r (p + 3) 4 ∧ LSpans G n r (p + 6) 4 ∧ LSpans G n r (p + 9) 3 ∧ LTitles G n r (p + 12)
section
variable {G : qG} {n : Int} {r : qH} {p : Int}
theorem LScore.a (L : LScore G n r p) : q_al G n p 4 0 := L.1.1
theorem LScore.a1 (L : LScore G n r p) : q_al G n (p + 1) 10 60 := L.1.2.1
theorem LScore.a2 (L : LScore G n r p) : q_al G n (p + 2) 10 60 := L.1.2.2
theorem LScore.r2 (L : LScore G n r p) : r p 2 = p + 1 := L.2.1.1
theorem LScore.r3 (L : LScore G n r p) : r p 3 = p + 2 := L.2.1.2.1
theorem LScore.r4 (L : LScore G n r p) : r p 4 = p + 3 := L.2.1.2.2.1
theorem LScore.r5 (L : LScore G n r p) : r p 5 = p + 6 := L.2.1.2.2.2.1
theorem LScore.r6 (L : LScore G n r p) : r p 6 = p + 9 := L.2.1.2.2.2.2.1
theorem LScore.r7 (L : LScore G n r p) : r p 7 = p + 12 := L.2.1.2.2.2.2.2
theorem LScore.re (L : LScore G n r p) : LSpans G n r (p + 3) 4 := L.2.2.1
theorem LScore.cu (L : LScore G n r p) : LSpans G n r (p + 6) 4 := L.2.2.2.1
theorem LScore.bl (L : LScore G n r p) : LSpans G n r (p + 9) 3 := L.2.2.2.2.1
theorem LScore.ti (L : LScore G n r p) : LTitles G n r (p + 12) := L.2.2.2.2.2
end
/-- what spans hold: m of them, from F k to L k -/
def CSpans (h : qH) (p m : Int) (F L : Int → Int) : Prop := h p 2 = m ∧ ∀ k, 0 ≤ k → k < m → h (p + 1) k = F k ∧ h (p + 2) k = L k
theorem hx {h : qH} {a b c d : Int} (e1 : a = c) (e2 : b = d) : h a b = h c d := by rw [e1, e2]
end
section
/-! A score as 228 numbers (the places are those of the reference's own row), what is asked of it, and what each change makes of it -/
def sset (s : Int → Int) (i v : Int) : Int → Int := fun j => if j = i then v else s j
theorem sset_ap (s : Int → Int) (i v j : Int) : sset s i v j = if j = i then v else s j := rfl
def CTitles (h : qH) (p : Int) (s : Int → Int) : Prop := h p 4 = s 5 ∧ ∀ k, 0 ≤ k → k < s 5 → h (p + 1) k = s (148 + 4 * k) ∧ h (p + 2) k = s (149 + 4 * k) ∧ h (p + 3) k = s (150 + 4 * k) ∧ h (p + 4) k = s (151 + 4 * k)
def CScore (h : qH) (p : Int) (s : Int → Int) : Prop :=
  h p 0 = s 0 ∧ h p 1 = s 1 ∧ (∀ k, 0 ≤ k → k < 60 → h (p + 1) k = s (6 + k) ∧ h (p + 2) k = s (66 + k)) ∧ CSpans h (p + 3) (s 2) (fun k => s (126 + 2 * k)) (fun k => s (127 + 2 * k)) ∧
  CSpans h (p + 6) (s 3) (fun k => s (134 + 2 * k)) (fun k => s (135 + 2 * k)) ∧ CSpans h (p + 9) (s 4) (fun k => s (142 + 2 * k)) (fun k => s (143 + 2 * k)) ∧ CTitles h (p + 12) s
/-- a score as the document asks it to be -/
def SG (s : Int → Int) : Prop :=
  ((1 ≤ s 0 ∧ s 0 ≤ 60) ∧ (0 ≤ s 1 ∧ s 1 ≤ 50) ∧ (0 ≤ s 2 ∧ s 2 ≤ 4) ∧ (0 ≤ s 3 ∧ s 3 ≤ 4) ∧ (0 ≤ s 4 ∧ s 4 ≤ 3) ∧ (0 ≤ s 5 ∧ s 5 ≤ 20)) ∧
  (∀ k, 0 ≤ k → k < 60 → (1 ≤ s (6 + k) ∧ s (6 + k) ≤ 12) ∧ (20 ≤ s (66 + k) ∧ s (66 + k) ≤ 240)) ∧
  (∀ k, 0 ≤ k → k < s 2 → 0 ≤ s (126 + 2 * k) ∧ s (126 + 2 * k) ≤ s (127 + 2 * k) ∧ s (127 + 2 * k) < s 0) ∧
  (∀ j k, 0 ≤ j → j < k → k < s 2 → s (127 + 2 * j) < s (126 + 2 * k) ∨ s (127 + 2 * k) < s (126 + 2 * j)) ∧
  (∀ k, 0 ≤ k → k < s 3 → 0 ≤ s (134 + 2 * k) ∧ s (134 + 2 * k) ≤ s (135 + 2 * k) ∧ s (135 + 2 * k) < s 0) ∧
  (∀ k, 0 ≤ k → k < s 4 → 0 ≤ s (142 + 2 * k) ∧ s (142 + 2 * k) ≤ s (143 + 2 * k) ∧ s (143 + 2 * k) ≤ 199) ∧
  (∀ k, 0 ≤ k → k < s 5 → (0 ≤ s (148 + 4 * k) ∧ s (148 + 4 * k) ≤ 2) ∧ (0 ≤ s (149 + 4 * k) ∧ s (149 + 4 * k) < s 0) ∧ (1 ≤ s (150 + 4 * k) ∧ s (150 + 4 * k) ≤ 20) ∧ (1 ≤ s (151 + 4 * k) ∧ s (151 + 4 * k) ≤ 80))
theorem SG.n {s : Int → Int} (g : SG s) : (1 ≤ s 0 ∧ s 0 ≤ 60) ∧ (0 ≤ s 1 ∧ s 1 ≤ 50) ∧ (0 ≤ s 2 ∧ s 2 ≤ 4) ∧ (0 ≤ s 3 ∧ s 3 ≤ 4) ∧ (0 ≤ s 4 ∧ s 4 ≤ 3) ∧ (0 ≤ s 5 ∧ s 5 ≤ 20) := g.1
theorem SG.b {s : Int → Int} (g : SG s) : ∀ k, 0 ≤ k → k < 60 → (1 ≤ s (6 + k) ∧ s (6 + k) ≤ 12) ∧ (20 ≤ s (66 + k) ∧ s (66 + k) ≤ 240) := g.2.1
theorem SG.re {s : Int → Int} (g : SG s) : ∀ k, 0 ≤ k → k < s 2 → 0 ≤ s (126 + 2 * k) ∧ s (126 + 2 * k) ≤ s (127 + 2 * k) ∧ s (127 + 2 * k) < s 0 := g.2.2.1
theorem SG.dj {s : Int → Int} (g : SG s) : ∀ j k, 0 ≤ j → j < k → k < s 2 → s (127 + 2 * j) < s (126 + 2 * k) ∨ s (127 + 2 * k) < s (126 + 2 * j) := g.2.2.2.1
theorem SG.cu {s : Int → Int} (g : SG s) : ∀ k, 0 ≤ k → k < s 3 → 0 ≤ s (134 + 2 * k) ∧ s (134 + 2 * k) ≤ s (135 + 2 * k) ∧ s (135 + 2 * k) < s 0 := g.2.2.2.2.1
theorem SG.bl {s : Int → Int} (g : SG s) : ∀ k, 0 ≤ k → k < s 4 → 0 ≤ s (142 + 2 * k) ∧ s (142 + 2 * k) ≤ s (143 + 2 * k) ∧ s (143 + 2 * k) ≤ 199 := g.2.2.2.2.2.1
theorem SG.ti {s : Int → Int} (g : SG s) : ∀ k, 0 ≤ k → k < s 5 → (0 ≤ s (148 + 4 * k) ∧ s (148 + 4 * k) ≤ 2) ∧ (0 ≤ s (149 + 4 * k) ∧ s (149 + 4 * k) < s 0) ∧ (1 ≤ s (150 + 4 * k) ∧ s (150 + 4 * k) ≤ 20) ∧ (1 ≤ s (151 + 4 * k) ∧ s (151 + 4 * k) ≤ 80) := g.2.2.2.2.2.2
def cutP (s : Int → Int) (b : Int) : Prop := ∃ k, 0 ≤ k ∧ k < s 3 ∧ s (134 + 2 * k) ≤ b ∧ b ≤ s (135 + 2 * k)
def beyP (s : Int → Int) (v : Int) : Prop := (∃ k, 0 ≤ k ∧ k < s 2 ∧ v ≤ s (127 + 2 * k)) ∨ (∃ k, 0 ≤ k ∧ k < s 3 ∧ v ≤ s (135 + 2 * k)) ∨ (∃ k, 0 ≤ k ∧ k < s 5 ∧ v ≤ s (149 + 4 * k))
def barP (s : Int → Int) (b : Int) : Prop := 0 ≤ b ∧ b < s 0
def meetR (s : Int → Int) (a b : Int) : Prop := ∃ k, 0 ≤ k ∧ k < s 2 ∧ s (126 + 2 * k) ≤ b ∧ a ≤ s (127 + 2 * k)
def O_bars (s : Int → Int) (v z : Int) (s2 : Int → Int) : Prop := (¬ (1 ≤ v ∧ v ≤ 60) ∧ z = -2 ∧ s2 = s) ∨ ((1 ≤ v ∧ v ≤ 60) ∧ beyP s v ∧ z = -5 ∧ s2 = s) ∨ ((1 ≤ v ∧ v ≤ 60) ∧ ¬ beyP s v ∧ z = s 0 ∧ s2 = sset s 0 v)
def O_short (s : Int → Int) (v z : Int) (s2 : Int → Int) : Prop := (¬ (0 ≤ v ∧ v ≤ 50) ∧ z = -2 ∧ s2 = s) ∨ ((0 ≤ v ∧ v ≤ 50) ∧ z = s 1 ∧ s2 = sset s 1 v)
def O_bar (s : Int → Int) (b e t z : Int) (s2 : Int → Int) : Prop := (¬ barP s b ∧ z = -1 ∧ s2 = s) ∨ (barP s b ∧ ¬ ((1 ≤ e ∧ e ≤ 12) ∧ (20 ≤ t ∧ t ≤ 240)) ∧ z = -2 ∧ s2 = s) ∨ (barP s b ∧ ((1 ≤ e ∧ e ≤ 12) ∧ (20 ≤ t ∧ t ≤ 240)) ∧ z = 600 * e / t ∧ s2 = sset (sset s (6 + b) e) (66 + b) t)
def U_span (s : Int → Int) (pl cn a b : Int) : Int → Int := sset (sset (sset s (pl + 2 * s cn) a) (pl + 2 * s cn + 1) b) cn (s cn + 1)
def O_repeat (s : Int → Int) (a b z : Int) (s2 : Int → Int) : Prop := (¬ (barP s a ∧ barP s b) ∧ z = -1 ∧ s2 = s) ∨ ((barP s a ∧ barP s b) ∧ b < a ∧ z = -2 ∧ s2 = s) ∨ ((barP s a ∧ barP s b) ∧ a ≤ b ∧ s 2 = 4 ∧ z = -4 ∧ s2 = s) ∨
  ((barP s a ∧ barP s b) ∧ a ≤ b ∧ s 2 < 4 ∧ meetR s a b ∧ z = -5 ∧ s2 = s) ∨ ((barP s a ∧ barP s b) ∧ a ≤ b ∧ s 2 < 4 ∧ ¬ meetR s a b ∧ z = s 2 ∧ s2 = U_span s 126 2 a b)
def O_cut (s : Int → Int) (a b z : Int) (s2 : Int → Int) : Prop := (¬ (barP s a ∧ barP s b) ∧ z = -1 ∧ s2 = s) ∨ ((barP s a ∧ barP s b) ∧ b < a ∧ z = -2 ∧ s2 = s) ∨ ((barP s a ∧ barP s b) ∧ a ≤ b ∧ s 3 = 4 ∧ z = -4 ∧ s2 = s) ∨ ((barP s a ∧ barP s b) ∧ a ≤ b ∧ s 3 < 4 ∧ z = s 3 ∧ s2 = U_span s 134 3 a b)
def O_black (s : Int → Int) (a b z : Int) (s2 : Int → Int) : Prop := (¬ (0 ≤ a ∧ a ≤ b ∧ b ≤ 199) ∧ z = -2 ∧ s2 = s) ∨ ((0 ≤ a ∧ a ≤ b ∧ b ≤ 199) ∧ s 4 = 3 ∧ z = -4 ∧ s2 = s) ∨ ((0 ≤ a ∧ a ≤ b ∧ b ≤ 199) ∧ s 4 < 3 ∧ z = s 4 ∧ s2 = U_span s 142 4 a b)
def U_rm (s : Int → Int) (pl cn k : Int) : Int → Int := fun j => if j = cn then s cn - 1 else if pl + 2 * k ≤ j ∧ j < pl + 2 * (s cn - 1) then s (j + 2) else if j = pl + 2 * (s cn - 1) ∨ j = pl + 2 * (s cn - 1) + 1 then 0 else s j
def O_undoSpan (s : Int → Int) (w k z : Int) (s2 : Int → Int) : Prop := (¬ (0 ≤ w ∧ w ≤ 2) ∧ z = -2 ∧ s2 = s) ∨ ((0 ≤ w ∧ w ≤ 2) ∧ ¬ (0 ≤ k ∧ k < s (2 + w)) ∧ z = -1 ∧ s2 = s) ∨ ((0 ≤ w ∧ w ≤ 2) ∧ (0 ≤ k ∧ k < s (2 + w)) ∧ z = s (2 + w) - 1 ∧ s2 = U_rm s (126 + 8 * w) (2 + w) k)
def okT (kd ln lt : Int) : Prop := (0 ≤ kd ∧ kd ≤ 2) ∧ (1 ≤ ln ∧ ln ≤ 20) ∧ (1 ≤ lt ∧ lt ≤ 80)
def U_title (s : Int → Int) (kd b ln lt : Int) : Int → Int := sset (sset (sset (sset (sset s (148 + 4 * s 5) kd) (148 + 4 * s 5 + 1) b) (148 + 4 * s 5 + 2) ln) (148 + 4 * s 5 + 3) lt) 5 (s 5 + 1)
def O_title (s : Int → Int) (kd b ln lt z : Int) (s2 : Int → Int) : Prop := (¬ barP s b ∧ z = -1 ∧ s2 = s) ∨ (barP s b ∧ ¬ okT kd ln lt ∧ z = -2 ∧ s2 = s) ∨ (barP s b ∧ okT kd ln lt ∧ s 5 = 20 ∧ z = -4 ∧ s2 = s) ∨ (barP s b ∧ okT kd ln lt ∧ s 5 < 20 ∧ z = s 5 ∧ s2 = U_title s kd b ln lt)
def U_drop (s : Int → Int) (k : Int) : Int → Int := fun j => if j = 5 then s 5 - 1 else if 148 + 4 * k ≤ j ∧ j < 148 + 4 * (s 5 - 1) then s (j + 4) else if 148 + 4 * (s 5 - 1) ≤ j ∧ j < 148 + 4 * (s 5 - 1) + 4 then 0 else s j
def O_drop (s : Int → Int) (k z : Int) (s2 : Int → Int) : Prop := (¬ (0 ≤ k ∧ k < s 5) ∧ z = -1 ∧ s2 = s) ∨ ((0 ≤ k ∧ k < s 5) ∧ z = s 5 - 1 ∧ s2 = U_drop s k)
theorem O_bars.good {s s2 : Int → Int} {v z : Int} (g : SG s) (o : O_bars s v z s2) : SG s2 := by
  rcases o with ⟨_, _, rfl⟩ | ⟨_, _, _, rfl⟩ | ⟨hv, hb, _, rfl⟩
  · exact g
  · exact g
  · obtain ⟨g1, g2, g3, g4, g5, g6, g7⟩ := g
    have b1 : ∀ k, 0 ≤ k → k < s 2 → s (127 + 2 * k) < v := fun k h1 h2 => Int.not_le.mp fun q => hb (Or.inl ⟨k, h1, h2, q⟩)
    have b2 : ∀ k, 0 ≤ k → k < s 3 → s (135 + 2 * k) < v := fun k h1 h2 => Int.not_le.mp fun q => hb (Or.inr (Or.inl ⟨k, h1, h2, q⟩))
    have b3 : ∀ k, 0 ≤ k → k < s 5 → s (149 + 4 * k) < v := fun k h1 h2 => Int.not_le.mp fun q => hb (Or.inr (Or.inr ⟨k, h1, h2, q⟩))
    simp only [SG, sset_ap, Int.reduceEq, if_true, if_false]
    refine ⟨?_, ?_, ?_, ?_, ?_, ?_, ?_⟩
    · omega
    · intro k h1 h2; have a := g2 k h1 h2; omega
    · intro k h1 h2; have a := g3 k h1 h2; have c := b1 k h1 h2; omega
    · intro j k h0 h1 h2; have a := g4 j k h0 h1 h2; omega
    · intro k h1 h2; have a := g5 k h1 h2; have c := b2 k h1 h2; omega
    · intro k h1 h2; have a := g6 k h1 h2; omega
    · intro k h1 h2; have a := g7 k h1 h2; have c := b3 k h1 h2; omega
theorem O_short.good {s s2 : Int → Int} {v z : Int} (g : SG s) (o : O_short s v z s2) : SG s2 := by
  rcases o with ⟨_, _, rfl⟩ | ⟨hv, _, rfl⟩
  · exact g
  · obtain ⟨g1, g2, g3, g4, g5, g6, g7⟩ := g
    simp only [SG, sset_ap, Int.reduceEq, if_true, if_false]
    refine ⟨?_, ?_, ?_, ?_, ?_, ?_, ?_⟩
    · omega
    · intro k h1 h2; have a := g2 k h1 h2; omega
    · intro k h1 h2; have a := g3 k h1 h2; omega
    · intro j k h0 h1 h2; have a := g4 j k h0 h1 h2; omega
    · intro k h1 h2; have a := g5 k h1 h2; omega
    · intro k h1 h2; have a := g6 k h1 h2; omega
    · intro k h1 h2; have a := g7 k h1 h2; omega
theorem O_bar.good {s s2 : Int → Int} {b e t z : Int} (g : SG s) (o : O_bar s b e t z s2) : SG s2 := by
  rcases o with ⟨_, _, rfl⟩ | ⟨_, _, _, rfl⟩ | ⟨hb, hv, _, rfl⟩
  · exact g
  · exact g
  · obtain ⟨g1, g2, g3, g4, g5, g6, g7⟩ := g
    unfold barP at hb
    have f : ∀ i, i ≠ 6 + b → i ≠ 66 + b → sset (sset s (6 + b) e) (66 + b) t i = s i := fun i h1 h2 => by simp only [sset_ap]; rw [if_neg h2, if_neg h1]
    have f0 : sset (sset s (6 + b) e) (66 + b) t 0 = s 0 := f _ (by omega) (by omega)
    have f2 : sset (sset s (6 + b) e) (66 + b) t 2 = s 2 := f _ (by omega) (by omega)
    have f3 : sset (sset s (6 + b) e) (66 + b) t 3 = s 3 := f _ (by omega) (by omega)
    have f4 : sset (sset s (6 + b) e) (66 + b) t 4 = s 4 := f _ (by omega) (by omega)
    have f5 : sset (sset s (6 + b) e) (66 + b) t 5 = s 5 := f _ (by omega) (by omega)
    unfold SG
    rw [f0, f2, f3, f4, f5, f 1 (by omega) (by omega)]
    refine ⟨g1, ?_, ?_, ?_, ?_, ?_, ?_⟩
    · intro k h1 h2; have a := g2 k h1 h2; simp only [sset_ap]; omega
    · intro k h1 h2; have a := g3 k h1 h2; rw [f _ (by omega) (by omega), f _ (by omega) (by omega)]; exact a
    · intro j k h0 h1 h2; have a := g4 j k h0 h1 h2; rw [f _ (by omega) (by omega), f _ (by omega) (by omega), f _ (by omega) (by omega), f _ (by omega) (by omega)]; exact a
    · intro k h1 h2; have a := g5 k h1 h2; rw [f _ (by omega) (by omega), f _ (by omega) (by omega)]; exact a
    · intro k h1 h2; have a := g6 k h1 h2; rw [f _ (by omega) (by omega), f _ (by omega) (by omega)]; exact a
    · intro k h1 h2; have a := g7 k h1 h2; rw [f _ (by omega) (by omega), f _ (by omega) (by omega), f _ (by omega) (by omega), f _ (by omega) (by omega)]; exact a
theorem O_repeat.good {s s2 : Int → Int} {a b z : Int} (g : SG s) (o : O_repeat s a b z s2) : SG s2 := by
  rcases o with ⟨_, _, rfl⟩ | ⟨_, _, _, rfl⟩ | ⟨_, _, _, _, rfl⟩ | ⟨_, _, _, _, _, rfl⟩ | ⟨hab, h1, h2, h3, _, rfl⟩
  · exact g
  · exact g
  · exact g
  · exact g
  · obtain ⟨g1, g2, g3, g4, g5, g6, g7⟩ := g
    unfold barP at hab
    have d : ∀ k, 0 ≤ k → k < s 2 → b < s (126 + 2 * k) ∨ s (127 + 2 * k) < a := fun k q1 q2 => by
      by_cases q : s (126 + 2 * k) ≤ b ∧ a ≤ s (127 + 2 * k)
      · exact absurd ⟨k, q1, q2, q.1, q.2⟩ h3
      · omega
    simp only [SG, U_span, sset_ap]
    refine ⟨?_, ?_, ?_, ?_, ?_, ?_, ?_⟩
    · omega
    · intro k h1 h2; have a := g2 k h1 h2; omega
    · intro k h1 h2
      by_cases hk : k < s 2
      · have a := g3 k h1 hk; omega
      · omega
    · intro j k h0 h1 h2
      by_cases hk : k < s 2
      · have a := g4 j k h0 h1 hk; omega
      · have a := d j h0 (by omega); omega
    · intro k h1 h2; have a := g5 k h1 (by omega); omega
    · intro k h1 h2; have a := g6 k h1 (by omega); omega
    · intro k h1 h2; have a := g7 k h1 (by omega); omega
theorem O_cut.good {s s2 : Int → Int} {a b z : Int} (g : SG s) (o : O_cut s a b z s2) : SG s2 := by
  rcases o with ⟨_, _, rfl⟩ | ⟨_, _, _, rfl⟩ | ⟨_, _, _, _, rfl⟩ | ⟨hab, h1, h2, _, rfl⟩
  · exact g
  · exact g
  · exact g
  · obtain ⟨g1, g2, g3, g4, g5, g6, g7⟩ := g
    unfold barP at hab
    simp only [SG, U_span, sset_ap]
    refine ⟨?_, ?_, ?_, ?_, ?_, ?_, ?_⟩
    · omega
    · intro k h1 h2; have a := g2 k h1 h2; omega
    · intro k h1 h2; have a := g3 k h1 (by omega); omega
    · intro j k h0 h1 h2; have a := g4 j k h0 h1 (by omega); omega
    · intro k h1 h2
      by_cases hk : k < s 3
      · have a := g5 k h1 hk; omega
      · omega
    · intro k h1 h2; have a := g6 k h1 (by omega); omega
    · intro k h1 h2; have a := g7 k h1 (by omega); omega
theorem O_black.good {s s2 : Int → Int} {a b z : Int} (g : SG s) (o : O_black s a b z s2) : SG s2 := by
  rcases o with ⟨_, _, rfl⟩ | ⟨_, _, _, rfl⟩ | ⟨hab, h1, _, rfl⟩
  · exact g
  · exact g
  · obtain ⟨g1, g2, g3, g4, g5, g6, g7⟩ := g
    simp only [SG, U_span, sset_ap]
    refine ⟨?_, ?_, ?_, ?_, ?_, ?_, ?_⟩
    · omega
    · intro k h1 h2; have a := g2 k h1 h2; omega
    · intro k h1 h2; have a := g3 k h1 (by omega); omega
    · intro j k h0 h1 h2; have a := g4 j k h0 h1 (by omega); omega
    · intro k h1 h2; have a := g5 k h1 (by omega); omega
    · intro k h1 h2
      by_cases hk : k < s 4
      · have a := g6 k h1 hk; omega
      · omega
    · intro k h1 h2; have a := g7 k h1 (by omega); omega
theorem U_rm_at (s : Int → Int) {pl cn k j m : Int} (hm : m = s cn) (hcn : cn < pl) (hk : 0 ≤ k ∧ k < m) (hj : 0 ≤ j ∧ j < m - 1) (e : Int) (he : e = 0 ∨ e = 1) : U_rm s pl cn k (pl + e + 2 * j) = if k ≤ j then s (pl + e + 2 * (j + 1)) else s (pl + e + 2 * j) := by
  subst hm
  unfold U_rm
  rw [if_neg (by omega)]
  by_cases q : k ≤ j
  · rw [if_pos (by omega), if_pos q]; congr 1; omega
  · rw [if_neg (by omega), if_neg (by omega), if_neg q]
theorem U_rm_ne (s : Int → Int) {pl cn k j : Int} (h1 : j ≠ cn) (h2 : j < pl ∨ pl + 2 * s cn ≤ j) (hk : 0 ≤ k ∧ k < s cn) : U_rm s pl cn k j = s j := by
  unfold U_rm
  rw [if_neg h1, if_neg (by omega), if_neg (by omega)]
theorem U_rm_cn (s : Int → Int) {pl cn k : Int} : U_rm s pl cn k cn = s cn - 1 := by unfold U_rm; rw [if_pos rfl]
theorem O_undoSpan.good {s s2 : Int → Int} {w k z : Int} (g : SG s) (o : O_undoSpan s w k z s2) : SG s2 := by
  rcases o with ⟨_, _, rfl⟩ | ⟨_, _, _, rfl⟩ | ⟨hw, hk, _, rfl⟩
  · exact g
  · exact g
  · obtain ⟨g1, g2, g3, g4, g5, g6, g7⟩ := g
    rcases (show w = 0 ∨ w = 1 ∨ w = 2 by omega) with rfl | rfl | rfl
    · simp only [Int.reduceAdd, Int.reduceMul] at hk ⊢
      have f : ∀ j, j ≠ 2 → (j < 126 ∨ 126 + 2 * s 2 ≤ j) → U_rm s 126 2 k j = s j := fun j q1 q2 => U_rm_ne s q1 q2 hk
      have e0 : ∀ j, 0 ≤ j → j < s 2 - 1 → U_rm s 126 2 k (126 + 2 * j) = if k ≤ j then s (126 + 2 * (j + 1)) else s (126 + 2 * j) := fun j q1 q2 => U_rm_at s (pl := 126) rfl (by decide) hk ⟨q1, q2⟩ 0 (Or.inl rfl)
      have e1 : ∀ j, 0 ≤ j → j < s 2 - 1 → U_rm s 126 2 k (127 + 2 * j) = if k ≤ j then s (127 + 2 * (j + 1)) else s (127 + 2 * j) := fun j q1 q2 => U_rm_at s (pl := 126) rfl (by decide) hk ⟨q1, q2⟩ 1 (Or.inr rfl)
      unfold SG
      rw [U_rm_cn, f 0 (by omega) (by omega), f 1 (by omega) (by omega), f 3 (by omega) (by omega), f 4 (by omega) (by omega), f 5 (by omega) (by omega)]
      refine ⟨by omega, ?_, ?_, ?_, ?_, ?_, ?_⟩
      · intro k h1 h2; rw [f _ (by omega) (by omega), f _ (by omega) (by omega)]; exact g2 k h1 h2
      · intro j h1 h2; rw [e0 j h1 h2, e1 j h1 h2]; have a := g3 j h1 (by omega); have b := g3 (j + 1) (by omega) (by omega); split <;> omega
      · intro i j h0 h1 h2; rw [e0 j (by omega) h2, e1 j (by omega) h2, e0 i h0 (by omega), e1 i h0 (by omega)]
        have a := g4 i j h0 h1 (by omega); have b := g4 i (j + 1) h0 (by omega) (by omega); have c := g4 (i + 1) (j + 1) (by omega) (by omega) (by omega)
        split <;> split <;> omega
      · intro k h1 h2; rw [f _ (by omega) (by omega), f _ (by omega) (by omega)]; exact g5 k h1 h2
      · intro k h1 h2; rw [f _ (by omega) (by omega), f _ (by omega) (by omega)]; exact g6 k h1 h2
      · intro k h1 h2; rw [f _ (by omega) (by omega), f _ (by omega) (by omega), f _ (by omega) (by omega), f _ (by omega) (by omega)]; exact g7 k h1 h2
    · simp only [Int.reduceAdd, Int.reduceMul] at hk ⊢
      have f : ∀ j, j ≠ 3 → (j < 134 ∨ 134 + 2 * s 3 ≤ j) → U_rm s 134 3 k j = s j := fun j q1 q2 => U_rm_ne s q1 q2 hk
      have e0 : ∀ j, 0 ≤ j → j < s 3 - 1 → U_rm s 134 3 k (134 + 2 * j) = if k ≤ j then s (134 + 2 * (j + 1)) else s (134 + 2 * j) := fun j q1 q2 => U_rm_at s (pl := 134) rfl (by decide) hk ⟨q1, q2⟩ 0 (Or.inl rfl)
      have e1 : ∀ j, 0 ≤ j → j < s 3 - 1 → U_rm s 134 3 k (135 + 2 * j) = if k ≤ j then s (135 + 2 * (j + 1)) else s (135 + 2 * j) := fun j q1 q2 => U_rm_at s (pl := 134) rfl (by decide) hk ⟨q1, q2⟩ 1 (Or.inr rfl)
      unfold SG
      rw [U_rm_cn, f 0 (by omega) (by omega), f 1 (by omega) (by omega), f 2 (by omega) (by omega), f 4 (by omega) (by omega), f 5 (by omega) (by omega)]
      refine ⟨by omega, ?_, ?_, ?_, ?_, ?_, ?_⟩
      · intro k h1 h2; rw [f _ (by omega) (by omega), f _ (by omega) (by omega)]; exact g2 k h1 h2
      · intro k h1 h2; rw [f _ (by omega) (by omega), f _ (by omega) (by omega)]; exact g3 k h1 h2
      · intro i j h0 h1 h2; rw [f _ (by omega) (by omega), f _ (by omega) (by omega), f _ (by omega) (by omega), f _ (by omega) (by omega)]; exact g4 i j h0 h1 h2
      · intro j h1 h2; rw [e0 j h1 h2, e1 j h1 h2]; have a := g5 j h1 (by omega); have b := g5 (j + 1) (by omega) (by omega); split <;> omega
      · intro k h1 h2; rw [f _ (by omega) (by omega), f _ (by omega) (by omega)]; exact g6 k h1 h2
      · intro k h1 h2; rw [f _ (by omega) (by omega), f _ (by omega) (by omega), f _ (by omega) (by omega), f _ (by omega) (by omega)]; exact g7 k h1 h2
    · simp only [Int.reduceAdd, Int.reduceMul] at hk ⊢
      have f : ∀ j, j ≠ 4 → (j < 142 ∨ 142 + 2 * s 4 ≤ j) → U_rm s 142 4 k j = s j := fun j q1 q2 => U_rm_ne s q1 q2 hk
      have e0 : ∀ j, 0 ≤ j → j < s 4 - 1 → U_rm s 142 4 k (142 + 2 * j) = if k ≤ j then s (142 + 2 * (j + 1)) else s (142 + 2 * j) := fun j q1 q2 => U_rm_at s (pl := 142) rfl (by decide) hk ⟨q1, q2⟩ 0 (Or.inl rfl)
      have e1 : ∀ j, 0 ≤ j → j < s 4 - 1 → U_rm s 142 4 k (143 + 2 * j) = if k ≤ j then s (143 + 2 * (j + 1)) else s (143 + 2 * j) := fun j q1 q2 => U_rm_at s (pl := 142) rfl (by decide) hk ⟨q1, q2⟩ 1 (Or.inr rfl)
      unfold SG
      rw [U_rm_cn, f 0 (by omega) (by omega), f 1 (by omega) (by omega), f 2 (by omega) (by omega), f 3 (by omega) (by omega), f 5 (by omega) (by omega)]
      refine ⟨by omega, ?_, ?_, ?_, ?_, ?_, ?_⟩
      · intro k h1 h2; rw [f _ (by omega) (by omega), f _ (by omega) (by omega)]; exact g2 k h1 h2
      · intro k h1 h2; rw [f _ (by omega) (by omega), f _ (by omega) (by omega)]; exact g3 k h1 h2
      · intro i j h0 h1 h2; rw [f _ (by omega) (by omega), f _ (by omega) (by omega), f _ (by omega) (by omega), f _ (by omega) (by omega)]; exact g4 i j h0 h1 h2
      · intro k h1 h2; rw [f _ (by omega) (by omega), f _ (by omega) (by omega)]; exact g5 k h1 h2
      · intro j h1 h2; rw [e0 j h1 h2, e1 j h1 h2]; have a := g6 j h1 (by omega); have b := g6 (j + 1) (by omega) (by omega); split <;> omega
      · intro k h1 h2; rw [f _ (by omega) (by omega), f _ (by omega) (by omega), f _ (by omega) (by omega), f _ (by omega) (by omega)]; exact g7 k h1 h2
theorem O_title.good {s s2 : Int → Int} {kd b ln lt z : Int} (g : SG s) (o : O_title s kd b ln lt z s2) : SG s2 := by
  rcases o with ⟨_, _, rfl⟩ | ⟨_, _, _, rfl⟩ | ⟨_, _, _, _, rfl⟩ | ⟨hb, h1, h2, _, rfl⟩
  · exact g
  · exact g
  · exact g
  · obtain ⟨g1, g2, g3, g4, g5, g6, g7⟩ := g
    unfold barP at hb
    unfold okT at h1
    have f : ∀ j, j ≠ 5 → (j < 148 ∨ j < 148 + 4 * s 5) → U_title s kd b ln lt j = s j := fun j q1 q2 => by simp only [U_title, sset_ap]; omega
    have f5 : U_title s kd b ln lt 5 = s 5 + 1 := by unfold U_title; rw [sset_ap, if_pos rfl]
    unfold SG
    rw [f5, f 0 (by omega) (by omega), f 1 (by omega) (by omega), f 2 (by omega) (by omega), f 3 (by omega) (by omega), f 4 (by omega) (by omega)]
    refine ⟨by omega, ?_, ?_, ?_, ?_, ?_, ?_⟩
    · intro k h1 h2; rw [f _ (by omega) (by omega), f _ (by omega) (by omega)]; exact g2 k h1 h2
    · intro k h1 h2; rw [f _ (by omega) (by omega), f _ (by omega) (by omega)]; exact g3 k h1 h2
    · intro i j h0 h1 h2; rw [f _ (by omega) (by omega), f _ (by omega) (by omega), f _ (by omega) (by omega), f _ (by omega) (by omega)]; exact g4 i j h0 h1 h2
    · intro k h1 h2; rw [f _ (by omega) (by omega), f _ (by omega) (by omega)]; exact g5 k h1 h2
    · intro k h1 h2; rw [f _ (by omega) (by omega), f _ (by omega) (by omega)]; exact g6 k h1 h2
    · intro k q1 q2
      by_cases hk : k < s 5
      · rw [f _ (by omega) (by omega), f _ (by omega) (by omega), f _ (by omega) (by omega), f _ (by omega) (by omega)]; exact g7 k q1 hk
      · have e : k = s 5 := by omega
        rw [e]
        have t0 : U_title s kd b ln lt (148 + 4 * s 5) = kd := by simp only [U_title, sset_ap]; rw [if_neg (by omega), if_neg (by omega), if_neg (by omega), if_neg (by omega), if_pos trivial]
        have t1 : U_title s kd b ln lt (149 + 4 * s 5) = b := by simp only [U_title, sset_ap]; rw [if_neg (by omega), if_neg (by omega), if_neg (by omega), if_pos (by omega)]
        have t2 : U_title s kd b ln lt (150 + 4 * s 5) = ln := by simp only [U_title, sset_ap]; rw [if_neg (by omega), if_neg (by omega), if_pos (by omega)]
        have t3 : U_title s kd b ln lt (151 + 4 * s 5) = lt := by simp only [U_title, sset_ap]; rw [if_neg (by omega), if_pos (by omega)]
        rw [t0, t1, t2, t3]
        exact ⟨h1.1, hb, h1.2.1, h1.2.2⟩
theorem U_drop_at (s : Int → Int) {k j : Int} (hk : 0 ≤ k ∧ k < s 5) (hj : 0 ≤ j ∧ j < s 5 - 1) (e : Int) (he : 0 ≤ e ∧ e < 4) : U_drop s k (148 + e + 4 * j) = if k ≤ j then s (148 + e + 4 * (j + 1)) else s (148 + e + 4 * j) := by
  unfold U_drop
  rw [if_neg (by omega)]
  by_cases q : k ≤ j
  · rw [if_pos (by omega), if_pos q]; congr 1; omega
  · rw [if_neg (by omega), if_neg (by omega), if_neg q]
theorem O_drop.good {s s2 : Int → Int} {k z : Int} (g : SG s) (o : O_drop s k z s2) : SG s2 := by
  rcases o with ⟨_, _, rfl⟩ | ⟨hk, _, rfl⟩
  · exact g
  · obtain ⟨g1, g2, g3, g4, g5, g6, g7⟩ := g
    have f : ∀ j, j ≠ 5 → j < 148 → U_drop s k j = s j := fun j q1 q2 => by unfold U_drop; rw [if_neg q1, if_neg (by omega), if_neg (by omega)]
    have f5 : U_drop s k 5 = s 5 - 1 := by unfold U_drop; rw [if_pos rfl]
    have e0 : ∀ e, 0 ≤ e → e < 4 → ∀ j, 0 ≤ j → j < s 5 - 1 → U_drop s k (148 + e + 4 * j) = if k ≤ j then s (148 + e + 4 * (j + 1)) else s (148 + e + 4 * j) := fun e a1 a2 j q1 q2 => U_drop_at s hk ⟨q1, q2⟩ e ⟨a1, a2⟩
    have d0 : ∀ j, 0 ≤ j → j < s 5 - 1 → U_drop s k (148 + 4 * j) = if k ≤ j then s (148 + 4 * (j + 1)) else s (148 + 4 * j) := e0 0 (by decide) (by decide)
    have d1 : ∀ j, 0 ≤ j → j < s 5 - 1 → U_drop s k (149 + 4 * j) = if k ≤ j then s (149 + 4 * (j + 1)) else s (149 + 4 * j) := e0 1 (by decide) (by decide)
    have d2 : ∀ j, 0 ≤ j → j < s 5 - 1 → U_drop s k (150 + 4 * j) = if k ≤ j then s (150 + 4 * (j + 1)) else s (150 + 4 * j) := e0 2 (by decide) (by decide)
    have d3 : ∀ j, 0 ≤ j → j < s 5 - 1 → U_drop s k (151 + 4 * j) = if k ≤ j then s (151 + 4 * (j + 1)) else s (151 + 4 * j) := e0 3 (by decide) (by decide)
    unfold SG
    rw [f5, f 0 (by omega) (by omega), f 1 (by omega) (by omega), f 2 (by omega) (by omega), f 3 (by omega) (by omega), f 4 (by omega) (by omega)]
    refine ⟨by omega, ?_, ?_, ?_, ?_, ?_, ?_⟩
    · intro k h1 h2; rw [f _ (by omega) (by omega), f _ (by omega) (by omega)]; exact g2 k h1 h2
    · intro k h1 h2; rw [f _ (by omega) (by omega), f _ (by omega) (by omega)]; exact g3 k h1 h2
    · intro i j h0 h1 h2; rw [f _ (by omega) (by omega), f _ (by omega) (by omega), f _ (by omega) (by omega), f _ (by omega) (by omega)]; exact g4 i j h0 h1 h2
    · intro k h1 h2; rw [f _ (by omega) (by omega), f _ (by omega) (by omega)]; exact g5 k h1 h2
    · intro k h1 h2; rw [f _ (by omega) (by omega), f _ (by omega) (by omega)]; exact g6 k h1 h2
    · intro j h1 h2
      rw [d0 j h1 h2, d1 j h1 h2, d2 j h1 h2, d3 j h1 h2]
      have a := g7 j h1 (by omega); have b := g7 (j + 1) (by omega) (by omega)
      split <;> omega
end
section
/-! What the class's Score holds, carried over its changes -/
def FR (p k : Int) (h h2 : qH) : Prop := ∀ x y, (x < p ∨ p + k ≤ x) → h2 x y = h x y
theorem FR.rf {p k : Int} {h : qH} : FR p k h h := fun _ _ _ => rfl
theorem FR.tr {p k : Int} {h h2 h3 : qH} (a : FR p k h h2) (b : FR p k h2 h3) : FR p k h h3 := fun x y q => (b x y q).trans (a x y q)
theorem FR.wd {p k p2 k2 : Int} {h h2 : qH} (a : FR p k h h2) (h1 : p2 ≤ p) (h3 : p + k ≤ p2 + k2) : FR p2 k2 h h2 := fun x y q => a x y (by omega)
theorem CSpans.to {h h2 : qH} {p m m2 : Int} {F L F2 L2 : Int → Int} (c : CSpans h p m F L) (hr : ∀ x y, p ≤ x → x ≤ p + 2 → h2 x y = h x y) (hm : m2 = m) (hf : ∀ k, 0 ≤ k → k < m → F2 k = F k ∧ L2 k = L k) : CSpans h2 p m2 F2 L2 := by
  subst hm
  refine ⟨by rw [hr _ _ (by omega) (by omega)]; exact c.1, fun k h1 h2 => ?_⟩
  rw [hr _ _ (by omega) (by omega), hr _ _ (by omega) (by omega), (hf k h1 h2).1, (hf k h1 h2).2]
  exact c.2 k h1 h2
theorem CTitles.to {h h2 : qH} {p : Int} {s s2 : Int → Int} (c : CTitles h p s) (hr : ∀ x y, p ≤ x → x ≤ p + 4 → h2 x y = h x y) (h5 : s2 5 = s 5) (hs : ∀ j, 148 ≤ j → j < 148 + 4 * s 5 → s2 j = s j) : CTitles h2 p s2 := by
  refine ⟨by rw [hr _ _ (by omega) (by omega), h5]; exact c.1, fun k h1 h2 => ?_⟩
  rw [h5] at h2
  rw [hr _ _ (by omega) (by omega), hr _ _ (by omega) (by omega), hr _ _ (by omega) (by omega), hr _ _ (by omega) (by omega), hs _ (by omega) (by omega), hs _ (by omega) (by omega), hs _ (by omega) (by omega), hs _ (by omega) (by omega)]
  exact c.2 k h1 h2
theorem CScore.fr {h h2 : qH} {p : Int} {s : Int → Int} (c : CScore h p s) (hr : ∀ x y, p ≤ x → x < p + 17 → h2 x y = h x y) : CScore h2 p s := by
  obtain ⟨c0, c1, c2, c3, c4, c5, c6⟩ := c
  refine ⟨by rw [hr _ _ (by omega) (by omega)]; exact c0, by rw [hr _ _ (by omega) (by omega)]; exact c1, fun k h1 h2 => ?_, c3.to (fun x y h1 h2 => hr x y (by omega) (by omega)) rfl (fun k _ _ => ⟨rfl, rfl⟩), c4.to (fun x y h1 h2 => hr x y (by omega) (by omega)) rfl (fun k _ _ => ⟨rfl, rfl⟩), c5.to (fun x y h1 h2 => hr x y (by omega) (by omega)) rfl (fun k _ _ => ⟨rfl, rfl⟩), c6.to (fun x y h1 h2 => hr x y (by omega) (by omega)) rfl (fun j _ _ => rfl)⟩
  rw [hr _ _ (by omega) (by omega), hr _ _ (by omega) (by omega)]
  exact c2 k h1 h2
/-- the score's numbers may be others where nothing is meant -/
theorem CScore.eqv {h : qH} {p : Int} {s s2 : Int → Int} (c : CScore h p s) (g : SG s) (h0 : ∀ j, 0 ≤ j → j < 126 → s2 j = s j) (h1 : ∀ j, 126 ≤ j → j < 126 + 2 * s 2 → s2 j = s j) (h3 : ∀ j, 134 ≤ j → j < 134 + 2 * s 3 → s2 j = s j) (h4 : ∀ j, 142 ≤ j → j < 142 + 2 * s 4 → s2 j = s j) (h5 : ∀ j, 148 ≤ j → j < 148 + 4 * s 5 → s2 j = s j) : CScore h p s2 := by
  obtain ⟨c0, c1, c2, c3, c4, c5, c6⟩ := c
  refine ⟨by rw [h0 _ (by omega) (by omega)]; exact c0, by rw [h0 _ (by omega) (by omega)]; exact c1, fun k q1 q2 => ?_, c3.to (fun _ _ _ _ => rfl) (h0 _ (by omega) (by omega)) (fun k q1 q2 => ⟨h1 _ (by omega) (by omega), h1 _ (by omega) (by omega)⟩), c4.to (fun _ _ _ _ => rfl) (h0 _ (by omega) (by omega)) (fun k q1 q2 => ⟨h3 _ (by omega) (by omega), h3 _ (by omega) (by omega)⟩), c5.to (fun _ _ _ _ => rfl) (h0 _ (by omega) (by omega)) (fun k q1 q2 => ⟨h4 _ (by omega) (by omega), h4 _ (by omega) (by omega)⟩), c6.to (fun _ _ _ _ => rfl) (h0 _ (by omega) (by omega)) h5⟩
  rw [h0 _ (by omega) (by omega), h0 _ (by omega) (by omega)]
  exact c2 k q1 q2
/-- one number of the score and of its object changes -/
theorem CScore.set0 {h : qH} {p v : Int} {s : Int → Int} (c : CScore h p s) (g : SG s) : CScore (hset h p 0 v) p (sset s 0 v) := by
  have gn := g.n
  obtain ⟨c0, c1, c2, c3, c4, c5, c6⟩ := c
  have f : ∀ j, j ≠ 0 → sset s 0 v j = s j := fun j q => by rw [sset_ap, if_neg q]
  have e : ∀ x y, x ≠ p → hset h p 0 v x y = h x y := fun x y q => hset_nea _ _ _ q
  refine ⟨by rw [hset_same, sset_ap, if_pos rfl], by rw [hset_neb _ _ _ (by decide), f _ (by decide)]; exact c1, fun k q1 q2 => ?_, c3.to (fun x y _ _ => e x y (by omega)) (f _ (by decide)) (fun k _ _ => ⟨f _ (by omega), f _ (by omega)⟩), c4.to (fun x y _ _ => e x y (by omega)) (f _ (by decide)) (fun k _ _ => ⟨f _ (by omega), f _ (by omega)⟩), c5.to (fun x y _ _ => e x y (by omega)) (f _ (by decide)) (fun k _ _ => ⟨f _ (by omega), f _ (by omega)⟩), c6.to (fun x y _ _ => e x y (by omega)) (f _ (by decide)) (fun j _ _ => f _ (by omega))⟩
  rw [e _ _ (by omega), e _ _ (by omega), f _ (by omega), f _ (by omega)]
  exact c2 k q1 q2
theorem CScore.set1 {h : qH} {p v : Int} {s : Int → Int} (c : CScore h p s) (g : SG s) : CScore (hset h p 1 v) p (sset s 1 v) := by
  have gn := g.n
  obtain ⟨c0, c1, c2, c3, c4, c5, c6⟩ := c
  have f : ∀ j, j ≠ 1 → sset s 1 v j = s j := fun j q => by rw [sset_ap, if_neg q]
  have e : ∀ x y, x ≠ p → hset h p 1 v x y = h x y := fun x y q => hset_nea _ _ _ q
  refine ⟨by rw [hset_neb _ _ _ (by decide), f _ (by decide)]; exact c0, by rw [hset_same, sset_ap, if_pos rfl], fun k q1 q2 => ?_, c3.to (fun x y _ _ => e x y (by omega)) (f _ (by decide)) (fun k _ _ => ⟨f _ (by omega), f _ (by omega)⟩), c4.to (fun x y _ _ => e x y (by omega)) (f _ (by decide)) (fun k _ _ => ⟨f _ (by omega), f _ (by omega)⟩), c5.to (fun x y _ _ => e x y (by omega)) (f _ (by decide)) (fun k _ _ => ⟨f _ (by omega), f _ (by omega)⟩), c6.to (fun x y _ _ => e x y (by omega)) (f _ (by decide)) (fun j _ _ => f _ (by omega))⟩
  rw [e _ _ (by omega), e _ _ (by omega), f _ (by omega), f _ (by omega)]
  exact c2 k q1 q2
theorem CScore.setB {h : qH} {p b e t : Int} {s : Int → Int} (c : CScore h p s) (g : SG s) (hb : 0 ≤ b ∧ b < 60) : CScore (hset (hset h (p + 1) b e) (p + 2) b t) p (sset (sset s (6 + b) e) (66 + b) t) := by
  have gn := g.n
  obtain ⟨c0, c1, c2, c3, c4, c5, c6⟩ := c
  have f : ∀ j, j ≠ 6 + b → j ≠ 66 + b → sset (sset s (6 + b) e) (66 + b) t j = s j := fun j q1 q2 => by rw [sset_ap, if_neg q2, sset_ap, if_neg q1]
  have d : ∀ x y, x ≠ p + 1 → x ≠ p + 2 → hset (hset h (p + 1) b e) (p + 2) b t x y = h x y := fun x y q1 q2 => by rw [hset_nea _ _ _ q2, hset_nea _ _ _ q1]
  refine ⟨by rw [d _ _ (by omega) (by omega), f _ (by omega) (by omega)]; exact c0, by rw [d _ _ (by omega) (by omega), f _ (by omega) (by omega)]; exact c1, fun k q1 q2 => ?_, c3.to (fun x y _ _ => d x y (by omega) (by omega)) (f _ (by omega) (by omega)) (fun k _ _ => ⟨f _ (by omega) (by omega), f _ (by omega) (by omega)⟩), c4.to (fun x y _ _ => d x y (by omega) (by omega)) (f _ (by omega) (by omega)) (fun k _ _ => ⟨f _ (by omega) (by omega), f _ (by omega) (by omega)⟩), c5.to (fun x y _ _ => d x y (by omega) (by omega)) (f _ (by omega) (by omega)) (fun k _ _ => ⟨f _ (by omega) (by omega), f _ (by omega) (by omega)⟩), c6.to (fun x y _ _ => d x y (by omega) (by omega)) (f _ (by omega) (by omega)) (fun j _ _ => f _ (by omega) (by omega))⟩
  have a := c2 k q1 q2
  by_cases hk : k = b
  · subst hk
    constructor
    · rw [hset_nea _ _ _ (by omega), hset_same, sset_ap, if_neg (by omega), sset_ap, if_pos rfl]
    · rw [hset_same, sset_ap, if_pos rfl]
  · rw [f _ (by omega) (by omega), f _ (by omega) (by omega)]
    simp only [hset_ap]
    rw [if_neg (by omega), if_neg (by omega), if_neg (by omega), if_neg (by omega)]
    exact a
theorem U_span_ne {s : Int → Int} {pl cn a b j : Int} (h1 : j ≠ cn) (h2 : j ≠ pl + 2 * s cn) (h3 : j ≠ pl + 2 * s cn + 1) : U_span s pl cn a b j = s j := by
  unfold U_span
  rw [sset_ap, if_neg h1, sset_ap, if_neg h3, sset_ap, if_neg h2]
theorem U_span_cn {s : Int → Int} {pl cn a b : Int} : U_span s pl cn a b cn = s cn + 1 := by
  unfold U_span
  rw [sset_ap, if_pos rfl]
theorem U_span_a {s : Int → Int} {pl cn a b : Int} (h : pl + 2 * s cn ≠ cn) : U_span s pl cn a b (pl + 2 * s cn) = a := by
  unfold U_span
  rw [sset_ap, if_neg h, sset_ap, if_neg (by omega), sset_ap, if_pos rfl]
theorem U_span_b {s : Int → Int} {pl cn a b : Int} (h : pl + 2 * s cn + 1 ≠ cn) : U_span s pl cn a b (pl + 1 + 2 * s cn) = b := by
  unfold U_span
  rw [sset_ap, if_neg (by omega), sset_ap, if_pos (by omega)]
/-- the spans' own part of a span that comes -/
theorem CSpans.add {h : qH} {p pl cn a b : Int} {s : Int → Int} {F L : Int → Int} (c : CSpans h p (s cn) F L) (hF : ∀ k, F k = s (pl + 2 * k)) (hL : ∀ k, L k = s (pl + 1 + 2 * k)) (h0 : 0 ≤ s cn) (hcn : cn < pl) {F2 L2 : Int → Int} (hF2 : ∀ k, F2 k = U_span s pl cn a b (pl + 2 * k)) (hL2 : ∀ k, L2 k = U_span s pl cn a b (pl + 1 + 2 * k)) : CSpans (hset (hset (hset h (p + 1) (s cn) a) (p + 2) (s cn) b) p 2 (s cn + 1)) p (U_span s pl cn a b cn) F2 L2 := by
  rw [U_span_cn]
  refine ⟨hset_same _ _ _ _, fun k h1 h2 => ?_⟩
  have e1 : hset (hset (hset h (p + 1) (s cn) a) (p + 2) (s cn) b) p 2 (s cn + 1) (p + 1) k = hset h (p + 1) (s cn) a (p + 1) k := by rw [hset_nea _ _ _ (by omega), hset_nea _ _ _ (by omega)]
  have e2 : hset (hset (hset h (p + 1) (s cn) a) (p + 2) (s cn) b) p 2 (s cn + 1) (p + 2) k = hset (hset h (p + 1) (s cn) a) (p + 2) (s cn) b (p + 2) k := by rw [hset_nea _ _ _ (by omega)]
  rw [hF2, hL2, e1, e2]
  by_cases hk : k = s cn
  · subst hk
    rw [hset_same, hset_same, U_span_a (by omega), U_span_b (by omega)]
    exact ⟨rfl, rfl⟩
  · rw [hset_neb _ _ _ hk, hset_neb _ _ _ hk, hset_nea _ _ _ (by omega), U_span_ne (by omega) (by omega) (by omega), U_span_ne (by omega) (by omega) (by omega), ← hF, ← hL]
    exact c.2 k h1 (by omega)
theorem CScore.addR {h h2 : qH} {p a b : Int} {s : Int → Int} (c : CScore h p s) (g : SG s) (h4 : s 2 < 4) (e : h2 = hset (hset (hset h (p + 3 + 1) (s 2) a) (p + 3 + 2) (s 2) b) (p + 3) 2 (s 2 + 1)) : CScore h2 p (U_span s 126 2 a b) ∧ FR p 17 h h2 := by
  have gn := g.n
  obtain ⟨c0, c1, c2, c3, c4, c5, c6⟩ := c
  have f : ∀ j, j ≠ 2 → (j < 126 ∨ 134 ≤ j) → U_span s 126 2 a b j = s j := fun j q1 q2 => U_span_ne q1 (by omega) (by omega)
  have d : ∀ x y, (x < p + 3 ∨ p + 6 ≤ x) → h2 x y = h x y := fun x y q => by rw [e, hset_nea _ _ _ (by omega), hset_nea _ _ _ (by omega), hset_nea _ _ _ (by omega)]
  refine ⟨⟨by rw [d _ _ (by omega), f _ (by omega) (by omega)]; exact c0, by rw [d _ _ (by omega), f _ (by omega) (by omega)]; exact c1, fun k q1 q2 => ?_, by rw [e]; exact c3.add (pl := 126) (fun _ => rfl) (fun _ => rfl) gn.2.2.1.1 (by decide) (fun _ => rfl) (fun _ => rfl), c4.to (fun x y _ _ => d x y (by omega)) (f _ (by omega) (by omega)) (fun k _ _ => ⟨f _ (by omega) (by omega), f _ (by omega) (by omega)⟩), c5.to (fun x y _ _ => d x y (by omega)) (f _ (by omega) (by omega)) (fun k _ _ => ⟨f _ (by omega) (by omega), f _ (by omega) (by omega)⟩), c6.to (fun x y _ _ => d x y (by omega)) (f _ (by omega) (by omega)) (fun j _ _ => f _ (by omega) (by omega))⟩, fun x y q => d x y (by omega)⟩
  rw [d _ _ (by omega), d _ _ (by omega), f _ (by omega) (by omega), f _ (by omega) (by omega)]
  exact c2 k q1 q2
theorem CScore.addC {h h2 : qH} {p a b : Int} {s : Int → Int} (c : CScore h p s) (g : SG s) (h4 : s 3 < 4) (e : h2 = hset (hset (hset h (p + 6 + 1) (s 3) a) (p + 6 + 2) (s 3) b) (p + 6) 2 (s 3 + 1)) : CScore h2 p (U_span s 134 3 a b) ∧ FR p 17 h h2 := by
  have gn := g.n
  obtain ⟨c0, c1, c2, c3, c4, c5, c6⟩ := c
  have f : ∀ j, j ≠ 3 → (j < 134 ∨ 142 ≤ j) → U_span s 134 3 a b j = s j := fun j q1 q2 => U_span_ne q1 (by omega) (by omega)
  have d : ∀ x y, (x < p + 6 ∨ p + 9 ≤ x) → h2 x y = h x y := fun x y q => by rw [e, hset_nea _ _ _ (by omega), hset_nea _ _ _ (by omega), hset_nea _ _ _ (by omega)]
  refine ⟨⟨by rw [d _ _ (by omega), f _ (by omega) (by omega)]; exact c0, by rw [d _ _ (by omega), f _ (by omega) (by omega)]; exact c1, fun k q1 q2 => ?_, c3.to (fun x y _ _ => d x y (by omega)) (f _ (by omega) (by omega)) (fun k _ _ => ⟨f _ (by omega) (by omega), f _ (by omega) (by omega)⟩), by rw [e]; exact c4.add (pl := 134) (fun _ => rfl) (fun _ => rfl) gn.2.2.2.1.1 (by decide) (fun _ => rfl) (fun _ => rfl), c5.to (fun x y _ _ => d x y (by omega)) (f _ (by omega) (by omega)) (fun k _ _ => ⟨f _ (by omega) (by omega), f _ (by omega) (by omega)⟩), c6.to (fun x y _ _ => d x y (by omega)) (f _ (by omega) (by omega)) (fun j _ _ => f _ (by omega) (by omega))⟩, fun x y q => d x y (by omega)⟩
  rw [d _ _ (by omega), d _ _ (by omega), f _ (by omega) (by omega), f _ (by omega) (by omega)]
  exact c2 k q1 q2
theorem CScore.addB {h h2 : qH} {p a b : Int} {s : Int → Int} (c : CScore h p s) (g : SG s) (h4 : s 4 < 3) (e : h2 = hset (hset (hset h (p + 9 + 1) (s 4) a) (p + 9 + 2) (s 4) b) (p + 9) 2 (s 4 + 1)) : CScore h2 p (U_span s 142 4 a b) ∧ FR p 17 h h2 := by
  have gn := g.n
  obtain ⟨c0, c1, c2, c3, c4, c5, c6⟩ := c
  have f : ∀ j, j ≠ 4 → (j < 142 ∨ 148 ≤ j) → U_span s 142 4 a b j = s j := fun j q1 q2 => U_span_ne q1 (by omega) (by omega)
  have d : ∀ x y, (x < p + 9 ∨ p + 12 ≤ x) → h2 x y = h x y := fun x y q => by rw [e, hset_nea _ _ _ (by omega), hset_nea _ _ _ (by omega), hset_nea _ _ _ (by omega)]
  refine ⟨⟨by rw [d _ _ (by omega), f _ (by omega) (by omega)]; exact c0, by rw [d _ _ (by omega), f _ (by omega) (by omega)]; exact c1, fun k q1 q2 => ?_, c3.to (fun x y _ _ => d x y (by omega)) (f _ (by omega) (by omega)) (fun k _ _ => ⟨f _ (by omega) (by omega), f _ (by omega) (by omega)⟩), c4.to (fun x y _ _ => d x y (by omega)) (f _ (by omega) (by omega)) (fun k _ _ => ⟨f _ (by omega) (by omega), f _ (by omega) (by omega)⟩), by rw [e]; exact c5.add (pl := 142) (fun _ => rfl) (fun _ => rfl) gn.2.2.2.2.1.1 (by decide) (fun _ => rfl) (fun _ => rfl), c6.to (fun x y _ _ => d x y (by omega)) (f _ (by omega) (by omega)) (fun j _ _ => f _ (by omega) (by omega))⟩, fun x y q => d x y (by omega)⟩
  rw [d _ _ (by omega), d _ _ (by omega), f _ (by omega) (by omega), f _ (by omega) (by omega)]
  exact c2 k q1 q2
/-- the spans' own part of a span that goes -/
theorem CSpans.rm {h h2 : qH} {p pl cn a m : Int} {s : Int → Int} {F L : Int → Int} (c : CSpans h p m F L) (hm : m = s cn) (hF : ∀ k, F k = s (pl + 2 * k)) (hL : ∀ k, L k = s (pl + 1 + 2 * k)) (hcn : cn < pl) (ha : 0 ≤ a ∧ a < m) (e : ∀ x y, h2 x y = if x = p ∧ y = 2 then m - 1 else if (x = p + 1 ∨ x = p + 2) ∧ a ≤ y ∧ y < m - 1 then h x (y + 1) else h x y) {F2 L2 : Int → Int} (hF2 : ∀ k, F2 k = U_rm s pl cn a (pl + 2 * k)) (hL2 : ∀ k, L2 k = U_rm s pl cn a (pl + 1 + 2 * k)) : CSpans h2 p (U_rm s pl cn a cn) F2 L2 := by
  rw [U_rm_cn, ← hm]
  refine ⟨by rw [e, if_pos ⟨rfl, rfl⟩], fun k h1 q2 => ?_⟩
  have u0 := U_rm_at s hm hcn ha ⟨h1, q2⟩ 0 (Or.inl rfl)
  have u1 := U_rm_at s hm hcn ha ⟨h1, q2⟩ 1 (Or.inr rfl)
  rw [show pl + 0 + 2 * k = pl + 2 * k by omega, show pl + 0 + 2 * (k + 1) = pl + 2 * (k + 1) by omega] at u0
  have r : ∀ x, (x = p + 1 ∨ x = p + 2) → h2 x k = if a ≤ k then h x (k + 1) else h x k := fun x hx => by
    rw [e, if_neg (by omega)]
    by_cases hk : a ≤ k
    · rw [if_pos ⟨hx, hk, q2⟩, if_pos hk]
    · rw [if_neg (fun z => hk z.2.1), if_neg hk]
  rw [hF2, hL2, u0, u1, r _ (Or.inl rfl), r _ (Or.inr rfl)]
  have c1 := c.2 k h1 (by omega)
  have c2 := c.2 (k + 1) (by omega) (by omega)
  rw [hF, hL] at c1 c2
  by_cases hk : a ≤ k
  · simp only [if_pos hk]
    exact c2
  · simp only [if_neg hk]
    exact c1
theorem CScore.rm {h h2 : qH} {p a w q : Int} {s : Int → Int} (c : CScore h p s) (g : SG s) (hw : (w = 0 ∧ q = p + 3) ∨ (w = 1 ∧ q = p + 6) ∨ (w = 2 ∧ q = p + 9)) (ha : 0 ≤ a ∧ a < s (2 + w)) (e : ∀ x y, h2 x y = if x = q ∧ y = 2 then s (2 + w) - 1 else if (x = q + 1 ∨ x = q + 2) ∧ a ≤ y ∧ y < s (2 + w) - 1 then h x (y + 1) else h x y) : CScore h2 p (U_rm s (126 + 8 * w) (2 + w) a) ∧ FR p 17 h h2 := by
  have gn := g.n
  obtain ⟨c0, c1, c2, c3, c4, c5, c6⟩ := c
  have d : ∀ x y, (x < q ∨ q + 3 ≤ x) → h2 x y = h x y := fun x y z => by rw [e, if_neg (by omega), if_neg (by omega)]
  have hs : (126 + 8 * w) + 2 * s (2 + w) ≤ 126 + 8 * w + 8 ∧ (w = 2 → s (2 + w) ≤ 3) := by
    rcases hw with ⟨rfl, _⟩ | ⟨rfl, _⟩ | ⟨rfl, _⟩ <;> simp only [Int.reduceAdd, Int.reduceMul] <;> omega
  have f : ∀ j, j ≠ 2 + w → (j < 126 + 8 * w ∨ 126 + 8 * w + 2 * s (2 + w) ≤ j) → U_rm s (126 + 8 * w) (2 + w) a j = s j := fun j z1 z2 => U_rm_ne s z1 z2 ha
  have hq : p + 3 ≤ q ∧ q ≤ p + 9 := by omega
  refine ⟨⟨by rw [d _ _ (by omega), f _ (by omega) (by omega)]; exact c0, by rw [d _ _ (by omega), f _ (by omega) (by omega)]; exact c1, fun k q1 q2 => ?_, ?_, ?_, ?_, c6.to (fun x y _ _ => d x y (by omega)) (f _ (by omega) (by omega)) (fun j _ _ => f _ (by omega) (by omega))⟩, fun x y z => d x y (by omega)⟩
  · rw [d _ _ (by omega), d _ _ (by omega), f _ (by omega) (by omega), f _ (by omega) (by omega)]
    exact c2 k q1 q2
  · rcases hw with ⟨rfl, rfl⟩ | hw
    · exact c3.rm (pl := 126) (cn := 2) rfl (fun _ => rfl) (fun _ => rfl) (by decide) ha e (fun _ => rfl) (fun _ => rfl)
    · exact c3.to (fun x y _ _ => d x y (by omega)) (f _ (by omega) (by omega)) (fun k _ _ => ⟨f _ (by omega) (by omega), f _ (by omega) (by omega)⟩)
  · rcases (show w = 1 ∨ w ≠ 1 by omega) with rfl | hw1
    · obtain rfl : q = p + 6 := by omega
      exact c4.rm (pl := 134) (cn := 3) rfl (fun _ => rfl) (fun _ => rfl) (by decide) ha e (fun _ => rfl) (fun _ => rfl)
    · exact c4.to (fun x y _ _ => d x y (by omega)) (f _ (by omega) (by omega)) (fun k _ _ => ⟨f _ (by omega) (by omega), f _ (by omega) (by omega)⟩)
  · rcases (show w = 2 ∨ w ≠ 2 by omega) with rfl | hw1
    · obtain rfl : q = p + 9 := by omega
      exact c5.rm (pl := 142) (cn := 4) rfl (fun _ => rfl) (fun _ => rfl) (by decide) ha e (fun _ => rfl) (fun _ => rfl)
    · exact c5.to (fun x y _ _ => d x y (by omega)) (f _ (by omega) (by omega)) (fun k _ _ => ⟨f _ (by omega) (by omega), f _ (by omega) (by omega)⟩)
theorem CScore.addT {h h2 : qH} {p kd b ln lt : Int} {s : Int → Int} (c : CScore h p s) (g : SG s) (h4 : s 5 < 20) (e : h2 = hset (hset (hset (hset (hset h (p + 12 + 1) (s 5) kd) (p + 12 + 2) (s 5) b) (p + 12 + 3) (s 5) ln) (p + 12 + 4) (s 5) lt) (p + 12) 4 (s 5 + 1)) : CScore h2 p (U_title s kd b ln lt) ∧ FR p 17 h h2 := by
  have gn := g.n
  obtain ⟨c0, c1, c2, c3, c4, c5, c6⟩ := c
  have f : ∀ j, j ≠ 5 → j < 148 + 4 * s 5 → U_title s kd b ln lt j = s j := fun j q1 q2 => by
    unfold U_title
    rw [sset_ap, if_neg q1, sset_ap, if_neg (by omega), sset_ap, if_neg (by omega), sset_ap, if_neg (by omega), sset_ap, if_neg (by omega)]
  have d : ∀ x y, (x < p + 12) → h2 x y = h x y := fun x y q => by rw [e, hset_nea _ _ _ (by omega), hset_nea _ _ _ (by omega), hset_nea _ _ _ (by omega), hset_nea _ _ _ (by omega), hset_nea _ _ _ (by omega)]
  have d2 : ∀ x y, (p + 17 ≤ x) → h2 x y = h x y := fun x y q => by rw [e, hset_nea _ _ _ (by omega), hset_nea _ _ _ (by omega), hset_nea _ _ _ (by omega), hset_nea _ _ _ (by omega), hset_nea _ _ _ (by omega)]
  have f5 : U_title s kd b ln lt 5 = s 5 + 1 := by unfold U_title; rw [sset_ap, if_pos rfl]
  refine ⟨⟨by rw [d _ _ (by omega), f _ (by omega) (by omega)]; exact c0, by rw [d _ _ (by omega), f _ (by omega) (by omega)]; exact c1, fun k q1 q2 => ?_, c3.to (fun x y _ _ => d x y (by omega)) (f _ (by omega) (by omega)) (fun k _ _ => ⟨f _ (by omega) (by omega), f _ (by omega) (by omega)⟩), c4.to (fun x y _ _ => d x y (by omega)) (f _ (by omega) (by omega)) (fun k _ _ => ⟨f _ (by omega) (by omega), f _ (by omega) (by omega)⟩), c5.to (fun x y _ _ => d x y (by omega)) (f _ (by omega) (by omega)) (fun k _ _ => ⟨f _ (by omega) (by omega), f _ (by omega) (by omega)⟩), ?_⟩, fun x y q => q.elim (fun q => d x y (by omega)) (d2 x y)⟩
  · rw [d _ _ (by omega), d _ _ (by omega), f _ (by omega) (by omega), f _ (by omega) (by omega)]
    exact c2 k q1 q2
  · unfold CTitles
    rw [f5]
    refine ⟨by rw [e, hset_same], fun k q1 q2 => ?_⟩
    by_cases hk : k = s 5
    · subst hk
      have t0 : U_title s kd b ln lt (148 + 4 * s 5) = kd := by unfold U_title; rw [sset_ap, if_neg (by omega), sset_ap, if_neg (by omega), sset_ap, if_neg (by omega), sset_ap, if_neg (by omega), sset_ap, if_pos rfl]
      have t1 : U_title s kd b ln lt (149 + 4 * s 5) = b := by unfold U_title; rw [sset_ap, if_neg (by omega), sset_ap, if_neg (by omega), sset_ap, if_neg (by omega), sset_ap, if_pos (by omega)]
      have t2 : U_title s kd b ln lt (150 + 4 * s 5) = ln := by unfold U_title; rw [sset_ap, if_neg (by omega), sset_ap, if_neg (by omega), sset_ap, if_pos (by omega)]
      have t3 : U_title s kd b ln lt (151 + 4 * s 5) = lt := by unfold U_title; rw [sset_ap, if_neg (by omega), sset_ap, if_pos (by omega)]
      have r4 : h2 (p + 12 + 4) (s 5) = lt := by rw [e, hset_nea _ _ _ (by omega), hset_same]
      have r3 : h2 (p + 12 + 3) (s 5) = ln := by rw [e, hset_nea _ _ _ (by omega), hset_nea _ _ _ (by omega), hset_same]
      have r2 : h2 (p + 12 + 2) (s 5) = b := by rw [e, hset_nea _ _ _ (by omega), hset_nea _ _ _ (by omega), hset_nea _ _ _ (by omega), hset_same]
      have r1 : h2 (p + 12 + 1) (s 5) = kd := by rw [e, hset_nea _ _ _ (by omega), hset_nea _ _ _ (by omega), hset_nea _ _ _ (by omega), hset_nea _ _ _ (by omega), hset_same]
      rw [t0, t1, t2, t3, r1, r2, r3, r4]
      exact ⟨rfl, rfl, rfl, rfl⟩
    · have rn : ∀ x, x ≠ p + 12 → h2 x k = h x k := fun x hx => by rw [e, hset_nea _ _ _ hx, hset_neb _ _ _ hk, hset_neb _ _ _ hk, hset_neb _ _ _ hk, hset_neb _ _ _ hk]
      rw [rn _ (by omega), rn _ (by omega), rn _ (by omega), rn _ (by omega), f _ (by omega) (by omega), f _ (by omega) (by omega), f _ (by omega) (by omega), f _ (by omega) (by omega)]
      exact c6.2 k q1 (by omega)
theorem CScore.rmT {h h2 : qH} {p a : Int} {s : Int → Int} (c : CScore h p s) (g : SG s) (ha : 0 ≤ a ∧ a < s 5) (e : ∀ x y, h2 x y = if x = p + 12 ∧ y = 4 then s 5 - 1 else if (p + 12 + 1 ≤ x ∧ x ≤ p + 12 + 4) ∧ a ≤ y ∧ y < s 5 - 1 then h x (y + 1) else h x y) : CScore h2 p (U_drop s a) ∧ FR p 17 h h2 := by
  have gn := g.n
  obtain ⟨c0, c1, c2, c3, c4, c5, c6⟩ := c
  have d : ∀ x y, (x < p + 12 ∨ p + 17 ≤ x) → h2 x y = h x y := fun x y z => by rw [e, if_neg (by omega), if_neg (by omega)]
  have f : ∀ j, j ≠ 5 → j < 148 → U_drop s a j = s j := fun j q1 q2 => by unfold U_drop; rw [if_neg q1, if_neg (by omega), if_neg (by omega)]
  have f5 : U_drop s a 5 = s 5 - 1 := by unfold U_drop; rw [if_pos rfl]
  refine ⟨⟨by rw [d _ _ (by omega), f _ (by omega) (by omega)]; exact c0, by rw [d _ _ (by omega), f _ (by omega) (by omega)]; exact c1, fun k q1 q2 => ?_, c3.to (fun x y _ _ => d x y (by omega)) (f _ (by omega) (by omega)) (fun k _ _ => ⟨f _ (by omega) (by omega), f _ (by omega) (by omega)⟩), c4.to (fun x y _ _ => d x y (by omega)) (f _ (by omega) (by omega)) (fun k _ _ => ⟨f _ (by omega) (by omega), f _ (by omega) (by omega)⟩), c5.to (fun x y _ _ => d x y (by omega)) (f _ (by omega) (by omega)) (fun k _ _ => ⟨f _ (by omega) (by omega), f _ (by omega) (by omega)⟩), ?_⟩, fun x y z => d x y (by omega)⟩
  · rw [d _ _ (by omega), d _ _ (by omega), f _ (by omega) (by omega), f _ (by omega) (by omega)]
    exact c2 k q1 q2
  · unfold CTitles
    rw [f5]
    refine ⟨by rw [e, if_pos ⟨rfl, rfl⟩], fun k q1 q2 => ?_⟩
    have u0 := U_drop_at s ha ⟨q1, q2⟩ 0 (by decide)
    have u1 := U_drop_at s ha ⟨q1, q2⟩ 1 (by decide)
    have u2 := U_drop_at s ha ⟨q1, q2⟩ 2 (by decide)
    have u3 := U_drop_at s ha ⟨q1, q2⟩ 3 (by decide)
    simp only [Int.reduceAdd] at u0 u1 u2 u3
    have a1 := c6.2 k q1 (by omega)
    have a2 := c6.2 (k + 1) (by omega) (by omega)
    have r : ∀ x, (p + 12 + 1 ≤ x ∧ x ≤ p + 12 + 4) → h2 x k = if a ≤ k then h x (k + 1) else h x k := fun x hx => by
      rw [e, if_neg (by omega)]
      by_cases hk : a ≤ k
      · rw [if_pos ⟨hx, hk, q2⟩, if_pos hk]
      · rw [if_neg (fun z => hk z.2.1), if_neg hk]
    rw [u0, u1, u2, u3, r _ (by omega), r _ (by omega), r _ (by omega), r _ (by omega)]
    by_cases hk : a ≤ k
    · simp only [if_pos hk]
      exact a2
    · simp only [if_neg hk]
      exact a1
/-- how far ahead a title of a kind is due -/
def leadP (k : Int) : Int := if k = 0 then 5 else if k = 2 then 20 else 0
theorem CSpans.cp {h h2 : qH} {p q cap m : Int} {F L : Int → Int} (c : CSpans h q m F L) (hm : m ≤ cap) (e : ∀ x y, h2 x y = if x = p ∧ y = 2 then m else if (x = p + 1 ∨ x = p + 2) ∧ 0 ≤ y ∧ y < cap then h (x - p + q) y else h x y) : CSpans h2 p m F L ∧ FR p 3 h h2 := by
  refine ⟨⟨by rw [e, if_pos ⟨rfl, rfl⟩], fun k h1 h2 => ?_⟩, fun x y z => by rw [e, if_neg (by omega), if_neg (by omega)]⟩
  have e1 : ∀ j, (j = 1 ∨ j = 2) → ∀ h3, h3 = h (q + j) k → (if p + j = p ∧ k = 2 then m else if (p + j = p + 1 ∨ p + j = p + 2) ∧ 0 ≤ k ∧ k < cap then h (p + j - p + q) k else h (p + j) k) = h3 := fun j hj h3 e3 => by
    rw [e3, if_neg (by omega), if_pos (by omega)]; exact hx (by omega) rfl
  rw [e, e, e1 1 (Or.inl rfl) _ rfl, e1 2 (Or.inr rfl) _ rfl]
  exact c.2 k h1 h2
theorem CTitles.cp {h h2 : qH} {p q m : Int} {s : Int → Int} (c : CTitles h q s) (h5 : s 5 = m) (hm : m ≤ 20) (e : ∀ x y, h2 x y = if x = p ∧ y = 4 then m else if (p + 1 ≤ x ∧ x ≤ p + 4) ∧ 0 ≤ y ∧ y < 20 then h (x - p + q) y else h x y) : CTitles h2 p s ∧ FR p 5 h h2 := by
  refine ⟨⟨by rw [e, if_pos ⟨rfl, rfl⟩, h5], fun k h1 h2 => ?_⟩, fun x y z => by rw [e, if_neg (by omega), if_neg (by omega)]⟩
  have e1 : ∀ j, (1 ≤ j ∧ j ≤ 4) → (if p + j = p ∧ k = 4 then m else if (p + 1 ≤ p + j ∧ p + j ≤ p + 4) ∧ 0 ≤ k ∧ k < 20 then h (p + j - p + q) k else h (p + j) k) = h (q + j) k := fun j hj => by
    rw [if_neg (by omega), if_pos (by omega)]; exact hx (by omega) rfl
  rw [e, e, e, e, e1 1 (by decide), e1 2 (by decide), e1 3 (by decide), e1 4 (by decide)]
  exact c.2 k h1 h2
end
section
/-- the history at q: its row of seven scores behind it -/
def LHist (G : qG) (n : Int) (r : qH) (q : Int) : Prop := q_al G n q 0 0 ∧ q_al G n (q + 1) 12 7 ∧ r q 0 = q + 1 ∧ ∀ i, 0 ≤ i → i < 7 → r (q + 1) i = q + 2 + 17 * i ∧ LScore G n r (q + 2 + 17 * i)
section
variable {G : qG} {n : Int} {r : qH} {q : Int}
theorem LHist.a (L : LHist G n r q) : q_al G n q 0 0 := L.1
theorem LHist.a1 (L : LHist G n r q) : q_al G n (q + 1) 12 7 := L.2.1
theorem LHist.r0 (L : LHist G n r q) : r q 0 = q + 1 := L.2.2.1
theorem LHist.rr (L : LHist G n r q) {i : Int} (h0 : 0 ≤ i) (h1 : i < 7) : r (q + 1) i = q + 2 + 17 * i := (L.2.2.2 i h0 h1).1
theorem LHist.s (L : LHist G n r q) {i : Int} (h0 : 0 ≤ i) (h1 : i < 7) : LScore G n r (q + 2 + 17 * i) := (L.2.2.2 i h0 h1).2
def LPad (G : qG) (n : Int) (r : qH) (q : Int) : Prop := q_al G n q 2 0 ∧ q_al G n (q + 1) 10 80 ∧ r q 0 = q + 1
theorem LPad.a (L : LPad G n r q) : q_al G n q 2 0 := L.1
theorem LPad.a1 (L : LPad G n r q) : q_al G n (q + 1) 10 80 := L.2.1
theorem LPad.r0 (L : LPad G n r q) : r q 0 = q + 1 := L.2.2
def LRead (G : qG) (n : Int) (r : qH) (q : Int) : Prop := q_al G n q 3 0 ∧ q_al G n (q + 1) 10 3 ∧ r q 0 = q + 1
theorem LRead.a (L : LRead G n r q) : q_al G n q 3 0 := L.1
theorem LRead.a1 (L : LRead G n r q) : q_al G n (q + 1) 10 3 := L.2.1
theorem LRead.r0 (L : LRead G n r q) : r q 0 = q + 1 := L.2.2
def LShow (G : qG) (n : Int) (r : qH) (q : Int) : Prop := q_al G n q 5 0 ∧ (q_al G n (q + 1) 10 40 ∧ q_al G n (q + 2) 10 40 ∧ q_al G n (q + 3) 10 40 ∧ q_al G n (q + 4) 10 40 ∧ q_al G n (q + 5) 10 40 ∧ q_al G n (q + 6) 10 40 ∧ q_al G n (q + 7) 10 40) ∧ r q 0 = q + 1 ∧ r q 1 = q + 2 ∧ r q 2 = q + 3 ∧ r q 3 = q + 4 ∧ r q 4 = q + 5 ∧ r q 5 = q + 6 ∧ r q 6 = q + 7
theorem LShow.a (L : LShow G n r q) : q_al G n q 5 0 := L.1
theorem LShow.a1 (L : LShow G n r q) : q_al G n (q + 1) 10 40 := L.2.1.1
theorem LShow.a2 (L : LShow G n r q) : q_al G n (q + 2) 10 40 := L.2.1.2.1
theorem LShow.a3 (L : LShow G n r q) : q_al G n (q + 3) 10 40 := L.2.1.2.2.1
theorem LShow.a4 (L : LShow G n r q) : q_al G n (q + 4) 10 40 := L.2.1.2.2.2.1
theorem LShow.a5 (L : LShow G n r q) : q_al G n (q + 5) 10 40 := L.2.1.2.2.2.2.1
theorem LShow.a6 (L : LShow G n r q) : q_al G n (q + 6) 10 40 := L.2.1.2.2.2.2.2.1
theorem LShow.a7 (L : LShow G n r q) : q_al G n (q + 7) 10 40 := L.2.1.2.2.2.2.2.2
theorem LShow.r0 (L : LShow G n r q) : r q 0 = q + 1 := L.2.2.1
theorem LShow.r1 (L : LShow G n r q) : r q 1 = q + 2 := L.2.2.2.1
theorem LShow.r2 (L : LShow G n r q) : r q 2 = q + 3 := L.2.2.2.2.1
theorem LShow.r3 (L : LShow G n r q) : r q 3 = q + 4 := L.2.2.2.2.2.1
theorem LShow.r4 (L : LShow G n r q) : r q 4 = q + 5 := L.2.2.2.2.2.2.1
theorem LShow.r5 (L : LShow G n r q) : r q 5 = q + 6 := L.2.2.2.2.2.2.2.1
theorem LShow.r6 (L : LShow G n r q) : r q 6 = q + 7 := L.2.2.2.2.2.2.2.2
/-- a night at q: five rows, then its showings -/
def LNight (G : qG) (n : Int) (r : qH) (q : Int) : Prop := q_al G n q 1 0 ∧ (q_al G n (q + 1) 10 120 ∧ q_al G n (q + 2) 10 120 ∧ q_al G n (q + 3) 10 60 ∧ q_al G n (q + 4) 10 60 ∧ q_al G n (q + 5) 10 60) ∧ (r q 0 = q + 1 ∧ r q 1 = q + 2 ∧ r q 2 = q + 3 ∧ r q 3 = q + 4 ∧ r q 4 = q + 5 ∧ r q 5 = q + 6) ∧ LShow G n r (q + 6)
theorem LNight.a (L : LNight G n r q) : q_al G n q 1 0 := L.1
theorem LNight.a1 (L : LNight G n r q) : q_al G n (q + 1) 10 120 := L.2.1.1
theorem LNight.a2 (L : LNight G n r q) : q_al G n (q + 2) 10 120 := L.2.1.2.1
theorem LNight.a3 (L : LNight G n r q) : q_al G n (q + 3) 10 60 := L.2.1.2.2.1
theorem LNight.a4 (L : LNight G n r q) : q_al G n (q + 4) 10 60 := L.2.1.2.2.2.1
theorem LNight.a5 (L : LNight G n r q) : q_al G n (q + 5) 10 60 := L.2.1.2.2.2.2
theorem LNight.r0 (L : LNight G n r q) : r q 0 = q + 1 := L.2.2.1.1
theorem LNight.r1 (L : LNight G n r q) : r q 1 = q + 2 := L.2.2.1.2.1
theorem LNight.r2 (L : LNight G n r q) : r q 2 = q + 3 := L.2.2.1.2.2.1
theorem LNight.r3 (L : LNight G n r q) : r q 3 = q + 4 := L.2.2.1.2.2.2.1
theorem LNight.r4 (L : LNight G n r q) : r q 4 = q + 5 := L.2.2.1.2.2.2.2.1
theorem LNight.r5 (L : LNight G n r q) : r q 5 = q + 6 := L.2.2.1.2.2.2.2.2
theorem LNight.sh (L : LNight G n r q) : LShow G n r (q + 6) := L.2.2.2
end
end
section
/-! The night of a score: which bars are sung, and when. T = (how many, the time, the bar at each place, when it begins) -/
abbrev qT : Type := Int × Int × (Int → Int) × (Int → Int)
def tenP (s : Int → Int) (b : Int) : Int := 600 * s (6 + b) / s (66 + b)
noncomputable def sing1 (s : Int → Int) (b : Int) (T : qT) : qT := @ite _ (cutP s b) (Classical.propDecidable _) T (T.1 + 1, T.2.1 + tenP s b, sset T.2.2.1 T.1 b, sset T.2.2.2 T.1 T.2.1)
theorem sing1_y {s : Int → Int} {b : Int} {T : qT} (h : cutP s b) : sing1 s b T = T := if_pos h
theorem sing1_n {s : Int → Int} {b : Int} {T : qT} (h : ¬ cutP s b) : sing1 s b T = (T.1 + 1, T.2.1 + tenP s b, sset T.2.2.1 T.1 b, sset T.2.2.2 T.1 T.2.1) := if_neg h
/-- k bars from a on -/
noncomputable def singR (s : Int → Int) (a : Int) : Nat → qT → qT
  | 0, T => T
  | k + 1, T => sing1 s (a + (k : Int)) (singR s a k T)
/-- the first bar of the repeat that ends with b, of the first j ones; b + 1: there is none -/
def bkN (s : Int → Int) (b : Int) : Nat → Int
  | 0 => b + 1
  | j + 1 => if bkN s b j = b + 1 then (if s (127 + 2 * (j : Int)) = b then s (126 + 2 * (j : Int)) else b + 1) else bkN s b j
def bk (s : Int → Int) (b : Int) : Int := bkN s b (s 2).toNat
noncomputable def singB (s : Int → Int) (b : Int) (T : qT) : qT := singR s (bk s b) (b + 1 - bk s b).toNat (sing1 s b T)
noncomputable def singTo (s : Int → Int) : Nat → qT
  | 0 => (0, 0, fun _ => 0, fun _ => 0)
  | j + 1 => singB s (j : Int) (singTo s j)
noncomputable def nightT (s : Int → Int) : qT := singTo s (s 0).toNat
theorem bkN_none {s : Int → Int} {b : Int} : ∀ j : Nat, (∀ k : Int, 0 ≤ k → k < j → s (127 + 2 * k) ≠ b) → bkN s b j = b + 1
  | 0, _ => rfl
  | j + 1, h => by
    have h1 := bkN_none j (fun k a c => h k a (by omega))
    unfold bkN
    rw [if_pos h1, if_neg (h j (by omega) (by omega))]
theorem bkN_some {s : Int → Int} {b : Int} {k : Int} (h0 : 0 ≤ k) (hk : s (127 + 2 * k) = b) (hf : ∀ j, 0 ≤ j → j < k → s (127 + 2 * j) ≠ b) (hne : s (126 + 2 * k) ≠ b + 1) : ∀ j : Nat, k < j → bkN s b j = s (126 + 2 * k)
  | 0, h => by omega
  | j + 1, h => by
    by_cases e : k < j
    · have h1 := bkN_some h0 hk hf hne j e
      unfold bkN
      rw [if_neg (by rw [h1]; exact hne), h1]
    · have e2 : k = (j : Int) := by omega
      have h1 : bkN s b j = b + 1 := bkN_none j (fun i a c => hf i a (by omega))
      unfold bkN
      rw [if_pos h1, ← e2, if_pos hk]
theorem bk_cases {s : Int → Int} (g : SG s) (b : Int) : (bk s b = b + 1 ∧ ∀ k, 0 ≤ k → k < s 2 → s (127 + 2 * k) ≠ b) ∨ (∃ k, 0 ≤ k ∧ k < s 2 ∧ s (127 + 2 * k) = b ∧ bk s b = s (126 + 2 * k) ∧ 0 ≤ bk s b ∧ bk s b ≤ b) := by
  have gn := g.n
  by_cases h : ∃ k, 0 ≤ k ∧ k < s 2 ∧ s (127 + 2 * k) = b
  · right
    obtain ⟨k, h1, h2, h3⟩ := h
    have hr := g.re k h1 h2
    have hf : ∀ j, 0 ≤ j → j < k → s (127 + 2 * j) ≠ b := fun j a c e => by
      have h4 := g.dj j k a c h2
      have h5 := g.re j a (by omega)
      omega
    have e : bk s b = s (126 + 2 * k) := bkN_some h1 h3 hf (by omega) _ (by omega)
    exact ⟨k, h1, h2, h3, e, by omega, by omega⟩
  · left
    have hf : ∀ k, 0 ≤ k → k < s 2 → s (127 + 2 * k) ≠ b := fun k a c e => h ⟨k, a, c, e⟩
    exact ⟨bkN_none _ (fun k a c => hf k a (by omega)), hf⟩
/-- how many bars come once more, of the first j -/
def usedN (s : Int → Int) : Nat → Int
  | 0 => 0
  | j + 1 => usedN s j + ((j : Int) + 1 - bk s (j : Int))
theorem usedN_flat {s : Int → Int} {a : Nat} : ∀ d : Nat, (∀ i : Nat, a ≤ i → i < a + d → bk s (i : Int) = (i : Int) + 1) → usedN s (a + d) = usedN s a
  | 0, _ => rfl
  | d + 1, h => by
    have h1 := usedN_flat d (fun i x y => h i x (by omega))
    show usedN s (a + d) + (((a + d : Nat) : Int) + 1 - bk s ((a + d : Nat) : Int)) = _
    rw [h1, h (a + d) (by omega) (by omega)]
    omega
theorem usedN_le {s : Int → Int} (g : SG s) : ∀ j : Nat, usedN s j ≤ (j : Int) := by
  intro j
  induction j using Nat.strongRecOn with
  | _ j ih =>
    match j, ih with
    | 0, _ => exact Int.le_refl _
    | j + 1, ih =>
      show usedN s j + ((j : Int) + 1 - bk s (j : Int)) ≤ _
      rcases bk_cases g (j : Int) with ⟨h1, -⟩ | ⟨k, h1, h2, h3, h4, h5, h6⟩
      · have := ih j (by omega); omega
      · have hd : j = (bk s (j : Int)).toNat + (j - (bk s (j : Int)).toNat) := by omega
        have hfl := usedN_flat (s := s) (a := (bk s (j : Int)).toNat) (j - (bk s (j : Int)).toNat) (fun i x y => by
          rcases bk_cases g (i : Int) with ⟨q1, -⟩ | ⟨k2, q1, q2, q3, q4, q5, q6⟩
          · exact q1
          · exfalso
            have r1 := g.re k h1 h2
            have r2 := g.re k2 q1 q2
            rcases Int.lt_trichotomy k k2 with z | z | z
            · have := g.dj k k2 h1 z q2; omega
            · subst z; omega
            · have := g.dj k2 k q1 z h2; omega)
        rw [← hd] at hfl
        have := ih (bk s (j : Int)).toNat (by omega)
        omega
theorem sing1_le (s : Int → Int) (b : Int) (T : qT) : T.1 ≤ (sing1 s b T).1 ∧ (sing1 s b T).1 ≤ T.1 + 1 := by
  by_cases h : cutP s b
  · rw [sing1_y h]; omega
  · rw [sing1_n h]; exact ⟨by show T.1 ≤ T.1 + 1; omega, Int.le_refl _⟩
theorem singR_le (s : Int → Int) (a : Int) (T : qT) : ∀ k : Nat, T.1 ≤ (singR s a k T).1 ∧ (singR s a k T).1 ≤ T.1 + (k : Int)
  | 0 => by show T.1 ≤ T.1 ∧ T.1 ≤ T.1 + 0; omega
  | k + 1 => by
    have h1 := singR_le s a T k
    have h2 := sing1_le s (a + (k : Int)) (singR s a k T)
    show T.1 ≤ (sing1 s (a + (k : Int)) (singR s a k T)).1 ∧ (sing1 s (a + (k : Int)) (singR s a k T)).1 ≤ T.1 + ((k + 1 : Nat) : Int)
    omega
theorem singTo_le {s : Int → Int} (g : SG s) : ∀ j : Nat, 0 ≤ (singTo s j).1 ∧ (singTo s j).1 ≤ (j : Int) + usedN s j
  | 0 => by show (0 : Int) ≤ 0 ∧ (0 : Int) ≤ 0 + 0; omega
  | j + 1 => by
    have h1 := singTo_le g j
    have h2 := sing1_le s (j : Int) (singTo s j)
    have h3 := singR_le s (bk s (j : Int)) (sing1 s (j : Int) (singTo s j)) ((j : Int) + 1 - bk s (j : Int)).toNat
    have h4 : bk s (j : Int) ≤ (j : Int) + 1 := by rcases bk_cases g (j : Int) with ⟨q1, -⟩ | ⟨k, q1, q2, q3, q4, q5, q6⟩ <;> omega
    show 0 ≤ (singR s (bk s (j : Int)) ((j : Int) + 1 - bk s (j : Int)).toNat (sing1 s (j : Int) (singTo s j))).1 ∧ _ ≤ ((j + 1 : Nat) : Int) + (usedN s j + ((j : Int) + 1 - bk s (j : Int)))
    constructor
    · omega
    · show (singR s (bk s (j : Int)) ((j : Int) + 1 - bk s (j : Int)).toNat (sing1 s (j : Int) (singTo s j))).1 ≤ _
      omega
/-- there is room for the next one -/
theorem sing_room {s : Int → Int} (g : SG s) (j : Nat) (hj : (j : Int) < s 0) : (singTo s j).1 + 2 ≤ 120 ∧ ∀ i : Nat, (i : Int) < (j : Int) + 1 - bk s (j : Int) → (singR s (bk s (j : Int)) i (sing1 s (j : Int) (singTo s j))).1 + 1 ≤ 120 := by
  have gn := g.n
  have h1 := singTo_le g j
  have h2 := usedN_le g j
  have h3 := usedN_le g (j + 1)
  have h4 : usedN s (j + 1) = usedN s j + ((j : Int) + 1 - bk s (j : Int)) := rfl
  refine ⟨by omega, fun i hi => ?_⟩
  have h5 := sing1_le s (j : Int) (singTo s j)
  have h6 := singR_le s (bk s (j : Int)) (sing1 s (j : Int) (singTo s j)) i
  omega
/-- times of the night are small and do not fall -/
def TG (T : qT) : Prop := 0 ≤ T.1 ∧ 0 ≤ T.2.1 ∧ T.2.1 ≤ 400 * T.1 ∧ (∀ k, 0 ≤ k → k < T.1 → 0 ≤ T.2.2.2 k ∧ T.2.2.2 k ≤ T.2.1) ∧ (∀ j k, 0 ≤ j → j ≤ k → k < T.1 → T.2.2.2 j ≤ T.2.2.2 k) ∧ (∀ k, 0 ≤ k → k < T.1 → 0 ≤ T.2.2.1 k ∧ T.2.2.1 k < 60)
theorem tenP_in {s : Int → Int} (g : SG s) {b : Int} (hb : 0 ≤ b ∧ b < 60) : 0 ≤ tenP s b ∧ tenP s b ≤ 360 := by
  have h := g.b b hb.1 hb.2
  unfold tenP
  have h1 : 0 ≤ 600 * s (6 + b) / s (66 + b) := Int.ediv_nonneg (by omega) (by omega)
  have h2 : 600 * s (6 + b) / s (66 + b) < 361 := by
    apply Int.ediv_lt_of_lt_mul (by omega)
    have : 361 * 20 ≤ 361 * s (66 + b) := by omega
    omega
  omega
theorem sing1_TG {s : Int → Int} (g : SG s) {b : Int} (hb : 0 ≤ b ∧ b < 60) {T : qT} (t : TG T) : TG (sing1 s b T) := by
  by_cases h : cutP s b
  · rw [sing1_y h]; exact t
  · rw [sing1_n h]
    obtain ⟨t1, t2, t3, t4, t5, t6⟩ := t
    have ht := tenP_in g hb
    refine ⟨by show 0 ≤ T.1 + 1; omega, by show 0 ≤ T.2.1 + tenP s b; omega, by show T.2.1 + tenP s b ≤ 400 * (T.1 + 1); omega, fun k h1 h2 => ?_, fun j k h0 h1 h2 => ?_, fun k h1 h2 => ?_⟩
    · have h2 : k < T.1 + 1 := h2
      show 0 ≤ sset T.2.2.2 T.1 T.2.1 k ∧ sset T.2.2.2 T.1 T.2.1 k ≤ T.2.1 + tenP s b
      rw [sset_ap]
      by_cases e : k = T.1
      · rw [if_pos e]; omega
      · rw [if_neg e]; have := t4 k h1 (by omega); omega
    · have h2 : k < T.1 + 1 := h2
      show sset T.2.2.2 T.1 T.2.1 j ≤ sset T.2.2.2 T.1 T.2.1 k
      rw [sset_ap, sset_ap]
      by_cases e : k = T.1
      · rw [if_pos e]
        by_cases e2 : j = T.1
        · rw [if_pos e2]; omega
        · rw [if_neg e2]; exact (t4 j h0 (by omega)).2
      · rw [if_neg e, if_neg (by omega)]; exact t5 j k h0 h1 (by omega)
    · have h2 : k < T.1 + 1 := h2
      show 0 ≤ sset T.2.2.1 T.1 b k ∧ sset T.2.2.1 T.1 b k < 60
      rw [sset_ap]
      by_cases e : k = T.1
      · rw [if_pos e]; omega
      · rw [if_neg e]; exact t6 k h1 (by omega)
theorem singR_TG {s : Int → Int} (g : SG s) {a : Int} {T : qT} (t : TG T) : ∀ k : Nat, 0 ≤ a → a + (k : Int) ≤ 60 → TG (singR s a k T)
  | 0, _, _ => t
  | k + 1, h0, h => sing1_TG g ⟨by omega, by omega⟩ (singR_TG g t k h0 (by omega))
theorem singTo_TG {s : Int → Int} (g : SG s) : ∀ j : Nat, (j : Int) ≤ s 0 → TG (singTo s j)
  | 0, _ => ⟨Int.le_refl _, Int.le_refl _, Int.le_refl _, fun k h1 h2 => by have h2 : k < 0 := h2; omega, fun j k h0 h1 h2 => by have h2 : k < 0 := h2; omega, fun k h1 h2 => by have h2 : k < 0 := h2; omega⟩
  | j + 1, h => by
    have gn := g.n
    have h1 := singTo_TG g j (by omega)
    have h4 : 0 ≤ bk s (j : Int) ∧ bk s (j : Int) ≤ (j : Int) + 1 := by rcases bk_cases g (j : Int) with ⟨q1, -⟩ | ⟨k, q1, q2, q3, q4, q5, q6⟩ <;> omega
    exact singR_TG g (sing1_TG g ⟨by omega, by omega⟩ h1) _ h4.1 (by omega)
/-- of the first k places: how often a bar is sung, at which one first, at which one last -/
def cntN (P : Int → Int) (b : Int) : Nat → Int
  | 0 => 0
  | k + 1 => cntN P b k + (if P (k : Int) = b then 1 else 0)
def fstN (P : Int → Int) (b : Int) : Nat → Int
  | 0 => -6
  | k + 1 => if fstN P b k = -6 then (if P (k : Int) = b then (k : Int) else -6) else fstN P b k
def lstN (P : Int → Int) (b : Int) : Nat → Int
  | 0 => -6
  | k + 1 => if P (k : Int) = b then (k : Int) else lstN P b k
theorem cntN_ext {P Q : Int → Int} {b : Int} : ∀ k : Nat, (∀ j : Int, 0 ≤ j → j < k → P j = Q j) → cntN P b k = cntN Q b k ∧ fstN P b k = fstN Q b k ∧ lstN P b k = lstN Q b k
  | 0, _ => ⟨rfl, rfl, rfl⟩
  | k + 1, h => by
    obtain ⟨h1, h2, h3⟩ := cntN_ext (b := b) k (fun j a c => h j a (by omega))
    unfold cntN fstN lstN
    rw [h1, h2, h3, h k (by omega) (by omega)]
    exact ⟨rfl, rfl, rfl⟩
theorem fstN_zero {P : Int → Int} {b : Int} : ∀ k : Nat, (cntN P b k = 0 ↔ fstN P b k = -6) ∧ 0 ≤ cntN P b k ∧ cntN P b k ≤ (k : Int) ∧ -6 ≤ fstN P b k ∧ fstN P b k < (k : Int) ∧ (fstN P b k < 0 → fstN P b k = -6)
  | 0 => by unfold cntN fstN; omega
  | k + 1 => by
    have h := fstN_zero (P := P) (b := b) k
    unfold cntN fstN
    omega
end
section
/-! What the class's Night holds -/
def CN (h : qH) (q : Int) (T : qT) : Prop := h q 6 = T.1 ∧ h q 7 = T.2.1 ∧ (∀ k, 0 ≤ k → k < T.1 → h (q + 1) k = T.2.2.1 k ∧ h (q + 2) k = T.2.2.2 k) ∧
  ∀ b, 0 ≤ b → b < 60 → h (q + 3) b = cntN T.2.2.1 b T.1.toNat ∧ h (q + 4) b = fstN T.2.2.1 b T.1.toNat ∧ h (q + 5) b = lstN T.2.2.1 b T.1.toNat
def bOE (T : qT) (a : Int) : Int := if a < T.1 then T.2.2.2 a else T.2.1
theorem hset_in {A B : qH} {p k v a b : Int} (e : A a b = B a b) : hset A p k v a b = hset B p k v a b := by rw [hset_ap, hset_ap, e]
theorem CN.fr {h h2 : qH} {q : Int} {T : qT} (c : CN h q T) (hr : ∀ x y, q ≤ x → x < q + 6 → h2 x y = h x y) : CN h2 q T := by
  obtain ⟨c1, c2, c3, c4⟩ := c
  refine ⟨by rw [hr _ _ (by omega) (by omega)]; exact c1, by rw [hr _ _ (by omega) (by omega)]; exact c2, fun k h1 h2 => ?_, fun b h1 h2 => ?_⟩
  · rw [hr _ _ (by omega) (by omega), hr _ _ (by omega) (by omega)]; exact c3 k h1 h2
  · rw [hr _ _ (by omega) (by omega), hr _ _ (by omega) (by omega), hr _ _ (by omega) (by omega)]; exact c4 b h1 h2
theorem CN.sing {h h1 h2 : qH} {q a z : Int} {T : qT} {s : Int → Int} (c : CN h q T) (ha : 0 ≤ a ∧ a < 60) (t : TG T) (e1 : (h (q + 3) a = 0 ∧ h1 = hset h (q + 4) a T.1) ∨ (h (q + 3) a ≠ 0 ∧ h1 = h))
    (e2 : h2 = hset (hset (hset (hset (hset (hset h1 (q + 3) a (h (q + 3) a + 1)) (q + 5) a T.1) (q + 1) T.1 a) (q + 2) T.1 T.2.1) q 6 (T.1 + 1)) q 7 (T.2.1 + z)) (hz : z = tenP s a) (hn : ¬ cutP s a) : CN h2 q (sing1 s a T) ∧ FR q 6 h h2 := by
  rw [sing1_n hn, ← hz]
  obtain ⟨c1, c2, c3, c4⟩ := c
  have t0 : 0 ≤ T.1 := t.1
  have d1 : ∀ x y, (x ≠ q + 4 ∨ y ≠ a) → h1 x y = h x y := fun x y w => by
    rcases e1 with ⟨_, e⟩ | ⟨_, e⟩
    · rw [e]; exact hset_ne _ _ w
    · rw [e]
  have hsu : (T.1 + 1).toNat = T.1.toNat + 1 := by omega
  have hto : ((T.1.toNat : Nat) : Int) = T.1 := by omega
  refine ⟨⟨by rw [e2, hset_neb _ _ _ (by decide), hset_same], by rw [e2, hset_same], fun k k1 k2 => ?_, fun b b1 b2 => ?_⟩, fun x y w => ?_⟩
  · have k2 : k < T.1 + 1 := k2
    have r1 : h2 (q + 1) k = hset h1 (q + 1) T.1 a (q + 1) k := by
      rw [e2, hset_nea _ _ _ (by omega), hset_nea _ _ _ (by omega), hset_nea _ _ _ (by omega)]; exact hset_in (by rw [hset_nea _ _ _ (by omega), hset_nea _ _ _ (by omega)])
    have r2 : h2 (q + 2) k = hset h1 (q + 2) T.1 T.2.1 (q + 2) k := by
      rw [e2, hset_nea _ _ _ (by omega), hset_nea _ _ _ (by omega)]; exact hset_in (by rw [hset_nea _ _ _ (by omega), hset_nea _ _ _ (by omega), hset_nea _ _ _ (by omega)])
    show h2 (q + 1) k = sset T.2.2.1 T.1 a k ∧ h2 (q + 2) k = sset T.2.2.2 T.1 T.2.1 k
    rw [r1, r2]
    by_cases e : k = T.1
    · rw [e, hset_same, hset_same, sset_ap, sset_ap, if_pos rfl, if_pos rfl]; exact ⟨rfl, rfl⟩
    · rw [hset_neb _ _ _ e, hset_neb _ _ _ e, d1 _ _ (by omega), d1 _ _ (by omega), sset_ap, sset_ap, if_neg e, if_neg e]
      exact c3 k k1 (by omega)
  · have r3 : h2 (q + 3) b = hset h1 (q + 3) a (h (q + 3) a + 1) (q + 3) b := by
      rw [e2, hset_nea _ _ _ (by omega), hset_nea _ _ _ (by omega), hset_nea _ _ _ (by omega), hset_nea _ _ _ (by omega), hset_nea _ _ _ (by omega)]
    have r4 : h2 (q + 4) b = h1 (q + 4) b := by
      rw [e2, hset_nea _ _ _ (by omega), hset_nea _ _ _ (by omega), hset_nea _ _ _ (by omega), hset_nea _ _ _ (by omega), hset_nea _ _ _ (by omega), hset_nea _ _ _ (by omega)]
    have r5 : h2 (q + 5) b = hset h1 (q + 5) a T.1 (q + 5) b := by
      rw [e2, hset_nea _ _ _ (by omega), hset_nea _ _ _ (by omega), hset_nea _ _ _ (by omega), hset_nea _ _ _ (by omega)]; exact hset_in (by rw [hset_nea _ _ _ (by omega)])
    obtain ⟨b3, b4, b5⟩ := c4 b b1 b2
    obtain ⟨x1, x2, x3⟩ := cntN_ext (P := sset T.2.2.1 T.1 a) (Q := T.2.2.1) (b := b) T.1.toNat (fun j j1 j2 => by rw [sset_ap, if_neg (by omega)])
    show h2 (q + 3) b = cntN (sset T.2.2.1 T.1 a) b (T.1 + 1).toNat ∧ h2 (q + 4) b = fstN (sset T.2.2.1 T.1 a) b (T.1 + 1).toNat ∧ h2 (q + 5) b = lstN (sset T.2.2.1 T.1 a) b (T.1 + 1).toNat
    rw [hsu, r3, r4, r5]
    unfold cntN fstN lstN
    rw [x1, x2, x3, hto, sset_ap, if_pos rfl]
    have z0 := fstN_zero (P := T.2.2.1) (b := b) T.1.toNat
    by_cases e : b = a
    · subst e
      rw [hset_same, hset_same, if_pos rfl, if_pos rfl, if_pos rfl, b3]
      refine ⟨rfl, ?_, rfl⟩
      rcases e1 with ⟨e0, e⟩ | ⟨e0, e⟩
      · rw [b3] at e0
        rw [e, hset_same, if_pos (z0.1.mp e0)]
      · rw [b3] at e0
        rw [e, b4, if_neg (fun q => e0 (z0.1.mpr q))]
    · rw [hset_neb _ _ _ e, hset_neb _ _ _ e, d1 _ _ (by omega), d1 _ _ (by omega), d1 _ _ (by omega), b3, b4, b5]
      have e' : ¬ a = b := fun w => e w.symm
      simp only [if_neg e']
      refine ⟨by omega, ?_, trivial⟩
      by_cases w : fstN T.2.2.1 b T.1.toNat = -6
      · rw [if_pos w, w]
      · rw [if_neg w]
  · rw [e2, hset_nea _ _ _ (by omega), hset_nea _ _ _ (by omega), hset_nea _ _ _ (by omega), hset_nea _ _ _ (by omega), hset_nea _ _ _ (by omega), hset_nea _ _ _ (by omega), d1 _ _ (by omega)]
theorem singTo_succ (s : Int → Int) {j : Int} (h : 0 ≤ j) : singTo s (j + 1).toNat = singR s (bk s j) (j + 1 - bk s j).toNat (sing1 s j (singTo s j.toNat)) := by
  have e : (j + 1).toNat = j.toNat + 1 := by omega
  rw [e]
  show singB s ((j.toNat : Nat) : Int) (singTo s j.toNat) = _
  have e2 : ((j.toNat : Nat) : Int) = j := by omega
  rw [e2]
  rfl
theorem singR_succ (s : Int → Int) (a : Int) (T : qT) {v : Int} (h : a ≤ v) : singR s a (v + 1 - a).toNat T = sing1 s v (singR s a (v - a).toNat T) := by
  have e : (v + 1 - a).toNat = (v - a).toNat + 1 := by omega
  rw [e]
  show sing1 s (a + (((v - a).toNat : Nat) : Int)) _ = _
  have e2 : a + (((v - a).toNat : Nat) : Int) = v := by omega
  rw [e2]
theorem CN.zero {h : qH} {q : Int} {s : Int → Int} (h6 : h q 6 = 0) (h7 : h q 7 = 0) (hb : ∀ b, 0 ≤ b → b < 60 → h (q + 3) b = 0 ∧ h (q + 4) b = -6 ∧ h (q + 5) b = -6) : CN h q (singTo s 0) :=
  ⟨h6, h7, fun k h1 h2 => by have h2 : k < 0 := h2; omega, hb⟩
/-- whether a time is within a blackout -/
def darkP (s : Int → Int) (T : qT) (t : Int) : Prop := ∃ k, 0 ≤ k ∧ k < s 4 ∧ s (142 + 2 * k) < T.1 ∧ T.2.2.2 (s (142 + 2 * k)) ≤ t ∧ t < bOE T (s (143 + 2 * k) + 1)
theorem bOE_in {T : qT} (t : TG T) {a : Int} (h : 0 ≤ a) : 0 ≤ bOE T a ∧ bOE T a ≤ T.2.1 := by
  unfold bOE
  split
  · exact t.2.2.2.1 a h (by omega)
  · exact ⟨t.2.1, Int.le_refl _⟩
end
section
/-! The showings of a night: gathered (how many, title, place, due from, due until), then looked at (reason, begin, end, the one ahead that shows) -/
abbrev qU : Type := Int × (Int → Int) × (Int → Int) × (Int → Int) × (Int → Int)
def comesP (s : Int → Int) (T : qT) (t pl : Int) : Prop := T.2.2.1 pl = s (149 + 4 * t) ∧ (s (148 + 4 * t) = 1 ∨ (s (148 + 4 * t) = 0 ∧ fstN T.2.2.1 (s (149 + 4 * t)) T.1.toNat = pl) ∨ (s (148 + 4 * t) = 2 ∧ lstN T.2.2.1 (s (149 + 4 * t)) T.1.toNat = pl))
noncomputable def gath1 (s : Int → Int) (T : qT) (pl t : Int) (U : qU) : qU := @ite _ (comesP s T t pl) (Classical.propDecidable _) (U.1 + 1, sset U.2.1 U.1 t, sset U.2.2.1 U.1 pl, sset U.2.2.2.1 U.1 (max 0 (T.2.2.2 pl - leadP (s (148 + 4 * t)))), sset U.2.2.2.2 U.1 (bOE T (pl + s (150 + 4 * t)))) U
theorem gath1_y {s : Int → Int} {T : qT} {pl t : Int} {U : qU} (h : comesP s T t pl) : gath1 s T pl t U = (U.1 + 1, sset U.2.1 U.1 t, sset U.2.2.1 U.1 pl, sset U.2.2.2.1 U.1 (max 0 (T.2.2.2 pl - leadP (s (148 + 4 * t)))), sset U.2.2.2.2 U.1 (bOE T (pl + s (150 + 4 * t)))) := if_pos h
theorem gath1_n {s : Int → Int} {T : qT} {pl t : Int} {U : qU} (h : ¬ comesP s T t pl) : gath1 s T pl t U = U := if_neg h
noncomputable def gathP (s : Int → Int) (T : qT) (pl : Int) : Nat → qU → qU
  | 0, U => U
  | t + 1, U => gath1 s T pl (t : Int) (gathP s T pl t U)
noncomputable def gathA (s : Int → Int) (T : qT) : Nat → qU
  | 0 => (0, fun _ => 0, fun _ => 0, fun _ => 0, fun _ => 0)
  | pl + 1 => gathP s T (pl : Int) (s 5).toNat (gathA s T pl)
noncomputable def showU (s : Int → Int) : qU := gathA s (nightT s) (nightT s).1.toNat
/-! no bar is sung more than twice -/
def repN (s : Int → Int) (b : Int) : Nat → Int
  | 0 => 0
  | j + 1 => repN s b j + (if bk s (j : Int) ≤ b ∧ b ≤ (j : Int) then 1 else 0)
theorem repN_le {s : Int → Int} (g : SG s) (b : Int) : ∀ j : Nat, 0 ≤ repN s b j ∧ repN s b j ≤ 1 ∧ (repN s b j = 1 → ∃ i : Int, 0 ≤ i ∧ i < j ∧ bk s i ≤ b ∧ b ≤ i)
  | 0 => ⟨Int.le_refl _, by show (0 : Int) ≤ 1; decide, fun h => absurd h (show ¬ (0 : Int) = 1 by decide)⟩
  | j + 1 => by
    obtain ⟨h1, h2, h3⟩ := repN_le g b j
    unfold repN
    by_cases hc : bk s (j : Int) ≤ b ∧ b ≤ (j : Int)
    · rw [if_pos hc]
      have h0 : repN s b j = 0 := by
        rcases (show repN s b j = 0 ∨ repN s b j = 1 by omega) with e | e
        · exact e
        · exfalso
          obtain ⟨i, i1, i2, i3, i4⟩ := h3 e
          rcases bk_cases g i with ⟨q1, -⟩ | ⟨k, q1, q2, q3, q4, q5, q6⟩
          · omega
          · rcases bk_cases g (j : Int) with ⟨p1, -⟩ | ⟨k2, p1, p2, p3, p4, p5, p6⟩
            · omega
            · rcases Int.lt_trichotomy k k2 with z | z | z
              · have := g.dj k k2 q1 z p2; omega
              · subst z; omega
              · have := g.dj k2 k p1 z q2; omega
      exact ⟨by omega, by omega, fun _ => ⟨(j : Int), by omega, by omega, hc.1, hc.2⟩⟩
    · rw [if_neg hc]
      refine ⟨by omega, by omega, fun h => ?_⟩
      obtain ⟨i, i1, i2, i3, i4⟩ := h3 (by omega)
      exact ⟨i, i1, by omega, i3, i4⟩
theorem sing1_cnt {s : Int → Int} {x b : Int} {T : qT} (h0 : 0 ≤ T.1) : cntN (sing1 s x T).2.2.1 b (sing1 s x T).1.toNat ≤ cntN T.2.2.1 b T.1.toNat + (if x = b then 1 else 0) := by
  by_cases h : cutP s x
  · rw [sing1_y h]; split <;> omega
  · rw [sing1_n h]
    have e : (T.1 + 1).toNat = T.1.toNat + 1 := by omega
    have e2 : ((T.1.toNat : Nat) : Int) = T.1 := by omega
    show cntN (sset T.2.2.1 T.1 x) b (T.1 + 1).toNat ≤ _
    have u : cntN (sset T.2.2.1 T.1 x) b (T.1.toNat + 1) = cntN (sset T.2.2.1 T.1 x) b T.1.toNat + (if sset T.2.2.1 T.1 x ((T.1.toNat : Nat) : Int) = b then 1 else 0) := rfl
    rw [e, u, (cntN_ext (P := sset T.2.2.1 T.1 x) (Q := T.2.2.1) (b := b) T.1.toNat (fun j j1 j2 => by rw [sset_ap, if_neg (by omega)])).1, e2, sset_ap, if_pos rfl]
    exact Int.le_refl _
theorem singR_cnt {s : Int → Int} {a b : Int} {T : qT} (h0 : 0 ≤ T.1) : ∀ k : Nat, cntN (singR s a k T).2.2.1 b (singR s a k T).1.toNat ≤ cntN T.2.2.1 b T.1.toNat + (if a ≤ b ∧ b < a + (k : Int) then 1 else 0)
  | 0 => by
    rw [if_neg (by omega)]
    show cntN T.2.2.1 b T.1.toNat ≤ _
    omega
  | k + 1 => by
    have h1 := singR_cnt (s := s) (a := a) (b := b) h0 k
    have h2 := (singR_le s a T k).1
    have h3 := sing1_cnt (s := s) (x := a + (k : Int)) (b := b) (T := singR s a k T) (by omega)
    show cntN (sing1 s (a + (k : Int)) (singR s a k T)).2.2.1 b (sing1 s (a + (k : Int)) (singR s a k T)).1.toNat ≤ _
    refine Int.le_trans h3 ?_
    by_cases e : a + (k : Int) = b
    · rw [if_pos e, if_pos (by omega)]; rw [if_neg (by omega)] at h1; omega
    · rw [if_neg e]
      by_cases e2 : a ≤ b ∧ b < a + (k : Int)
      · rw [if_pos e2] at h1; rw [if_pos (by omega)]; omega
      · rw [if_neg e2] at h1; rw [if_neg (by omega)]; omega
theorem singTo_cnt {s : Int → Int} (g : SG s) (b : Int) : ∀ j : Nat, cntN (singTo s j).2.2.1 b (singTo s j).1.toNat ≤ (if b < (j : Int) then 1 else 0) + repN s b j
  | 0 => by
    show (0 : Int) ≤ (if b < ((0 : Nat) : Int) then 1 else 0) + 0
    split <;> omega
  | j + 1 => by
    have h1 := singTo_cnt g b j
    have h0 := (singTo_le g j).1
    have h2 := sing1_cnt (s := s) (x := (j : Int)) (b := b) h0
    have h3 := singR_cnt (s := s) (a := bk s (j : Int)) (b := b) (T := sing1 s (j : Int) (singTo s j)) (by have := (sing1_le s (j : Int) (singTo s j)).1; omega) ((j : Int) + 1 - bk s (j : Int)).toNat
    have h4 : bk s (j : Int) ≤ (j : Int) + 1 := by rcases bk_cases g (j : Int) with ⟨q1, -⟩ | ⟨k, q1, q2, q3, q4, q5, q6⟩ <;> omega
    show cntN (singR s (bk s (j : Int)) ((j : Int) + 1 - bk s (j : Int)).toNat (sing1 s (j : Int) (singTo s j))).2.2.1 b _ ≤ _ + (repN s b j + _)
    refine Int.le_trans h3 ?_
    have e : (bk s (j : Int) ≤ b ∧ b < bk s (j : Int) + ((((j : Int) + 1 - bk s (j : Int)).toNat : Nat) : Int)) ↔ (bk s (j : Int) ≤ b ∧ b ≤ (j : Int)) := by omega
    simp only [e]
    have e2 : (if (j : Int) = b then (1 : Int) else 0) + (if b < (j : Int) then 1 else 0) = if b < ((j + 1 : Nat) : Int) then 1 else 0 := by
      by_cases a1 : (j : Int) = b
      · rw [if_pos a1, if_neg (by omega), if_pos (by omega)]; rfl
      · rw [if_neg a1]
        by_cases a2 : b < (j : Int)
        · rw [if_pos a2, if_pos (by omega)]; rfl
        · rw [if_neg a2, if_neg (by omega)]; rfl
    omega
theorem night_cnt {s : Int → Int} (g : SG s) (b : Int) : cntN (nightT s).2.2.1 b (nightT s).1.toNat ≤ 2 := by
  have h1 := singTo_cnt g b (s 0).toNat
  have h2 := (repN_le g b (s 0).toNat).2.1
  have h3 : (if b < (((s 0).toNat : Nat) : Int) then (1 : Int) else 0) ≤ 1 := by split <;> omega
  unfold nightT
  omega
theorem night_TG {s : Int → Int} (g : SG s) : TG (nightT s) := singTo_TG g _ (by have := g.n; omega)
theorem night_le {s : Int → Int} (g : SG s) : (nightT s).1 ≤ 120 := by
  have h1 := (singTo_le g (s 0).toNat).2
  have h2 := usedN_le g (s 0).toNat
  have := g.n
  unfold nightT
  omega
/-! how many showings there are -/
noncomputable def comN (s : Int → Int) (T : qT) (t : Int) : Nat → Int
  | 0 => 0
  | n + 1 => comN s T t n + @ite _ (comesP s T t (n : Int)) (Classical.propDecidable _) 1 0
noncomputable def sumN (f : Int → Int) : Nat → Int
  | 0 => 0
  | t + 1 => sumN f t + f (t : Int)
theorem comN_le {s : Int → Int} {T : qT} {t : Int} : ∀ n : Nat, comN s T t n ≤ cntN T.2.2.1 (s (149 + 4 * t)) n
  | 0 => Int.le_refl _
  | n + 1 => by
    have h := comN_le (s := s) (T := T) (t := t) n
    unfold comN cntN
    by_cases c : comesP s T t (n : Int)
    · rw [if_pos c, if_pos c.1]; omega
    · rw [if_neg c]
      split <;> omega
theorem cntN_mono {P : Int → Int} {b : Int} (n : Nat) : ∀ d : Nat, cntN P b n ≤ cntN P b (n + d)
  | 0 => Int.le_refl _
  | d + 1 => by
    have h := cntN_mono (P := P) (b := b) n d
    show cntN P b n ≤ cntN P b (n + d) + (if P ((n + d : Nat) : Int) = b then 1 else 0)
    split <;> omega
theorem gathP_K {s : Int → Int} {T : qT} {pl : Int} {U : qU} : ∀ t : Nat, (gathP s T pl t U).1 = U.1 + sumN (fun x => @ite _ (comesP s T x pl) (Classical.propDecidable _) 1 0) t
  | 0 => (Int.add_zero _).symm
  | t + 1 => by
    have h := gathP_K (s := s) (T := T) (pl := pl) (U := U) t
    show (gath1 s T pl (t : Int) (gathP s T pl t U)).1 = U.1 + (sumN _ t + @ite _ (comesP s T (t : Int) pl) (Classical.propDecidable _) 1 0)
    by_cases c : comesP s T (t : Int) pl
    · rw [gath1_y c, if_pos c]
      show (gathP s T pl t U).1 + 1 = _
      omega
    · rw [gath1_n c, if_neg c]
      omega
theorem sumN_add {f f2 f3 : Int → Int} (h : ∀ x, f3 x = f x + f2 x) : ∀ t : Nat, sumN f3 t = sumN f t + sumN f2 t
  | 0 => rfl
  | t + 1 => by
    have := sumN_add h t
    unfold sumN
    rw [h]
    omega
theorem gathA_K {s : Int → Int} {T : qT} : ∀ n : Nat, (gathA s T n).1 = sumN (fun x => comN s T x n) (s 5).toNat
  | 0 => by
    have : ∀ t : Nat, sumN (fun x => comN s T x 0) t = 0 := fun t => by
      induction t with
      | zero => rfl
      | succ t ih => show sumN _ t + 0 = 0; omega
    rw [this]; rfl
  | n + 1 => by
    show (gathP s T (n : Int) (s 5).toNat (gathA s T n)).1 = _
    rw [gathP_K, gathA_K n, sumN_add (f := fun x => comN s T x n) (f2 := fun x => @ite _ (comesP s T x (n : Int)) (Classical.propDecidable _) 1 0) (f3 := fun x => comN s T x (n + 1)) (fun x => rfl)]
theorem sumN_le {f : Int → Int} {c : Int} (h : ∀ x, f x ≤ c) : ∀ t : Nat, sumN f t ≤ c * (t : Int)
  | 0 => by show (0 : Int) ≤ c * 0; omega
  | t + 1 => by
    have h1 := sumN_le h t
    have h2 := h (t : Int)
    show sumN f t + f (t : Int) ≤ c * ((t : Int) + 1)
    rw [Int.mul_add]
    omega
theorem gathA_le {s : Int → Int} (g : SG s) {n : Nat} (hn : (n : Int) ≤ (nightT s).1) : (gathA s (nightT s) n).1 ≤ 2 * s 5 := by
  have gn := g.n
  rw [gathA_K]
  have h : ∀ x, comN s (nightT s) x n ≤ 2 := fun x => by
    have h1 := comN_le (s := s) (T := nightT s) (t := x) n
    have h2 := cntN_mono (P := (nightT s).2.2.1) (b := s (149 + 4 * x)) n ((nightT s).1.toNat - n)
    have h3 := night_cnt g (s (149 + 4 * x))
    rw [show n + ((nightT s).1.toNat - n) = (nightT s).1.toNat by omega] at h2
    omega
  have := sumN_le h (s 5).toNat
  omega
theorem gathP_mono {s : Int → Int} {T : qT} {pl : Int} {U : qU} (t : Nat) : ∀ d : Nat, (gathP s T pl t U).1 ≤ (gathP s T pl (t + d) U).1
  | 0 => Int.le_refl _
  | d + 1 => by
    have h := gathP_mono (s := s) (T := T) (pl := pl) (U := U) t d
    show _ ≤ (gath1 s T pl ((t + d : Nat) : Int) (gathP s T pl (t + d) U)).1
    by_cases c : comesP s T ((t + d : Nat) : Int) pl
    · rw [gath1_y c]; show _ ≤ (gathP s T pl (t + d) U).1 + 1; omega
    · rw [gath1_n c]; exact h
theorem gathA_nn {s : Int → Int} {T : qT} : ∀ n : Nat, 0 ≤ (gathA s T n).1
  | 0 => Int.le_refl _
  | n + 1 => by
    have h1 := gathA_nn (s := s) (T := T) n
    have h2 := gathP_mono (s := s) (T := T) (pl := (n : Int)) (U := gathA s T n) 0 (s 5).toNat
    rw [Nat.zero_add] at h2
    exact Int.le_trans h1 h2
/-- there is room for one more showing -/
theorem gath_room {s : Int → Int} (g : SG s) {pl t : Nat} (hp : (pl : Int) < (nightT s).1) (ht : (t : Int) < s 5) (c : comesP s (nightT s) (t : Int) (pl : Int)) : (gathP s (nightT s) (pl : Int) t (gathA s (nightT s) pl)).1 + 1 ≤ 40 := by
  have gn := g.n
  have h1 := gathA_le g (n := pl + 1) (by omega)
  have h2 := gathP_mono (s := s) (T := nightT s) (pl := (pl : Int)) (U := gathA s (nightT s) pl) (t + 1) ((s 5).toNat - (t + 1))
  rw [show t + 1 + ((s 5).toNat - (t + 1)) = (s 5).toNat by omega] at h2
  have h3 : (gathP s (nightT s) (pl : Int) (t + 1) (gathA s (nightT s) pl)).1 = (gathP s (nightT s) (pl : Int) t (gathA s (nightT s) pl)).1 + 1 := by
    show (gath1 s (nightT s) (pl : Int) (t : Int) _).1 = _
    rw [gath1_y c]
  have h4 : gathA s (nightT s) (pl + 1) = gathP s (nightT s) (pl : Int) (s 5).toNat (gathA s (nightT s) pl) := rfl
  rw [h4] at h1
  omega
/-- what is gathered is in its ranges -/
def UG (s : Int → Int) (T : qT) (U : qU) : Prop := 0 ≤ U.1 ∧ ∀ k, 0 ≤ k → k < U.1 → (0 ≤ U.2.1 k ∧ U.2.1 k < s 5) ∧ (0 ≤ U.2.2.1 k ∧ U.2.2.1 k < T.1) ∧ (0 ≤ U.2.2.2.1 k ∧ U.2.2.2.1 k ≤ 48000) ∧ (0 ≤ U.2.2.2.2 k ∧ U.2.2.2.2 k ≤ 48000)
theorem gath1_UG {s : Int → Int} (g : SG s) {T : qT} (tg : TG T) (hT : T.1 ≤ 120) {pl t : Int} (hp : 0 ≤ pl ∧ pl < T.1) (ht : 0 ≤ t ∧ t < s 5) {U : qU} (u : UG s T U) : UG s T (gath1 s T pl t U) := by
  by_cases c : comesP s T t pl
  · rw [gath1_y c]
    obtain ⟨u0, u1⟩ := u
    refine ⟨by show 0 ≤ U.1 + 1; omega, fun k k1 k2 => ?_⟩
    have k2 : k < U.1 + 1 := k2
    show (0 ≤ sset U.2.1 U.1 t k ∧ sset U.2.1 U.1 t k < s 5) ∧ (0 ≤ sset U.2.2.1 U.1 pl k ∧ sset U.2.2.1 U.1 pl k < T.1) ∧ (0 ≤ sset U.2.2.2.1 U.1 (max 0 (T.2.2.2 pl - leadP (s (148 + 4 * t)))) k ∧ sset U.2.2.2.1 U.1 (max 0 (T.2.2.2 pl - leadP (s (148 + 4 * t)))) k ≤ 48000) ∧ (0 ≤ sset U.2.2.2.2 U.1 (bOE T (pl + s (150 + 4 * t))) k ∧ sset U.2.2.2.2 U.1 (bOE T (pl + s (150 + 4 * t))) k ≤ 48000)
    rw [sset_ap, sset_ap, sset_ap, sset_ap]
    by_cases e : k = U.1
    · simp only [if_pos e]
      have h1 := tg.2.2.2.1 pl hp.1 hp.2
      have h2 := tg.2.2.1
      have h3 := (g.ti t ht.1 ht.2).2.2.1
      have h4 := bOE_in tg (a := pl + s (150 + 4 * t)) (by omega)
      have h5 : 0 ≤ leadP (s (148 + 4 * t)) := by unfold leadP; omega
      omega
    · simp only [if_neg e]
      exact u1 k k1 (by omega)
  · rw [gath1_n c]; exact u
theorem gathP_UG {s : Int → Int} (g : SG s) {T : qT} (tg : TG T) (hT : T.1 ≤ 120) {pl : Int} (hp : 0 ≤ pl ∧ pl < T.1) {U : qU} (u : UG s T U) : ∀ t : Nat, (t : Int) ≤ s 5 → UG s T (gathP s T pl t U)
  | 0, _ => u
  | t + 1, h => gath1_UG g tg hT hp ⟨by omega, by omega⟩ (gathP_UG g tg hT hp u t (by omega))
theorem gathA_UG {s : Int → Int} (g : SG s) {T : qT} (tg : TG T) (hT : T.1 ≤ 120) : ∀ n : Nat, (n : Int) ≤ T.1 → UG s T (gathA s T n)
  | 0, _ => ⟨Int.le_refl _, fun k k1 k2 => by have k2 : k < 0 := k2; omega⟩
  | n + 1, h => gathP_UG g tg hT ⟨by omega, by omega⟩ (gathA_UG g tg hT n (by omega)) _ (by have := g.n; omega)
end
section
/-! The showings looked at: (reason, begin, end, the one ahead that shows; -6: none) -/
abbrev qW : Type := (Int → Int) × (Int → Int) × (Int → Int) × Int
theorem sset_same (s : Int → Int) (i v : Int) : sset s i v i = v := if_pos rfl
theorem sset_ne (s : Int → Int) {i j : Int} (v : Int) (h : j ≠ i) : sset s i v j = s j := if_neg h
/-- when a showing would begin (w: it waits) -/
def lookB (w : Int) (U : qU) (k : Int) (W : qW) : Int := if W.2.2.2 = -6 then U.2.2.2.1 k else max (U.2.2.2.1 k) (if w ≠ 0 then W.2.2.1 W.2.2.2 else W.2.1 W.2.2.2)
def lookV (w sh : Int) (U : qU) (k : Int) (W : qW) : qW :=
  if max (lookB w U k W) (U.2.2.2.2 k) - lookB w U k W < sh then (sset W.1 k 2, sset W.2.1 k (-6), sset W.2.2.1 k (-6), W.2.2.2)
  else (sset W.1 k 0, sset W.2.1 k (lookB w U k W), sset (if W.2.2.2 = -6 then W.2.2.1 else sset W.2.2.1 W.2.2.2 (min (W.2.2.1 W.2.2.2) (lookB w U k W))) k (max (lookB w U k W) (U.2.2.2.2 k)), k)
def waitI (s : Int → Int) (U : qU) (k : Int) : Int := if s (148 + 4 * U.2.1 k) = 1 then 0 else 1
noncomputable def look1 (s : Int → Int) (T : qT) (U : qU) (k : Int) (W : qW) : qW := @ite _ (darkP s T (U.2.2.2.1 k)) (Classical.propDecidable _) (sset W.1 k 1, sset W.2.1 k (-6), sset W.2.2.1 k (-6), W.2.2.2) (lookV (waitI s U k) (s 1) U k W)
theorem look1_y {s : Int → Int} {T : qT} {U : qU} {k : Int} {W : qW} (h : darkP s T (U.2.2.2.1 k)) : look1 s T U k W = (sset W.1 k 1, sset W.2.1 k (-6), sset W.2.2.1 k (-6), W.2.2.2) := if_pos h
theorem look1_n {s : Int → Int} {T : qT} {U : qU} {k : Int} {W : qW} (h : ¬ darkP s T (U.2.2.2.1 k)) : look1 s T U k W = lookV (waitI s U k) (s 1) U k W := if_neg h
noncomputable def lookN (s : Int → Int) (T : qT) (U : qU) : Nat → qW
  | 0 => (fun _ => 0, fun _ => 0, fun _ => 0, -6)
  | k + 1 => look1 s T U (k : Int) (lookN s T U k)
noncomputable def showW (s : Int → Int) : qW := lookN s (nightT s) (showU s) (showU s).1.toNat
def WG (n : Int) (W : qW) : Prop := (W.2.2.2 = -6 ∨ (0 ≤ W.2.2.2 ∧ W.2.2.2 < n ∧ W.1 W.2.2.2 = 0)) ∧ ∀ j, 0 ≤ j → j < n → (W.1 j = 0 ∨ W.1 j = 1 ∨ W.1 j = 2) ∧ (W.1 j = 0 → 0 ≤ W.2.1 j ∧ W.2.1 j ≤ W.2.2.1 j ∧ W.2.2.1 j ≤ 48000) ∧ (W.1 j ≠ 0 → W.2.1 j = -6 ∧ W.2.2.1 j = -6)
theorem lookB_in {w n k : Int} {U : qU} {W : qW} (g : WG n W) (h : 0 ≤ U.2.2.2.1 k ∧ U.2.2.2.1 k ≤ 48000) : U.2.2.2.1 k ≤ lookB w U k W ∧ lookB w U k W ≤ 48000 ∧ (W.2.2.2 ≠ -6 → W.2.1 W.2.2.2 ≤ lookB w U k W) := by
  unfold lookB
  rcases g.1 with e | ⟨e1, e2, e3⟩
  · rw [if_pos e]; exact ⟨by omega, by omega, fun q => absurd e q⟩
  · have h1 := (g.2 _ e1 e2).2.1 e3
    rw [if_neg (by omega)]
    split <;> omega
theorem WG.non {n v : Int} {W : qW} (g : WG n W) (h0 : 0 ≤ n) (hv : v = 1 ∨ v = 2) : WG (n + 1) (sset W.1 n v, sset W.2.1 n (-6), sset W.2.2.1 n (-6), W.2.2.2) := by
  refine ⟨?_, fun j j1 j2 => ?_⟩
  · rcases g.1 with e | ⟨e1, e2, e3⟩
    · exact Or.inl e
    · exact Or.inr ⟨e1, by show W.2.2.2 < n + 1; omega, by show sset W.1 n v W.2.2.2 = 0; rw [sset_ap, if_neg (by omega)]; exact e3⟩
  · show (sset W.1 n v j = 0 ∨ sset W.1 n v j = 1 ∨ sset W.1 n v j = 2) ∧ (sset W.1 n v j = 0 → 0 ≤ sset W.2.1 n (-6) j ∧ sset W.2.1 n (-6) j ≤ sset W.2.2.1 n (-6) j ∧ sset W.2.2.1 n (-6) j ≤ 48000) ∧ (sset W.1 n v j ≠ 0 → sset W.2.1 n (-6) j = -6 ∧ sset W.2.2.1 n (-6) j = -6)
    by_cases e : j = n
    · rw [e, sset_same, sset_same, sset_same]; exact ⟨by omega, fun q => by omega, fun _ => ⟨rfl, rfl⟩⟩
    · rw [sset_ne _ _ e, sset_ne _ _ e, sset_ne _ _ e]; exact g.2 j j1 (by omega)
theorem lookV_WG {w sh n : Int} {U : qU} {W : qW} (g : WG n W) (h0 : 0 ≤ n) (h1 : 0 ≤ U.2.2.2.1 n ∧ U.2.2.2.1 n ≤ 48000) (h2 : 0 ≤ U.2.2.2.2 n ∧ U.2.2.2.2 n ≤ 48000) : WG (n + 1) (lookV w sh U n W) := by
  have hb := lookB_in (w := w) (k := n) g h1
  unfold lookV
  split
  · exact g.non h0 (Or.inr rfl)
  · refine ⟨Or.inr ⟨h0, by show n < n + 1; omega, by show sset W.1 n 0 n = 0; rw [sset_ap, if_pos rfl]⟩, fun j j1 j2 => ?_⟩
    show (sset W.1 n 0 j = 0 ∨ sset W.1 n 0 j = 1 ∨ sset W.1 n 0 j = 2) ∧ (sset W.1 n 0 j = 0 → 0 ≤ sset W.2.1 n (lookB w U n W) j ∧ sset W.2.1 n (lookB w U n W) j ≤ sset (if W.2.2.2 = -6 then W.2.2.1 else sset W.2.2.1 W.2.2.2 (min (W.2.2.1 W.2.2.2) (lookB w U n W))) n (max (lookB w U n W) (U.2.2.2.2 n)) j ∧ sset (if W.2.2.2 = -6 then W.2.2.1 else sset W.2.2.1 W.2.2.2 (min (W.2.2.1 W.2.2.2) (lookB w U n W))) n (max (lookB w U n W) (U.2.2.2.2 n)) j ≤ 48000) ∧ (sset W.1 n 0 j ≠ 0 → sset W.2.1 n (lookB w U n W) j = -6 ∧ sset (if W.2.2.2 = -6 then W.2.2.1 else sset W.2.2.1 W.2.2.2 (min (W.2.2.1 W.2.2.2) (lookB w U n W))) n (max (lookB w U n W) (U.2.2.2.2 n)) j = -6)
    by_cases e : j = n
    · rw [e, sset_same, sset_same, sset_same]; exact ⟨Or.inl rfl, fun _ => by omega, fun q => absurd rfl q⟩
    · rw [sset_ne _ _ e, sset_ne _ _ e, sset_ne _ _ e]
      have gj := g.2 j j1 (by omega)
      rcases g.1 with a | ⟨a1, a2, a3⟩
      · simp only [if_pos a]; exact gj
      · rw [if_neg (by omega), sset_ap]
        by_cases e2 : j = W.2.2.2
        · rw [if_pos e2, ← e2]
          rw [← e2] at a3 hb
          omega
        · rw [if_neg e2]; exact gj
theorem look1_WG {s : Int → Int} {T : qT} {n : Int} {U : qU} {W : qW} (g : WG n W) (h0 : 0 ≤ n) (h1 : 0 ≤ U.2.2.2.1 n ∧ U.2.2.2.1 n ≤ 48000) (h2 : 0 ≤ U.2.2.2.2 n ∧ U.2.2.2.2 n ≤ 48000) : WG (n + 1) (look1 s T U n W) := by
  by_cases c : darkP s T (U.2.2.2.1 n)
  · rw [look1_y c]; exact g.non h0 (Or.inl rfl)
  · rw [look1_n c]; exact lookV_WG g h0 h1 h2
theorem lookN_WG {s : Int → Int} {T : qT} {U : qU} (u : UG s T U) : ∀ n : Nat, (n : Int) ≤ U.1 → WG (n : Int) (lookN s T U n)
  | 0, _ => ⟨Or.inl rfl, fun j j1 j2 => by omega⟩
  | n + 1, h => by
    have a := u.2 (n : Int) (by omega) (by omega)
    exact look1_WG (lookN_WG u n (by omega)) (by omega) a.2.2.1 a.2.2.2
theorem show_UG {s : Int → Int} (g : SG s) : UG s (nightT s) (showU s) := gathA_UG g (night_TG g) (night_le g) _ (by have := (night_TG g).1; omega)
theorem show_le {s : Int → Int} (g : SG s) : 0 ≤ (showU s).1 ∧ (showU s).1 ≤ 40 := by
  have h := gathA_le g (n := (nightT s).1.toNat) (by have := (night_TG g).1; omega)
  have := g.n
  exact ⟨(show_UG g).1, by show (gathA s (nightT s) (nightT s).1.toNat).1 ≤ 40; omega⟩
theorem show_WG {s : Int → Int} (g : SG s) : WG (showU s).1 (showW s) := by
  have h := lookN_WG (show_UG g) (showU s).1.toNat (by have := (show_le g).1; omega)
  have e : (((showU s).1.toNat : Nat) : Int) = (showU s).1 := by have := (show_le g).1; omega
  rw [e] at h
  exact h
/-! what the class's Showings holds -/
def CSh1 (h : qH) (u : Int) (U : qU) : Prop := h u 7 = U.1 ∧ ∀ k, 0 ≤ k → k < U.1 → h (u + 1) k = U.2.1 k ∧ h (u + 2) k = U.2.2.1 k ∧ h (u + 3) k = U.2.2.2.1 k ∧ h (u + 4) k = U.2.2.2.2 k
def CSh2 (h : qH) (u : Int) (W : qW) (n : Int) : Prop := ∀ k, 0 ≤ k → k < n → h (u + 5) k = W.1 k ∧ (W.1 k = 0 → h (u + 6) k = W.2.1 k ∧ h (u + 7) k = W.2.2.1 k)
theorem CSh1.fr {h h2 : qH} {u : Int} {U : qU} (c : CSh1 h u U) (hr : ∀ x y, u ≤ x → x < u + 5 → h2 x y = h x y) : CSh1 h2 u U := by
  refine ⟨by rw [hr _ _ (by omega) (by omega)]; exact c.1, fun k k1 k2 => ?_⟩
  rw [hr _ _ (by omega) (by omega), hr _ _ (by omega) (by omega), hr _ _ (by omega) (by omega), hr _ _ (by omega) (by omega)]
  exact c.2 k k1 k2
theorem CSh2.fr {h h2 : qH} {u n : Int} {W : qW} (c : CSh2 h u W n) (hr : ∀ x y, u + 5 ≤ x → x < u + 8 → h2 x y = h x y) : CSh2 h2 u W n := by
  intro k k1 k2
  rw [hr _ _ (by omega) (by omega), hr _ _ (by omega) (by omega), hr _ _ (by omega) (by omega)]
  exact c k k1 k2
theorem CSh2.non {h h2 : qH} {u n v : Int} {W : qW} (c : CSh2 h u W n) (e : h2 = hset h (u + 5) n v) (hv : v ≠ 0) : CSh2 h2 u (sset W.1 n v, sset W.2.1 n (-6), sset W.2.2.1 n (-6), W.2.2.2) (n + 1) := by
  intro k k1 k2
  show h2 (u + 5) k = sset W.1 n v k ∧ (sset W.1 n v k = 0 → h2 (u + 6) k = sset W.2.1 n (-6) k ∧ h2 (u + 7) k = sset W.2.2.1 n (-6) k)
  have r6 : h2 (u + 6) k = h (u + 6) k := by rw [e, hset_nea _ _ _ (by omega)]
  have r7 : h2 (u + 7) k = h (u + 7) k := by rw [e, hset_nea _ _ _ (by omega)]
  rw [r6, r7, e]
  by_cases q : k = n
  · rw [q, hset_same, sset_same]; exact ⟨rfl, fun z => absurd z hv⟩
  · rw [hset_neb _ _ _ q, sset_ne _ _ q, sset_ne _ _ q, sset_ne _ _ q]; exact c k k1 (by omega)
theorem CSh2.lookV {h h2 h1 : qH} {u n w sh : Int} {U : qU} {W : qW} (c : CSh2 h u W n) (g : WG n W)
    (e : (max (lookB w U n W) (U.2.2.2.2 n) - lookB w U n W < sh ∧ h2 = hset h (u + 5) n 2) ∨ (sh ≤ max (lookB w U n W) (U.2.2.2.2 n) - lookB w U n W ∧ ((W.2.2.2 = -6 ∧ h1 = h) ∨ (W.2.2.2 ≠ -6 ∧ h1 = hset h (u + 7) W.2.2.2 (min (W.2.2.1 W.2.2.2) (lookB w U n W)))) ∧ h2 = hset (hset (hset h1 (u + 5) n 0) (u + 6) n (lookB w U n W)) (u + 7) n (max (lookB w U n W) (U.2.2.2.2 n)))) : CSh2 h2 u (lookV w sh U n W) (n + 1) ∧ FR (u + 5) 3 h h2 := by
  show CSh2 h2 u (if max (lookB w U n W) (U.2.2.2.2 n) - lookB w U n W < sh then _ else _) (n + 1) ∧ _
  rcases e with ⟨e1, e2⟩ | ⟨e1, e3, e2⟩
  · rw [if_pos e1]
    exact ⟨c.non e2 (by decide), fun x y z => by rw [e2, hset_nea _ _ _ (by omega)]⟩
  · rw [if_neg (by omega)]
    have d1 : ∀ x y, x ≠ u + 7 → h1 x y = h x y := fun x y z => by
      rcases e3 with ⟨_, q⟩ | ⟨_, q⟩
      · rw [q]
      · rw [q, hset_nea _ _ _ z]
    refine ⟨fun k k1 k2 => ?_, fun x y z => by rw [e2, hset_nea _ _ _ (by omega), hset_nea _ _ _ (by omega), hset_nea _ _ _ (by omega), d1 _ _ (by omega)]⟩
    have r5 : h2 (u + 5) k = hset h1 (u + 5) n 0 (u + 5) k := by rw [e2, hset_nea _ _ _ (by omega), hset_nea _ _ _ (by omega)]
    have r6 : h2 (u + 6) k = hset h1 (u + 6) n (lookB w U n W) (u + 6) k := by rw [e2, hset_nea _ _ _ (by omega)]; exact hset_in (by rw [hset_nea _ _ _ (by omega)])
    have r7 : h2 (u + 7) k = hset h1 (u + 7) n (max (lookB w U n W) (U.2.2.2.2 n)) (u + 7) k := by rw [e2]; exact hset_in (by rw [hset_nea _ _ _ (by omega), hset_nea _ _ _ (by omega)])
    rw [r5, r6, r7]
    show hset h1 (u + 5) n 0 (u + 5) k = sset W.1 n 0 k ∧ (sset W.1 n 0 k = 0 → hset h1 (u + 6) n (lookB w U n W) (u + 6) k = sset W.2.1 n (lookB w U n W) k ∧ hset h1 (u + 7) n (max (lookB w U n W) (U.2.2.2.2 n)) (u + 7) k = sset (if W.2.2.2 = -6 then W.2.2.1 else sset W.2.2.1 W.2.2.2 (min (W.2.2.1 W.2.2.2) (lookB w U n W))) n (max (lookB w U n W) (U.2.2.2.2 n)) k)
    by_cases q : k = n
    · rw [q, hset_same, hset_same, hset_same, sset_same, sset_same, sset_same]; exact ⟨rfl, fun _ => ⟨rfl, rfl⟩⟩
    · rw [hset_neb _ _ _ q, hset_neb _ _ _ q, hset_neb _ _ _ q, d1 _ _ (by omega), d1 _ _ (by omega), sset_ne _ _ q, sset_ne _ _ q, sset_ne _ _ q]
      have ck := c k k1 (by omega)
      refine ⟨ck.1, fun z => ⟨(ck.2 z).1, ?_⟩⟩
      rcases e3 with ⟨a, b⟩ | ⟨a, b⟩
      · rw [if_pos a, b]; exact (ck.2 z).2
      · rw [if_neg a, b, sset_ap]
        by_cases e4 : k = W.2.2.2
        · rw [if_pos e4, e4, hset_same]
        · rw [if_neg e4, hset_neb _ _ _ e4]; exact (ck.2 z).2
end
section
/-! counts and sums over the showings -/
theorem cntN_s {P : Int → Int} {b i : Int} (h : 0 ≤ i) : cntN P b (i + 1).toNat = cntN P b i.toNat + (if P i = b then 1 else 0) := by
  have e : (i + 1).toNat = i.toNat + 1 := by omega
  have e2 : ((i.toNat : Nat) : Int) = i := by omega
  rw [e]
  show cntN P b i.toNat + (if P ((i.toNat : Nat) : Int) = b then 1 else 0) = _
  rw [e2]
theorem cntN_in (P : Int → Int) (b : Int) {i : Int} (h : 0 ≤ i) : 0 ≤ cntN P b i.toNat ∧ cntN P b i.toNat ≤ i := by
  have := fstN_zero (P := P) (b := b) i.toNat
  omega
/-- of the showings of a title (or of all, t < 0): how many show, and for how long -/
def shcN (U : qU) (W : qW) (t : Int) : Nat → Int
  | 0 => 0
  | k + 1 => shcN U W t k + (if U.2.1 (k : Int) = t ∧ W.1 (k : Int) = 0 then 1 else 0)
def tenN (U : qU) (W : qW) (t : Int) : Nat → Int
  | 0 => 0
  | k + 1 => tenN U W t k + (if U.2.1 (k : Int) = t ∧ W.1 (k : Int) = 0 then W.2.2.1 (k : Int) - W.2.1 (k : Int) else 0)
def tenA (W : qW) : Nat → Int
  | 0 => 0
  | k + 1 => tenA W k + (if W.1 (k : Int) = 0 then W.2.2.1 (k : Int) - W.2.1 (k : Int) else 0)
theorem shcN_s {U : qU} {W : qW} {t i : Int} (h : 0 ≤ i) : shcN U W t (i + 1).toNat = shcN U W t i.toNat + (if U.2.1 i = t ∧ W.1 i = 0 then 1 else 0) := by
  have e : (i + 1).toNat = i.toNat + 1 := by omega
  have e2 : ((i.toNat : Nat) : Int) = i := by omega
  rw [e]
  show shcN U W t i.toNat + (if U.2.1 ((i.toNat : Nat) : Int) = t ∧ W.1 ((i.toNat : Nat) : Int) = 0 then 1 else 0) = _
  rw [e2]
theorem tenN_s {U : qU} {W : qW} {t i : Int} (h : 0 ≤ i) : tenN U W t (i + 1).toNat = tenN U W t i.toNat + (if U.2.1 i = t ∧ W.1 i = 0 then W.2.2.1 i - W.2.1 i else 0) := by
  have e : (i + 1).toNat = i.toNat + 1 := by omega
  have e2 : ((i.toNat : Nat) : Int) = i := by omega
  rw [e]
  show tenN U W t i.toNat + (if U.2.1 ((i.toNat : Nat) : Int) = t ∧ W.1 ((i.toNat : Nat) : Int) = 0 then W.2.2.1 ((i.toNat : Nat) : Int) - W.2.1 ((i.toNat : Nat) : Int) else 0) = _
  rw [e2]
theorem tenA_s {W : qW} {i : Int} (h : 0 ≤ i) : tenA W (i + 1).toNat = tenA W i.toNat + (if W.1 i = 0 then W.2.2.1 i - W.2.1 i else 0) := by
  have e : (i + 1).toNat = i.toNat + 1 := by omega
  have e2 : ((i.toNat : Nat) : Int) = i := by omega
  rw [e]
  show tenA W i.toNat + (if W.1 ((i.toNat : Nat) : Int) = 0 then W.2.2.1 ((i.toNat : Nat) : Int) - W.2.1 ((i.toNat : Nat) : Int) else 0) = _
  rw [e2]
theorem shcN_in (U : qU) (W : qW) (t : Int) : ∀ k : Nat, 0 ≤ shcN U W t k ∧ shcN U W t k ≤ (k : Int)
  | 0 => by show (0 : Int) ≤ 0 ∧ (0 : Int) ≤ 0; omega
  | k + 1 => by
    have := shcN_in U W t k
    unfold shcN
    split <;> omega
theorem tenN_in {U : qU} {W : qW} {t n : Int} (g : WG n W) : ∀ k : Nat, (k : Int) ≤ n → 0 ≤ tenN U W t k ∧ tenN U W t k ≤ 48000 * (k : Int)
  | 0, _ => by show (0 : Int) ≤ 0 ∧ (0 : Int) ≤ 48000 * 0; omega
  | k + 1, h => by
    have := tenN_in (U := U) (t := t) g k (by omega)
    have a := g.2 (k : Int) (by omega) (by omega)
    unfold tenN
    split <;> omega
theorem tenA_in {W : qW} {n : Int} (g : WG n W) : ∀ k : Nat, (k : Int) ≤ n → 0 ≤ tenA W k ∧ tenA W k ≤ 48000 * (k : Int)
  | 0, _ => by show (0 : Int) ≤ 0 ∧ (0 : Int) ≤ 48000 * 0; omega
  | k + 1, h => by
    have := tenA_in g k (by omega)
    have a := g.2 (k : Int) (by omega) (by omega)
    unfold tenA
    split <;> omega
def hitP (W : qW) (t k : Int) : Prop := W.1 k = 0 ∧ W.2.1 k ≤ t ∧ t < W.2.2.1 k
/-- the title that shows at a time -/
def atP (U : qU) (W : qW) (t z : Int) : Prop := (∃ k, 0 ≤ k ∧ k < U.1 ∧ hitP W t k ∧ z = U.2.1 k ∧ ∀ j, 0 ≤ j → j < k → ¬ hitP W t j) ∨ ((∀ k, 0 ≤ k → k < U.1 → ¬ hitP W t k) ∧ z = -6)
end
section
/-! one more step -/
theorem gathP_succ (s : Int → Int) (T : qT) (pl : Int) (U : qU) {j : Int} (h : 0 ≤ j) : gathP s T pl (j + 1).toNat U = gath1 s T pl j (gathP s T pl j.toNat U) := by
  rw [show (j + 1).toNat = j.toNat + 1 by omega]
  show gath1 s T pl ((j.toNat : Nat) : Int) _ = _
  rw [show ((j.toNat : Nat) : Int) = j by omega]
theorem gathA_succ (s : Int → Int) (T : qT) {i : Int} (h : 0 ≤ i) : gathA s T (i + 1).toNat = gathP s T i (s 5).toNat (gathA s T i.toNat) := by
  rw [show (i + 1).toNat = i.toNat + 1 by omega]
  show gathP s T ((i.toNat : Nat) : Int) _ _ = _
  rw [show ((i.toNat : Nat) : Int) = i by omega]
theorem lookN_succ (s : Int → Int) (T : qT) (U : qU) {k : Int} (h : 0 ≤ k) : lookN s T U (k + 1).toNat = look1 s T U k (lookN s T U k.toNat) := by
  rw [show (k + 1).toNat = k.toNat + 1 by omega]
  show look1 s T U ((k.toNat : Nat) : Int) _ = _
  rw [show ((k.toNat : Nat) : Int) = k by omega]
theorem gath_room2 {s : Int → Int} (g : SG s) {T : qT} (e : T = nightT s) {i j : Int} (hi : 0 ≤ i ∧ i < T.1) (hj : 0 ≤ j ∧ j < s 5) (c : comesP s T j i) : (gathP s T i j.toNat (gathA s T i.toNat)).1 + 1 ≤ 40 := by
  subst e
  have ei : ((i.toNat : Nat) : Int) = i := by omega
  have ej : ((j.toNat : Nat) : Int) = j := by omega
  have h := gath_room g (pl := i.toNat) (t := j.toNat) (by omega) (by omega) (by rw [ei, ej]; exact c)
  rw [ei] at h
  exact h
theorem lookV_ahead {w sh k : Int} {U : qU} {W : qW} : (lookV w sh U k W).2.2.2 = if (lookV w sh U k W).1 k = 0 then k else W.2.2.2 := by
  unfold lookV
  split
  · show W.2.2.2 = if sset W.1 k 2 k = 0 then k else W.2.2.2
    rw [sset_same, if_neg (by decide)]
  · show k = if sset W.1 k 0 k = 0 then k else W.2.2.2
    rw [sset_same, if_pos rfl]
theorem look1_ahead {s : Int → Int} {T : qT} {U : qU} {k : Int} {W : qW} : (look1 s T U k W).2.2.2 = if (look1 s T U k W).1 k = 0 then k else W.2.2.2 := by
  by_cases h : darkP s T (U.2.2.2.1 k)
  · rw [look1_y h]
    show W.2.2.2 = if sset W.1 k 1 k = 0 then k else W.2.2.2
    rw [sset_same, if_neg (by decide)]
  · rw [look1_n h]
    exact lookV_ahead
/-- the night's length if every bar were at the tempo x -/
def endN (s : Int → Int) (T : qT) (x : Int) : Nat → Int
  | 0 => 0
  | b + 1 => endN s T x b + cntN T.2.2.1 (b : Int) T.1.toNat * (600 * s (6 + (b : Int)) / x)
theorem endN_succ (s : Int → Int) (T : qT) (x : Int) {i : Int} (h : 0 ≤ i) : endN s T x (i + 1).toNat = endN s T x i.toNat + cntN T.2.2.1 i T.1.toNat * (600 * s (6 + i) / x) := by
  rw [show (i + 1).toNat = i.toNat + 1 by omega]
  show endN s T x i.toNat + cntN T.2.2.1 ((i.toNat : Nat) : Int) T.1.toNat * (600 * s (6 + ((i.toNat : Nat) : Int)) / x) = _
  rw [show ((i.toNat : Nat) : Int) = i by omega]
theorem endN_term {s : Int → Int} (g : SG s) {T : qT} (h0 : 0 ≤ T.1) (hT : T.1 ≤ 120) {x b : Int} (hx : 1 ≤ x) (hb : 0 ≤ b ∧ b < 60) : 0 ≤ cntN T.2.2.1 b T.1.toNat * (600 * s (6 + b) / x) ∧ cntN T.2.2.1 b T.1.toNat * (600 * s (6 + b) / x) ≤ 864000 := by
  have h1 := fstN_zero (P := T.2.2.1) (b := b) T.1.toNat
  have h2 := g.b b hb.1 hb.2
  have h3 : 0 ≤ 600 * s (6 + b) / x := Int.ediv_nonneg (by omega) (by omega)
  have h4 : 600 * s (6 + b) / x ≤ 600 * s (6 + b) := Int.ediv_le_self _ (by omega)
  refine ⟨Int.mul_nonneg h1.2.1 h3, ?_⟩
  have h5 := Int.mul_le_mul (show cntN T.2.2.1 b T.1.toNat ≤ 120 by omega) (show 600 * s (6 + b) / x ≤ 7200 by omega) h3 (by decide)
  omega
theorem endN_in {s : Int → Int} (g : SG s) {T : qT} (h0 : 0 ≤ T.1) (hT : T.1 ≤ 120) {x : Int} (hx : 1 ≤ x) : ∀ b : Nat, (b : Int) ≤ 60 → 0 ≤ endN s T x b ∧ endN s T x b ≤ 864000 * (b : Int)
  | 0, _ => ⟨Int.le_refl _, Int.le_refl _⟩
  | b + 1, h => by
    have h1 := endN_in g h0 hT hx b (by omega)
    have h2 := endN_term g h0 hT hx (b := (b : Int)) (by omega)
    unfold endN
    omega
end
section
/-! the characters in a number -/
def uN (c : Int) : Nat := (Int64.ofInt c).toUInt64.toNat
def byt (c : Int) (k : Nat) : Int := ((uN c / 256 ^ k % 256 : Nat) : Int)
def rst (c : Int) (k : Nat) : Int := (UInt64.ofNat (uN c / 256 ^ k)).toInt64.toInt
theorem uN_lt (c : Int) : uN c < 18446744073709551616 := UInt64.toNat_lt _
theorem byt_in (c : Int) (k : Nat) : 0 ≤ byt c k ∧ byt c k ≤ 255 := by unfold byt; omega
theorem shr_q (a : UInt64) (y : Int) (hy : 0 ≤ y ∧ y < 64) : (a >>> ((Int32.ofInt y).toInt64.toUInt64 &&& Int64.toUInt64 63)).toNat = a.toNat / 2 ^ y.toNat := by
  have e : ((Int32.ofInt y).toInt64.toUInt64 &&& Int64.toUInt64 63).toNat = y.toNat := by
    have h : ∀ k : Fin 64, ((Int32.ofInt (k.val : Int)).toInt64.toUInt64 &&& Int64.toUInt64 63).toNat = k.val := by decide +kernel
    have h2 := h ⟨y.toNat, by omega⟩
    have h3 : ((y.toNat : Nat) : Int) = y := by omega
    simp only [h3] at h2
    exact h2
  rw [UInt64.toNat_shiftRight, e, Nat.mod_eq_of_lt (by omega), Nat.shiftRight_eq_div_pow]
theorem rst_lt (c : Int) (k : Nat) : uN c / 256 ^ k < 18446744073709551616 := Nat.lt_of_le_of_lt (Nat.div_le_self _ _) (uN_lt c)
theorem rst_u (c : Int) (k : Nat) : (Int64.ofInt (rst c k)).toUInt64 = UInt64.ofNat (uN c / 256 ^ k) := by
  unfold rst
  rw [Int64.ofInt_toInt]
  rfl
theorem rst_0 {c : Int} (h : q_r64 c) : rst c 0 = c := by
  unfold rst uN
  rw [Nat.pow_zero, Nat.div_one, UInt64.ofNat_toNat]
  show (Int64.ofInt c).toInt = c
  exact Int64.toInt_ofInt_of_le (by unfold q_r64 at h; omega) (by unfold q_r64 at h; omega)
theorem ushr_rst (c : Int) {k : Nat} {y : Int} (hk : k < 8) (hy : y = 8 * (k : Int)) : l_ushr c y = rst c k := by
  unfold l_ushr rst
  congr 2
  apply UInt64.toNat.inj
  rw [shr_q _ _ (by omega), UInt64.toNat_ofNat_of_lt' (rst_lt c k)]
  show uN c / 2 ^ y.toNat = uN c / 256 ^ k
  rw [show y.toNat = 8 * k by omega, Nat.pow_mul]
theorem ushr_8 (c : Int) (k : Nat) : l_ushr (rst c k) 8 = rst c (k + 1) := by
  unfold l_ushr
  rw [rst_u]
  show _ = (UInt64.ofNat (uN c / 256 ^ (k + 1))).toInt64.toInt
  congr 2
  apply UInt64.toNat.inj
  rw [shr_q _ _ (by decide), UInt64.toNat_ofNat_of_lt' (rst_lt c k), UInt64.toNat_ofNat_of_lt' (rst_lt c (k + 1)), Nat.pow_succ, Nat.div_div_eq_div_mul]
  rfl
theorem rst_z (c : Int) (k : Nat) : rst c k = 0 ↔ uN c / 256 ^ k = 0 := by
  constructor
  · intro h
    have h1 := rst_u c k
    rw [h] at h1
    have h2 := congrArg UInt64.toNat h1
    rw [UInt64.toNat_ofNat_of_lt' (rst_lt c k)] at h2
    exact h2.symm
  · intro h
    unfold rst
    rw [h]
    rfl
theorem rst_8 (c : Int) : rst c 8 = 0 := by
  rw [rst_z]
  exact Nat.div_eq_of_lt (uN_lt c)
theorem land_byt (c : Int) (k : Nat) : l_and (rst c k) 255 = byt c k := by
  unfold l_and byt
  have h : ((Int64.ofInt (rst c k) &&& Int64.ofInt 255).toUInt64).toNat = uN c / 256 ^ k % 256 := by
    show ((Int64.ofInt (rst c k)).toUInt64 &&& (Int64.ofInt 255).toUInt64).toNat = _
    rw [rst_u, UInt64.toNat_and, UInt64.toNat_ofNat_of_lt' (rst_lt c k)]
    exact Nat.and_two_pow_sub_one_eq_mod _ 8
  have h2 : (Int64.ofInt (rst c k) &&& Int64.ofInt 255) = Int64.ofInt ((uN c / 256 ^ k % 256 : Nat) : Int) := by
    refine (show ∀ a b : Int64, a.toUInt64 = b.toUInt64 → a = b from fun ⟨a⟩ ⟨b⟩ h => by cases h; rfl) _ _ ?_
    apply UInt64.toNat.inj
    have h3 : ∀ z : Fin 256, (Int64.ofInt (z.val : Int)).toUInt64.toNat = z.val := by decide +kernel
    have h4 := h3 ⟨uN c / 256 ^ k % 256, by omega⟩
    exact h.trans h4.symm
  rw [h2]
  exact Int64.toInt_ofInt_of_le (by omega) (by omega)
theorem l2i_byt (c : Int) (k : Nat) : l_2i (byt c k) = byt c k := by
  have h := byt_in c k
  have h2 : ∀ z : Fin 256, l_2i (z.val : Int) = (z.val : Int) := by decide +kernel
  have h3 := h2 ⟨(byt c k).toNat, by omega⟩
  have h4 : (((byt c k).toNat : Nat) : Int) = byt c k := by omega
  simp only [h4] at h3
  exact h3
theorem rst_byt {c : Int} {k : Nat} (h : rst c k = 0) : byt c k = 0 := by
  rw [rst_z] at h
  unfold byt
  rw [h]
  rfl
theorem rst_mono {c : Int} {k : Nat} (h : rst c k = 0) : ∀ d : Nat, rst c (k + d) = 0
  | 0 => h
  | d + 1 => by
    have h1 := rst_mono h d
    rw [rst_z] at h1 ⊢
    rw [← Nat.add_assoc, Nat.pow_succ, ← Nat.div_div_eq_div_mul, h1, Nat.zero_div]
def wellP (c : Int) (n : Nat) : Prop := n ≤ 8 ∧ (∀ k : Nat, k < n → 33 ≤ byt c k ∧ byt c k ≤ 126) ∧ rst c n = 0
theorem wellP_le {c : Int} {n m : Nat} (a : wellP c n) (b : wellP c m) : n ≤ m := by
  rcases Nat.lt_or_ge m n with q | q
  · have h1 := a.2.1 m q
    have h2 := rst_byt b.2.2
    omega
  · exact q
theorem wellP_eq {c : Int} {n m : Nat} (a : wellP c n) (b : wellP c m) : n = m := Nat.le_antisymm (wellP_le a b) (wellP_le b a)
theorem wellP_no {c : Int} {i : Nat} (h : (byt c i = 0 ∧ rst c i ≠ 0) ∨ (byt c i ≠ 0 ∧ ¬ (33 ≤ byt c i ∧ byt c i ≤ 126))) (n : Nat) : ¬ wellP c n := by
  intro a
  rcases Nat.lt_or_ge i n with q | q
  · have h1 := a.2.1 i q
    omega
  · have h1 := rst_mono a.2.2 (i - n)
    rw [show n + (i - n) = i by omega] at h1
    have h2 := rst_byt h1
    rcases h with ⟨_, h3⟩ | ⟨h3, _⟩
    · exact h3 h1
    · exact h3 h2
/-- what a pad holds: m codes -/
def CPad (h : qH) (x m : Int) (P : Int → Int) : Prop := h x 1 = m ∧ ∀ k, 0 ≤ k → k < m → h (x + 1) k = P k
theorem CPad.fr {h h2 : qH} {x m : Int} {P : Int → Int} (c : CPad h x m P) (e : ∀ a b, x ≤ a → a < x + 2 → h2 a b = h a b) : CPad h2 x m P :=
  ⟨(e _ _ (by omega) (by omega)).trans c.1, fun k k1 k2 => (e _ _ (by omega) (by omega)).trans (c.2 k k1 k2)⟩
def apnd (P : Int → Int) (m c : Int) (n : Nat) : Int → Int := fun k => if m ≤ k ∧ k < m + n then byt c (n - 1 - (k - m).toNat) else P k
def O_put (c m : Int) (P : Int → Int) (z m2 : Int) (P2 : Int → Int) : Prop := ((∀ n : Nat, 1 ≤ n → ¬ wellP c n) ∧ z = -2 ∧ m2 = m ∧ P2 = P) ∨
  ∃ n : Nat, 1 ≤ n ∧ wellP c n ∧ ((m + n > 80 ∧ z = -4 ∧ m2 = m ∧ P2 = P) ∨ (m + n ≤ 80 ∧ z = m + n ∧ m2 = m + n ∧ P2 = apnd P m c n))
theorem O_put_fn {c m z z2 m2 m3 : Int} {P P2 P3 : Int → Int} (a : O_put c m P z m2 P2) (b : O_put c m P z2 m3 P3) : z = z2 ∧ m2 = m3 ∧ P2 = P3 := by
  rcases a with ⟨a1, a2, a3, a4⟩ | ⟨n, a1, a2, a3⟩
  · rcases b with ⟨b1, b2, b3, b4⟩ | ⟨n2, b1, b2, b3⟩
    · exact ⟨by omega, by omega, a4.trans b4.symm⟩
    · exact absurd b2 (a1 n2 b1)
  · rcases b with ⟨b1, b2, b3, b4⟩ | ⟨n2, b1, b2, b3⟩
    · exact absurd a2 (b1 n a1)
    · have e := wellP_eq a2 b2
      subst e
      rcases a3 with ⟨a3, a4, a5, a6⟩ | ⟨a3, a4, a5, a6⟩
      · rcases b3 with ⟨b3, b4, b5, b6⟩ | ⟨b3, b4, b5, b6⟩
        · exact ⟨by omega, by omega, a6.trans b6.symm⟩
        · exact absurd a3 (by omega)
      · rcases b3 with ⟨b3, b4, b5, b6⟩ | ⟨b3, b4, b5, b6⟩
        · exact absurd b3 (by omega)
        · exact ⟨by omega, by omega, a6.trans b6.symm⟩
/-- codes of a pad as they must be -/
def PG (m : Int) (P : Int → Int) : Prop := 0 ≤ m ∧ m ≤ 80 ∧ ∀ k, 0 ≤ k → k < m → 33 ≤ P k ∧ P k ≤ 126
theorem O_put_good {c m z m2 : Int} {P P2 : Int → Int} (g : PG m P) (a : O_put c m P z m2 P2) : PG m2 P2 := by
  rcases a with ⟨a1, a2, a3, a4⟩ | ⟨n, a1, a2, ⟨a3, a4, a5, a6⟩ | ⟨a3, a4, a5, a6⟩⟩
  · rw [a3, a4]; exact g
  · rw [a5, a6]; exact g
  · obtain ⟨g1, g2, g3⟩ := g
    refine ⟨by omega, by omega, fun k k1 k2 => ?_⟩
    rw [a6]
    unfold apnd
    split
    · exact a2.2.1 _ (by omega)
    · exact g3 k k1 (by omega)
theorem l_cmp0 (x : Int) : l_cmp x 0 = 0 ↔ x = 0 := by
  unfold l_cmp
  constructor
  · intro h
    split at h
    · exact absurd h (by decide)
    · split at h
      · assumption
      · exact absurd h (by decide)
  · intro h
    rw [if_neg (by omega), if_pos h]
end
section
/-! reading orders: the opening sign, which number, how many digits of it, the numbers -/
abbrev qD : Type := Int × Int × Int × (Int → Int)
def D0 : qD := (0, 0, 0, fun _ => 0)
def openP (c : Int) : Prop := c = 45 ∨ c = 98 ∨ c = 101 ∨ c = 108 ∨ c = 110 ∨ c = 114 ∨ c = 120
def sigR (D : qD) : Int := if D.1 = 98 then (if D.2.1 = 0 then 61 else if D.2.1 = 1 then 64 else 59) else if D.1 = 114 ∨ D.1 = 120 then (if D.2.1 = 0 then 45 else 59) else if D.1 = 45 then 59 else if D.2.1 = 0 then 43 else if D.2.1 = 1 then 58 else 59
def takC (D : qD) (c : Int) : Prop := (D.1 = 0 ∧ openP c) ∨ (D.1 ≠ 0 ∧ (48 ≤ c ∧ c ≤ 57) ∧ ¬ (0 < D.2.2.1 ∧ D.2.2.2 D.2.1 = 0) ∧ D.2.2.2 D.2.1 ≤ 99) ∨ (D.1 ≠ 0 ∧ ¬ (48 ≤ c ∧ c ≤ 57) ∧ D.2.2.1 ≠ 0 ∧ c = sigR D)
def takD (D : qD) (c : Int) : qD := if D.1 = 0 then (c, D.2) else if 48 ≤ c ∧ c ≤ 57 then (D.1, D.2.1, D.2.2.1 + 1, sset D.2.2.2 D.2.1 (10 * D.2.2.2 D.2.1 + (c - 48))) else if c = 59 then D0 else (D.1, D.2.1 + 1, 0, D.2.2.2)
def endP (D : qD) : Prop := D.1 ≠ 0 ∧ 0 < D.2.2.1 ∧ sigR D = 59
def RG (D : qD) : Prop := (D.1 = 0 ∨ openP D.1) ∧ (0 ≤ D.2.1 ∧ D.2.1 ≤ 2) ∧ (0 ≤ D.2.2.1 ∧ D.2.2.1 ≤ 3) ∧ (∀ k, 0 ≤ k → k < 3 → 0 ≤ D.2.2.2 k ∧ D.2.2.2 k ≤ 999) ∧ (∀ k, D.2.1 < k → k < 3 → D.2.2.2 k = 0) ∧ (D.2.2.1 = 0 → D.2.2.2 D.2.1 = 0) ∧ (2 ≤ D.2.2.1 → 10 ≤ D.2.2.2 D.2.1) ∧ (3 ≤ D.2.2.1 → 100 ≤ D.2.2.2 D.2.1) ∧ (D.1 = 0 → D.2.1 = 0 ∧ D.2.2.1 = 0)
theorem RG_0 : RG D0 := ⟨Or.inl rfl, ⟨by decide, by decide⟩, ⟨by decide, by decide⟩, fun k _ _ => ⟨Int.le_refl _, (by decide : (0 : Int) ≤ 999)⟩, fun _ _ _ => rfl, fun _ => rfl, fun w => absurd w (by decide), fun w => absurd w (by decide), fun _ => ⟨rfl, rfl⟩⟩
theorem sigR_2 {D : qD} (h : 2 ≤ D.2.1) : sigR D = 59 := by
  unfold sigR
  repeat' split
  all_goals omega
theorem takD_RG {D : qD} (g : RG D) {c : Int} (h : takC D c) : RG (takD D c) := by
  obtain ⟨g1, g2, g3, g4, g5, g6, g7, g8, g9⟩ := g
  have g10 := g4 D.2.1 (by omega) (by omega)
  rcases h with ⟨h1, h2⟩ | ⟨h1, h2, h3, h4⟩ | ⟨h1, h2, h3, h4⟩
  · have e : takD D c = (c, D.2) := if_pos h1
    rw [e]
    exact ⟨Or.inr h2, g2, g3, g4, g5, g6, g7, g8, fun _ => g9 h1⟩
  · have e : takD D c = (D.1, D.2.1, D.2.2.1 + 1, sset D.2.2.2 D.2.1 (10 * D.2.2.2 D.2.1 + (c - 48))) := (if_neg h1).trans (if_pos h2)
    rw [e]
    have e2 : sset D.2.2.2 D.2.1 (10 * D.2.2.2 D.2.1 + (c - 48)) D.2.1 = 10 * D.2.2.2 D.2.1 + (c - 48) := sset_same _ _ _
    refine ⟨g1, g2, ⟨?_, ?_⟩, fun k k1 k2 => ?_, fun k k1 k2 => ?_, fun w => ?_, fun w => ?_, fun w => ?_, fun w => absurd w h1⟩
    · show 0 ≤ D.2.2.1 + 1
      omega
    · show D.2.2.1 + 1 ≤ 3
      omega
    · show 0 ≤ sset D.2.2.2 D.2.1 _ k ∧ sset D.2.2.2 D.2.1 _ k ≤ 999
      rw [sset_ap]
      split
      · omega
      · exact g4 k k1 k2
    · have k1 : D.2.1 < k := k1
      show sset D.2.2.2 D.2.1 _ k = 0
      rw [sset_ne _ _ (by omega)]
      exact g5 k k1 k2
    · have w : D.2.2.1 + 1 = 0 := w
      omega
    · have w : 2 ≤ D.2.2.1 + 1 := w
      show 10 ≤ sset D.2.2.2 D.2.1 _ D.2.1
      rw [e2]
      omega
    · have w : 3 ≤ D.2.2.1 + 1 := w
      show 100 ≤ sset D.2.2.2 D.2.1 _ D.2.1
      rw [e2]
      omega
  · by_cases h5 : c = 59
    · have e : takD D c = D0 := (if_neg h1).trans ((if_neg h2).trans (if_pos h5))
      rw [e]
      exact RG_0
    · have e : takD D c = (D.1, D.2.1 + 1, 0, D.2.2.2) := (if_neg h1).trans ((if_neg h2).trans (if_neg h5))
      rw [e]
      have e2 : D.2.1 < 2 := by
        rcases Int.lt_or_le D.2.1 2 with q | q
        · exact q
        · have := sigR_2 q; omega
      have e3 := g5 (D.2.1 + 1) (by omega) (by omega)
      exact ⟨g1, ⟨by show 0 ≤ D.2.1 + 1; omega, by show D.2.1 + 1 ≤ 2; omega⟩, ⟨show (0 : Int) ≤ 0 by decide, show (0 : Int) ≤ 3 by decide⟩, g4, fun k k1 k2 => by have k1 : D.2.1 + 1 < k := k1; exact g5 k (by omega) k2, fun _ => e3, fun w => absurd w (show ¬ (2 : Int) ≤ 0 by decide), fun w => absurd w (show ¬ (3 : Int) ≤ 0 by decide), fun w => absurd w h1⟩
def CRead (h : qH) (x : Int) (D : qD) : Prop := h x 1 = D.1 ∧ h x 2 = D.2.1 ∧ h x 3 = D.2.2.1 ∧ ∀ k, 0 ≤ k → k < 3 → h (x + 1) k = D.2.2.2 k
theorem CRead.fr {h h2 : qH} {x : Int} {D : qD} (c : CRead h x D) (e : ∀ a b, x ≤ a → a < x + 2 → h2 a b = h a b) : CRead h2 x D :=
  ⟨(e _ _ (by omega) (by omega)).trans c.1, (e _ _ (by omega) (by omega)).trans c.2.1, (e _ _ (by omega) (by omega)).trans c.2.2.1, fun k k1 k2 => (e _ _ (by omega) (by omega)).trans (c.2.2.2 k k1 k2)⟩
/-- what has been read after so many signs -/
def runD (P : Int → Int) : Nat → qD
  | 0 => D0
  | i + 1 => takD (runD P i) (P (i : Int))
def runC (P : Int → Int) (i : Nat) : Prop := ∀ k : Nat, k < i → takC (runD P k) (P (k : Int))
theorem runD_RG {P : Int → Int} : ∀ i : Nat, runC P i → RG (runD P i)
  | 0, _ => RG_0
  | i + 1, h => takD_RG (runD_RG i (fun k hk => h k (by omega))) (h i (Nat.lt_succ_self i))
theorem CRead.st {h h2 : qH} {x : Int} (c : h2 x 1 = 0 ∧ h2 x 2 = 0 ∧ h2 x 3 = 0) (d : ∀ k, 0 ≤ k → k < 3 → h2 (x + 1) k = 0) : CRead h2 x D0 := ⟨c.1, c.2.1, c.2.2, d⟩
end
section
/-! what the shapes of a block must be before it is made -/
theorem al_mk {G : qG} {n p len : Int} {t : Nat} (h : G.2.2.2 p = (t, len)) (h0 : (G.1 : Int) ≤ p) (h1 : p < n) (h2 : 0 ≤ len) : q_al G n p t len := ⟨h0, h1, h, h2⟩
theorem al_up {G : qG} {n m p len : Int} {t : Nat} (a : q_al G n p t len) (h : n ≤ m) : q_al G m p t len := ⟨a.1, by have := a.2.1; omega, a.2.2⟩
def SSpans (G : qG) (p cap : Int) : Prop := G.2.2.2 p = (6, 0) ∧ G.2.2.2 (p + 1) = (10, cap) ∧ G.2.2.2 (p + 2) = (10, cap)
def STitles (G : qG) (p : Int) : Prop := G.2.2.2 p = (7, 0) ∧ G.2.2.2 (p + 1) = (10, 20) ∧ G.2.2.2 (p + 2) = (10, 20) ∧ G.2.2.2 (p + 3) = (10, 20) ∧ G.2.2.2 (p + 4) = (10, 20)
def SScore (G : qG) (p : Int) : Prop := G.2.2.2 p = (4, 0) ∧ G.2.2.2 (p + 1) = (10, 60) ∧ G.2.2.2 (p + 2) = (10, 60) ∧ SSpans G (p + 3) 4 ∧ SSpans G (p + 6) 4 ∧ SSpans G (p + 9) 3 ∧ STitles G (p + 12)
def SShow (G : qG) (p : Int) : Prop := G.2.2.2 p = (5, 0) ∧ ∀ k, 1 ≤ k → k ≤ 7 → G.2.2.2 (p + k) = (10, 40)
/-- nothing lies from n on -/
def ZF (n : Int) (r h : qH) : Prop := ∀ a b, n ≤ a → r a b = 0 ∧ h a b = 0
theorem ZF.up {n m : Int} {r h : qH} (z : ZF n r h) (w : n ≤ m) : ZF m r h := fun a b q => z a b (by omega)
theorem ZF.r {n p k v : Int} {r r2 h : qH} (z : ZF n r h) (e : r2 = hset r p k v) (w : p < n) : ZF n r2 h := fun a b q => ⟨by rw [e, hset_nea _ _ _ (by omega)]; exact (z a b q).1, (z a b q).2⟩
theorem ZF.h {n p k v : Int} {r h h2 : qH} (z : ZF n r h) (e : h2 = hset h p k v) (w : p < n) : ZF n r h2 := fun a b q => ⟨(z a b q).1, by rw [e, hset_nea _ _ _ (by omega)]; exact (z a b q).2⟩
end
