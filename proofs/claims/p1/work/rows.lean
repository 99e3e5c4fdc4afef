section
-- ===== PART A: goes FIRST, ahead of the names: the tables' words, and 'selects' of the private methods out of them =====
/-- a private method of a class that the tables say can be made, by its rows of tables_1 -/
def lw_okq (q : MethodName × Nat) : Prop := (q.1.cls ≠ "java/lang/invoke/MethodHandle" ∧ q.1.cls ≠ "java/lang/invoke/VarHandle") ∧ Cond.instantiable q.1.cls q.2 ∈ tables_1 ∧ Cond.privateMethod q.1 ∈ tables_1 ∧ Cond.instanceMethod q.1 ∈ tables_1
theorem lw_p0 : lw_okq (⟨"OddsInCourt$Net", "widen", "(I)V"⟩, 16) := ⟨⟨by decide +kernel, by decide +kernel⟩, List.mem_of_getElem? (i := 30) (by decide +kernel), List.mem_of_getElem? (i := 523) (by decide +kernel), List.mem_of_getElem? (i := 524) (by decide +kernel)⟩
theorem lw_p1 : lw_okq (⟨"OddsInCourt$Net", "numberIn", "(II)I"⟩, 16) := ⟨⟨by decide +kernel, by decide +kernel⟩, List.mem_of_getElem? (i := 30) (by decide +kernel), List.mem_of_getElem? (i := 527) (by decide +kernel), List.mem_of_getElem? (i := 528) (by decide +kernel)⟩
theorem lw_p2 : lw_okq (⟨"OddsInCourt$Net", "weighWith", "(IIII)I"⟩, 16) := ⟨⟨by decide +kernel, by decide +kernel⟩, List.mem_of_getElem? (i := 30) (by decide +kernel), List.mem_of_getElem? (i := 555) (by decide +kernel), List.mem_of_getElem? (i := 556) (by decide +kernel)⟩
theorem lw_p3 : lw_okq (⟨"OddsInCourt$Net", "leansOf", "(I)I"⟩, 16) := ⟨⟨by decide +kernel, by decide +kernel⟩, List.mem_of_getElem? (i := 30) (by decide +kernel), List.mem_of_getElem? (i := 663) (by decide +kernel), List.mem_of_getElem? (i := 664) (by decide +kernel)⟩
theorem lw_p4 : lw_okq (⟨"OddsInCourt$Net", "leanersOn", "(I)I"⟩, 16) := ⟨⟨by decide +kernel, by decide +kernel⟩, List.mem_of_getElem? (i := 30) (by decide +kernel), List.mem_of_getElem? (i := 667) (by decide +kernel), List.mem_of_getElem? (i := 668) (by decide +kernel)⟩
theorem lw_p5 : lw_okq (⟨"OddsInCourt$Text", "parseFirst", "(LOddsInCourt$Saying;)Z"⟩, 5) := ⟨⟨by decide +kernel, by decide +kernel⟩, List.mem_of_getElem? (i := 128) (by decide +kernel), List.mem_of_getElem? (i := 730) (by decide +kernel), List.mem_of_getElem? (i := 731) (by decide +kernel)⟩
theorem lw_p6 : lw_okq (⟨"OddsInCourt$Text", "parseTerm", "(LOddsInCourt$Saying;I)Z"⟩, 5) := ⟨⟨by decide +kernel, by decide +kernel⟩, List.mem_of_getElem? (i := 128) (by decide +kernel), List.mem_of_getElem? (i := 734) (by decide +kernel), List.mem_of_getElem? (i := 735) (by decide +kernel)⟩
theorem lw_p7 : lw_okq (⟨"OddsInCourt$Text", "look", "()C"⟩, 5) := ⟨⟨by decide +kernel, by decide +kernel⟩, List.mem_of_getElem? (i := 128) (by decide +kernel), List.mem_of_getElem? (i := 738) (by decide +kernel), List.mem_of_getElem? (i := 739) (by decide +kernel)⟩
theorem lw_p8 : lw_okq (⟨"OddsInCourt$Text", "parseRate", "(LOddsInCourt$Saying;I)Z"⟩, 5) := ⟨⟨by decide +kernel, by decide +kernel⟩, List.mem_of_getElem? (i := 128) (by decide +kernel), List.mem_of_getElem? (i := 745) (by decide +kernel), List.mem_of_getElem? (i := 746) (by decide +kernel)⟩
theorem lw_p9 : lw_okq (⟨"OddsInCourt$Text", "parseNumber", "()I"⟩, 5) := ⟨⟨by decide +kernel, by decide +kernel⟩, List.mem_of_getElem? (i := 128) (by decide +kernel), List.mem_of_getElem? (i := 749) (by decide +kernel), List.mem_of_getElem? (i := 750) (by decide +kernel)⟩
theorem lw_p10 : lw_okq (⟨"OddsInCourt$Text", "parseGiven", "(LOddsInCourt$Saying;I)Z"⟩, 5) := ⟨⟨by decide +kernel, by decide +kernel⟩, List.mem_of_getElem? (i := 128) (by decide +kernel), List.mem_of_getElem? (i := 753) (by decide +kernel), List.mem_of_getElem? (i := 754) (by decide +kernel)⟩
theorem lw_p11 : lw_okq (⟨"OddsInCourt$Text", "parseEvent", "(LOddsInCourt$Saying;I)Z"⟩, 5) := ⟨⟨by decide +kernel, by decide +kernel⟩, List.mem_of_getElem? (i := 128) (by decide +kernel), List.mem_of_getElem? (i := 757) (by decide +kernel), List.mem_of_getElem? (i := 758) (by decide +kernel)⟩
theorem lw_p12 : lw_okq (⟨"OddsInCourt$Text", "closeBrackets", "(I)I"⟩, 5) := ⟨⟨by decide +kernel, by decide +kernel⟩, List.mem_of_getElem? (i := 128) (by decide +kernel), List.mem_of_getElem? (i := 761) (by decide +kernel), List.mem_of_getElem? (i := 762) (by decide +kernel)⟩
theorem lw_p13 : lw_okq (⟨"OddsInCourt$Text", "parseSecond", "(LOddsInCourt$Saying;)Z"⟩, 5) := ⟨⟨by decide +kernel, by decide +kernel⟩, List.mem_of_getElem? (i := 128) (by decide +kernel), List.mem_of_getElem? (i := 769) (by decide +kernel), List.mem_of_getElem? (i := 770) (by decide +kernel)⟩
theorem lw_p14 : lw_okq (⟨"OddsInCourt", "judge", "(LOddsInCourt$Saying;I)I"⟩, 17) := ⟨⟨by decide +kernel, by decide +kernel⟩, List.mem_of_getElem? (i := 22) (by decide +kernel), List.mem_of_getElem? (i := 784) (by decide +kernel), List.mem_of_getElem? (i := 785) (by decide +kernel)⟩
theorem lw_p15 : lw_okq (⟨"OddsInCourt$Sets", "weighGiven", "(LOddsInCourt$Net;LOddsInCourt$Saying;I)I"⟩, 5) := ⟨⟨by decide +kernel, by decide +kernel⟩, List.mem_of_getElem? (i := 195) (by decide +kernel), List.mem_of_getElem? (i := 793) (by decide +kernel), List.mem_of_getElem? (i := 794) (by decide +kernel)⟩
def lw_privs_1 : List (MethodName × Nat) := [(⟨"OddsInCourt$Net", "widen", "(I)V"⟩, 16), (⟨"OddsInCourt$Net", "numberIn", "(II)I"⟩, 16), (⟨"OddsInCourt$Net", "weighWith", "(IIII)I"⟩, 16), (⟨"OddsInCourt$Net", "leansOf", "(I)I"⟩, 16), (⟨"OddsInCourt$Net", "leanersOn", "(I)I"⟩, 16), (⟨"OddsInCourt$Text", "parseFirst", "(LOddsInCourt$Saying;)Z"⟩, 5), (⟨"OddsInCourt$Text", "parseTerm", "(LOddsInCourt$Saying;I)Z"⟩, 5), (⟨"OddsInCourt$Text", "look", "()C"⟩, 5), (⟨"OddsInCourt$Text", "parseRate", "(LOddsInCourt$Saying;I)Z"⟩, 5), (⟨"OddsInCourt$Text", "parseNumber", "()I"⟩, 5), (⟨"OddsInCourt$Text", "parseGiven", "(LOddsInCourt$Saying;I)Z"⟩, 5), (⟨"OddsInCourt$Text", "parseEvent", "(LOddsInCourt$Saying;I)Z"⟩, 5), (⟨"OddsInCourt$Text", "closeBrackets", "(I)I"⟩, 5), (⟨"OddsInCourt$Text", "parseSecond", "(LOddsInCourt$Saying;)Z"⟩, 5), (⟨"OddsInCourt", "judge", "(LOddsInCourt$Saying;I)I"⟩, 17), (⟨"OddsInCourt$Sets", "weighGiven", "(LOddsInCourt$Net;LOddsInCourt$Saying;I)I"⟩, 5)]
theorem lw_r1 : ∀ q ∈ lw_privs_1, lw_okq q := List.forall_mem_cons.mpr ⟨lw_p0, List.forall_mem_cons.mpr ⟨lw_p1, List.forall_mem_cons.mpr ⟨lw_p2, List.forall_mem_cons.mpr ⟨lw_p3, List.forall_mem_cons.mpr ⟨lw_p4, List.forall_mem_cons.mpr ⟨lw_p5, List.forall_mem_cons.mpr ⟨lw_p6, List.forall_mem_cons.mpr ⟨lw_p7, List.forall_mem_cons.mpr ⟨lw_p8, List.forall_mem_cons.mpr ⟨lw_p9, List.forall_mem_cons.mpr ⟨lw_p10, List.forall_mem_cons.mpr ⟨lw_p11, List.forall_mem_cons.mpr ⟨lw_p12, List.forall_mem_cons.mpr ⟨lw_p13, List.forall_mem_cons.mpr ⟨lw_p14, List.forall_mem_cons.mpr ⟨lw_p15, fun _ h => absurd h List.not_mem_nil⟩⟩⟩⟩⟩⟩⟩⟩⟩⟩⟩⟩⟩⟩⟩⟩
theorem lw_p16 : lw_okq (⟨"OddsInCourt$Sets", "pushAll", "()V"⟩, 5) := ⟨⟨by decide +kernel, by decide +kernel⟩, List.mem_of_getElem? (i := 195) (by decide +kernel), List.mem_of_getElem? (i := 800) (by decide +kernel), List.mem_of_getElem? (i := 801) (by decide +kernel)⟩
theorem lw_p17 : lw_okq (⟨"OddsInCourt$Sets", "readAny", "(LOddsInCourt$Saying;I)V"⟩, 5) := ⟨⟨by decide +kernel, by decide +kernel⟩, List.mem_of_getElem? (i := 195) (by decide +kernel), List.mem_of_getElem? (i := 805) (by decide +kernel), List.mem_of_getElem? (i := 806) (by decide +kernel)⟩
theorem lw_p18 : lw_okq (⟨"OddsInCourt$Sets", "readAll", "(LOddsInCourt$Saying;I)V"⟩, 5) := ⟨⟨by decide +kernel, by decide +kernel⟩, List.mem_of_getElem? (i := 195) (by decide +kernel), List.mem_of_getElem? (i := 809) (by decide +kernel), List.mem_of_getElem? (i := 810) (by decide +kernel)⟩
theorem lw_p19 : lw_okq (⟨"OddsInCourt$Sets", "readThing", "(LOddsInCourt$Saying;I)V"⟩, 5) := ⟨⟨by decide +kernel, by decide +kernel⟩, List.mem_of_getElem? (i := 195) (by decide +kernel), List.mem_of_getElem? (i := 813) (by decide +kernel), List.mem_of_getElem? (i := 814) (by decide +kernel)⟩
theorem lw_p20 : lw_okq (⟨"OddsInCourt$Sets", "pushNode", "(I)V"⟩, 5) := ⟨⟨by decide +kernel, by decide +kernel⟩, List.mem_of_getElem? (i := 195) (by decide +kernel), List.mem_of_getElem? (i := 821) (by decide +kernel), List.mem_of_getElem? (i := 822) (by decide +kernel)⟩
theorem lw_p21 : lw_okq (⟨"OddsInCourt$Sets", "turn", "()V"⟩, 5) := ⟨⟨by decide +kernel, by decide +kernel⟩, List.mem_of_getElem? (i := 195) (by decide +kernel), List.mem_of_getElem? (i := 827) (by decide +kernel), List.mem_of_getElem? (i := 828) (by decide +kernel)⟩
theorem lw_p22 : lw_okq (⟨"OddsInCourt$Sets", "meet", "()V"⟩, 5) := ⟨⟨by decide +kernel, by decide +kernel⟩, List.mem_of_getElem? (i := 195) (by decide +kernel), List.mem_of_getElem? (i := 831) (by decide +kernel), List.mem_of_getElem? (i := 832) (by decide +kernel)⟩
theorem lw_p23 : lw_okq (⟨"OddsInCourt$Sets", "widen", "()V"⟩, 5) := ⟨⟨by decide +kernel, by decide +kernel⟩, List.mem_of_getElem? (i := 195) (by decide +kernel), List.mem_of_getElem? (i := 835) (by decide +kernel), List.mem_of_getElem? (i := 836) (by decide +kernel)⟩
theorem lw_p24 : lw_okq (⟨"OddsInCourt$Sets", "weighBoth", "(LOddsInCourt$Net;II)I"⟩, 5) := ⟨⟨by decide +kernel, by decide +kernel⟩, List.mem_of_getElem? (i := 195) (by decide +kernel), List.mem_of_getElem? (i := 839) (by decide +kernel), List.mem_of_getElem? (i := 840) (by decide +kernel)⟩
theorem lw_p25 : lw_okq (⟨"OddsInCourt$Sets", "weighEvent", "(LOddsInCourt$Net;LOddsInCourt$Saying;I)I"⟩, 5) := ⟨⟨by decide +kernel, by decide +kernel⟩, List.mem_of_getElem? (i := 195) (by decide +kernel), List.mem_of_getElem? (i := 843) (by decide +kernel), List.mem_of_getElem? (i := 844) (by decide +kernel)⟩
theorem lw_p26 : lw_okq (⟨"OddsInCourt$Sets", "findProduct", "(LOddsInCourt$Net;LOddsInCourt$Saying;IILOddsInCourt$Fraction;)I"⟩, 5) := ⟨⟨by decide +kernel, by decide +kernel⟩, List.mem_of_getElem? (i := 195) (by decide +kernel), List.mem_of_getElem? (i := 857) (by decide +kernel), List.mem_of_getElem? (i := 858) (by decide +kernel)⟩
theorem lw_p27 : lw_okq (⟨"OddsInCourt$Spans", "hold", "(LOddsInCourt$Net;)V"⟩, 6) := ⟨⟨by decide +kernel, by decide +kernel⟩, List.mem_of_getElem? (i := 242) (by decide +kernel), List.mem_of_getElem? (i := 903) (by decide +kernel), List.mem_of_getElem? (i := 904) (by decide +kernel)⟩
theorem lw_p28 : lw_okq (⟨"OddsInCourt$Spans", "moveTo", "(LOddsInCourt$Net;IZ)V"⟩, 6) := ⟨⟨by decide +kernel, by decide +kernel⟩, List.mem_of_getElem? (i := 242) (by decide +kernel), List.mem_of_getElem? (i := 911) (by decide +kernel), List.mem_of_getElem? (i := 912) (by decide +kernel)⟩
theorem lw_p29 : lw_okq (⟨"OddsInCourt$Spans", "giveBack", "(LOddsInCourt$Net;)V"⟩, 6) := ⟨⟨by decide +kernel, by decide +kernel⟩, List.mem_of_getElem? (i := 242) (by decide +kernel), List.mem_of_getElem? (i := 920) (by decide +kernel), List.mem_of_getElem? (i := 921) (by decide +kernel)⟩
theorem lw_p30 : lw_okq (⟨"OddsInCourt", "hasHead", "(I)Z"⟩, 17) := ⟨⟨by decide +kernel, by decide +kernel⟩, List.mem_of_getElem? (i := 22) (by decide +kernel), List.mem_of_getElem? (i := 940) (by decide +kernel), List.mem_of_getElem? (i := 941) (by decide +kernel)⟩
theorem lw_p31 : lw_okq (⟨"OddsInCourt$Hearing", "addThose", "(II)V"⟩, 8) := ⟨⟨by decide +kernel, by decide +kernel⟩, List.mem_of_getElem? (i := 268) (by decide +kernel), List.mem_of_getElem? (i := 949) (by decide +kernel), List.mem_of_getElem? (i := 950) (by decide +kernel)⟩
def lw_privs_2 : List (MethodName × Nat) := [(⟨"OddsInCourt$Sets", "pushAll", "()V"⟩, 5), (⟨"OddsInCourt$Sets", "readAny", "(LOddsInCourt$Saying;I)V"⟩, 5), (⟨"OddsInCourt$Sets", "readAll", "(LOddsInCourt$Saying;I)V"⟩, 5), (⟨"OddsInCourt$Sets", "readThing", "(LOddsInCourt$Saying;I)V"⟩, 5), (⟨"OddsInCourt$Sets", "pushNode", "(I)V"⟩, 5), (⟨"OddsInCourt$Sets", "turn", "()V"⟩, 5), (⟨"OddsInCourt$Sets", "meet", "()V"⟩, 5), (⟨"OddsInCourt$Sets", "widen", "()V"⟩, 5), (⟨"OddsInCourt$Sets", "weighBoth", "(LOddsInCourt$Net;II)I"⟩, 5), (⟨"OddsInCourt$Sets", "weighEvent", "(LOddsInCourt$Net;LOddsInCourt$Saying;I)I"⟩, 5), (⟨"OddsInCourt$Sets", "findProduct", "(LOddsInCourt$Net;LOddsInCourt$Saying;IILOddsInCourt$Fraction;)I"⟩, 5), (⟨"OddsInCourt$Spans", "hold", "(LOddsInCourt$Net;)V"⟩, 6), (⟨"OddsInCourt$Spans", "moveTo", "(LOddsInCourt$Net;IZ)V"⟩, 6), (⟨"OddsInCourt$Spans", "giveBack", "(LOddsInCourt$Net;)V"⟩, 6), (⟨"OddsInCourt", "hasHead", "(I)Z"⟩, 17), (⟨"OddsInCourt$Hearing", "addThose", "(II)V"⟩, 8)]
theorem lw_r2 : ∀ q ∈ lw_privs_2, lw_okq q := List.forall_mem_cons.mpr ⟨lw_p16, List.forall_mem_cons.mpr ⟨lw_p17, List.forall_mem_cons.mpr ⟨lw_p18, List.forall_mem_cons.mpr ⟨lw_p19, List.forall_mem_cons.mpr ⟨lw_p20, List.forall_mem_cons.mpr ⟨lw_p21, List.forall_mem_cons.mpr ⟨lw_p22, List.forall_mem_cons.mpr ⟨lw_p23, List.forall_mem_cons.mpr ⟨lw_p24, List.forall_mem_cons.mpr ⟨lw_p25, List.forall_mem_cons.mpr ⟨lw_p26, List.forall_mem_cons.mpr ⟨lw_p27, List.forall_mem_cons.mpr ⟨lw_p28, List.forall_mem_cons.mpr ⟨lw_p29, List.forall_mem_cons.mpr ⟨lw_p30, List.forall_mem_cons.mpr ⟨lw_p31, fun _ h => absurd h List.not_mem_nil⟩⟩⟩⟩⟩⟩⟩⟩⟩⟩⟩⟩⟩⟩⟩⟩
theorem lw_p32 : lw_okq (⟨"OddsInCourt$Hearing", "begin", "(I)Z"⟩, 8) := ⟨⟨by decide +kernel, by decide +kernel⟩, List.mem_of_getElem? (i := 268) (by decide +kernel), List.mem_of_getElem? (i := 957) (by decide +kernel), List.mem_of_getElem? (i := 958) (by decide +kernel)⟩
theorem lw_p33 : lw_okq (⟨"OddsInCourt$Hearing", "listenTo", "(IIII)I"⟩, 8) := ⟨⟨by decide +kernel, by decide +kernel⟩, List.mem_of_getElem? (i := 268) (by decide +kernel), List.mem_of_getElem? (i := 963) (by decide +kernel), List.mem_of_getElem? (i := 964) (by decide +kernel)⟩
theorem lw_p34 : lw_okq (⟨"OddsInCourt$Hearing", "turnAbout", "()I"⟩, 8) := ⟨⟨by decide +kernel, by decide +kernel⟩, List.mem_of_getElem? (i := 268) (by decide +kernel), List.mem_of_getElem? (i := 968) (by decide +kernel), List.mem_of_getElem? (i := 969) (by decide +kernel)⟩
theorem lw_p35 : lw_okq (⟨"OddsInCourt$Hearing", "takeIn", "()I"⟩, 8) := ⟨⟨by decide +kernel, by decide +kernel⟩, List.mem_of_getElem? (i := 268) (by decide +kernel), List.mem_of_getElem? (i := 972) (by decide +kernel), List.mem_of_getElem? (i := 973) (by decide +kernel)⟩
theorem lw_p36 : lw_okq (⟨"OddsInCourt$Hearing", "swap", "(II)V"⟩, 8) := ⟨⟨by decide +kernel, by decide +kernel⟩, List.mem_of_getElem? (i := 268) (by decide +kernel), List.mem_of_getElem? (i := 998) (by decide +kernel), List.mem_of_getElem? (i := 999) (by decide +kernel)⟩
theorem lw_p37 : lw_okq (⟨"OddsInCourt", "testAgain", "(I)I"⟩, 17) := ⟨⟨by decide +kernel, by decide +kernel⟩, List.mem_of_getElem? (i := 22) (by decide +kernel), List.mem_of_getElem? (i := 1029) (by decide +kernel), List.mem_of_getElem? (i := 1030) (by decide +kernel)⟩
theorem lw_p38 : lw_okq (⟨"java/lang/Throwable", "fillInStackTrace", "(I)Ljava/lang/Throwable;"⟩, 6) := ⟨⟨by decide +kernel, by decide +kernel⟩, List.mem_of_getElem? (i := 1160) (by decide +kernel), List.mem_of_getElem? (i := 1158) (by decide +kernel), List.mem_of_getElem? (i := 1159) (by decide +kernel)⟩
theorem lw_p39 : lw_okq (⟨"OddsInCourtModel", "isSet", "(I)Z"⟩, 71) := ⟨⟨by decide +kernel, by decide +kernel⟩, List.mem_of_getElem? (i := 1209) (by decide +kernel), List.mem_of_getElem? (i := 1207) (by decide +kernel), List.mem_of_getElem? (i := 1208) (by decide +kernel)⟩
theorem lw_p40 : lw_okq (⟨"OddsInCourtModel", "all", "()I"⟩, 71) := ⟨⟨by decide +kernel, by decide +kernel⟩, List.mem_of_getElem? (i := 1209) (by decide +kernel), List.mem_of_getElem? (i := 1212) (by decide +kernel), List.mem_of_getElem? (i := 1213) (by decide +kernel)⟩
theorem lw_p41 : lw_okq (⟨"OddsInCourtModel", "isNode", "(I)Z"⟩, 71) := ⟨⟨by decide +kernel, by decide +kernel⟩, List.mem_of_getElem? (i := 1209) (by decide +kernel), List.mem_of_getElem? (i := 1226) (by decide +kernel), List.mem_of_getElem? (i := 1227) (by decide +kernel)⟩
theorem lw_p42 : lw_okq (⟨"OddsInCourtModel", "cases", "(I)I"⟩, 71) := ⟨⟨by decide +kernel, by decide +kernel⟩, List.mem_of_getElem? (i := 1209) (by decide +kernel), List.mem_of_getElem? (i := 1230) (by decide +kernel), List.mem_of_getElem? (i := 1231) (by decide +kernel)⟩
theorem lw_p43 : lw_okq (⟨"OddsInCourtModel", "forgets", "(I)V"⟩, 71) := ⟨⟨by decide +kernel, by decide +kernel⟩, List.mem_of_getElem? (i := 1209) (by decide +kernel), List.mem_of_getElem? (i := 1243) (by decide +kernel), List.mem_of_getElem? (i := 1244) (by decide +kernel)⟩
theorem lw_p44 : lw_okq (⟨"OddsInCourtModel", "weightOf", "(I)J"⟩, 71) := ⟨⟨by decide +kernel, by decide +kernel⟩, List.mem_of_getElem? (i := 1209) (by decide +kernel), List.mem_of_getElem? (i := 1251) (by decide +kernel), List.mem_of_getElem? (i := 1252) (by decide +kernel)⟩
theorem lw_p45 : lw_okq (⟨"OddsInCourtModel", "weighsUp", "()V"⟩, 71) := ⟨⟨by decide +kernel, by decide +kernel⟩, List.mem_of_getElem? (i := 1209) (by decide +kernel), List.mem_of_getElem? (i := 1265) (by decide +kernel), List.mem_of_getElem? (i := 1266) (by decide +kernel)⟩
theorem lw_p46 : lw_okq (⟨"OddsInCourtModel", "now", "()J"⟩, 71) := ⟨⟨by decide +kernel, by decide +kernel⟩, List.mem_of_getElem? (i := 1209) (by decide +kernel), List.mem_of_getElem? (i := 1269) (by decide +kernel), List.mem_of_getElem? (i := 1270) (by decide +kernel)⟩
theorem lw_p47 : lw_okq (⟨"OddsInCourtModel", "nowWith", "(IZI)J"⟩, 71) := ⟨⟨by decide +kernel, by decide +kernel⟩, List.mem_of_getElem? (i := 1209) (by decide +kernel), List.mem_of_getElem? (i := 1273) (by decide +kernel), List.mem_of_getElem? (i := 1274) (by decide +kernel)⟩
def lw_privs_3 : List (MethodName × Nat) := [(⟨"OddsInCourt$Hearing", "begin", "(I)Z"⟩, 8), (⟨"OddsInCourt$Hearing", "listenTo", "(IIII)I"⟩, 8), (⟨"OddsInCourt$Hearing", "turnAbout", "()I"⟩, 8), (⟨"OddsInCourt$Hearing", "takeIn", "()I"⟩, 8), (⟨"OddsInCourt$Hearing", "swap", "(II)V"⟩, 8), (⟨"OddsInCourt", "testAgain", "(I)I"⟩, 17), (⟨"java/lang/Throwable", "fillInStackTrace", "(I)Ljava/lang/Throwable;"⟩, 6), (⟨"OddsInCourtModel", "isSet", "(I)Z"⟩, 71), (⟨"OddsInCourtModel", "all", "()I"⟩, 71), (⟨"OddsInCourtModel", "isNode", "(I)Z"⟩, 71), (⟨"OddsInCourtModel", "cases", "(I)I"⟩, 71), (⟨"OddsInCourtModel", "forgets", "(I)V"⟩, 71), (⟨"OddsInCourtModel", "weightOf", "(I)J"⟩, 71), (⟨"OddsInCourtModel", "weighsUp", "()V"⟩, 71), (⟨"OddsInCourtModel", "now", "()J"⟩, 71), (⟨"OddsInCourtModel", "nowWith", "(IZI)J"⟩, 71)]
theorem lw_r3 : ∀ q ∈ lw_privs_3, lw_okq q := List.forall_mem_cons.mpr ⟨lw_p32, List.forall_mem_cons.mpr ⟨lw_p33, List.forall_mem_cons.mpr ⟨lw_p34, List.forall_mem_cons.mpr ⟨lw_p35, List.forall_mem_cons.mpr ⟨lw_p36, List.forall_mem_cons.mpr ⟨lw_p37, List.forall_mem_cons.mpr ⟨lw_p38, List.forall_mem_cons.mpr ⟨lw_p39, List.forall_mem_cons.mpr ⟨lw_p40, List.forall_mem_cons.mpr ⟨lw_p41, List.forall_mem_cons.mpr ⟨lw_p42, List.forall_mem_cons.mpr ⟨lw_p43, List.forall_mem_cons.mpr ⟨lw_p44, List.forall_mem_cons.mpr ⟨lw_p45, List.forall_mem_cons.mpr ⟨lw_p46, List.forall_mem_cons.mpr ⟨lw_p47, fun _ h => absurd h List.not_mem_nil⟩⟩⟩⟩⟩⟩⟩⟩⟩⟩⟩⟩⟩⟩⟩⟩
theorem lw_p48 : lw_okq (⟨"OddsInCourtModel", "seenSo", "(I)I"⟩, 71) := ⟨⟨by decide +kernel, by decide +kernel⟩, List.mem_of_getElem? (i := 1209) (by decide +kernel), List.mem_of_getElem? (i := 1277) (by decide +kernel), List.mem_of_getElem? (i := 1278) (by decide +kernel)⟩
theorem lw_p49 : lw_okq (⟨"OddsInCourtModel", "seenNot", "(I)I"⟩, 71) := ⟨⟨by decide +kernel, by decide +kernel⟩, List.mem_of_getElem? (i := 1209) (by decide +kernel), List.mem_of_getElem? (i := 1281) (by decide +kernel), List.mem_of_getElem? (i := 1282) (by decide +kernel)⟩
theorem lw_p50 : lw_okq (⟨"OddsInCourtModel", "weighs", "(II)J"⟩, 71) := ⟨⟨by decide +kernel, by decide +kernel⟩, List.mem_of_getElem? (i := 1209) (by decide +kernel), List.mem_of_getElem? (i := 1285) (by decide +kernel), List.mem_of_getElem? (i := 1286) (by decide +kernel)⟩
theorem lw_p51 : lw_okq (⟨"OddsInCourtModel", "lowest", "(JJ)V"⟩, 71) := ⟨⟨by decide +kernel, by decide +kernel⟩, List.mem_of_getElem? (i := 1209) (by decide +kernel), List.mem_of_getElem? (i := 1289) (by decide +kernel), List.mem_of_getElem? (i := 1290) (by decide +kernel)⟩
theorem lw_p52 : lw_okq (⟨"OddsInCourtModel", "tellsFraction", "()V"⟩, 71) := ⟨⟨by decide +kernel, by decide +kernel⟩, List.mem_of_getElem? (i := 1209) (by decide +kernel), List.mem_of_getElem? (i := 1296) (by decide +kernel), List.mem_of_getElem? (i := 1297) (by decide +kernel)⟩
theorem lw_p53 : lw_okq (⟨"OddsInCourtModel", "enters", "(J)V"⟩, 71) := ⟨⟨by decide +kernel, by decide +kernel⟩, List.mem_of_getElem? (i := 1209) (by decide +kernel), List.mem_of_getElem? (i := 1300) (by decide +kernel), List.mem_of_getElem? (i := 1301) (by decide +kernel)⟩
theorem lw_p54 : lw_okq (⟨"OddsInCourtModel", "moved", "(II)V"⟩, 71) := ⟨⟨by decide +kernel, by decide +kernel⟩, List.mem_of_getElem? (i := 1209) (by decide +kernel), List.mem_of_getElem? (i := 1316) (by decide +kernel), List.mem_of_getElem? (i := 1317) (by decide +kernel)⟩
theorem lw_p55 : lw_okq (⟨"OddsInCourtModel", "compares", "(JJJJ)I"⟩, 71) := ⟨⟨by decide +kernel, by decide +kernel⟩, List.mem_of_getElem? (i := 1209) (by decide +kernel), List.mem_of_getElem? (i := 1325) (by decide +kernel), List.mem_of_getElem? (i := 1326) (by decide +kernel)⟩
theorem lw_p56 : lw_okq (⟨"OddsInCourtModel", "worthOf", "(II)J"⟩, 71) := ⟨⟨by decide +kernel, by decide +kernel⟩, List.mem_of_getElem? (i := 1209) (by decide +kernel), List.mem_of_getElem? (i := 1333) (by decide +kernel), List.mem_of_getElem? (i := 1334) (by decide +kernel)⟩
theorem lw_p57 : lw_okq (⟨"OddsInCourtModel", "areTwo", "(III)Z"⟩, 71) := ⟨⟨by decide +kernel, by decide +kernel⟩, List.mem_of_getElem? (i := 1209) (by decide +kernel), List.mem_of_getElem? (i := 1350) (by decide +kernel), List.mem_of_getElem? (i := 1351) (by decide +kernel)⟩
theorem lw_p58 : lw_okq (⟨"OddsInCourtModel", "goesOn", "(IIII)Z"⟩, 71) := ⟨⟨by decide +kernel, by decide +kernel⟩, List.mem_of_getElem? (i := 1209) (by decide +kernel), List.mem_of_getElem? (i := 1354) (by decide +kernel), List.mem_of_getElem? (i := 1355) (by decide +kernel)⟩
theorem lw_p59 : lw_okq (⟨"OddsInCourtModel", "leansOn", "(II)Z"⟩, 71) := ⟨⟨by decide +kernel, by decide +kernel⟩, List.mem_of_getElem? (i := 1209) (by decide +kernel), List.mem_of_getElem? (i := 1358) (by decide +kernel), List.mem_of_getElem? (i := 1359) (by decide +kernel)⟩
theorem lw_p60 : lw_okq (⟨"OddsInCourtModel", "isGivenBelow", "(II)Z"⟩, 71) := ⟨⟨by decide +kernel, by decide +kernel⟩, List.mem_of_getElem? (i := 1209) (by decide +kernel), List.mem_of_getElem? (i := 1362) (by decide +kernel), List.mem_of_getElem? (i := 1363) (by decide +kernel)⟩
theorem lw_p61 : lw_okq (⟨"OddsInCourtModel", "times", "(JJ)V"⟩, 71) := ⟨⟨by decide +kernel, by decide +kernel⟩, List.mem_of_getElem? (i := 1209) (by decide +kernel), List.mem_of_getElem? (i := 1374) (by decide +kernel), List.mem_of_getElem? (i := 1375) (by decide +kernel)⟩
theorem lw_p62 : lw_okq (⟨"OddsInCourtModel", "readsSaying", "()Z"⟩, 71) := ⟨⟨by decide +kernel, by decide +kernel⟩, List.mem_of_getElem? (i := 1209) (by decide +kernel), List.mem_of_getElem? (i := 1403) (by decide +kernel), List.mem_of_getElem? (i := 1404) (by decide +kernel)⟩
theorem lw_p63 : lw_okq (⟨"OddsInCourtModel", "readsTerm", "(I)Z"⟩, 71) := ⟨⟨by decide +kernel, by decide +kernel⟩, List.mem_of_getElem? (i := 1209) (by decide +kernel), List.mem_of_getElem? (i := 1407) (by decide +kernel), List.mem_of_getElem? (i := 1408) (by decide +kernel)⟩
def lw_privs_4 : List (MethodName × Nat) := [(⟨"OddsInCourtModel", "seenSo", "(I)I"⟩, 71), (⟨"OddsInCourtModel", "seenNot", "(I)I"⟩, 71), (⟨"OddsInCourtModel", "weighs", "(II)J"⟩, 71), (⟨"OddsInCourtModel", "lowest", "(JJ)V"⟩, 71), (⟨"OddsInCourtModel", "tellsFraction", "()V"⟩, 71), (⟨"OddsInCourtModel", "enters", "(J)V"⟩, 71), (⟨"OddsInCourtModel", "moved", "(II)V"⟩, 71), (⟨"OddsInCourtModel", "compares", "(JJJJ)I"⟩, 71), (⟨"OddsInCourtModel", "worthOf", "(II)J"⟩, 71), (⟨"OddsInCourtModel", "areTwo", "(III)Z"⟩, 71), (⟨"OddsInCourtModel", "goesOn", "(IIII)Z"⟩, 71), (⟨"OddsInCourtModel", "leansOn", "(II)Z"⟩, 71), (⟨"OddsInCourtModel", "isGivenBelow", "(II)Z"⟩, 71), (⟨"OddsInCourtModel", "times", "(JJ)V"⟩, 71), (⟨"OddsInCourtModel", "readsSaying", "()Z"⟩, 71), (⟨"OddsInCourtModel", "readsTerm", "(I)Z"⟩, 71)]
theorem lw_r4 : ∀ q ∈ lw_privs_4, lw_okq q := List.forall_mem_cons.mpr ⟨lw_p48, List.forall_mem_cons.mpr ⟨lw_p49, List.forall_mem_cons.mpr ⟨lw_p50, List.forall_mem_cons.mpr ⟨lw_p51, List.forall_mem_cons.mpr ⟨lw_p52, List.forall_mem_cons.mpr ⟨lw_p53, List.forall_mem_cons.mpr ⟨lw_p54, List.forall_mem_cons.mpr ⟨lw_p55, List.forall_mem_cons.mpr ⟨lw_p56, List.forall_mem_cons.mpr ⟨lw_p57, List.forall_mem_cons.mpr ⟨lw_p58, List.forall_mem_cons.mpr ⟨lw_p59, List.forall_mem_cons.mpr ⟨lw_p60, List.forall_mem_cons.mpr ⟨lw_p61, List.forall_mem_cons.mpr ⟨lw_p62, List.forall_mem_cons.mpr ⟨lw_p63, fun _ h => absurd h List.not_mem_nil⟩⟩⟩⟩⟩⟩⟩⟩⟩⟩⟩⟩⟩⟩⟩⟩
theorem lw_p64 : lw_okq (⟨"OddsInCourtModel", "isDigit", "()Z"⟩, 71) := ⟨⟨by decide +kernel, by decide +kernel⟩, List.mem_of_getElem? (i := 1209) (by decide +kernel), List.mem_of_getElem? (i := 1411) (by decide +kernel), List.mem_of_getElem? (i := 1412) (by decide +kernel)⟩
theorem lw_p65 : lw_okq (⟨"OddsInCourtModel", "digits", "(Z)J"⟩, 71) := ⟨⟨by decide +kernel, by decide +kernel⟩, List.mem_of_getElem? (i := 1209) (by decide +kernel), List.mem_of_getElem? (i := 1417) (by decide +kernel), List.mem_of_getElem? (i := 1418) (by decide +kernel)⟩
theorem lw_p66 : lw_okq (⟨"OddsInCourtModel", "comes", "(C)Z"⟩, 71) := ⟨⟨by decide +kernel, by decide +kernel⟩, List.mem_of_getElem? (i := 1209) (by decide +kernel), List.mem_of_getElem? (i := 1422) (by decide +kernel), List.mem_of_getElem? (i := 1423) (by decide +kernel)⟩
theorem lw_p67 : lw_okq (⟨"OddsInCourtModel", "isAt", "(C)Z"⟩, 71) := ⟨⟨by decide +kernel, by decide +kernel⟩, List.mem_of_getElem? (i := 1209) (by decide +kernel), List.mem_of_getElem? (i := 1426) (by decide +kernel), List.mem_of_getElem? (i := 1427) (by decide +kernel)⟩
theorem lw_p68 : lw_okq (⟨"OddsInCourtModel", "notes", "(II)Z"⟩, 71) := ⟨⟨by decide +kernel, by decide +kernel⟩, List.mem_of_getElem? (i := 1209) (by decide +kernel), List.mem_of_getElem? (i := 1430) (by decide +kernel), List.mem_of_getElem? (i := 1431) (by decide +kernel)⟩
theorem lw_p69 : lw_okq (⟨"OddsInCourtModel", "readsEvent", "()Z"⟩, 71) := ⟨⟨by decide +kernel, by decide +kernel⟩, List.mem_of_getElem? (i := 1209) (by decide +kernel), List.mem_of_getElem? (i := 1434) (by decide +kernel), List.mem_of_getElem? (i := 1435) (by decide +kernel)⟩
theorem lw_p70 : lw_okq (⟨"OddsInCourtModel", "readsEvery", "()Z"⟩, 71) := ⟨⟨by decide +kernel, by decide +kernel⟩, List.mem_of_getElem? (i := 1209) (by decide +kernel), List.mem_of_getElem? (i := 1438) (by decide +kernel), List.mem_of_getElem? (i := 1439) (by decide +kernel)⟩
theorem lw_p71 : lw_okq (⟨"OddsInCourtModel", "readsThing", "()Z"⟩, 71) := ⟨⟨by decide +kernel, by decide +kernel⟩, List.mem_of_getElem? (i := 1209) (by decide +kernel), List.mem_of_getElem? (i := 1442) (by decide +kernel), List.mem_of_getElem? (i := 1443) (by decide +kernel)⟩
theorem lw_p72 : lw_okq (⟨"OddsInCourtModel", "isLetter", "()Z"⟩, 71) := ⟨⟨by decide +kernel, by decide +kernel⟩, List.mem_of_getElem? (i := 1209) (by decide +kernel), List.mem_of_getElem? (i := 1446) (by decide +kernel), List.mem_of_getElem? (i := 1447) (by decide +kernel)⟩
theorem lw_p73 : lw_okq (⟨"OddsInCourtModel", "isSaying", "(I)Z"⟩, 71) := ⟨⟨by decide +kernel, by decide +kernel⟩, List.mem_of_getElem? (i := 1209) (by decide +kernel), List.mem_of_getElem? (i := 1455) (by decide +kernel), List.mem_of_getElem? (i := 1456) (by decide +kernel)⟩
theorem lw_p74 : lw_okq (⟨"OddsInCourtModel", "togetherBy", "(I)I"⟩, 71) := ⟨⟨by decide +kernel, by decide +kernel⟩, List.mem_of_getElem? (i := 1209) (by decide +kernel), List.mem_of_getElem? (i := 1459) (by decide +kernel), List.mem_of_getElem? (i := 1460) (by decide +kernel)⟩
theorem lw_p75 : lw_okq (⟨"OddsInCourtModel", "weightOfBoth", "(IIIII)J"⟩, 71) := ⟨⟨by decide +kernel, by decide +kernel⟩, List.mem_of_getElem? (i := 1209) (by decide +kernel), List.mem_of_getElem? (i := 1463) (by decide +kernel), List.mem_of_getElem? (i := 1464) (by decide +kernel)⟩
theorem lw_p76 : lw_okq (⟨"OddsInCourtModel", "isOf", "(IIII)Z"⟩, 71) := ⟨⟨by decide +kernel, by decide +kernel⟩, List.mem_of_getElem? (i := 1209) (by decide +kernel), List.mem_of_getElem? (i := 1467) (by decide +kernel), List.mem_of_getElem? (i := 1468) (by decide +kernel)⟩
theorem lw_p77 : lw_okq (⟨"OddsInCourtModel", "eventOf", "(I)Z"⟩, 71) := ⟨⟨by decide +kernel, by decide +kernel⟩, List.mem_of_getElem? (i := 1209) (by decide +kernel), List.mem_of_getElem? (i := 1471) (by decide +kernel), List.mem_of_getElem? (i := 1472) (by decide +kernel)⟩
theorem lw_p78 : lw_okq (⟨"OddsInCourtModel", "everyOf", "(I)Z"⟩, 71) := ⟨⟨by decide +kernel, by decide +kernel⟩, List.mem_of_getElem? (i := 1209) (by decide +kernel), List.mem_of_getElem? (i := 1475) (by decide +kernel), List.mem_of_getElem? (i := 1476) (by decide +kernel)⟩
theorem lw_p79 : lw_okq (⟨"OddsInCourtModel", "thingOf", "(I)Z"⟩, 71) := ⟨⟨by decide +kernel, by decide +kernel⟩, List.mem_of_getElem? (i := 1209) (by decide +kernel), List.mem_of_getElem? (i := 1479) (by decide +kernel), List.mem_of_getElem? (i := 1480) (by decide +kernel)⟩
def lw_privs_5 : List (MethodName × Nat) := [(⟨"OddsInCourtModel", "isDigit", "()Z"⟩, 71), (⟨"OddsInCourtModel", "digits", "(Z)J"⟩, 71), (⟨"OddsInCourtModel", "comes", "(C)Z"⟩, 71), (⟨"OddsInCourtModel", "isAt", "(C)Z"⟩, 71), (⟨"OddsInCourtModel", "notes", "(II)Z"⟩, 71), (⟨"OddsInCourtModel", "readsEvent", "()Z"⟩, 71), (⟨"OddsInCourtModel", "readsEvery", "()Z"⟩, 71), (⟨"OddsInCourtModel", "readsThing", "()Z"⟩, 71), (⟨"OddsInCourtModel", "isLetter", "()Z"⟩, 71), (⟨"OddsInCourtModel", "isSaying", "(I)Z"⟩, 71), (⟨"OddsInCourtModel", "togetherBy", "(I)I"⟩, 71), (⟨"OddsInCourtModel", "weightOfBoth", "(IIIII)J"⟩, 71), (⟨"OddsInCourtModel", "isOf", "(IIII)Z"⟩, 71), (⟨"OddsInCourtModel", "eventOf", "(I)Z"⟩, 71), (⟨"OddsInCourtModel", "everyOf", "(I)Z"⟩, 71), (⟨"OddsInCourtModel", "thingOf", "(I)Z"⟩, 71)]
theorem lw_r5 : ∀ q ∈ lw_privs_5, lw_okq q := List.forall_mem_cons.mpr ⟨lw_p64, List.forall_mem_cons.mpr ⟨lw_p65, List.forall_mem_cons.mpr ⟨lw_p66, List.forall_mem_cons.mpr ⟨lw_p67, List.forall_mem_cons.mpr ⟨lw_p68, List.forall_mem_cons.mpr ⟨lw_p69, List.forall_mem_cons.mpr ⟨lw_p70, List.forall_mem_cons.mpr ⟨lw_p71, List.forall_mem_cons.mpr ⟨lw_p72, List.forall_mem_cons.mpr ⟨lw_p73, List.forall_mem_cons.mpr ⟨lw_p74, List.forall_mem_cons.mpr ⟨lw_p75, List.forall_mem_cons.mpr ⟨lw_p76, List.forall_mem_cons.mpr ⟨lw_p77, List.forall_mem_cons.mpr ⟨lw_p78, List.forall_mem_cons.mpr ⟨lw_p79, fun _ h => absurd h List.not_mem_nil⟩⟩⟩⟩⟩⟩⟩⟩⟩⟩⟩⟩⟩⟩⟩⟩
theorem lw_p80 : lw_okq (⟨"OddsInCourtModel", "soBy", "(II)I"⟩, 71) := ⟨⟨by decide +kernel, by decide +kernel⟩, List.mem_of_getElem? (i := 1209) (by decide +kernel), List.mem_of_getElem? (i := 1483) (by decide +kernel), List.mem_of_getElem? (i := 1484) (by decide +kernel)⟩
theorem lw_p81 : lw_okq (⟨"OddsInCourtModel", "termOf", "(III)I"⟩, 71) := ⟨⟨by decide +kernel, by decide +kernel⟩, List.mem_of_getElem? (i := 1209) (by decide +kernel), List.mem_of_getElem? (i := 1487) (by decide +kernel), List.mem_of_getElem? (i := 1488) (by decide +kernel)⟩
theorem lw_p82 : lw_okq (⟨"OddsInCourtModel", "isJoined", "(III)Z"⟩, 71) := ⟨⟨by decide +kernel, by decide +kernel⟩, List.mem_of_getElem? (i := 1209) (by decide +kernel), List.mem_of_getElem? (i := 1491) (by decide +kernel), List.mem_of_getElem? (i := 1492) (by decide +kernel)⟩
theorem lw_p83 : lw_okq (⟨"OddsInCourtModel", "alone", "(IIIII)I"⟩, 71) := ⟨⟨by decide +kernel, by decide +kernel⟩, List.mem_of_getElem? (i := 1209) (by decide +kernel), List.mem_of_getElem? (i := 1495) (by decide +kernel), List.mem_of_getElem? (i := 1496) (by decide +kernel)⟩
theorem lw_p84 : lw_okq (⟨"OddsInCourtModel", "thingEnd", "(III)I"⟩, 71) := ⟨⟨by decide +kernel, by decide +kernel⟩, List.mem_of_getElem? (i := 1209) (by decide +kernel), List.mem_of_getElem? (i := 1499) (by decide +kernel), List.mem_of_getElem? (i := 1500) (by decide +kernel)⟩
theorem lw_p85 : lw_okq (⟨"OddsInCourtModel", "remembers", "()V"⟩, 71) := ⟨⟨by decide +kernel, by decide +kernel⟩, List.mem_of_getElem? (i := 1209) (by decide +kernel), List.mem_of_getElem? (i := 1524) (by decide +kernel), List.mem_of_getElem? (i := 1525) (by decide +kernel)⟩
theorem lw_p86 : lw_okq (⟨"OddsInCourtModel", "lays", "(IZ)V"⟩, 71) := ⟨⟨by decide +kernel, by decide +kernel⟩, List.mem_of_getElem? (i := 1209) (by decide +kernel), List.mem_of_getElem? (i := 1529) (by decide +kernel), List.mem_of_getElem? (i := 1530) (by decide +kernel)⟩
theorem lw_p87 : lw_okq (⟨"OddsInCourtModel", "restores", "()V"⟩, 71) := ⟨⟨by decide +kernel, by decide +kernel⟩, List.mem_of_getElem? (i := 1209) (by decide +kernel), List.mem_of_getElem? (i := 1533) (by decide +kernel), List.mem_of_getElem? (i := 1534) (by decide +kernel)⟩
theorem lw_p88 : lw_okq (⟨"OddsInCourtModel", "isHead", "(I)Z"⟩, 71) := ⟨⟨by decide +kernel, by decide +kernel⟩, List.mem_of_getElem? (i := 1209) (by decide +kernel), List.mem_of_getElem? (i := 1550) (by decide +kernel), List.mem_of_getElem? (i := 1551) (by decide +kernel)⟩
theorem lw_p89 : lw_okq (⟨"OddsInCourtModel", "tellsAll", "(I)V"⟩, 71) := ⟨⟨by decide +kernel, by decide +kernel⟩, List.mem_of_getElem? (i := 1209) (by decide +kernel), List.mem_of_getElem? (i := 1554) (by decide +kernel), List.mem_of_getElem? (i := 1555) (by decide +kernel)⟩
theorem lw_p90 : lw_okq (⟨"OddsInCourtModel", "hears", "(II)I"⟩, 71) := ⟨⟨by decide +kernel, by decide +kernel⟩, List.mem_of_getElem? (i := 1209) (by decide +kernel), List.mem_of_getElem? (i := 1558) (by decide +kernel), List.mem_of_getElem? (i := 1559) (by decide +kernel)⟩
theorem lw_p91 : lw_okq (⟨"OddsInCourtModel", "habit", "(II)Z"⟩, 71) := ⟨⟨by decide +kernel, by decide +kernel⟩, List.mem_of_getElem? (i := 1209) (by decide +kernel), List.mem_of_getElem? (i := 1562) (by decide +kernel), List.mem_of_getElem? (i := 1563) (by decide +kernel)⟩
theorem lw_p92 : lw_okq (⟨"OddsInCourtModel", "hearsOne", "(III)I"⟩, 71) := ⟨⟨by decide +kernel, by decide +kernel⟩, List.mem_of_getElem? (i := 1209) (by decide +kernel), List.mem_of_getElem? (i := 1566) (by decide +kernel), List.mem_of_getElem? (i := 1567) (by decide +kernel)⟩
theorem lw_p93 : lw_okq (⟨"OddsInCourtModel", "orders", "(IIIII)V"⟩, 71) := ⟨⟨by decide +kernel, by decide +kernel⟩, List.mem_of_getElem? (i := 1209) (by decide +kernel), List.mem_of_getElem? (i := 1579) (by decide +kernel), List.mem_of_getElem? (i := 1580) (by decide +kernel)⟩
theorem lw_p94 : lw_okq (⟨"OddsInCourtModel", "deaths", "(ZZ)I"⟩, 71) := ⟨⟨by decide +kernel, by decide +kernel⟩, List.mem_of_getElem? (i := 1209) (by decide +kernel), List.mem_of_getElem? (i := 1629) (by decide +kernel), List.mem_of_getElem? (i := 1630) (by decide +kernel)⟩
theorem lw_p95 : lw_okq (⟨"OddsInCourtModel", "byLot", "(II)V"⟩, 71) := ⟨⟨by decide +kernel, by decide +kernel⟩, List.mem_of_getElem? (i := 1209) (by decide +kernel), List.mem_of_getElem? (i := 1633) (by decide +kernel), List.mem_of_getElem? (i := 1634) (by decide +kernel)⟩
def lw_privs_6 : List (MethodName × Nat) := [(⟨"OddsInCourtModel", "soBy", "(II)I"⟩, 71), (⟨"OddsInCourtModel", "termOf", "(III)I"⟩, 71), (⟨"OddsInCourtModel", "isJoined", "(III)Z"⟩, 71), (⟨"OddsInCourtModel", "alone", "(IIIII)I"⟩, 71), (⟨"OddsInCourtModel", "thingEnd", "(III)I"⟩, 71), (⟨"OddsInCourtModel", "remembers", "()V"⟩, 71), (⟨"OddsInCourtModel", "lays", "(IZ)V"⟩, 71), (⟨"OddsInCourtModel", "restores", "()V"⟩, 71), (⟨"OddsInCourtModel", "isHead", "(I)Z"⟩, 71), (⟨"OddsInCourtModel", "tellsAll", "(I)V"⟩, 71), (⟨"OddsInCourtModel", "hears", "(II)I"⟩, 71), (⟨"OddsInCourtModel", "habit", "(II)Z"⟩, 71), (⟨"OddsInCourtModel", "hearsOne", "(III)I"⟩, 71), (⟨"OddsInCourtModel", "orders", "(IIIII)V"⟩, 71), (⟨"OddsInCourtModel", "deaths", "(ZZ)I"⟩, 71), (⟨"OddsInCourtModel", "byLot", "(II)V"⟩, 71)]
theorem lw_r6 : ∀ q ∈ lw_privs_6, lw_okq q := List.forall_mem_cons.mpr ⟨lw_p80, List.forall_mem_cons.mpr ⟨lw_p81, List.forall_mem_cons.mpr ⟨lw_p82, List.forall_mem_cons.mpr ⟨lw_p83, List.forall_mem_cons.mpr ⟨lw_p84, List.forall_mem_cons.mpr ⟨lw_p85, List.forall_mem_cons.mpr ⟨lw_p86, List.forall_mem_cons.mpr ⟨lw_p87, List.forall_mem_cons.mpr ⟨lw_p88, List.forall_mem_cons.mpr ⟨lw_p89, List.forall_mem_cons.mpr ⟨lw_p90, List.forall_mem_cons.mpr ⟨lw_p91, List.forall_mem_cons.mpr ⟨lw_p92, List.forall_mem_cons.mpr ⟨lw_p93, List.forall_mem_cons.mpr ⟨lw_p94, List.forall_mem_cons.mpr ⟨lw_p95, fun _ h => absurd h List.not_mem_nil⟩⟩⟩⟩⟩⟩⟩⟩⟩⟩⟩⟩⟩⟩⟩⟩
theorem lw_p96 : lw_okq (⟨"OddsInCourtModel", "forcedBits", "()I"⟩, 71) := ⟨⟨by decide +kernel, by decide +kernel⟩, List.mem_of_getElem? (i := 1209) (by decide +kernel), List.mem_of_getElem? (i := 1658) (by decide +kernel), List.mem_of_getElem? (i := 1659) (by decide +kernel)⟩
theorem lw_p97 : lw_okq (⟨"OddsInCourtModel", "refuse", "()I"⟩, 71) := ⟨⟨by decide +kernel, by decide +kernel⟩, List.mem_of_getElem? (i := 1209) (by decide +kernel), List.mem_of_getElem? (i := 1666) (by decide +kernel), List.mem_of_getElem? (i := 1667) (by decide +kernel)⟩
theorem lw_p98 : lw_okq (⟨"OddsInCourtModel", "placeOf", "(I)I"⟩, 71) := ⟨⟨by decide +kernel, by decide +kernel⟩, List.mem_of_getElem? (i := 1209) (by decide +kernel), List.mem_of_getElem? (i := 1670) (by decide +kernel), List.mem_of_getElem? (i := 1671) (by decide +kernel)⟩
def lw_privs_7 : List (MethodName × Nat) := [(⟨"OddsInCourtModel", "forcedBits", "()I"⟩, 71), (⟨"OddsInCourtModel", "refuse", "()I"⟩, 71), (⟨"OddsInCourtModel", "placeOf", "(I)I"⟩, 71)]
theorem lw_r7 : ∀ q ∈ lw_privs_7, lw_okq q := List.forall_mem_cons.mpr ⟨lw_p96, List.forall_mem_cons.mpr ⟨lw_p97, List.forall_mem_cons.mpr ⟨lw_p98, fun _ h => absurd h List.not_mem_nil⟩⟩⟩
def lw_privs : List (MethodName × Nat) := lw_privs_1 ++ (lw_privs_2 ++ (lw_privs_3 ++ (lw_privs_4 ++ (lw_privs_5 ++ (lw_privs_6 ++ (lw_privs_7))))))
def lw_tbl : List Cond := k2_sels lw_privs ++ tables_1
theorem lw_privs_ok : ∀ q ∈ lw_privs, lw_okq q := by
  show ∀ q ∈ lw_privs_1 ++ (lw_privs_2 ++ (lw_privs_3 ++ (lw_privs_4 ++ (lw_privs_5 ++ (lw_privs_6 ++ (lw_privs_7)))))), lw_okq q
  exact List.forall_mem_append.mpr ⟨lw_r1, List.forall_mem_append.mpr ⟨lw_r2, List.forall_mem_append.mpr ⟨lw_r3, List.forall_mem_append.mpr ⟨lw_r4, List.forall_mem_append.mpr ⟨lw_r5, List.forall_mem_append.mpr ⟨lw_r6, lw_r7⟩⟩⟩⟩⟩⟩
/-! ===== BEGIN words of one list among another's, by their places ===== -/
theorem goodIn_r {big : List Cond} (ws : List Cond) (ps : List Nat) (hp : ws = ps.filterMap (fun i => big[i]?)) (h : ws.all goodWord = true) : GoodIn big ws := by
  intro w hw
  have h1 := List.all_eq_true.mp h w hw
  rw [hp] at hw
  obtain ⟨i, -, hi⟩ := List.mem_filterMap.mp hw
  have hm : w ∈ big := by first | exact List.mem_of_getElem? hi | exact List.getElem?_mem hi
  exact ⟨hm, good_of_word h1⟩
theorem goodIn_app {big a b : List Cond} (ha : GoodIn big a) (hb : GoodIn big b) : GoodIn big (a ++ b) := fun w h => (List.mem_append.mp h).elim (ha w) (hb w)
theorem goodIn_ca {big a b : List Cond} {c : Cond} (ha : GoodIn big (c :: a)) (hb : GoodIn big b) : GoodIn big (c :: (a ++ b)) := fun w h => (List.mem_cons.mp h).elim (fun e => ha w (List.mem_cons.mpr (Or.inl e))) (fun h => (List.mem_append.mp h).elim (fun h => ha w (List.mem_cons.mpr (Or.inr h))) (hb w))
theorem goodIn_sub {big ws : List Cond} (hm : ∀ w ∈ ws, w ∈ big) (h : ws.all goodWord = true) : GoodIn big ws := fun w hw => ⟨hm w hw, good_of_word (List.all_eq_true.mp h w hw)⟩
/-! ===== END ===== -/

/-! ===== BEGIN new T[n][m]: the outer array a place, the inner ones among the pooled ===== -/
/-- f, but v at every address of l -/
def vr_up {α : Type} (f : Nat → α) (l : List Nat) (v : α) : Nat → α := fun a => if a ∈ l then v else f a
theorem vr_up_in {α : Type} {f : Nat → α} {l : List Nat} {v : α} {a : Nat} (h : a ∈ l) : vr_up f l v a = v := if_pos h
theorem vr_up_ne {α : Type} {f : Nat → α} {l : List Nat} {v : α} {a : Nat} (h : a ∉ l) : vr_up f l v a = f a := if_neg h
theorem vr_rows {L l : List Nat} {f : Nat → va_E} {e : va_E} (h : ∀ a, a ∈ l → a ∉ L) : va_pl L f ++ l.map (fun a => (a, e)) = va_pl (L ++ l) (vr_up f l e) := by
  unfold va_pl
  rw [List.map_append]
  congr 1
  · apply List.map_congr_left
    intro a ha
    rw [vr_up_ne (fun q => h a q ha)]
  · apply List.map_congr_left
    intro a ha
    rw [vr_up_in ha]
theorem vr_lay {X rows : va_W} {x : Nat × va_E} {pl : va_W} {D : va_G} {cl : List vw_C} {H : Heap} (hP : va_P D cl (((X ++ pl) ++ [x]) ++ rows) H) : va_P D cl ((X ++ [x]) ++ (pl ++ rows)) H := by
  rw [List.append_assoc (X ++ pl)] at hP
  have h := va_P.swap hP
  rw [← List.append_assoc X] at h
  have h2 := va_P.swap h
  rw [List.append_assoc (X ++ [x])] at h2
  exact h2
theorem vr_layD {X rows : va_W} {x : Nat × va_E} {pl : va_W} {A : Nat → Prop} (hD : va_D A (((X ++ pl) ++ [x]) ++ rows)) : va_D A ((X ++ [x]) ++ (pl ++ rows)) := by
  rw [List.append_assoc (X ++ pl)] at hD
  have h := va_D.swap hD
  rw [← List.append_assoc X] at h
  have h2 := va_D.swap h
  rw [List.append_assoc (X ++ [x])] at h2
  exact h2
theorem vr_outer (c : ClassId) (N h0 : Nat) : ∀ i : Nat, Jvm.Free.Multi.outerC c N h0 i = arrV c N (fun j => va_rf (if j < i then some (h0 + 1 + j) else none))
  | 0 => by
    show ({ cls := c, slots := Array.replicate N .null, vm := .none } : Cell) = _
    rw [arrV_new]
    refine congrArg (arrV c N) (funext fun j => ?_)
    simp [va_rf]
  | i + 1 => by
    show (Jvm.Free.Multi.outerC c N h0 i).setSlot i (.ref (h0 + 1 + i)) = _
    rw [vr_outer c N h0 i, arrV_store]
    refine congrArg (arrV c N) (funext fun j => ?_)
    by_cases e : j = i
    · subst e
      simp [updV, va_rf]
    · by_cases h : j < i
      · simp [updV, e, h, Nat.lt_succ_of_lt h]
      · simp [updV, e, h, show ¬ j < i + 1 by omega]
/-! ===== END ===== -/

/-! ===== BEGIN exceptions that leave a method, and their catching by the caller (launches without stack traces) ===== -/
section VXA
/-! The laws vx_back, vx_callV, vx_callS, vx_callSW, vx_throw0, vx_throwS follow proofs of the library, with one case more: JvmDerived/Free/Laws.lean (Back.of_free), Shelf42/LK1.lean (callV, callS), Shelf/KitTraced.lean (throwNew0V, throwNewS). -/
/-- where a method has thrown q: the class by its name, the cell, what was written, the world -/
def vx_T (XC : String → State → State → Prop) (st : State) (q : Addr) (t : State) (mc ms : Nat) (free : Addr → Prop) : Prop :=
  ∃ (E : String) (ce : Cell) (L : List Loc), XC E st t ∧ t.heap[q]? = some ce ∧ ce.vm = .none ∧ st.vm.findClass E = some ce.cls ∧ st.WarmedH t.vm ∧ st.sameButNew ({ t with vm := st.vm } : State) L mc ms ∧ ∀ z ∈ L, free z.base
def vx_Q (Qc : Array Value → State → Outcome → State → Prop) (XC : String → State → State → Prop) (mc ms : Nat) (free : Addr → Prop) : Array Value → State → Outcome → State → Prop := fun a st o t =>
  (Qc a st o t ∧ ∃ L, FrameEnd st o t L mc ms ∧ ∀ q ∈ L, free q.base) ∨ ∃ q, o = .threw q ∧ vx_T XC st q t mc ms free
/-- a callee that returns or throws -/
def vx_Met (l : Launch) (y : MethodName) (ws : List Cond) (rm : Room) (Pc : Array Value → State → Prop) (Qc : Array Value → State → Outcome → State → Prop) (XC : String → State → State → Prop) (mc ms : Nat) (free : Addr → Prop) : Prop :=
  MetFree l y (headSpec ws rm) Pc (fun _ _ _ _ _ => True) (vx_Q Qc XC mc ms free)
def vx_Post (XC : String → State → State → Prop) (mc ms : Nat) (free : Addr → Prop) : Pt → Array Value → Addr → Pt → Prop := fun A a q B =>
  ∃ (g : JFrame) (mk : MethodId) (t : State) (L : List Loc) (E : String) (ce : Cell), B.U.heap = t.heap ∧ B.U.vm = t.vm ∧ XC E (A.U.calling g mk a) t ∧ t.heap[q]? = some ce ∧ ce.vm = .none ∧ A.U.vm.findClass E = some ce.cls ∧ B.locs = A.locs ++ L ∧ (∀ z ∈ L, free z.base) ∧ B.cells = A.cells + mc ∧ B.slots = A.slots + ms
def vx_Back (l : Launch) (R : Room) (p : Program) (e : Env) (below : List Frame) (s : State) (sargs : Array Value) (y : MethodName) (len W9 : Nat)
    (Pre : Pt → Array Value → Prop) (Post : Pt → Array Value → Option Value → Pt → Prop) (PostX : Pt → Array Value → Addr → Pt → Prop) : Prop :=
  ∀ (m : MethodId) (meth : Method) (c : Code) (A : Pt) (g : JFrame) (ig : Instr) (mk : MethodId) (a : Array Value),
    Stand p l e R s m sargs below meth c A.U A.locs A.cells A.slots → g.method = m → g.locals.size = c.maxLocals → decode c.code g.pc = .ok (ig, len) →
    2 * g.monitorRoom + (g.stack.map fun v => v.category).sum ≤ W9 → A.U.methodNamed? y = some mk → Pre A a →
    (∃ (v : Option Value) (B : Pt), Stand p l e R s m sargs below meth c B.U B.locs B.cells B.slots ∧ Post A a v B ∧
      Steps p.tables e below (doInvoke e (A.U.setTop g) [] mk a).1 (B.U.setTop { g with pc := g.pc + len, stack := v.toList ++ g.stack })) ∨
    (∃ (q : Addr) (B : Pt), Stand p l e R s m sargs below meth c B.U B.locs B.cells B.slots ∧ PostX A a q B ∧
      Steps p.tables e below (doInvoke e (A.U.setTop g) [] mk a).1 ((B.U.setTop g).pushFrame (.throwing q)))
section Payer
variable {l : Launch} {R : Room} {p : Program} {e : Env} {below : List Frame} {s : State} {sargs : Array Value} {y : MethodName} {len W9 : Nat}
theorem vx_back {ws : List Cond} {rm : Room} {Pc : Array Value → State → Prop} {Qc : Array Value → State → Outcome → State → Prop} {XC : String → State → State → Prop} {mc ms : Nat} {free : Addr → Prop} {bytes : ByteArray} {maxL : Nat} {ret : Option FieldType}
    (hM : vx_Met l y ws rm Pc Qc XC mc ms free) (hblind : FrameBlind Pc) (hrc : rm.cells = mc) (hrs : rm.slots = ms)
    (hframes : rm.frames + 1 ≤ R.frames) (hlocals : W9 + (maxL + 11) + rm.locals ≤ R.locals)
    (hws : ∀ w ∈ ws, ∀ a' U, s.WarmedH U.vm → w.before a' U = true) (hcode : Cond.code y bytes maxL ret ∈ ws) (hinit : ∀ a' U, s.WarmedH U.vm → (Cond.initialized y.cls).before a' U = true) :
    vx_Back l R p e below s sargs y len W9 (PreOf R mc ms Pc) (PostOf Qc mc ms free) (vx_Post XC mc ms free) := by
  intro m meth c A g ig mk a X hg hsize hdg hW hn hp
  have h1 : (headSpec ws rm).pre.before a A.U = true := atoms_intro fun w hw => hws w hw _ _ X.warmed
  have h2 : (Cond.code y bytes maxL ret).before a A.U = true := hws _ hcode _ _ X.warmed
  have h3 : (Cond.initialized y.cls).before a A.U = true := hinit _ _ X.warmed
  have h4 : A.cells + (headSpec ws rm).room.cells ≤ R.cells := by rw [show (headSpec ws rm).room.cells = mc from hrc]; exact hp.1
  have h5 : A.slots + (headSpec ws rm).room.slots ≤ R.slots := by rw [show (headSpec ws rm).room.slots = ms from hrs]; exact hp.2.1
  have hPc : Pc a (A.U.calling g mk a) := hblind _ _ _ _ hp.2.2
  obtain ⟨U, Ls, c0, s0⟩ := A
  dsimp only [Pt.U, Pt.locs, Pt.cells, Pt.slots] at h1 h2 h3 h4 h5 X hn hPc ⊢
  obtain ⟨methY, cY, hmY, hcY, -, hlY, -, -, -, -⟩ := Cond.code_spec hn h2
  obtain ⟨kY, hkY, -⟩ := className_of_methodNamed hn
  have hinitY : kY.init = .initialized := Cond.initialized_spec (findClass_of_methodNamed hn) hkY h3
  have h : At U g.method c below := by rw [hg]; exact X.here
  have hlocals9 : W9 + (maxL + 11) + (headSpec ws rm).room.locals ≤ R.locals := hlocals
  have happ : (headSpec ws rm).appliesLoose y e.platform (U.calling g mk a) = true :=
    Spec.appliesLoose_calling (g := g) h hdg hn hkY hinitY
      (X.room_calling (g := g) (R' := (headSpec ws rm).room) hsize hmY hcY hframes (by rw [hlY]; omega) h4 h5) h1
  obtain ⟨mid, hmid⟩ := h.above
  have hfr : (U.setTop g).frames = (.java g :: mid) ++ below := by rw [State.frames_setTop' g h.top, hmid]; rfl
  obtain ⟨o, s₂, hsteps, -, hend, hq⟩ := Steps.callFree hM p X.admits X.cas X.clock (acts := []) hfr happ hPc trivial
  have hq' : vx_Q Qc XC mc ms free a (U.calling g mk a) o s₂ := hq
  rw [State.frames_setTop' g h.top] at hend
  obtain ⟨g₀, hg0⟩ := Option.isSome_iff_exists.mp h.top
  obtain ⟨r, hr⟩ := State.topJava?_eq_some.mp hg0
  have hr' : (({ U with heap := s₂.heap, slotsUsed := s₂.slotsUsed } : State).setVm s₂.vm).frames = .java g₀ :: r := hr
  rcases hq' with ⟨hqc, L, hfe, hL⟩ | ⟨q, rfl, E, ce, L, hx, hce, hcv, hcl, hW₂, hsm, hL⟩
  · obtain ⟨⟨v, rfl⟩, hW₂, e2, q2, q3, q4, q5, q6⟩ := id hfe
    have e3 : s₂ = ({ (U.calling g mk a).setFrames s₂.frames with heap := s₂.heap, slotsUsed := s₂.slotsUsed } : State).setVm s₂.vm := by
      have : s₂ = ({ s₂ with vm := (U.calling g mk a).vm } : State).setVm s₂.vm := rfl
      rw [e2] at this
      exact this
    obtain ⟨c₂, i₂, len₂, hc₂, hd₂, hf₂⟩ := hend
    have hW' : U.WarmedH s₂.vm := hW₂
    have hcc : c₂ = c := by
      have h1 : s₂.code? g.method = U.code? g.method := by
        rw [State.code?_eq, State.code?_eq, hW'.alike.method?]
      exact Option.some.inj (hc₂.symm.trans (h1.trans h.code))
    subst hcc
    have hlen : len₂ = len := by rw [hdg] at hd₂; cases hd₂; rfl
    subst hlen
    have hs₂ : s₂ = (({ U with heap := s₂.heap, slotsUsed := s₂.slotsUsed } : State).setVm s₂.vm).setTop { g with pc := g.pc + len₂, stack := v.toList ++ g.stack } := by
      refine e3.trans ?_
      rw [hf₂, State.calling_eq h.top, State.setFrames_setFrames, State.setTop_of_frames _ hr', hr]
      rfl
    have hsame : U.sameButNew ({ U with heap := s₂.heap, slotsUsed := s₂.slotsUsed } : State) L mc ms := by
      refine ⟨?_, q2, q3, q4, q5, q6⟩
      obtain ⟨t, ht, -⟩ := State.frames_cons hr
      show ({ U with heap := s₂.heap, slotsUsed := s₂.slotsUsed } : State) = { U.setFrames U.frames with heap := s₂.heap, slotsUsed := s₂.slotsUsed }
      rw [State.setFrames_self ht]
    subst hg
    refine Or.inl ⟨v, ⟨(({ U with heap := s₂.heap, slotsUsed := s₂.slotsUsed } : State).setVm s₂.vm), Ls ++ L, c0 + mc, s0 + ms⟩,
      ⟨X.admits, X.cas, X.clock, X.frames, X.room, X.hears, X.method, X.code, (X.here.setHeapUsed s₂.heap s₂.slotsUsed).setVm hW'.alike, X.tail, State.WarmedH.trans X.warmed hW', X.limits, X.bytes, X.same.trans (hsame.setVm s.vm)⟩,
      ⟨g, mk, s₂, L, rfl, rfl, hqc, rfl, hL, rfl, rfl⟩, ?_⟩
    show Steps p.tables e below _ ((({ U with heap := s₂.heap, slotsUsed := s₂.slotsUsed } : State).setVm s₂.vm).setTop { g with pc := g.pc + len₂, stack := v.toList ++ g.stack })
    rw [← hs₂]
    exact hsteps
  · obtain ⟨e2, q2, q3, q4, q5, q6⟩ := id hsm
    have e3 : s₂ = ({ (U.calling g mk a).setFrames s₂.frames with heap := s₂.heap, slotsUsed := s₂.slotsUsed } : State).setVm s₂.vm := by
      have : s₂ = ({ s₂ with vm := (U.calling g mk a).vm } : State).setVm s₂.vm := rfl
      rw [e2] at this
      exact this
    have hf₂ : s₂.frames = .throwing q :: .java g :: U.frames.tail := hend
    have hW' : U.WarmedH s₂.vm := hW₂
    have hs₂ : s₂ = ((({ U with heap := s₂.heap, slotsUsed := s₂.slotsUsed } : State).setVm s₂.vm).setTop g).pushFrame (.throwing q) := by
      refine e3.trans ?_
      rw [hf₂, State.calling_eq h.top, State.setFrames_setFrames, State.pushFrame, State.frames_setTop _ hr', State.setTop_of_frames _ hr', State.setFrames_setFrames, hr]
      rfl
    have hsame : U.sameButNew ({ U with heap := s₂.heap, slotsUsed := s₂.slotsUsed } : State) L mc ms := by
      refine ⟨?_, q2, q3, q4, q5, q6⟩
      obtain ⟨t, ht, -⟩ := State.frames_cons hr
      show ({ U with heap := s₂.heap, slotsUsed := s₂.slotsUsed } : State) = { U.setFrames U.frames with heap := s₂.heap, slotsUsed := s₂.slotsUsed }
      rw [State.setFrames_self ht]
    subst hg
    refine Or.inr ⟨q, ⟨(({ U with heap := s₂.heap, slotsUsed := s₂.slotsUsed } : State).setVm s₂.vm), Ls ++ L, c0 + mc, s0 + ms⟩,
      ⟨X.admits, X.cas, X.clock, X.frames, X.room, X.hears, X.method, X.code, (X.here.setHeapUsed s₂.heap s₂.slotsUsed).setVm hW'.alike, X.tail, State.WarmedH.trans X.warmed hW', X.limits, X.bytes, X.same.trans (hsame.setVm s.vm)⟩,
      ⟨g, mk, s₂, L, E, ce, rfl, rfl, hx, hce, hcv, hcl, rfl, hL, rfl, rfl⟩, ?_⟩
    show Steps p.tables e below _ (((({ U with heap := s₂.heap, slotsUsed := s₂.slotsUsed } : State).setVm s₂.vm).setTop g).pushFrame (.throwing q))
    rw [← hs₂]
    exact hsteps
end Payer
section Calls
variable {p : Program} {l : Launch} {e : Env} {R : Room} {s : State} {m : MethodId} {args : Array Value} {below : List Frame} {meth : Method} {c : Code} {T : State} {locs : List Loc} {cells slots : Nat}
theorem vx_callV (X : Stand p l e R s m args below meth c T locs cells slots) (hexec : p.tables.exec = Jvm.exec) {own C : String} {index : Nat} {y : MethodName} {bytes : ByteArray} {maxL : Nat} {ret : Option FieldType}
    (hown : s.vm.findClass own = some m.cls) (hlink : (Cond.methodLink own index y).before args s = true) (hinst : (Cond.instanceMethod y).before args s = true) (hsel : (Cond.selects C y y).before args s = true)
    (hcode : (Cond.code y bytes maxL ret).before args s = true) (hy : y.cls ≠ "java/lang/invoke/MethodHandle" ∧ y.cls ≠ "java/lang/invoke/VarHandle")
    {W9 : Nat} {Pre : Pt → Array Value → Prop} {Post : Pt → Array Value → Option Value → Pt → Prop} {PostX : Pt → Array Value → Addr → Pt → Prop} (hK : vx_Back l R p e below s args y 3 W9 Pre Post PostX)
    {b : Addr} {cellB : Cell} (hcell : T.heap[b]? = some cellB) (hobj : cellB.vm.isStatics = false) (hcls : s.vm.findClass C = some cellB.cls)
    {g : JFrame} (hg : g.method = m) (hsize : g.locals.size = c.maxLocals) {argsL rest : List Value} (hlen : ∀ sig, parseMethodDescriptor y.desc = some sig → argsL.length = sig.parameters.length)
    (hstack : g.stack = argsL.reverse ++ .ref b :: rest) (hW : 2 * g.monitorRoom + (rest.map fun v => v.category).sum ≤ W9) (hdg : decode c.code g.pc = .ok (.invokevirtual index, 3))
    (hpre : ∀ vm₁, s.WarmedH vm₁ → Pre ⟨T.setVm vm₁, locs, cells, slots⟩ (Value.ref b :: argsL).toArray) :
    (∃ (v : Option Value) (vm₁ : Vm) (B : Pt), s.WarmedH vm₁ ∧ Stand p l e R s m args below meth c B.U B.locs B.cells B.slots ∧ Post ⟨T.setVm vm₁, locs, cells, slots⟩ (Value.ref b :: argsL).toArray v B ∧
      ∀ target, Steps p.tables e below (B.U.setTop { g with pc := g.pc + 3, stack := v.toList ++ rest }) target → Steps p.tables e below (T.setTop g) target) ∨
    (∃ (q : Addr) (vm₁ : Vm) (B : Pt), s.WarmedH vm₁ ∧ Stand p l e R s m args below meth c B.U B.locs B.cells B.slots ∧ PostX ⟨T.setVm vm₁, locs, cells, slots⟩ (Value.ref b :: argsL).toArray q B ∧
      Steps p.tables e below (T.setTop g) ((B.U.setTop { g with stack := rest }).pushFrame (.throwing q))) := by
  obtain ⟨mk, methM, hnamed, hmethM, hstM, habM⟩ := Cond.instanceMethod_spec hinst
  obtain ⟨methM', cM, hmethM', -, -, -, -, -, -, hsigM⟩ := Cond.code_spec hnamed hcode
  cases hmethM.symm.trans hmethM'
  obtain ⟨c2, r2, m2, q1, q2, q3, q4, kP, hkP, hkPi⟩ := Cond.selects_spec hsel
  cases hcls.symm.trans q1
  cases (State.methodFound?_of_named hnamed hy).symm.trans q2
  cases hnamed.symm.trans q3
  have hselP : selectMethod e.platform s.vm cellB.cls mk = .method mk := by rw [Launch.admits_selectMethod X.admits]; exact q4
  obtain ⟨vm₁, X₁, hstep₁⟩ := X.invokevirtual hexec hown hlink hnamed hmethM hstM hkP hkPi hy (a := b) (cell := cellB) hcell
    (fun z h => by rw [h] at hobj; cases hobj) hselP hmethM habM hkP hkPi (g := g) hg (argsL := argsL) (rest := rest) (hlen _ hsigM) hstack hdg
  rcases hK m meth c ⟨T.setVm vm₁, locs, cells, slots⟩ { g with stack := rest } (.invokevirtual index) mk (Value.ref b :: argsL).toArray X₁ hg hsize hdg hW (X₁.named hnamed) (hpre vm₁ X₁.warmed) with ⟨v, B, X', hpost, hsteps⟩ | ⟨q, B, X', hpost, hsteps⟩
  · exact Or.inl ⟨v, vm₁, B, X₁.warmed, X', hpost, fun target h => hstep₁ _ fun acts => by rw [doInvoke_state]; exact hsteps.trans h⟩
  · exact Or.inr ⟨q, vm₁, B, X₁.warmed, X', hpost, hstep₁ _ fun acts => by rw [doInvoke_state]; exact hsteps⟩
theorem vx_callS (X : Stand p l e R s m args below meth c T locs cells slots) (hexec : p.tables.exec = Jvm.exec) {own : String} {index : Nat} {y : MethodName} {bytes : ByteArray} {maxL : Nat} {ret : Option FieldType}
    (hown : s.vm.findClass own = some m.cls) (hlink : (Cond.methodLink own index y).before args s = true) (hstat : (Cond.static y).before args s = true) (hinit : (Cond.initialized y.cls).before args s = true)
    (hcode : (Cond.code y bytes maxL ret).before args s = true) (hy : y.cls ≠ "java/lang/invoke/MethodHandle" ∧ y.cls ≠ "java/lang/invoke/VarHandle")
    {W9 : Nat} {Pre : Pt → Array Value → Prop} {Post : Pt → Array Value → Option Value → Pt → Prop} {PostX : Pt → Array Value → Addr → Pt → Prop} (hK : vx_Back l R p e below s args y 3 W9 Pre Post PostX)
    {g : JFrame} (hg : g.method = m) (hsize : g.locals.size = c.maxLocals) {argsL rest : List Value} (hlen : ∀ sig, parseMethodDescriptor y.desc = some sig → argsL.length = sig.parameters.length)
    (hstack : g.stack = argsL.reverse ++ rest) (hW : 2 * g.monitorRoom + (rest.map fun v => v.category).sum ≤ W9) (hdg : decode c.code g.pc = .ok (.invokestatic index, 3))
    (hpre : ∀ vm₁, s.WarmedH vm₁ → Pre ⟨T.setVm vm₁, locs, cells, slots⟩ argsL.toArray) :
    (∃ (v : Option Value) (vm₁ : Vm) (B : Pt), s.WarmedH vm₁ ∧ Stand p l e R s m args below meth c B.U B.locs B.cells B.slots ∧ Post ⟨T.setVm vm₁, locs, cells, slots⟩ argsL.toArray v B ∧
      ∀ target, Steps p.tables e below (B.U.setTop { g with pc := g.pc + 3, stack := v.toList ++ rest }) target → Steps p.tables e below (T.setTop g) target) ∨
    (∃ (q : Addr) (vm₁ : Vm) (B : Pt), s.WarmedH vm₁ ∧ Stand p l e R s m args below meth c B.U B.locs B.cells B.slots ∧ PostX ⟨T.setVm vm₁, locs, cells, slots⟩ argsL.toArray q B ∧
      Steps p.tables e below (T.setTop g) ((B.U.setTop { g with stack := rest }).pushFrame (.throwing q))) := by
  obtain ⟨mk, hnamed⟩ := Cond.code_named hcode
  obtain ⟨methM, cM, hmethM, -, -, -, -, -, -, hsigM⟩ := Cond.code_spec hnamed hcode
  have hstatic : methM.isStatic = true := Cond.static_spec hnamed hmethM hstat
  obtain ⟨kP, hkP, -⟩ := className_of_methodNamed hnamed
  have hinitP : kP.init = .initialized := Cond.initialized_spec (findClass_of_methodNamed hnamed) hkP hinit
  obtain ⟨vm₁, X₁, hstep₁⟩ := X.invokestatic hexec hown hlink hnamed hmethM hstatic hkP hinitP hy (g := g) hg (argsL := argsL) (rest := rest) (hlen _ hsigM) hstack hdg
  rcases hK m meth c ⟨T.setVm vm₁, locs, cells, slots⟩ { g with stack := rest } (.invokestatic index) mk argsL.toArray X₁ hg hsize hdg hW (X₁.named hnamed) (hpre vm₁ X₁.warmed) with ⟨v, B, X', hpost, hsteps⟩ | ⟨q, B, X', hpost, hsteps⟩
  · exact Or.inl ⟨v, vm₁, B, X₁.warmed, X', hpost, fun target h => hstep₁ _ fun acts => by rw [doInvoke_state]; exact hsteps.trans h⟩
  · exact Or.inr ⟨q, vm₁, B, X₁.warmed, X', hpost, hstep₁ _ fun acts => by rw [doInvoke_state]; exact hsteps⟩
end Calls
theorem vx_cls {s : State} {T : State} {vm₁ : Vm} {E : String} {k : ClassId} (hW : s.WarmedH vm₁) (h : (T.setVm vm₁).vm.findClass E = some k) : s.vm.findClass E = some k := by
  have h1 : vm₁.findClass E = some k := h
  rw [hW.alike.findClass] at h1
  exact h1
/-- the method's frame g, with q thrown over it -/
def vx_W (p : Program) (l : Launch) (e : Env) (R : Room) (s : State) (m : MethodId) (args : Array Value) (below : List Frame) (meth : Method) (c : Code) (H : Heap) (locs : List Loc) (cells slots : Nat) (Q : State → Prop) (g : JFrame) (q : Addr) : Prop :=
  ∀ T : State, T.heap = H → Stand p l e R s m args below meth c T locs cells slots → ∃ t, Steps p.tables e below ((T.setTop g).pushFrame (.throwing q)) t ∧ Q t
def vx_Run (p : Program) (l : Launch) (e : Env) (R : Room) (s : State) (m : MethodId) (args : Array Value) (below : List Frame) (meth : Method) (c : Code) (H : Heap) (locs : List Loc) (cells slots mc ms : Nat) (g : JFrame) (rest : List Value) (Qa : State → Outcome → State → Prop) (XC : String → State → State → Prop) (free : Addr → Prop) : Prop :=
  ∀ T : State, T.heap = H → Stand p l e R s m args below meth c T locs cells slots →
    (∃ (v : Option Value) (st₀ t T' : State) (L : List Loc), st₀.heap = H ∧ Stand p l e R s m args below meth c T' (locs ++ L) (cells + mc) (slots + ms) ∧ (∀ q ∈ L, free q.base) ∧ T'.heap = t.heap ∧ T'.vm = t.vm ∧ Qa st₀ (.returned v) t ∧
      Goes p e below T g T' { g with pc := g.pc + 3, stack := v.toList ++ rest }) ∨
    (∃ (q : Addr) (st₀ t T' : State) (L : List Loc) (E : String) (ce : Cell), st₀.heap = H ∧ Stand p l e R s m args below meth c T' (locs ++ L) (cells + mc) (slots + ms) ∧ (∀ z ∈ L, free z.base) ∧ T'.heap = t.heap ∧ T'.vm = t.vm ∧ XC E st₀ t ∧ t.heap[q]? = some ce ∧ ce.vm = .none ∧ s.vm.findClass E = some ce.cls ∧
      Steps p.tables e below (T.setTop g) ((T'.setTop { g with stack := rest }).pushFrame (.throwing q)))
def vx_X {S : Type} (px : S → Prop) (B : String → S → State → Prop) (A : Nat → Prop) : String → State → State → Prop := fun E st t => ∃ u : S, px u ∧ B E u t ∧ va_F A st t
section Runs
variable {p : Program} {l : Launch} {e : Env} {R : Room} {s : State} {m : MethodId} {args : Array Value} {below : List Frame} {meth : Method} {c : Code} {H : Heap} {locs : List Loc} {cells slots : Nat}
variable {y : MethodName} {bytes cc : ByteArray} {maxL nL mc ms n index : Nat} {ret : Option FieldType} {ws : List Cond} {rm : Room} {Pc : Array Value → State → Prop} {Qc : Array Value → State → Outcome → State → Prop} {XC : String → State → State → Prop} {free : Addr → Prop} {Ts : List Cond} {own C : String} {b : Addr} {As rest : List Value} {g : JFrame}
theorem vx_callBack (cb : CallB R s args own index y bytes maxL ret ws rm mc ms n) (hM : vx_Met l y ws rm Pc Qc XC mc ms free) (hbl : FrameBlind Pc) : vx_Back l R p e below s args y 3 8 (PreOf R mc ms Pc) (PostOf Qc mc ms free) (vx_Post XC mc ms free) := by
  obtain ⟨hrc, hrs, hfr, hlo, hws, hcw, -, hini, -⟩ := cb
  exact vx_back (bytes := bytes) (maxL := maxL) (ret := ret) hM hbl hrc hrs hfr hlo hws hcw (fun a' U hW => word_at hW (Or.inl (by first | rfl | simp [Cond.onTables, Cond.keeps, Cond.steady])) hini)
theorem vx_runV (S : CallFix p m c cc nL s args Ts own) (hM : vx_Met l y ws rm Pc Qc XC mc ms free) (cw : CallW R s args own C index y bytes maxL ret ws rm mc ms n) (hp : PreV s H C b Pc As)
    (hg : g.method = m) (hn : As.length = n) (hsize : g.locals.size = nL) (hstack : g.stack = As.reverse ++ .ref b :: rest) (hW : 2 * g.monitorRoom + (rest.map fun v => v.category).sum ≤ 8) (hdg : decode cc g.pc = .ok (.invokevirtual index, 3)) (hf : cells + mc ≤ R.cells ∧ slots + ms ≤ R.slots) :
    vx_Run p l e R s m args below meth c H locs cells slots mc ms g rest (Qc (Value.ref b :: As).toArray) XC free := by
  have hK : vx_Back l R p e below s args y 3 8 (PreOf R mc ms Pc) (PostOf Qc mc ms free) (vx_Post XC mc ms free) := vx_callBack cw.1 hM hp.1
  obtain ⟨⟨-, -, -, -, -, -, hcode, -, hy, hlen, hl⟩, hin, hse⟩ := cw
  obtain ⟨hx, hb, hml, ho, -⟩ := S
  obtain ⟨-, ⟨cellB, hcB, hoB, hclB⟩, hPc⟩ := hp
  intro T hT X
  rcases vx_callV X hx (C := C) (bytes := bytes) (maxL := maxL) (ret := ret) ho hl hin hse hcode hy hK (by rw [hT]; exact hcB) hoB hclB hg (hsize.trans hml.symm) (argsL := As) (rest := rest) (fun sig h => hn.trans (hlen sig h)) hstack hW (by rw [hb]; exact hdg)
    (fun vm₁ hW₁ => ⟨hf.1, hf.2, hPc (T.setVm vm₁) hT hW₁⟩) with ⟨v, vm₁, ⟨U', l2, c2, s2⟩, hW₁, X', ⟨g', mk, t, L, e1, e2, hq, h1, hL, h2, h3⟩, st⟩ | ⟨q, vm₁, ⟨U', l2, c2, s2⟩, hW₁, X', ⟨g', mk, t, L, E, ce, e1, e2, hq, hce, hcv, hcl, h1, hL, h2, h3⟩, st⟩
  · dsimp only [Pt.U, Pt.locs, Pt.cells, Pt.slots] at X' e1 e2 h1 h2 h3 st
    subst h1; subst h2; subst h3
    exact Or.inl ⟨v, (T.setVm vm₁).calling g' mk (Value.ref b :: As).toArray, t, U', L, hT, X', hL, e1, e2, hq, st⟩
  · dsimp only [Pt.U, Pt.locs, Pt.cells, Pt.slots] at X' e1 e2 h1 h2 h3 st hcl
    subst h1; subst h2; subst h3
    exact Or.inr ⟨q, (T.setVm vm₁).calling g' mk (Value.ref b :: As).toArray, t, U', L, E, ce, hT, X', hL, e1, e2, hq, hce, hcv, vx_cls hW₁ hcl, st⟩
theorem vx_runS (S : CallFix p m c cc nL s args Ts own) (hM : vx_Met l y ws rm Pc Qc XC mc ms free) (cw : CallB R s args own index y bytes maxL ret ws rm mc ms n ∧ (Cond.static y).before args s = true) (hp : PreS s H Pc As)
    (hg : g.method = m) (hn : As.length = n) (hsize : g.locals.size = nL) (hstack : g.stack = As.reverse ++ rest) (hW : 2 * g.monitorRoom + (rest.map fun v => v.category).sum ≤ 8) (hdg : decode cc g.pc = .ok (.invokestatic index, 3)) (hf : cells + mc ≤ R.cells ∧ slots + ms ≤ R.slots) :
    vx_Run p l e R s m args below meth c H locs cells slots mc ms g rest (Qc As.toArray) XC free := by
  have hK : vx_Back l R p e below s args y 3 8 (PreOf R mc ms Pc) (PostOf Qc mc ms free) (vx_Post XC mc ms free) := vx_callBack cw.1 hM hp.1
  obtain ⟨⟨-, -, -, -, -, -, hcode, hini, hy, hlen, hl⟩, hstt⟩ := cw
  obtain ⟨hx, hb, hml, ho, -⟩ := S
  intro T hT X
  rcases vx_callS X hx (bytes := bytes) (maxL := maxL) (ret := ret) ho hl hstt hini hcode hy hK hg (hsize.trans hml.symm) (argsL := As) (rest := rest) (fun sig h => hn.trans (hlen sig h)) hstack hW (by rw [hb]; exact hdg)
    (fun vm₁ hW₁ => ⟨hf.1, hf.2, hp.2 (T.setVm vm₁) hT hW₁⟩) with ⟨v, vm₁, ⟨U', l2, c2, s2⟩, hW₁, X', ⟨g', mk, t, L, e1, e2, hq, h1, hL, h2, h3⟩, st⟩ | ⟨q, vm₁, ⟨U', l2, c2, s2⟩, hW₁, X', ⟨g', mk, t, L, E, ce, e1, e2, hq, hce, hcv, hcl, h1, hL, h2, h3⟩, st⟩
  · dsimp only [Pt.U, Pt.locs, Pt.cells, Pt.slots] at X' e1 e2 h1 h2 h3 st
    subst h1; subst h2; subst h3
    exact Or.inl ⟨v, (T.setVm vm₁).calling g' mk As.toArray, t, U', L, hT, X', hL, e1, e2, hq, st⟩
  · dsimp only [Pt.U, Pt.locs, Pt.cells, Pt.slots] at X' e1 e2 h1 h2 h3 st hcl
    subst h1; subst h2; subst h3
    exact Or.inr ⟨q, (T.setVm vm₁).calling g' mk As.toArray, t, U', L, E, ce, hT, X', hL, e1, e2, hq, hce, hcv, vx_cls hW₁ hcl, st⟩
end Runs
section Rows
variable {p : Program} {l : Launch} {e : Env} {R : Room} {s : State} {m : MethodId} {args : Array Value} {below : List Frame} {meth : Method} {c : Code} {H : Heap} {locs : List Loc} {cells slots : Nat} {Q : State → Prop}
variable {mc ms : Nat} {free : Addr → Prop} {A0 A1 : Nat → Prop} {H0 : Heap} {a : Array Value} {pc : Nat} {ls : Array Slot} {st0 rest : List Value}
theorem vx_keep {st₀ t T' : State} {L : List Loc} (h0 : st₀.heap = H) (e1 : T'.heap = t.heap) (hS : va_S A0 H0 H locs) (hA : ∀ q, q < H.size → A1 q → A0 q) (hf : ∀ q, free q → A0 q) (hL : ∀ q ∈ L, free q.base) (hF : va_F A1 st₀ t) :
    H.size ≤ T'.heap.size ∧ (∀ q : Nat, q < H.size → ¬ A1 q → T'.heap[q]? = H[q]?) ∧ va_S A0 H0 T'.heap (locs ++ L) := by
  obtain ⟨hz, hk⟩ := hF
  rw [h0] at hz hk
  exact ⟨by rw [e1]; exact hz, fun q h1 h2 => by rw [e1]; exact hk q h1 h2,
    ⟨Nat.le_trans hS.1 (by rw [e1]; exact hz), fun q h1 h2 => by rw [e1, hk q (Nat.lt_of_lt_of_le h1 hS.1) (fun z => h2 (hA q (Nat.lt_of_lt_of_le h1 hS.1) z))]; exact hS.2.1 q h1 h2, fun q hq => by
      rcases List.mem_append.mp hq with h | h
      · exact hS.2.2 q h
      · exact hf _ (hL q h)⟩⟩
theorem vx_calli {S SX : Type} {post : Int32 → S → Prop} {px : SX → Prop} {B : S → State → Prop} {BX : String → SX → State → Prop} {AX : Nat → Prop} (hr : vx_Run p l e R s m args below meth c H locs cells slots mc ms (F0 m pc ls st0) rest (va_Qi post B A1 a) (vx_X px BX AX) free) (hS : va_S A0 H0 H locs) (hA : ∀ q, q < H.size → A1 q → A0 q) (hf : ∀ q, free q → A0 q) (hAX : ∀ q, q < H.size → AX q → A0 q)
    (kx : ∀ (E : String) (ce : Cell) (q9 : Addr) (u : SX) (t : State) (H1 : Heap) (locs1 : List Loc), t.heap = H1 → s.vm.Alike t.vm → px u → BX E u t → H.size ≤ H1.size → (∀ q : Nat, q < H.size → ¬ AX q → H1[q]? = H[q]?) → va_S A0 H0 H1 locs1 → H1[q9]? = some ce → ce.vm = .none → s.vm.findClass E = some ce.cls → vx_W p l e R s m args below meth c H1 locs1 (cells + mc) (slots + ms) Q (F0 m pc ls rest) q9)
    (kk : ∀ (r : Int32) (u : S) (t : State) (H1 : Heap) (locs1 : List Loc), t.heap = H1 → s.vm.Alike t.vm → post r u → B u t → H.size ≤ H1.size → (∀ q : Nat, q < H.size → ¬ A1 q → H1[q]? = H[q]?) → va_S A0 H0 H1 locs1 → W p l e R s m args below meth c H1 locs1 (cells + mc) (slots + ms) Q (F0 m (pc + 3) ls (.int r :: rest))) : W p l e R s m args below meth c H locs cells slots Q (F0 m pc ls st0) := by
  intro T hT X
  rcases hr T hT X with ⟨v, st₀, t, T', L, h0, X', hL, e1, e2, ⟨⟨r, u, hv, hp, hb⟩, hF⟩, st⟩ | ⟨q, st₀, t, T', L, E, ce, h0, X', hL, e1, e2, ⟨u, hp, hb, hF⟩, hce, hcv, hcl, st⟩
  · cases hv
    obtain ⟨k1, k2, k3⟩ := vx_keep h0 e1 hS hA hf hL hF
    obtain ⟨t2, a1, b1⟩ := kk r u t T'.heap (locs ++ L) e1.symm (by rw [← e2]; exact X'.warmed.alike) hp hb k1 k2 k3 T' rfl X'
    exact ⟨t2, st t2 a1, b1⟩
  · obtain ⟨k1, k2, k3⟩ := vx_keep h0 e1 hS hAX hf hL hF
    obtain ⟨t2, a1, b1⟩ := kx E ce q u t T'.heap (locs ++ L) e1.symm (by rw [← e2]; exact X'.warmed.alike) hp hb k1 k2 k3 (by rw [e1]; exact hce) hcv hcl T' rfl X'
    exact ⟨t2, st.trans a1, b1⟩
theorem vx_calll {S SX : Type} {post : Int64 → S → Prop} {px : SX → Prop} {B : S → State → Prop} {BX : String → SX → State → Prop} {AX : Nat → Prop} (hr : vx_Run p l e R s m args below meth c H locs cells slots mc ms (F0 m pc ls st0) rest (va_Ql post B A1 a) (vx_X px BX AX) free) (hS : va_S A0 H0 H locs) (hA : ∀ q, q < H.size → A1 q → A0 q) (hf : ∀ q, free q → A0 q) (hAX : ∀ q, q < H.size → AX q → A0 q)
    (kx : ∀ (E : String) (ce : Cell) (q9 : Addr) (u : SX) (t : State) (H1 : Heap) (locs1 : List Loc), t.heap = H1 → s.vm.Alike t.vm → px u → BX E u t → H.size ≤ H1.size → (∀ q : Nat, q < H.size → ¬ AX q → H1[q]? = H[q]?) → va_S A0 H0 H1 locs1 → H1[q9]? = some ce → ce.vm = .none → s.vm.findClass E = some ce.cls → vx_W p l e R s m args below meth c H1 locs1 (cells + mc) (slots + ms) Q (F0 m pc ls rest) q9)
    (kk : ∀ (r : Int64) (u : S) (t : State) (H1 : Heap) (locs1 : List Loc), t.heap = H1 → s.vm.Alike t.vm → post r u → B u t → H.size ≤ H1.size → (∀ q : Nat, q < H.size → ¬ A1 q → H1[q]? = H[q]?) → va_S A0 H0 H1 locs1 → W p l e R s m args below meth c H1 locs1 (cells + mc) (slots + ms) Q (F0 m (pc + 3) ls (.long r :: rest))) : W p l e R s m args below meth c H locs cells slots Q (F0 m pc ls st0) := by
  intro T hT X
  rcases hr T hT X with ⟨v, st₀, t, T', L, h0, X', hL, e1, e2, ⟨⟨r, u, hv, hp, hb⟩, hF⟩, st⟩ | ⟨q, st₀, t, T', L, E, ce, h0, X', hL, e1, e2, ⟨u, hp, hb, hF⟩, hce, hcv, hcl, st⟩
  · cases hv
    obtain ⟨k1, k2, k3⟩ := vx_keep h0 e1 hS hA hf hL hF
    obtain ⟨t2, a1, b1⟩ := kk r u t T'.heap (locs ++ L) e1.symm (by rw [← e2]; exact X'.warmed.alike) hp hb k1 k2 k3 T' rfl X'
    exact ⟨t2, st t2 a1, b1⟩
  · obtain ⟨k1, k2, k3⟩ := vx_keep h0 e1 hS hAX hf hL hF
    obtain ⟨t2, a1, b1⟩ := kx E ce q u t T'.heap (locs ++ L) e1.symm (by rw [← e2]; exact X'.warmed.alike) hp hb k1 k2 k3 (by rw [e1]; exact hce) hcv hcl T' rfl X'
    exact ⟨t2, st.trans a1, b1⟩
theorem vx_callf {S SX : Type} {post : UInt32 → S → Prop} {px : SX → Prop} {B : S → State → Prop} {BX : String → SX → State → Prop} {AX : Nat → Prop} (hr : vx_Run p l e R s m args below meth c H locs cells slots mc ms (F0 m pc ls st0) rest (va_Qf post B A1 a) (vx_X px BX AX) free) (hS : va_S A0 H0 H locs) (hA : ∀ q, q < H.size → A1 q → A0 q) (hf : ∀ q, free q → A0 q) (hAX : ∀ q, q < H.size → AX q → A0 q)
    (kx : ∀ (E : String) (ce : Cell) (q9 : Addr) (u : SX) (t : State) (H1 : Heap) (locs1 : List Loc), t.heap = H1 → s.vm.Alike t.vm → px u → BX E u t → H.size ≤ H1.size → (∀ q : Nat, q < H.size → ¬ AX q → H1[q]? = H[q]?) → va_S A0 H0 H1 locs1 → H1[q9]? = some ce → ce.vm = .none → s.vm.findClass E = some ce.cls → vx_W p l e R s m args below meth c H1 locs1 (cells + mc) (slots + ms) Q (F0 m pc ls rest) q9)
    (kk : ∀ (r : UInt32) (u : S) (t : State) (H1 : Heap) (locs1 : List Loc), t.heap = H1 → s.vm.Alike t.vm → post r u → B u t → H.size ≤ H1.size → (∀ q : Nat, q < H.size → ¬ A1 q → H1[q]? = H[q]?) → va_S A0 H0 H1 locs1 → W p l e R s m args below meth c H1 locs1 (cells + mc) (slots + ms) Q (F0 m (pc + 3) ls (.float r :: rest))) : W p l e R s m args below meth c H locs cells slots Q (F0 m pc ls st0) := by
  intro T hT X
  rcases hr T hT X with ⟨v, st₀, t, T', L, h0, X', hL, e1, e2, ⟨⟨r, u, hv, hp, hb⟩, hF⟩, st⟩ | ⟨q, st₀, t, T', L, E, ce, h0, X', hL, e1, e2, ⟨u, hp, hb, hF⟩, hce, hcv, hcl, st⟩
  · cases hv
    obtain ⟨k1, k2, k3⟩ := vx_keep h0 e1 hS hA hf hL hF
    obtain ⟨t2, a1, b1⟩ := kk r u t T'.heap (locs ++ L) e1.symm (by rw [← e2]; exact X'.warmed.alike) hp hb k1 k2 k3 T' rfl X'
    exact ⟨t2, st t2 a1, b1⟩
  · obtain ⟨k1, k2, k3⟩ := vx_keep h0 e1 hS hAX hf hL hF
    obtain ⟨t2, a1, b1⟩ := kx E ce q u t T'.heap (locs ++ L) e1.symm (by rw [← e2]; exact X'.warmed.alike) hp hb k1 k2 k3 (by rw [e1]; exact hce) hcv hcl T' rfl X'
    exact ⟨t2, st.trans a1, b1⟩
theorem vx_calld {S SX : Type} {post : UInt64 → S → Prop} {px : SX → Prop} {B : S → State → Prop} {BX : String → SX → State → Prop} {AX : Nat → Prop} (hr : vx_Run p l e R s m args below meth c H locs cells slots mc ms (F0 m pc ls st0) rest (va_Qd post B A1 a) (vx_X px BX AX) free) (hS : va_S A0 H0 H locs) (hA : ∀ q, q < H.size → A1 q → A0 q) (hf : ∀ q, free q → A0 q) (hAX : ∀ q, q < H.size → AX q → A0 q)
    (kx : ∀ (E : String) (ce : Cell) (q9 : Addr) (u : SX) (t : State) (H1 : Heap) (locs1 : List Loc), t.heap = H1 → s.vm.Alike t.vm → px u → BX E u t → H.size ≤ H1.size → (∀ q : Nat, q < H.size → ¬ AX q → H1[q]? = H[q]?) → va_S A0 H0 H1 locs1 → H1[q9]? = some ce → ce.vm = .none → s.vm.findClass E = some ce.cls → vx_W p l e R s m args below meth c H1 locs1 (cells + mc) (slots + ms) Q (F0 m pc ls rest) q9)
    (kk : ∀ (r : UInt64) (u : S) (t : State) (H1 : Heap) (locs1 : List Loc), t.heap = H1 → s.vm.Alike t.vm → post r u → B u t → H.size ≤ H1.size → (∀ q : Nat, q < H.size → ¬ A1 q → H1[q]? = H[q]?) → va_S A0 H0 H1 locs1 → W p l e R s m args below meth c H1 locs1 (cells + mc) (slots + ms) Q (F0 m (pc + 3) ls (.double r :: rest))) : W p l e R s m args below meth c H locs cells slots Q (F0 m pc ls st0) := by
  intro T hT X
  rcases hr T hT X with ⟨v, st₀, t, T', L, h0, X', hL, e1, e2, ⟨⟨r, u, hv, hp, hb⟩, hF⟩, st⟩ | ⟨q, st₀, t, T', L, E, ce, h0, X', hL, e1, e2, ⟨u, hp, hb, hF⟩, hce, hcv, hcl, st⟩
  · cases hv
    obtain ⟨k1, k2, k3⟩ := vx_keep h0 e1 hS hA hf hL hF
    obtain ⟨t2, a1, b1⟩ := kk r u t T'.heap (locs ++ L) e1.symm (by rw [← e2]; exact X'.warmed.alike) hp hb k1 k2 k3 T' rfl X'
    exact ⟨t2, st t2 a1, b1⟩
  · obtain ⟨k1, k2, k3⟩ := vx_keep h0 e1 hS hAX hf hL hF
    obtain ⟨t2, a1, b1⟩ := kx E ce q u t T'.heap (locs ++ L) e1.symm (by rw [← e2]; exact X'.warmed.alike) hp hb k1 k2 k3 (by rw [e1]; exact hce) hcv hcl T' rfl X'
    exact ⟨t2, st.trans a1, b1⟩
theorem vx_callv {S SX : Type} {post : S → Prop} {px : SX → Prop} {B : S → State → Prop} {BX : String → SX → State → Prop} {AX : Nat → Prop} (hr : vx_Run p l e R s m args below meth c H locs cells slots mc ms (F0 m pc ls st0) rest (va_Qv post B A1 a) (vx_X px BX AX) free) (hS : va_S A0 H0 H locs) (hA : ∀ q, q < H.size → A1 q → A0 q) (hf : ∀ q, free q → A0 q) (hAX : ∀ q, q < H.size → AX q → A0 q)
    (kx : ∀ (E : String) (ce : Cell) (q9 : Addr) (u : SX) (t : State) (H1 : Heap) (locs1 : List Loc), t.heap = H1 → s.vm.Alike t.vm → px u → BX E u t → H.size ≤ H1.size → (∀ q : Nat, q < H.size → ¬ AX q → H1[q]? = H[q]?) → va_S A0 H0 H1 locs1 → H1[q9]? = some ce → ce.vm = .none → s.vm.findClass E = some ce.cls → vx_W p l e R s m args below meth c H1 locs1 (cells + mc) (slots + ms) Q (F0 m pc ls rest) q9)
    (kk : ∀ (u : S) (t : State) (H1 : Heap) (locs1 : List Loc), t.heap = H1 → s.vm.Alike t.vm → post u → B u t → H.size ≤ H1.size → (∀ q : Nat, q < H.size → ¬ A1 q → H1[q]? = H[q]?) → va_S A0 H0 H1 locs1 → W p l e R s m args below meth c H1 locs1 (cells + mc) (slots + ms) Q (F0 m (pc + 3) ls (rest))) : W p l e R s m args below meth c H locs cells slots Q (F0 m pc ls st0) := by
  intro T hT X
  rcases hr T hT X with ⟨v, st₀, t, T', L, h0, X', hL, e1, e2, ⟨⟨u, hv, hp, hb⟩, hF⟩, st⟩ | ⟨q, st₀, t, T', L, E, ce, h0, X', hL, e1, e2, ⟨u, hp, hb, hF⟩, hce, hcv, hcl, st⟩
  · cases hv
    obtain ⟨k1, k2, k3⟩ := vx_keep h0 e1 hS hA hf hL hF
    obtain ⟨t2, a1, b1⟩ := kk u t T'.heap (locs ++ L) e1.symm (by rw [← e2]; exact X'.warmed.alike) hp hb k1 k2 k3 T' rfl X'
    exact ⟨t2, st t2 a1, b1⟩
  · obtain ⟨k1, k2, k3⟩ := vx_keep h0 e1 hS hAX hf hL hF
    obtain ⟨t2, a1, b1⟩ := kx E ce q u t T'.heap (locs ++ L) e1.symm (by rw [← e2]; exact X'.warmed.alike) hp hb k1 k2 k3 (by rw [e1]; exact hce) hcv hcl T' rfl X'
    exact ⟨t2, st.trans a1, b1⟩
/-- caught by the row x of this method's table; the rows ahead don't take it -/
theorem vx_catch {own name : String} {E : String} {ce : Cell} {q : Addr} (hown : s.vm.findClass own = some m.cls) (pre : List ExceptionTableEntry) (x : ExceptionTableEntry) (suf : List ExceptionTableEntry) (hsplit : c.exceptionTable.toList = pre ++ x :: suf)
    (hpass : ∀ z ∈ pre, covers z pc = false ∨ (z.catchType ≠ 0 ∧ ∃ nm : String, (Cond.classLink own z.catchType nm).before args s = true ∧ va_Nc E nm s)) (hx : covers x pc = true) (h0 : x.catchType ≠ 0)
    (hlink : (Cond.classLink own x.catchType name).before args s = true) (hcast : (Cond.castable E name).before args s = true) (hcell : H[q]? = some ce) (hv : ce.vm = .none) (hcl : s.vm.findClass E = some ce.cls)
    (kk : W p l e R s m args below meth c H locs cells slots Q (F0 m x.handlerPc ls [.ref q])) : vx_W p l e R s m args below meth c H locs cells slots Q (F0 m pc ls rest) q := by
  intro T hT X
  have hpl : e.platform.magicAccessors = ({} : Platform).magicAccessors := by rw [X.admits.platform]
  obtain ⟨c3, c4, hc3, hc4, hasg⟩ := Cond.castable_spec hcast
  cases Option.some.inj (hc3.symm.trans hcl)
  obtain ⟨c5, hc5, hcl5⟩ := Cond.classLink_spec hown hlink e.platform hpl
  cases Option.some.inj (hc4.symm.trans hc5)
  obtain ⟨vm', X', st⟩ := X.thenCaughtThrough q (g := F0 m pc ls rest) rfl (Steps.refl _) (by rw [hT]; exact hcell) (by rw [hv]; rfl) (by obtain ⟨k9, h9, -⟩ := Vm.findClass_spec hcl; exact ⟨k9, h9⟩) pre x suf hsplit
    (fun z hz => by
      rcases hpass z hz with h | ⟨hz0, nm, hl1, hn1⟩
      · exact Or.inl h
      · obtain ⟨c6, hc6, hcl6⟩ := Cond.classLink_spec hown hl1 e.platform hpl
        obtain ⟨a8, b8, h1, h2, h3⟩ := hn1
        cases Option.some.inj (h1.symm.trans hcl)
        cases Option.some.inj (h2.symm.trans hc6)
        exact Or.inr ⟨hz0, _, hcl6, h3⟩) hx (Or.inr ⟨h0, c4, hcl5, hasg⟩)
  obtain ⟨t, a1, b1⟩ := kk (T.setVm vm') hT X'
  exact ⟨t, st.trans a1, b1⟩
end Rows
section Ends
variable {p : Program} {l : Launch} {e : Env} {R : Room} {s : State} {m : MethodId} {args : Array Value} {below : List Frame} {meth : Method} {c : Code} {H : Heap} {locs : List Loc} {cells slots : Nat} {Q : State → Prop}
variable {mc ms : Nat} {free : Addr → Prop} {A0 A1 : Nat → Prop} {H0 : Heap} {a : Array Value} {ls : Array Slot} {st0 rest : List Value}
variable {Qc : Array Value → State → Outcome → State → Prop} {XC : String → State → State → Prop}
/-- what a body that may throw owes at its end -/
def vx_MQ (below : List Frame) (Qc : Array Value → State → Outcome → State → Prop) (XC : String → State → State → Prop) (a : Array Value) (s : State) (mc ms : Nat) (free : Addr → Prop) : State → Prop := fun t =>
  ∃ o, t.status = .running ∧ Ended t below o ∧ vx_Q Qc XC mc ms free a s o t
theorem vx_ret {g : JFrame} {mc ms : Nat} (k : W p l e R s m args below meth c H locs cells slots (MQ below Qc args s mc ms free) g) : W p l e R s m args below meth c H locs cells slots (vx_MQ below Qc XC args s mc ms free) g := by
  intro T hT X
  obtain ⟨t, a1, o, b1, b2, b3, b4⟩ := k T hT X
  exact ⟨t, a1, o, b1, b2, Or.inl ⟨b3, b4⟩⟩
/-- not caught here: it goes on to the caller -/
theorem vx_widen {g : JFrame} {q : Addr} {k n : Nat} (h1 : cells ≤ k) (h2 : slots ≤ n) (kk : vx_W p l e R s m args below meth c H locs k n Q g q) : vx_W p l e R s m args below meth c H locs cells slots Q g q := fun T hT X => kk T hT (stand_widen X h1 h2)
theorem vx_out {pc : Nat} {E : String} {ce : Cell} {q : Addr} {mc ms : Nat} (hout : ∀ x ∈ c.exceptionTable.toList, covers x pc = false) (hlocks : meth.locks = false) (hcell : H[q]? = some ce) (hv : ce.vm = .none) (hcl : s.vm.findClass E = some ce.cls)
    (hx : ∀ t : State, t.heap = H → s.vm.Alike t.vm → XC E s t) (hf : ∀ z ∈ locs, free z.base) (hc : cells ≤ mc) (hs : slots ≤ ms) :
    vx_W p l e R s m args below meth c H locs cells slots (vx_MQ below Qc XC args s mc ms free) (F0 m pc ls rest) q := by
  intro T hT X
  obtain ⟨st1, hrun, hend, hW, hsm⟩ := X.leaveThrown q (g := F0 m pc ls rest) rfl rfl rfl hout hlocks
  have hcell9 : (T.setFrames (.throwing q :: below)).heap[q]? = some ce := by
    show T.heap[q]? = some ce
    rw [hT]; exact hcell
  exact ⟨_, st1, .threw q, hrun, hend, Or.inr ⟨q, rfl, E, ce, locs, hx _ hT hW.alike, hcell9, hv, hcl, hW, hsm.mono hc hs, hf⟩⟩
theorem vx_frame {U : State} {k n : Nat} (h : s.sameButNew ({ U with vm := s.vm } : State) locs k n) : s.heap.size ≤ U.heap.size ∧ ∀ q : Nat, q < s.heap.size → (∀ z ∈ locs, z.base ≠ q) → U.heap[q]? = s.heap[q]? := by
  obtain ⟨-, h2, -, -, -, h6⟩ := h
  refine ⟨h2, fun q hq hz => ?_⟩
  obtain ⟨c9, e1, e2, e3, e4⟩ := h6 q _ (Array.getElem?_eq_getElem hq)
  have hs : c9.slots = (s.heap[q]).slots := Array.ext_getElem? fun i => e4 i fun hm => hz _ hm rfl
  have h9 : c9 = s.heap[q] := by
    rw [hs] at e2
    exact e2
  have e5 : U.heap[q]? = some c9 := e1
  rw [e5, h9, Array.getElem?_eq_getElem hq]
/-- the words of a throw but the four that speak of the heap -/
def vx_no (w : Cond) : Bool := decide (w ≠ .isRef (.static Bundle.tN "UNASSIGNED_STACK" Bundle.steD)) && decide (w ≠ .isRef (.static Bundle.tN "SUPPRESSED_SENTINEL" Bundle.listD)) && decide (w ≠ .laysStatic Bundle.tN "UNASSIGNED_STACK" Bundle.steD) && decide (w ≠ .laysStatic Bundle.tN "SUPPRESSED_SENTINEL" Bundle.listD)
def vx_at0 (own : String) (ic : Nat) (X : String) (names : List String) : List Cond := (Bundle.ownAtoms0 own ic X names).filter vx_no
def vx_atS (own : String) (ic : Nat) (X : String) (names : List String) : List Cond := (Bundle.ownAtoms own ic X names).filter vx_no
/-- a word that the tables alone decide, or a good one -/
def vx_ot (w : Cond) : Bool := w.onTables || goodWord w
theorem vx_ot_at {args a' : Array Value} {s U : State} {w : Cond} (hW : s.WarmedH U.vm) (hvm : s.vm = U.vm) (hg : vx_ot w = true) (h : w.before args s = true) : w.before a' U = true := by
  simp only [vx_ot, Bool.or_eq_true] at hg
  rcases hg with hg | hg
  · exact va_tabs hg hvm h
  · exact word_at hW (good_of_word hg) h
/-- a list's words: the good ones out of the method's own list, the others by premises of their own -/
theorem vx_hat {args : Array Value} {s : State} {L B : List Cond} (h1 : ∀ w ∈ L.filter goodWord, w.before args s = true) (h2 : ∀ w ∈ L.filter (fun w => !goodWord w), w ∈ B) (h3 : ∀ w ∈ B, w.before args s = true) : ∀ w ∈ L, w.before args s = true := by
  intro w hw
  by_cases g : goodWord w = true
  · exact h1 w (List.mem_filter.mpr ⟨hw, g⟩)
  · refine h3 w (h2 w (List.mem_filter.mpr ⟨hw, ?_⟩))
    show (!goodWord w) = true
    cases hgw : goodWord w
    · rfl
    · exact absurd hgw g
theorem vx_c {args : Array Value} {s : State} {w : Cond} {B : List Cond} (h : w.before args s = true) (t : ∀ w ∈ B, w.before args s = true) : ∀ w' ∈ w :: B, w'.before args s = true := fun w' h' => (List.mem_cons.mp h').elim (fun e => by rw [e]; exact h) (t w')
theorem vx_n {args : Array Value} {s : State} : ∀ w ∈ ([] : List Cond), w.before args s = true := fun _ h => nomatch h
theorem vx_own {args : Array Value} {s : State} {L : List Cond} (h1 : ∀ w ∈ L.filter vx_no, w.before args s = true)
    (hU : (Cond.isRef (.static Bundle.tN "UNASSIGNED_STACK" Bundle.steD)).before args s = true) (hN : (Cond.isRef (.static Bundle.tN "SUPPRESSED_SENTINEL" Bundle.listD)).before args s = true)
    (lU : (Cond.laysStatic Bundle.tN "UNASSIGNED_STACK" Bundle.steD).before args s = true) (lN : (Cond.laysStatic Bundle.tN "SUPPRESSED_SENTINEL" Bundle.listD).before args s = true) : ∀ w ∈ L, w.before args s = true := by
  intro w hw
  by_cases e1 : w = .isRef (.static Bundle.tN "UNASSIGNED_STACK" Bundle.steD)
  · rw [e1]; exact hU
  · by_cases e2 : w = .isRef (.static Bundle.tN "SUPPRESSED_SENTINEL" Bundle.listD)
    · rw [e2]; exact hN
    · by_cases e3 : w = .laysStatic Bundle.tN "UNASSIGNED_STACK" Bundle.steD
      · rw [e3]; exact lU
      · by_cases e4 : w = .laysStatic Bundle.tN "SUPPRESSED_SENTINEL" Bundle.listD
        · rw [e4]; exact lN
        · exact h1 w (List.mem_filter.mpr ⟨hw, by unfold vx_no; rw [decide_eq_true e1, decide_eq_true e2, decide_eq_true e3, decide_eq_true e4]; rfl⟩)
/-- where a static field lies, its class's statics cell in H -/
def vx_L (C n d : String) (A : Nat → Prop) (U : State) (H : Heap) : Prop := ∃ (c : ClassId) (k : Class) (i : Nat) (f : Field) (a : Nat) (cell : Cell), U.vm.findClass C = some c ∧ U.fieldFound? C n d = some (c, k, i, f) ∧ f.isStatic = true ∧ k.statics = some a ∧ H[a]? = some cell ∧ cell.vm.isStatics = true ∧ cell.cls = c ∧ f.slot < cell.slots.size ∧ k.staticTypes[f.slot]? = some f.type ∧ ¬ A a
theorem vx_L.moved {C n d : String} {A : Nat → Prop} {u U : State} {H : Heap} (hvm : u.vm.Alike U.vm) (h : vx_L C n d A u H) : vx_L C n d A U H := by
  obtain ⟨c, k, i, f, a, cell, h1, h2, h3, h4, h5, h6, h7, h8, h9, h10⟩ := h
  obtain ⟨k', hi', he⟩ := State.fieldFound?_setVm hvm h2
  exact ⟨c, k', i, f, a, cell, by rw [hvm.findClass]; exact h1, hi', h3, by rw [he]; exact h4, h5, h6, h7, h8, by rw [he]; exact h9, h10⟩
theorem vx_L.kept {C n d : String} {A : Nat → Prop} {U : State} {H H1 : Heap} (h : vx_L C n d A U H) (hq : ∀ a : Nat, a < H.size → ¬ A a → H1[a]? = H[a]?) : vx_L C n d A U H1 := by
  obtain ⟨c, k, i, f, a, cell, h1, h2, h3, h4, h5, h6, h7, h8, h9, h10⟩ := h
  exact ⟨c, k, i, f, a, cell, h1, h2, h3, h4, by rw [hq a (Array.getElem?_eq_some_iff.mp h5).1 h10]; exact h5, h6, h7, h8, h9, h10⟩
theorem vx_L.narrow {C n d : String} {A B : Nat → Prop} {U : State} {H : Heap} (h : vx_L C n d A U H) (hAB : ∀ q, B q → A q) : vx_L C n d B U H := by
  obtain ⟨c, k, i, f, a, cell, h1, h2, h3, h4, h5, h6, h7, h8, h9, h10⟩ := h
  exact ⟨c, k, i, f, a, cell, h1, h2, h3, h4, h5, h6, h7, h8, h9, fun z => h10 (hAB _ z)⟩
theorem vx_L.word {C n d : String} {A : Nat → Prop} {s : State} {args : Array Value} (h : vx_L C n d A s s.heap) : (Cond.laysStatic C n d).before args s = true := by
  obtain ⟨c, k, i, f, a, cell, h1, h2, h3, h4, h5, h6, h7, h8, h9, -⟩ := h
  show (Cond.laysStatic C n d).holds args s none s [] = true
  exact Cond.laysStatic_of h1 h2 h3 h4 h5 h6 h7 h8 h9
/-- .. and what it holds: null or some reference -/
def vx_Zq (C n d : String) (A : Nat → Prop) (U : State) (H : Heap) : Prop := va_Zq C n d A U H ∧ vx_L C n d A U H
theorem vx_Zq.moved {C n d : String} {A : Nat → Prop} {u U : State} {H : Heap} (hvm : u.vm.Alike U.vm) (h : vx_Zq C n d A u H) : vx_Zq C n d A U H := ⟨va_Zq.moved hvm h.1, vx_L.moved hvm h.2⟩
theorem vx_Zq.kept {C n d : String} {A : Nat → Prop} {U : State} {H H1 : Heap} (h : vx_Zq C n d A U H) (hq : ∀ a : Nat, a < H.size → ¬ A a → H1[a]? = H[a]?) : vx_Zq C n d A U H1 := ⟨va_Zq.kept h.1 hq, vx_L.kept h.2 hq⟩
theorem vx_Zq.narrow {C n d : String} {A B : Nat → Prop} {U : State} {H : Heap} (h : vx_Zq C n d A U H) (hAB : ∀ q, B q → A q) : vx_Zq C n d B U H := ⟨va_Zq.narrow h.1 hAB, vx_L.narrow h.2 hAB⟩
theorem vx_Zqof {args : Array Value} {s : State} {C n d : String} {A : Nat → Prop} (hl : (Cond.laysStatic C n d).before args s = true) (hini : (Cond.initialized C).before args s = true) (h : (Cond.isRef (.static C n d)).before args s = true) (hA : ∀ a : Nat, a < s.heap.size → ¬ A a) : vx_Zq C n d A s s.heap := by
  refine ⟨va_Zqof hl hini h hA, ?_⟩
  obtain ⟨c, k, i, f, a, cell, h1, h2, h3, h4, h5, h6, h7, h8, h9⟩ := Cond.laysStatic_spec hl
  exact ⟨c, k, i, f, a, cell, h1, h2, h3, h4, h5, h6, h7, h8, h9, hA a (Array.getElem?_eq_some_iff.mp h5).1⟩
theorem vx_isRef {C n d : String} {v : Value} {A : Nat → Prop} {s : State} {args : Array Value} (h : va_Z C n d v A s s.heap) (hv : v.isRef = true) : (Cond.isRef (.static C n d)).before args s = true := by
  obtain ⟨cf, kf, fi, f, a, cell, h1, h2, h3, h4, h5, h6, h7, -⟩ := h
  have he : (Term.static C n d).eval args s none [] s = some v := by
    simp [Term.eval, State.fieldNamed?, h1, h2, h4, h5, h6, h7]
  simp only [Cond.before, Cond.holds, Cond.value, he]
  cases v <;> simp_all [Value.isRef]
theorem vx_isRefq {C n d : String} {A : Nat → Prop} {s : State} {args : Array Value} (h : va_Zq C n d A s s.heap) : (Cond.isRef (.static C n d)).before args s = true := by
  rcases h with h | ⟨t, h⟩
  · exact vx_isRef h rfl
  · exact vx_isRef h rfl
/-- the same frame, seen from here: as if the method were called anew in this heap -/
theorem vx_rebase {T : State} (X : Stand p l e R s m args below meth c T locs cells slots) {R' : Room} (hf : R'.frames ≤ R.frames) (hl : R'.locals ≤ R.locals) (hc : cells + R'.cells ≤ R.cells) (hs : slots + R'.slots ≤ R.slots) :
    Stand p l e R' ((T.setVm s.vm).setFrames (.invoking m args :: below)) m args below meth c T [] 0 0 := by
  have htop : (T.setVm s.vm).topJava?.isSome := X.here.top
  have hF : ((T.setVm s.vm).setFrames (.invoking m args :: below)).frames = .invoking m args :: below := State.frames_setFrames _ (State.cur_lt_of_top htop)
  obtain ⟨g₀, hg0⟩ := Option.isSome_iff_exists.mp htop
  obtain ⟨r, hr⟩ := State.topJava?_eq_some.mp hg0
  have hl9 : e.platform.stackLimits (T.setVm s.vm).me = e.platform.stackLimits s.me := X.limits
  have hb9 : (T.setVm s.vm).me.stackBytes = s.me.stackBytes := X.bytes
  refine ⟨X.admits, X.cas, X.clock, hF, ?_, X.hears, X.method, X.code, X.here, X.tail, X.warmed, ?_, ?_, ?_⟩
  · have h := X.room
    have hU : ((T.setVm s.vm).setFrames (.invoking m args :: below)).localsInUse = s.localsInUse := by
      rw [State.localsInUse_invoking hF (meth := meth) (c := c) X.method X.code, State.localsInUse_invoking X.frames X.method X.code]
    simp only [State.hasRoom, Bool.and_eq_true, decide_eq_true_eq] at h ⊢
    obtain ⟨⟨⟨⟨h1, h2, h3, h4, h5, h6⟩, h7⟩, h8⟩, h9⟩ := h
    rw [X.frames, List.length_cons] at h2 h3
    have q1 := X.heapSize
    have q2 := X.used
    simp only [hF, hU, List.length_cons, State.stackLimits_setFrames, State.stackBytes_setFrames, hl9, hb9]
    refine ⟨⟨⟨⟨by omega, by omega, by omega, by omega, by omega, h6⟩, ?_⟩, ?_⟩, X.book⟩
    · show T.heap.size + R'.cells ≤ e.platform.maxCells
      omega
    · show T.slotsUsed + R'.slots ≤ e.platform.maxSlots
      omega
  · rw [State.stackLimits_setFrames]; rfl
  · rw [State.stackBytes_setFrames]; rfl
  · refine ⟨?_, Nat.le_refl _, Nat.le_refl _, ?_, ?_, fun a c9 h9 => ⟨c9, h9, rfl, rfl, fun _ _ => rfl⟩⟩
    · obtain ⟨t, ht, -⟩ := State.frames_cons hr
      show T.setVm s.vm = { ((T.setVm s.vm).setFrames (.invoking m args :: below)).setFrames (T.setVm s.vm).frames with heap := T.heap, slotsUsed := T.slotsUsed }
      rw [State.setFrames_setFrames, State.setFrames_self ht]
      rfl
    · show T.slotsUsed = T.slotsUsed + ((T.heap.toList.drop T.heap.size).map (·.slots.size)).sum
      rw [List.drop_eq_nil_of_le (Nat.le_of_eq Array.length_toList)]
      rfl
    · show ((T.heap.toList.drop T.heap.size).map (·.slots.size)).sum ≤ 0
      rw [List.drop_eq_nil_of_le (Nat.le_of_eq Array.length_toList)]
      exact Nat.le_refl _
/-- 'throw new E()': new; dup; invokespecial; athrow -/
theorem vx_throw0 {cc : ByteArray} {pc : Nat} (hexec : p.tables.exec = Jvm.exec) (hb : c.code = cc) (hl : l.stackTraces = false) {own cls : String} {names : List String} {ik ic mc ms : Nat} {A : Nat → Prop}
    (hown : s.vm.findClass own = some m.cls) (hcls : Bundle.fit cls = true) (hnames : ∀ n ∈ names, Bundle.fit n = true)
    (hk : (Cond.classLink own ik cls).before args s = true) (hini : (Cond.initialized cls).before args s = true) (hat : ∀ w ∈ vx_at0 own ic cls names, w.before args s = true)
    (hgood : ∀ w ∈ Cond.classLink own ik cls :: Cond.initialized cls :: vx_at0 own ic cls names, vx_ot w = true)
    (hU : vx_Zq Bundle.tN "UNASSIGNED_STACK" Bundle.steD A s s.heap) (hN : vx_Zq Bundle.tN "SUPPRESSED_SENTINEL" Bundle.listD A s s.heap) (hS : va_S A s.heap H locs) (hsize : ls.size = c.maxLocals)
    (d0 : decode cc pc = .ok (.new ik, 3)) (d3 : decode cc (pc + 3) = .ok (.dup, 1)) (d4 : decode cc (pc + 4) = .ok (.invokespecial ic, 3)) (d7 : decode cc (pc + 7) = .ok (.athrow, 1))
    (hout : ∀ x ∈ c.exceptionTable.toList, covers x (pc + 7) = false)
    (hRframes : names.length + 3 < R.frames) (hRlocals : (rest.map fun v => v.category).sum + (13 * (names.length + 1) + 42) ≤ R.locals) (hRcells : cells + 1 ≤ R.cells) (hRslots : slots + 6 ≤ R.slots) (hlocks : meth.locks = false)
    (hx : ∀ t : State, s.vm.Alike t.vm → H.size ≤ t.heap.size → (∀ q : Nat, q < H.size → t.heap[q]? = H[q]?) → XC cls s t)
    (hf : ∀ z ∈ locs, free z.base) (hc : cells + 1 ≤ mc) (hs : slots + 6 ≤ ms) :
    W p l e R s m args below meth c H locs cells slots (vx_MQ below Qc XC args s mc ms free) (F0 m pc ls rest) := by
  intro T hT X
  have htr : e.platform.stackTraces = false := (show e.platform.stackTraces = l.stackTraces by rw [X.admits.platform]).trans hl
  have Y := vx_rebase X (R' := { frames := R.frames, locals := R.locals, cells := 1, slots := 6 }) (Nat.le_refl _) (Nat.le_refl _) hRcells hRslots
  obtain ⟨s', hA⟩ : ∃ z, z = (T.setVm s.vm).setFrames (.invoking m args :: below) := ⟨_, rfl⟩
  rw [← hA] at Y
  have hvm : s'.vm = s.vm := by rw [hA]; rfl
  have hhp : s'.heap = H := by rw [hA]; exact hT
  have hW0 : s.WarmedH s'.vm := by rw [hvm]; exact State.WarmedH.refl s
  have hat' : ∀ w ∈ vx_at0 own ic cls names, w.before args s' = true := fun w hw => vx_ot_at hW0 hvm.symm (hgood w (List.mem_cons_of_mem _ (List.mem_cons_of_mem _ hw))) (hat w hw)
  have hk' : (Cond.classLink own ik cls).before args s' = true := vx_ot_at hW0 hvm.symm (hgood _ List.mem_cons_self) hk
  have hini' : (Cond.initialized cls).before args s' = true := vx_ot_at hW0 hvm.symm (hgood _ (List.mem_cons_of_mem _ List.mem_cons_self)) hini
  have hU' : vx_Zq Bundle.tN "UNASSIGNED_STACK" Bundle.steD A s' s'.heap := by rw [hhp]; exact vx_Zq.moved hW0.alike (hU.kept hS.2.1)
  have hN' : vx_Zq Bundle.tN "SUPPRESSED_SENTINEL" Bundle.listD A s' s'.heap := by rw [hhp]; exact vx_Zq.moved hW0.alike (hN.kept hS.2.1)
  have h : ∀ w ∈ Bundle.ownAtoms0 own ic cls names, w.before args s' = true := vx_own hat' (vx_isRefq hU'.1) (vx_isRefq hN'.1) hU'.2.word hN'.2.word
  have hown' : s'.vm.findClass own = some m.cls := by rw [hvm]; exact hown
  have hins : (Cond.instantiable cls 6).before args s' = true := h _ (by simp [Bundle.ownAtoms0])
  obtain ⟨vm₁, cX, kX, hfX, hkX, -, -, X₁, st1⟩ := Y.newCold hexec (own := own) (C := cls) (index := ik) (n := 6) hown' hk' hins hini'
    (g := F0 m pc ls rest) rfl (by rw [hb]; exact d0) (Nat.le_refl _) (Nat.le_refl _)
  generalize hT1 : (T.setVm vm₁).pushCell { cls := cX, slots := kX.instanceTypes.map defaultValue, vm := .none } = T1 at X₁ st1
  have hcat : (Value.ref T.heap.size).category = 1 := rfl
  have hcellA : T1.heap[T.heap.size]? = some (freshCell cX kX) := by rw [← hT1]; exact State.heap_pushCell_size _ _
  have d3' : decode c.code (pc + 3) = .ok (.dup, 1) := by rw [hb]; exact d3
  obtain ⟨U, hsteps, hrun, hend, hW, hsame, ce, hce, hO⟩ := X₁.ctorThrow0 hexec htr (own := own) (cls := cls) (names := names) (ic := ic) hown' hcls hnames h (fun x hx => nomatch hx) hfX hkX hcellA (by rw [hhp, hT]; exact Nat.le_refl _)
    (g := { method := m, pc := pc + 4, locals := ls, stack := .ref T.heap.size :: .ref T.heap.size :: rest, locked := none }) rfl hsize rfl rfl (rest := rest) rfl
    (by rw [hb]; exact d4) (by rw [hb]; exact d7) hout hRframes (by simp only [List.map_cons, List.sum_cons, hcat]; omega) hlocks
  obtain ⟨f1, f2⟩ := vx_frame hsame
  rw [hhp] at f1 f2
  have hWs : s.WarmedH U.vm := State.WarmedH.trans hW0 hW
  have hcl : s.vm.findClass cls = some ce.cls := by
    have h9 := hO.cls
    rw [hvm] at h9
    exact h9
  have hall : s.sameButNew ({ U with vm := s.vm } : State) locs mc ms := by
    subst hA
    obtain ⟨e1, e2⟩ := hsame
    rw [State.setFrames_setFrames] at e1
    have h2 : (T.setVm s.vm).sameButNew ({ U with vm := s.vm } : State) [] (0 + 1) (0 + 6) := ⟨e1, e2⟩
    have h3 := X.same.trans h2
    rw [List.append_nil] at h3
    exact h3.mono hc hs
  refine ⟨U, ?_, .threw T.heap.size, hrun, hend, Or.inr ⟨T.heap.size, rfl, cls, ce, locs, hx U hWs.alike f1 (fun q hq => f2 q hq (fun z hz => nomatch hz)), hce, hO.vm, hcl, hWs, hall, hf⟩⟩
  refine st1 _ ?_
  show Steps p.tables e below (T1.setTop { method := m, pc := pc + 3, locals := ls, stack := .ref T.heap.size :: rest, locked := none }) _
  jvm_step X₁.here [X₁.here.top, hexec, d3', Value.category]
  exact hsteps
/-- 'throw new E("text")': new; dup; ldc; invokespecial; athrow -/
theorem vx_throwS {cc : ByteArray} {pc : Nat} (hexec : p.tables.exec = Jvm.exec) (hb : c.code = cc) (hl : l.stackTraces = false) {own cls text : String} {names : List String} {ik is ic mc ms sa : Nat} {A : Nat → Prop}
    (hown : s.vm.findClass own = some m.cls) (hcls : Bundle.fit cls = true) (hnames : ∀ n ∈ names, Bundle.fit n = true)
    (hk : (Cond.classLink own ik cls).before args s = true) (hini : (Cond.initialized cls).before args s = true) (hstr : vk_R own is text sa s) (hat : ∀ w ∈ vx_atS own ic cls names, w.before args s = true)
    (hgood : ∀ w ∈ Cond.classLink own ik cls :: Cond.initialized cls :: vx_atS own ic cls names, vx_ot w = true)
    (hU : vx_Zq Bundle.tN "UNASSIGNED_STACK" Bundle.steD A s s.heap) (hN : vx_Zq Bundle.tN "SUPPRESSED_SENTINEL" Bundle.listD A s s.heap) (hS : va_S A s.heap H locs) (hsize : ls.size = c.maxLocals)
    (d0 : decode cc pc = .ok (.new ik, 3)) (d3 : decode cc (pc + 3) = .ok (.dup, 1)) (d4 : decode cc (pc + 4) = .ok (.ldc is, 2)) (d6 : decode cc (pc + 6) = .ok (.invokespecial ic, 3)) (d9 : decode cc (pc + 9) = .ok (.athrow, 1))
    (hout : ∀ x ∈ c.exceptionTable.toList, covers x (pc + 9) = false)
    (hRframes : names.length + 3 < R.frames) (hRlocals : (rest.map fun v => v.category).sum + (13 * (names.length + 1) + 43) ≤ R.locals) (hRcells : cells + 1 ≤ R.cells) (hRslots : slots + 6 ≤ R.slots) (hlocks : meth.locks = false)
    (hx : ∀ t : State, s.vm.Alike t.vm → H.size ≤ t.heap.size → (∀ q : Nat, q < H.size → t.heap[q]? = H[q]?) → XC cls s t)
    (hf : ∀ z ∈ locs, free z.base) (hc : cells + 1 ≤ mc) (hs : slots + 6 ≤ ms) :
    W p l e R s m args below meth c H locs cells slots (vx_MQ below Qc XC args s mc ms free) (F0 m pc ls rest) := by
  intro T hT X
  have htr : e.platform.stackTraces = false := (show e.platform.stackTraces = l.stackTraces by rw [X.admits.platform]).trans hl
  have Y := vx_rebase X (R' := { frames := R.frames, locals := R.locals, cells := 1, slots := 6 }) (Nat.le_refl _) (Nat.le_refl _) hRcells hRslots
  obtain ⟨s', hA⟩ : ∃ z, z = (T.setVm s.vm).setFrames (.invoking m args :: below) := ⟨_, rfl⟩
  rw [← hA] at Y
  have hvm : s'.vm = s.vm := by rw [hA]; rfl
  have hhp : s'.heap = H := by rw [hA]; exact hT
  have hW0 : s.WarmedH s'.vm := by rw [hvm]; exact State.WarmedH.refl s
  have hat' : ∀ w ∈ vx_atS own ic cls names, w.before args s' = true := fun w hw => vx_ot_at hW0 hvm.symm (hgood w (List.mem_cons_of_mem _ (List.mem_cons_of_mem _ hw))) (hat w hw)
  have hk' : (Cond.classLink own ik cls).before args s' = true := vx_ot_at hW0 hvm.symm (hgood _ List.mem_cons_self) hk
  have hini' : (Cond.initialized cls).before args s' = true := vx_ot_at hW0 hvm.symm (hgood _ (List.mem_cons_of_mem _ List.mem_cons_self)) hini
  have hU' : vx_Zq Bundle.tN "UNASSIGNED_STACK" Bundle.steD A s' s'.heap := by rw [hhp]; exact vx_Zq.moved hW0.alike (hU.kept hS.2.1)
  have hN' : vx_Zq Bundle.tN "SUPPRESSED_SENTINEL" Bundle.listD A s' s'.heap := by rw [hhp]; exact vx_Zq.moved hW0.alike (hN.kept hS.2.1)
  have h : ∀ w ∈ Bundle.ownAtoms own ic cls names, w.before args s' = true := vx_own hat' (vx_isRefq hU'.1) (vx_isRefq hN'.1) hU'.2.word hN'.2.word
  have hown' : s'.vm.findClass own = some m.cls := by rw [hvm]; exact hown
  have hins : (Cond.instantiable cls 6).before args s' = true := h _ (by simp [Bundle.ownAtoms])
  obtain ⟨vm₁, cX, kX, hfX, hkX, -, -, X₁, st1⟩ := Y.newCold hexec (own := own) (C := cls) (index := ik) (n := 6) hown' hk' hins hini'
    (g := F0 m pc ls rest) rfl (by rw [hb]; exact d0) (Nat.le_refl _) (Nat.le_refl _)
  generalize hT1 : (T.setVm vm₁).pushCell { cls := cX, slots := kX.instanceTypes.map defaultValue, vm := .none } = T1 at X₁ st1
  have hcat : (Value.ref T.heap.size).category = 1 := rfl
  have hcellA : T1.heap[T.heap.size]? = some (freshCell cX kX) := by rw [← hT1]; exact State.heap_pushCell_size _ _
  have d3' : decode c.code (pc + 3) = .ok (.dup, 1) := by rw [hb]; exact d3
  have d4' : decode c.code (pc + 4) = .ok (.ldc is, 2) := by rw [hb]; exact d4
  have hstr' : vk_R own is text sa s' := vk_R.warm hW0 hstr
  obtain ⟨U, hsteps, hrun, hend, hW, hsame, ce, hce, hO⟩ := X₁.ctorThrowS hexec htr (own := own) (cls := cls) (names := names) (ic := ic) hown' hcls hnames h (fun x hx => nomatch hx) hfX hkX hcellA (by rw [hhp, hT]; exact Nat.le_refl _) (msg := .ref sa) rfl
    (g := { method := m, pc := pc + 6, locals := ls, stack := .ref sa :: .ref T.heap.size :: .ref T.heap.size :: rest, locked := none }) rfl hsize rfl rfl (rest := rest) rfl
    (by rw [hb]; exact d6) (by rw [hb]; exact d9) hout hRframes (by simp only [List.map_cons, List.sum_cons, hcat]; omega) hlocks
  obtain ⟨f1, f2⟩ := vx_frame hsame
  rw [hhp] at f1 f2
  have hWs : s.WarmedH U.vm := State.WarmedH.trans hW0 hW
  have hcl : s.vm.findClass cls = some ce.cls := by
    have h9 := hO.cls
    rw [hvm] at h9
    exact h9
  have hall : s.sameButNew ({ U with vm := s.vm } : State) locs mc ms := by
    subst hA
    obtain ⟨e1, e2⟩ := hsame
    rw [State.setFrames_setFrames] at e1
    have h2 : (T.setVm s.vm).sameButNew ({ U with vm := s.vm } : State) [] (0 + 1) (0 + 6) := ⟨e1, e2⟩
    have h3 := X.same.trans h2
    rw [List.append_nil] at h3
    exact h3.mono hc hs
  refine ⟨U, ?_, .threw T.heap.size, hrun, hend, Or.inr ⟨T.heap.size, rfl, cls, ce, locs, hx U hWs.alike f1 (fun q hq => f2 q hq (fun z hz => nomatch hz)), hce, hO.vm, hcl, hWs, hall, hf⟩⟩
  refine st1 _ ?_
  show Steps p.tables e below (T1.setTop { method := m, pc := pc + 3, locals := ls, stack := .ref T.heap.size :: rest, locked := none }) _
  jvm_step X₁.here [X₁.here.top, hexec, d3', Value.category]
  exact X₁.ldcString hexec (own := own) (text := text) (index := is) (a := sa) hown' hstr'.1 hstr'.2
    (g := { method := m, pc := pc + 4, locals := ls, stack := .ref T.heap.size :: .ref T.heap.size :: rest, locked := none }) rfl d4' _ hsteps
/-- 'throw new E("text")', the text by a wide index -/
theorem vx_throwSW {cc : ByteArray} {pc : Nat} (hexec : p.tables.exec = Jvm.exec) (hb : c.code = cc) (hl : l.stackTraces = false) {own cls text : String} {names : List String} {ik is ic mc ms sa : Nat} {A : Nat → Prop}
    (hown : s.vm.findClass own = some m.cls) (hcls : Bundle.fit cls = true) (hnames : ∀ n ∈ names, Bundle.fit n = true)
    (hk : (Cond.classLink own ik cls).before args s = true) (hini : (Cond.initialized cls).before args s = true) (hstr : vk_R own is text sa s) (hat : ∀ w ∈ vx_atS own ic cls names, w.before args s = true)
    (hgood : ∀ w ∈ Cond.classLink own ik cls :: Cond.initialized cls :: vx_atS own ic cls names, vx_ot w = true)
    (hU : vx_Zq Bundle.tN "UNASSIGNED_STACK" Bundle.steD A s s.heap) (hN : vx_Zq Bundle.tN "SUPPRESSED_SENTINEL" Bundle.listD A s s.heap) (hS : va_S A s.heap H locs) (hsize : ls.size = c.maxLocals)
    (d0 : decode cc pc = .ok (.new ik, 3)) (d3 : decode cc (pc + 3) = .ok (.dup, 1)) (d4 : decode cc (pc + 4) = .ok (.ldc_w is, 3)) (d7 : decode cc (pc + 7) = .ok (.invokespecial ic, 3)) (d10 : decode cc (pc + 10) = .ok (.athrow, 1))
    (hout : ∀ x ∈ c.exceptionTable.toList, covers x (pc + 10) = false)
    (hRframes : names.length + 3 < R.frames) (hRlocals : (rest.map fun v => v.category).sum + (13 * (names.length + 1) + 43) ≤ R.locals) (hRcells : cells + 1 ≤ R.cells) (hRslots : slots + 6 ≤ R.slots) (hlocks : meth.locks = false)
    (hx : ∀ t : State, s.vm.Alike t.vm → H.size ≤ t.heap.size → (∀ q : Nat, q < H.size → t.heap[q]? = H[q]?) → XC cls s t)
    (hf : ∀ z ∈ locs, free z.base) (hc : cells + 1 ≤ mc) (hs : slots + 6 ≤ ms) :
    W p l e R s m args below meth c H locs cells slots (vx_MQ below Qc XC args s mc ms free) (F0 m pc ls rest) := by
  intro T hT X
  have htr : e.platform.stackTraces = false := (show e.platform.stackTraces = l.stackTraces by rw [X.admits.platform]).trans hl
  have Y := vx_rebase X (R' := { frames := R.frames, locals := R.locals, cells := 1, slots := 6 }) (Nat.le_refl _) (Nat.le_refl _) hRcells hRslots
  obtain ⟨s', hA⟩ : ∃ z, z = (T.setVm s.vm).setFrames (.invoking m args :: below) := ⟨_, rfl⟩
  rw [← hA] at Y
  have hvm : s'.vm = s.vm := by rw [hA]; rfl
  have hhp : s'.heap = H := by rw [hA]; exact hT
  have hW0 : s.WarmedH s'.vm := by rw [hvm]; exact State.WarmedH.refl s
  have hat' : ∀ w ∈ vx_atS own ic cls names, w.before args s' = true := fun w hw => vx_ot_at hW0 hvm.symm (hgood w (List.mem_cons_of_mem _ (List.mem_cons_of_mem _ hw))) (hat w hw)
  have hk' : (Cond.classLink own ik cls).before args s' = true := vx_ot_at hW0 hvm.symm (hgood _ List.mem_cons_self) hk
  have hini' : (Cond.initialized cls).before args s' = true := vx_ot_at hW0 hvm.symm (hgood _ (List.mem_cons_of_mem _ List.mem_cons_self)) hini
  have hU' : vx_Zq Bundle.tN "UNASSIGNED_STACK" Bundle.steD A s' s'.heap := by rw [hhp]; exact vx_Zq.moved hW0.alike (hU.kept hS.2.1)
  have hN' : vx_Zq Bundle.tN "SUPPRESSED_SENTINEL" Bundle.listD A s' s'.heap := by rw [hhp]; exact vx_Zq.moved hW0.alike (hN.kept hS.2.1)
  have h : ∀ w ∈ Bundle.ownAtoms own ic cls names, w.before args s' = true := vx_own hat' (vx_isRefq hU'.1) (vx_isRefq hN'.1) hU'.2.word hN'.2.word
  have hown' : s'.vm.findClass own = some m.cls := by rw [hvm]; exact hown
  have hins : (Cond.instantiable cls 6).before args s' = true := h _ (by simp [Bundle.ownAtoms])
  obtain ⟨vm₁, cX, kX, hfX, hkX, -, -, X₁, st1⟩ := Y.newCold hexec (own := own) (C := cls) (index := ik) (n := 6) hown' hk' hins hini'
    (g := F0 m pc ls rest) rfl (by rw [hb]; exact d0) (Nat.le_refl _) (Nat.le_refl _)
  generalize hT1 : (T.setVm vm₁).pushCell { cls := cX, slots := kX.instanceTypes.map defaultValue, vm := .none } = T1 at X₁ st1
  have hcat : (Value.ref T.heap.size).category = 1 := rfl
  have hcellA : T1.heap[T.heap.size]? = some (freshCell cX kX) := by rw [← hT1]; exact State.heap_pushCell_size _ _
  have d3' : decode c.code (pc + 3) = .ok (.dup, 1) := by rw [hb]; exact d3
  have d4' : decode c.code (pc + 4) = .ok (.ldc_w is, 3) := by rw [hb]; exact d4
  have hstr' : vk_R own is text sa s' := vk_R.warm hW0 hstr
  obtain ⟨U, hsteps, hrun, hend, hW, hsame, ce, hce, hO⟩ := X₁.ctorThrowS hexec htr (own := own) (cls := cls) (names := names) (ic := ic) hown' hcls hnames h (fun x hx => nomatch hx) hfX hkX hcellA (by rw [hhp, hT]; exact Nat.le_refl _) (msg := .ref sa) rfl
    (g := { method := m, pc := pc + 7, locals := ls, stack := .ref sa :: .ref T.heap.size :: .ref T.heap.size :: rest, locked := none }) rfl hsize rfl rfl (rest := rest) rfl
    (by rw [hb]; exact d7) (by rw [hb]; exact d10) hout hRframes (by simp only [List.map_cons, List.sum_cons, hcat]; omega) hlocks
  obtain ⟨f1, f2⟩ := vx_frame hsame
  rw [hhp] at f1 f2
  have hWs : s.WarmedH U.vm := State.WarmedH.trans hW0 hW
  have hcl : s.vm.findClass cls = some ce.cls := by
    have h9 := hO.cls
    rw [hvm] at h9
    exact h9
  have hall : s.sameButNew ({ U with vm := s.vm } : State) locs mc ms := by
    subst hA
    obtain ⟨e1, e2⟩ := hsame
    rw [State.setFrames_setFrames] at e1
    have h2 : (T.setVm s.vm).sameButNew ({ U with vm := s.vm } : State) [] (0 + 1) (0 + 6) := ⟨e1, e2⟩
    have h3 := X.same.trans h2
    rw [List.append_nil] at h3
    exact h3.mono hc hs
  refine ⟨U, ?_, .threw T.heap.size, hrun, hend, Or.inr ⟨T.heap.size, rfl, cls, ce, locs, hx U hWs.alike f1 (fun q hq => f2 q hq (fun z hz => nomatch hz)), hce, hO.vm, hcl, hWs, hall, hf⟩⟩
  refine st1 _ ?_
  show Steps p.tables e below (T1.setTop { method := m, pc := pc + 3, locals := ls, stack := .ref T.heap.size :: rest, locked := none }) _
  jvm_step X₁.here [X₁.here.top, hexec, d3', Value.category]
  exact X₁.ldcStringW hexec (own := own) (text := text) (index := is) (a := sa) hown' hstr'.1 hstr'.2
    (g := { method := m, pc := pc + 4, locals := ls, stack := .ref T.heap.size :: .ref T.heap.size :: rest, locked := none }) rfl d4' _ hsteps
end Ends
section Bodies
variable {l : Launch}
theorem vx_ofW {y : MethodName} {ws ws' : List Cond} {rm : Room} {Pc : Array Value → State → Prop} {Qc : Array Value → State → Outcome → State → Prop} {XC : String → State → State → Prop} {mc ms : Nat} {free : Addr → Prop} {cc : ByteArray} {maxL : Nat} {ret : Option FieldType}
    (hy : plainFor y = true) (hw : ws = Cond.code y cc maxL ret :: ws')
    (body : ∀ p e s m args below meth c s₁, BodyLoose p l y (headSpec ws rm) cc maxL ret e s m args below meth c s₁ → c.maxLocals = maxL → (∀ x ∈ c.exceptionTable.toList, False) → Pc args s →
      W p l e (headSpec ws rm).room s m args below meth c s.heap [] 0 0 (vx_MQ below Qc XC args s mc ms free) (entryFrame m args maxL)) : vx_Met l y ws rm Pc Qc XC mc ms free := by
  refine MetFree.of_bodySF (code := cc) (maxLocals := maxL) (ret := ret) hy ?_ ?_
  · intro args s m h hn
    obtain ⟨meth, c, h1, h2, h3, h4, h5, h6, -, -⟩ := Cond.code_spec hn (atoms_spec (ws := ws) h _ (by rw [hw]; exact List.mem_cons_self))
    exact ⟨meth, c, h1, h2, h3, h4, h5, h6⟩
  · intro p e s m args below meth c s₁ B hml hP _
    have hh0 : s₁.heap = s.heap := by rw [B.state]; rfl
    have ht : ∀ x ∈ c.exceptionTable.toList, False := by
      obtain ⟨meth9, c9, h1, h2, -, -, -, -, h7, -⟩ := Cond.code_spec B.named (atoms_spec (ws := ws) B.pre _ (by rw [hw]; exact List.mem_cons_self))
      cases Option.some.inj (h1.symm.trans B.method)
      cases Option.some.inj (h2.symm.trans (Stand.of_body B).code)
      intro x hx
      rw [Array.isEmpty_iff.mp h7] at hx
      cases hx
    obtain ⟨t, a1, o, b1, b2, b3⟩ := body p e s m args below meth c s₁ B hml ht hP s₁ hh0 (Stand.of_body B)
    exact ⟨t, o, a1, b1, b2, b3⟩
/-- the table of a body with handlers -/
theorem vx_table {p : Program} {x y : MethodName} {S : Spec} {cc bytes : ByteArray} {maxL maxL' : Nat} {ret ret' : Option FieldType} {e : Env} {s s₁ : State} {m : MethodId} {args : Array Value} {below : List Frame} {meth : Method} {c : Code} {hh : List (Nat × Nat × Nat × Nat)}
    (B : BodyLoose p l y S cc maxL ret e s m args below meth c s₁) (h : (Cond.codeWith y bytes maxL' ret' hh).before args s = true) : c.exceptionTable.toList = tableOf hh := by
  obtain ⟨m9, meth9, c9, hn9, h1, h2, -, -, h6, -⟩ := Cond.codeWith_spec h
  cases Option.some.inj (hn9.symm.trans B.named)
  cases Option.some.inj (h1.symm.trans B.method)
  cases Option.some.inj (h2.symm.trans (Stand.of_body B).code)
  rw [← h6, table_eq]
end Bodies
end VXA
/-! ===== END ===== -/
/-! ===== BEGIN a static call of a method with an exception table ===== -/
section VXS
variable {p : Program} {l : Launch} {e : Env} {R : Room} {s : State} {m : MethodId} {args : Array Value} {below : List Frame} {meth : Method} {c : Code} {T : State} {H : Heap} {locs : List Loc} {cells slots : Nat}
abbrev vx_CSW (R : Room) (s : State) (args : Array Value) (own : String) (index : Nat) (y : MethodName) (bytes : ByteArray) (maxL : Nat) (ret : Option FieldType) (hh : List (Nat × Nat × Nat × Nat)) (ws : List Cond) (rm : Room) (mc ms n : Nat) : Prop :=
  (rm.cells = mc ∧ rm.slots = ms ∧ rm.frames + 1 ≤ R.frames ∧ 8 + (maxL + 11) + rm.locals ≤ R.locals ∧ (∀ w ∈ ws, ∀ (a' : Array Value) (U : State), s.WarmedH U.vm → w.before a' U = true) ∧ Cond.codeWith y bytes maxL ret hh ∈ ws) ∧
  (Cond.codeWith y bytes maxL ret hh).before args s = true ∧ (Cond.initialized y.cls).before args s = true ∧ (y.cls ≠ "java/lang/invoke/MethodHandle" ∧ y.cls ≠ "java/lang/invoke/VarHandle") ∧
  (∀ sig, parseMethodDescriptor y.desc = some sig → n = sig.parameters.length) ∧ (Cond.methodLink own index y).before args s = true ∧ (Cond.static y).before args s = true
theorem vx_cwSW {own : String} {index maxL mc ms : Nat} {y : MethodName} {bytes : ByteArray} {ret : Option FieldType} {hh : List (Nat × Nat × Nat × Nat)} {Ts ws ws' : List Cond} {rm : Room} (n : Nat) (ht : ∀ w ∈ Ts, w.before args s = true) (hT : GoodIn Ts (va_wsS own index y ws)) (hw : ws = Cond.codeWith y bytes maxL ret hh :: ws') (hrc : rm.cells = mc) (hrs : rm.slots = ms)
    (hd : y.cls ≠ "java/lang/invoke/MethodHandle" ∧ y.cls ≠ "java/lang/invoke/VarHandle" ∧ (parseMethodDescriptor y.desc).map (fun d => d.parameters.length) = some n) (hR : rm.frames + 1 ≤ R.frames ∧ 8 + (maxL + 11) + rm.locals ≤ R.locals) :
    vx_CSW R s args own index y bytes maxL ret hh ws rm mc ms n := by
  have ok : ∀ w ∈ va_wsS own index y ws, w.before args s = true := fun w h => ht w (hT w h).1
  have hG : GoodIn Ts ws := fun w h => hT w (by unfold va_wsS; exact List.mem_append_right _ h)
  have hc : Cond.codeWith y bytes maxL ret hh ∈ ws := by rw [hw]; exact List.mem_cons_self
  refine ⟨⟨hrc, hrs, hR.1, hR.2, pay_in ht hG, hc⟩, ht _ (hG _ hc).1, ok _ (by simp [va_wsS]), ⟨hd.1, hd.2.1⟩, fun sig h => ?_, ok _ (by simp [va_wsS]), ok _ (by simp [va_wsS])⟩
  have h2 := hd.2.2
  rw [h] at h2
  exact (Option.some.inj h2).symm
theorem vx_callSW (X : Stand p l e R s m args below meth c T locs cells slots) (hexec : p.tables.exec = Jvm.exec) {own : String} {index : Nat} {y : MethodName} {bytes : ByteArray} {maxL : Nat} {ret : Option FieldType} {hh : List (Nat × Nat × Nat × Nat)}
    (hown : s.vm.findClass own = some m.cls) (hlink : (Cond.methodLink own index y).before args s = true) (hstat : (Cond.static y).before args s = true) (hinit : (Cond.initialized y.cls).before args s = true)
    (hcode : (Cond.codeWith y bytes maxL ret hh).before args s = true) (hy : y.cls ≠ "java/lang/invoke/MethodHandle" ∧ y.cls ≠ "java/lang/invoke/VarHandle")
    {W9 : Nat} {Pre : Pt → Array Value → Prop} {Post : Pt → Array Value → Option Value → Pt → Prop} (hK : Back l R p e below s args y 3 W9 Pre Post)
    {g : JFrame} (hg : g.method = m) (hsize : g.locals.size = c.maxLocals) {argsL rest : List Value} (hlen : ∀ sig, parseMethodDescriptor y.desc = some sig → argsL.length = sig.parameters.length)
    (hstack : g.stack = argsL.reverse ++ rest) (hW : 2 * g.monitorRoom + (rest.map fun v => v.category).sum ≤ W9) (hdg : decode c.code g.pc = .ok (.invokestatic index, 3))
    (hpre : ∀ vm₁, s.WarmedH vm₁ → Pre ⟨T.setVm vm₁, locs, cells, slots⟩ argsL.toArray) :
    ∃ (v : Option Value) (vm₁ : Vm) (B : Pt), s.WarmedH vm₁ ∧ Stand p l e R s m args below meth c B.U B.locs B.cells B.slots ∧ Post ⟨T.setVm vm₁, locs, cells, slots⟩ argsL.toArray v B ∧
      ∀ target, Steps p.tables e below (B.U.setTop { g with pc := g.pc + 3, stack := v.toList ++ rest }) target → Steps p.tables e below (T.setTop g) target := by
  obtain ⟨mk, methM, cM, hnamed, hmethM, -, -, -, -, -, -, hsigM⟩ := Cond.codeWith_spec hcode
  have hstatic : methM.isStatic = true := Cond.static_spec hnamed hmethM hstat
  obtain ⟨kP, hkP, -⟩ := className_of_methodNamed hnamed
  have hinitP : kP.init = .initialized := Cond.initialized_spec (findClass_of_methodNamed hnamed) hkP hinit
  obtain ⟨vm₁, X₁, hstep₁⟩ := X.invokestatic hexec hown hlink hnamed hmethM hstatic hkP hinitP hy (g := g) hg (argsL := argsL) (rest := rest) (hlen _ hsigM) hstack hdg
  obtain ⟨v, B, X', hpost, hsteps⟩ := hK m meth c ⟨T.setVm vm₁, locs, cells, slots⟩ { g with stack := rest } (.invokestatic index) mk argsL.toArray X₁ hg hsize hdg hW (X₁.named hnamed) (hpre vm₁ X₁.warmed)
  exact ⟨v, vm₁, B, X₁.warmed, X', hpost, fun target h => hstep₁ _ fun acts => by rw [doInvoke_state]; exact hsteps.trans h⟩
theorem vx_runSW {y : MethodName} {bytes cc : ByteArray} {maxL nL mc ms n index : Nat} {ret : Option FieldType} {hh : List (Nat × Nat × Nat × Nat)} {ws : List Cond} {rm : Room} {Pc : Array Value → State → Prop} {Qc : Array Value → State → Outcome → State → Prop} {free : Addr → Prop} {Ts : List Cond} {own : String} {As rest : List Value} {g : JFrame}
    (S : CallFix p m c cc nL s args Ts own) (hM : Met l y ws rm Pc Qc mc ms free) (cw : vx_CSW R s args own index y bytes maxL ret hh ws rm mc ms n) (hp : PreS s H Pc As)
    (hg : g.method = m) (hn : As.length = n) (hsize : g.locals.size = nL) (hstack : g.stack = As.reverse ++ rest) (hW : 2 * g.monitorRoom + (rest.map fun v => v.category).sum ≤ 8) (hdg : decode cc g.pc = .ok (.invokestatic index, 3)) (hf : cells + mc ≤ R.cells ∧ slots + ms ≤ R.slots) :
    va_Run p l e R s m args below meth c H locs cells slots mc ms g rest (Qc As.toArray) (free) := by
  obtain ⟨⟨hrc, hrs, hfr, hlo, hws, hcw⟩, hcode, hini, hy, hlen, hl, hstt⟩ := cw
  have hK : Back l R p e below s args y 3 8 (PreOf R mc ms Pc) (PostOf Qc mc ms free) := va_backW (hh := hh) (bytes := bytes) (maxL := maxL) (ret := ret) hM hp.1 hrc hrs hfr hlo hws hcw (fun a' U hW => word_at hW (Or.inl (by first | rfl | simp [Cond.onTables, Cond.keeps, Cond.steady])) hini)
  obtain ⟨hx, hb, hml, ho, -⟩ := S
  intro T hT X
  obtain ⟨v, vm₁, ⟨U', l2, c2, s2⟩, hW₁, X', ⟨g', mk, t, L, e1, e2, hq, h1, hL, h2, h3⟩, st⟩ := vx_callSW X hx (hh := hh) (bytes := bytes) (maxL := maxL) (ret := ret) ho hl hstt hini hcode hy hK hg (hsize.trans hml.symm) (argsL := As) (rest := rest) (fun sig h => hn.trans (hlen sig h)) hstack hW (by rw [hb]; exact hdg)
    (fun vm₁ hW₁ => ⟨hf.1, hf.2, hp.2 (T.setVm vm₁) hT hW₁⟩)
  dsimp only [Pt.U, Pt.locs, Pt.cells, Pt.slots] at X' e1 e2 h1 h2 h3 st
  subst h1; subst h2; subst h3
  exact ⟨v, (T.setVm vm₁).calling g' mk As.toArray, t, U', L, hT, X', hL, e1, e2, hq, st⟩
/-- not caught here, past rows that name other classes: it goes on to the caller -/
theorem vx_outP {p : Program} {l : Launch} {e : Env} {R : Room} {s : State} {m : MethodId} {args : Array Value} {below : List Frame} {meth : Method} {c : Code} {H : Heap} {locs : List Loc} {cells slots : Nat} {free : Addr → Prop} {ls : Array Slot} {rest : List Value} {Qc : Array Value → State → Outcome → State → Prop} {XC : String → State → State → Prop}
    {pc : Nat} {own E : String} {ce : Cell} {q : Addr} {mc ms : Nat} (hown : s.vm.findClass own = some m.cls) (hlocks : meth.locks = false)
    (hpass : ∀ z ∈ c.exceptionTable.toList, covers z pc = false ∨ (z.catchType ≠ 0 ∧ ∃ nm : String, (Cond.classLink own z.catchType nm).before args s = true ∧ va_Nc E nm s)) (hcell : H[q]? = some ce) (hv : ce.vm = .none) (hcl : s.vm.findClass E = some ce.cls)
    (hx : ∀ t : State, t.heap = H → s.vm.Alike t.vm → XC E s t) (hf : ∀ z ∈ locs, free z.base) (hc : cells ≤ mc) (hs : slots ≤ ms) :
    vx_W p l e R s m args below meth c H locs cells slots (vx_MQ below Qc XC args s mc ms free) (F0 m pc ls rest) q := by
  intro T hT X
  have hpl : e.platform.magicAccessors = ({} : Platform).magicAccessors := by rw [X.admits.platform]
  obtain ⟨vm', hW', X', st⟩ := X.outThrough hlocks q (g := F0 m pc ls rest) rfl rfl rfl (cell := ce) (by rw [hT]; exact hcell) (by rw [hv]; rfl)
    (by obtain ⟨k9, h9, -⟩ := Vm.findClass_spec hcl; exact ⟨k9, h9⟩) (fun z hz => by
      rcases hpass z hz with h | ⟨hz0, nm, hl1, hn1⟩
      · exact Or.inl h
      · obtain ⟨c6, hc6, hcl6⟩ := Cond.classLink_spec hown hl1 e.platform hpl
        obtain ⟨a8, b8, h1, h2, h3⟩ := hn1
        cases Option.some.inj (h1.symm.trans hcl)
        cases Option.some.inj (h2.symm.trans hc6)
        exact Or.inr ⟨hz0, _, hcl6, h3⟩)
  obtain ⟨g₀, hfr⟩ := X'.frames_eq
  have hcell9 : ((T.setVm vm').setFrames (.throwing q :: below)).heap[q]? = some ce := by
    show T.heap[q]? = some ce
    rw [hT]; exact hcell
  have hend : Ended ((T.setVm vm').setFrames (.throwing q :: below)) below (.threw q) := State.frames_setFrames _ (State.cur_lt_of_frames hfr)
  refine ⟨(T.setVm vm').setFrames (.throwing q :: below), ?_, .threw q, X'.here.running, hend, Or.inr ⟨q, rfl, E, ce, locs, hx _ hT (X'.ends _).1.alike, hcell9, hv, hcl, (X'.ends _).1, (X'.ends _).2.mono hc hs, hf⟩⟩
  rw [X.pushThrowing_eq]
  exact st
/-- a thing of a world lies in the heap -/
theorem vx_lt {D : va_G} {cl : List vw_C} {ws : va_W} {H1 : Heap} (h : va_P D cl ws H1) {k : Nat} {q : Nat × va_E} (hk : ws[k]? = some q) : q.1 < H1.size := (h k q hk).lt
end VXS
/-! ===== END ===== -/
/-! ===== BEGIN methods with a table of their own: called by a name, returning or throwing ===== -/
section VXH
/-! vx_backW, vx_callVX, vx_callSX, vx_callVW, vx_runVW, vx_runVX, vx_runSX, vx_ofWH follow the same proofs as their sisters above (Free/Laws.lean, Shelf42/LK1.lean); vx_outP calls Shelf42/NT130.lean (outThrough). -/
section
variable {l : Launch} {R : Room} {p : Program} {e : Env} {below : List Frame} {s : State} {sargs : Array Value} {y : MethodName} {len W9 : Nat}
theorem vx_backW {ws : List Cond} {rm : Room} {Pc : Array Value → State → Prop} {Qc : Array Value → State → Outcome → State → Prop} {XC : String → State → State → Prop} {mc ms : Nat} {free : Addr → Prop} {bytes : ByteArray} {maxL : Nat} {ret : Option FieldType} {hh : List (Nat × Nat × Nat × Nat)}
    (hM : vx_Met l y ws rm Pc Qc XC mc ms free) (hblind : FrameBlind Pc) (hrc : rm.cells = mc) (hrs : rm.slots = ms)
    (hframes : rm.frames + 1 ≤ R.frames) (hlocals : W9 + (maxL + 11) + rm.locals ≤ R.locals)
    (hws : ∀ w ∈ ws, ∀ a' U, s.WarmedH U.vm → w.before a' U = true) (hcode : Cond.codeWith y bytes maxL ret hh ∈ ws) (hinit : ∀ a' U, s.WarmedH U.vm → (Cond.initialized y.cls).before a' U = true) :
    vx_Back l R p e below s sargs y len W9 (PreOf R mc ms Pc) (PostOf Qc mc ms free) (vx_Post XC mc ms free) := by
  intro m meth c A g ig mk a X hg hsize hdg hW hn hp
  have h1 : (headSpec ws rm).pre.before a A.U = true := atoms_intro fun w hw => hws w hw _ _ X.warmed
  have h2 : (Cond.codeWith y bytes maxL ret hh).before a A.U = true := hws _ hcode _ _ X.warmed
  have h3 : (Cond.initialized y.cls).before a A.U = true := hinit _ _ X.warmed
  have h4 : A.cells + (headSpec ws rm).room.cells ≤ R.cells := by rw [show (headSpec ws rm).room.cells = mc from hrc]; exact hp.1
  have h5 : A.slots + (headSpec ws rm).room.slots ≤ R.slots := by rw [show (headSpec ws rm).room.slots = ms from hrs]; exact hp.2.1
  have hPc : Pc a (A.U.calling g mk a) := hblind _ _ _ _ hp.2.2
  obtain ⟨U, Ls, c0, s0⟩ := A
  dsimp only [Pt.U, Pt.locs, Pt.cells, Pt.slots] at h1 h2 h3 h4 h5 X hn hPc ⊢
  obtain ⟨m9, methY, cY, hn9, hmY, hcY, -, hlY, -⟩ := Cond.codeWith_spec h2
  cases Option.some.inj (hn9.symm.trans hn)
  obtain ⟨kY, hkY, -⟩ := className_of_methodNamed hn
  have hinitY : kY.init = .initialized := Cond.initialized_spec (findClass_of_methodNamed hn) hkY h3
  have h : At U g.method c below := by rw [hg]; exact X.here
  have hlocals9 : W9 + (maxL + 11) + (headSpec ws rm).room.locals ≤ R.locals := hlocals
  have happ : (headSpec ws rm).appliesLoose y e.platform (U.calling g mk a) = true :=
    Spec.appliesLoose_calling (g := g) h hdg hn hkY hinitY
      (X.room_calling (g := g) (R' := (headSpec ws rm).room) hsize hmY hcY hframes (by rw [hlY]; omega) h4 h5) h1
  obtain ⟨mid, hmid⟩ := h.above
  have hfr : (U.setTop g).frames = (.java g :: mid) ++ below := by rw [State.frames_setTop' g h.top, hmid]; rfl
  obtain ⟨o, s₂, hsteps, -, hend, hq⟩ := Steps.callFree hM p X.admits X.cas X.clock (acts := []) hfr happ hPc trivial
  have hq' : vx_Q Qc XC mc ms free a (U.calling g mk a) o s₂ := hq
  rw [State.frames_setTop' g h.top] at hend
  obtain ⟨g₀, hg0⟩ := Option.isSome_iff_exists.mp h.top
  obtain ⟨r, hr⟩ := State.topJava?_eq_some.mp hg0
  have hr' : (({ U with heap := s₂.heap, slotsUsed := s₂.slotsUsed } : State).setVm s₂.vm).frames = .java g₀ :: r := hr
  rcases hq' with ⟨hqc, L, hfe, hL⟩ | ⟨q, rfl, E, ce, L, hx, hce, hcv, hcl, hW₂, hsm, hL⟩
  · obtain ⟨⟨v, rfl⟩, hW₂, e2, q2, q3, q4, q5, q6⟩ := id hfe
    have e3 : s₂ = ({ (U.calling g mk a).setFrames s₂.frames with heap := s₂.heap, slotsUsed := s₂.slotsUsed } : State).setVm s₂.vm := by
      have : s₂ = ({ s₂ with vm := (U.calling g mk a).vm } : State).setVm s₂.vm := rfl
      rw [e2] at this
      exact this
    obtain ⟨c₂, i₂, len₂, hc₂, hd₂, hf₂⟩ := hend
    have hW' : U.WarmedH s₂.vm := hW₂
    have hcc : c₂ = c := by
      have h1 : s₂.code? g.method = U.code? g.method := by
        rw [State.code?_eq, State.code?_eq, hW'.alike.method?]
      exact Option.some.inj (hc₂.symm.trans (h1.trans h.code))
    subst hcc
    have hlen : len₂ = len := by rw [hdg] at hd₂; cases hd₂; rfl
    subst hlen
    have hs₂ : s₂ = (({ U with heap := s₂.heap, slotsUsed := s₂.slotsUsed } : State).setVm s₂.vm).setTop { g with pc := g.pc + len₂, stack := v.toList ++ g.stack } := by
      refine e3.trans ?_
      rw [hf₂, State.calling_eq h.top, State.setFrames_setFrames, State.setTop_of_frames _ hr', hr]
      rfl
    have hsame : U.sameButNew ({ U with heap := s₂.heap, slotsUsed := s₂.slotsUsed } : State) L mc ms := by
      refine ⟨?_, q2, q3, q4, q5, q6⟩
      obtain ⟨t, ht, -⟩ := State.frames_cons hr
      show ({ U with heap := s₂.heap, slotsUsed := s₂.slotsUsed } : State) = { U.setFrames U.frames with heap := s₂.heap, slotsUsed := s₂.slotsUsed }
      rw [State.setFrames_self ht]
    subst hg
    refine Or.inl ⟨v, ⟨(({ U with heap := s₂.heap, slotsUsed := s₂.slotsUsed } : State).setVm s₂.vm), Ls ++ L, c0 + mc, s0 + ms⟩,
      ⟨X.admits, X.cas, X.clock, X.frames, X.room, X.hears, X.method, X.code, (X.here.setHeapUsed s₂.heap s₂.slotsUsed).setVm hW'.alike, X.tail, State.WarmedH.trans X.warmed hW', X.limits, X.bytes, X.same.trans (hsame.setVm s.vm)⟩,
      ⟨g, mk, s₂, L, rfl, rfl, hqc, rfl, hL, rfl, rfl⟩, ?_⟩
    show Steps p.tables e below _ ((({ U with heap := s₂.heap, slotsUsed := s₂.slotsUsed } : State).setVm s₂.vm).setTop { g with pc := g.pc + len₂, stack := v.toList ++ g.stack })
    rw [← hs₂]
    exact hsteps
  · obtain ⟨e2, q2, q3, q4, q5, q6⟩ := id hsm
    have e3 : s₂ = ({ (U.calling g mk a).setFrames s₂.frames with heap := s₂.heap, slotsUsed := s₂.slotsUsed } : State).setVm s₂.vm := by
      have : s₂ = ({ s₂ with vm := (U.calling g mk a).vm } : State).setVm s₂.vm := rfl
      rw [e2] at this
      exact this
    have hf₂ : s₂.frames = .throwing q :: .java g :: U.frames.tail := hend
    have hW' : U.WarmedH s₂.vm := hW₂
    have hs₂ : s₂ = ((({ U with heap := s₂.heap, slotsUsed := s₂.slotsUsed } : State).setVm s₂.vm).setTop g).pushFrame (.throwing q) := by
      refine e3.trans ?_
      rw [hf₂, State.calling_eq h.top, State.setFrames_setFrames, State.pushFrame, State.frames_setTop _ hr', State.setTop_of_frames _ hr', State.setFrames_setFrames, hr]
      rfl
    have hsame : U.sameButNew ({ U with heap := s₂.heap, slotsUsed := s₂.slotsUsed } : State) L mc ms := by
      refine ⟨?_, q2, q3, q4, q5, q6⟩
      obtain ⟨t, ht, -⟩ := State.frames_cons hr
      show ({ U with heap := s₂.heap, slotsUsed := s₂.slotsUsed } : State) = { U.setFrames U.frames with heap := s₂.heap, slotsUsed := s₂.slotsUsed }
      rw [State.setFrames_self ht]
    subst hg
    refine Or.inr ⟨q, ⟨(({ U with heap := s₂.heap, slotsUsed := s₂.slotsUsed } : State).setVm s₂.vm), Ls ++ L, c0 + mc, s0 + ms⟩,
      ⟨X.admits, X.cas, X.clock, X.frames, X.room, X.hears, X.method, X.code, (X.here.setHeapUsed s₂.heap s₂.slotsUsed).setVm hW'.alike, X.tail, State.WarmedH.trans X.warmed hW', X.limits, X.bytes, X.same.trans (hsame.setVm s.vm)⟩,
      ⟨g, mk, s₂, L, E, ce, rfl, rfl, hx, hce, hcv, hcl, rfl, hL, rfl, rfl⟩, ?_⟩
    show Steps p.tables e below _ (((({ U with heap := s₂.heap, slotsUsed := s₂.slotsUsed } : State).setVm s₂.vm).setTop g).pushFrame (.throwing q))
    rw [← hs₂]
    exact hsteps
end
variable {p : Program} {l : Launch} {e : Env} {R : Room} {s : State} {m : MethodId} {args : Array Value} {below : List Frame} {meth : Method} {c : Code} {T : State} {H : Heap} {locs : List Loc} {cells slots : Nat}
theorem vx_callVX (X : Stand p l e R s m args below meth c T locs cells slots) (hexec : p.tables.exec = Jvm.exec) {own C : String} {index : Nat} {y : MethodName} {bytes : ByteArray} {maxL : Nat} {ret : Option FieldType} {hh : List (Nat × Nat × Nat × Nat)}
    (hown : s.vm.findClass own = some m.cls) (hlink : (Cond.methodLink own index y).before args s = true) (hinst : (Cond.instanceMethod y).before args s = true) (hsel : (Cond.selects C y y).before args s = true)
    (hcode : (Cond.codeWith y bytes maxL ret hh).before args s = true) (hy : y.cls ≠ "java/lang/invoke/MethodHandle" ∧ y.cls ≠ "java/lang/invoke/VarHandle")
    {W9 : Nat} {Pre : Pt → Array Value → Prop} {Post : Pt → Array Value → Option Value → Pt → Prop} {PostX : Pt → Array Value → Addr → Pt → Prop} (hK : vx_Back l R p e below s args y 3 W9 Pre Post PostX)
    {b : Addr} {cellB : Cell} (hcell : T.heap[b]? = some cellB) (hobj : cellB.vm.isStatics = false) (hcls : s.vm.findClass C = some cellB.cls)
    {g : JFrame} (hg : g.method = m) (hsize : g.locals.size = c.maxLocals) {argsL rest : List Value} (hlen : ∀ sig, parseMethodDescriptor y.desc = some sig → argsL.length = sig.parameters.length)
    (hstack : g.stack = argsL.reverse ++ .ref b :: rest) (hW : 2 * g.monitorRoom + (rest.map fun v => v.category).sum ≤ W9) (hdg : decode c.code g.pc = .ok (.invokevirtual index, 3))
    (hpre : ∀ vm₁, s.WarmedH vm₁ → Pre ⟨T.setVm vm₁, locs, cells, slots⟩ (Value.ref b :: argsL).toArray) :
    (∃ (v : Option Value) (vm₁ : Vm) (B : Pt), s.WarmedH vm₁ ∧ Stand p l e R s m args below meth c B.U B.locs B.cells B.slots ∧ Post ⟨T.setVm vm₁, locs, cells, slots⟩ (Value.ref b :: argsL).toArray v B ∧
      ∀ target, Steps p.tables e below (B.U.setTop { g with pc := g.pc + 3, stack := v.toList ++ rest }) target → Steps p.tables e below (T.setTop g) target) ∨
    (∃ (q : Addr) (vm₁ : Vm) (B : Pt), s.WarmedH vm₁ ∧ Stand p l e R s m args below meth c B.U B.locs B.cells B.slots ∧ PostX ⟨T.setVm vm₁, locs, cells, slots⟩ (Value.ref b :: argsL).toArray q B ∧
      Steps p.tables e below (T.setTop g) ((B.U.setTop { g with stack := rest }).pushFrame (.throwing q))) := by
  obtain ⟨mk, methM, hnamed, hmethM, hstM, habM⟩ := Cond.instanceMethod_spec hinst
  obtain ⟨m8, methM', cM, hn8, hmethM', -, -, -, -, -, -, hsigM⟩ := Cond.codeWith_spec hcode
  cases Option.some.inj (hn8.symm.trans hnamed)
  cases hmethM.symm.trans hmethM'
  obtain ⟨c2, r2, m2, q1, q2, q3, q4, kP, hkP, hkPi⟩ := Cond.selects_spec hsel
  cases hcls.symm.trans q1
  cases (State.methodFound?_of_named hnamed hy).symm.trans q2
  cases hnamed.symm.trans q3
  have hselP : selectMethod e.platform s.vm cellB.cls mk = .method mk := by rw [Launch.admits_selectMethod X.admits]; exact q4
  obtain ⟨vm₁, X₁, hstep₁⟩ := X.invokevirtual hexec hown hlink hnamed hmethM hstM hkP hkPi hy (a := b) (cell := cellB) hcell
    (fun z h => by rw [h] at hobj; cases hobj) hselP hmethM habM hkP hkPi (g := g) hg (argsL := argsL) (rest := rest) (hlen _ hsigM) hstack hdg
  rcases hK m meth c ⟨T.setVm vm₁, locs, cells, slots⟩ { g with stack := rest } (.invokevirtual index) mk (Value.ref b :: argsL).toArray X₁ hg hsize hdg hW (X₁.named hnamed) (hpre vm₁ X₁.warmed) with ⟨v, B, X', hpost, hsteps⟩ | ⟨q, B, X', hpost, hsteps⟩
  · exact Or.inl ⟨v, vm₁, B, X₁.warmed, X', hpost, fun target h => hstep₁ _ fun acts => by rw [doInvoke_state]; exact hsteps.trans h⟩
  · exact Or.inr ⟨q, vm₁, B, X₁.warmed, X', hpost, hstep₁ _ fun acts => by rw [doInvoke_state]; exact hsteps⟩
theorem vx_callSX (X : Stand p l e R s m args below meth c T locs cells slots) (hexec : p.tables.exec = Jvm.exec) {own : String} {index : Nat} {y : MethodName} {bytes : ByteArray} {maxL : Nat} {ret : Option FieldType} {hh : List (Nat × Nat × Nat × Nat)}
    (hown : s.vm.findClass own = some m.cls) (hlink : (Cond.methodLink own index y).before args s = true) (hstat : (Cond.static y).before args s = true) (hinit : (Cond.initialized y.cls).before args s = true)
    (hcode : (Cond.codeWith y bytes maxL ret hh).before args s = true) (hy : y.cls ≠ "java/lang/invoke/MethodHandle" ∧ y.cls ≠ "java/lang/invoke/VarHandle")
    {W9 : Nat} {Pre : Pt → Array Value → Prop} {Post : Pt → Array Value → Option Value → Pt → Prop} {PostX : Pt → Array Value → Addr → Pt → Prop} (hK : vx_Back l R p e below s args y 3 W9 Pre Post PostX)
    {g : JFrame} (hg : g.method = m) (hsize : g.locals.size = c.maxLocals) {argsL rest : List Value} (hlen : ∀ sig, parseMethodDescriptor y.desc = some sig → argsL.length = sig.parameters.length)
    (hstack : g.stack = argsL.reverse ++ rest) (hW : 2 * g.monitorRoom + (rest.map fun v => v.category).sum ≤ W9) (hdg : decode c.code g.pc = .ok (.invokestatic index, 3))
    (hpre : ∀ vm₁, s.WarmedH vm₁ → Pre ⟨T.setVm vm₁, locs, cells, slots⟩ argsL.toArray) :
    (∃ (v : Option Value) (vm₁ : Vm) (B : Pt), s.WarmedH vm₁ ∧ Stand p l e R s m args below meth c B.U B.locs B.cells B.slots ∧ Post ⟨T.setVm vm₁, locs, cells, slots⟩ argsL.toArray v B ∧
      ∀ target, Steps p.tables e below (B.U.setTop { g with pc := g.pc + 3, stack := v.toList ++ rest }) target → Steps p.tables e below (T.setTop g) target) ∨
    (∃ (q : Addr) (vm₁ : Vm) (B : Pt), s.WarmedH vm₁ ∧ Stand p l e R s m args below meth c B.U B.locs B.cells B.slots ∧ PostX ⟨T.setVm vm₁, locs, cells, slots⟩ argsL.toArray q B ∧
      Steps p.tables e below (T.setTop g) ((B.U.setTop { g with stack := rest }).pushFrame (.throwing q))) := by
  obtain ⟨mk, methM, cM, hnamed, hmethM, -, -, -, -, -, -, hsigM⟩ := Cond.codeWith_spec hcode
  have hstatic : methM.isStatic = true := Cond.static_spec hnamed hmethM hstat
  obtain ⟨kP, hkP, -⟩ := className_of_methodNamed hnamed
  have hinitP : kP.init = .initialized := Cond.initialized_spec (findClass_of_methodNamed hnamed) hkP hinit
  obtain ⟨vm₁, X₁, hstep₁⟩ := X.invokestatic hexec hown hlink hnamed hmethM hstatic hkP hinitP hy (g := g) hg (argsL := argsL) (rest := rest) (hlen _ hsigM) hstack hdg
  rcases hK m meth c ⟨T.setVm vm₁, locs, cells, slots⟩ { g with stack := rest } (.invokestatic index) mk argsL.toArray X₁ hg hsize hdg hW (X₁.named hnamed) (hpre vm₁ X₁.warmed) with ⟨v, B, X', hpost, hsteps⟩ | ⟨q, B, X', hpost, hsteps⟩
  · exact Or.inl ⟨v, vm₁, B, X₁.warmed, X', hpost, fun target h => hstep₁ _ fun acts => by rw [doInvoke_state]; exact hsteps.trans h⟩
  · exact Or.inr ⟨q, vm₁, B, X₁.warmed, X', hpost, hstep₁ _ fun acts => by rw [doInvoke_state]; exact hsteps⟩
theorem vx_callVW (X : Stand p l e R s m args below meth c T locs cells slots) (hexec : p.tables.exec = Jvm.exec) {own C : String} {index : Nat} {y : MethodName} {bytes : ByteArray} {maxL : Nat} {ret : Option FieldType} {hh : List (Nat × Nat × Nat × Nat)}
    (hown : s.vm.findClass own = some m.cls) (hlink : (Cond.methodLink own index y).before args s = true) (hinst : (Cond.instanceMethod y).before args s = true) (hsel : (Cond.selects C y y).before args s = true)
    (hcode : (Cond.codeWith y bytes maxL ret hh).before args s = true) (hy : y.cls ≠ "java/lang/invoke/MethodHandle" ∧ y.cls ≠ "java/lang/invoke/VarHandle")
    {W9 : Nat} {Pre : Pt → Array Value → Prop} {Post : Pt → Array Value → Option Value → Pt → Prop} (hK : Back l R p e below s args y 3 W9 Pre Post)
    {b : Addr} {cellB : Cell} (hcell : T.heap[b]? = some cellB) (hobj : cellB.vm.isStatics = false) (hcls : s.vm.findClass C = some cellB.cls)
    {g : JFrame} (hg : g.method = m) (hsize : g.locals.size = c.maxLocals) {argsL rest : List Value} (hlen : ∀ sig, parseMethodDescriptor y.desc = some sig → argsL.length = sig.parameters.length)
    (hstack : g.stack = argsL.reverse ++ .ref b :: rest) (hW : 2 * g.monitorRoom + (rest.map fun v => v.category).sum ≤ W9) (hdg : decode c.code g.pc = .ok (.invokevirtual index, 3))
    (hpre : ∀ vm₁, s.WarmedH vm₁ → Pre ⟨T.setVm vm₁, locs, cells, slots⟩ (Value.ref b :: argsL).toArray) :
    ∃ (v : Option Value) (vm₁ : Vm) (B : Pt), s.WarmedH vm₁ ∧ Stand p l e R s m args below meth c B.U B.locs B.cells B.slots ∧ Post ⟨T.setVm vm₁, locs, cells, slots⟩ (Value.ref b :: argsL).toArray v B ∧
      ∀ target, Steps p.tables e below (B.U.setTop { g with pc := g.pc + 3, stack := v.toList ++ rest }) target → Steps p.tables e below (T.setTop g) target := by
  obtain ⟨mk, methM, hnamed, hmethM, hstM, habM⟩ := Cond.instanceMethod_spec hinst
  obtain ⟨m8, methM', cM, hn8, hmethM', -, -, -, -, -, -, hsigM⟩ := Cond.codeWith_spec hcode
  cases Option.some.inj (hn8.symm.trans hnamed)
  cases hmethM.symm.trans hmethM'
  obtain ⟨c2, r2, m2, q1, q2, q3, q4, kP, hkP, hkPi⟩ := Cond.selects_spec hsel
  cases hcls.symm.trans q1
  cases (State.methodFound?_of_named hnamed hy).symm.trans q2
  cases hnamed.symm.trans q3
  have hselP : selectMethod e.platform s.vm cellB.cls mk = .method mk := by rw [Launch.admits_selectMethod X.admits]; exact q4
  obtain ⟨vm₁, X₁, hstep₁⟩ := X.invokevirtual hexec hown hlink hnamed hmethM hstM hkP hkPi hy (a := b) (cell := cellB) hcell
    (fun z h => by rw [h] at hobj; cases hobj) hselP hmethM habM hkP hkPi (g := g) hg (argsL := argsL) (rest := rest) (hlen _ hsigM) hstack hdg
  obtain ⟨v, B, X', hpost, hsteps⟩ := hK m meth c ⟨T.setVm vm₁, locs, cells, slots⟩ { g with stack := rest } (.invokevirtual index) mk (Value.ref b :: argsL).toArray X₁ hg hsize hdg hW (X₁.named hnamed) (hpre vm₁ X₁.warmed)
  exact ⟨v, vm₁, B, X₁.warmed, X', hpost, fun target h => hstep₁ _ fun acts => by rw [doInvoke_state]; exact hsteps.trans h⟩
abbrev vx_CVW (R : Room) (s : State) (args : Array Value) (own C : String) (index : Nat) (y : MethodName) (bytes : ByteArray) (maxL : Nat) (ret : Option FieldType) (hh : List (Nat × Nat × Nat × Nat)) (ws : List Cond) (rm : Room) (mc ms n : Nat) : Prop :=
  (rm.cells = mc ∧ rm.slots = ms ∧ rm.frames + 1 ≤ R.frames ∧ 8 + (maxL + 11) + rm.locals ≤ R.locals ∧ (∀ w ∈ ws, ∀ (a' : Array Value) (U : State), s.WarmedH U.vm → w.before a' U = true) ∧ Cond.codeWith y bytes maxL ret hh ∈ ws) ∧
  (Cond.codeWith y bytes maxL ret hh).before args s = true ∧ (Cond.initialized y.cls).before args s = true ∧ (y.cls ≠ "java/lang/invoke/MethodHandle" ∧ y.cls ≠ "java/lang/invoke/VarHandle") ∧
  (∀ sig, parseMethodDescriptor y.desc = some sig → n = sig.parameters.length) ∧ (Cond.methodLink own index y).before args s = true ∧ (Cond.instanceMethod y).before args s = true ∧ (Cond.selects C y y).before args s = true
theorem vx_cwVW {own C : String} {index maxL mc ms : Nat} {y : MethodName} {bytes : ByteArray} {ret : Option FieldType} {hh : List (Nat × Nat × Nat × Nat)} {Ts ws ws' : List Cond} {rm : Room} (n : Nat) (ht : ∀ w ∈ Ts, w.before args s = true) (hT : GoodIn Ts (wsV own index C y ws)) (hw : ws = Cond.codeWith y bytes maxL ret hh :: ws') (hrc : rm.cells = mc) (hrs : rm.slots = ms)
    (hd : y.cls = C ∧ y.cls ≠ "java/lang/invoke/MethodHandle" ∧ y.cls ≠ "java/lang/invoke/VarHandle" ∧ (parseMethodDescriptor y.desc).map (fun d => d.parameters.length) = some n) (hR : rm.frames + 1 ≤ R.frames ∧ 8 + (maxL + 11) + rm.locals ≤ R.locals) :
    vx_CVW R s args own C index y bytes maxL ret hh ws rm mc ms n := by
  obtain ⟨hC, hd⟩ := hd
  subst hC
  have ok : ∀ w ∈ wsV own index y.cls y ws, w.before args s = true := fun w h => ht w (hT w h).1
  have hG : GoodIn Ts ws := fun w h => hT w (by unfold wsV; exact List.mem_append_right _ h)
  have hc : Cond.codeWith y bytes maxL ret hh ∈ ws := by rw [hw]; exact List.mem_cons_self
  refine ⟨⟨hrc, hrs, hR.1, hR.2, pay_in ht hG, hc⟩, ht _ (hG _ hc).1, ok _ (by simp [wsV]), ⟨hd.1, hd.2.1⟩, fun sig h => ?_, ok _ (by simp [wsV]), ok _ (by simp [wsV]), ok _ (by simp [wsV])⟩
  have h2 := hd.2.2
  rw [h] at h2
  exact (Option.some.inj h2).symm
theorem vx_runVW {y : MethodName} {bytes cc : ByteArray} {maxL nL mc ms n index : Nat} {ret : Option FieldType} {hh : List (Nat × Nat × Nat × Nat)} {ws : List Cond} {rm : Room} {Pc : Array Value → State → Prop} {Qc : Array Value → State → Outcome → State → Prop} {free : Addr → Prop} {Ts : List Cond} {own C : String} {b : Addr} {As rest : List Value} {g : JFrame}
    (S : CallFix p m c cc nL s args Ts own) (hM : Met l y ws rm Pc Qc mc ms free) (cw : vx_CVW R s args own C index y bytes maxL ret hh ws rm mc ms n) (hp : PreV s H C b Pc As)
    (hg : g.method = m) (hn : As.length = n) (hsize : g.locals.size = nL) (hstack : g.stack = As.reverse ++ .ref b :: rest) (hW : 2 * g.monitorRoom + (rest.map fun v => v.category).sum ≤ 8) (hdg : decode cc g.pc = .ok (.invokevirtual index, 3)) (hf : cells + mc ≤ R.cells ∧ slots + ms ≤ R.slots) :
    va_Run p l e R s m args below meth c H locs cells slots mc ms g rest (Qc (Value.ref b :: As).toArray) free := by
  obtain ⟨⟨hrc, hrs, hfr, hlo, hws, hcw⟩, hcode, hini, hy, hlen, hl, hin, hse⟩ := cw
  have hK : Back l R p e below s args y 3 8 (PreOf R mc ms Pc) (PostOf Qc mc ms free) := va_backW (hh := hh) (bytes := bytes) (maxL := maxL) (ret := ret) hM hp.1 hrc hrs hfr hlo hws hcw (fun a' U hW => word_at hW (Or.inl (by first | rfl | simp [Cond.onTables, Cond.keeps, Cond.steady])) hini)
  obtain ⟨hx, hb, hml, ho, -⟩ := S
  obtain ⟨-, ⟨cellB, hcB, hoB, hclB⟩, hPc⟩ := hp
  intro T hT X
  obtain ⟨v, vm₁, ⟨U', l2, c2, s2⟩, hW₁, X', ⟨g', mk, t, L, e1, e2, hq, h1, hL, h2, h3⟩, st⟩ := vx_callVW X hx (C := C) (hh := hh) (bytes := bytes) (maxL := maxL) (ret := ret) ho hl hin hse hcode hy hK (by rw [hT]; exact hcB) hoB hclB hg (hsize.trans hml.symm) (argsL := As) (rest := rest) (fun sig h => hn.trans (hlen sig h)) hstack hW (by rw [hb]; exact hdg)
    (fun vm₁ hW₁ => ⟨hf.1, hf.2, hPc (T.setVm vm₁) hT hW₁⟩)
  dsimp only [Pt.U, Pt.locs, Pt.cells, Pt.slots] at X' e1 e2 h1 h2 h3 st
  subst h1; subst h2; subst h3
  exact ⟨v, (T.setVm vm₁).calling g' mk (Value.ref b :: As).toArray, t, U', L, hT, X', hL, e1, e2, hq, st⟩
section
variable {y : MethodName} {bytes cc : ByteArray} {maxL nL mc ms n index : Nat} {ret : Option FieldType} {ws : List Cond} {rm : Room} {Pc : Array Value → State → Prop} {Qc : Array Value → State → Outcome → State → Prop} {XC : String → State → State → Prop} {free : Addr → Prop} {Ts : List Cond} {own C : String} {b : Addr} {As rest : List Value} {g : JFrame}
theorem vx_runVX {hh : List (Nat × Nat × Nat × Nat)} (S : CallFix p m c cc nL s args Ts own) (hM : vx_Met l y ws rm Pc Qc XC mc ms free) (cw : vx_CVW R s args own C index y bytes maxL ret hh ws rm mc ms n) (hp : PreV s H C b Pc As)
    (hg : g.method = m) (hn : As.length = n) (hsize : g.locals.size = nL) (hstack : g.stack = As.reverse ++ .ref b :: rest) (hW : 2 * g.monitorRoom + (rest.map fun v => v.category).sum ≤ 8) (hdg : decode cc g.pc = .ok (.invokevirtual index, 3)) (hf : cells + mc ≤ R.cells ∧ slots + ms ≤ R.slots) :
    vx_Run p l e R s m args below meth c H locs cells slots mc ms g rest (Qc (Value.ref b :: As).toArray) XC free := by
  obtain ⟨⟨hrc, hrs, hfr, hlo, hws, hcw⟩, hcode, hini, hy, hlen, hl, hin, hse⟩ := cw
  have hK : vx_Back l R p e below s args y 3 8 (PreOf R mc ms Pc) (PostOf Qc mc ms free) (vx_Post XC mc ms free) := vx_backW (hh := hh) (bytes := bytes) (maxL := maxL) (ret := ret) hM hp.1 hrc hrs hfr hlo hws hcw (fun a' U hW => word_at hW (Or.inl (by first | rfl | simp [Cond.onTables, Cond.keeps, Cond.steady])) hini)
  obtain ⟨hx, hb, hml, ho, -⟩ := S
  obtain ⟨-, ⟨cellB, hcB, hoB, hclB⟩, hPc⟩ := hp
  intro T hT X
  rcases vx_callVX X hx (C := C) (hh := hh) (bytes := bytes) (maxL := maxL) (ret := ret) ho hl hin hse hcode hy hK (by rw [hT]; exact hcB) hoB hclB hg (hsize.trans hml.symm) (argsL := As) (rest := rest) (fun sig h => hn.trans (hlen sig h)) hstack hW (by rw [hb]; exact hdg)
    (fun vm₁ hW₁ => ⟨hf.1, hf.2, hPc (T.setVm vm₁) hT hW₁⟩) with ⟨v, vm₁, ⟨U', l2, c2, s2⟩, hW₁, X', ⟨g', mk, t, L, e1, e2, hq, h1, hL, h2, h3⟩, st⟩ | ⟨q, vm₁, ⟨U', l2, c2, s2⟩, hW₁, X', ⟨g', mk, t, L, E, ce, e1, e2, hq, hce, hcv, hcl, h1, hL, h2, h3⟩, st⟩
  · dsimp only [Pt.U, Pt.locs, Pt.cells, Pt.slots] at X' e1 e2 h1 h2 h3 st
    subst h1; subst h2; subst h3
    exact Or.inl ⟨v, (T.setVm vm₁).calling g' mk (Value.ref b :: As).toArray, t, U', L, hT, X', hL, e1, e2, hq, st⟩
  · dsimp only [Pt.U, Pt.locs, Pt.cells, Pt.slots] at X' e1 e2 h1 h2 h3 st hcl
    subst h1; subst h2; subst h3
    exact Or.inr ⟨q, (T.setVm vm₁).calling g' mk (Value.ref b :: As).toArray, t, U', L, E, ce, hT, X', hL, e1, e2, hq, hce, hcv, vx_cls hW₁ hcl, st⟩
theorem vx_runSX {hh : List (Nat × Nat × Nat × Nat)} (S : CallFix p m c cc nL s args Ts own) (hM : vx_Met l y ws rm Pc Qc XC mc ms free) (cw : vx_CSW R s args own index y bytes maxL ret hh ws rm mc ms n) (hp : PreS s H Pc As)
    (hg : g.method = m) (hn : As.length = n) (hsize : g.locals.size = nL) (hstack : g.stack = As.reverse ++ rest) (hW : 2 * g.monitorRoom + (rest.map fun v => v.category).sum ≤ 8) (hdg : decode cc g.pc = .ok (.invokestatic index, 3)) (hf : cells + mc ≤ R.cells ∧ slots + ms ≤ R.slots) :
    vx_Run p l e R s m args below meth c H locs cells slots mc ms g rest (Qc As.toArray) XC free := by
  obtain ⟨⟨hrc, hrs, hfr, hlo, hws, hcw⟩, hcode, hini, hy, hlen, hl, hstt⟩ := cw
  have hK : vx_Back l R p e below s args y 3 8 (PreOf R mc ms Pc) (PostOf Qc mc ms free) (vx_Post XC mc ms free) := vx_backW (hh := hh) (bytes := bytes) (maxL := maxL) (ret := ret) hM hp.1 hrc hrs hfr hlo hws hcw (fun a' U hW => word_at hW (Or.inl (by first | rfl | simp [Cond.onTables, Cond.keeps, Cond.steady])) hini)
  obtain ⟨hx, hb, hml, ho, -⟩ := S
  intro T hT X
  rcases vx_callSX X hx (hh := hh) (bytes := bytes) (maxL := maxL) (ret := ret) ho hl hstt hini hcode hy hK hg (hsize.trans hml.symm) (argsL := As) (rest := rest) (fun sig h => hn.trans (hlen sig h)) hstack hW (by rw [hb]; exact hdg)
    (fun vm₁ hW₁ => ⟨hf.1, hf.2, hp.2 (T.setVm vm₁) hT hW₁⟩) with ⟨v, vm₁, ⟨U', l2, c2, s2⟩, hW₁, X', ⟨g', mk, t, L, e1, e2, hq, h1, hL, h2, h3⟩, st⟩ | ⟨q, vm₁, ⟨U', l2, c2, s2⟩, hW₁, X', ⟨g', mk, t, L, E, ce, e1, e2, hq, hce, hcv, hcl, h1, hL, h2, h3⟩, st⟩
  · dsimp only [Pt.U, Pt.locs, Pt.cells, Pt.slots] at X' e1 e2 h1 h2 h3 st
    subst h1; subst h2; subst h3
    exact Or.inl ⟨v, (T.setVm vm₁).calling g' mk As.toArray, t, U', L, hT, X', hL, e1, e2, hq, st⟩
  · dsimp only [Pt.U, Pt.locs, Pt.cells, Pt.slots] at X' e1 e2 h1 h2 h3 st hcl
    subst h1; subst h2; subst h3
    exact Or.inr ⟨q, (T.setVm vm₁).calling g' mk As.toArray, t, U', L, E, ce, hT, X', hL, e1, e2, hq, hce, hcv, vx_cls hW₁ hcl, st⟩
end
end VXH
theorem vx_ofWH {l : Launch} {y : MethodName} {ws ws' : List Cond} {rm : Room} {Pc : Array Value → State → Prop} {Qc : Array Value → State → Outcome → State → Prop} {XC : String → State → State → Prop} {mc ms : Nat} {free : Addr → Prop} {cc : ByteArray} {maxL : Nat} {ret : Option FieldType} {hh : List (Nat × Nat × Nat × Nat)}
    (hy : plainFor y = true) (hw : ws = Cond.codeWith y cc maxL ret hh :: ws')
    (body : ∀ p e s m args below meth c s₁, BodyLoose p l y (headSpec ws rm) cc maxL ret e s m args below meth c s₁ → c.maxLocals = maxL → Pc args s →
      W p l e (headSpec ws rm).room s m args below meth c s.heap [] 0 0 (vx_MQ below Qc XC args s mc ms free) (entryFrame m args maxL)) : vx_Met l y ws rm Pc Qc XC mc ms free := by
  refine MetFree.of_bodySF (code := cc) (maxLocals := maxL) (ret := ret) hy ?_ ?_
  · intro args s m h hn
    obtain ⟨m9, meth, c, hn9, h1, h2, h3, h4, -, h5, h6, -⟩ := Cond.codeWith_spec (atoms_spec (ws := ws) h _ (by rw [hw]; exact List.mem_cons_self))
    cases hn.symm.trans hn9
    exact ⟨meth, c, h1, h2, h3, h4, h5, h6⟩
  · intro p e s m args below meth c s₁ B hml hP _
    have hh0 : s₁.heap = s.heap := by rw [B.state]; rfl
    obtain ⟨t, a1, o, b1, b2, b3⟩ := body p e s m args below meth c s₁ B hml hP s₁ hh0 (Stand.of_body B)
    exact ⟨t, o, a1, b1, b2, b3⟩
/-! ===== END ===== -/
end
section
/-! ===== TABLES, laid by a program of mine (wip/tools/gen.py) out of the claim's Statement ===== -/
def a_T (q : List (String × String × String × Bool)) : u_T := fun k => q.getD k ("", "", "", false)
def a_F0 : List (String × String × String × Bool) := [("OddsInCourt$Fraction", "up", "J", false), ("OddsInCourt$Fraction", "low", "J", false)]
def a_F1 : List (String × String × String × Bool) := [("OddsInCourt$Hearing", "odds", "LOddsInCourt$Fraction;", true), ("OddsInCourt$Hearing", "line", "[I", true), ("OddsInCourt$Hearing", "things", "I", false), ("OddsInCourt$Hearing", "withClaim", "LOddsInCourt$Fraction;", true), ("OddsInCourt$Hearing", "without", "LOddsInCourt$Fraction;", true), ("OddsInCourt$Hearing", "sums", "[I", true), ("OddsInCourt$Hearing", "claimBit", "I", false), ("OddsInCourt$Hearing", "thingBits", "I", false)]
def a_F2 : List (String × String × String × Bool) := [("OddsInCourt$Kept", "there", "Z", false), ("OddsInCourt$Kept", "nodes", "I", false), ("OddsInCourt$Kept", "forced", "I", false), ("OddsInCourt$Kept", "forcedSo", "I", false), ("OddsInCourt$Kept", "seen", "I", false), ("OddsInCourt$Kept", "seenSo", "I", false), ("OddsInCourt$Kept", "things", "I", false), ("OddsInCourt$Kept", "line", "[I", true), ("OddsInCourt$Kept", "table", "[I", true), ("OddsInCourt$Kept", "price", "[I", true)]
def a_F3 : List (String × String × String × Bool) := [("OddsInCourt$Lands", "told", "I", false), ("OddsInCourt$Lands", "people", "[I", true), ("OddsInCourt$Lands", "counted", "[I", true), ("OddsInCourt$Lands", "entries", "[I", true)]
def a_F4 : List (String × String × String × Bool) := [("OddsInCourt$Net", "nodes", "I", false), ("OddsInCourt$Net", "depths", "I", false), ("OddsInCourt$Net", "leaning", "[I", true), ("OddsInCourt$Net", "leanCount", "[I", true), ("OddsInCourt$Net", "leanedOn", "[I", true), ("OddsInCourt$Net", "depth", "[I", true), ("OddsInCourt$Net", "table", "[I", true), ("OddsInCourt$Net", "price", "[I", true), ("OddsInCourt$Net", "forced", "I", false), ("OddsInCourt$Net", "forcedSo", "I", false), ("OddsInCourt$Net", "seen", "I", false), ("OddsInCourt$Net", "seenSo", "I", false), ("OddsInCourt$Net", "things", "I", false), ("OddsInCourt$Net", "line", "[I", true), ("OddsInCourt$Net", "weights", "[I", true), ("OddsInCourt$Net", "fresh", "Z", false)]
def a_F5 : List (String × String × String × Bool) := [("OddsInCourt$Row", "values", "[J", true), ("OddsInCourt$Row", "count", "I", false)]
def a_F6 : List (String × String × String × Bool) := [("OddsInCourt$Saying", "signs", "[C", true), ("OddsInCourt$Saying", "length", "I", false), ("OddsInCourt$Saying", "relation", "C", false), ("OddsInCourt$Saying", "from", "[I", true), ("OddsInCourt$Saying", "ands", "[I", true), ("OddsInCourt$Saying", "ors", "[I", true), ("OddsInCourt$Saying", "up", "[I", true), ("OddsInCourt$Saying", "low", "[I", true)]
def a_F7 : List (String × String × String × Bool) := [("OddsInCourt$Sets", "pile", "[[J", true), ("OddsInCourt$Sets", "factor", "LOddsInCourt$Fraction;", true), ("OddsInCourt$Sets", "top", "I", false), ("OddsInCourt$Sets", "words", "I", false), ("OddsInCourt$Sets", "at", "I", false)]
def a_F8 : List (String × String × String × Bool) := [("OddsInCourt$Shifts", "days", "I", false), ("OddsInCourt$Shifts", "daysOn", "I", false), ("OddsInCourt$Shifts", "deathsOn", "I", false), ("OddsInCourt$Shifts", "deathsOff", "I", false), ("OddsInCourt$Shifts", "lookedOn", "I", false), ("OddsInCourt$Shifts", "lookedOff", "I", false)]
def a_F9 : List (String × String × String × Bool) := [("OddsInCourt$Spans", "told", "I", false), ("OddsInCourt$Spans", "nodes", "[I", true), ("OddsInCourt$Spans", "places", "[I", true), ("OddsInCourt$Spans", "lows", "[I", true), ("OddsInCourt$Spans", "highs", "[I", true), ("OddsInCourt$Spans", "held", "[I", true)]
def a_F10 : List (String × String × String × Bool) := [("OddsInCourt$Text", "signs", "[C", true), ("OddsInCourt$Text", "length", "I", false), ("OddsInCourt$Text", "at", "I", false), ("OddsInCourt$Text", "limit", "I", false), ("OddsInCourt$Text", "letters", "I", false)]
def a_F11 : List (String × String × String × Bool) := [("OddsInCourt", "net", "LOddsInCourt$Net;", true), ("OddsInCourt", "numbers", "LOddsInCourt$Row;", true), ("OddsInCourt", "text", "LOddsInCourt$Text;", true), ("OddsInCourt", "sayings", "[LOddsInCourt$Saying;", true), ("OddsInCourt", "sets", "LOddsInCourt$Sets;", true), ("OddsInCourt", "spans", "LOddsInCourt$Spans;", true), ("OddsInCourt", "hearing", "LOddsInCourt$Hearing;", true), ("OddsInCourt", "lands", "LOddsInCourt$Lands;", true), ("OddsInCourt", "roster", "LOddsInCourt$Shifts;", true), ("OddsInCourt", "kept", "[LOddsInCourt$Kept;", true), ("OddsInCourt", "habits", "[I", true), ("OddsInCourt", "measures", "[I", true), ("OddsInCourt", "bestOrder", "[I", true), ("OddsInCourt", "first", "LOddsInCourt$Fraction;", true), ("OddsInCourt", "second", "LOddsInCourt$Fraction;", true), ("OddsInCourt", "said", "I", false), ("OddsInCourt", "heads", "I", false)]
def a_F12 : List (String × String × String × Bool) := [("OddsInCourtModel", "thrown", "I", false), ("OddsInCourtModel", "rows", "I", false), ("OddsInCourtModel", "row", "[J", true), ("OddsInCourtModel", "upper", "J", false), ("OddsInCourtModel", "lower", "J", false), ("OddsInCourtModel", "isGreat", "Z", false), ("OddsInCourtModel", "wheels", "[J", true), ("OddsInCourtModel", "nodes", "I", false), ("OddsInCourtModel", "leaning", "[I", true), ("OddsInCourtModel", "depth", "[I", true), ("OddsInCourtModel", "table", "[I", true), ("OddsInCourtModel", "forced", "[I", true), ("OddsInCourtModel", "seenAs", "[I", true), ("OddsInCourtModel", "cost", "[I", true), ("OddsInCourtModel", "seenMany", "I", false), ("OddsInCourtModel", "seenOrder", "[I", true), ("OddsInCourtModel", "depths", "J", false), ("OddsInCourtModel", "weights", "[J", true), ("OddsInCourtModel", "onRow", "[Z", true), ("OddsInCourtModel", "sayings", "I", false), ("OddsInCourtModel", "act", "[I", true), ("OddsInCourtModel", "kind", "[I", true), ("OddsInCourtModel", "number", "[J", true), ("OddsInCourtModel", "begin", "[I", true), ("OddsInCourtModel", "finish", "[I", true), ("OddsInCourtModel", "signs", "[I", true), ("OddsInCourtModel", "into", "I", false), ("OddsInCourtModel", "tape", "[I", true), ("OddsInCourtModel", "taped", "I", false), ("OddsInCourtModel", "at", "I", false), ("OddsInCourtModel", "to", "I", false), ("OddsInCourtModel", "open", "I", false), ("OddsInCourtModel", "reading", "I", false), ("OddsInCourtModel", "where", "I", false), ("OddsInCourtModel", "stop", "I", false), ("OddsInCourtModel", "spans", "I", false), ("OddsInCourtModel", "spanNode", "[I", true), ("OddsInCourtModel", "spanAt", "[I", true), ("OddsInCourtModel", "spanLow", "[I", true), ("OddsInCourtModel", "spanHigh", "[I", true), ("OddsInCourtModel", "tableOld", "[I", true), ("OddsInCourtModel", "heads", "I", false), ("OddsInCourtModel", "habits", "[I", true), ("OddsInCourtModel", "habitNumber", "[I", true), ("OddsInCourtModel", "told", "[I", true), ("OddsInCourtModel", "toldMany", "I", false), ("OddsInCourtModel", "oddsUp", "J", false), ("OddsInCourtModel", "oddsLow", "J", false), ("OddsInCourtModel", "heardSo", "I", false), ("OddsInCourtModel", "heardNot", "I", false), ("OddsInCourtModel", "things", "[I", true), ("OddsInCourtModel", "bestOrder", "[I", true), ("OddsInCourtModel", "isFound", "Z", false), ("OddsInCourtModel", "bestSure", "Z", false), ("OddsInCourtModel", "bestUp", "J", false), ("OddsInCourtModel", "bestLow", "J", false), ("OddsInCourtModel", "lands", "I", false), ("OddsInCourtModel", "people", "[I", true), ("OddsInCourtModel", "counted", "[I", true), ("OddsInCourtModel", "days", "I", false), ("OddsInCourtModel", "isOn", "[Z", true), ("OddsInCourtModel", "isDeath", "[Z", true), ("OddsInCourtModel", "isLooked", "[Z", true), ("OddsInCourtModel", "keptNodes", "[I", true), ("OddsInCourtModel", "isKept", "[Z", true), ("OddsInCourtModel", "keptForced", "[I", true), ("OddsInCourtModel", "keptSeen", "[I", true), ("OddsInCourtModel", "keptCost", "[I", true), ("OddsInCourtModel", "keptOrder", "[I", true), ("OddsInCourtModel", "keptMany", "[I", true), ("OddsInCourtModel", "keptTable", "[I", true)]
def vwCl : List vw_C := [("OddsInCourt$Fraction", a_T a_F0, 2), ("OddsInCourt$Hearing", a_T a_F1, 8), ("OddsInCourt$Kept", a_T a_F2, 10), ("OddsInCourt$Lands", a_T a_F3, 4), ("OddsInCourt$Net", a_T a_F4, 16), ("OddsInCourt$Row", a_T a_F5, 2), ("OddsInCourt$Saying", a_T a_F6, 8), ("OddsInCourt$Sets", a_T a_F7, 5), ("OddsInCourt$Shifts", a_T a_F8, 6), ("OddsInCourt$Spans", a_T a_F9, 6), ("OddsInCourt$Text", a_T a_F10, 5), ("OddsInCourt", a_T a_F11, 17), ("OddsInCourtModel", a_T a_F12, 71), ("java/util/NoSuchElementException", a_T [], 0)]
def a_ftyL : List (List FieldType) := [[.long, .long], [.object "OddsInCourt$Fraction", .array .int, .int, .object "OddsInCourt$Fraction", .object "OddsInCourt$Fraction", .array .int, .int, .int], [.boolean, .int, .int, .int, .int, .int, .int, .array .int, .array .int, .array .int], [.int, .array .int, .array .int, .array .int], [.int, .int, .array .int, .array .int, .array .int, .array .int, .array .int, .array .int, .int, .int, .int, .int, .int, .array .int, .array .int, .boolean], [.array .long, .int], [.array .char, .int, .char, .array .int, .array .int, .array .int, .array .int, .array .int], [.array (.array .long), .object "OddsInCourt$Fraction", .int, .int, .int], [.int, .int, .int, .int, .int, .int], [.int, .array .int, .array .int, .array .int, .array .int, .array .int], [.array .char, .int, .int, .int, .int], [.object "OddsInCourt$Net", .object "OddsInCourt$Row", .object "OddsInCourt$Text", .array (.object "OddsInCourt$Saying"), .object "OddsInCourt$Sets", .object "OddsInCourt$Spans", .object "OddsInCourt$Hearing", .object "OddsInCourt$Lands", .object "OddsInCourt$Shifts", .array (.object "OddsInCourt$Kept"), .array .int, .array .int, .array .int, .object "OddsInCourt$Fraction", .object "OddsInCourt$Fraction", .int, .int], [.int, .int, .array .long, .long, .long, .boolean, .array .long, .int, .array .int, .array .int, .array .int, .array .int, .array .int, .array .int, .int, .array .int, .long, .array .long, .array .boolean, .int, .array .int, .array .int, .array .long, .array .int, .array .int, .array .int, .int, .array .int, .int, .int, .int, .int, .int, .int, .int, .int, .array .int, .array .int, .array .int, .array .int, .array .int, .int, .array .int, .array .int, .array .int, .int, .long, .long, .int, .int, .array .int, .array .int, .boolean, .boolean, .long, .long, .int, .array .int, .array .int, .int, .array .boolean, .array .boolean, .array .boolean, .array .int, .array .boolean, .array .int, .array .int, .array .int, .array .int, .array .int, .array .int]]
def a_fty (ci k : Nat) : FieldType := (a_ftyL.getD ci []).getD k .int
def a_nL : List Nat := [2, 8, 10, 4, 16, 2, 8, 5, 6, 6, 5, 17, 71]
def a_n (ci : Nat) : Nat := a_nL.getD ci 0
def a_tys : List FieldType := [.int, .long, .boolean, .char, .object "OddsInCourt$Saying", .object "OddsInCourt$Kept", .array .long]
def a_kind (ci : Nat) : Option Nat := if ci = 6 then some 4 else if ci = 2 then some 5 else none
def a_so : List Int64 := [-6148914691236517206, -3689348814741910324, -1085102592571150096, -71777214294589696, -281470681808896, -4294967296]
def a_soC : String := "OddsInCourt$Sets"
def a_soN : String := "SO"
def a_exc : Nat := 13
def a_host : String := "OddsInCourt"
def a_chunk (c : Nat) : List Cond := match c with
  | 0 => k2_sels lw_privs
  | 1 => tables_1_1
  | 2 => tables_1_2
  | 3 => tables_1_3
  | 4 => tables_1_4
  | 5 => tables_1_5
  | 6 => tables_1_6
  | 7 => tables_1_7
  | 8 => tables_1_8
  | _ => []
theorem a_chunk_in {c : Nat} {w : Cond} (h : w ∈ a_chunk c) : w ∈ lw_tbl := by
  unfold a_chunk at h
  unfold lw_tbl tables_1
  simp only [List.mem_append]
  split at h
  · exact Or.inl h
  · exact Or.inr (Or.inl h)
  · exact Or.inr (Or.inr (Or.inl h))
  · exact Or.inr (Or.inr (Or.inr (Or.inl h)))
  · exact Or.inr (Or.inr (Or.inr (Or.inr (Or.inl h))))
  · exact Or.inr (Or.inr (Or.inr (Or.inr (Or.inr (Or.inl h)))))
  · exact Or.inr (Or.inr (Or.inr (Or.inr (Or.inr (Or.inr (Or.inl h))))))
  · exact Or.inr (Or.inr (Or.inr (Or.inr (Or.inr (Or.inr (Or.inr (Or.inl h)))))))
  · exact Or.inr (Or.inr (Or.inr (Or.inr (Or.inr (Or.inr (Or.inr (Or.inr (id h))))))))
  · cases h
def a_excN : String := "java/util/NoSuchElementException"
def a_excs : List String := ["java/lang/RuntimeException", "java/lang/Exception"]
def a_ic : Nat := 428
def a_strs : List (Nat × String) := [(426, "no such node or number"), (440, "no such number of the row")]
/-- words that hold on, though no list of words may hold them -/
def a_atX : List Cond := (Bundle.ownAtomsX "OddsInCourt" a_ic a_excN 13 prog_22_method_4_code a_excs).filter vx_no
def a_nest : List Cond := .castable a_excN a_excN :: a_atX.filter (fun w => !goodWord w)
def a_over : List String := ["OddsInCourt$Saying", "OddsInCourt$Kept"]
def a_clP : List (List Nat) := [[1220, 1222], [2046, 2048, 2050, 2052, 2054, 2056, 2058, 2060], [2131, 2133, 2135, 2137, 2139, 2141, 2143, 2145, 2147, 2149], [2074, 2076, 2078, 2080], [1077, 1079, 1081, 1083, 1085, 1087, 1089, 1091, 1093, 1095, 1097, 1099, 1101, 1103, 1105, 1107], [1121, 1123], [1177, 1179, 1181, 1183, 1185, 1187, 1189, 1191], [1230, 1232, 1234, 1236, 1238], [2100, 2102, 2104, 2106, 2108, 2110], [2014, 2016, 2018, 2020, 2022, 2024], [1139, 1141, 1143, 1145, 1147], [2171, 2173, 2175, 2177, 2179, 2181, 2183, 2185, 2187, 2189, 2191, 2193, 2195, 2197, 2199, 2201, 2203], [8069, 8071, 8073, 8075, 8077, 8079, 8081, 8083, 8085, 8087, 8089, 8091, 8093, 8095, 8097, 8099, 8101, 8103, 8105, 8107, 8109, 8111, 8113, 8115, 8117, 8119, 8121, 8123, 8125, 8127, 8129, 8131, 8133, 8135, 8137, 8139, 8141, 8143, 8145, 8147, 8149, 8151, 8153, 8155, 8157, 8159, 8161, 8163, 8165, 8167, 8169, 8171, 8173, 8175, 8177, 8179, 8181, 8183, 8185, 8187, 8189, 8191, 8193, 8195, 8197, 8199, 8201, 8203, 8205, 8207, 8209]]
def a_clI : List Nat := [1203, 2028, 2115, 2064, 1030, 1112, 1153, 1195, 2084, 2002, 1128, 1022, 6009]
def a_clJ : List Nat := [1007, 1009, 1012, 1010, 1002, 1003, 1005, 1006, 1011, 1008, 1004, 1001, 1013]
def a_pl : List Nat := [1027, 1028, 4058, 4057, 1016]
/-- tables of handlers -/
def a_hh (y : MethodName) : List (Nat × Nat × Nat × Nat) := if y.cls = "OddsInCourtLaw" then (if y.name = "of" then [(0, 10, 13, 13)] else if y.name = "row" then [(0, 8, 11, 13)] else []) else []
def a_excP : Nat := 1020
def a_plL : Nat := 1126
/-! ===== THE PAPER MACHINE: methods as tables of instructions, run by a pure function ===== -/
/-- an array's elements: ints (also booleans, chars), longs, references -/
abbrev aA : Type := List Int32 ⊕ List Int64 ⊕ List (Option Nat)
/-- a cell: an array (number of its kind, elements) or an object (number of its class, fields) -/
abbrev aE : Type := (Nat × aA) ⊕ (Nat × List Value)
abbrev aH : Type := List aE
abbrev aL : Type := List (Option Value)
/-- what an instruction is linked with: kind, two numbers, a constant -/
abbrev aK : Type := Nat × Nat × Nat × Int
abbrev aI : Type := Instr × Nat × aK
/-- name, bytes, locals, answer's type, parameters, instructions by their places -/
abbrev aM : Type := MethodName × ByteArray × Nat × Option FieldType × Nat × List (Nat × aI)
/-- the law's script: cell 0 -/
abbrev aX : Type := Option (Nat × (Nat → Int32))
def a_ii (f : Int32 → Int32 → Int32) (st : List Value) : Option (List Value) := match st with
  | .int y :: .int x :: r => some (.int (f x y) :: r)
  | _ => none
def a_iin (f : Int32 → Int32 → Int32) (st : List Value) : Option (List Value) := match st with
  | .int y :: .int x :: r => if y = 0 then none else some (.int (f x y) :: r)
  | _ => none
def a_i (f : Int32 → Value) (st : List Value) : Option (List Value) := match st with
  | .int x :: r => some (f x :: r)
  | _ => none
def a_ll (f : Int64 → Int64 → Value) (st : List Value) : Option (List Value) := match st with
  | .long y :: .long x :: r => some (f x y :: r)
  | _ => none
def a_lln (f : Int64 → Int64 → Int64) (st : List Value) : Option (List Value) := match st with
  | .long y :: .long x :: r => if y = 0 then none else some (.long (f x y) :: r)
  | _ => none
def a_l (f : Int64 → Value) (st : List Value) : Option (List Value) := match st with
  | .long x :: r => some (f x :: r)
  | _ => none
def a_li (f : Int64 → Int32 → Int64) (st : List Value) : Option (List Value) := match st with
  | .int y :: .long x :: r => some (.long (f x y) :: r)
  | _ => none
def a_dup (st : List Value) : Option (List Value) := match st with
  | v :: r => if v.category = 1 then some (v :: v :: r) else none
  | _ => none
def a_pop (st : List Value) : Option (List Value) := match st with
  | v :: r => if v.category = 1 then some r else none
  | _ => none
def a_dup2 (st : List Value) : Option (List Value) := match st with
  | v :: w :: r => if v.category = 1 ∧ w.category = 1 then some (v :: w :: v :: w :: r) else none
  | _ => none
/-- instructions on the stack alone -/
def a_stk (i : Instr) (k : aK) (st : List Value) : Option (List Value) := match i with
  | .iconst n => some (.int (Int32.ofInt n) :: st)
  | .bipush n => some (.int (Int8.ofInt n).toInt32 :: st)
  | .sipush n => some (.int (Int16.ofInt n).toInt32 :: st)
  | .lconst n => some (.long (Int64.ofNat (n : Nat)) :: st)
  | .ldc _ => if k.1 = 15 then some (.int (Int32.ofInt k.2.2.2) :: st) else none
  | .ldc_w _ => if k.1 = 15 then some (.int (Int32.ofInt k.2.2.2) :: st) else none
  | .ldc2_w _ => if k.1 = 16 then some (.long (Int64.ofInt k.2.2.2) :: st) else none
  | .iadd => a_ii (fun x y => x + y) st
  | .isub => a_ii (fun x y => x - y) st
  | .imul => a_ii (fun x y => x * y) st
  | .iand => a_ii (fun x y => x &&& y) st
  | .ior => a_ii (fun x y => x ||| y) st
  | .ixor => a_ii (fun x y => x ^^^ y) st
  | .ishl => a_ii (fun x y => x <<< (y &&& 31)) st
  | .ishr => a_ii (fun x y => x >>> (y &&& 31)) st
  | .iushr => a_ii (fun x y => (x.toUInt32 >>> (y.toUInt32 &&& Int32.toUInt32 31)).toInt32) st
  | .idiv => a_iin (fun x y => x / y) st
  | .irem => a_iin (fun x y => x - x / y * y) st
  | .ineg => a_i (fun x => .int (-x)) st
  | .i2l => a_i (fun x => .long x.toInt64) st
  | .i2b => a_i (fun x => .int x.toInt8.toInt32) st
  | .i2s => a_i (fun x => .int x.toInt16.toInt32) st
  | .i2c => a_i (fun x => .int (x.toUInt32 % 65536).toInt32) st
  | .ladd => a_ll (fun x y => .long (x + y)) st
  | .lsub => a_ll (fun x y => .long (x - y)) st
  | .lmul => a_ll (fun x y => .long (x * y)) st
  | .land => a_ll (fun x y => .long (x &&& y)) st
  | .lor => a_ll (fun x y => .long (x ||| y)) st
  | .lxor => a_ll (fun x y => .long (x ^^^ y)) st
  | .lcmp => a_ll (fun x y => .int (lg_cmp x y)) st
  | .ldiv => a_lln (fun x y => x / y) st
  | .lrem => a_lln (fun x y => x - x / y * y) st
  | .lneg => a_l (fun x => .long (-x)) st
  | .l2i => a_l (fun x => .int x.toInt32) st
  | .lushr => a_li (fun x y => (x.toUInt64 >>> (y.toInt64.toUInt64 &&& Int64.toUInt64 63)).toInt64) st
  | .dup => a_dup st
  | .pop => a_pop st
  | .dup2 => a_dup2 st
  | _ => none
/-- a value of one slot is stored -/
def a_pre (ls : aL) (i : Nat) : aL := match i with
  | 0 => ls
  | j + 1 => match ls[j]? with
    | some (some w) => if w.category = 2 then ls.set j none else ls
    | _ => ls
def a_set1 (ls : aL) (i : Nat) (v : Value) : aL := (a_pre ls i).set i (some v)
def a_set2 (ls : aL) (i : Nat) (v : Value) : aL := ((a_pre ls i).set i (some v)).set (i + 1) none
def a_ldi (ls : aL) (i : Nat) (st : List Value) : Option (aL × List Value) := match ls[i]? with
  | some (some (.int x)) => some (ls, .int x :: st)
  | _ => none
def a_ldl (ls : aL) (i : Nat) (st : List Value) : Option (aL × List Value) := match ls[i]? with
  | some (some (.long x)) => some (ls, .long x :: st)
  | _ => none
def a_lda (ls : aL) (i : Nat) (st : List Value) : Option (aL × List Value) := match ls[i]? with
  | some (some (.ref x)) => some (ls, .ref x :: st)
  | _ => none
def a_sti (ls : aL) (i : Nat) (st : List Value) : Option (aL × List Value) := match st with
  | .int x :: r => if i < ls.length then some (a_set1 ls i (.int x), r) else none
  | _ => none
def a_stl (ls : aL) (i : Nat) (st : List Value) : Option (aL × List Value) := match st with
  | .long x :: r => if i + 1 < ls.length then some (a_set2 ls i (.long x), r) else none
  | _ => none
def a_sta (ls : aL) (i : Nat) (st : List Value) : Option (aL × List Value) := match st with
  | .ref x :: r => if i < ls.length then some (a_set1 ls i (.ref x), r) else none
  | _ => none
def a_inc (ls : aL) (i : Nat) (n : Int) (st : List Value) : Option (aL × List Value) := match ls[i]? with
  | some (some (.int x)) => some (a_set1 ls i (.int (x + Int32.ofInt n)), st)
  | _ => none
/-- instructions on locals -/
def a_loc (i : Instr) (ls : aL) (st : List Value) : Option (aL × List Value) := match i with
  | .iload_n n => a_ldi ls (n : Nat) st
  | .iload n => a_ldi ls n st
  | .lload_n n => a_ldl ls (n : Nat) st
  | .lload n => a_ldl ls n st
  | .aload_n n => a_lda ls (n : Nat) st
  | .aload n => a_lda ls n st
  | .istore_n n => a_sti ls (n : Nat) st
  | .istore n => a_sti ls n st
  | .lstore_n n => a_stl ls (n : Nat) st
  | .lstore n => a_stl ls n st
  | .astore_n n => a_sta ls (n : Nat) st
  | .astore n => a_sta ls n st
  | .iinc n c => a_inc ls n c st
  | _ => none
def a_cnd (c : ClassFile.Cond) (x y : Int32) : Bool := match c with
  | .eq => decide (x = y)
  | .ne => !decide (x = y)
  | .lt => decide (x < y)
  | .ge => decide (y ≤ x)
  | .gt => decide (y < x)
  | .le => decide (x ≤ y)
def a_tgt (pc : Nat) (off : Int) : Option Nat := if 0 ≤ (pc : Int) + off then some ((pc : Int) + off).toNat else none
/-- jumps; where an if goes, stands in its link -/
def a_br (i : Instr) (k : aK) (pc : Nat) (st : List Value) : Option (Nat × List Value) := match i with
  | .ifCond c _ => match st with
    | .int x :: r => some (if a_cnd c x 0 then k.2.1 else pc + 3, r)
    | _ => none
  | .if_icmp c _ => match st with
    | .int y :: .int x :: r => some (if a_cnd c x y then k.2.1 else pc + 3, r)
    | _ => none
  | .goto _ => some (k.2.1, st)
  | .tableswitch d lo hi offs => match st with
    | .int x :: r => if x.toInt < lo ∨ hi < x.toInt then (a_tgt pc d).map (fun t => (t, r)) else
      match offs[(x.toInt - lo).toNat]? with
      | some o => (a_tgt pc o).map (fun t => (t, r))
      | none => none
    | _ => none
  | _ => none
/-- what a field of a type takes as it is -/
def a_fit (ty : FieldType) (v : Value) : Bool := match ty, v with
  | .int, .int _ => true
  | .long, .long _ => true
  | .boolean, .int x => decide (narrow .boolean (.int x) = .int x) && fits .boolean (.int x)
  | .char, .int x => decide (narrow .char (.int x) = .int x) && fits .char (.int x)
  | .object _, .ref _ => true
  | .array _, .ref _ => true
  | _, _ => false
/-- an answer of a stretch on the heap: stack, heap, cells made, their slots -/
abbrev aR : Type := List Value × aH × Nat × Nat
/-- the script's cell -/
def a_scr (X : aX) (i : Instr) (st : List Value) : Option (List Value) := match X, i, st with
  | some (L, xs), .iaload, .int j :: .ref 0 :: r => if j < 0 ∨ L ≤ j.toNatClampNeg then none else some (.int (xs j.toNatClampNeg) :: r)
  | some (L, _), .arraylength, .ref 0 :: r => some (.int (Int32.ofNat L) :: r)
  | _, _, _ => none
def a_get (k : aK) (st : List Value) (h : aH) : Option aR := match st with
  | .ref (o + 2) :: r => match h[o]? with
    | some (.inr (ci, fs)) => if ci = k.2.1 then match fs[k.2.2.1]? with
      | some v => some (v :: r, h, 0, 0)
      | none => none
      else none
    | _ => none
  | _ => none
def a_put (k : aK) (st : List Value) (h : aH) : Option aR := match st with
  | v :: .ref (o + 2) :: r => match h[o]? with
    | some (.inr (ci, fs)) => if ci = k.2.1 then (if k.2.2.1 < fs.length then (if a_fit (a_fty k.2.1 k.2.2.1) v then some (r, h.set o (.inr (ci, fs.set k.2.2.1 v)), 0, 0) else none) else none) else none
    | _ => none
  | _ => none
/-- ints (t 0), booleans (2), chars (3) -/
def a_ald (t : Nat) (st : List Value) (h : aH) : Option aR := match st with
  | .int j :: .ref (o + 2) :: r => match h[o]? with
    | some (.inl (t', .inl l)) => if t' = t then (if j < 0 ∨ l.length ≤ j.toNatClampNeg then none else some (.int (l.getD j.toNatClampNeg 0) :: r, h, 0, 0)) else none
    | _ => none
  | _ => none
def a_lald (st : List Value) (h : aH) : Option aR := match st with
  | .int j :: .ref (o + 2) :: r => match h[o]? with
    | some (.inl (t', .inr (.inl l))) => if t' = 1 then (if j < 0 ∨ l.length ≤ j.toNatClampNeg then none else some (.long (l.getD j.toNatClampNeg 0) :: r, h, 0, 0)) else none
    | _ => none
  | .int j :: .ref 1 :: r => if j < 0 ∨ a_so.length ≤ j.toNatClampNeg then none else some (.long (a_so.getD j.toNatClampNeg 0) :: r, h, 0, 0)
  | _ => none
def a_rv (x : Option Nat) : Value := match x with
  | some a => .ref a
  | none => .null
def a_aald (st : List Value) (h : aH) : Option aR := match st with
  | .int j :: .ref (o + 2) :: r => match h[o]? with
    | some (.inl (t', .inr (.inr l))) => if 4 ≤ t' ∧ t' < a_tys.length then (if j < 0 ∨ l.length ≤ j.toNatClampNeg then none else some (a_rv (l.getD j.toNatClampNeg none) :: r, h, 0, 0)) else none
    | _ => none
  | _ => none
def a_nar (t : Nat) (x : Int32) : Int32 := match t with
  | 2 => vp_nar .boolean x
  | 3 => vp_nar .char x
  | _ => x
def a_ast (t : Nat) (st : List Value) (h : aH) : Option aR := match st with
  | .int x :: .int j :: .ref (o + 2) :: r => match h[o]? with
    | some (.inl (t', .inl l)) => if t' = t then (if j < 0 ∨ l.length ≤ j.toNatClampNeg then none else some (r, h.set o (.inl (t', .inl (l.set j.toNatClampNeg (a_nar t x)))), 0, 0)) else none
    | _ => none
  | _ => none
def a_last (st : List Value) (h : aH) : Option aR := match st with
  | .long x :: .int j :: .ref (o + 2) :: r => match h[o]? with
    | some (.inl (t', .inr (.inl l))) => if t' = 1 then (if j < 0 ∨ l.length ≤ j.toNatClampNeg then none else some (r, h.set o (.inl (t', .inr (.inl (l.set j.toNatClampNeg x)))), 0, 0)) else none
    | _ => none
  | _ => none
/-- the number of an object's class is that of its array's kind -/
def a_aast (st : List Value) (h : aH) : Option aR := match st with
  | .ref (w + 2) :: .int j :: .ref (o + 2) :: r => match h[o]?, h[w]? with
    | some (.inl (t', .inr (.inr l))), some (.inr (ci, _)) => if 4 ≤ t' ∧ a_kind ci = some t' then (if j < 0 ∨ l.length ≤ j.toNatClampNeg then none else some (r, h.set o (.inl (t', .inr (.inr (l.set j.toNatClampNeg (some (w + 2)))))), 0, 0)) else none
    | _, _ => none
  | _ => none
def a_len (st : List Value) (h : aH) : Option aR := match st with
  | .ref (o + 2) :: r => match h[o]? with
    | some (.inl (t', .inl l)) => if t' < a_tys.length then some (.int (Int32.ofNat l.length) :: r, h, 0, 0) else none
    | some (.inl (t', .inr (.inl l))) => if t' < a_tys.length then some (.int (Int32.ofNat l.length) :: r, h, 0, 0) else none
    | some (.inl (t', .inr (.inr l))) => if t' < a_tys.length then some (.int (Int32.ofNat l.length) :: r, h, 0, 0) else none
    | _ => none
  | .ref 1 :: r => some (.int (Int32.ofNat a_so.length) :: r, h, 0, 0)
  | _ => none
def a_newa (ty : ArrayType) (st : List Value) (h : aH) : Option aR := match st with
  | .int n :: r => if n < 0 ∨ 65536 < n.toNatClampNeg then none else match ty with
    | .int => some (.ref (h.length + 2) :: r, h ++ [.inl (0, .inl (List.replicate n.toNatClampNeg 0))], 1, n.toNatClampNeg)
    | .long => some (.ref (h.length + 2) :: r, h ++ [.inl (1, .inr (.inl (List.replicate n.toNatClampNeg 0)))], 1, n.toNatClampNeg)
    | .boolean => some (.ref (h.length + 2) :: r, h ++ [.inl (2, .inl (List.replicate n.toNatClampNeg 0))], 1, n.toNatClampNeg)
    | .char => some (.ref (h.length + 2) :: r, h ++ [.inl (3, .inl (List.replicate n.toNatClampNeg 0))], 1, n.toNatClampNeg)
    | _ => none
  | _ => none
def a_newq (k : aK) (st : List Value) (h : aH) : Option aR := match st with
  | .int n :: r => if n < 0 ∨ 65536 < n.toNatClampNeg then none else
    some (.ref (h.length + 2) :: r, h ++ [.inl (k.2.1, .inr (.inr (List.replicate n.toNatClampNeg none)))], 1, n.toNatClampNeg)
  | _ => none
/-- a grid of longs -/
def a_newm (k : aK) (st : List Value) (h : aH) : Option aR := match st with
  | .int n2 :: .int n1 :: r => if n1 = 16 ∧ n2 = 16 then
      some (.ref (h.length + 2) :: r, h ++ .inl (k.2.1, .inr (.inr ((List.range 16).map (fun j => some (h.length + 3 + j))))) :: List.replicate 16 (.inl (1, .inr (.inl (List.replicate 16 0)))), 17, 272) else none
  | _ => none
def a_new (k : aK) (st : List Value) (h : aH) : Option aR :=
  some (.ref (h.length + 2) :: st, h ++ [.inr (k.2.1, (List.range (a_n k.2.1)).map (fun j => defaultValue (a_fty k.2.1 j)))], 1, a_n k.2.1)
def a_cpy (f g : List Int32) (sp dp n : Nat) : List Int32 := (List.range g.length).map (fun j => if dp ≤ j ∧ j < dp + n then f.getD (sp + (j - dp)) 0 else g.getD j 0)
def a_copy (st : List Value) (h : aH) : Option aR := match st with
  | .int n :: .int dp :: .ref (d + 2) :: .int sp :: .ref (o + 2) :: r => match h[o]?, h[d]? with
    | some (.inl (t, .inl f)), some (.inl (t', .inl g)) =>
      if t = t' ∧ (t = 0 ∨ t = 3) then
        (if sp < 0 ∨ dp < 0 ∨ n < 0 ∨ f.length < sp.toNatClampNeg + n.toNatClampNeg ∨ g.length < dp.toNatClampNeg + n.toNatClampNeg then none else
          (if t = 0 ∨ (List.range n.toNatClampNeg).all (fun i => fits .char (.int (f.getD (sp.toNatClampNeg + i) 0))) = true then
            some (r, h.set d (.inl (t', .inl (a_cpy f g sp.toNatClampNeg dp.toNatClampNeg n.toNatClampNeg))), 0, 0) else none)) else none
    | _, _ => none
  | _ => none
/-- words on the stack -/
def a_wd (st : List Value) : Nat := (st.map fun v => v.category).sum
/-- instructions on the heap -/
def a_hp (i : Instr) (k : aK) (st : List Value) (h : aH) : Option aR := match i with
  | .getfield _ => a_get k st h
  | .putfield _ => a_put k st h
  | .iaload => a_ald 0 st h
  | .baload => a_ald 2 st h
  | .caload => a_ald 3 st h
  | .laload => a_lald st h
  | .aaload => a_aald st h
  | .iastore => a_ast 0 st h
  | .bastore => a_ast 2 st h
  | .castore => a_ast 3 st h
  | .lastore => a_last st h
  | .aastore => a_aast st h
  | .arraylength => a_len st h
  | .newarray ty => a_newa ty st h
  | .anewarray _ => if k.1 = 12 then a_newq k st h else none
  | .multianewarray _ _ => if k.1 = 13 then a_newm k st h else none
  | .new _ => if k.1 = 11 then a_new k st h else none
  | .getstatic _ => if k.1 = 14 then some (.ref 1 :: st, h, 0, 0) else none
  | .invokespecial _ => if k.1 = 9 then match st with
    | .ref _ :: r => if a_wd r ≤ 8 then some (r, h, 0, 0) else none
    | _ => none
    else none
  | .invokestatic _ => if k.1 = 10 then (if a_wd (st.drop 5) ≤ 8 then a_copy st h else none) else none
  | _ => none
/-- a stretch of one instruction: where it goes, locals, stack, heap, cells, slots -/
abbrev aS : Type := Nat × aL × List Value × aH × Nat × Nat
def a_op (X : aX) (i : Instr) (len : Nat) (k : aK) (pc : Nat) (ls : aL) (st : List Value) (h : aH) : Option aS :=
  match a_stk i k st with
  | some st' => some (pc + len, ls, st', h, 0, 0)
  | none => match a_loc i ls st with
    | some (ls', st') => some (pc + len, ls', st', h, 0, 0)
    | none => match a_br i k pc st with
      | some (pc', st') => some (pc', ls, st', h, 0, 0)
      | none => match a_hp i k st h with
        | some (st', h', c, s) => some (pc + len, ls, st', h', c, s)
        | none => match a_scr X i st with
          | some st' => some (pc + len, ls, st', h, 0, 0)
          | none => none
/-- a method's end: its answer; .retAddr 0 says that it throws -/
def a_ret (i : Instr) (k : aK) (ret : Option FieldType) (st : List Value) : Option (Option Value) := match i with
  | .ireturn => match ret, st with
    | some .int, [.int x] => some (some (.int x))
    | some .boolean, [.int x] => if narrow .boolean (.int x) = .int x then some (some (.int x)) else none
    | some .char, [.int x] => if narrow .char (.int x) = .int x then some (some (.int x)) else none
    | _, _ => none
  | .lreturn => match ret, st with
    | some .long, [.long x] => some (some (.long x))
    | _, _ => none
  | .return_ => match ret, st with
    | none, [] => some none
    | _, _ => none
  | .new _ => if k.1 = 17 then match st with
    | [] => some (some (.retAddr 0))
    | _ => none
    else none
  | _ => none
def a_entry : List Value → aL
  | [] => []
  | v :: vs => if v.category = 2 then some v :: none :: a_entry vs else some v :: a_entry vs
def a_ent (as : List Value) (n : Nat) : aL := a_entry as ++ List.replicate (n - (a_entry as).length) none
def a_recv (h : aH) (v : Value) (ci : Nat) : Bool := match v with
  | .ref (o + 2) => match h[o]? with
    | some (.inr (c, _)) => decide (c = ci)
    | _ => false
  | _ => false
/-- a call: the method, its arguments, what stays on the stack -/
def a_inv (P : List aM) (i : Instr) (k : aK) (st : List Value) (h : aH) : Option (aM × List Value × List Value) :=
  match P[k.2.1]? with
  | none => none
  | some M => match i with
    | .invokevirtual _ => if k.1 = 4 ∨ k.1 = 18 then match st.drop M.2.2.2.2.1 with
      | v :: r => if a_recv h v k.2.2.1 = true ∧ a_wd r ≤ 8 ∧ (a_entry (v :: (st.take M.2.2.2.2.1).reverse)).length ≤ M.2.2.1 then some (M, v :: (st.take M.2.2.2.2.1).reverse, r) else none
      | _ => none
      else none
    | .invokespecial _ => if k.1 = 6 then match st.drop M.2.2.2.2.1 with
      | .ref o :: r => if a_wd r ≤ 8 ∧ (a_entry (.ref o :: (st.take M.2.2.2.2.1).reverse)).length ≤ M.2.2.1 then some (M, .ref o :: (st.take M.2.2.2.2.1).reverse, r) else none
      | _ => none
      else none
    | .invokestatic _ => if k.1 = 8 ∨ k.1 = 20 then
        (if M.2.2.2.2.1 ≤ st.length ∧ a_wd (st.drop M.2.2.2.2.1) ≤ 8 ∧ (a_entry (st.take M.2.2.2.2.1).reverse).length ≤ M.2.2.1 then some (M, (st.take M.2.2.2.2.1).reverse, st.drop M.2.2.2.2.1) else none)
      else none
    | _ => none
/-- an answer: what it answers, the heap, cells made, their slots -/
abbrev aQ : Type := Option Value × aH × Nat × Nat
def a_more (c s : Nat) (r : Option aQ) : Option aQ := match r with
  | some (v, h, c', s') => some (v, h, c + c', s + s')
  | none => none
/-- THE PAPER MACHINE: fuel, depth of calls, method, place, locals, stack, heap -/
def aexec (P : List aM) (X : aX) : Nat → Nat → aM → Nat → aL → List Value → aH → Option aQ
  | 0, _, _, _, _, _, _ => none
  | f + 1, d, M, pc, ls, st, h => match M.2.2.2.2.2.lookup pc with
    | none => none
    | some (i, len, k) => match a_op X i len k pc ls st h with
      | some (pc', ls', st', h', c, s) => a_more c s (aexec P X f d M pc' ls' st' h')
      | none => match a_ret i k M.2.2.2.1 st with
        | some v => match v with
          | some (.retAddr _) => some (v, h ++ [.inr (a_exc, [])], 1, 6)
          | _ => some (v, h, 0, 0)
        | none => match a_inv P i k st h with
          | none => none
          | some (M', as, rest) => match d with
            | 0 => none
            | d' + 1 => match aexec P X f d' M' 0 (a_ent as M'.2.2.1) [] h with
              | none => none
              | some (v, h1, c, s) => match v with
                | some (.retAddr _) => if k.1 = 18 then some (some (.int 1), h1, c, s) else none
                | _ => a_more c s (aexec P X f d M (pc + len) ls (v.toList ++ rest) h1)
/-! ===== links, held against the tables ===== -/
/-- a method, its sort (0 of an object, 1 static, 2 constructor, 3 static with a table), places of its words -/
abbrev aZ : Type := aM × Nat × List Nat
/-- a word stands at its place (a thousand to a stretch of the tables), and holds on -/
def a_has (j : Nat) (w : Cond) : Bool := decide ((a_chunk (j / 1000))[j % 1000]? = some w) && goodWord w
def a_good : List Cond := lw_tbl.filter goodWord
theorem a_has_in {j : Nat} {w : Cond} (h : a_has j w = true) : w ∈ a_good := by
  simp only [a_has, Bool.and_eq_true, decide_eq_true_eq] at h
  exact List.mem_filter.mpr ⟨a_chunk_in (List.mem_of_getElem? h.1), h.2⟩
def a_isN (w : Cond) : Bool := match w with
  | .fieldLinkNest _ _ _ _ _ _ => true
  | .methodLinkNest _ _ _ _ => true
  | .castable _ _ => true
  | .declares _ => true
  | _ => false
set_option maxRecDepth 20000 in
theorem a_nest_ok : ∀ w ∈ a_nest, a_isN w = true := by decide +kernel
def a_ln (i : Instr) (len : Nat) : Nat := match i with
  | .bipush _ => 2
  | .sipush _ => 3
  | .ldc _ => 2
  | .ldc_w _ => 3
  | .ldc2_w _ => 3
  | .iload _ => 2
  | .lload _ => 2
  | .aload _ => 2
  | .istore _ => 2
  | .lstore _ => 2
  | .astore _ => 2
  | .iinc _ _ => 3
  | .ifCond _ _ => 3
  | .if_icmp _ _ => 3
  | .goto _ => 3
  | .tableswitch _ _ _ _ => len
  | .getfield _ => 3
  | .putfield _ => 3
  | .getstatic _ => 3
  | .invokevirtual _ => 3
  | .invokespecial _ => 3
  | .invokestatic _ => 3
  | .new _ => 3
  | .newarray _ => 2
  | .anewarray _ => 3
  | .multianewarray _ _ => 4
  | _ => 1
def a_lkF (M : aM) (idx : Nat) (k : aK) : Bool := match vwCl[k.2.1]? with
  | some (_, T, N) => decide (k.2.2.1 < N) && a_has k.2.2.2.toNat (.fieldLink M.1.cls idx (T k.2.2.1).1 (T k.2.2.1).2.1 (T k.2.2.1).2.2.1)
  | none => false
/-- 'throw new E("text")': new; dup; ldc_w; invokespecial; athrow -/
def a_thr (M : aM) (pc idx : Nat) (k : aK) : Bool := a_has k.2.2.2.toNat (.classLink M.1.cls idx a_excN) && decide (M.1.cls = "OddsInCourt") && decide (decode M.2.1 (pc + 3) = .ok (.dup, 1)) &&
  (a_strs.any (fun q => decide (decode M.2.1 (pc + 4) = .ok (.ldc_w q.1, 3)))) && decide (decode M.2.1 (pc + 7) = .ok (.invokespecial a_ic, 3)) && decide (decode M.2.1 (pc + 10) = .ok (.athrow, 1))
/-- a handler that drops what it caught and answers 1 -/
def a_cat (M : aM) (pc hp : Nat) : Bool := match a_hh M.1 with
  | [(a, b, h, t)] => decide (a ≤ pc) && decide (pc < b) && decide (h = hp) && decide (t ≠ 0) && decide (M.2.2.2.1 = some .int) && (match decode M.2.1 hp with
    | .ok (.astore n, 2) => decide (n < M.2.2.1) && decide (M.2.2.2.2.2.lookup (hp + 2) = some (.iconst 1, 1, 0, 0, 0, 0)) && decide (M.2.2.2.2.2.lookup (hp + 3) = some (.ireturn, 1, 0, 0, 0, 0))
    | .ok (.astore_n n, 1) => decide ((n : Nat) < M.2.2.1) && decide (M.2.2.2.2.2.lookup (hp + 1) = some (.iconst 1, 1, 0, 0, 0, 0)) && decide (M.2.2.2.2.2.lookup (hp + 2) = some (.ireturn, 1, 0, 0, 0, 0))
    | _ => false)
  | _ => false
/-- an instruction's link is what the tables say -/
def a_lk (Z : List aZ) (M : aM) (pc : Nat) (i : Instr) (k : aK) : Bool := match i with
  | .ldc idx => if k.1 = 15 then a_has k.2.1 (.constant M.1.cls idx (Int32.ofInt k.2.2.2)) else true
  | .ldc_w idx => if k.1 = 15 then a_has k.2.1 (.constant M.1.cls idx (Int32.ofInt k.2.2.2)) else true
  | .ldc2_w idx => if k.1 = 16 then a_has k.2.1 (.constantLong M.1.cls idx (Int64.ofInt k.2.2.2)) else true
  | .ifCond _ off => decide ((pc : Int) + off = (k.2.1 : Int))
  | .if_icmp _ off => decide ((pc : Int) + off = (k.2.1 : Int))
  | .goto off => decide ((pc : Int) + off = (k.2.1 : Int))
  | .getfield idx => decide (k.1 = 1) && a_lkF M idx k
  | .putfield idx => a_lkF M idx k && (match vwCl[k.2.1]? with
    | some (_, T, _) => (decide (k.1 = 1) && !(T k.2.2.1).2.2.2) || (decide (k.1 = 3) && (T k.2.2.1).2.2.2 && decide (M.1.name = "<init>") && decide ((T k.2.2.1).1 = M.1.cls))
    | none => false)
  | .newarray ty => a_has k.2.2.2.toNat (.arrayClass (newarray.typeOf ty))
  | .anewarray idx => if k.1 = 12 then (match a_tys[k.2.1]? with
    | some (.object C) => a_has k.2.2.2.toNat (.classLink M.1.cls idx C) && decide (C ∈ a_over)
    | _ => false) else true
  | .multianewarray idx dims => if k.1 = 13 then a_has k.2.2.2.toNat (.classLink M.1.cls idx "[[J") && decide (k.2.1 = 6) && decide (dims = 2) else true
  | .new idx => if k.1 = 17 then a_thr M pc idx k else if k.1 = 11 then (match vwCl[k.2.1]? with
    | some (C, _, N) => decide (N = a_n k.2.1) && decide (k.2.1 < 13) && a_has k.2.2.2.toNat (.classLink M.1.cls idx C)
    | none => false) else true
  | .getstatic idx => if k.1 = 14 then a_has k.2.2.2.toNat (.fieldLink M.1.cls idx a_soC a_soN "[J") else true
  | .invokespecial idx => if k.1 = 9 then a_has k.2.2.2.toNat (.methodLink M.1.cls idx objectInit) else (match Z[k.2.1]? with
    | some (M', t, _) => decide (t = 2) && a_has k.2.2.2.toNat (.methodLink M.1.cls idx M'.1)
    | none => false)
  | .invokestatic idx => if k.1 = 10 then a_has k.2.2.2.toNat (.methodLink M.1.cls idx arraycopyName) else (match Z[k.2.1]? with
    | some (M', t, _) => decide (t = 1 ∧ k.1 = 8 ∨ t = 3 ∧ k.1 = 20) && a_has k.2.2.2.toNat (.methodLink M.1.cls idx M'.1)
    | none => false)
  | .invokevirtual idx => (match Z[k.2.1]? with
    | some (M', t, _) => decide (t = 0) && a_has (k.2.2.2.toNat % 100000) (.methodLink M.1.cls idx M'.1) && (match vwCl[k.2.2.1]? with
      | some (C, _, _) => decide (C = M'.1.cls)
      | none => false) && (if k.1 = 18 then a_cat M pc (k.2.2.2.toNat / 100000) else true)
    | none => false)
  | _ => true
def a_okb (Z : List aZ) (M : aM) (q : Nat × aI) : Bool := decide (decode M.2.1 q.1 = .ok (q.2.1, q.2.2.1)) && decide (a_ln q.2.1 q.2.2.1 = q.2.2.1) && a_lk Z M q.1 q.2.1 q.2.2.2
/-- a method's own words -/
def a_mb (q : aZ) : Bool := decide (q.1.2.2.1 ≤ 41) && decide (q.1.1.cls ≠ "java/lang/invoke/MethodHandle") && decide (q.1.1.cls ≠ "java/lang/invoke/VarHandle") && decide ((parseMethodDescriptor q.1.1.desc).map (fun d => d.parameters.length) = some q.1.2.2.2.2.1) && plainFor q.1.1 &&
  a_has (q.2.2.getD 0 0) (.initialized q.1.1.cls) && (match q.2.1 with
  | 0 => a_has (q.2.2.getD 1 0) (.code q.1.1 q.1.2.1 q.1.2.2.1 q.1.2.2.2.1) && a_has (q.2.2.getD 2 0) (.instanceMethod q.1.1) && a_has (q.2.2.getD 3 0) (.selects q.1.1.cls q.1.1 q.1.1)
  | 1 => a_has (q.2.2.getD 1 0) (.code q.1.1 q.1.2.1 q.1.2.2.1 q.1.2.2.2.1) && a_has (q.2.2.getD 2 0) (.static q.1.1)
  | 2 => a_has (q.2.2.getD 1 0) (.code q.1.1 q.1.2.1 q.1.2.2.1 q.1.2.2.2.1) && a_has (q.2.2.getD 2 0) (.instanceMethod q.1.1) && decide (q.1.1.name = "<init>") && decide (q.1.2.2.2.1 = none)
  | 3 => a_has (q.2.2.getD 1 0) (.codeWith q.1.1 q.1.2.1 q.1.2.2.1 q.1.2.2.2.1 (a_hh q.1.1)) && a_has (q.2.2.getD 2 0) (.static q.1.1) && (match a_hh q.1.1 with
    | [(_, _, _, t)] => a_has (q.2.2.getD 3 0) (.classLink q.1.1.cls t a_excN)
    | _ => false)
  | _ => false)
/-- a class's own words -/
def a_clb (ci : Nat) : Bool := match vwCl[ci]? with
  | some (C, T, N) => decide (N = a_n ci) && (List.range N).all (fun k => a_has ((a_clP.getD ci []).getD k 0) (u_lay C T k) && decide (parseFieldDescriptor (T k).2.2.1 = some (a_fty ci k)) && (List.range N).all (fun b => decide (k = b) || decide ((T k).2.1 ≠ (T b).2.1))) &&
      (decide (ci = 13) || (a_has (a_clI.getD ci 0) (.instantiable C N) && a_has (a_clJ.getD ci 0) (.initialized C)))
  | none => true
set_option maxRecDepth 20000 in
theorem a_clAll : (List.range 14).all a_clb = true := by decide +kernel
theorem a_cl_ok {ci : Nat} {C : String} {T : u_T} {N : Nat} (h : vwCl[ci]? = some (C, T, N)) : N = a_n ci ∧ (∀ k, k < N → u_lay C T k ∈ a_good ∧ parseFieldDescriptor (T k).2.2.1 = some (a_fty ci k) ∧ ∀ b, b < N → k ≠ b → (T k).2.1 ≠ (T b).2.1) ∧ (ci = 13 ∨ (Cond.instantiable C N ∈ a_good ∧ Cond.initialized C ∈ a_good)) := by
  have hci : ci < 14 := by
    have := (List.getElem?_eq_some_iff.mp h).1
    exact this
  have h1 := List.all_eq_true.mp a_clAll ci (List.mem_range.mpr hci)
  unfold a_clb at h1
  rw [h] at h1
  simp only [Bool.and_eq_true, decide_eq_true_eq, List.all_eq_true, List.mem_range, Bool.or_eq_true] at h1
  obtain ⟨⟨h1, h2⟩, h3⟩ := h1
  refine ⟨h1, fun k hk => ?_, ?_⟩
  · obtain ⟨⟨q1, q2⟩, q3⟩ := h2 k hk
    refine ⟨a_has_in q1, q2, fun b hb hne => ?_⟩
    rcases q3 b hb with q | q
    · exact absurd q hne
    · exact q
  · rcases h3 with q | ⟨q1, q2⟩
    · exact Or.inl q
    · exact Or.inr ⟨a_has_in q1, a_has_in q2⟩
theorem a_inC {ci : Nat} {C : String} {T : u_T} {N : Nat} (h : vwCl[ci]? = some (C, T, N)) : ∀ w ∈ u_ws C T N, w ∈ a_good := by
  intro w hw
  obtain ⟨k, hk, rfl⟩ := List.mem_map.mp hw
  exact ((a_cl_ok h).2.1 k (List.mem_range.mp hk)).1
theorem a_ftyOK {ci : Nat} {C : String} {T : u_T} {N : Nat} (h : vwCl[ci]? = some (C, T, N)) : ∀ k, k < N → parseFieldDescriptor (T k).2.2.1 = some (a_fty ci k) := fun k hk => ((a_cl_ok h).2.1 k hk).2.1
theorem a_nm {ci : Nat} {C : String} {T : u_T} {N : Nat} (h : vwCl[ci]? = some (C, T, N)) : ∀ a, a < N → ∀ b, b < N → a ≠ b → (T a).2.1 ≠ (T b).2.1 := fun a ha b hb hne => ((a_cl_ok h).2.1 a ha).2.2 b hb hne
theorem a_ty0 : a_tys[0]? = some .int := rfl
theorem a_ty1 : a_tys[1]? = some .long := rfl
theorem a_ty2 : a_tys[2]? = some .boolean := rfl
theorem a_ty3 : a_tys[3]? = some .char := rfl
theorem a_ty6 : a_tys[6]? = some (.array .long) := rfl
theorem a_tyR {t : Nat} (h1 : 4 ≤ t) (h2 : t < a_tys.length) : ∃ ty, a_tys[t]? = some ty ∧ ty.isReference = true := by
  have h2' : t < 7 := h2
  rcases (show t = 4 ∨ t = 5 ∨ t = 6 by omega) with rfl | rfl | rfl
  · exact ⟨_, rfl, rfl⟩
  · exact ⟨_, rfl, rfl⟩
  · exact ⟨_, rfl, rfl⟩
theorem a_kindOK {ci t : Nat} (h : a_kind ci = some t) : ∃ C T N, vwCl[ci]? = some (C, T, N) ∧ a_tys[t]? = some (.object C) := by
  unfold a_kind at h
  split at h
  · rename_i e; cases h; subst e; exact ⟨_, _, _, rfl, rfl⟩
  · split at h
    · rename_i e; cases h; subst e; exact ⟨_, _, _, rfl, rfl⟩
    · cases h
theorem a_plOK : (Cond.instanceMethod objectInit ∈ a_good ∧ Cond.code objectInit ⟨#[0xb1]⟩ 1 none ∈ a_good) ∧ (Cond.native arraycopyName ∈ a_good ∧ Cond.static arraycopyName ∈ a_good ∧ Cond.initialized "java/lang/System" ∈ a_good) :=
  ⟨⟨a_has_in (j := a_pl.getD 0 0) (by decide +kernel), a_has_in (j := a_pl.getD 1 0) (by decide +kernel)⟩, a_has_in (j := a_pl.getD 2 0) (by decide +kernel), a_has_in (j := a_pl.getD 3 0) (by decide +kernel), a_has_in (j := a_pl.getD 4 0) (by decide +kernel)⟩
section ALK
variable {Z : List aZ} {M M' : aM} {pc idx : Nat} {k : aK}
theorem a_lkF_s (h : a_lkF M idx k = true) : ∃ C T N, vwCl[k.2.1]? = some (C, T, N) ∧ k.2.2.1 < N ∧ Cond.fieldLink M.1.cls idx (T k.2.2.1).1 (T k.2.2.1).2.1 (T k.2.2.1).2.2.1 ∈ a_good := by
  unfold a_lkF at h
  split at h
  · rename_i C T N hc
    simp only [Bool.and_eq_true, decide_eq_true_eq] at h
    exact ⟨C, T, N, hc, h.1, a_has_in h.2⟩
  · cases h
theorem a_lk_get (h : a_lk Z M pc (.getfield idx) k = true) : ∃ C T N, vwCl[k.2.1]? = some (C, T, N) ∧ k.2.2.1 < N ∧ Cond.fieldLink M.1.cls idx (T k.2.2.1).1 (T k.2.2.1).2.1 (T k.2.2.1).2.2.1 ∈ a_good := by
  simp only [a_lk, Bool.and_eq_true] at h
  exact a_lkF_s h.2
theorem a_lk_put (h : a_lk Z M pc (.putfield idx) k = true) : ∃ C T N, vwCl[k.2.1]? = some (C, T, N) ∧ k.2.2.1 < N ∧ ((Cond.fieldLink M.1.cls idx (T k.2.2.1).1 (T k.2.2.1).2.1 (T k.2.2.1).2.2.1 ∈ a_good ∧ (T k.2.2.1).2.2.2 = false) ∨ (Cond.fieldLink M.1.cls idx (T k.2.2.1).1 (T k.2.2.1).2.1 (T k.2.2.1).2.2.1 ∈ a_good ∧ (T k.2.2.1).2.2.2 = true ∧ M.1.name = "<init>" ∧ (T k.2.2.1).1 = M.1.cls)) := by
  simp only [a_lk, Bool.and_eq_true] at h
  obtain ⟨C, T, N, hc, hn, hl⟩ := a_lkF_s h.1
  refine ⟨C, T, N, hc, hn, ?_⟩
  have h2 := h.2
  rw [hc] at h2
  simp only [Bool.or_eq_true, Bool.and_eq_true, decide_eq_true_eq, Bool.not_eq_true'] at h2
  rcases h2 with q | q
  · exact Or.inl ⟨hl, q.2⟩
  · exact Or.inr ⟨hl, q.1.1.2, q.1.2, q.2⟩
theorem a_lk_newq (hk : k.1 = 12) (h : a_lk Z M pc (.anewarray idx) k = true) : ∃ C, a_tys[k.2.1]? = some (.object C) ∧ Cond.classLink M.1.cls idx C ∈ a_good ∧ C ∈ a_over := by
  simp only [a_lk, hk, if_true] at h
  split at h
  · rename_i C hc
    simp only [Bool.and_eq_true, decide_eq_true_eq] at h
    exact ⟨C, hc, a_has_in h.1, h.2⟩
  · cases h
theorem a_lk_new (hk : k.1 = 11) (h : a_lk Z M pc (.new idx) k = true) : ∃ C T N, vwCl[k.2.1]? = some (C, T, N) ∧ a_n k.2.1 = N ∧ Cond.classLink M.1.cls idx C ∈ a_good ∧ Cond.instantiable C N ∈ a_good ∧ Cond.initialized C ∈ a_good := by
  simp only [a_lk, hk, if_true, show ¬ ((11 : Nat) = 17) by decide, if_false] at h
  split at h
  · rename_i C T N hc
    simp only [Bool.and_eq_true, decide_eq_true_eq] at h
    obtain ⟨g1, g2, g3⟩ := a_cl_ok hc
    rcases g3 with q | q
    · have := h.1.2; omega
    · exact ⟨C, T, N, hc, g1.symm, a_has_in h.2, q.1, q.2⟩
  · cases h
theorem a_lk_sta (hk : k.1 = 14) (h : a_lk Z M pc (.getstatic idx) k = true) : Cond.fieldLink M.1.cls idx a_soC a_soN "[J" ∈ a_good := by
  simp only [a_lk, hk, if_true] at h
  exact a_has_in h
theorem a_lk_obj (hk : k.1 = 9) (h : a_lk Z M pc (.invokespecial idx) k = true) : Cond.methodLink M.1.cls idx objectInit ∈ a_good ∧ Cond.instanceMethod objectInit ∈ a_good ∧ Cond.code objectInit ⟨#[0xb1]⟩ 1 none ∈ a_good := by
  simp only [a_lk, hk, if_true] at h
  exact ⟨a_has_in h, a_plOK.1.1, a_plOK.1.2⟩
theorem a_lk_copy (hk : k.1 = 10) (h : a_lk Z M pc (.invokestatic idx) k = true) : Cond.methodLink M.1.cls idx arraycopyName ∈ a_good ∧ Cond.native arraycopyName ∈ a_good ∧ Cond.static arraycopyName ∈ a_good ∧ Cond.initialized "java/lang/System" ∈ a_good := by
  simp only [a_lk, hk, if_true] at h
  exact ⟨a_has_in h, a_plOK.2.1, a_plOK.2.2.1, a_plOK.2.2.2⟩
/-- a method that a call names -/
def a_ZOK (Z : List aZ) : Prop := ∀ q ∈ Z, a_mb q = true ∧ ∀ e ∈ q.1.2.2.2.2.2, a_okb Z q.1 e = true
theorem a_mb_s {q : aZ} (h : a_mb q = true) : q.1.2.2.1 ≤ 41 ∧ (q.1.1.cls ≠ "java/lang/invoke/MethodHandle" ∧ q.1.1.cls ≠ "java/lang/invoke/VarHandle" ∧ (parseMethodDescriptor q.1.1.desc).map (fun d => d.parameters.length) = some q.1.2.2.2.2.1) ∧ plainFor q.1.1 = true ∧ Cond.initialized q.1.1.cls ∈ a_good ∧
    (q.2.1 = 0 → Cond.code q.1.1 q.1.2.1 q.1.2.2.1 q.1.2.2.2.1 ∈ a_good ∧ Cond.instanceMethod q.1.1 ∈ a_good ∧ Cond.selects q.1.1.cls q.1.1 q.1.1 ∈ a_good) ∧ (q.2.1 = 1 → Cond.code q.1.1 q.1.2.1 q.1.2.2.1 q.1.2.2.2.1 ∈ a_good ∧ Cond.static q.1.1 ∈ a_good) ∧
    (q.2.1 = 2 → Cond.code q.1.1 q.1.2.1 q.1.2.2.1 q.1.2.2.2.1 ∈ a_good ∧ Cond.instanceMethod q.1.1 ∈ a_good ∧ q.1.1.name = "<init>" ∧ q.1.2.2.2.1 = none) ∧ (q.2.1 = 3 → Cond.codeWith q.1.1 q.1.2.1 q.1.2.2.1 q.1.2.2.2.1 (a_hh q.1.1) ∈ a_good ∧ Cond.static q.1.1 ∈ a_good ∧ ∃ a b h t, a_hh q.1.1 = [(a, b, h, t)] ∧ Cond.classLink q.1.1.cls t a_excN ∈ a_good) := by
  unfold a_mb at h
  simp only [Bool.and_eq_true, decide_eq_true_eq] at h
  obtain ⟨⟨⟨⟨⟨⟨h1, h2⟩, h3⟩, h4⟩, h5⟩, h6⟩, h7⟩ := h
  refine ⟨h1, ⟨h2, h3, h4⟩, h5, a_has_in h6, fun e => ?_, fun e => ?_, fun e => ?_, fun e => ?_⟩
  · rw [e] at h7
    simp only [Bool.and_eq_true] at h7
    exact ⟨a_has_in h7.1.1, a_has_in h7.1.2, a_has_in h7.2⟩
  · rw [e] at h7
    simp only [Bool.and_eq_true] at h7
    exact ⟨a_has_in h7.1, a_has_in h7.2⟩
  · rw [e] at h7
    simp only [Bool.and_eq_true, decide_eq_true_eq] at h7
    exact ⟨a_has_in h7.1.1.1, a_has_in h7.1.1.2, h7.1.2, h7.2⟩
  · rw [e] at h7
    simp only [Bool.and_eq_true] at h7
    refine ⟨a_has_in h7.1.1, a_has_in h7.1.2, ?_⟩
    have h8 := h7.2
    split at h8
    · rename_i a b h t e1
      exact ⟨a, b, h, t, e1, a_has_in h8⟩
    · cases h8
theorem a_lk_virt {q : aZ} (hq : Z[k.2.1]? = some q) (h : a_lk Z M pc (.invokevirtual idx) k = true) : q.2.1 = 0 ∧ Cond.methodLink M.1.cls idx q.1.1 ∈ a_good ∧ (∃ T N, vwCl[k.2.2.1]? = some (q.1.1.cls, T, N)) ∧ (k.1 = 18 → a_cat M pc (k.2.2.2.toNat / 100000) = true) := by
  simp only [a_lk] at h
  rw [hq] at h
  simp only [Bool.and_eq_true, decide_eq_true_eq] at h
  refine ⟨h.1.1.1, a_has_in h.1.1.2, ?_, fun e => by have h3 := h.2; rw [if_pos e] at h3; exact h3⟩
  have h2 := h.1.2
  split at h2
  · rename_i C T N hc
    have e := of_decide_eq_true h2
    rw [e] at hc
    exact ⟨T, N, hc⟩
  · cases h2
theorem a_lk_init {q : aZ} (hq : Z[k.2.1]? = some q) (hk : k.1 = 6) (h : a_lk Z M pc (.invokespecial idx) k = true) : q.2.1 = 2 ∧ Cond.methodLink M.1.cls idx q.1.1 ∈ a_good := by
  simp only [a_lk, hk, show ¬ ((6 : Nat) = 9) by decide, if_false] at h
  rw [hq] at h
  simp only [Bool.and_eq_true, decide_eq_true_eq] at h
  exact ⟨h.1, a_has_in h.2⟩
theorem a_lk_stat {q : aZ} (hq : Z[k.2.1]? = some q) (hk : k.1 = 8 ∨ k.1 = 20) (h : a_lk Z M pc (.invokestatic idx) k = true) : (q.2.1 = 1 ∧ k.1 = 8 ∨ q.2.1 = 3 ∧ k.1 = 20) ∧ Cond.methodLink M.1.cls idx q.1.1 ∈ a_good := by
  simp only [a_lk] at h
  rw [if_neg (by rcases hk with e | e <;> rw [e] <;> decide), hq] at h
  simp only [Bool.and_eq_true, decide_eq_true_eq] at h
  exact ⟨h.1, a_has_in h.2⟩
end ALK
end
section
/-! ===== WHAT THE PAPER MACHINE DOES, THE MACHINE DOES ===== -/
/-- script's address, the constants' row's address, first new address, classes and slots, classes of arrays -/
abbrev aG : Type := Nat × Nat × Nat × va_G × (Nat → ClassId)
def a_ad (G : aG) : Nat → Nat
  | 0 => G.1
  | 1 => G.2.1
  | k + 2 => G.2.2.1 + k
def a_rn (G : aG) (v : Value) : Value := match v with
  | .ref k => .ref (a_ad G k)
  | w => w
def a_cc (G : aG) (q : aE) : va_E := match q with
  | .inl (t, .inl l) => .inl (G.2.2.2.2 t, l.length, .inl (fun j => l.getD j 0))
  | .inl (t, .inr (.inl l)) => .inl (G.2.2.2.2 t, l.length, .inr (.inl (fun j => l.getD j 0)))
  | .inl (t, .inr (.inr l)) => .inl (G.2.2.2.2 t, l.length, .inr (.inr (.inr (.inr (fun j => (l.getD j none).map (a_ad G))))))
  | .inr (ci, fs) => .inr (ci, fs.map (a_rn G))
def a_ws (G : aG) (h : aH) : va_W := h.zipIdx.map (fun q => (G.2.2.1 + q.2, a_cc G q.1))
def a_tyl (G : aG) : List (ClassId × FieldType) := a_tys.zipIdx.map (fun q => (G.2.2.2.2 q.2, q.1))
def a_A (G : aG) : Nat → Prop := fun q => G.2.2.1 ≤ q
theorem a_ws_at (G : aG) (h : aH) (k : Nat) : (a_ws G h)[k]? = (h[k]?).map (fun c => (G.2.2.1 + k, a_cc G c)) := by
  simp only [a_ws, List.getElem?_map, List.getElem?_zipIdx]
  cases h[k]? <;> simp
theorem a_ws_of {G : aG} {h : aH} {k : Nat} {c : aE} (e : h[k]? = some c) : (a_ws G h)[k]? = some (G.2.2.1 + k, a_cc G c) := by
  rw [a_ws_at, e]; rfl
theorem a_ws_set (G : aG) (h : aH) (k : Nat) (c : aE) : (a_ws G h).set k (G.2.2.1 + k, a_cc G c) = a_ws G (h.set k c) := by
  apply List.ext_getElem?
  intro j
  rw [a_ws_at, List.getElem?_set, List.getElem?_set]
  by_cases hj : k = j
  · subst hj
    simp only [if_true, a_ws, List.length_map, List.length_zipIdx]
    by_cases hl : k < h.length <;> simp [hl]
  · simp only [if_neg hj]
    rw [a_ws_at]
theorem a_ws_app (G : aG) (h : aH) (c : aE) : a_ws G (h ++ [c]) = a_ws G h ++ [(G.2.2.1 + h.length, a_cc G c)] := by
  simp [a_ws, List.zipIdx_append]
theorem a_ws_len (G : aG) (h : aH) : (a_ws G h).length = h.length := by simp [a_ws]
theorem a_tyl_at {G : aG} {t : Nat} {ty : FieldType} (e : a_tys[t]? = some ty) : (a_tyl G)[t]? = some (G.2.2.2.2 t, ty) := by
  simp only [a_tyl, List.getElem?_map, List.getElem?_zipIdx, e]
  simp
theorem a_D (G : aG) (h : aH) : va_D (a_A G) (a_ws G h) := by
  refine ⟨fun i j x y hi hj e => ?_, fun k q hk => ?_⟩
  · rw [a_ws_at] at hi hj
    cases h1 : h[i]? with
    | none => rw [h1] at hi; cases hi
    | some c1 =>
      cases h2 : h[j]? with
      | none => rw [h2] at hj; cases hj
      | some c2 =>
        rw [h1] at hi; rw [h2] at hj
        cases hi; cases hj
        simp only at e
        omega
  · rw [a_ws_at] at hk
    cases h1 : h[k]? with
    | none => rw [h1] at hk; cases hk
    | some c1 => rw [h1] at hk; cases hk; exact Nat.le_add_right _ _
/-- the heap is the paper's -/
def a_hr (G : aG) (HA : Heap) (h : aH) (H : Heap) : Prop := H.size = G.2.2.1 + h.length ∧ HA.size = G.2.2.1 ∧ (∀ q : Nat, q < G.2.2.1 → H[q]? = HA[q]?) ∧ va_P G.2.2.2.1 vwCl (a_ws G h) H
/-- what the tables say of grids of longs -/
def a_AOA (U : State) : Prop := (Cond.arrayOver (.array .long)).before #[] U = true
theorem a_AOA.moved {u U : State} (hvm : u.vm.Alike U.vm) (h : a_AOA u) : a_AOA U := by
  obtain ⟨comp, c, k, h1, h2, h3, h4, h5⟩ := arrayOverA_spec h
  obtain ⟨k', hk', he⟩ := hvm.2.2 _ _ h3
  have hi : (U.vm.classes.findIdx? fun (x : Class) => match x.kind with | .array component _ => component == comp | _ => false) = some c := by
    rw [hvm.findIdx?_eq _ (fun _ => rfl)]
    exact h2
  have hkind : k'.kind = .array comp (.array .long) := by rw [he]; exact h4
  have f1 : U.vm.findClass (FieldType.array .long).toString = some comp := by rw [hvm.findClass]; exact h1
  have f2 : U.vm.findClass ("[" ++ (FieldType.array .long).toString) = some c := by rw [hvm.findClass]; exact h5
  unfold a_AOA Cond.before Cond.holds
  simp only [Cond.value]
  rw [f1, Option.bind_some]
  refine (congrArg (fun o : Option Nat => (o.bind (fun c => (U.vm.classes[c]?).map fun (k : Class) => match k.kind with | .array _ ty => decide (ty = FieldType.array .long) && decide (U.vm.findClass ("[" ++ (FieldType.array .long).toString) = some c) | _ => false) == some true)) hi).trans ?_
  simp [hk', hkind, f2]
/-- what is known of the tables, of the row of constants, of the script -/
def a_Kn (G : aG) (HA : Heap) (X : aX) (U : State) : Prop := va_K G.2.2.2.1 vwCl (a_tyl G) U ∧ (∀ w ∈ a_nest, va_Nw w U) ∧ (∀ C ∈ a_over, va_AO C U) ∧ a_AOA U ∧
  va_Z a_soC a_soN "[J" (.ref G.2.1) (a_A G) U HA ∧ va_T .long G.2.1 a_so.length (fun j => .long (a_so.getD j 0)) (a_A G) U HA ∧
  (∀ (L : Nat) (xs : Nat → Int32), X = some (L, xs) → va_X G.1 L xs U HA ∧ G.1 < HA.size) ∧
  (vx_Zq Bundle.tN "UNASSIGNED_STACK" Bundle.steD (a_A G) U HA ∧ vx_Zq Bundle.tN "SUPPRESSED_SENTINEL" Bundle.listD (a_A G) U HA ∧ ∀ q ∈ a_strs, ∃ sa, vk_R "OddsInCourt" q.1 q.2 sa U)
theorem a_nest_warm {s U : State} (hW : s.WarmedH U.vm) {w : Cond} (hw : a_isN w = true) (h : va_Nw w s) : va_Nw w U := by
  unfold a_isN at hw
  split at hw
  · exact va_Nw.warmF hW h
  · exact va_Nw.warmM hW h
  · exact va_Nw.warmC hW h
  · exact va_Nw.warmD hW h
  · cases hw
theorem a_Kn.warm {G : aG} {HA : Heap} {X : aX} {s U : State} (hW : s.WarmedH U.vm) (h : a_Kn G HA X s) : a_Kn G HA X U := by
  obtain ⟨h1, h2, h3, h7, h4, h5, h6, h8, h9, h10⟩ := h
  exact ⟨va_K.moved hW.alike h1, fun w hw => a_nest_warm hW (a_nest_ok w hw) (h2 w hw), fun C hC => va_AO.moved hW.alike (h3 C hC), h7.moved hW.alike, va_Z.moved hW.alike h4, va_T.moved hW.alike h5,
    fun L xs e => ⟨va_X.moved hW.alike (h6 L xs e).1, (h6 L xs e).2⟩, vx_Zq.moved hW.alike h8, vx_Zq.moved hW.alike h9, fun q hq => by obtain ⟨sa, h⟩ := h10 q hq; exact ⟨sa, vk_R.warm hW h⟩⟩
/-- a method's words: its code, and all that the tables say and keep -/
def a_wsM (M : aM) : List Cond := Cond.code M.1 M.2.1 M.2.2.1 M.2.2.2.1 :: a_good
theorem a_goodIn {M M' : aM} (h : Cond.code M'.1 M'.2.1 M'.2.2.1 M'.2.2.2.1 ∈ a_good) : GoodIn (a_wsM M) (a_wsM M') := by
  have hg : ∀ w ∈ a_good, w ∈ a_wsM M ∧ ((w.onTables && w.keeps) = true ∨ ∃ ty, w = .arrayClass ty) := fun w hw =>
    ⟨List.mem_cons_of_mem _ hw, good_of_word (List.mem_filter.mp hw).2⟩
  intro w hw
  rcases List.mem_cons.mp hw with e | hw
  · rw [e]; exact hg _ h
  · exact hg w hw
/-- what holds in a method's frame -/
def a_Fr (M : aM) (p : Program) (s : State) (m : MethodId) (args : Array Value) (meth : Method) (c : Code) : Prop :=
  p.tables.exec = Jvm.exec ∧ c.code = M.2.1 ∧ meth.sig.returnType = M.2.2.2.1 ∧ c.maxLocals = M.2.2.1 ∧ s.vm.findClass M.1.cls = some m.cls ∧ meth.locks = false ∧ meth.name = M.1.name ∧ (∀ w ∈ a_good, w.before args s = true) ∧ (∀ hh, Cond.codeWith M.1 M.2.1 M.2.2.1 M.2.2.2.1 hh ∈ a_good → c.exceptionTable.toList = tableOf hh)
/-- locals -/
def a_lv (G : aG) (ls : aL) : List (Nat × Value) := ls.zipIdx.filterMap (fun q => q.1.map (fun v => (q.2, a_rn G v)))
theorem a_lv_in {G : aG} {ls : aL} {i : Nat} {w : Value} : (i, w) ∈ a_lv G ls ↔ ∃ v, ls[i]? = some (some v) ∧ w = a_rn G v := by
  simp only [a_lv, List.mem_filterMap]
  constructor
  · rintro ⟨⟨o, j⟩, hm, e⟩
    rw [List.mk_mem_zipIdx_iff_getElem?] at hm
    cases o with
    | none => cases e
    | some v =>
      simp only [Option.map_some, Option.some.injEq, Prod.mk.injEq] at e
      obtain ⟨rfl, rfl⟩ := e
      exact ⟨v, hm, rfl⟩
  · rintro ⟨v, hv, rfl⟩
    exact ⟨(some v, i), by rw [List.mk_mem_zipIdx_iff_getElem?]; exact hv, rfl⟩
theorem a_lv_has {L : Array Slot} {n : Nat} {l l' : List (Nat × Value)} (h : lv_has L n l) (hs : ∀ q ∈ l', q ∈ l) : lv_has L n l' := ⟨h.1, h.2.1, fun q hq => h.2.2 q (hs q hq)⟩
theorem a_lv_at {G : aG} {ls : aL} {L : Array Slot} {n i : Nat} {v : Value} (h : lv_has L n (a_lv G ls)) (e : ls[i]? = some (some v)) : L[i]? = some (.val (a_rn G v)) := h.2.2 (i, a_rn G v) (a_lv_in.mpr ⟨v, e, rfl⟩)
theorem a_rn_cat (G : aG) (v : Value) : (a_rn G v).category = v.category := by cases v <;> rfl
theorem a_pre_at {ls : aL} {i j : Nat} {v : Value} (h : (a_pre ls i)[j]? = some (some v)) : ls[j]? = some (some v) ∧ ¬ (j + 1 = i ∧ v.category = 2) := by
  unfold a_pre at h
  split at h
  · exact ⟨h, fun q => by omega⟩
  · rename_i i'
    split at h
    · rename_i w hw
      split at h
      · rename_i hc
        rw [List.getElem?_set] at h
        split at h
        · split at h <;> cases h
        · rename_i hne
          exact ⟨h, fun q => hne (by omega)⟩
      · rename_i hc
        refine ⟨h, fun q => hc ?_⟩
        have : j = i' := by omega
        subst this
        rw [hw] at h
        cases h
        exact q.2
    · rename_i hno
      refine ⟨h, fun q => ?_⟩
      have : j = i' := by omega
      subst this
      exact hno v h
theorem a_pre_len (ls : aL) (i : Nat) : (a_pre ls i).length = ls.length := by
  unfold a_pre
  split
  · rfl
  · split
    · split <;> simp
    · rfl
theorem a_set1_len (ls : aL) (i : Nat) (v : Value) : (a_set1 ls i v).length = ls.length := by simp [a_set1, a_pre_len]
theorem a_set2_len (ls : aL) (i : Nat) (v : Value) : (a_set2 ls i v).length = ls.length := by simp [a_set2, a_pre_len]
/-- a store's locals -/
theorem a_lv_set1 {G : aG} {ls : aL} {L : Array Slot} {n i : Nat} {v : Value} (h : lv_has L n ((i, a_rn G v) :: (a_lv G ls).filter (fun q => !(q.1 == i) && !(q.1 + 1 == i && q.2.category == 2)))) : lv_has L n (a_lv G (a_set1 ls i v)) := by
  refine a_lv_has h fun q hq => ?_
  obtain ⟨j, w⟩ := q
  obtain ⟨u, hu, rfl⟩ := a_lv_in.mp hq
  unfold a_set1 at hu
  rw [List.getElem?_set] at hu
  by_cases hij : i = j
  · subst hij
    simp only [if_true] at hu
    split at hu
    · cases hu; exact List.mem_cons_self
    · cases hu
  · rw [if_neg hij] at hu
    obtain ⟨h1, h2⟩ := a_pre_at hu
    refine List.mem_cons_of_mem _ (List.mem_filter.mpr ⟨a_lv_in.mpr ⟨u, h1, rfl⟩, ?_⟩)
    simp only [a_rn_cat, Bool.and_eq_true, Bool.not_eq_true', beq_eq_false_iff_ne, ne_eq, Bool.and_eq_false_imp, beq_iff_eq]
    exact ⟨fun q => hij q.symm, fun q1 q2 => h2 ⟨q1, q2⟩⟩
theorem a_lv_set2 {G : aG} {ls : aL} {L : Array Slot} {n i : Nat} {v : Value} (h : lv_has L n ((i, a_rn G v) :: (a_lv G ls).filter (fun q => !(q.1 == i) && (!(q.1 == i + 1) && !(q.1 + 1 == i && q.2.category == 2))))) : lv_has L n (a_lv G (a_set2 ls i v)) := by
  refine a_lv_has h fun q hq => ?_
  obtain ⟨j, w⟩ := q
  obtain ⟨u, hu, rfl⟩ := a_lv_in.mp hq
  unfold a_set2 at hu
  rw [List.getElem?_set] at hu
  by_cases hj1 : i + 1 = j
  · rw [if_pos hj1] at hu
    split at hu <;> cases hu
  · rw [if_neg hj1, List.getElem?_set] at hu
    by_cases hij : i = j
    · subst hij
      simp only [if_true] at hu
      split at hu
      · cases hu; exact List.mem_cons_self
      · cases hu
    · rw [if_neg hij] at hu
      obtain ⟨h1, h2⟩ := a_pre_at hu
      refine List.mem_cons_of_mem _ (List.mem_filter.mpr ⟨a_lv_in.mpr ⟨u, h1, rfl⟩, ?_⟩)
      simp only [a_rn_cat, Bool.and_eq_true, Bool.not_eq_true', beq_eq_false_iff_ne, ne_eq, Bool.and_eq_false_imp, beq_iff_eq]
      exact ⟨fun q => hij q.symm, fun q => hj1 q.symm, fun q1 q2 => h2 ⟨q1, q2⟩⟩
theorem a_wd_rn (G : aG) (r : List Value) : ((r.map (a_rn G)).map fun v => v.category).sum = a_wd r := by
  simp only [a_wd, List.map_map]
  congr 1
  apply List.map_congr_left
  intro v _
  exact a_rn_cat G v
end
section
/-! ===== instructions, one by one ===== -/
theorem a_ii_s {f : Int32 → Int32 → Int32} {st st' : List Value} (h : a_ii f st = some st') : ∃ x y r, st = .int y :: .int x :: r ∧ st' = .int (f x y) :: r := by
  unfold a_ii at h
  split at h
  · cases h; exact ⟨_, _, _, rfl, rfl⟩
  · cases h
theorem a_iin_s {f : Int32 → Int32 → Int32} {st st' : List Value} (h : a_iin f st = some st') : ∃ x y r, st = .int y :: .int x :: r ∧ st' = .int (f x y) :: r ∧ ¬ y = 0 := by
  unfold a_iin at h
  split at h
  · split at h
    · cases h
    · rename_i hy; cases h; exact ⟨_, _, _, rfl, rfl, hy⟩
  · cases h
theorem a_i_s {f : Int32 → Value} {st st' : List Value} (h : a_i f st = some st') : ∃ x r, st = .int x :: r ∧ st' = f x :: r := by
  unfold a_i at h
  split at h
  · cases h; exact ⟨_, _, rfl, rfl⟩
  · cases h
theorem a_ll_s {f : Int64 → Int64 → Value} {st st' : List Value} (h : a_ll f st = some st') : ∃ x y r, st = .long y :: .long x :: r ∧ st' = f x y :: r := by
  unfold a_ll at h
  split at h
  · cases h; exact ⟨_, _, _, rfl, rfl⟩
  · cases h
theorem a_lln_s {f : Int64 → Int64 → Int64} {st st' : List Value} (h : a_lln f st = some st') : ∃ x y r, st = .long y :: .long x :: r ∧ st' = .long (f x y) :: r ∧ ¬ y = 0 := by
  unfold a_lln at h
  split at h
  · split at h
    · cases h
    · rename_i hy; cases h; exact ⟨_, _, _, rfl, rfl, hy⟩
  · cases h
theorem a_l_s {f : Int64 → Value} {st st' : List Value} (h : a_l f st = some st') : ∃ x r, st = .long x :: r ∧ st' = f x :: r := by
  unfold a_l at h
  split at h
  · cases h; exact ⟨_, _, rfl, rfl⟩
  · cases h
theorem a_li_s {f : Int64 → Int32 → Int64} {st st' : List Value} (h : a_li f st = some st') : ∃ x y r, st = .int y :: .long x :: r ∧ st' = .long (f x y) :: r := by
  unfold a_li at h
  split at h
  · cases h; exact ⟨_, _, _, rfl, rfl⟩
  · cases h
theorem a_dup_s {st st' : List Value} (h : a_dup st = some st') : ∃ v r, st = v :: r ∧ st' = v :: v :: r ∧ v.category = 1 := by
  unfold a_dup at h
  split at h
  · split at h
    · rename_i hv; cases h; exact ⟨_, _, rfl, rfl, hv⟩
    · cases h
  · cases h
theorem a_pop_s {st st' : List Value} (h : a_pop st = some st') : ∃ v, st = v :: st' ∧ v.category = 1 := by
  unfold a_pop at h
  split at h
  · split at h
    · rename_i hv; cases h; exact ⟨_, rfl, hv⟩
    · cases h
  · cases h
theorem a_dup2_s {st st' : List Value} (h : a_dup2 st = some st') : ∃ v w r, st = v :: w :: r ∧ st' = v :: w :: v :: w :: r ∧ v.category = 1 ∧ w.category = 1 := by
  unfold a_dup2 at h
  split at h
  · split at h
    · rename_i hv; cases h; exact ⟨_, _, _, rfl, rfl, hv.1, hv.2⟩
    · cases h
  · cases h
/-- an instruction stands where the table says, and is linked as it says -/
def a_ok (Z : List aZ) (M : aM) (pc : Nat) (i : Instr) (len : Nat) (k : aK) : Prop := decode M.2.1 pc = .ok (i, len) ∧ a_ln i len = len ∧ a_lk Z M pc i k = true
section AST
variable {p : Program} {l : Launch} {e : Env} {R : Room} {s : State} {m : MethodId} {args : Array Value} {below : List Frame} {meth : Method} {c : Code} {H : Heap} {locs : List Loc} {cells slots : Nat} {Q : State → Prop}
variable {Z : List aZ} {M : aM} {G : aG} {pc len : Nat} {i : Instr} {k : aK} {L : Array Slot} {ls : aL}
set_option maxHeartbeats 2000000 in
theorem a_sim_stk (hF : a_Fr M p s m args meth c) (hok : a_ok Z M pc i len k) {st st' : List Value} (h : a_stk i k st = some st')
    (kk : W p l e R s m args below meth c H locs cells slots Q (F0 m (pc + len) L (st'.map (a_rn G)))) : W p l e R s m args below meth c H locs cells slots Q (F0 m pc L (st.map (a_rn G))) := by
  obtain ⟨hx, hb, hr, hml, hown, hlocks, hname, hts, -⟩ := hF
  obtain ⟨hd, hlen, hlk⟩ := hok
  rw [← hlen] at kk hd
  unfold a_stk at h
  split at h
  · cases h; exact lv_iconst hx hb hd rfl kk
  · cases h; exact lv_bipush hx hb hd rfl kk
  · cases h; exact lv_sipush hx hb hd rfl kk
  · cases h; exact lv_lconst hx hb hd rfl kk
  · split at h
    · rename_i hk
      cases h
      simp only [a_lk, hk, if_true] at hlk
      exact lv_ldc hx hb hown (hts _ (a_has_in hlk)) hd kk
    · cases h
  · split at h
    · rename_i hk
      cases h
      simp only [a_lk, hk, if_true] at hlk
      exact lv_ldcw hx hb hown (hts _ (a_has_in hlk)) hd kk
    · cases h
  · split at h
    · rename_i hk
      cases h
      simp only [a_lk, hk, if_true] at hlk
      exact lv_ldc2 hx hb hown (hts _ (a_has_in hlk)) hd kk
    · cases h
  · obtain ⟨x, y, r, rfl, rfl⟩ := a_ii_s h; exact lv_iadd hx hb hd kk
  · obtain ⟨x, y, r, rfl, rfl⟩ := a_ii_s h; exact lv_isub hx hb hd kk
  · obtain ⟨x, y, r, rfl, rfl⟩ := a_ii_s h; exact lv_imul hx hb hd kk
  · obtain ⟨x, y, r, rfl, rfl⟩ := a_ii_s h; exact lv_iand hx hb hd kk
  · obtain ⟨x, y, r, rfl, rfl⟩ := a_ii_s h; exact lv_ior hx hb hd kk
  · obtain ⟨x, y, r, rfl, rfl⟩ := a_ii_s h; exact lv_ixor hx hb hd kk
  · obtain ⟨x, y, r, rfl, rfl⟩ := a_ii_s h; exact lv_ishl hx hb hd kk
  · obtain ⟨x, y, r, rfl, rfl⟩ := a_ii_s h; exact lv_ishr hx hb hd kk
  · obtain ⟨x, y, r, rfl, rfl⟩ := a_ii_s h; exact lv_iushr hx hb hd rfl kk
  · obtain ⟨x, y, r, rfl, rfl, hy⟩ := a_iin_s h; exact lv_idiv hx hb hd hy kk
  · obtain ⟨x, y, r, rfl, rfl, hy⟩ := a_iin_s h; exact lv_irem hx hb hd hy kk
  · obtain ⟨x, r, rfl, rfl⟩ := a_i_s h; exact lv_ineg hx hb hd kk
  · obtain ⟨x, r, rfl, rfl⟩ := a_i_s h; exact lv_i2l hx hb hd rfl kk
  · obtain ⟨x, r, rfl, rfl⟩ := a_i_s h; exact lv_i2b hx hb hd rfl kk
  · obtain ⟨x, r, rfl, rfl⟩ := a_i_s h; exact lv_i2s hx hb hd rfl kk
  · obtain ⟨x, r, rfl, rfl⟩ := a_i_s h; exact lv_i2c hx hb hd rfl kk
  · obtain ⟨x, y, r, rfl, rfl⟩ := a_ll_s h; exact lv_ladd hx hb hd kk
  · obtain ⟨x, y, r, rfl, rfl⟩ := a_ll_s h; exact lv_lsub hx hb hd kk
  · obtain ⟨x, y, r, rfl, rfl⟩ := a_ll_s h; exact lv_lmul hx hb hd kk
  · obtain ⟨x, y, r, rfl, rfl⟩ := a_ll_s h; exact lv_land hx hb hd kk
  · obtain ⟨x, y, r, rfl, rfl⟩ := a_ll_s h; exact lv_lor hx hb hd kk
  · obtain ⟨x, y, r, rfl, rfl⟩ := a_ll_s h; exact lv_lxor hx hb hd kk
  · obtain ⟨x, y, r, rfl, rfl⟩ := a_ll_s h; exact W.lcmp hx hb hd kk
  · obtain ⟨x, y, r, rfl, rfl, hy⟩ := a_lln_s h; exact lv_ldiv hx hb hd hy kk
  · obtain ⟨x, y, r, rfl, rfl, hy⟩ := a_lln_s h; exact lv_lrem hx hb hd hy kk
  · obtain ⟨x, r, rfl, rfl⟩ := a_l_s h; exact lv_lneg hx hb hd kk
  · obtain ⟨x, r, rfl, rfl⟩ := a_l_s h; exact lv_l2i hx hb hd rfl kk
  · obtain ⟨x, y, r, rfl, rfl⟩ := a_li_s h; exact lv_lushr hx hb hd rfl kk
  · obtain ⟨v, r, rfl, rfl, hv⟩ := a_dup_s h; exact lv_dup hx hb hd (by rw [a_rn_cat]; exact hv) kk
  · obtain ⟨v, rfl, hv⟩ := a_pop_s h; exact lv_pop hx hb hd (by rw [a_rn_cat]; exact hv) kk
  · obtain ⟨v, w, r, rfl, rfl, hv, hw⟩ := a_dup2_s h; exact lv_dup2_11 hx hb hd (by rw [a_rn_cat]; exact hv) (by rw [a_rn_cat]; exact hw) kk
  · cases h
theorem a_ldi_s {n : Nat} {st : List Value} {q : aL × List Value} (h : a_ldi ls n st = some q) : ∃ x, ls[n]? = some (some (.int x)) ∧ q = (ls, .int x :: st) := by
  unfold a_ldi at h
  split at h
  · rename_i e; cases h; exact ⟨_, e, rfl⟩
  · cases h
theorem a_ldl_s {n : Nat} {st : List Value} {q : aL × List Value} (h : a_ldl ls n st = some q) : ∃ x, ls[n]? = some (some (.long x)) ∧ q = (ls, .long x :: st) := by
  unfold a_ldl at h
  split at h
  · rename_i e; cases h; exact ⟨_, e, rfl⟩
  · cases h
theorem a_lda_s {n : Nat} {st : List Value} {q : aL × List Value} (h : a_lda ls n st = some q) : ∃ x, ls[n]? = some (some (.ref x)) ∧ q = (ls, .ref x :: st) := by
  unfold a_lda at h
  split at h
  · rename_i e; cases h; exact ⟨_, e, rfl⟩
  · cases h
theorem a_sti_s {n : Nat} {st : List Value} {q : aL × List Value} (h : a_sti ls n st = some q) : ∃ x r, st = .int x :: r ∧ n < ls.length ∧ q = (a_set1 ls n (.int x), r) := by
  unfold a_sti at h
  split at h
  · split at h
    · rename_i e; cases h; exact ⟨_, _, rfl, e, rfl⟩
    · cases h
  · cases h
theorem a_stl_s {n : Nat} {st : List Value} {q : aL × List Value} (h : a_stl ls n st = some q) : ∃ x r, st = .long x :: r ∧ n + 1 < ls.length ∧ q = (a_set2 ls n (.long x), r) := by
  unfold a_stl at h
  split at h
  · split at h
    · rename_i e; cases h; exact ⟨_, _, rfl, e, rfl⟩
    · cases h
  · cases h
theorem a_sta_s {n : Nat} {st : List Value} {q : aL × List Value} (h : a_sta ls n st = some q) : ∃ x r, st = .ref x :: r ∧ n < ls.length ∧ q = (a_set1 ls n (.ref x), r) := by
  unfold a_sta at h
  split at h
  · split at h
    · rename_i e; cases h; exact ⟨_, _, rfl, e, rfl⟩
    · cases h
  · cases h
theorem a_inc_s {n : Nat} {z : Int} {st : List Value} {q : aL × List Value} (h : a_inc ls n z st = some q) : ∃ x, ls[n]? = some (some (.int x)) ∧ q = (a_set1 ls n (.int (x + Int32.ofInt z)), st) := by
  unfold a_inc at h
  split at h
  · rename_i e; cases h; exact ⟨_, e, rfl⟩
  · cases h
set_option maxHeartbeats 2000000 in
theorem a_sim_loc (hF : a_Fr M p s m args meth c) (hok : a_ok Z M pc i len k) {st st' : List Value} {ls' : aL} (h : a_loc i ls st = some (ls', st')) (hl : lv_has L M.2.2.1 (a_lv G ls)) (hll : ls.length = M.2.2.1)
    (kk : ∀ L' : Array Slot, lv_has L' M.2.2.1 (a_lv G ls') → ls'.length = M.2.2.1 → W p l e R s m args below meth c H locs cells slots Q (F0 m (pc + len) L' (st'.map (a_rn G)))) : W p l e R s m args below meth c H locs cells slots Q (F0 m pc L (st.map (a_rn G))) := by
  obtain ⟨hx, hb, hr, hml, hown, hlocks, hname, hts, -⟩ := hF
  obtain ⟨hd, hlen, hlk⟩ := hok
  rw [← hlen] at kk hd
  unfold a_loc at h
  split at h
  · obtain ⟨x, e, q⟩ := a_ldi_s h; cases q; exact lv_iload_n hx hb hd rfl (a_lv_at hl e) (kk L hl hll)
  · obtain ⟨x, e, q⟩ := a_ldi_s h; cases q; exact lv_iload hx hb hd (a_lv_at hl e) (kk L hl hll)
  · obtain ⟨x, e, q⟩ := a_ldl_s h; cases q; exact lv_lload_n hx hb hd rfl (a_lv_at hl e) (kk L hl hll)
  · obtain ⟨x, e, q⟩ := a_ldl_s h; cases q; exact lv_lload hx hb hd (a_lv_at hl e) (kk L hl hll)
  · obtain ⟨x, e, q⟩ := a_lda_s h; cases q; exact lv_aload_n hx hb hd rfl (a_lv_at hl e) (kk L hl hll)
  · obtain ⟨x, e, q⟩ := a_lda_s h; cases q; exact lv_aload hx hb hd (a_lv_at hl e) (kk L hl hll)
  · obtain ⟨x, r, rfl, e, q⟩ := a_sti_s h; cases q
    exact lv_istore_n hx hb hd rfl hl (by omega) rfl (fun L' h' => kk L' (a_lv_set1 (v := .int x) h') (by rw [a_set1_len]; exact hll))
  · obtain ⟨x, r, rfl, e, q⟩ := a_sti_s h; cases q
    exact lv_istore hx hb hd hl (by omega) rfl (fun L' h' => kk L' (a_lv_set1 (v := .int x) h') (by rw [a_set1_len]; exact hll))
  · obtain ⟨x, r, rfl, e, q⟩ := a_stl_s h; cases q
    exact lv_lstore_n hx hb hd rfl hl (by omega) rfl (fun L' h' => kk L' (a_lv_set2 (v := .long x) h') (by rw [a_set2_len]; exact hll))
  · obtain ⟨x, r, rfl, e, q⟩ := a_stl_s h; cases q
    exact lv_lstore hx hb hd hl (by omega) rfl (fun L' h' => kk L' (a_lv_set2 (v := .long x) h') (by rw [a_set2_len]; exact hll))
  · obtain ⟨x, r, rfl, e, q⟩ := a_sta_s h; cases q
    exact lv_astore_n hx hb hd rfl hl (by omega) rfl (fun L' h' => kk L' (a_lv_set1 (v := .ref x) h') (by rw [a_set1_len]; exact hll))
  · obtain ⟨x, r, rfl, e, q⟩ := a_sta_s h; cases q
    exact lv_astore hx hb hd hl (by omega) rfl (fun L' h' => kk L' (a_lv_set1 (v := .ref x) h') (by rw [a_set1_len]; exact hll))
  · rename_i n z
    obtain ⟨x, e, q⟩ := a_inc_s h; cases q
    obtain ⟨j, hj⟩ := List.getElem?_of_mem (a_lv_in.mpr ⟨_, e, rfl⟩ : (n, a_rn G (.int x)) ∈ a_lv G ls)
    have hn : n < ls.length := (List.getElem?_eq_some_iff.mp e).1
    exact lv_iinc hx hb hd hl hj rfl (by omega) rfl (fun L' h' => kk L' (a_lv_set1 (v := .int (x + Int32.ofInt z)) h') (by rw [a_set1_len]; exact hll))
  · cases h
theorem a_tgt_s {n : Nat} {o : Int} {t : Nat} (h : a_tgt n o = some t) : (n : Int) + o = (t : Int) := by
  unfold a_tgt at h
  split at h
  · cases h; omega
  · cases h
set_option maxHeartbeats 2000000 in
theorem a_sim_br (hF : a_Fr M p s m args meth c) (hok : a_ok Z M pc i len k) {st st' : List Value} {pc' : Nat} (h : a_br i k pc st = some (pc', st'))
    (kk : W p l e R s m args below meth c H locs cells slots Q (F0 m pc' L (st'.map (a_rn G)))) : W p l e R s m args below meth c H locs cells slots Q (F0 m pc L (st.map (a_rn G))) := by
  obtain ⟨hx, hb, hr, hml, hown, hlocks, hname, hts, -⟩ := hF
  obtain ⟨hd, hlen, hlk⟩ := hok
  rw [← hlen] at hd
  unfold a_br at h
  split at h
  · rename_i cd off
    split at h
    · rename_i x r
      have ht := of_decide_eq_true hlk
      cases h
      cases cd
      · exact lv_if_eq hx hb hd ht (fun q => by simpa [a_cnd, q] using kk) (fun q => by simpa [a_cnd, q] using kk)
      · exact lv_if_ne hx hb hd ht (fun q => by simpa [a_cnd, q] using kk) (fun q => by simpa [a_cnd, q] using kk)
      · exact lv_if_lt hx hb hd ht (fun q => by simpa only [a_cnd, q, decide_true, decide_false, if_true] using kk) (fun q => by simpa only [a_cnd, q, decide_true, decide_false, if_false, Bool.false_eq_true] using kk)
      · exact lv_if_ge hx hb hd ht (fun q => by simpa only [a_cnd, q, decide_true, decide_false, if_true] using kk) (fun q => by simpa only [a_cnd, q, decide_true, decide_false, if_false, Bool.false_eq_true] using kk)
      · exact lv_if_gt hx hb hd ht (fun q => by simpa only [a_cnd, q, decide_true, decide_false, if_true] using kk) (fun q => by simpa only [a_cnd, q, decide_true, decide_false, if_false, Bool.false_eq_true] using kk)
      · exact lv_if_le hx hb hd ht (fun q => by simpa only [a_cnd, q, decide_true, decide_false, if_true] using kk) (fun q => by simpa only [a_cnd, q, decide_true, decide_false, if_false, Bool.false_eq_true] using kk)
    · cases h
  · rename_i cd off
    split at h
    · rename_i y x r
      have ht := of_decide_eq_true hlk
      cases h
      cases cd
      · exact lv_icmp_eq hx hb hd ht (fun q => by simpa [a_cnd, q] using kk) (fun q => by simpa [a_cnd, q] using kk)
      · exact lv_icmp_ne hx hb hd ht (fun q => by simpa [a_cnd, q] using kk) (fun q => by simpa [a_cnd, q] using kk)
      · exact lv_icmp_lt hx hb hd ht (fun q => by simpa only [a_cnd, q, decide_true, decide_false, if_true] using kk) (fun q => by simpa only [a_cnd, q, decide_true, decide_false, if_false, Bool.false_eq_true] using kk)
      · exact lv_icmp_ge hx hb hd ht (fun q => by simpa only [a_cnd, q, decide_true, decide_false, if_true] using kk) (fun q => by simpa only [a_cnd, q, decide_true, decide_false, if_false, Bool.false_eq_true] using kk)
      · exact lv_icmp_gt hx hb hd ht (fun q => by simpa only [a_cnd, q, decide_true, decide_false, if_true] using kk) (fun q => by simpa only [a_cnd, q, decide_true, decide_false, if_false, Bool.false_eq_true] using kk)
      · exact lv_icmp_le hx hb hd ht (fun q => by simpa only [a_cnd, q, decide_true, decide_false, if_true] using kk) (fun q => by simpa only [a_cnd, q, decide_true, decide_false, if_false, Bool.false_eq_true] using kk)
    · cases h
  · cases h
    exact lv_goto hx hb hd (of_decide_eq_true hlk) kk
  · rename_i d lo hi offs
    split at h
    · rename_i x r
      split at h
      · rename_i hx'
        cases ht : a_tgt pc d with
        | none => rw [ht] at h; cases h
        | some t => rw [ht] at h; cases h; exact lv_tableOut hx hb hd hx' (a_tgt_s ht) kk
      · rename_i hx'
        split at h
        · rename_i o ho
          cases ht : a_tgt pc o with
          | none => rw [ht] at h; cases h
          | some t => rw [ht] at h; cases h; exact lv_tableIn hx hb hd (fun q => hx' (Or.inl q)) (fun q => hx' (Or.inr q)) ho (a_tgt_s ht) kk
        · cases h
    · cases h
  · cases h
end AST
end
section
/-! ===== instructions on the heap ===== -/
theorem a_fit_s {ty : FieldType} {v : Value} (h : a_fit ty v = true) (G : aG) : narrow ty (a_rn G v) = a_rn G v ∧ fits ty (a_rn G v) = true := by
  unfold a_fit at h
  split at h
  · exact ⟨rfl, rfl⟩
  · exact ⟨rfl, rfl⟩
  · simp only [Bool.and_eq_true, decide_eq_true_eq] at h; exact h
  · simp only [Bool.and_eq_true, decide_eq_true_eq] at h; exact h
  · exact ⟨rfl, rfl⟩
  · exact ⟨rfl, rfl⟩
  · cases h
theorem a_rn_map_at {G : aG} {fs : List Value} {n : Nat} {v : Value} (h : fs[n]? = some v) : (fs.map (a_rn G))[n]? = some (a_rn G v) := by rw [List.getElem?_map, h]; rfl
theorem a_rv_rn (G : aG) (x : Option Nat) : va_rf (x.map (a_ad G)) = a_rn G (a_rv x) := by cases x <;> rfl
theorem a_upd (l : List Int32) {j : Nat} (x : Int32) (hj : j < l.length) : upd (fun n => l.getD n 0) j x = fun n => (l.set j x).getD n 0 := by
  funext n
  simp only [upd, List.getD_eq_getElem?_getD, List.getElem?_set]
  by_cases h : n = j
  · subst h; simp [hj]
  · rw [if_neg h, if_neg (Ne.symm h)]
theorem a_updL (l : List Int64) {j : Nat} (x : Int64) (hj : j < l.length) : vp_updL (fun n => l.getD n 0) j x = fun n => (l.set j x).getD n 0 := by
  funext n
  simp only [vp_updL, List.getD_eq_getElem?_getD, List.getElem?_set]
  by_cases h : n = j
  · subst h; simp [hj]
  · rw [if_neg h, if_neg (Ne.symm h)]
theorem a_updQ (G : aG) (l : List (Option Nat)) {j : Nat} (x : Nat) (hj : j < l.length) : va_up (fun n => (l.getD n none).map (a_ad G)) j (some (a_ad G x)) = fun n => ((l.set j (some x)).getD n none).map (a_ad G) := by
  funext n
  simp only [va_up, List.getD_eq_getElem?_getD, List.getElem?_set]
  by_cases h : n = j
  · subst h; simp [hj]
  · rw [if_neg h, if_neg (Ne.symm h)]
/-- what a method's start says of the heap -/
def a_H0 (G : aG) (HA : Heap) (s : State) : Prop := G.2.2.1 ≤ s.heap.size ∧ ∀ q : Nat, q < G.2.2.1 → s.heap[q]? = HA[q]?
/-- the heap behind a store -/
theorem a_stored {G : aG} {HA : Heap} {h : aH} {H H1 : Heap} {o : Nat} {c0 c1 : aE} (hr : a_hr G HA h H) (e : h[o]? = some c0) (z : H1.size = H.size) (oq : ∀ q : Nat, q ≠ G.2.2.1 + o → H1[q]? = H[q]?) (hat : va_at G.2.2.2.1 vwCl (G.2.2.1 + o, a_cc G c1) H1) : a_hr G HA (h.set o c1) H1 := by
  refine ⟨by rw [z, List.length_set]; exact hr.1, hr.2.1, fun x hx => ?_, ?_⟩
  · rw [oq x (by omega)]
    exact hr.2.2.1 x hx
  · rw [← a_ws_set]
    exact hr.2.2.2.set (a_D G h) (a_ws_of e) hat oq
theorem a_S_put {G : aG} {H0 H H1 : Heap} {locs : List Loc} {o j : Nat} (hS : va_S (a_A G) H0 H locs) (z : H1.size = H.size) (oq : ∀ q : Nat, q ≠ G.2.2.1 + o → H1[q]? = H[q]?) : va_S (a_A G) H0 H1 (locs ++ [⟨G.2.2.1 + o, j⟩]) := hS.put z oq (Nat.le_add_right _ _)
/-- the heap behind a new cell -/
theorem a_pushed {G : aG} {HA : Heap} {h : aH} {H H1 : Heap} {c1 : aE} (hr : a_hr G HA h H) (z : H1.size = H.size + 1) (oq : ∀ q : Nat, q < H.size → H1[q]? = H[q]?) (hat : va_at G.2.2.2.1 vwCl (G.2.2.1 + h.length, a_cc G c1) H1) : a_hr G HA (h ++ [c1]) H1 := by
  refine ⟨by rw [z, List.length_append, hr.1]; rfl, hr.2.1, fun x hx => ?_, ?_⟩
  · rw [oq x (by rw [hr.1]; omega)]
    exact hr.2.2.1 x hx
  · rw [a_ws_app]
    refine (hr.2.2.2.kept (fun k q hk => oq q.1 ((hr.2.2.2 k q hk).lt))).app (fun k q hk => ?_)
    have hz : k < 1 := (List.getElem?_eq_some_iff.mp hk).1
    rw [show k = 0 by omega] at hk
    cases hk
    exact hat
theorem a_S_push {G : aG} {H0 H H1 : Heap} {locs : List Loc} (hS : va_S (a_A G) H0 H locs) (z : H1.size = H.size + 1) (oq : ∀ q : Nat, q < H.size → H1[q]? = H[q]?) : va_S (a_A G) H0 H1 locs :=
  ⟨by rw [z]; exact Nat.le_succ_of_le hS.1, fun q h1 h2 => (oq q (Nat.lt_of_lt_of_le h1 hS.1)).trans (hS.2.1 q h1 h2), hS.2.2⟩
section AHP
variable {p : Program} {l : Launch} {e : Env} {R : Room} {s : State} {m : MethodId} {args : Array Value} {below : List Frame} {meth : Method} {c : Code} {H : Heap} {locs : List Loc} {cells slots : Nat} {Q : State → Prop}
variable {Z : List aZ} {M : aM} {G : aG} {HA : Heap} {X : aX} {pc idx : Nat} {k : aK} {L : Array Slot} {h h' : aH} {st st' : List Value} {c1 s1 : Nat}
theorem a_sim_get (hF : a_Fr M p s m args meth c) (hK : a_Kn G HA X s) (hd : decode M.2.1 pc = .ok (.getfield idx, 3)) (hlk : a_lk Z M pc (.getfield idx) k = true) (hr : a_hr G HA h H) (hS : va_S (a_A G) s.heap H locs) (ho : a_get k st h = some (st', h', c1, s1))
    (kk : ∀ (H' : Heap) (locs' : List Loc), a_hr G HA h' H' → va_S (a_A G) s.heap H' locs' → W p l e R s m args below meth c H' locs' (cells + c1) (slots + s1) Q (F0 m (pc + 3) L (st'.map (a_rn G)))) : W p l e R s m args below meth c H locs cells slots Q (F0 m pc L (st.map (a_rn G))) := by
  obtain ⟨hx, hb, -, -, hown, -, -, hts, -⟩ := hF
  unfold a_get at ho
  split at ho
  · rename_i o r
    split at ho
    · rename_i ci fs hc
      split at ho
      · rename_i hci
        split at ho
        · rename_i v hv
          cases ho
          skip
          subst hci
          obtain ⟨C, T, N, hcl, hn, hl⟩ := a_lk_get hlk
          exact va_get (ci := k.2.1) (fs := fs.map (a_rn G)) hx hb hts (a_inC hcl) hown hK.1 hr.2.2.2 o (a_ws_of hc) hcl k.2.2.1 hn (hts _ hl) (fun _ h => h) (a_rn_map_at hv) hd (kk H locs hr hS)
        · cases ho
      · cases ho
    · cases ho
  · cases ho
theorem a_sim_put (hF : a_Fr M p s m args meth c) (hK : a_Kn G HA X s) (hd : decode M.2.1 pc = .ok (.putfield idx, 3)) (hlk : a_lk Z M pc (.putfield idx) k = true) (hr : a_hr G HA h H) (hS : va_S (a_A G) s.heap H locs) (ho : a_put k st h = some (st', h', c1, s1))
    (kk : ∀ (H' : Heap) (locs' : List Loc), a_hr G HA h' H' → va_S (a_A G) s.heap H' locs' → W p l e R s m args below meth c H' locs' (cells + c1) (slots + s1) Q (F0 m (pc + 3) L (st'.map (a_rn G)))) : W p l e R s m args below meth c H locs cells slots Q (F0 m pc L (st.map (a_rn G))) := by
  obtain ⟨hx, hb, -, -, hown, -, hname, hts, -⟩ := hF
  unfold a_put at ho
  split at ho
  · rename_i v o r
    split at ho
    · rename_i ci fs hc
      split at ho
      · rename_i hci
        split at ho
        · rename_i hkl
          split at ho
          · rename_i hfit
            cases ho
            skip
            subst hci
            obtain ⟨C, T, N, hcl, hn, hl⟩ := a_lk_put hlk
            obtain ⟨hn1, hf1⟩ := a_fit_s hfit G
            have hin := a_inC hcl
            have hty := a_ftyOK hcl
            have hap := va_apart (args := args) (own := C) hts hin _ hty (a_nm hcl) hK.1 hcl
            obtain ⟨r', h1, cell, q1, q2, q3, q4⟩ := hr.2.2.2 o _ (a_ws_of hc)
            have e' : r' = (C, T, N) := Option.some.inj (h1.symm.trans hcl)
            subst e'
            obtain ⟨hSl, hfc, kC, hkC, hkind⟩ := hK.1.1 k.2.1 _ hcl
            obtain ⟨cf, kf, fi, f, hi, hsl⟩ := hSl k.2.2.1 hn
            have hlay := hts _ (hin _ (u_in_lay hn))
            have hst := (u_facts hfc hkC (u_lays hts hin hn) hi).1
            have hat : ∀ H1 : Heap, H1[G.2.2.1 + o]? = some (cell.setSlot f.slot (a_rn G v)) → va_at G.2.2.2.1 vwCl (G.2.2.1 + o, a_cc G (.inr (k.2.1, fs.set k.2.2.1 v))) H1 := by
              intro H1 e1
              rw [hsl] at e1
              refine ⟨_, hcl, ?_⟩
              show t_OB (G.2.2.1 + o) _ _ _ H1 (vp_V ((fs.set k.2.2.1 v).map (a_rn G)))
              rw [List.map_set]
              exact t_OB.to (V := updV (vp_V (fs.map (a_rn G))) k.2.2.1 (a_rn G v)) ⟨_, e1, q2, q3, t_set q4 hap hn _⟩ (fun j _ => vp_updV_set (by rw [List.length_map]; exact hkl) _ j)
            rcases hl with ⟨hl, hfin⟩ | ⟨hl, hfin, hi0, ho0⟩
            · unfold u_lay at hlay
              rw [if_neg (by rw [hfin]; decide)] at hlay
              have h6 := u_store hfc hkC hkind hlay hi (hty _ hn) hn1 hf1
              exact W.putK hx hb (f := f) ⟨hown, hts _ hl, ⟨_, _, _, hi⟩, hst⟩ (by rw [q2]; exact h6) q1 q3 (by rw [hsl]; exact k2_hasslot (q4 _ hn)) rfl rfl hd fun H' e1 e2 e3 => kk H' _ (a_stored hr hc e2 e3 (hat H' e1)) (a_S_put hS e2 e3)
            · unfold u_lay at hlay
              rw [if_pos hfin] at hlay
              have hcf : m.cls = cf := by
                obtain ⟨_, _, c', _, _, _, -, -, hf', -, -, -, hown2, -⟩ := Cond.laysFinal_spec hlay
                have e1 : c' = cf := by have := hi.symm.trans hf'; simp at this; exact this.1.symm
                rw [ho0] at hown2
                rw [← e1]; exact Option.some.inj (hown.symm.trans hown2)
              have h6 := u_fits hfc hkC hkind (Or.inr hlay) hi (hty _ hn) hn1 hf1
              exact W.putFinK hx hb hown (hts _ hl) hi hst hcf (hname.trans hi0) (by rw [q2]; exact h6) q1 q3 (by rw [hsl]; exact k2_hasslot (q4 _ hn)) rfl rfl hd fun H' e1 e2 e3 => kk H' _ (a_stored hr hc e2 e3 (hat H' e1)) (a_S_put hS e2 e3)
          · cases ho
        · cases ho
      · cases ho
    · cases ho
  · cases ho
theorem a_ald_s {t : Nat} (ho : a_ald t st h = some (st', h', c1, s1)) : ∃ (j : Int32) (o : Nat) (v : List Int32) (r : List Value), st = .int j :: .ref (o + 2) :: r ∧ h[o]? = some (.inl (t, .inl v)) ∧ vp_in j v.length ∧ st' = .int (v.getD j.toNatClampNeg 0) :: r ∧ h' = h ∧ c1 = 0 ∧ s1 = 0 := by
  unfold a_ald at ho
  split at ho
  · split at ho
    · rename_i hc
      split at ho
      · rename_i ht
        split at ho
        · cases ho
        · rename_i hj
          cases ho
          subst ht
          exact ⟨_, _, _, _, rfl, hc, hj, rfl, rfl, rfl, rfl⟩
      · cases ho
    · cases ho
  · cases ho
theorem a_ast_s {t : Nat} (ho : a_ast t st h = some (st', h', c1, s1)) : ∃ (x j : Int32) (o : Nat) (v : List Int32) (r : List Value), st = .int x :: .int j :: .ref (o + 2) :: r ∧ h[o]? = some (.inl (t, .inl v)) ∧ vp_in j v.length ∧ st' = r ∧ h' = h.set o (.inl (t, .inl (v.set j.toNatClampNeg (a_nar t x)))) ∧ c1 = 0 ∧ s1 = 0 := by
  unfold a_ast at ho
  split at ho
  · split at ho
    · rename_i hc
      split at ho
      · rename_i ht
        split at ho
        · cases ho
        · rename_i hj
          cases ho
          subst ht
          exact ⟨_, _, _, _, _, rfl, hc, hj, rfl, rfl, rfl, rfl⟩
      · cases ho
    · cases ho
  · cases ho
theorem vp_in_lt {j : Int32} {n : Nat} (h : vp_in j n) : j.toNatClampNeg < n := Nat.not_le.mp fun q => h (Or.inr q)
theorem a_cell_i (cA : ClassId) (v : List Int32) {j : Nat} (x : Int32) (hj : j < v.length) : (vp_cell cA (v.length, .inl (fun n => v.getD n 0))).setSlot j (.int x) = vp_cell cA ((v.set j x).length, .inl (fun n => (v.set j x).getD n 0)) := by
  rw [vp_cell_i, vp_cell_i, arrV_store, List.length_set]
  refine congrArg (arrV cA v.length) (funext fun n => ?_)
  have e := congrFun (a_upd v x hj) n
  simp only [upd] at e
  by_cases q : n = j
  · rw [if_pos q] at e
    simp only [updV, if_pos q]
    rw [← e]
  · rw [if_neg q] at e
    simp only [updV, if_neg q]
    rw [← e]
theorem a_cell_l (cA : ClassId) (v : List Int64) {j : Nat} (x : Int64) (hj : j < v.length) : (vp_cell cA (v.length, .inr (.inl (fun n => v.getD n 0)))).setSlot j (.long x) = vp_cell cA ((v.set j x).length, .inr (.inl (fun n => (v.set j x).getD n 0))) := by
  rw [vp_cell_l, vp_cell_l, arrV_store, List.length_set]
  refine congrArg (arrV cA v.length) (funext fun n => ?_)
  have e := congrFun (a_updL v x hj) n
  simp only [vp_updL] at e
  by_cases q : n = j
  · rw [if_pos q] at e
    simp only [updV, if_pos q]
    rw [← e]
  · rw [if_neg q] at e
    simp only [updV, if_neg q]
    rw [← e]
theorem a_cell_q (G : aG) (cA : ClassId) (v : List (Option Nat)) {j : Nat} (x : Nat) (hj : j < v.length) : (vp_cell cA (v.length, .inr (.inr (.inr (.inr (fun n => (v.getD n none).map (a_ad G))))))).setSlot j (.ref (a_ad G x)) = vp_cell cA ((v.set j (some x)).length, .inr (.inr (.inr (.inr (fun n => ((v.set j (some x)).getD n none).map (a_ad G)))))) := by
  rw [vp_cell_q, vp_cell_q, arrV_store, List.length_set]
  refine congrArg (arrV cA v.length) (funext fun n => ?_)
  have e := congrFun (a_updQ G v x hj) n
  simp only [va_up] at e
  by_cases q : n = j
  · rw [if_pos q] at e
    simp only [updV, if_pos q]
    rw [← e]
    rfl
  · rw [if_neg q] at e
    simp only [updV, if_neg q]
    rw [← e]
theorem a_nar_2 (x : Int32) : narrow .boolean (.int x) = .int (a_nar 2 x) := rfl
theorem a_nar_3 (x : Int32) : narrow .char (.int x) = .int (a_nar 3 x) := rfl
theorem a_sim_ald (hF : a_Fr M p s m args meth c) (hK : a_Kn G HA X s) {i : Instr} (hi : i = .iaload ∨ i = .baload ∨ i = .caload) (hd : decode M.2.1 pc = .ok (i, 1)) (hr : a_hr G HA h H) (hS : va_S (a_A G) s.heap H locs) (ho : a_hp i k st h = some (st', h', c1, s1))
    (kk : ∀ (H' : Heap) (locs' : List Loc), a_hr G HA h' H' → va_S (a_A G) s.heap H' locs' → W p l e R s m args below meth c H' locs' (cells + c1) (slots + s1) Q (F0 m (pc + 1) L (st'.map (a_rn G)))) : W p l e R s m args below meth c H locs cells slots Q (F0 m pc L (st.map (a_rn G))) := by
  obtain ⟨hx, hb, -⟩ := hF
  rcases hi with rfl | rfl | rfl
  · obtain ⟨j, o, v, r, rfl, hc, hj, rfl, rfl, rfl, rfl⟩ := a_ald_s (t := 0) ho
    exact (va_iald hx hb hK.1 hr.2.2.2 o 0 (a_ws_of hc) (a_tyl_at a_ty0) hj hd (kk H locs hr hS))
  · obtain ⟨j, o, v, r, rfl, hc, hj, rfl, rfl, rfl, rfl⟩ := a_ald_s (t := 2) ho
    exact (va_zald hx hb hK.1 hr.2.2.2 o 2 (a_ws_of hc) (a_tyl_at a_ty2) hj hd (kk H locs hr hS))
  · obtain ⟨j, o, v, r, rfl, hc, hj, rfl, rfl, rfl, rfl⟩ := a_ald_s (t := 3) ho
    exact (va_cald hx hb hK.1 hr.2.2.2 o 3 (a_ws_of hc) (a_tyl_at a_ty3) hj hd (kk H locs hr hS))
theorem a_sim_ast (hF : a_Fr M p s m args meth c) (hK : a_Kn G HA X s) {i : Instr} (hi : i = .iastore ∨ i = .bastore ∨ i = .castore) (hd : decode M.2.1 pc = .ok (i, 1)) (hr : a_hr G HA h H) (hS : va_S (a_A G) s.heap H locs) (ho : a_hp i k st h = some (st', h', c1, s1))
    (kk : ∀ (H' : Heap) (locs' : List Loc), a_hr G HA h' H' → va_S (a_A G) s.heap H' locs' → W p l e R s m args below meth c H' locs' (cells + c1) (slots + s1) Q (F0 m (pc + 1) L (st'.map (a_rn G)))) : W p l e R s m args below meth c H locs cells slots Q (F0 m pc L (st.map (a_rn G))) := by
  obtain ⟨hx, hb, -⟩ := hF
  rcases hi with rfl | rfl | rfl
  · obtain ⟨x, j, o, v, r, rfl, hc, hj, rfl, rfl, rfl, rfl⟩ := a_ast_s (t := 0) ho
    refine W.iast hx hb (hr.2.2.2 o _ (a_ws_of hc)) ((hK.1.2 0 _ (a_tyl_at a_ty0)).1 v.length (fun n => .int (v.getD n 0))) (fun q => by cases q) (by show ¬ (_ ∨ (arrV _ _ _).slots.size ≤ _); rw [arrV_size]; exact hj) rfl rfl hd fun H' e1 z oq => kk H' _ (a_stored hr hc z oq ?_) (a_S_put hS z oq)
    show H'[_]? = some _
    rw [e1]
    exact congrArg some (a_cell_i _ v x (vp_in_lt hj))
  · obtain ⟨x, j, o, v, r, rfl, hc, hj, rfl, rfl, rfl, rfl⟩ := a_ast_s (t := 2) ho
    refine W.zast hx hb (hr.2.2.2 o _ (a_ws_of hc)) ((hK.1.2 2 _ (a_tyl_at a_ty2)).1 v.length (fun n => .int (v.getD n 0))) (fun q => by cases q) (by show ¬ (_ ∨ (arrV _ _ _).slots.size ≤ _); rw [arrV_size]; exact hj) rfl rfl hd fun H' e1 z oq => kk H' _ (a_stored hr hc z oq ?_) (a_S_put hS z oq)
    show H'[_]? = some _
    rw [e1]
    exact congrArg some (a_cell_i _ v (a_nar 2 x) (vp_in_lt hj))
  · obtain ⟨x, j, o, v, r, rfl, hc, hj, rfl, rfl, rfl, rfl⟩ := a_ast_s (t := 3) ho
    refine W.cast hx hb (hr.2.2.2 o _ (a_ws_of hc)) ((hK.1.2 3 _ (a_tyl_at a_ty3)).1 v.length (fun n => .int (v.getD n 0))) (fun q => by cases q) (by show ¬ (_ ∨ (arrV _ _ _).slots.size ≤ _); rw [arrV_size]; exact hj) rfl rfl hd fun H' e1 z oq => kk H' _ (a_stored hr hc z oq ?_) (a_S_put hS z oq)
    show H'[_]? = some _
    rw [e1]
    exact congrArg some (a_cell_i _ v (a_nar 3 x) (vp_in_lt hj))
theorem a_sim_lald (hF : a_Fr M p s m args meth c) (hK : a_Kn G HA X s) (hH : a_H0 G HA s) (hd : decode M.2.1 pc = .ok (.laload, 1)) (hr : a_hr G HA h H) (hS : va_S (a_A G) s.heap H locs) (ho : a_lald st h = some (st', h', c1, s1))
    (kk : ∀ (H' : Heap) (locs' : List Loc), a_hr G HA h' H' → va_S (a_A G) s.heap H' locs' → W p l e R s m args below meth c H' locs' (cells + c1) (slots + s1) Q (F0 m (pc + 1) L (st'.map (a_rn G)))) : W p l e R s m args below meth c H locs cells slots Q (F0 m pc L (st.map (a_rn G))) := by
  obtain ⟨hx, hb, -⟩ := hF
  unfold a_lald at ho
  split at ho
  · rename_i j o r
    split at ho
    · rename_i hc
      split at ho
      · rename_i ht
        split at ho
        · cases ho
        · rename_i hj
          cases ho
          subst ht
          exact (va_lald hx hb hK.1 hr.2.2.2 o 1 (a_ws_of hc) (a_tyl_at a_ty1) hj hd (kk H locs hr hS))
      · cases ho
    · cases ho
  · rename_i j r
    split at ho
    · cases ho
    · rename_i hj
      cases ho
      have hT : va_T .long G.2.1 a_so.length (fun j => .long (a_so.getD j 0)) (a_A G) s s.heap := hK.2.2.2.2.2.1.kept (fun a ha _ => hH.2 a (by rw [← hr.2.1]; exact ha))
      exact (va_tl hx hb hT hS hj rfl hd (kk H locs hr hS))
  · cases ho
theorem a_sim_last (hF : a_Fr M p s m args meth c) (hK : a_Kn G HA X s) (hd : decode M.2.1 pc = .ok (.lastore, 1)) (hr : a_hr G HA h H) (hS : va_S (a_A G) s.heap H locs) (ho : a_last st h = some (st', h', c1, s1))
    (kk : ∀ (H' : Heap) (locs' : List Loc), a_hr G HA h' H' → va_S (a_A G) s.heap H' locs' → W p l e R s m args below meth c H' locs' (cells + c1) (slots + s1) Q (F0 m (pc + 1) L (st'.map (a_rn G)))) : W p l e R s m args below meth c H locs cells slots Q (F0 m pc L (st.map (a_rn G))) := by
  obtain ⟨hx, hb, -⟩ := hF
  unfold a_last at ho
  split at ho
  · rename_i x j o r
    split at ho
    · rename_i t v hc
      split at ho
      · rename_i ht
        split at ho
        · cases ho
        · rename_i hj
          cases ho
          subst ht
          refine W.last hx hb (hr.2.2.2 o _ (a_ws_of hc)) ((hK.1.2 1 _ (a_tyl_at a_ty1)).1 v.length (fun n => .long (v.getD n 0))) (fun q => by cases q) (by show ¬ (_ ∨ (arrV _ _ _).slots.size ≤ _); rw [arrV_size]; exact hj) rfl rfl hd fun H' e1 z oq => kk H' _ (a_stored hr hc z oq ?_) (a_S_put hS z oq)
          show H'[_]? = some _
          rw [e1]
          exact congrArg some (a_cell_l _ v x (vp_in_lt hj))
      · cases ho
    · cases ho
  · cases ho
theorem a_sim_aald (hF : a_Fr M p s m args meth c) (hK : a_Kn G HA X s) (hd : decode M.2.1 pc = .ok (.aaload, 1)) (hr : a_hr G HA h H) (hS : va_S (a_A G) s.heap H locs) (ho : a_aald st h = some (st', h', c1, s1))
    (kk : ∀ (H' : Heap) (locs' : List Loc), a_hr G HA h' H' → va_S (a_A G) s.heap H' locs' → W p l e R s m args below meth c H' locs' (cells + c1) (slots + s1) Q (F0 m (pc + 1) L (st'.map (a_rn G)))) : W p l e R s m args below meth c H locs cells slots Q (F0 m pc L (st.map (a_rn G))) := by
  obtain ⟨hx, hb, -⟩ := hF
  unfold a_aald at ho
  split at ho
  · rename_i j o r
    split at ho
    · rename_i t v hc
      split at ho
      · rename_i ht
        split at ho
        · cases ho
        · rename_i hj
          cases ho
          skip
          obtain ⟨ty, hty, hrf⟩ := a_tyR ht.1 ht.2
          refine W.aald (v := a_rn G (a_rv (v.getD j.toNatClampNeg none))) (ty := ty) hx hb (hr.2.2.2 o _ (a_ws_of hc)) ((hK.1.2 t _ (a_tyl_at hty)).1 v.length (fun n => va_rf ((v.getD n none).map (a_ad G)))) hrf (fun q => by cases q) (by show ¬ (_ ∨ (arrV _ _ _).slots.size ≤ _); rw [arrV_size]; exact hj) ?_ rfl rfl hd (kk H locs hr hS)
          show (arrV _ _ _).slots[_]? = _
          rw [arrV_read _ _ (vp_in_lt hj), a_rv_rn]
      · cases ho
    · cases ho
  · cases ho
theorem a_sim_aast (hF : a_Fr M p s m args meth c) (hK : a_Kn G HA X s) (hd : decode M.2.1 pc = .ok (.aastore, 1)) (hr : a_hr G HA h H) (hS : va_S (a_A G) s.heap H locs) (ho : a_aast st h = some (st', h', c1, s1))
    (kk : ∀ (H' : Heap) (locs' : List Loc), a_hr G HA h' H' → va_S (a_A G) s.heap H' locs' → W p l e R s m args below meth c H' locs' (cells + c1) (slots + s1) Q (F0 m (pc + 1) L (st'.map (a_rn G)))) : W p l e R s m args below meth c H locs cells slots Q (F0 m pc L (st.map (a_rn G))) := by
  obtain ⟨hx, hb, -⟩ := hF
  unfold a_aast at ho
  split at ho
  · rename_i w j o r
    split at ho
    · rename_i t v ci vs hc hw
      split at ho
      · rename_i ht
        split at ho
        · cases ho
        · rename_i hj
          cases ho
          skip
          obtain ⟨C, T, N, hcl, hty⟩ := a_kindOK ht.2
          obtain ⟨r', hr', cellV, g1, g2, g3, -⟩ := hr.2.2.2 w _ (a_ws_of hw)
          have hcls := (hK.1.1 ci _ hcl).2
          obtain ⟨kA, comp, k1, k2, k3, -⟩ := (hK.1.2 t _ (a_tyl_at hty)).2
          have hcomp : comp = G.2.2.2.1.1 ci := Option.some.inj (k3.symm.trans hcls.1)
          subst hcomp
          obtain ⟨kC, hkC, -⟩ := hcls.2
          refine W.aast hx hb (v := G.2.2.1 + w) (hr.2.2.2 o _ (a_ws_of hc)) (fun q h => by cases h) (fun h => by cases h) k1 k2 rfl hkC ⟨fun q => hj (Or.inl q), by show _ < (arrV _ _ _).slots.size; rw [arrV_size]; exact vp_in_lt hj⟩ g1 (fun q h => by rw [g3] at h; cases h) (by rw [g2]; exact hkC) (by rw [g2]; exact va_assign hcls) rfl rfl hd fun H' e1 z oq => kk H' _ (a_stored hr hc z oq ?_) (a_S_put hS z oq)
          show H'[_]? = some _
          rw [e1]
          exact congrArg some (a_cell_q G _ v (w + 2) (vp_in_lt hj))
      · cases ho
    · cases ho
  · cases ho
theorem a_sim_len (hF : a_Fr M p s m args meth c) (hK : a_Kn G HA X s) (hH : a_H0 G HA s) (hd : decode M.2.1 pc = .ok (.arraylength, 1)) (hr : a_hr G HA h H) (hS : va_S (a_A G) s.heap H locs) (ho : a_len st h = some (st', h', c1, s1))
    (kk : ∀ (H' : Heap) (locs' : List Loc), a_hr G HA h' H' → va_S (a_A G) s.heap H' locs' → W p l e R s m args below meth c H' locs' (cells + c1) (slots + s1) Q (F0 m (pc + 1) L (st'.map (a_rn G)))) : W p l e R s m args below meth c H locs cells slots Q (F0 m pc L (st.map (a_rn G))) := by
  obtain ⟨hx, hb, -⟩ := hF
  unfold a_len at ho
  split at ho
  · rename_i o r
    split at ho
    · rename_i t v hc
      split at ho
      · rename_i ht
        cases ho
        exact (va_alen hx hb hK.1 hr.2.2.2 o t (a_ws_of hc) (a_tyl_at (List.getElem?_eq_getElem ht)) rfl hd (kk H locs hr hS))
      · cases ho
    · rename_i t v hc
      split at ho
      · rename_i ht
        cases ho
        exact (va_alen hx hb hK.1 hr.2.2.2 o t (a_ws_of hc) (a_tyl_at (List.getElem?_eq_getElem ht)) rfl hd (kk H locs hr hS))
      · cases ho
    · rename_i t v hc
      split at ho
      · rename_i ht
        cases ho
        exact (va_alen hx hb hK.1 hr.2.2.2 o t (a_ws_of hc) (a_tyl_at (List.getElem?_eq_getElem ht)) rfl hd (kk H locs hr hS))
      · cases ho
    · cases ho
  · cases ho
    have hT : va_T .long G.2.1 a_so.length (fun j => .long (a_so.getD j 0)) (a_A G) s s.heap := hK.2.2.2.2.2.1.kept (fun a ha _ => hH.2 a (by rw [← hr.2.1]; exact ha))
    exact (va_tlen hx hb hT hS rfl hd (kk H locs hr hS))
  · cases ho
theorem a_cl_le {n : Int32} {N : Nat} (h : n.toNatClampNeg ≤ N) (ty : FieldType) (hb : componentBytes ty ≤ 8) (hN : N ≤ 65536) : n.toNatClampNeg * componentBytes ty ≤ 536870912 := by
  have : n.toNatClampNeg * componentBytes ty ≤ 65536 * 8 := Nat.mul_le_mul (by omega) hb
  omega
theorem a_rep_i (n : Nat) : (fun j : Nat => Value.int ((List.replicate n (0 : Int32)).getD j 0)) = fun _ => .int 0 := by
  funext j
  simp only [List.getD_eq_getElem?_getD, List.getElem?_replicate]
  split <;> rfl
theorem a_rep_l (n : Nat) : (fun j : Nat => Value.long ((List.replicate n (0 : Int64)).getD j 0)) = fun _ => .long 0 := by
  funext j
  simp only [List.getD_eq_getElem?_getD, List.getElem?_replicate]
  split <;> rfl
theorem a_rep_q (G : aG) (n : Nat) : (fun j : Nat => va_rf (((List.replicate n (none : Option Nat)).getD j none).map (a_ad G))) = fun _ => .null := by
  funext j
  simp only [List.getD_eq_getElem?_getD, List.getElem?_replicate]
  split <;> rfl
theorem a_at_i {H1 : Heap} {a n : Nat} {cA : ClassId} (h : H1[a]? = some (arrV cA n (fun _ => .int 0))) : H1[a]? = some (vp_cell cA ((List.replicate n (0 : Int32)).length, .inl (fun j => (List.replicate n (0 : Int32)).getD j 0))) := by rw [vp_cell_i, List.length_replicate, a_rep_i]; exact h
theorem a_at_l {H1 : Heap} {a n : Nat} {cA : ClassId} (h : H1[a]? = some (arrV cA n (fun _ => .long 0))) : H1[a]? = some (vp_cell cA ((List.replicate n (0 : Int64)).length, .inr (.inl (fun j => (List.replicate n (0 : Int64)).getD j 0)))) := by rw [vp_cell_l, List.length_replicate, a_rep_l]; exact h
theorem a_at_q {G : aG} {H1 : Heap} {a n : Nat} {cA : ClassId} (h : H1[a]? = some (arrV cA n (fun _ => .null))) : H1[a]? = some (vp_cell cA ((List.replicate n (none : Option Nat)).length, .inr (.inr (.inr (.inr (fun j => ((List.replicate n (none : Option Nat)).getD j none).map (a_ad G))))))) := by rw [vp_cell_q, List.length_replicate, a_rep_q]; exact h
/-- a new row of numbers: its class is the one that is known -/
theorem a_arr_cls {U : State} {t : Nat} {ty : FieldType} {cA : ClassId} (hK : va_K G.2.2.2.1 vwCl (a_tyl G) U) (ht : a_tys[t]? = some ty) (hp : ty = .int ∨ ty = .long ∨ ty = .boolean ∨ ty = .char) (hc : U.vm.findClass ("[" ++ ty.toString) = some cA) : cA = G.2.2.2.2 t := by
  have h2 := (hK.2 t _ (a_tyl_at ht)).2
  rcases hp with rfl | rfl | rfl | rfl <;> exact Option.some.inj (hc.symm.trans h2)
theorem a_newa_s {ty : ArrayType} (ho : a_newa ty st h = some (st', h', c1, s1)) : ∃ (n : Int32) (r : List Value) (t : Nat) (q : aA), st = .int n :: r ∧ ¬ n < 0 ∧ n.toNatClampNeg ≤ 65536 ∧ st' = .ref (h.length + 2) :: r ∧ h' = h ++ [.inl (t, q)] ∧ c1 = 1 ∧ s1 = n.toNatClampNeg ∧
    a_tys[t]? = some (newarray.typeOf ty) ∧ (newarray.typeOf ty = .int ∨ newarray.typeOf ty = .long ∨ newarray.typeOf ty = .boolean ∨ newarray.typeOf ty = .char) ∧ componentBytes (newarray.typeOf ty) ≤ 8 ∧
    ∀ (G : aG) (cA : ClassId), cA = G.2.2.2.2 t → (a_cc G (.inl (t, q)) = .inl (cA, n.toNatClampNeg, match q with
      | .inl l => .inl (fun j => l.getD j 0)
      | .inr (.inl l) => .inr (.inl (fun j => l.getD j 0))
      | .inr (.inr l) => .inr (.inr (.inr (.inr (fun j => (l.getD j none).map (a_ad G)))))) ∧ ∀ H1 : Heap, H1[G.2.2.1 + h.length]? = some (arrV cA n.toNatClampNeg (fun _ => defaultValue (newarray.typeOf ty))) → va_at G.2.2.2.1 vwCl (G.2.2.1 + h.length, a_cc G (.inl (t, q))) H1) := by
  unfold a_newa at ho
  split at ho
  · rename_i n r
    split at ho
    · cases ho
    · rename_i hn
      have hn1 : ¬ n < 0 := fun q => hn (Or.inl q)
      have hn2 : n.toNatClampNeg ≤ 65536 := Nat.not_lt.mp fun q => hn (Or.inr q)
      split at ho
      · cases ho
        refine ⟨n, r, 0, _, rfl, hn1, hn2, rfl, rfl, rfl, rfl, a_ty0, Or.inl rfl, by decide, fun G cA e => ⟨by subst e; simp [a_cc], fun H1 e1 => ?_⟩⟩
        subst e
        exact a_at_i e1
      · cases ho
        refine ⟨n, r, 1, _, rfl, hn1, hn2, rfl, rfl, rfl, rfl, a_ty1, Or.inr (Or.inl rfl), by decide, fun G cA e => ⟨by subst e; simp [a_cc], fun H1 e1 => ?_⟩⟩
        subst e
        exact a_at_l e1
      · cases ho
        refine ⟨n, r, 2, _, rfl, hn1, hn2, rfl, rfl, rfl, rfl, a_ty2, Or.inr (Or.inr (Or.inl rfl)), by decide, fun G cA e => ⟨by subst e; simp [a_cc], fun H1 e1 => ?_⟩⟩
        subst e
        exact a_at_i e1
      · cases ho
        refine ⟨n, r, 3, _, rfl, hn1, hn2, rfl, rfl, rfl, rfl, a_ty3, Or.inr (Or.inr (Or.inr rfl)), by decide, fun G cA e => ⟨by subst e; simp [a_cc], fun H1 e1 => ?_⟩⟩
        subst e
        exact a_at_i e1
      · cases ho
  · cases ho
theorem a_sim_newa {ty : ArrayType} (hF : a_Fr M p s m args meth c) (hK : a_Kn G HA X s) (hd : decode M.2.1 pc = .ok (.newarray ty, 2)) (hlk : a_lk Z M pc (.newarray ty) k = true) (hr : a_hr G HA h H) (hS : va_S (a_A G) s.heap H locs) (ho : a_newa ty st h = some (st', h', c1, s1)) (hc1 : cells + c1 ≤ R.cells) (hs1 : slots + s1 ≤ R.slots)
    (kk : ∀ (H' : Heap) (locs' : List Loc), a_hr G HA h' H' → va_S (a_A G) s.heap H' locs' → W p l e R s m args below meth c H' locs' (cells + c1) (slots + s1) Q (F0 m (pc + 2) L (st'.map (a_rn G)))) : W p l e R s m args below meth c H locs cells slots Q (F0 m pc L (st.map (a_rn G))) := by
  obtain ⟨hx, hb, -, -, hown, -, -, hts, -⟩ := hF
  obtain ⟨n, r, t, q, rfl, hn, hn2, rfl, rfl, rfl, rfl, hty, hp, hcb, hcell⟩ := a_newa_s ho
  refine va_newaK hx hb (hts _ (a_has_in hlk)) rfl hd rfl hn rfl (a_cl_le hn2 _ hcb (Nat.le_refl _)) hc1 hs1 hr.1 fun H' cA e1 z1 o1 hAr hNm => ?_
  have hcA := a_arr_cls hK.1 hty hp hNm
  have z1' : H'.size = H.size + 1 := by rw [z1, hr.1]
  have o1' : ∀ q : Nat, q < H.size → H'[q]? = H[q]? := fun q hq => o1 q (by rw [← hr.1]; exact hq)
  exact kk H' locs (a_pushed hr z1' o1' ((hcell G cA hcA).2 H' e1)) (a_S_push hS z1' o1')
theorem a_sim_newq (hF : a_Fr M p s m args meth c) (hK : a_Kn G HA X s) (hk : k.1 = 12) (hd : decode M.2.1 pc = .ok (.anewarray idx, 3)) (hlk : a_lk Z M pc (.anewarray idx) k = true) (hr : a_hr G HA h H) (hS : va_S (a_A G) s.heap H locs) (ho : a_newq k st h = some (st', h', c1, s1)) (hc1 : cells + c1 ≤ R.cells) (hs1 : slots + s1 ≤ R.slots)
    (kk : ∀ (H' : Heap) (locs' : List Loc), a_hr G HA h' H' → va_S (a_A G) s.heap H' locs' → W p l e R s m args below meth c H' locs' (cells + c1) (slots + s1) Q (F0 m (pc + 3) L (st'.map (a_rn G)))) : W p l e R s m args below meth c H locs cells slots Q (F0 m pc L (st.map (a_rn G))) := by
  obtain ⟨hx, hb, -, -, hown, -, -, hts, -⟩ := hF
  unfold a_newq at ho
  split at ho
  · rename_i n r
    split at ho
    · cases ho
    · rename_i hn
      cases ho
      have hn1 : ¬ n < 0 := fun q => hn (Or.inl q)
      have hn2 : n.toNatClampNeg ≤ 65536 := Nat.not_lt.mp fun q => hn (Or.inr q)
      obtain ⟨C, hty, hl, hov⟩ := a_lk_newq hk hlk
      refine W.anew hx hb hown (hts _ hl) (va_AO.use (hK.2.2.1 C hov)) rfl hd rfl hn1 (by omega) hc1 hs1 fun cA kA comp f1 f2 f3 f4 => ?_
      have hcA : cA = G.2.2.2.2 k.2.1 := by
        obtain ⟨kA', comp', -, -, -, g4⟩ := (hK.1.2 k.2.1 _ (a_tyl_at hty)).2
        exact Option.some.inj (f1.symm.trans g4)
      generalize hH1 : H.push ({ cls := cA, slots := Array.replicate n.toNatClampNeg .null, vm := .none } : Cell) = H1
      have z1 : H1.size = H.size + 1 := by rw [← hH1, Array.size_push]
      have o1 : ∀ q : Nat, q < H.size → H1[q]? = H[q]? := fun q hq => by rw [← hH1, Array.getElem?_push, if_neg (Nat.ne_of_lt hq)]
      have e1 : H1[H.size]? = some (arrV cA n.toNatClampNeg (fun _ => .null)) := by rw [← hH1, Array.getElem?_push_size, ← arrV_new]
      have hz := hr.1
      rw [hz] at e1
      have := kk H1 locs (a_pushed hr z1 o1 (by
        subst hcA
        exact a_at_q e1)) (a_S_push hS z1 o1)
      rw [hz]
      exact this
  · cases ho
theorem a_sim_new (hF : a_Fr M p s m args meth c) (hK : a_Kn G HA X s) (hk : k.1 = 11) (hd : decode M.2.1 pc = .ok (.new idx, 3)) (hlk : a_lk Z M pc (.new idx) k = true) (hr : a_hr G HA h H) (hS : va_S (a_A G) s.heap H locs) (ho : a_new k st h = some (st', h', c1, s1)) (hc1 : cells + c1 ≤ R.cells) (hs1 : slots + s1 ≤ R.slots)
    (kk : ∀ (H' : Heap) (locs' : List Loc), a_hr G HA h' H' → va_S (a_A G) s.heap H' locs' → W p l e R s m args below meth c H' locs' (cells + c1) (slots + s1) Q (F0 m (pc + 3) L (st'.map (a_rn G)))) : W p l e R s m args below meth c H locs cells slots Q (F0 m pc L (st.map (a_rn G))) := by
  obtain ⟨hx, hb, -, -, hown, -, -, hts, -⟩ := hF
  obtain ⟨C, T, N, hcl, hN, hl, hins, hini⟩ := a_lk_new hk hlk
  unfold a_new at ho
  cases ho
  have hKn := hK.1.1 k.2.1 _ hcl
  rw [hN] at hs1 kk
  refine W.newcK hx hb hown (hts _ hl) (hts _ hins) (hts _ hini) rfl hd hc1 hs1 hKn.2.1 hr.1 fun H1 kC hkC e1 z1 o1 => ?_
  have z1' : H1.size = H.size + 1 := by rw [z1, hr.1]
  have o1' : ∀ q : Nat, q < H.size → H1[q]? = H[q]? := fun q hq => o1 q (by rw [← hr.1]; exact hq)
  refine kk H1 locs (a_pushed hr z1' o1' ⟨_, hcl, ?_⟩) (a_S_push hS z1' o1')
  refine (u_born (a_fty k.2.1) hts (a_inC hcl) hKn hkC e1 (a_ftyOK hcl)).to (fun j hj => ?_)
  show defaultValue (a_fty k.2.1 j) = vp_V (((List.range N).map (fun j => defaultValue (a_fty k.2.1 j))).map (a_rn G)) j
  have hj' : j < N := hj
  simp only [vp_V, List.getD_eq_getElem?_getD, List.getElem?_map, List.getElem?_range hj', Option.map_some, Option.getD_some]
  cases a_fty k.2.1 j <;> rfl
theorem a_sim_sta (hF : a_Fr M p s m args meth c) (hK : a_Kn G HA X s) (hH : a_H0 G HA s) (hk : k.1 = 14) (hd : decode M.2.1 pc = .ok (.getstatic idx, 3)) (hlk : a_lk Z M pc (.getstatic idx) k = true) (hr : a_hr G HA h H) (hS : va_S (a_A G) s.heap H locs)
    (kk : W p l e R s m args below meth c H locs cells slots Q (F0 m (pc + 3) L ((Value.ref 1 :: st).map (a_rn G)))) : W p l e R s m args below meth c H locs cells slots Q (F0 m pc L (st.map (a_rn G))) := by
  obtain ⟨hx, hb, -, -, hown, -, -, hts, -⟩ := hF
  have hZ : va_Z a_soC a_soN "[J" (.ref G.2.1) (a_A G) s s.heap := hK.2.2.2.2.1.kept (fun a ha _ => hH.2 a (by rw [← hr.2.1]; exact ha))
  exact va_gets hx hb hZ hS hown (hts _ (a_lk_sta hk hlk)) (fun _ h => h) hd kk
theorem a_sim_obj (hF : a_Fr M p s m args meth c) (hk : k.1 = 9) (hd : decode M.2.1 pc = .ok (.invokespecial idx, 3)) (hlk : a_lk Z M pc (.invokespecial idx) k = true) {o : Nat} {r : List Value} (hw : a_wd r ≤ 8) (hfr : 1 ≤ R.frames) (hlo : 200 ≤ R.locals) (hsz : L.size = M.2.2.1)
    (kk : W p l e R s m args below meth c H locs cells slots Q (F0 m (pc + 3) L (r.map (a_rn G)))) : W p l e R s m args below meth c H locs cells slots Q (F0 m pc L ((Value.ref o :: r).map (a_rn G))) := by
  obtain ⟨hx, hb, -, hml, hown, -, -, hts, -⟩ := hF
  obtain ⟨h1, h2, h3⟩ := a_lk_obj hk hlk
  refine W.objInit hx hb hown (hts _ h1) (hts _ h2) (hts _ h3) rfl (by rw [hml]; exact hsz) rfl hd hfr ?_ kk
  show 2 * 0 + ((r.map (a_rn G)).map fun v => v.category).sum + 12 ≤ _
  rw [a_wd_rn]
  omega
theorem a_cpy_len (f g : List Int32) (sp dp n : Nat) : (a_cpy f g sp dp n).length = g.length := by simp [a_cpy]
theorem a_cpy_fn (f g : List Int32) {sp dp n : Nat} (h : dp + n ≤ g.length) : va_cpy (fun j => f.getD j 0) (fun j => g.getD j 0) sp dp n = fun j => (a_cpy f g sp dp n).getD j 0 := by
  funext j
  simp only [va_cpy, a_cpy, List.getD_eq_getElem?_getD, List.getElem?_map]
  by_cases hj : j < g.length
  · rw [List.getElem?_range hj]
    simp only [Option.map_some, Option.getD_some]
  · rw [List.getElem?_eq_none (l := List.range g.length) (by rw [List.length_range]; omega), if_neg (by omega), List.getElem?_eq_none (l := g) (by omega)]
    rfl
theorem a_copy_s (ho : a_copy st h = some (st', h', c1, s1)) : ∃ (n dp sp : Int32) (d o t : Nat) (f g : List Int32) (r : List Value), st = .int n :: .int dp :: .ref (d + 2) :: .int sp :: .ref (o + 2) :: r ∧ h[o]? = some (.inl (t, .inl f)) ∧ h[d]? = some (.inl (t, .inl g)) ∧ (t = 0 ∨ t = 3) ∧ ¬ sp < 0 ∧ ¬ dp < 0 ∧ ¬ n < 0 ∧ sp.toNatClampNeg + n.toNatClampNeg ≤ f.length ∧ dp.toNatClampNeg + n.toNatClampNeg ≤ g.length ∧
    (t = 0 ∨ ∀ i, i < n.toNatClampNeg → fits .char (.int (f.getD (sp.toNatClampNeg + i) 0)) = true) ∧ st' = r ∧ h' = h.set d (.inl (t, .inl (a_cpy f g sp.toNatClampNeg dp.toNatClampNeg n.toNatClampNeg))) ∧ c1 = 0 ∧ s1 = 0 := by
  unfold a_copy at ho
  split at ho
  · split at ho
    · rename_i hc hd
      split at ho
      · rename_i ht
        split at ho
        · cases ho
        · rename_i hb
          split at ho
          · rename_i hfit
            cases ho
            obtain ⟨e, ht⟩ := ht
            subst e
            refine ⟨_, _, _, _, _, _, _, _, _, rfl, hc, hd, ht, fun q => hb (Or.inl q), fun q => hb (Or.inr (Or.inl q)), fun q => hb (Or.inr (Or.inr (Or.inl q))), Nat.not_lt.mp fun q => hb (Or.inr (Or.inr (Or.inr (Or.inl q)))), Nat.not_lt.mp fun q => hb (Or.inr (Or.inr (Or.inr (Or.inr q)))), ?_, rfl, rfl, rfl, rfl⟩
            rcases hfit with q | q
            · exact Or.inl q
            · exact Or.inr fun i hi => (List.all_eq_true.mp q) i (List.mem_range.mpr hi)
          · cases ho
      · cases ho
    · cases ho
  · cases ho
set_option maxHeartbeats 1000000 in
theorem a_sim_copy (hF : a_Fr M p s m args meth c) (hK : a_Kn G HA X s) (hk : k.1 = 10) (hd : decode M.2.1 pc = .ok (.invokestatic idx, 3)) (hlk : a_lk Z M pc (.invokestatic idx) k = true) (hr : a_hr G HA h H) (hS : va_S (a_A G) s.heap H locs) (hsz : L.size = M.2.2.1) (hfr : 1 ≤ R.frames) (hlo : 200 ≤ R.locals) (hw : a_wd (st.drop 5) ≤ 8) (ho : a_copy st h = some (st', h', c1, s1))
    (kk : ∀ (H' : Heap) (locs' : List Loc), a_hr G HA h' H' → va_S (a_A G) s.heap H' locs' → W p l e R s m args below meth c H' locs' (cells + c1) (slots + s1) Q (F0 m (pc + 3) L (st'.map (a_rn G)))) : W p l e R s m args below meth c H locs cells slots Q (F0 m pc L (st.map (a_rn G))) := by
  obtain ⟨hx, hb, -, hml, hown, -, -, hts, -⟩ := hF
  obtain ⟨l1, l2, l3, l4⟩ := a_lk_copy hk hlk
  obtain ⟨n, dp, sp, d, o, t, f, g, r, rfl, hc0, hc1, ht, h1, h2, h3, h4, h5, hfit, e1, rfl, rfl, rfl⟩ := a_copy_s ho
  subst e1
  skip
  obtain ⟨ty, hty, hprim, hfit'⟩ : ∃ ty, a_tys[t]? = some ty ∧ refKind ty = false ∧ ∀ i, i < n.toNatClampNeg → fits ty (.int (f.getD (sp.toNatClampNeg + i) 0)) = true := by
    rcases ht with rfl | rfl
    · exact ⟨_, a_ty0, rfl, fun _ _ => rfl⟩
    · refine ⟨_, a_ty3, rfl, ?_⟩
      rcases hfit with q | q
      · cases q
      · exact q
  have nn : ∀ z : Int32, ¬ z < 0 → z.toInt = (z.toNatClampNeg : Int) := by
    intro z hz
    have hz0 : (0 : Int) ≤ z.toInt := by
      have := Int32.not_lt.mp hz
      simpa using Int32.le_iff_toInt_le.mp this
    show z.toInt = ((z.toInt.toNat : Nat) : Int)
    omega
  intro T hT Y
  have hC0 : H[G.2.2.1 + o]? = some (vp_cell (G.2.2.2.2 t) (f.length, .inl (fun j => f.getD j 0))) := hr.2.2.2 o _ (a_ws_of hc0)
  have hC1 : H[G.2.2.1 + d]? = some (vp_cell (G.2.2.2.2 t) (g.length, .inl (fun j => g.getD j 0))) := hr.2.2.2 d _ (a_ws_of hc1)
  obtain ⟨-, k0, hk0, cm0, hkk0⟩ := (hK.1.2 t _ (a_tyl_at hty)).1 f.length (fun j => .int (f.getD j 0))
  obtain ⟨-, k1, hk1, cm1, hkk1⟩ := (hK.1.2 t _ (a_tyl_at hty)).1 g.length (fun j => .int (g.getD j 0))
  obtain ⟨vm', X', step⟩ := Y.arraycopy hx hown (hts _ l1) (hts _ l2) (hts _ l3) (hts _ l4) (src := G.2.2.1 + o) (dst := G.2.2.1 + d) (cs := vp_cell (G.2.2.2.2 t) (f.length, .inl (fun j => f.getD j 0))) (cd := vp_cell (G.2.2.2.2 t) (g.length, .inl (fun j => g.getD j 0))) (srcPos := sp) (destPos := dp) (n := n) (by rw [hT]; exact hC0) (by rw [hT]; exact hC1)
    (fun _ h => by cases h) (fun _ h => by cases h) (fun h => by cases h) (fun h => by cases h) hk0 hk1 hkk0 hkk1 (by simp [hprim]) h1 h2 h3
    (by rw [nn sp h1, nn n h3]; show ¬ _ > ((arrV _ f.length (fun j => .int (f.getD j 0))).slots.size : Int); rw [arrV_size]; omega)
    (by rw [nn dp h2, nn n h3]; show ¬ _ > ((arrV _ g.length (fun j => .int (g.getD j 0))).slots.size : Int); rw [arrV_size]; omega)
    (fun vm₁ _ i hi => by
      have e : (vp_cell (G.2.2.2.2 t) (f.length, .inl (fun j => f.getD j 0))).slots.getD (sp.toNatClampNeg + i) .null = .int (f.getD (sp.toNatClampNeg + i) 0) := by
        show (arrV _ f.length (fun j => .int (f.getD j 0))).slots.getD _ _ = _
        rw [Array.getD_eq_getD_getElem?, arrV_read _ _ (by omega)]
        rfl
      refine ⟨?_, ?_⟩
      · rw [e]
        exact hfit' i hi
      · rw [e]
        exact trivial)
    (g := F0 m pc L ((Value.int n :: .int dp :: .ref (d + 2) :: .int sp :: .ref (o + 2) :: st').map (a_rn G))) rfl (by rw [hml]; exact hsz) (rest := st'.map (a_rn G)) rfl (by rw [hb]; exact hd) hfr (by
      show 2 * 0 + ((st'.map (a_rn G)).map fun v => v.category).sum + _ ≤ _
      rw [a_wd_rn]
      have hw' : a_wd st' ≤ 8 := hw
      have hnf : nativeFrameWords "java/lang/System" "arraycopy" 5 + 11 ≤ 50 := by decide +kernel
      omega)
  have e1 : copied (vp_cell (G.2.2.2.2 t) (f.length, .inl (fun j => f.getD j 0))) (vp_cell (G.2.2.2.2 t) (g.length, .inl (fun j => g.getD j 0))) sp dp n = vp_cell (G.2.2.2.2 t) (g.length, .inl (va_cpy (fun j => f.getD j 0) (fun j => g.getD j 0) sp.toNatClampNeg dp.toNatClampNeg n.toNatClampNeg)) := va_copied (fun z => .int z) (G.2.2.2.2 t) (G.2.2.2.2 t) (n1 := g.length) (dp := dp.toNatClampNeg) (fun j => f.getD j 0) (fun j => g.getD j 0) h4
  rw [e1, a_cpy_fn f g h5] at X' step
  have hlt : G.2.2.1 + d < H.size := (Array.getElem?_eq_some_iff.mp hC1).1
  generalize hcw : vp_cell (G.2.2.2.2 t) (g.length, .inl (fun j => (a_cpy f g sp.toNatClampNeg dp.toNatClampNeg n.toNatClampNeg).getD j 0)) = cw at X' step
  have hheap : ((T.setVm vm').setCell (G.2.2.1 + d) cw).heap = H.setIfInBounds (G.2.2.1 + d) cw := by rw [← hT]; rfl
  have oq : ∀ q : Nat, q ≠ G.2.2.1 + d → (H.setIfInBounds (G.2.2.1 + d) cw)[q]? = H[q]? := fun q hq => by simp [Array.getElem?_setIfInBounds, Ne.symm hq]
  have z1 : (H.setIfInBounds (G.2.2.1 + d) cw).size = H.size := by simp
  obtain ⟨t', a1, b1⟩ := kk _ _ (a_stored hr hc1 z1 oq (by
      show (H.setIfInBounds _ _)[_]? = some (vp_cell _ (_, _))
      rw [a_cpy_len, hcw]
      simp [Array.getElem?_setIfInBounds, hlt])) ⟨by rw [z1]; exact hS.1, fun q g1 g2 => by
      rw [oq q (fun e => g2 (by rw [e]; exact Nat.le_add_right _ _))]
      exact hS.2.1 q g1 g2, fun q hq => by
      rcases List.mem_append.mp hq with h | h
      · exact hS.2.2 q h
      · obtain ⟨z, -, hz⟩ := List.mem_map.mp h
        rw [← hz]
        exact Nat.le_add_right _ _⟩ _ hheap X'
  exact ⟨t', step t' a1, b1⟩
theorem a_sim_scr (hF : a_Fr M p s m args meth c) (hK : a_Kn G HA X s) (hH : a_H0 G HA s) {i : Instr} {len : Nat} (hd : decode M.2.1 pc = .ok (i, a_ln i len)) (hr : a_hr G HA h H) (hS : va_S (a_A G) s.heap H locs) (ho : a_scr X i st = some st')
    (kk : W p l e R s m args below meth c H locs cells slots Q (F0 m (pc + a_ln i len) L (st'.map (a_rn G)))) : W p l e R s m args below meth c H locs cells slots Q (F0 m pc L (st.map (a_rn G))) := by
  obtain ⟨hx, hb, -⟩ := hF
  unfold a_scr at ho
  split at ho
  · rename_i Ln xs j r
    split at ho
    · cases ho
    · rename_i hj
      cases ho
      obtain ⟨hX, hbl⟩ := hK.2.2.2.2.2.2.1 Ln xs rfl
      have hbl' : G.1 < G.2.2.1 := by rw [← hr.2.1]; exact hbl
      exact va_sld hx hb (hX.kept (hH.2 _ hbl')) (Nat.lt_of_lt_of_le hbl' hH.1) (Nat.not_le.mpr hbl') hS hj hd kk
  · rename_i Ln xs r
    cases ho
    obtain ⟨hX, hbl⟩ := hK.2.2.2.2.2.2.1 Ln xs rfl
    have hbl' : G.1 < G.2.2.1 := by rw [← hr.2.1]; exact hbl
    exact va_slen hx hb (hX.kept (hH.2 _ hbl')) (Nat.lt_of_lt_of_le hbl' hH.1) (Nat.not_le.mpr hbl') hS hd kk
  · cases ho
theorem a_lk_newm {dims : Nat} (hk : k.1 = 13) (h : a_lk Z M pc (.multianewarray idx dims) k = true) : Cond.classLink M.1.cls idx "[[J" ∈ a_good ∧ k.2.1 = 6 ∧ dims = 2 := by
  simp only [a_lk, hk, if_true, Bool.and_eq_true, decide_eq_true_eq] at h
  exact ⟨a_has_in h.1.1, h.1.2, h.2⟩
theorem a_arrL : Cond.arrayClass .long ∈ a_good := a_has_in (j := a_plL) (by decide +kernel)
theorem a_outer (G : aG) (n c : Nat) (cA : ClassId) : vp_cell cA (n, .inr (.inr (.inr (.inr (fun i => if i < n then some (G.2.2.1 + c + 1 + i) else none))))) = vp_cell cA (((List.range n).map (fun j => some (c + 3 + j))).length, .inr (.inr (.inr (.inr (fun j => (((List.range n).map (fun j => some (c + 3 + j))).getD j none).map (a_ad G)))))) := by
  rw [List.length_map, List.length_range, vp_cell_q, vp_cell_q]
  refine congrArg (arrV cA n) (funext fun j => congrArg va_rf ?_)
  simp only [List.getD_eq_getElem?_getD, List.getElem?_map]
  by_cases hj : j < n
  · rw [if_pos hj, List.getElem?_range hj]
    simp only [Option.map_some, Option.getD_some]
    rw [show c + 3 + j = (c + 1 + j) + 2 by omega]
    show some _ = some (G.2.2.1 + (c + 1 + j))
    congr 1
    omega
  · rw [if_neg hj, List.getElem?_eq_none (l := List.range n) (by rw [List.length_range]; omega)]
    rfl
set_option maxHeartbeats 1000000 in
theorem a_sim_newm {dims : Nat} (hF : a_Fr M p s m args meth c) (hK : a_Kn G HA X s) (hk : k.1 = 13) (hd : decode M.2.1 pc = .ok (.multianewarray idx dims, 4)) (hlk : a_lk Z M pc (.multianewarray idx dims) k = true) (hr : a_hr G HA h H) (hS : va_S (a_A G) s.heap H locs) (ho : a_newm k st h = some (st', h', c1, s1)) (hc1 : cells + c1 ≤ R.cells) (hs1 : slots + s1 ≤ R.slots)
    (kk : ∀ (H' : Heap) (locs' : List Loc), a_hr G HA h' H' → va_S (a_A G) s.heap H' locs' → W p l e R s m args below meth c H' locs' (cells + c1) (slots + s1) Q (F0 m (pc + 4) L (st'.map (a_rn G)))) : W p l e R s m args below meth c H locs cells slots Q (F0 m pc L (st.map (a_rn G))) := by
  obtain ⟨hx, hb, -, -, hown, -, -, hts, -⟩ := hF
  obtain ⟨hcl, h6, rfl⟩ := a_lk_newm hk hlk
  unfold a_newm at ho
  split at ho
  · rename_i n2 n1 r
    split at ho
    · rename_i hn
      obtain ⟨rfl, rfl⟩ := hn
      cases ho
      intro T hT Xs
      obtain ⟨vm₁, cA, comp, -, fA, fC, -, -, X', step⟩ := Xs.multianewarray2F hx hown (ty := .long) (hts _ hcl) hK.2.2.2.1 (hts _ a_arrL) (g := F0 m pc L ((Value.int 16 :: .int 16 :: r).map (a_rn G))) rfl (by rw [hb]; exact hd) (n := 16) (k := 16) (rest := r.map (a_rn G)) rfl (by decide) (by decide) (by decide) (by decide) (by decide) rfl rfl hc1 hs1
      have hN : (16 : Int32).toNatClampNeg = 16 := by decide
      rw [hN] at X' step
      have hcA : cA = G.2.2.2.2 6 := Option.some.inj (fA.symm.trans (hK.1.2 6 _ (a_tyl_at a_ty6)).2)
      have hcC : comp = G.2.2.2.2 1 := Option.some.inj (fC.symm.trans (hK.1.2 1 _ (a_tyl_at a_ty1)).2)
      subst hcA; subst hcC
      generalize hFl : Jvm.Free.Multi.fill (T.setVm vm₁) (G.2.2.2.2 6) (G.2.2.2.2 1) 16 16 (defaultValue .long) 16 = F at X' step
      have hTh : (T.setVm vm₁).heap = H := hT
      obtain ⟨f1, f2, -, -⟩ := Jvm.Free.Multi.fill_facts (T.setVm vm₁) (G.2.2.2.2 6) (G.2.2.2.2 1) 16 16 (defaultValue .long) 16
      rw [hFl, hTh] at f1 f2
      have hold : ∀ x : Nat, x < H.size → F.heap[x]? = H[x]? := fun x hx => by
        have := Jvm.Free.Multi.fill_old (T.setVm vm₁) (G.2.2.2.2 6) (G.2.2.2.2 1) 16 16 (defaultValue .long) (a := x) (by rw [hTh]; exact hx) 16
        rw [hFl, hTh] at this
        exact this
      have hrow : ∀ j : Nat, j < 16 → F.heap[H.size + 1 + j]? = some (Jvm.Free.Multi.innerC (G.2.2.2.2 1) 16 (defaultValue .long)) := fun j hj => by
        have := Jvm.Free.Multi.fill_inner (T.setVm vm₁) (G.2.2.2.2 6) (G.2.2.2.2 1) 16 16 (defaultValue .long) 16 j hj
        rw [hFl, hTh] at this
        exact this
      have hout : Jvm.Free.Multi.outerC (G.2.2.2.2 6) 16 H.size 16 = vp_cell (G.2.2.2.2 6) (16, .inr (.inr (.inr (.inr (fun i => if i < 16 then some (G.2.2.1 + h.length + 1 + i) else none))))) := by
        rw [vp_cell_q, ← hr.1]
        exact vr_outer (G.2.2.2.2 6) 16 H.size 16
      rw [hout, a_outer] at f2
      have hz := hr.1
      have hnew : a_hr G HA (h ++ .inl (k.2.1, .inr (.inr ((List.range 16).map (fun j => some (h.length + 3 + j))))) :: List.replicate 16 (.inl (1, .inr (.inl (List.replicate 16 0))))) F.heap := by
        refine ⟨?_, hr.2.1, fun x hx => (hold x (by omega)).trans (hr.2.2.1 x hx), ?_⟩
        · rw [f1, hz]
          simp only [List.length_append, List.length_cons, List.length_replicate]
          omega
        · intro j q hq
          rw [a_ws_at] at hq
          rcases Nat.lt_trichotomy j h.length with hj | hj | hj
          · rw [List.getElem?_append_left hj, ← a_ws_at] at hq
            exact (hr.2.2.2 j q hq).kept (hold q.1 ((hr.2.2.2 j q hq).lt))
          · subst hj
            rw [List.getElem?_append_right (Nat.le_refl _), Nat.sub_self] at hq
            cases hq
            rw [h6]
            show F.heap[_]? = some (vp_cell _ _)
            rw [← hz]
            exact f2
          · rw [List.getElem?_append_right (by omega), show j - h.length = (j - h.length - 1) + 1 by omega, List.getElem?_cons_succ, List.getElem?_replicate] at hq
            split at hq
            · rename_i hj2
              cases hq
              show F.heap[_]? = some (vp_cell _ _)
              have := hrow (j - h.length - 1) hj2
              rw [hz, show G.2.2.1 + h.length + 1 + (j - h.length - 1) = G.2.2.1 + j by omega] at this
              rw [this, vp_cell_l, List.length_replicate, a_rep_l]
              show some (Cell.mk _ _ _ _ _) = _
              rw [← arrV_new]
              rfl
            · cases hq
      have hstk : (Value.ref T.heap.size :: r.map (a_rn G)) = (Value.ref (h.length + 2) :: r).map (a_rn G) := by
        rw [hT, hz]; rfl
      obtain ⟨t, a1, b1⟩ := kk F.heap locs hnew ⟨by rw [f1]; have := hS.1; omega, fun x g1 g2 => (hold x (Nat.lt_of_lt_of_le g1 hS.1)).trans (hS.2.1 x g1 g2), hS.2.2⟩ F rfl X'
      rw [hstk] at step
      exact ⟨t, step t a1, b1⟩
    · cases ho
  · cases ho
end AHP
end
section
/-! ===== a throw whose first constructor calls on by an index of its own, with no traces: the kit has it with traces (ctorThrowOnSVX), or by index 7 (ctorThrowS) ===== -/
section ATX
variable {p : Program} {l : Launch} {e : Env} {R : Room} {s : State} {m₀ : MethodId} {args : Array Value} {below : List Frame} {meth : Method} {c : Code} {W : State} {locs : List Loc} {cells slots : Nat}
theorem a_selX {e : Env} {l : Launch} (ha : l.admits e) {cls : String} {cX : ClassId} {y : MethodName} {t : MethodId} (hc : s.vm.findClass cls = some cX) (ht : s.methodNamed? y = some t) (hy : y.cls ≠ "java/lang/invoke/MethodHandle" ∧ y.cls ≠ "java/lang/invoke/VarHandle") (hw : (Cond.selects cls y y).before args s = true) : selectMethod e.platform s.vm cX t = .method t := by
  obtain ⟨c2, r2, m2, q1, q2, q3, q4, -⟩ := Cond.selects_spec hw
  cases Option.some.inj (q1.symm.trans hc)
  cases Option.some.inj (q3.symm.trans ht)
  cases Option.some.inj (q2.symm.trans (State.methodFound?_of_named ht hy))
  rw [Launch.admits_selectMethod ha]; exact q4
set_option maxHeartbeats 1000000 in
theorem a_ctorThrow (X : Stand p l e R s m₀ args below meth c W locs cells slots) (hexec : p.tables.exec = Jvm.exec) (htr : e.platform.stackTraces = false) {own cls : String} {names : List String} {ic ix : Nat} {rx : ByteArray}
    (x0 : decode rx 0 = .ok (.aload_n 0, 1)) (x1 : decode rx 1 = .ok (.aload_n 1, 1)) (x2 : decode rx 2 = .ok (.invokespecial ix, 3)) (x5 : decode rx 5 = .ok (.return_, 1))
    (hown : s.vm.findClass own = some m₀.cls) (hcls : Bundle.fit cls = true) (hnames : ∀ n ∈ names, Bundle.fit n = true)
    (h : ∀ w ∈ Bundle.ownAtomsX own ic cls ix rx names, w.before args s = true)
    (hlocs : ∀ x ∈ locs, ∀ cell, s.heap[x.base]? = some cell → cell.vm.isStatics = false)
    {a : Addr} {cX : ClassId} {kX : Class} (hfX : s.vm.findClass cls = some cX) (hkX : s.vm.classes[cX]? = some kX) (hcell : W.heap[a]? = some (freshCell cX kX)) (hnew : s.heap.size ≤ a) {msg : Value} (hmsg : msg.isRef = true)
    {g : JFrame} (hg : g.method = m₀) (hsize : g.locals.size = c.maxLocals) (hlocked : g.locked = none) (hentered : g.entered = []) {rest : List Value} (hstack : g.stack = msg :: .ref a :: .ref a :: rest)
    (hd6 : decode c.code g.pc = .ok (.invokespecial ic, 3)) (hd9 : decode c.code (g.pc + 3) = .ok (.athrow, 1)) (hout : ∀ x ∈ c.exceptionTable.toList, covers x (g.pc + 3) = false)
    (hRf : names.length + 3 < R.frames) (hRl : 2 * g.monitorRoom + ((Value.ref a :: rest).map fun v => v.category).sum + (13 * (names.length + 1) + 42) ≤ R.locals) (hlocks : meth.locks = false) :
    ∃ U : State, Steps p.tables e below (W.setTop g) U ∧ U.status = .running ∧ Ended U below (.threw a) ∧ s.WarmedH U.vm ∧ s.sameButNew ({ U with vm := s.vm } : State) locs cells slots ∧
      ∃ ce, U.heap[a]? = some ce ∧ ce.vm = .none ∧ ce.cls = cX := by
  have P := X.admits.platform
  have hpl : e.platform.magicAccessors = ({} : Platform).magicAccessors := by rw [P]
  have hw : ∀ w, w ∈ Bundle.ownAtomsX own ic cls ix rx names → w.holds args s none s [] = true := fun w q => h w q
  obtain ⟨T, Z0, L, -, Y⟩ := ThrowableC.of_atoms (args := args) (by rw [P]) (by rw [P]) hpl (fun w q => h w (by simp [Bundle.ownAtomsX, q]))
  obtain ⟨Z, M, LZ, LM, hnZ⟩ := Init0T.ofS_atoms (args := args) hpl L Y (fun w q => h w (by simp [Bundle.ownAtomsX, q]))
  obtain ⟨P1, Ps, hlen, L1, hL, hP1, hk1, hks⟩ := Bundle.chainSX (args := args) hpl hnZ x0 x1 x2 x5 names cls hcls hnames (fun w q => h w (by simp [Bundle.ownAtomsX, q]))
  have hf1 : s.vm.findClass cls = some P1.m.cls := findClass_of_methodNamed hP1
  cases Option.some.inj (hfX.symm.trans hf1)
  obtain ⟨c1, k1, hc1, hk, hord, -, -, -⟩ := Cond.instantiable_spec (hw (.instantiable cls 6) (by simp [Bundle.ownAtomsX]))
  cases Option.some.inj (hc1.symm.trans hf1)
  cases Option.some.inj (hkX.symm.trans hk)
  have s0 := a_selX X.admits hf1 Y.fill0 (by decide) (hw (.selects cls Bundle.tFill0 Bundle.tFill0) (by simp [Bundle.ownAtomsX]))
  have s1 := a_selX X.admits hf1 Y.fill (by decide) (hw (.selects cls Bundle.tFill Bundle.tFill) (by simp [Bundle.ownAtomsX]))
  obtain ⟨z0, hz0, hz1⟩ := Y.statics
  obtain ⟨u0, hu0⟩ := Cond.staticRefV Y.unassigned L.unassignedStatic L.statics hz0 hz1 (hw (.isRef (.static Bundle.tN "UNASSIGNED_STACK" Bundle.steD)) (by simp [Bundle.ownAtomsX]))
  obtain ⟨u1, hu1⟩ := Cond.staticRefV Y.sentinel L.sentinelStatic L.statics hz0 hz1 (hw (.isRef (.static Bundle.tN "SUPPRESSED_SENTINEL" Bundle.listD)) (by simp [Bundle.ownAtomsX]))
  obtain ⟨b1, b2, fB, b3, b4, b5, b6, -, b7, b8, b9⟩ := Cond.ownField (t := .object "java/lang/Object") Y.found L.cls (by decide +kernel) (hw (.fieldLink Bundle.tN 198 Bundle.tN "backtrace" "Ljava/lang/Object;") (by simp [Bundle.ownAtomsX])) (hw (.lays Bundle.tN Bundle.tN "backtrace" "Ljava/lang/Object;") (by simp [Bundle.ownAtomsX])) e.platform hpl
  obtain ⟨zS, hzS, zv, -, hkeep⟩ := X.same.2.2.2.2.2 T.aS z0 hz0
  have hoff : ∀ i, (⟨T.aS, i⟩ : Loc) ∉ locs := fun i hi => by
    have q := hlocs _ hi z0 hz0
    rw [hz1] at q; cases q
  have hun : zS.vm ≠ .unknown := by
    rw [zv]; intro q
    rw [show z0.vm = .unknown from q] at hz1
    cases hz1
  have hne : T.aS ≠ a := Nat.ne_of_lt (Nat.lt_of_lt_of_le (Array.getElem?_eq_some_iff.mp hz0).1 hnew)
  obtain ⟨iM, hM⟩ := Y.msg
  obtain ⟨tC, dC, eC, nC⟩ := Cond.laysAt hf1 hk Y.cause (hw (.lays cls Bundle.tN "cause" "Ljava/lang/Throwable;") (by simp [Bundle.ownAtomsX]))
  obtain ⟨tS, dS, eS, nS⟩ := Cond.laysAt hf1 hk Y.stack (hw (.lays cls Bundle.tN "stackTrace" Bundle.steD) (by simp [Bundle.ownAtomsX]))
  obtain ⟨tP, dP, eP, nP⟩ := Cond.laysAt hf1 hk Y.supp (hw (.lays cls Bundle.tN "suppressedExceptions" Bundle.listD) (by simp [Bundle.ownAtomsX]))
  obtain ⟨tM, dM, eM, nM⟩ := Cond.laysAt hf1 hk hM (hw (.lays cls Bundle.tN "detailMessage" "Ljava/lang/String;") (by simp [Bundle.ownAtomsX]))
  obtain ⟨tB, dB, eB, nB⟩ := Cond.laysAt hf1 hk b9 (hw (.lays cls Bundle.tN "backtrace" "Ljava/lang/Object;") (by simp [Bundle.ownAtomsX]))
  have k1 := Cond.laysApart eB eC nB nC (by rw [b7, Y.causeName]; decide)
  have k2 := Cond.laysApart eB eS nB nS (by rw [b7, Y.stackName]; decide)
  have k3 := Cond.laysApart eB eP nB nP (by rw [b7, Y.suppName]; decide)
  have hskip : SkipFacts T e.platform s (fun u => u) u0 ((preparedCellV T.toThrowableT (freshCell P1.m.cls kX) a u0 u1).withEntry W.cur) :=
    ⟨{ ci198 := b1, i198 := b2, fBack := fB }, ⟨b3, b4, b5, b6⟩, by
      have q := fresh_default (c := P1.m.cls) tB
      rw [b8] at q
      simpa [preparedCellV, Cell.setSlot, Cell.withEntry, Array.getElem?_setIfInBounds, k1, k2, k3, k1.symm, k2.symm, k3.symm, defaultValue] using q, fun _ _ => rfl⟩
  obtain ⟨tm, -, -, -, vm₁, hnC, -, -, -, -, -, -, -, hW₁, st1⟩ := Steps.initColdS (tb := p.tables) (e := e) (below := below) (s := s) (U := W) X.here hexec X.warmed hpl hown (t := Bundle.initS cls) rfl rfl (Bundle.fit_spec hcls).2
    (hw (.methodLink own ic (Bundle.initS cls)) (by simp [Bundle.ownAtomsX])) (h (.instanceMethod (Bundle.initS cls)) (by cases names <;> simp [Bundle.ownAtomsX, Bundle.chainSAtomsX, Bundle.passSAtoms])) (bytes := rx) (maxL := 2) (h (.code (Bundle.initS cls) rx 2 none) (by cases names <;> simp [Bundle.ownAtomsX, Bundle.chainSAtomsX, Bundle.passSAtoms]))
    (f := g) hg (a := a) (msg := msg) (rest := .ref a :: rest) hstack hd6
  cases Option.some.inj (hnC.symm.trans hP1)
  obtain ⟨vm₂, X₂, st2⟩ := (X.noted hW₁).ctorMessageOffV hexec (g := { g with stack := .ref a :: rest }) hg hsize T L Z LZ M LM (P1 :: Ps)
    (fun Q hQ => by rcases List.mem_cons.mp hQ with rfl | hQ; exact L1; exact hL Q hQ) ⟨hk1, hks⟩ (u0 := u0) (sen := u1) (self := a) hmsg (cell := freshCell P1.m.cls kX) (cellS := zS)
    hcell (fun _ => by simp) (by simp) rfl rfl s0 s1 hzS hne hun (by rw [hkeep _ (hoff _)]; exact hu0) (by rw [hkeep _ (hoff _)]; exact hu1)
    (Takes.of_laid hk hord tC (by rw [Y.causeType]; rfl)) (Takes.of_laid hk hord tS (by rw [Y.stackType]; exact fits_refV_array _ u0)) (Takes.of_laid hk hord tP (by rw [Y.suppType]; exact fits_refV_object _ u1))
    (Takes.of_laid hk hord tM (by rw [Y.msgType]; exact fits_refV_object _ ⟨msg, hmsg⟩)) Y.objLocals hskip htr [] hd6
    (by simp only [List.length_cons, hlen]; omega) (by simp only [List.length_cons, hlen]; exact hRl)
  obtain ⟨r1, r2, r3, r4, r5⟩ := X₂.athrowLeaves hexec (g := { g with stack := .ref a :: rest, pc := g.pc + 3 }) hg hlocked hentered hout (a := a) (rest := rest) rfl hd9
  have hlt : a < ((W.setVm vm₁).setVm vm₂).heap.size := (Array.getElem?_eq_some_iff.mp hcell).1
  refine ⟨_, st1 _ (fun acts => ?_), r2, r3, r4, r5.weaken (fun y hy hlt' => ?_) (Nat.le_refl _) (Nat.le_refl _), _, heapAt_setCell_self (s := (W.setVm vm₁).setVm vm₂) (plainBareV T.toThrowableT (freshCell P1.m.cls kX) a u0 u1 msg) hlt, rfl, rfl⟩
  · rw [doInvoke_state]
    exact st2 _ r1
  · rcases List.mem_append.mp hy with q | q
    · exact q
    · exfalso
      have hb : y.base = a := by
        simp only [List.mem_cons, List.not_mem_nil, or_false] at q
        rcases q with rfl | rfl | rfl | rfl | rfl <;> rfl
      rw [hb] at hlt'
      exact Nat.not_lt.mpr hnew hlt'
end ATX
end
section
/-! ===== throws: the given row, with what is known of the heap behind it ===== -/
section ATH
variable {p : Program} {l : Launch} {e : Env} {R : Room} {s : State} {m : MethodId} {args : Array Value} {below : List Frame} {meth : Method} {c : Code} {H : Heap} {locs : List Loc} {cells slots : Nat} {Q : State → Prop}
variable {mc ms : Nat} {free : Addr → Prop} {A0 A1 : Nat → Prop} {H0 : Heap} {a : Array Value} {ls : Array Slot} {st0 rest : List Value}
variable {Qc : Array Value → State → Outcome → State → Prop} {XC : String → State → State → Prop}
theorem a_throwSW {cc : ByteArray} {pc : Nat} (hexec : p.tables.exec = Jvm.exec) (hb : c.code = cc) (hl : l.stackTraces = false) {own cls text : String} {names : List String} {ik is ic ix mc ms sa : Nat} {rx : ByteArray} {A : Nat → Prop}
    (x0 : decode rx 0 = .ok (.aload_n 0, 1)) (x1 : decode rx 1 = .ok (.aload_n 1, 1)) (x2 : decode rx 2 = .ok (.invokespecial ix, 3)) (x5 : decode rx 5 = .ok (.return_, 1))
    (hown : s.vm.findClass own = some m.cls) (hcls : Bundle.fit cls = true) (hnames : ∀ n ∈ names, Bundle.fit n = true)
    (hk : (Cond.classLink own ik cls).before args s = true) (hini : (Cond.initialized cls).before args s = true) (hstr : vk_R own is text sa s) (hat : ∀ w ∈ (Bundle.ownAtomsX own ic cls ix rx names).filter vx_no, w.before args s = true)
    (hgood : ∀ w ∈ Cond.classLink own ik cls :: Cond.initialized cls :: (Bundle.ownAtomsX own ic cls ix rx names).filter vx_no, vx_ot w = true)
    (hU : vx_Zq Bundle.tN "UNASSIGNED_STACK" Bundle.steD A s s.heap) (hN : vx_Zq Bundle.tN "SUPPRESSED_SENTINEL" Bundle.listD A s s.heap) (hS : va_S A s.heap H locs) (hsize : ls.size = c.maxLocals)
    (d0 : decode cc pc = .ok (.new ik, 3)) (d3 : decode cc (pc + 3) = .ok (.dup, 1)) (d4 : decode cc (pc + 4) = .ok (.ldc_w is, 3)) (d7 : decode cc (pc + 7) = .ok (.invokespecial ic, 3)) (d10 : decode cc (pc + 10) = .ok (.athrow, 1))
    (hout : ∀ x ∈ c.exceptionTable.toList, covers x (pc + 10) = false)
    (hRframes : names.length + 3 < R.frames) (hRlocals : (rest.map fun v => v.category).sum + (13 * (names.length + 1) + 43) ≤ R.locals) (hRcells : cells + 1 ≤ R.cells) (hRslots : slots + 6 ≤ R.slots) (hlocks : meth.locks = false)
    (hx : ∀ (t : State) (ce : Cell), s.vm.Alike t.vm → t.heap.size = H.size + 1 → t.heap[H.size]? = some ce → ce.vm = .none → s.vm.findClass cls = some ce.cls → (∀ q : Nat, q < H.size → t.heap[q]? = H[q]?) → XC cls s t)
    (hf : ∀ z ∈ locs, free z.base) (hc : cells + 1 ≤ mc) (hs : slots + 6 ≤ ms) :
    W p l e R s m args below meth c H locs cells slots (vx_MQ below Qc XC args s mc ms free) (F0 m pc ls rest) := by
  intro T hT X
  have htr : e.platform.stackTraces = false := (show e.platform.stackTraces = l.stackTraces by rw [X.admits.platform]).trans hl
  have Y := vx_rebase X (R' := { frames := R.frames, locals := R.locals, cells := 1, slots := 6 }) (Nat.le_refl _) (Nat.le_refl _) hRcells hRslots
  obtain ⟨s', hA⟩ : ∃ z, z = (T.setVm s.vm).setFrames (.invoking m args :: below) := ⟨_, rfl⟩
  rw [← hA] at Y
  have hvm : s'.vm = s.vm := by rw [hA]; rfl
  have hhp : s'.heap = H := by rw [hA]; exact hT
  have hW0 : s.WarmedH s'.vm := by rw [hvm]; exact State.WarmedH.refl s
  have hat' : ∀ w ∈ (Bundle.ownAtomsX own ic cls ix rx names).filter vx_no, w.before args s' = true := fun w hw => vx_ot_at hW0 hvm.symm (hgood w (List.mem_cons_of_mem _ (List.mem_cons_of_mem _ hw))) (hat w hw)
  have hk' : (Cond.classLink own ik cls).before args s' = true := vx_ot_at hW0 hvm.symm (hgood _ List.mem_cons_self) hk
  have hini' : (Cond.initialized cls).before args s' = true := vx_ot_at hW0 hvm.symm (hgood _ (List.mem_cons_of_mem _ List.mem_cons_self)) hini
  have hU' : vx_Zq Bundle.tN "UNASSIGNED_STACK" Bundle.steD A s' s'.heap := by rw [hhp]; exact vx_Zq.moved hW0.alike (hU.kept hS.2.1)
  have hN' : vx_Zq Bundle.tN "SUPPRESSED_SENTINEL" Bundle.listD A s' s'.heap := by rw [hhp]; exact vx_Zq.moved hW0.alike (hN.kept hS.2.1)
  have h : ∀ w ∈ Bundle.ownAtomsX own ic cls ix rx names, w.before args s' = true := vx_own hat' (vx_isRefq hU'.1) (vx_isRefq hN'.1) hU'.2.word hN'.2.word
  have hown' : s'.vm.findClass own = some m.cls := by rw [hvm]; exact hown
  have hins : (Cond.instantiable cls 6).before args s' = true := h _ (by simp [Bundle.ownAtomsX])
  obtain ⟨vm₁, cX, kX, hfX, hkX, -, -, X₁, st1⟩ := Y.newCold hexec (own := own) (C := cls) (index := ik) (n := 6) hown' hk' hins hini'
    (g := F0 m pc ls rest) rfl (by rw [hb]; exact d0) (Nat.le_refl _) (Nat.le_refl _)
  generalize hT1 : (T.setVm vm₁).pushCell { cls := cX, slots := kX.instanceTypes.map defaultValue, vm := .none } = T1 at X₁ st1
  have hcat : (Value.ref T.heap.size).category = 1 := rfl
  have hcellA : T1.heap[T.heap.size]? = some (freshCell cX kX) := by rw [← hT1]; exact State.heap_pushCell_size _ _
  have d3' : decode c.code (pc + 3) = .ok (.dup, 1) := by rw [hb]; exact d3
  have d4' : decode c.code (pc + 4) = .ok (.ldc_w is, 3) := by rw [hb]; exact d4
  have hstr' : vk_R own is text sa s' := vk_R.warm hW0 hstr
  obtain ⟨U, hsteps, hrun, hend, hW, hsame, ce, hce, hOv, hOc⟩ := a_ctorThrow X₁ hexec htr (own := own) (cls := cls) (names := names) (ic := ic) x0 x1 x2 x5 hown' hcls hnames h (fun x hx => nomatch hx) hfX hkX hcellA (by rw [hhp, hT]; exact Nat.le_refl _) (msg := .ref sa) rfl
    (g := { method := m, pc := pc + 7, locals := ls, stack := .ref sa :: .ref T.heap.size :: .ref T.heap.size :: rest, locked := none }) rfl hsize rfl rfl (rest := rest) rfl
    (by rw [hb]; exact d7) (by rw [hb]; exact d10) hout hRframes (by simp only [List.map_cons, List.sum_cons, hcat]; omega) hlocks
  obtain ⟨f1, f2⟩ := vx_frame hsame
  rw [hhp] at f1 f2
  have hWs : s.WarmedH U.vm := State.WarmedH.trans hW0 hW
  have hzz : U.heap.size = H.size + 1 := by
    have h9 : U.heap.size ≤ s'.heap.size + (0 + 1) := hsame.2.2.1
    rw [hhp] at h9
    have h8 : T.heap.size < U.heap.size := (Array.getElem?_eq_some_iff.mp hce).1
    rw [hT] at h8
    omega
  have hcl : s.vm.findClass cls = some ce.cls := by
    rw [hOc, ← hvm]; exact hfX
  have hall : s.sameButNew ({ U with vm := s.vm } : State) locs mc ms := by
    subst hA
    obtain ⟨e1, e2⟩ := hsame
    rw [State.setFrames_setFrames] at e1
    have h2 : (T.setVm s.vm).sameButNew ({ U with vm := s.vm } : State) [] (0 + 1) (0 + 6) := ⟨e1, e2⟩
    have h3 := X.same.trans h2
    rw [List.append_nil] at h3
    exact h3.mono hc hs
  refine ⟨U, ?_, .threw T.heap.size, hrun, hend, Or.inr ⟨T.heap.size, rfl, cls, ce, locs, hx U ce hWs.alike hzz (by rw [← hT]; exact hce) hOv hcl (fun q hq => f2 q hq (fun z hz => nomatch hz)), hce, hOv, hcl, hWs, hall, hf⟩⟩
  refine st1 _ ?_
  show Steps p.tables e below (T1.setTop { method := m, pc := pc + 3, locals := ls, stack := .ref T.heap.size :: rest, locked := none }) _
  jvm_step X₁.here [X₁.here.top, hexec, d3', Value.category]
  exact X₁.ldcStringW hexec (own := own) (text := text) (index := is) (a := sa) hown' hstr'.1 hstr'.2
    (g := { method := m, pc := pc + 4, locals := ls, stack := .ref T.heap.size :: .ref T.heap.size :: rest, locked := none }) rfl d4' _ hsteps
end ATH
end
section
/-! ===== a body's law, the method's name alone with no row among the natives ===== -/
theorem a_MetofW {l : Launch} {y : MethodName} {ws ws' : List Cond} {rm : Room} {Pc : Array Value → State → Prop} {Qc : Array Value → State → Outcome → State → Prop} {mc ms : Nat} {free : Addr → Prop} {cc : ByteArray} {maxL : Nat} {ret : Option FieldType}
    (hy : plainFor y = true) (hw : ws = Cond.code y cc maxL ret :: ws')
    (body : ∀ p e s m args below meth c s₁, BodyLoose p l y (headSpec ws rm) cc maxL ret e s m args below meth c s₁ → c.maxLocals = maxL → Pc args s →
      W p l e (headSpec ws rm).room s m args below meth c s.heap [] 0 0 (MQ below Qc args s mc ms free) (entryFrame m args maxL)) : Met l y ws rm Pc Qc mc ms free :=
  MetFree.of_bodySF (code := cc) (maxLocals := maxL) (ret := ret) hy
    (fun args s m h hn => by
      obtain ⟨meth, c, h1, h2, h3, h4, h5, h6, -, -⟩ := Cond.code_spec hn (atoms_spec (ws := ws) h _ (by rw [hw]; exact List.mem_cons_self))
      exact ⟨meth, c, h1, h2, h3, h4, h5, h6⟩)
    (fun p e s m args below meth c s₁ B hml hP _ => by
      obtain ⟨t, a1, o, b1, b2, b3⟩ := body p e s m args below meth c s₁ B hml hP s₁ (by rw [B.state]; rfl) (Stand.of_body B)
      exact ⟨t, o, a1, b1, b2, ⟨b3.1, b3.2⟩⟩)
theorem a_MetWT {l : Launch} {y : MethodName} {ws ws' : List Cond} {rm : Room} {Pc : Array Value → State → Prop} {Qc : Array Value → State → Outcome → State → Prop} {mc ms : Nat} {free : Addr → Prop} {cc : ByteArray} {maxL : Nat} {ret : Option FieldType} {hh : List (Nat × Nat × Nat × Nat)}
    (hy : plainFor y = true) (hw : ws = Cond.codeWith y cc maxL ret hh :: ws')
    (body : ∀ p e s m args below meth c s₁, BodyLoose p l y (headSpec ws rm) cc maxL ret e s m args below meth c s₁ → c.maxLocals = maxL → Pc args s →
      W p l e (headSpec ws rm).room s m args below meth c s.heap [] 0 0 (MQ below Qc args s mc ms free) (entryFrame m args maxL)) : Met l y ws rm Pc Qc mc ms free :=
  MetFree.of_bodySF (code := cc) (maxLocals := maxL) (ret := ret) hy
    (fun args s m h hn => by
      obtain ⟨m9, meth, c, hn9, h1, h2, h3, h4, -, h5, h6, -⟩ := Cond.codeWith_spec (atoms_spec (ws := ws) h _ (by rw [hw]; exact List.mem_cons_self))
      cases hn.symm.trans hn9
      exact ⟨meth, c, h1, h2, h3, h4, h5, h6⟩)
    (fun p e s m args below meth c s₁ B hml hP _ => by
      obtain ⟨t, a1, o, b1, b2, b3⟩ := body p e s m args below meth c s₁ B hml hP s₁ (by rw [B.state]; rfl) (Stand.of_body B)
      exact ⟨t, o, a1, b1, b2, ⟨b3.1, b3.2⟩⟩)
end
section
/-! ===== calls, and the whole ===== -/
def a_rm (d c s : Nat) : Room := { frames := d + 8, cells := c, slots := s, locals := 200 + 60 * d }
/-- a method's start and end on paper -/
def a_Pc (G : aG) (HA : Heap) (X : aX) (as : List Value) (h : aH) : Array Value → State → Prop := va_Pc (as.map (a_rn G)) (fun U => a_Kn G HA X U ∧ a_hr G HA h U.heap)
def a_Qc (G : aG) (HA : Heap) (v : Option Value) (h : aH) : Array Value → State → Outcome → State → Prop := fun _ st o t => o = .returned (v.map (a_rn G)) ∧ a_hr G HA h t.heap ∧ st.heap.size ≤ t.heap.size
theorem a_blind (G : aG) (HA : Heap) (X : aX) (as : List Value) (h : aH) : FrameBlind (a_Pc G HA X as h) := by
  intro a U g mk q
  obtain ⟨q1, q2, q3⟩ := q
  exact ⟨q1, a_Kn.warm (s := U) (U := U.calling g mk a) (State.WarmedH.refl U) q2, q3⟩
theorem a_goodOf {ws : List Cond} (h : ∀ w ∈ ws, w ∈ a_good) : GoodIn a_good ws := fun w hw => ⟨h w hw, good_of_word (List.mem_filter.mp (h w hw)).2⟩
theorem a_wsM_in {M : aM} (h : Cond.code M.1 M.2.1 M.2.2.1 M.2.2.2.1 ∈ a_good) : ∀ w ∈ a_wsM M, w ∈ a_good := by
  intro w hw
  rcases List.mem_cons.mp hw with e | hw
  · rw [e]; exact h
  · exact hw
section ACL
variable {p : Program} {l : Launch} {e : Env} {R : Room} {s : State} {m : MethodId} {args : Array Value} {below : List Frame} {meth : Method} {c : Code} {H : Heap} {locs : List Loc} {cells slots : Nat} {Q : State → Prop}
variable {Z : List aZ} {M M' : aM} {G : aG} {HA : Heap} {X : aX} {pc len : Nat} {i : Instr} {k : aK} {L : Array Slot} {h h' : aH} {st rest as : List Value} {Qc : Array Value → State → Outcome → State → Prop} {mc ms d : Nat}
theorem a_take {n : Nat} {v : Value} {r : List Value} (h : st.drop n = v :: r) : n < st.length ∧ st = st.take n ++ v :: r ∧ (st.take n).length = n := by
  have h1 : n < st.length := by
    rcases Nat.lt_or_ge n st.length with q | q
    · exact q
    · rw [List.drop_eq_nil_of_le q] at h; cases h
  exact ⟨h1, by rw [← h, List.take_append_drop], by rw [List.length_take]; omega⟩
theorem a_rev (G : aG) (q : List Value) : ((q.reverse).map (a_rn G)).reverse = q.map (a_rn G) := by rw [← List.map_reverse, List.reverse_reverse]
set_option maxHeartbeats 1000000 in
theorem a_sim_run (hZ : a_ZOK Z) (hF : a_Fr M p s m args meth c) (hK : a_Kn G HA X s) (hok : a_ok Z M pc i len k) (hr : a_hr G HA h H) (hsz : L.size = M.2.2.1) (ho : a_inv (Z.map Prod.fst) i k st h = some (M', as, rest)) (hk20 : k.1 ≠ 20) (hM : Met l M'.1 (a_wsM M') (a_rm d mc ms) (a_Pc G HA X as h) Qc mc ms (a_A G)) (hfr : d + 9 ≤ R.frames) (hlo : 200 + 60 * (d + 1) ≤ R.locals) (hc1 : cells + mc ≤ R.cells) (hs1 : slots + ms ≤ R.slots) :
    a_ln i len = 3 ∧ va_Run p l e R s m args below meth c H locs cells slots mc ms (F0 m pc L (st.map (a_rn G))) (rest.map (a_rn G)) (Qc (as.map (a_rn G)).toArray) (a_A G) := by
  obtain ⟨hx, hb, -, hml, hown, -, -, hts, -⟩ := hF
  obtain ⟨hd, hlen, hlk⟩ := hok
  rw [← hlen] at hd
  unfold a_inv at ho
  split at ho
  · cases ho
  · rename_i M0 hM0
    rw [List.getElem?_map] at hM0
    cases hq : Z[k.2.1]? with
    | none => rw [hq] at hM0; cases hM0
    | some q =>
    rw [hq] at hM0
    cases hM0
    obtain ⟨hL', hnm, hpl, hini, s0, s1', s2', -⟩ := a_mb_s (hZ q (List.mem_of_getElem? hq)).1
    have hR : (a_rm d mc ms).frames + 1 ≤ R.frames ∧ 8 + (q.1.2.2.1 + 11) + (a_rm d mc ms).locals ≤ R.locals := ⟨hfr, by show 8 + (q.1.2.2.1 + 11) + (200 + 60 * d) ≤ _; omega⟩
    split at ho
    · rename_i idx
      split at ho
      · rename_i hk
        split at ho
        · rename_i v r hdr
          split at ho
          · rename_i hcond
            cases ho
            refine ⟨rfl, ?_⟩
            obtain ⟨t1, t2, t3⟩ := a_take hdr
            obtain ⟨hs0, hl, ⟨T, N, hcl⟩, -⟩ := a_lk_virt hq hlk
            obtain ⟨hcode, hin, hsel⟩ := s0 hs0
            unfold a_recv at hcond
            obtain ⟨hrc, hw, -⟩ := hcond
            split at hrc
            · rename_i o
              split at hrc
              · rename_i ci fs hcell
                have hci : ci = k.2.2.1 := of_decide_eq_true hrc
                subst hci
                have hstack : (F0 m pc L (st.map (a_rn G))).stack = (((st.take q.1.2.2.2.2.1).reverse).map (a_rn G)).reverse ++ .ref (G.2.2.1 + o) :: rest.map (a_rn G) := by
                  show st.map (a_rn G) = _
                  rw [a_rev]
                  conv => lhs; rw [t2]
                  rw [List.map_append]
                  rfl
                have hrecv := va_recv hK.1 hr.2.2.2 hcl (a_ws_of hcell)
                have hpre : PreV s H q.1.1.cls (G.2.2.1 + o) (a_Pc G HA X (.ref (o + 2) :: (st.take q.1.2.2.2.2.1).reverse) h) (((st.take q.1.2.2.2.2.1).reverse).map (a_rn G)) :=
                  ⟨a_blind G HA X _ h, hrecv, fun U hU hW => ⟨rfl, hK.warm hW, by rw [hU]; exact hr⟩⟩
                have hlen' : (((st.take q.1.2.2.2.2.1).reverse).map (a_rn G)).length = q.1.2.2.2.2.1 := by rw [List.length_map, List.length_reverse, t3]
                have hroom : 2 * (F0 m pc L (st.map (a_rn G))).monitorRoom + ((rest.map (a_rn G)).map fun v => v.category).sum ≤ 8 := by
                  show 2 * 0 + _ ≤ 8
                  rw [a_wd_rn]; omega
                exact va_runV (Ts := a_good) (own := M.1.cls) (C := q.1.1.cls) ⟨hx, hb, hml, hown, hts⟩ hM (cwV q.1.2.2.2.2.1 hts (a_goodOf (by
                    intro w hw
                    simp only [wsV, List.mem_append, List.mem_cons, List.not_mem_nil, or_false] at hw
                    rcases hw with (rfl | rfl | rfl | rfl) | hw
                    · exact hl
                    · exact hin
                    · exact hsel
                    · exact hini
                    · exact a_wsM_in hcode w hw)) rfl rfl rfl ⟨rfl, hnm⟩ hR) hpre rfl hlen' hsz hstack hroom hd ⟨hc1, hs1⟩
              · cases hrc
            · cases hrc
          · cases ho
        · cases ho
      · cases ho
    · rename_i idx
      split at ho
      · rename_i hk
        split at ho
        · rename_i o r hdr
          split at ho
          · rename_i hcond
            cases ho
            refine ⟨rfl, ?_⟩
            obtain ⟨t1, t2, t3⟩ := a_take hdr
            obtain ⟨hs0, hl⟩ := a_lk_init hq hk hlk
            obtain ⟨hcode, hin, hinit, hret⟩ := s2' hs0
            have hG := a_goodOf (a_wsM_in hcode)
            have hstack : (F0 m pc L (st.map (a_rn G))).stack = (((st.take q.1.2.2.2.2.1).reverse).map (a_rn G)).reverse ++ .ref (a_ad G o) :: rest.map (a_rn G) := by
              show st.map (a_rn G) = _
              rw [a_rev]
              conv => lhs; rw [t2]
              rw [List.map_append]
              rfl
            have hpre : PreS s H (a_Pc G HA X (.ref o :: (st.take q.1.2.2.2.2.1).reverse) h) (.ref (a_ad G o) :: ((st.take q.1.2.2.2.2.1).reverse).map (a_rn G)) :=
              ⟨a_blind G HA X _ h, fun U hU hW => ⟨rfl, hK.warm hW, by rw [hU]; exact hr⟩⟩
            have hlen' : (((st.take q.1.2.2.2.2.1).reverse).map (a_rn G)).length = q.1.2.2.2.2.1 := by rw [List.length_map, List.length_reverse, t3]
            have hroom : 2 * (F0 m pc L (st.map (a_rn G))).monitorRoom + ((rest.map (a_rn G)).map fun v => v.category).sum ≤ 8 := by
              show 2 * 0 + _ ≤ 8
              rw [a_wd_rn]; have := hcond.1; omega
            have hw0 : a_wsM q.1 = Cond.code q.1.1 q.1.2.1 q.1.2.2.1 none :: a_good := by unfold a_wsM; rw [hret]
            exact va_runI (Ts := a_good) (own := M.1.cls) ⟨hx, hb, hml, hown, hts⟩ hM (cwI q.1.2.2.2.2.1 hts hG hw0 rfl rfl (hts _ hini) (hts _ hl) (hts _ hin) hinit hnm hR) hpre rfl hlen' hsz hstack hroom hd ⟨hc1, hs1⟩
          · cases ho
        · cases ho
      · cases ho
    · rename_i idx
      split at ho
      · rename_i hk
        split at ho
        · rename_i hcond
          cases ho
          refine ⟨rfl, ?_⟩
          obtain ⟨hs0, hl⟩ := a_lk_stat hq hk hlk
          rcases hs0 with ⟨hs0, -⟩ | ⟨-, e⟩
          · obtain ⟨hcode, hst⟩ := s1' hs0
            have t3 : (st.take q.1.2.2.2.2.1).length = q.1.2.2.2.2.1 := by rw [List.length_take]; have := hcond.1; omega
            have hstack : (F0 m pc L (st.map (a_rn G))).stack = (((st.take q.1.2.2.2.2.1).reverse).map (a_rn G)).reverse ++ (st.drop q.1.2.2.2.2.1).map (a_rn G) := by
              show st.map (a_rn G) = _
              rw [a_rev, ← List.map_append, List.take_append_drop]
            have hpre : PreS s H (a_Pc G HA X (st.take q.1.2.2.2.2.1).reverse h) (((st.take q.1.2.2.2.2.1).reverse).map (a_rn G)) :=
              ⟨a_blind G HA X _ h, fun U hU hW => ⟨rfl, hK.warm hW, by rw [hU]; exact hr⟩⟩
            have hlen' : (((st.take q.1.2.2.2.2.1).reverse).map (a_rn G)).length = q.1.2.2.2.2.1 := by rw [List.length_map, List.length_reverse, t3]
            have hroom : 2 * (F0 m pc L (st.map (a_rn G))).monitorRoom + (((st.drop q.1.2.2.2.2.1).map (a_rn G)).map fun v => v.category).sum ≤ 8 := by
              show 2 * 0 + _ ≤ 8
              rw [a_wd_rn]; have := hcond.2.1; omega
            exact va_runS (Ts := a_good) (own := M.1.cls) ⟨hx, hb, hml, hown, hts⟩ hM (va_cwS q.1.2.2.2.2.1 hts (a_goodOf (by
              intro w hw
              simp only [va_wsS, List.mem_append, List.mem_cons, List.not_mem_nil, or_false] at hw
              rcases hw with (rfl | rfl | rfl) | hw
              · exact hl
              · exact hst
              · exact hini
              · exact a_wsM_in hcode w hw)) rfl rfl rfl hnm hR) hpre rfl hlen' hsz hstack hroom hd ⟨hc1, hs1⟩
          · exact absurd e hk20
        · cases ho
      · cases ho
    · cases ho
/-- behind a call -/
theorem a_sim_back {v : Option Value} (hr : va_Run p l e R s m args below meth c H locs cells slots mc ms (F0 m pc L st) rest (a_Qc G HA v h' as.toArray) (a_A G)) (hH : a_H0 G HA s) (hS : va_S (a_A G) s.heap H locs) 
    (kk : ∀ (H' : Heap) (locs' : List Loc), a_hr G HA h' H' → va_S (a_A G) s.heap H' locs' → W p l e R s m args below meth c H' locs' (cells + mc) (slots + ms) Q (F0 m (pc + 3) L ((v.map (a_rn G)).toList ++ rest))) : W p l e R s m args below meth c H locs cells slots Q (F0 m pc L st) := by
  intro T hT Y
  obtain ⟨v', st₀, t, T', L', h0, Y', hL', e1, e2, ⟨hv, hq, hsz⟩, stp⟩ := hr T hT Y
  cases hv
  have hz : s.heap.size ≤ T'.heap.size := by
    rw [e1]
    rw [h0] at hsz
    exact Nat.le_trans hS.1 hsz
  obtain ⟨t2, a1, b1⟩ := kk T'.heap (locs ++ L') (by rw [e1]; exact hq) ⟨hz, fun q g1 g2 => by
      rcases Nat.lt_or_ge q G.2.2.1 with z | z
      · rw [e1, hq.2.2.1 q z, hH.2 q z]
      · exact absurd z g2, fun q hq => by
      rcases List.mem_append.mp hq with z | z
      · exact hS.2.2 q z
      · exact hL' q z⟩ T' rfl Y'
  exact ⟨t2, stp t2 a1, b1⟩
end ACL
def a_end (v : Option Value) (h : aH) : aH × Nat × Nat := match v with
  | some (.retAddr _) => (h ++ [.inr (a_exc, [])], 1, 6)
  | _ => (h, 0, 0)
theorem a_end_no {v : Option Value} (hno : ∀ n : Nat, v = some (.retAddr n) → False) (h : aH) : a_end v h = (h, 0, 0) := by
  unfold a_end
  split
  · exact absurd rfl (hno _)
  · rfl
theorem a_more_s {c s : Nat} {r : Option aQ} {v : Option Value} {h : aH} {c' s' : Nat} (e : a_more c s r = some (v, h, c', s')) : ∃ c2 s2, r = some (v, h, c2, s2) ∧ c' = c + c2 ∧ s' = s + s2 := by
  unfold a_more at e
  split at e
  · cases e; exact ⟨_, _, rfl, rfl, rfl⟩
  · cases e
/-- what a walk needs of its method's frame, besides the instruction -/
def a_Cx (G : aG) (HA : Heap) (X : aX) (M : aM) (p : Program) (s : State) (m : MethodId) (args : Array Value) (meth : Method) (c : Code) : Prop := a_Fr M p s m args meth c ∧ a_Kn G HA X s ∧ a_H0 G HA s
theorem a_toList (G : aG) (v : Option Value) (r : List Value) : (v.map (a_rn G)).toList ++ r.map (a_rn G) = (v.toList ++ r).map (a_rn G) := by cases v <;> simp
theorem a_inv_in {P : List aM} {i : Instr} {k : aK} {st : List Value} {h : aH} {q : aM × List Value × List Value} (ho : a_inv P i k st h = some q) : q.1 ∈ P ∧ (a_entry q.2.1).length ≤ q.1.2.2.1 := by
  unfold a_inv at ho
  split at ho
  · cases ho
  · rename_i M0 hM0
    have hin := List.mem_of_getElem? hM0
    split at ho
    · split at ho
      · split at ho
        · split at ho
          · rename_i hc
            cases ho
            exact ⟨hin, hc.2.2⟩
          · cases ho
        · cases ho
      · cases ho
    · split at ho
      · split at ho
        · split at ho
          · rename_i hc
            cases ho
            exact ⟨hin, hc.2⟩
          · cases ho
        · cases ho
      · cases ho
    · split at ho
      · split at ho
        · rename_i hc
          cases ho
          exact ⟨hin, hc.2.2⟩
        · cases ho
      · cases ho
    · cases ho
theorem a_sl_len (G : aG) (as : List Value) : (lg_sl (as.map (a_rn G))).length = (a_entry as).length := by
  induction as with
  | nil => rfl
  | cons v vs ih =>
    have e : lg_sl ((v :: vs).map (a_rn G)) = (if (a_rn G v).category = 2 then [.val (a_rn G v), .second] else [.val (a_rn G v)]) ++ lg_sl (vs.map (a_rn G)) := by simp [lg_sl]
    rw [e, List.length_append, ih, a_rn_cat]
    show _ = (if v.category = 2 then some v :: none :: a_entry vs else some v :: a_entry vs).length
    by_cases hc : v.category = 2
    · rw [if_pos hc, if_pos hc]; simp only [List.length_cons, List.length_nil]; omega
    · rw [if_neg hc, if_neg hc]; simp only [List.length_cons, List.length_nil]; omega
theorem a_ent_len {as : List Value} {n : Nat} (h : (a_entry as).length ≤ n) : (a_ent as n).length = n := by
  simp only [a_ent, List.length_append, List.length_replicate]
  omega
theorem a_entry_lv (G : aG) : ∀ (as : List Value) (o i : Nat) (v : Value), (a_entry as)[i]? = some (some v) → (o + i, a_rn G v) ∈ lv_args o (as.map (a_rn G)) := by
  intro as
  induction as with
  | nil => intro o i v h; simp [a_entry] at h
  | cons w ws ih =>
    intro o i v h
    unfold a_entry at h
    show _ ∈ (o, a_rn G w) :: lv_args (if (a_rn G w).category = 2 then o + 2 else o + 1) (ws.map (a_rn G))
    rw [a_rn_cat]
    split at h
    · rename_i hc
      rw [if_pos hc]
      match i, h with
      | 0, h => cases h; exact List.mem_cons_self
      | 1, h => cases h
      | i + 2, h =>
        have := ih (o + 2) i v h
        rw [show o + (i + 2) = o + 2 + i by omega]
        exact List.mem_cons_of_mem _ this
    · rename_i hc
      rw [if_neg hc]
      match i, h with
      | 0, h => cases h; exact List.mem_cons_self
      | i + 1, h =>
        have := ih (o + 1) i v h
        rw [show o + (i + 1) = o + 1 + i by omega]
        exact List.mem_cons_of_mem _ this
theorem a_ent_lv (G : aG) (as : List Value) (n : Nat) : ∀ q ∈ a_lv G (a_ent as n), q ∈ lv_args 0 (as.map (a_rn G)) := by
  intro q hq
  obtain ⟨i, w⟩ := q
  obtain ⟨v, hv, rfl⟩ := a_lv_in.mp hq
  unfold a_ent at hv
  rcases Nat.lt_or_ge i (a_entry as).length with hi | hi
  · rw [List.getElem?_append_left hi] at hv
    have := a_entry_lv G as 0 i v hv
    rw [Nat.zero_add] at this
    exact this
  · rw [List.getElem?_append_right hi, List.getElem?_replicate] at hv
    split at hv <;> cases hv
/-- a method's end -/
theorem a_sim_fin {p : Program} {l : Launch} {e : Env} {R : Room} {s : State} {m : MethodId} {args : Array Value} {below : List Frame} {meth : Method} {c : Code} {H : Heap} {locs : List Loc} {cells slots : Nat} {Z : List aZ} {M : aM} {G : aG} {HA : Heap} {pc len : Nat} {i : Instr} {k : aK} {L : Array Slot} {h : aH} {st : List Value} {v : Option Value}
    (hx : p.tables.exec = Jvm.exec) (hb : c.code = M.2.1) (hrt : meth.sig.returnType = M.2.2.2.1) (hlocks : meth.locks = false) (hok : a_ok Z M pc i len k) (hret : a_ret i k M.2.2.2.1 st = some v) (hno : ∀ n : Nat, v = some (.retAddr n) → False) (hr : a_hr G HA h H) (hS : va_S (a_A G) s.heap H locs) :
    W p l e R s m args below meth c H locs cells slots (MQ below (a_Qc G HA v h) args s cells slots (a_A G)) (F0 m pc L (st.map (a_rn G))) := by
  obtain ⟨hd, hlen, -⟩ := hok
  rw [← hlen] at hd
  have hq : ∀ t : State, t.heap = H → s.WarmedH t.vm → a_Qc G HA v h args s (.returned (v.map (a_rn G))) t := fun t ht _ => ⟨rfl, by rw [ht]; exact hr, by rw [ht]; exact hS.1⟩
  unfold a_ret at hret
  split at hret
  · split at hret
    · rename_i x e1
      cases hret
      exact W.iret hx hb (hrt.trans e1) hq hS.2.2 hd hlocks
    · rename_i x e1
      split at hret
      · rename_i hn
        cases hret
        exact W.zret hx hb (hrt.trans e1) hn hq hS.2.2 hd hlocks
      · cases hret
    · rename_i x e1
      split at hret
      · rename_i hn
        cases hret
        exact W.zret hx hb (hrt.trans e1) hn hq hS.2.2 hd hlocks
      · cases hret
    · cases hret
  · split at hret
    · rename_i x e1
      cases hret
      exact W.lret hx hb (hrt.trans e1) hq hS.2.2 hd hlocks
    · cases hret
  · split at hret
    · rename_i e1
      cases hret
      exact W.vret hx hb (hrt.trans e1) hq hS.2.2 hd hlocks
    · cases hret
  · split at hret
    · split at hret
      · cases hret
        exact absurd rfl (hno 0)
      · cases hret
    · cases hret
  · cases hret
/-- a throw, with the world behind it -/
def a_XC (G : aG) (HA : Heap) (h : aH) : String → State → State → Prop := fun E st t => E = a_excN ∧ a_hr G HA h t.heap ∧ st.heap.size ≤ t.heap.size
theorem a_thr_s {M : aM} {pc idx : Nat} {k : aK} (h : a_thr M pc idx k = true) : Cond.classLink M.1.cls idx a_excN ∈ a_good ∧ M.1.cls = "OddsInCourt" ∧ decode M.2.1 (pc + 3) = .ok (.dup, 1) ∧ (∃ q ∈ a_strs, decode M.2.1 (pc + 4) = .ok (.ldc_w q.1, 3)) ∧ decode M.2.1 (pc + 7) = .ok (.invokespecial a_ic, 3) ∧ decode M.2.1 (pc + 10) = .ok (.athrow, 1) := by
  simp only [a_thr, Bool.and_eq_true, decide_eq_true_eq, List.any_eq_true] at h
  obtain ⟨⟨⟨⟨⟨h1, h2⟩, h3⟩, h4⟩, h5⟩, h6⟩ := h
  exact ⟨a_has_in h1, h2, h3, h4, h5, h6⟩
theorem a_excI : Cond.initialized a_excN ∈ a_good := a_has_in (j := a_excP) (by decide +kernel)
set_option maxRecDepth 20000 in
theorem a_atS_g : ∀ w ∈ a_atX.filter goodWord, w ∈ lw_tbl := by decide +kernel
set_option maxRecDepth 20000 in
theorem a_atS_n : ∀ w ∈ a_nest, w.onTables = true := by decide +kernel
set_option maxRecDepth 20000 in
theorem a_atS_o : ∀ w ∈ a_atX, vx_ot w = true := by decide +kernel
theorem a_atS_at {args : Array Value} {s : State} (hts : ∀ w ∈ a_good, w.before args s = true) (hn : ∀ w ∈ a_nest, va_Nw w s) : ∀ w ∈ a_atX, w.before args s = true := by
  intro w hw
  cases hg : goodWord w with
  | true => exact hts w (List.mem_filter.mpr ⟨a_atS_g w (List.mem_filter.mpr ⟨hw, hg⟩), hg⟩)
  | false =>
    have hin : w ∈ a_nest := List.mem_cons_of_mem _ (List.mem_filter.mpr ⟨hw, by rw [hg]; rfl⟩)
    exact va_Nw.use (a_atS_n w hin) (hn w hin)
theorem a_excCl : vwCl[13]? = some (a_excN, a_T [], 0) := rfl
set_option maxHeartbeats 1000000 in
/-- the throw of a method that is known to throw -/
theorem a_sim_thr {p : Program} {l : Launch} {e : Env} {R : Room} {s : State} {m : MethodId} {args : Array Value} {below : List Frame} {meth : Method} {c : Code} {H : Heap} {locs : List Loc} {cells slots mc ms : Nat} {Z : List aZ} {M : aM} {G : aG} {HA : Heap} {X : aX} {pc len : Nat} {i : Instr} {k : aK} {L : Array Slot} {h : aH} {st : List Value} {n : Nat} {Qc : Array Value → State → Outcome → State → Prop}
    (hl : l.stackTraces = false) (hC : a_Cx G HA X M p s m args meth c) (hnt : ∀ x ∈ c.exceptionTable.toList, False) (hok : a_ok Z M pc i len k) (hret : a_ret i k M.2.2.2.1 st = some (some (.retAddr n))) (hr : a_hr G HA h H) (hS : va_S (a_A G) s.heap H locs) (hsz : L.size = M.2.2.1)
    (hfr : 8 ≤ R.frames) (hlo : 200 ≤ R.locals) (hc : cells + 1 ≤ R.cells) (hs : slots + 6 ≤ R.slots) (hmc : cells + 1 ≤ mc) (hms : slots + 6 ≤ ms) :
    W p l e R s m args below meth c H locs cells slots (vx_MQ below Qc (a_XC G HA (h ++ [.inr (a_exc, [])])) args s mc ms (a_A G)) (F0 m pc L (st.map (a_rn G))) := by
  obtain ⟨⟨hx, hb, hrt, hml, hown, hlocks, hname, hts, -⟩, hK, hH⟩ := hC
  obtain ⟨hd, hlen, hlk⟩ := hok
  rw [← hlen] at hd
  unfold a_ret at hret
  split at hret
  · split at hret
    · cases hret
    · split at hret <;> cases hret
    · split at hret <;> cases hret
    · cases hret
  · split at hret <;> cases hret
  · split at hret <;> cases hret
  · rename_i idx
    split at hret
    · rename_i hk17
      split at hret
      · simp only [a_lk, hk17, if_true] at hlk
        obtain ⟨h1, h2, h3, ⟨q, hq, h4⟩, h5, h6⟩ := a_thr_s hlk
        obtain ⟨sa, hsa⟩ := hK.2.2.2.2.2.2.2.2.2 q hq
        have hU : vx_Zq Bundle.tN "UNASSIGNED_STACK" Bundle.steD (a_A G) s s.heap := hK.2.2.2.2.2.2.2.1.kept (fun a ha _ => hH.2 a (by rw [← hr.2.1]; exact ha))
        have hN : vx_Zq Bundle.tN "SUPPRESSED_SENTINEL" Bundle.listD (a_A G) s s.heap := hK.2.2.2.2.2.2.2.2.1.kept (fun a ha _ => hH.2 a (by rw [← hr.2.1]; exact ha))
        rw [h2] at hown h1
        refine a_throwSW (own := "OddsInCourt") (cls := a_excN) (names := a_excs) (ik := idx) (is := q.1) (ic := a_ic) (text := q.2) (sa := sa) (ix := 13) (rx := prog_22_method_4_code) (A := a_A G) hx hb hl (by decide +kernel) (by decide +kernel) (by decide +kernel) (by decide +kernel) hown (by decide +kernel) (by decide +kernel) (hts _ h1) (hts _ a_excI) hsa (a_atS_at hts hK.2.1) ?_ hU hN hS (by rw [hml]; exact hsz) hd h3 h4 h5 h6 (fun x hx => (hnt x hx).elim) (by show 2 + 3 < _; omega) (by show 0 + (13 * (2 + 1) + 43) ≤ _; omega) hc hs hlocks ?_ (fun z hz => hS.2.2 z hz) hmc hms
        · intro w hw
          rcases List.mem_cons.mp hw with e | hw
          · subst e; exact Bool.or_eq_true_iff.mpr (Or.inr (List.mem_filter.mp h1).2)
          · rcases List.mem_cons.mp hw with e | hw
            · subst e; exact Bool.or_eq_true_iff.mpr (Or.inr (List.mem_filter.mp a_excI).2)
            · exact a_atS_o w hw
        · intro t ce hal hz hce hcv hcl hold
          refine ⟨rfl, a_pushed hr hz hold ⟨_, a_excCl, ?_⟩, by rw [hz]; exact Nat.le_succ_of_le hS.1⟩
          have hC13 := (hK.1.1 13 _ a_excCl).2.1
          rw [hr.1] at hce
          exact ⟨ce, hce, (Option.some.inj (hC13.symm.trans hcl)).symm, hcv, fun k hk => absurd hk (Nat.not_lt_zero k)⟩
      · cases hret
    · cases hret
  · cases hret
theorem a_cat_s {M : aM} {pc hp : Nat} (h : a_cat M pc hp = true) : ∃ a b t, a_hh M.1 = [(a, b, hp, t)] ∧ a ≤ pc ∧ pc < b ∧ t ≠ 0 ∧ M.2.2.2.1 = some .int ∧ ∃ n len, (decode M.2.1 hp = .ok (.astore n, len) ∧ len = 2 ∨ ∃ z : Fin 4, (z : Nat) = n ∧ decode M.2.1 hp = .ok (.astore_n z, len) ∧ len = 1) ∧ n < M.2.2.1 ∧ M.2.2.2.2.2.lookup (hp + len) = some (.iconst 1, 1, 0, 0, 0, 0) ∧ M.2.2.2.2.2.lookup (hp + len + 1) = some (.ireturn, 1, 0, 0, 0, 0) := by
  unfold a_cat at h
  split at h
  · rename_i a b hh t e
    simp only [Bool.and_eq_true, decide_eq_true_eq] at h
    obtain ⟨⟨⟨⟨⟨h1, h2⟩, h3⟩, h4⟩, h5⟩, h6⟩ := h
    subst h3
    refine ⟨a, b, t, e, h1, h2, h4, h5, ?_⟩
    split at h6
    · rename_i n hd
      simp only [Bool.and_eq_true, decide_eq_true_eq] at h6
      exact ⟨n, 2, Or.inl ⟨hd, rfl⟩, h6.1.1, h6.1.2, h6.2⟩
    · rename_i n hd
      simp only [Bool.and_eq_true, decide_eq_true_eq] at h6
      exact ⟨n, 1, Or.inr ⟨n, rfl, hd, rfl⟩, h6.1.1, h6.1.2, h6.2⟩
    · cases h6
  · cases h
theorem a_inv_code {Z : List aZ} (hZ : a_ZOK Z) {M M' : aM} {pc : Nat} {i : Instr} {k : aK} {st : List Value} {h : aH} {as rest : List Value} {q : aZ} (ho : a_inv (Z.map Prod.fst) i k st h = some (M', as, rest)) (hlk : a_lk Z M pc i k = true) (hq : Z[k.2.1]? = some q) (hk20 : k.1 ≠ 20) : Cond.code q.1.1 q.1.2.1 q.1.2.2.1 q.1.2.2.2.1 ∈ a_good := by
  obtain ⟨-, -, -, -, s0, s1, s2, -⟩ := a_mb_s (hZ q (List.mem_of_getElem? hq)).1
  unfold a_inv at ho
  split at ho
  · cases ho
  · split at ho
    · exact (s0 (a_lk_virt hq hlk).1).1
    · split at ho
      · rename_i hk
        exact (s2 (a_lk_init hq hk hlk).1).1
      · cases ho
    · split at ho
      · rename_i hk
        rcases (a_lk_stat hq hk hlk).1 with ⟨e, -⟩ | ⟨-, e⟩
        · exact (s1 e).1
        · exact absurd e hk20
      · cases ho
    · cases ho
set_option maxHeartbeats 1000000 in
/-- an instruction that is no call and no end -/
theorem a_sim_op {p : Program} {l : Launch} {e : Env} {R : Room} {s : State} {m : MethodId} {args : Array Value} {below : List Frame} {meth : Method} {c : Code} {H : Heap} {locs : List Loc} {cells slots : Nat} {Q : State → Prop} {Z : List aZ} {M : aM} {G : aG} {HA : Heap} {X : aX} {pc len pc' : Nat} {i : Instr} {k : aK} {L : Array Slot} {ls ls' : aL} {h h' : aH} {st st' : List Value} {c1 s1 : Nat}
    (hC : a_Cx G HA X M p s m args meth c) (hok : a_ok Z M pc i len k) (ho : a_op X i len k pc ls st h = some (pc', ls', st', h', c1, s1)) (hr : a_hr G HA h H) (hS : va_S (a_A G) s.heap H locs) (hl : lv_has L M.2.2.1 (a_lv G ls)) (hll : ls.length = M.2.2.1) (hfr : 1 ≤ R.frames) (hlo : 200 ≤ R.locals) (hc1 : cells + c1 ≤ R.cells) (hs1 : slots + s1 ≤ R.slots)
    (kk : ∀ (H' : Heap) (locs' : List Loc) (L' : Array Slot), a_hr G HA h' H' → va_S (a_A G) s.heap H' locs' → lv_has L' M.2.2.1 (a_lv G ls') → ls'.length = M.2.2.1 → W p l e R s m args below meth c H' locs' (cells + c1) (slots + s1) Q (F0 m pc' L' (st'.map (a_rn G)))) : W p l e R s m args below meth c H locs cells slots Q (F0 m pc L (st.map (a_rn G))) := by
  obtain ⟨hF, hK, hH⟩ := hC
  unfold a_op at ho
  split at ho
  · rename_i q hq
    cases ho
    exact a_sim_stk hF hok hq (kk H locs L hr hS hl hll)
  · split at ho
    · rename_i ls2 st2 hq
      cases ho
      exact a_sim_loc hF hok hq hl hll (fun L' h1 h2 => kk H locs L' hr hS h1 h2)
    · split at ho
      · rename_i pc2 st2 hq
        cases ho
        exact a_sim_br hF hok hq (kk H locs L hr hS hl hll)
      · split at ho
        · rename_i st2 h2 c2 s2 hq
          cases ho
          obtain ⟨hd, hlen, hlk⟩ := hok
          rw [← hlen] at hd kk
          have hsz : L.size = M.2.2.1 := hl.1
          have kk' : ∀ (H' : Heap) (locs' : List Loc), a_hr G HA h' H' → va_S (a_A G) s.heap H' locs' → W p l e R s m args below meth c H' locs' (cells + c1) (slots + s1) Q (F0 m (pc + a_ln i len) L (st'.map (a_rn G))) := fun H' locs' h1 h2 => kk H' locs' L h1 h2 hl hll
          clear kk
          have hq0 := hq
          unfold a_hp at hq
          split at hq
          · exact a_sim_get hF hK hd hlk hr hS hq kk'
          · exact a_sim_put hF hK hd hlk hr hS hq kk'
          · exact a_sim_ald hF hK (Or.inl rfl) hd hr hS hq0 kk'
          · exact a_sim_ald hF hK (Or.inr (Or.inl rfl)) hd hr hS hq0 kk'
          · exact a_sim_ald hF hK (Or.inr (Or.inr rfl)) hd hr hS hq0 kk'
          · exact a_sim_lald hF hK hH hd hr hS hq kk'
          · exact a_sim_aald hF hK hd hr hS hq kk'
          · exact a_sim_ast hF hK (Or.inl rfl) hd hr hS hq0 kk'
          · exact a_sim_ast hF hK (Or.inr (Or.inl rfl)) hd hr hS hq0 kk'
          · exact a_sim_ast hF hK (Or.inr (Or.inr rfl)) hd hr hS hq0 kk'
          · exact a_sim_last hF hK hd hr hS hq kk'
          · exact a_sim_aast hF hK hd hr hS hq kk'
          · exact a_sim_len hF hK hH hd hr hS hq kk'
          · exact a_sim_newa hF hK hd hlk hr hS hq hc1 hs1 kk'
          · split at hq
            · rename_i hk
              exact a_sim_newq hF hK hk hd hlk hr hS hq hc1 hs1 kk'
            · cases hq
          · split at hq
            · rename_i hk
              exact a_sim_newm hF hK hk hd hlk hr hS hq hc1 hs1 kk'
            · cases hq
          · split at hq
            · rename_i hk
              exact a_sim_new hF hK hk hd hlk hr hS hq hc1 hs1 kk'
            · cases hq
          · split at hq
            · rename_i hk
              cases hq
              exact a_sim_sta hF hK hH hk hd hlk hr hS (kk' H locs hr hS)
            · cases hq
          · split at hq
            · rename_i hk
              split at hq
              · split at hq
                · rename_i hw
                  cases hq
                  exact a_sim_obj hF hk hd hlk hw hfr hlo hsz (kk' H locs hr hS)
                · cases hq
              · cases hq
            · cases hq
          · split at hq
            · rename_i hk
              split at hq
              · rename_i hw
                exact a_sim_copy hF hK hk hd hlk hr hS hsz hfr hlo hw hq kk'
              · cases hq
            · cases hq
          · cases hq
        · split at ho
          · rename_i st2 hq
            cases ho
            have hd := hok.1
            rw [← hok.2.1] at hd kk
            exact a_sim_scr hF hK hH hd hr hS hq (kk H locs L hr hS hl hll)
          · cases ho
/-- a method that catches is known by its table of handlers -/
def a_x18 (M : aM) : Prop := (Cond.codeWith M.1 M.2.1 M.2.2.1 M.2.2.2.1 (a_hh M.1) ∈ a_good ∧ ∃ a b h t, a_hh M.1 = [(a, b, h, t)] ∧ Cond.classLink M.1.cls t a_excN ∈ a_good) ∨ ∀ e ∈ M.2.2.2.2.2, e.2.2.2.1 ≠ 18
def a_Z18 (Z : List aZ) : Prop := ∀ q ∈ Z, q.2.1 = 3 ∨ ∀ e ∈ q.1.2.2.2.2.2, e.2.2.2.1 ≠ 18
theorem a_x18_of {Z : List aZ} (hZ : a_ZOK Z) (h18 : a_Z18 Z) {q : aZ} (hq : q ∈ Z) : a_x18 q.1 := by
  rcases h18 q hq with e | e
  · obtain ⟨-, -, -, -, -, -, -, s3⟩ := a_mb_s (hZ q hq).1
    exact Or.inl ⟨(s3 e).1, (s3 e).2.2⟩
  · exact Or.inr e
/-- a method's table of instructions is right -/
def a_okM (Z : List aZ) (M : aM) : Prop := ∀ (pc : Nat) (i : Instr) (len : Nat) (k : aK), M.2.2.2.2.2.lookup pc = some (i, len, k) → a_ok Z M pc i len k
theorem a_lookup_in {l : List (Nat × aI)} {pc : Nat} {q : aI} (h : l.lookup pc = some q) : (pc, q) ∈ l := by
  induction l with
  | nil => cases h
  | cons e t ih =>
    obtain ⟨n, x⟩ := e
    rw [List.lookup_cons] at h
    split at h
    · rename_i e1
      cases h
      rw [beq_iff_eq] at e1
      subst e1
      exact List.mem_cons_self
    · exact List.mem_cons_of_mem _ (ih h)
theorem a_okM_of {Z : List aZ} {M : aM} (h : ∀ e ∈ M.2.2.2.2.2, a_okb Z M e = true) : a_okM Z M := by
  intro pc i len k hl
  have h1 := h _ (a_lookup_in hl)
  simp only [a_okb, Bool.and_eq_true, decide_eq_true_eq] at h1
  exact ⟨h1.1.1, h1.1.2, h1.2⟩
theorem a_inv_Z {Z : List aZ} {i : Instr} {k : aK} {st : List Value} {h : aH} {M' : aM} {as rest : List Value} (ho : a_inv (Z.map Prod.fst) i k st h = some (M', as, rest)) : ∃ q ∈ Z, q.1 = M' ∧ Z[k.2.1]? = some q := by
  unfold a_inv at ho
  split at ho
  · cases ho
  · rename_i M0 hM0
    rw [List.getElem?_map] at hM0
    cases hq : Z[k.2.1]? with
    | none => rw [hq] at hM0; cases hM0
    | some q =>
      rw [hq] at hM0
      cases hM0
      refine ⟨q, List.mem_of_getElem? hq, ?_, rfl⟩
      split at ho
      · split at ho
        · split at ho
          · split at ho
            · cases ho; rfl
            · cases ho
          · cases ho
        · cases ho
      · split at ho
        · split at ho
          · split at ho
            · cases ho; rfl
            · cases ho
          · cases ho
        · cases ho
      · split at ho
        · split at ho
          · cases ho; rfl
          · cases ho
        · cases ho
      · cases ho
def a_wsW (M : aM) : List Cond := Cond.codeWith M.1 M.2.1 M.2.2.1 M.2.2.2.1 (a_hh M.1) :: a_good
set_option maxHeartbeats 1000000 in
/-- a call of a method with a table of handlers -/
theorem a_sim_run20 {p : Program} {l : Launch} {e : Env} {R : Room} {s : State} {m : MethodId} {args : Array Value} {below : List Frame} {meth : Method} {c : Code} {H : Heap} {locs : List Loc} {cells slots : Nat} {Z : List aZ} {M : aM} {G : aG} {HA : Heap} {X : aX} {pc len : Nat} {i : Instr} {k : aK} {L : Array Slot} {h : aH} {st rest as : List Value} {Qc : Array Value → State → Outcome → State → Prop} {mc ms d : Nat} {q : aZ}
    (hZ : a_ZOK Z) (hF : a_Fr M p s m args meth c) (hK : a_Kn G HA X s) (hok : a_ok Z M pc i len k) (hr : a_hr G HA h H) (hsz : L.size = M.2.2.1) (ho : a_inv (Z.map Prod.fst) i k st h = some (q.1, as, rest)) (hq : Z[k.2.1]? = some q) (hk20 : k.1 = 20) (hM : Met l q.1.1 (a_wsW q.1) (a_rm d mc ms) (a_Pc G HA X as h) Qc mc ms (a_A G)) (hfr : d + 9 ≤ R.frames) (hlo : 200 + 60 * (d + 1) ≤ R.locals) (hc1 : cells + mc ≤ R.cells) (hs1 : slots + ms ≤ R.slots) :
    a_ln i len = 3 ∧ va_Run p l e R s m args below meth c H locs cells slots mc ms (F0 m pc L (st.map (a_rn G))) (rest.map (a_rn G)) (Qc (as.map (a_rn G)).toArray) (a_A G) := by
  obtain ⟨hx, hb, -, hml, hown, -, -, hts, -⟩ := hF
  obtain ⟨hd, hlen, hlk⟩ := hok
  rw [← hlen] at hd
  unfold a_inv at ho
  split at ho
  · cases ho
  · rename_i M0 hM0
    rw [List.getElem?_map, hq] at hM0
    cases hM0
    obtain ⟨hL', hnm, hpl, hini, -, -, -, s3⟩ := a_mb_s (hZ q (List.mem_of_getElem? hq)).1
    have hR : (a_rm d mc ms).frames + 1 ≤ R.frames ∧ 8 + (q.1.2.2.1 + 11) + (a_rm d mc ms).locals ≤ R.locals := ⟨hfr, by show 8 + (q.1.2.2.1 + 11) + (200 + 60 * d) ≤ _; omega⟩
    split at ho
    · split at ho
      · rename_i hk
        rw [hk20] at hk
        rcases hk with e | e <;> cases e
      · cases ho
    · split at ho
      · rename_i hk
        rw [hk20] at hk
        cases hk
      · cases ho
    · rename_i idx
      split at ho
      · rename_i hk
        split at ho
        · rename_i hcond
          cases ho
          refine ⟨rfl, ?_⟩
          obtain ⟨hs0, hl⟩ := a_lk_stat hq hk hlk
          rcases hs0 with ⟨-, e⟩ | ⟨hs0, -⟩
          · rw [hk20] at e
            cases e
          · obtain ⟨hcode, hst, -⟩ := s3 hs0
            have t3 : (st.take q.1.2.2.2.2.1).length = q.1.2.2.2.2.1 := by rw [List.length_take]; have := hcond.1; omega
            have hstack : (F0 m pc L (st.map (a_rn G))).stack = (((st.take q.1.2.2.2.2.1).reverse).map (a_rn G)).reverse ++ (st.drop q.1.2.2.2.2.1).map (a_rn G) := by
              show st.map (a_rn G) = _
              rw [a_rev, ← List.map_append, List.take_append_drop]
            have hpre : PreS s H (a_Pc G HA X (st.take q.1.2.2.2.2.1).reverse h) (((st.take q.1.2.2.2.2.1).reverse).map (a_rn G)) :=
              ⟨a_blind G HA X _ h, fun U hU hW => ⟨rfl, hK.warm hW, by rw [hU]; exact hr⟩⟩
            have hlen' : (((st.take q.1.2.2.2.2.1).reverse).map (a_rn G)).length = q.1.2.2.2.2.1 := by rw [List.length_map, List.length_reverse, t3]
            have hroom : 2 * (F0 m pc L (st.map (a_rn G))).monitorRoom + (((st.drop q.1.2.2.2.2.1).map (a_rn G)).map fun v => v.category).sum ≤ 8 := by
              show 2 * 0 + _ ≤ 8
              rw [a_wd_rn]; have := hcond.2.1; omega
            exact vx_runSW (Ts := a_good) (own := M.1.cls) ⟨hx, hb, hml, hown, hts⟩ hM (vx_cwSW q.1.2.2.2.2.1 hts (a_goodOf (by
              intro w hw
              simp only [va_wsS, List.mem_append, List.mem_cons, List.not_mem_nil, or_false] at hw
              rcases hw with (rfl | rfl | rfl) | hw
              · exact hl
              · exact hst
              · exact hini
              · rcases List.mem_cons.mp hw with e | hw
                · rw [e]; exact hcode
                · exact hw)) rfl rfl rfl hnm hR) hpre rfl hlen' hsz hstack hroom hd ⟨hc1, hs1⟩
        · cases ho
      · cases ho
    · cases ho
set_option maxHeartbeats 2000000 in
/-- a call that throws, caught by its caller, which answers 1 -/
theorem a_sim_catch {l : Launch} (hlt : l.stackTraces = false) {Z : List aZ} (hZ : a_ZOK Z) {G : aG} {HA : Heap} {X : aX} {p : Program} {e : Env} {R : Room} {s : State} {m : MethodId} {args : Array Value} {below : List Frame} {meth : Method} {c : Code} {H : Heap} {locs : List Loc} {cells slots : Nat} {Q : State → Prop} {L : Array Slot} {M : aM} {pc len d' : Nat} {i : Instr} {k : aK} {ls : aL} {st as rest : List Value} {h h' : aH} {c' s' : Nat} {q : aZ}
    (hC : a_Cx G HA X M p s m args meth c) (hMP : a_okM Z M) (hx8 : a_x18 M) (hlook : M.2.2.2.2.2.lookup pc = some (i, len, k)) (hk18 : k.1 = 18) (hr : a_hr G HA h H) (hS : va_S (a_A G) s.heap H locs) (hl : lv_has L M.2.2.1 (a_lv G ls)) (hfr : d' + 1 + 8 ≤ R.frames) (hlo : 200 + 60 * (d' + 1) ≤ R.locals) (hcc : cells + c' ≤ R.cells) (hss : slots + s' ≤ R.slots)
    (hinv : a_inv (Z.map Prod.fst) i k st h = some (q.1, as, rest)) (hq : Z[k.2.1]? = some q)
    (hbody : ∀ p2 e2 s2 m2 args2 below2 meth2 cd2 s₁, BodyLoose p2 l q.1.1 (headSpec (a_wsM q.1) (a_rm d' c' s')) q.1.2.1 q.1.2.2.1 q.1.2.2.2.1 e2 s2 m2 args2 below2 meth2 cd2 s₁ → cd2.maxLocals = q.1.2.2.1 → (∀ x ∈ cd2.exceptionTable.toList, False) → a_Pc G HA X as h args2 s2 →
      W p2 l e2 (headSpec (a_wsM q.1) (a_rm d' c' s')).room s2 m2 args2 below2 meth2 cd2 s2.heap [] 0 0 (vx_MQ below2 (fun _ _ _ _ => False) (a_XC G HA h') args2 s2 c' s' (a_A G)) (entryFrame m2 args2 q.1.2.2.1))
    (fin : ∀ (pc1 : Nat) (i : Instr) (len : Nat) (k : aK) (st1 : List Value) (h1 : aH) (c1 s1 : Nat) (H1 : Heap) (locs1 : List Loc) (L1 : Array Slot), a_ok Z M pc1 i len k → a_ret i k M.2.2.2.1 st1 = some (some (.int 1)) → a_hr G HA h1 H1 → va_S (a_A G) s.heap H1 locs1 → L1.size = M.2.2.1 → h' = (a_end (some (.int 1)) h1).1 → c' = c1 + (a_end (some (.int 1)) h1).2.1 → s' = s1 + (a_end (some (.int 1)) h1).2.2 →
      W p l e R s m args below meth c H1 locs1 (cells + c1) (slots + s1) Q (F0 m pc1 L1 (st1.map (a_rn G)))) :
    W p l e R s m args below meth c H locs cells slots Q (F0 m pc L (st.map (a_rn G))) := by
  have hok := hMP pc i len k hlook
  obtain ⟨⟨hx, hb, hrt, hml, hown, hlocks, hname, hts, htab⟩, hK, hH⟩ := id hC
  obtain ⟨hd, hlen, hlk⟩ := hok
  rw [← hlen] at hd
  have hx8' : Cond.codeWith M.1 M.2.1 M.2.2.1 M.2.2.2.1 (a_hh M.1) ∈ a_good ∧ ∃ a b h t, a_hh M.1 = [(a, b, h, t)] ∧ Cond.classLink M.1.cls t a_excN ∈ a_good := by
    rcases hx8 with e | e
    · exact e
    · exact absurd hk18 (e _ (a_lookup_in hlook))
  obtain ⟨hcw, a0, b0, h0, t0, ehh, hlinkT⟩ := hx8'
  unfold a_inv at hinv
  split at hinv
  · cases hinv
  · rename_i M0 hM0
    rw [List.getElem?_map, hq] at hM0
    cases hM0
    split at hinv
    · rename_i idx
      split at hinv
      · split at hinv
        · rename_i v r hdr
          split at hinv
          · rename_i hcond
            cases hinv
            obtain ⟨t1, t2, t3⟩ := a_take hdr
            obtain ⟨hs0, hlk1, ⟨T, N, hcl⟩, hcat⟩ := a_lk_virt hq hlk
            obtain ⟨hL', hnm, hpl, hini, s0, -⟩ := a_mb_s (hZ q (List.mem_of_getElem? hq)).1
            obtain ⟨hcode, hin, hsel⟩ := s0 hs0
            obtain ⟨a1, b1, tt, ehh2, hle1, hlt1, ht0, hrint, n0, ln0, hdec, hn0, hlk2, hlk3⟩ := a_cat_s (hcat hk18)
            have hMx : vx_Met l q.1.1 (a_wsM q.1) (a_rm d' c' s') (a_Pc G HA X (v :: (st.take q.1.2.2.2.2.1).reverse) h) (fun _ _ _ _ => False) (a_XC G HA h') c' s' (a_A G) := vx_ofW hpl rfl hbody
            unfold a_recv at hcond
            obtain ⟨hrc, hw, -⟩ := hcond
            split at hrc
            · rename_i o
              split at hrc
              · rename_i ci fs hcell
                have hci : ci = k.2.2.1 := of_decide_eq_true hrc
                subst hci
                have hstack : (F0 m pc L (st.map (a_rn G))).stack = (((st.take q.1.2.2.2.2.1).reverse).map (a_rn G)).reverse ++ .ref (G.2.2.1 + o) :: rest.map (a_rn G) := by
                  show st.map (a_rn G) = _
                  rw [a_rev]
                  conv => lhs; rw [t2]
                  rw [List.map_append]
                  rfl
                have hrecv := va_recv hK.1 hr.2.2.2 hcl (a_ws_of hcell)
                have hpre : PreV s H q.1.1.cls (G.2.2.1 + o) (a_Pc G HA X (.ref (o + 2) :: (st.take q.1.2.2.2.2.1).reverse) h) (((st.take q.1.2.2.2.2.1).reverse).map (a_rn G)) :=
                  ⟨a_blind G HA X _ h, hrecv, fun U hU hW => ⟨rfl, hK.warm hW, by rw [hU]; exact hr⟩⟩
                have hlen' : (((st.take q.1.2.2.2.2.1).reverse).map (a_rn G)).length = q.1.2.2.2.2.1 := by rw [List.length_map, List.length_reverse, t3]
                have hroom : 2 * (F0 m pc L (st.map (a_rn G))).monitorRoom + ((rest.map (a_rn G)).map fun v => v.category).sum ≤ 8 := by
                  show 2 * 0 + _ ≤ 8
                  rw [a_wd_rn]; omega
                have hR : (a_rm d' c' s').frames + 1 ≤ R.frames ∧ 8 + (q.1.2.2.1 + 11) + (a_rm d' c' s').locals ≤ R.locals := ⟨by show d' + 8 + 1 ≤ _; omega, by show 8 + (q.1.2.2.1 + 11) + (200 + 60 * d') ≤ _; omega⟩
                have hrun := vx_runV (e := e) (below := below) (meth := meth) (locs := locs) (cells := cells) (slots := slots) (Ts := a_good) (own := M.1.cls) (C := q.1.1.cls) ⟨hx, hb, hml, hown, hts⟩ hMx (cwV q.1.2.2.2.2.1 hts (a_goodOf (by
                    intro w hw
                    simp only [wsV, List.mem_append, List.mem_cons, List.not_mem_nil, or_false] at hw
                    rcases hw with (rfl | rfl | rfl | rfl) | hw
                    · exact hlk1
                    · exact hin
                    · exact hsel
                    · exact hini
                    · exact a_wsM_in hcode w hw)) rfl rfl rfl ⟨rfl, hnm⟩ hR) hpre rfl hlen' hl.1 hstack hroom hd ⟨hcc, hss⟩
                intro T0 hT0 Y
                rcases hrun T0 hT0 Y with ⟨v', st₀, t, T', L', -, -, -, -, -, hf, -⟩ | ⟨qx, st₀, t, T', L', E, ce, hh0, Y', hL', e1, e2, ⟨hE, hq1, hq2⟩, hce, hcv, hclE, stp⟩
                · exact hf.elim
                · subst hE
                  rw [ehh] at ehh2
                  cases ehh2
                  have hS' : va_S (a_A G) s.heap T'.heap (locs ++ L') := by
                    rw [hh0] at hq2
                    refine ⟨by rw [e1]; exact Nat.le_trans hS.1 hq2, fun z g1 g2 => ?_, fun z hz => ?_⟩
                    · rcases Nat.lt_or_ge z G.2.2.1 with y | y
                      · rw [e1, hq1.2.2.1 z y, hH.2 z y]
                      · exact absurd y g2
                    · rcases List.mem_append.mp hz with y | y
                      · exact hS.2.2 z y
                      · exact hL' z y
                  have hr' : a_hr G HA h' T'.heap := by rw [e1]; exact hq1
                  have hend : ∀ L1 : Array Slot, L1.size = M.2.2.1 → W p l e R s m args below meth c T'.heap (locs ++ L') (cells + c') (slots + s') Q (F0 m (k.2.2.2.toNat / 100000 + ln0) L1 []) := by
                    intro L1 hL1
                    have hoki := hMP _ _ _ _ hlk2
                    have hokr := hMP _ _ _ _ hlk3
                    refine lv_iconst (v := 1) hx hb hoki.1 (by decide) ?_
                    exact fin _ _ _ _ [.int 1] h' c' s' T'.heap (locs ++ L') L1 hokr (by rw [hrint]; rfl) hr' hS' hL1 rfl rfl rfl
                  have hcatch : vx_W p l e R s m args below meth c T'.heap (locs ++ L') (cells + c') (slots + s') Q (F0 m pc L (rest.map (a_rn G))) qx := by
                    refine vx_catch (own := M.1.cls) (name := a_excN) (E := a_excN) (ce := ce) hown [] ⟨a0, b0, k.2.2.2.toNat / 100000, t0⟩ [] (by rw [htab _ hcw, ehh]; rfl) (fun z hz => by cases hz) (by simp only [covers, Bool.and_eq_true, decide_eq_true_eq]; exact ⟨hle1, hlt1⟩) ht0 (hts _ hlinkT) (va_Nw.use rfl (hK.2.1 _ List.mem_cons_self)) (by rw [e1]; exact hce) hcv hclE ?_
                    rcases hdec with ⟨hd1, e9⟩ | ⟨z, hz, hd1, e9⟩
                    · subst e9
                      exact lv_astore hx hb hd1 hl (by omega) rfl (fun L1 h1 => hend L1 h1.1)
                    · subst e9
                      exact lv_astore_n hx hb hd1 hz hl (by omega) rfl (fun L1 h1 => hend L1 h1.1)
                  obtain ⟨t9, a9, b9⟩ := hcatch T' rfl Y'
                  exact ⟨t9, stp.trans a9, b9⟩
              · cases hrc
            · cases hrc
          · cases hinv
        · cases hinv
      · cases hinv
    · split at hinv
      · rename_i hk
        rw [hk18] at hk
        cases hk
      · cases hinv
    · split at hinv
      · rename_i hk
        rw [hk18] at hk
        rcases hk with e | e <;> cases e
      · cases hinv
    · cases hinv
set_option maxHeartbeats 1000000 in
/-- THE WALK OF A METHOD'S BODY, out of its run on paper -/
theorem a_sim {l : Launch} (hlt : l.stackTraces = false) {Z : List aZ} (hZ : a_ZOK Z) (h18 : a_Z18 Z) {G : aG} {HA : Heap} {X : aX} : ∀ (f d : Nat) (M : aM) (pc : Nat) (ls : aL) (st : List Value) (h : aH) (v : Option Value) (h' : aH) (c' s' : Nat), a_okM Z M → a_x18 M → aexec (Z.map Prod.fst) X f d M pc ls st h = some (v, h', c', s') →
    ∀ {p : Program} {e : Env} {R : Room} {s : State} {m : MethodId} {args : Array Value} {below : List Frame} {meth : Method} {c : Code} {H : Heap} {locs : List Loc} {cells slots : Nat} {Q : State → Prop} {L : Array Slot},
    a_Cx G HA X M p s m args meth c → a_hr G HA h H → va_S (a_A G) s.heap H locs → lv_has L M.2.2.1 (a_lv G ls) → ls.length = M.2.2.1 → d + 8 ≤ R.frames → 200 + 60 * d ≤ R.locals → cells + c' ≤ R.cells → slots + s' ≤ R.slots →
    (∀ (pc1 : Nat) (i : Instr) (len : Nat) (k : aK) (st1 : List Value) (h1 : aH) (c1 s1 : Nat) (H1 : Heap) (locs1 : List Loc) (L1 : Array Slot), a_ok Z M pc1 i len k → a_ret i k M.2.2.2.1 st1 = some v → a_hr G HA h1 H1 → va_S (a_A G) s.heap H1 locs1 → L1.size = M.2.2.1 → h' = (a_end v h1).1 → c' = c1 + (a_end v h1).2.1 → s' = s1 + (a_end v h1).2.2 →
      W p l e R s m args below meth c H1 locs1 (cells + c1) (slots + s1) Q (F0 m pc1 L1 (st1.map (a_rn G)))) →
    W p l e R s m args below meth c H locs cells slots Q (F0 m pc L (st.map (a_rn G))) := by
  intro f
  induction f with
  | zero => intro d M pc ls st h v h' c' s' _ _ he; cases he
  | succ f ih =>
    intro d M pc ls st h v h' c' s' hMP hx8 he p e R s m args below meth c H locs cells slots Q L hC hr hS hl hll hfr hlo hcc hss fin
    unfold aexec at he
    split at he
    · cases he
    · rename_i i len k hlook
      have hok : a_ok Z M pc i len k := hMP pc i len k hlook
      split at he
      · rename_i pc2 ls2 st2 h2 c2 s2 hop
        obtain ⟨c3, s3, he2, rfl, rfl⟩ := a_more_s he
        refine a_sim_op hC hok hop hr hS hl hll (by omega) (by omega) (by omega) (by omega) (fun H' locs' L' g1 g2 g3 g4 => ?_)
        refine ih d M pc2 ls2 st2 h2 v h' c3 s3 hMP hx8 he2 hC g1 g2 g3 g4 hfr hlo (by omega) (by omega) (fun pc1 i1 len1 k1 st1 h1 c1 s1 H1 locs1 L1 q1 q2 q3 q4 q5 q6 q7 q8 => ?_)
        have := fin pc1 i1 len1 k1 st1 h1 (c2 + c1) (s2 + s1) H1 locs1 L1 q1 q2 q3 q4 q5 q6 (by omega) (by omega)
        rw [Nat.add_assoc, Nat.add_assoc]
        exact this
      · split at he
        · rename_i v1 hret
          split at he
          · cases he
            exact fin pc i len k st h 0 0 H locs L hok hret hr hS hl.1 rfl rfl rfl
          · rename_i hno
            cases he
            have hE := a_end_no hno h
            exact fin pc i len k st h 0 0 H locs L hok hret hr hS hl.1 (by rw [hE]) (by rw [hE]; rfl) (by rw [hE]; rfl)
        · split at he
          · cases he
          · rename_i M' as rest hinv
            split at he
            · cases he
            · rename_i d'
              split at he
              · cases he
              · rename_i v1 h1 c1 s1 hcall
                split at he
                · rename_i n
                  split at he
                  · rename_i hk18
                    cases he
                    obtain ⟨q, hqZ, rfl, hq⟩ := a_inv_Z hinv
                    exact a_sim_catch hlt hZ hC hMP hx8 hlook hk18 hr hS hl hfr hlo hcc hss hinv hq (fun p2 e2 s2 m2 args2 below2 meth2 cd2 s₁ B hml hnt hv => by
                      obtain ⟨hL', hnm, hpl, -⟩ := a_mb_s (hZ q hqZ).1
                      obtain ⟨rfl, hK2, hr2⟩ := hv
                      have hts := atoms_spec (ws := a_wsM q.1) B.pre
                      have hsz : (lg_sl (as.map (a_rn G))).length ≤ q.1.2.2.1 := by rw [a_sl_len]; exact (a_inv_in hinv).2
                      have hl2 := lv_entry (as.map (a_rn G)) hsz
                      rw [lg_entry_eq]
                      generalize (lg_sl (as.map (a_rn G)) ++ List.replicate (q.1.2.2.1 - (lg_sl (as.map (a_rn G))).length) Slot.unset).toArray = L2 at hl2 ⊢
                      have hH2 : a_H0 G HA s2 := ⟨by rw [hr2.1]; exact Nat.le_add_right _ _, hr2.2.2.1⟩
                      have hC2 : a_Cx G HA X q.1 p2 s2 m2 (as.map (a_rn G)).toArray meth2 cd2 := ⟨⟨B.exec, B.bytes, B.returns, hml, findClass_of_methodNamed B.named, B.notSynchronized, (name_of_methodNamed B.named B.method).1, fun w hw => hts w (List.mem_cons_of_mem _ hw), fun hh hw => vx_table (x := q.1.1) B (hts _ (List.mem_cons_of_mem _ hw))⟩, hK2, hH2⟩
                      refine ih d' q.1 0 (a_ent as q.1.2.2.1) [] h _ h' c' s' (a_okM_of (hZ q hqZ).2) (a_x18_of hZ h18 hqZ) hcall (R := (headSpec (a_wsM q.1) (a_rm d' c' s')).room) (locs := []) (cells := 0) (slots := 0) hC2 hr2 va_S.rf (a_lv_has hl2 (a_ent_lv G as q.1.2.2.1)) (a_ent_len (a_inv_in hinv).2) (Nat.le_refl _) (Nat.le_refl _) (by show 0 + c' ≤ c'; omega) (by show 0 + s' ≤ s'; omega) ?_
                      intro pc1 i1 len1 k1 st1 h2 c2 s2' H1 locs1 L1 q1 q2 q3 q4 q5 q6 q7 q8
                      subst q6
                      have q7' : c' = c2 + 1 := q7
                      have q8' : s' = s2' + 6 := q8
                      subst q7'; subst q8'
                      rw [Nat.zero_add, Nat.zero_add]
                      exact a_sim_thr hlt hC2 hnt q1 q2 q3 q4 q5 (by show 8 ≤ d' + 8; omega) (by show 200 ≤ 200 + 60 * d'; omega) (Nat.le_refl _) (Nat.le_refl _) (Nat.le_refl _) (Nat.le_refl _)) fin
                  · cases he
                · rename_i hno
                  obtain ⟨c3, s3, he2, rfl, rfl⟩ := a_more_s he
                  obtain ⟨q, hqZ, rfl, hq⟩ := a_inv_Z hinv
                  have hMP' : a_okM Z q.1 := a_okM_of (hZ q hqZ).2
                  by_cases hk20 : k.1 = 20
                  · have hM : Met l q.1.1 (a_wsW q.1) (a_rm d' c1 s1) (a_Pc G HA X as h) (a_Qc G HA v1 h1) c1 s1 (a_A G) := by
                      obtain ⟨hL', hnm, hpl, -⟩ := a_mb_s (hZ q hqZ).1
                      refine a_MetWT (hh := a_hh q.1.1) (cc := q.1.2.1) (maxL := q.1.2.2.1) (ret := q.1.2.2.2.1) hpl rfl ?_
                      intro p2 e2 s2 m2 args2 below2 meth2 cd2 s₁ B hml hv
                      obtain ⟨rfl, hK2, hr2⟩ := hv
                      have hts := atoms_spec (ws := a_wsW q.1) B.pre
                      have hsz : (lg_sl (as.map (a_rn G))).length ≤ q.1.2.2.1 := by rw [a_sl_len]; exact (a_inv_in hinv).2
                      have hl2 := lv_entry (as.map (a_rn G)) hsz
                      rw [lg_entry_eq]
                      generalize (lg_sl (as.map (a_rn G)) ++ List.replicate (q.1.2.2.1 - (lg_sl (as.map (a_rn G))).length) Slot.unset).toArray = L2 at hl2 ⊢
                      have hH2 : a_H0 G HA s2 := ⟨by rw [hr2.1]; exact Nat.le_add_right _ _, hr2.2.2.1⟩
                      refine ih d' q.1 0 (a_ent as q.1.2.2.1) [] h v1 h1 c1 s1 hMP' (a_x18_of hZ h18 hqZ) hcall (R := (headSpec (a_wsW q.1) (a_rm d' c1 s1)).room) (locs := []) (cells := 0) (slots := 0) ⟨⟨B.exec, B.bytes, B.returns, hml, findClass_of_methodNamed B.named, B.notSynchronized, (name_of_methodNamed B.named B.method).1, fun w hw => hts w (List.mem_cons_of_mem _ hw), fun hh hw => vx_table (x := q.1.1) B (hts _ (List.mem_cons_of_mem _ hw))⟩, hK2, hH2⟩ hr2 va_S.rf (a_lv_has hl2 (a_ent_lv G as q.1.2.2.1)) (a_ent_len ((a_inv_in hinv).2)) (Nat.le_refl _) (Nat.le_refl _) (by show 0 + c1 ≤ c1; omega) (by show 0 + s1 ≤ s1; omega) ?_
                      intro pc1 i1 len1 k1 st1 h2 c2 s2' H1 locs1 L1 q1 q2 q3 q4 q5 q6 q7 q8
                      have hE := a_end_no hno h2
                      rw [hE] at q6 q7 q8
                      subst q6
                      have q7' : c1 = c2 := q7
                      have q8' : s1 = s2' := q8
                      subst q7'; subst q8'
                      rw [Nat.zero_add, Nat.zero_add]
                      exact a_sim_fin B.exec B.bytes B.returns B.notSynchronized q1 q2 hno q3 q4
                    obtain ⟨hl3, hrun⟩ := a_sim_run20 hZ (cells := cells) (slots := slots) (below := below) (locs := locs) (R := R) (e := e) hC.1 hC.2.1 hok hr hl.1 hinv hq hk20 hM (by omega) (by omega) (by omega) (by omega)
                    refine a_sim_back hrun hC.2.2 hS (fun H' locs' g1 g2 => ?_)
                    have h3 : len = 3 := by rw [← hok.2.1]; exact hl3
                    subst h3
                    rw [a_toList]
                    refine ih (d' + 1) M (pc + 3) ls (v1.toList ++ rest) h1 v h' c3 s3 hMP hx8 he2 hC g1 g2 hl hll hfr hlo (by omega) (by omega) (fun pc1 i1 len1 k1 st1 h2 c2 s2 H1 locs1 L1 q1 q2 q3 q4 q5 q6 q7 q8 => ?_)
                    have := fin pc1 i1 len1 k1 st1 h2 (c1 + c2) (s1 + s2) H1 locs1 L1 q1 q2 q3 q4 q5 q6 (by omega) (by omega)
                    rw [Nat.add_assoc, Nat.add_assoc]
                    exact this
                  · have hcode : Cond.code q.1.1 q.1.2.1 q.1.2.2.1 q.1.2.2.2.1 ∈ a_good := a_inv_code hZ hinv hok.2.2 hq hk20
                    have hM : Met l q.1.1 (a_wsM q.1) (a_rm d' c1 s1) (a_Pc G HA X as h) (a_Qc G HA v1 h1) c1 s1 (a_A G) := by
                      obtain ⟨hL', hnm, hpl, -⟩ := a_mb_s (hZ q hqZ).1
                      refine a_MetofW (cc := q.1.2.1) (maxL := q.1.2.2.1) (ret := q.1.2.2.2.1) hpl rfl ?_
                      intro p2 e2 s2 m2 args2 below2 meth2 cd2 s₁ B hml hv
                      obtain ⟨rfl, hK2, hr2⟩ := hv
                      have hts := atoms_spec (ws := a_wsM q.1) B.pre
                      have hsz : (lg_sl (as.map (a_rn G))).length ≤ q.1.2.2.1 := by rw [a_sl_len]; exact (a_inv_in hinv).2
                      have hl2 := lv_entry (as.map (a_rn G)) hsz
                      rw [lg_entry_eq]
                      generalize (lg_sl (as.map (a_rn G)) ++ List.replicate (q.1.2.2.1 - (lg_sl (as.map (a_rn G))).length) Slot.unset).toArray = L2 at hl2 ⊢
                      have hH2 : a_H0 G HA s2 := ⟨by rw [hr2.1]; exact Nat.le_add_right _ _, hr2.2.2.1⟩
                      refine ih d' q.1 0 (a_ent as q.1.2.2.1) [] h v1 h1 c1 s1 hMP' (a_x18_of hZ h18 hqZ) hcall (R := (headSpec (a_wsM q.1) (a_rm d' c1 s1)).room) (locs := []) (cells := 0) (slots := 0) ⟨⟨B.exec, B.bytes, B.returns, hml, findClass_of_methodNamed B.named, B.notSynchronized, (name_of_methodNamed B.named B.method).1, fun w hw => hts w (List.mem_cons_of_mem _ hw), fun hh hw => vx_table (x := q.1.1) B (hts _ (List.mem_cons_of_mem _ hw))⟩, hK2, hH2⟩ hr2 va_S.rf (a_lv_has hl2 (a_ent_lv G as q.1.2.2.1)) (a_ent_len ((a_inv_in hinv).2)) (Nat.le_refl _) (Nat.le_refl _) (by show 0 + c1 ≤ c1; omega) (by show 0 + s1 ≤ s1; omega) ?_
                      intro pc1 i1 len1 k1 st1 h2 c2 s2' H1 locs1 L1 q1 q2 q3 q4 q5 q6 q7 q8
                      have hE := a_end_no hno h2
                      rw [hE] at q6 q7 q8
                      subst q6
                      have q7' : c1 = c2 := q7
                      have q8' : s1 = s2' := q8
                      subst q7'; subst q8'
                      rw [Nat.zero_add, Nat.zero_add]
                      exact a_sim_fin B.exec B.bytes B.returns B.notSynchronized q1 q2 hno q3 q4
                    obtain ⟨hl3, hrun⟩ := a_sim_run hZ (cells := cells) (slots := slots) (below := below) (locs := locs) (R := R) (e := e) hC.1 hC.2.1 hok hr hl.1 hinv hk20 hM (by omega) (by omega) (by omega) (by omega)
                    refine a_sim_back hrun hC.2.2 hS (fun H' locs' g1 g2 => ?_)
                    have h3 : len = 3 := by rw [← hok.2.1]; exact hl3
                    subst h3
                    rw [a_toList]
                    refine ih (d' + 1) M (pc + 3) ls (v1.toList ++ rest) h1 v h' c3 s3 hMP hx8 he2 hC g1 g2 hl hll hfr hlo (by omega) (by omega) (fun pc1 i1 len1 k1 st1 h2 c2 s2 H1 locs1 L1 q1 q2 q3 q4 q5 q6 q7 q8 => ?_)
                    have := fin pc1 i1 len1 k1 st1 h2 (c1 + c2) (s1 + s2) H1 locs1 L1 q1 q2 q3 q4 q5 q6 (by omega) (by omega)
                    rw [Nat.add_assoc, Nat.add_assoc]
                    exact this
end
