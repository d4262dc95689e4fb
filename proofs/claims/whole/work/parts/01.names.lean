-- ===== PART A: goes FIRST, ahead of the names: the tables' words, and 'selects' of the private methods out of them =====
/-- a private method of a class that the tables say can be made, by its rows of tables_1 -/
def lw_okq (q : MethodName × Nat) : Prop := (q.1.cls ≠ "java/lang/invoke/MethodHandle" ∧ q.1.cls ≠ "java/lang/invoke/VarHandle") ∧ Cond.instantiable q.1.cls q.2 ∈ tables_1 ∧ Cond.privateMethod q.1 ∈ tables_1 ∧ Cond.instanceMethod q.1 ∈ tables_1
theorem lw_p0 : lw_okq (⟨"NinthDay", "refuse", "(I)I"⟩, 12) := ⟨⟨by decide +kernel, by decide +kernel⟩, List.mem_of_getElem? (i := 16) (by decide +kernel), List.mem_of_getElem? (i := 241) (by decide +kernel), List.mem_of_getElem? (i := 242) (by decide +kernel)⟩
theorem lw_p1 : lw_okq (⟨"NinthDay", "refusedPlace", "(II)I"⟩, 12) := ⟨⟨by decide +kernel, by decide +kernel⟩, List.mem_of_getElem? (i := 16) (by decide +kernel), List.mem_of_getElem? (i := 259) (by decide +kernel), List.mem_of_getElem? (i := 260) (by decide +kernel)⟩
theorem lw_p2 : lw_okq (⟨"NinthDay", "tell", "(I)I"⟩, 12) := ⟨⟨by decide +kernel, by decide +kernel⟩, List.mem_of_getElem? (i := 16) (by decide +kernel), List.mem_of_getElem? (i := 279) (by decide +kernel), List.mem_of_getElem? (i := 280) (by decide +kernel)⟩
theorem lw_p3 : lw_okq (⟨"NinthDay$Reader", "readHead", "(LNinthDay$Year;)V"⟩, 5) := ⟨⟨by decide +kernel, by decide +kernel⟩, List.mem_of_getElem? (i := 113) (by decide +kernel), List.mem_of_getElem? (i := 361) (by decide +kernel), List.mem_of_getElem? (i := 362) (by decide +kernel)⟩
theorem lw_p4 : lw_okq (⟨"NinthDay$Reader", "passBlanks", "()V"⟩, 5) := ⟨⟨by decide +kernel, by decide +kernel⟩, List.mem_of_getElem? (i := 113) (by decide +kernel), List.mem_of_getElem? (i := 365) (by decide +kernel), List.mem_of_getElem? (i := 366) (by decide +kernel)⟩
theorem lw_p5 : lw_okq (⟨"NinthDay$Reader", "readFigure", "()I"⟩, 5) := ⟨⟨by decide +kernel, by decide +kernel⟩, List.mem_of_getElem? (i := 113) (by decide +kernel), List.mem_of_getElem? (i := 370) (by decide +kernel), List.mem_of_getElem? (i := 371) (by decide +kernel)⟩
theorem lw_p6 : lw_okq (⟨"NinthDay$Reader", "readDeed", "(LNinthDay$Year;)V"⟩, 5) := ⟨⟨by decide +kernel, by decide +kernel⟩, List.mem_of_getElem? (i := 113) (by decide +kernel), List.mem_of_getElem? (i := 374) (by decide +kernel), List.mem_of_getElem? (i := 375) (by decide +kernel)⟩
theorem lw_p7 : lw_okq (⟨"NinthDay", "isDeed", "(I)Z"⟩, 12) := ⟨⟨by decide +kernel, by decide +kernel⟩, List.mem_of_getElem? (i := 16) (by decide +kernel), List.mem_of_getElem? (i := 404) (by decide +kernel), List.mem_of_getElem? (i := 405) (by decide +kernel)⟩
theorem lw_p8 : lw_okq (⟨"NinthDay", "isSet", "(I)Z"⟩, 12) := ⟨⟨by decide +kernel, by decide +kernel⟩, List.mem_of_getElem? (i := 16) (by decide +kernel), List.mem_of_getElem? (i := 446) (by decide +kernel), List.mem_of_getElem? (i := 447) (by decide +kernel)⟩
theorem lw_p9 : lw_okq (⟨"NinthDay", "act", "(I)V"⟩, 12) := ⟨⟨by decide +kernel, by decide +kernel⟩, List.mem_of_getElem? (i := 16) (by decide +kernel), List.mem_of_getElem? (i := 467) (by decide +kernel), List.mem_of_getElem? (i := 468) (by decide +kernel)⟩
theorem lw_p10 : lw_okq (⟨"NinthDay", "replay", "()V"⟩, 12) := ⟨⟨by decide +kernel, by decide +kernel⟩, List.mem_of_getElem? (i := 16) (by decide +kernel), List.mem_of_getElem? (i := 523) (by decide +kernel), List.mem_of_getElem? (i := 524) (by decide +kernel)⟩
theorem lw_p11 : lw_okq (⟨"NinthDay$Year", "foremost", "(II[I)I"⟩, 12) := ⟨⟨by decide +kernel, by decide +kernel⟩, List.mem_of_getElem? (i := 56) (by decide +kernel), List.mem_of_getElem? (i := 575) (by decide +kernel), List.mem_of_getElem? (i := 576) (by decide +kernel)⟩
theorem lw_p12 : lw_okq (⟨"NinthDay$Year", "rank", "(II[I)I"⟩, 12) := ⟨⟨by decide +kernel, by decide +kernel⟩, List.mem_of_getElem? (i := 56) (by decide +kernel), List.mem_of_getElem? (i := 579) (by decide +kernel), List.mem_of_getElem? (i := 580) (by decide +kernel)⟩
theorem lw_p13 : lw_okq (⟨"NinthDay$Planner", "note", "(II)V"⟩, 5) := ⟨⟨by decide +kernel, by decide +kernel⟩, List.mem_of_getElem? (i := 157) (by decide +kernel), List.mem_of_getElem? (i := 594) (by decide +kernel), List.mem_of_getElem? (i := 595) (by decide +kernel)⟩
theorem lw_p14 : lw_okq (⟨"NinthDay$Planner", "behind", "(LNinthDay$Year;III)LNinthDay$Year;"⟩, 5) := ⟨⟨by decide +kernel, by decide +kernel⟩, List.mem_of_getElem? (i := 157) (by decide +kernel), List.mem_of_getElem? (i := 601) (by decide +kernel), List.mem_of_getElem? (i := 602) (by decide +kernel)⟩
theorem lw_p15 : lw_okq (⟨"NinthDay", "keptBy", "(II)I"⟩, 12) := ⟨⟨by decide +kernel, by decide +kernel⟩, List.mem_of_getElem? (i := 16) (by decide +kernel), List.mem_of_getElem? (i := 624) (by decide +kernel), List.mem_of_getElem? (i := 625) (by decide +kernel)⟩
def lw_privs_1 : List (MethodName × Nat) := [(⟨"NinthDay", "refuse", "(I)I"⟩, 12), (⟨"NinthDay", "refusedPlace", "(II)I"⟩, 12), (⟨"NinthDay", "tell", "(I)I"⟩, 12), (⟨"NinthDay$Reader", "readHead", "(LNinthDay$Year;)V"⟩, 5), (⟨"NinthDay$Reader", "passBlanks", "()V"⟩, 5), (⟨"NinthDay$Reader", "readFigure", "()I"⟩, 5), (⟨"NinthDay$Reader", "readDeed", "(LNinthDay$Year;)V"⟩, 5), (⟨"NinthDay", "isDeed", "(I)Z"⟩, 12), (⟨"NinthDay", "isSet", "(I)Z"⟩, 12), (⟨"NinthDay", "act", "(I)V"⟩, 12), (⟨"NinthDay", "replay", "()V"⟩, 12), (⟨"NinthDay$Year", "foremost", "(II[I)I"⟩, 12), (⟨"NinthDay$Year", "rank", "(II[I)I"⟩, 12), (⟨"NinthDay$Planner", "note", "(II)V"⟩, 5), (⟨"NinthDay$Planner", "behind", "(LNinthDay$Year;III)LNinthDay$Year;"⟩, 5), (⟨"NinthDay", "keptBy", "(II)I"⟩, 12)]
theorem lw_r1 : ∀ q ∈ lw_privs_1, lw_okq q := List.forall_mem_cons.mpr ⟨lw_p0, List.forall_mem_cons.mpr ⟨lw_p1, List.forall_mem_cons.mpr ⟨lw_p2, List.forall_mem_cons.mpr ⟨lw_p3, List.forall_mem_cons.mpr ⟨lw_p4, List.forall_mem_cons.mpr ⟨lw_p5, List.forall_mem_cons.mpr ⟨lw_p6, List.forall_mem_cons.mpr ⟨lw_p7, List.forall_mem_cons.mpr ⟨lw_p8, List.forall_mem_cons.mpr ⟨lw_p9, List.forall_mem_cons.mpr ⟨lw_p10, List.forall_mem_cons.mpr ⟨lw_p11, List.forall_mem_cons.mpr ⟨lw_p12, List.forall_mem_cons.mpr ⟨lw_p13, List.forall_mem_cons.mpr ⟨lw_p14, List.forall_mem_cons.mpr ⟨lw_p15, fun _ h => absurd h List.not_mem_nil⟩⟩⟩⟩⟩⟩⟩⟩⟩⟩⟩⟩⟩⟩⟩⟩
theorem lw_p16 : lw_okq (⟨"NinthDay", "isFit", "([III)Z"⟩, 12) := ⟨⟨by decide +kernel, by decide +kernel⟩, List.mem_of_getElem? (i := 16) (by decide +kernel), List.mem_of_getElem? (i := 645) (by decide +kernel), List.mem_of_getElem? (i := 646) (by decide +kernel)⟩
theorem lw_p17 : lw_okq (⟨"NinthDay", "fitting", "(III)I"⟩, 12) := ⟨⟨by decide +kernel, by decide +kernel⟩, List.mem_of_getElem? (i := 16) (by decide +kernel), List.mem_of_getElem? (i := 649) (by decide +kernel), List.mem_of_getElem? (i := 650) (by decide +kernel)⟩
theorem lw_p18 : lw_okq (⟨"NinthDay", "refusedSum", "(I)I"⟩, 12) := ⟨⟨by decide +kernel, by decide +kernel⟩, List.mem_of_getElem? (i := 16) (by decide +kernel), List.mem_of_getElem? (i := 661) (by decide +kernel), List.mem_of_getElem? (i := 662) (by decide +kernel)⟩
theorem lw_p19 : lw_okq (⟨"NinthDay", "refusedPairs", "(II)I"⟩, 12) := ⟨⟨by decide +kernel, by decide +kernel⟩, List.mem_of_getElem? (i := 16) (by decide +kernel), List.mem_of_getElem? (i := 673) (by decide +kernel), List.mem_of_getElem? (i := 674) (by decide +kernel)⟩
theorem lw_p20 : lw_okq (⟨"NinthDay", "agrees", "(IIIII)Z"⟩, 12) := ⟨⟨by decide +kernel, by decide +kernel⟩, List.mem_of_getElem? (i := 16) (by decide +kernel), List.mem_of_getElem? (i := 677) (by decide +kernel), List.mem_of_getElem? (i := 678) (by decide +kernel)⟩
theorem lw_p21 : lw_okq (⟨"NinthDay", "kindsThatFit", "(II)I"⟩, 12) := ⟨⟨by decide +kernel, by decide +kernel⟩, List.mem_of_getElem? (i := 16) (by decide +kernel), List.mem_of_getElem? (i := 685) (by decide +kernel), List.mem_of_getElem? (i := 686) (by decide +kernel)⟩
theorem lw_p22 : lw_okq (⟨"NinthDay", "greatestPart", "(III)I"⟩, 12) := ⟨⟨by decide +kernel, by decide +kernel⟩, List.mem_of_getElem? (i := 16) (by decide +kernel), List.mem_of_getElem? (i := 693) (by decide +kernel), List.mem_of_getElem? (i := 694) (by decide +kernel)⟩
theorem lw_p23 : lw_okq (⟨"NinthDay", "partLike", "(IIII)I"⟩, 12) := ⟨⟨by decide +kernel, by decide +kernel⟩, List.mem_of_getElem? (i := 16) (by decide +kernel), List.mem_of_getElem? (i := 697) (by decide +kernel), List.mem_of_getElem? (i := 698) (by decide +kernel)⟩
theorem lw_p24 : lw_okq (⟨"NinthDayModel", "meets", "(I)I"⟩, 37) := ⟨⟨by decide +kernel, by decide +kernel⟩, List.mem_of_getElem? (i := 805) (by decide +kernel), List.mem_of_getElem? (i := 954) (by decide +kernel), List.mem_of_getElem? (i := 955) (by decide +kernel)⟩
theorem lw_p25 : lw_okq (⟨"NinthDayModel", "rowAt", "(II)I"⟩, 37) := ⟨⟨by decide +kernel, by decide +kernel⟩, List.mem_of_getElem? (i := 805) (by decide +kernel), List.mem_of_getElem? (i := 962) (by decide +kernel), List.mem_of_getElem? (i := 963) (by decide +kernel)⟩
theorem lw_p26 : lw_okq (⟨"NinthDayModel", "tells", "(II)I"⟩, 37) := ⟨⟨by decide +kernel, by decide +kernel⟩, List.mem_of_getElem? (i := 805) (by decide +kernel), List.mem_of_getElem? (i := 966) (by decide +kernel), List.mem_of_getElem? (i := 967) (by decide +kernel)⟩
theorem lw_p27 : lw_okq (⟨"NinthDayModel", "faultOf", "(I)I"⟩, 37) := ⟨⟨by decide +kernel, by decide +kernel⟩, List.mem_of_getElem? (i := 805) (by decide +kernel), List.mem_of_getElem? (i := 1001) (by decide +kernel), List.mem_of_getElem? (i := 1002) (by decide +kernel)⟩
theorem lw_p28 : lw_okq (⟨"NinthDayModel", "byteAt", "(II)I"⟩, 37) := ⟨⟨by decide +kernel, by decide +kernel⟩, List.mem_of_getElem? (i := 805) (by decide +kernel), List.mem_of_getElem? (i := 1005) (by decide +kernel), List.mem_of_getElem? (i := 1006) (by decide +kernel)⟩
theorem lw_p29 : lw_okq (⟨"NinthDayModel", "readsDeed", "(I)Z"⟩, 37) := ⟨⟨by decide +kernel, by decide +kernel⟩, List.mem_of_getElem? (i := 805) (by decide +kernel), List.mem_of_getElem? (i := 1009) (by decide +kernel), List.mem_of_getElem? (i := 1010) (by decide +kernel)⟩
theorem lw_p30 : lw_okq (⟨"NinthDayModel", "figure", "(I)I"⟩, 37) := ⟨⟨by decide +kernel, by decide +kernel⟩, List.mem_of_getElem? (i := 805) (by decide +kernel), List.mem_of_getElem? (i := 1016) (by decide +kernel), List.mem_of_getElem? (i := 1017) (by decide +kernel)⟩
theorem lw_p31 : lw_okq (⟨"NinthDayModel", "readsHead", "(I)Z"⟩, 37) := ⟨⟨by decide +kernel, by decide +kernel⟩, List.mem_of_getElem? (i := 805) (by decide +kernel), List.mem_of_getElem? (i := 1020) (by decide +kernel), List.mem_of_getElem? (i := 1021) (by decide +kernel)⟩
def lw_privs_2 : List (MethodName × Nat) := [(⟨"NinthDay", "isFit", "([III)Z"⟩, 12), (⟨"NinthDay", "fitting", "(III)I"⟩, 12), (⟨"NinthDay", "refusedSum", "(I)I"⟩, 12), (⟨"NinthDay", "refusedPairs", "(II)I"⟩, 12), (⟨"NinthDay", "agrees", "(IIIII)Z"⟩, 12), (⟨"NinthDay", "kindsThatFit", "(II)I"⟩, 12), (⟨"NinthDay", "greatestPart", "(III)I"⟩, 12), (⟨"NinthDay", "partLike", "(IIII)I"⟩, 12), (⟨"NinthDayModel", "meets", "(I)I"⟩, 37), (⟨"NinthDayModel", "rowAt", "(II)I"⟩, 37), (⟨"NinthDayModel", "tells", "(II)I"⟩, 37), (⟨"NinthDayModel", "faultOf", "(I)I"⟩, 37), (⟨"NinthDayModel", "byteAt", "(II)I"⟩, 37), (⟨"NinthDayModel", "readsDeed", "(I)Z"⟩, 37), (⟨"NinthDayModel", "figure", "(I)I"⟩, 37), (⟨"NinthDayModel", "readsHead", "(I)Z"⟩, 37)]
theorem lw_r2 : ∀ q ∈ lw_privs_2, lw_okq q := List.forall_mem_cons.mpr ⟨lw_p16, List.forall_mem_cons.mpr ⟨lw_p17, List.forall_mem_cons.mpr ⟨lw_p18, List.forall_mem_cons.mpr ⟨lw_p19, List.forall_mem_cons.mpr ⟨lw_p20, List.forall_mem_cons.mpr ⟨lw_p21, List.forall_mem_cons.mpr ⟨lw_p22, List.forall_mem_cons.mpr ⟨lw_p23, List.forall_mem_cons.mpr ⟨lw_p24, List.forall_mem_cons.mpr ⟨lw_p25, List.forall_mem_cons.mpr ⟨lw_p26, List.forall_mem_cons.mpr ⟨lw_p27, List.forall_mem_cons.mpr ⟨lw_p28, List.forall_mem_cons.mpr ⟨lw_p29, List.forall_mem_cons.mpr ⟨lw_p30, List.forall_mem_cons.mpr ⟨lw_p31, fun _ h => absurd h List.not_mem_nil⟩⟩⟩⟩⟩⟩⟩⟩⟩⟩⟩⟩⟩⟩⟩⟩
theorem lw_p32 : lw_okq (⟨"NinthDayModel", "isDeed", "(I)Z"⟩, 37) := ⟨⟨by decide +kernel, by decide +kernel⟩, List.mem_of_getElem? (i := 805) (by decide +kernel), List.mem_of_getElem? (i := 1032) (by decide +kernel), List.mem_of_getElem? (i := 1033) (by decide +kernel)⟩
theorem lw_p33 : lw_okq (⟨"NinthDayModel", "deedTells", "(II)I"⟩, 37) := ⟨⟨by decide +kernel, by decide +kernel⟩, List.mem_of_getElem? (i := 805) (by decide +kernel), List.mem_of_getElem? (i := 1036) (by decide +kernel), List.mem_of_getElem? (i := 1037) (by decide +kernel)⟩
theorem lw_p34 : lw_okq (⟨"NinthDayModel", "costOn", "([II)I"⟩, 37) := ⟨⟨by decide +kernel, by decide +kernel⟩, List.mem_of_getElem? (i := 805) (by decide +kernel), List.mem_of_getElem? (i := 1040) (by decide +kernel), List.mem_of_getElem? (i := 1041) (by decide +kernel)⟩
theorem lw_p35 : lw_okq (⟨"NinthDayModel", "asKind", "(II)I"⟩, 37) := ⟨⟨by decide +kernel, by decide +kernel⟩, List.mem_of_getElem? (i := 805) (by decide +kernel), List.mem_of_getElem? (i := 1051) (by decide +kernel), List.mem_of_getElem? (i := 1052) (by decide +kernel)⟩
theorem lw_p36 : lw_okq (⟨"NinthDayModel", "isSet", "(I)Z"⟩, 37) := ⟨⟨by decide +kernel, by decide +kernel⟩, List.mem_of_getElem? (i := 805) (by decide +kernel), List.mem_of_getElem? (i := 1059) (by decide +kernel), List.mem_of_getElem? (i := 1060) (by decide +kernel)⟩
theorem lw_p37 : lw_okq (⟨"NinthDayModel", "costsOf", "([II)I"⟩, 37) := ⟨⟨by decide +kernel, by decide +kernel⟩, List.mem_of_getElem? (i := 805) (by decide +kernel), List.mem_of_getElem? (i := 1063) (by decide +kernel), List.mem_of_getElem? (i := 1064) (by decide +kernel)⟩
theorem lw_p38 : lw_okq (⟨"NinthDayModel", "remember", "()V"⟩, 37) := ⟨⟨by decide +kernel, by decide +kernel⟩, List.mem_of_getElem? (i := 805) (by decide +kernel), List.mem_of_getElem? (i := 1073) (by decide +kernel), List.mem_of_getElem? (i := 1074) (by decide +kernel)⟩
theorem lw_p39 : lw_okq (⟨"NinthDayModel", "passes", "([III)V"⟩, 37) := ⟨⟨by decide +kernel, by decide +kernel⟩, List.mem_of_getElem? (i := 805) (by decide +kernel), List.mem_of_getElem? (i := 1077) (by decide +kernel), List.mem_of_getElem? (i := 1078) (by decide +kernel)⟩
theorem lw_p40 : lw_okq (⟨"NinthDayModel", "grown", "([II)I"⟩, 37) := ⟨⟨by decide +kernel, by decide +kernel⟩, List.mem_of_getElem? (i := 805) (by decide +kernel), List.mem_of_getElem? (i := 1081) (by decide +kernel), List.mem_of_getElem? (i := 1082) (by decide +kernel)⟩
theorem lw_p41 : lw_okq (⟨"NinthDayModel", "isSmall", "(I)Z"⟩, 37) := ⟨⟨by decide +kernel, by decide +kernel⟩, List.mem_of_getElem? (i := 805) (by decide +kernel), List.mem_of_getElem? (i := 1085) (by decide +kernel), List.mem_of_getElem? (i := 1086) (by decide +kernel)⟩
theorem lw_p42 : lw_okq (⟨"NinthDayModel", "there", "([I)I"⟩, 37) := ⟨⟨by decide +kernel, by decide +kernel⟩, List.mem_of_getElem? (i := 805) (by decide +kernel), List.mem_of_getElem? (i := 1089) (by decide +kernel), List.mem_of_getElem? (i := 1090) (by decide +kernel)⟩
theorem lw_p43 : lw_okq (⟨"NinthDayModel", "lessened", "([II)I"⟩, 37) := ⟨⟨by decide +kernel, by decide +kernel⟩, List.mem_of_getElem? (i := 805) (by decide +kernel), List.mem_of_getElem? (i := 1093) (by decide +kernel), List.mem_of_getElem? (i := 1094) (by decide +kernel)⟩
theorem lw_p44 : lw_okq (⟨"NinthDayModel", "need", "(Z)I"⟩, 37) := ⟨⟨by decide +kernel, by decide +kernel⟩, List.mem_of_getElem? (i := 805) (by decide +kernel), List.mem_of_getElem? (i := 1133) (by decide +kernel), List.mem_of_getElem? (i := 1134) (by decide +kernel)⟩
theorem lw_p45 : lw_okq (⟨"NinthDayModel", "byRule", "([II)I"⟩, 37) := ⟨⟨by decide +kernel, by decide +kernel⟩, List.mem_of_getElem? (i := 805) (by decide +kernel), List.mem_of_getElem? (i := 1137) (by decide +kernel), List.mem_of_getElem? (i := 1138) (by decide +kernel)⟩
theorem lw_p46 : lw_okq (⟨"NinthDayModel", "rankOn", "([III)I"⟩, 37) := ⟨⟨by decide +kernel, by decide +kernel⟩, List.mem_of_getElem? (i := 805) (by decide +kernel), List.mem_of_getElem? (i := 1141) (by decide +kernel), List.mem_of_getElem? (i := 1142) (by decide +kernel)⟩
theorem lw_p47 : lw_okq (⟨"NinthDayModel", "keptBy", "(II)I"⟩, 37) := ⟨⟨by decide +kernel, by decide +kernel⟩, List.mem_of_getElem? (i := 805) (by decide +kernel), List.mem_of_getElem? (i := 1149) (by decide +kernel), List.mem_of_getElem? (i := 1150) (by decide +kernel)⟩
def lw_privs_3 : List (MethodName × Nat) := [(⟨"NinthDayModel", "isDeed", "(I)Z"⟩, 37), (⟨"NinthDayModel", "deedTells", "(II)I"⟩, 37), (⟨"NinthDayModel", "costOn", "([II)I"⟩, 37), (⟨"NinthDayModel", "asKind", "(II)I"⟩, 37), (⟨"NinthDayModel", "isSet", "(I)Z"⟩, 37), (⟨"NinthDayModel", "costsOf", "([II)I"⟩, 37), (⟨"NinthDayModel", "remember", "()V"⟩, 37), (⟨"NinthDayModel", "passes", "([III)V"⟩, 37), (⟨"NinthDayModel", "grown", "([II)I"⟩, 37), (⟨"NinthDayModel", "isSmall", "(I)Z"⟩, 37), (⟨"NinthDayModel", "there", "([I)I"⟩, 37), (⟨"NinthDayModel", "lessened", "([II)I"⟩, 37), (⟨"NinthDayModel", "need", "(Z)I"⟩, 37), (⟨"NinthDayModel", "byRule", "([II)I"⟩, 37), (⟨"NinthDayModel", "rankOn", "([III)I"⟩, 37), (⟨"NinthDayModel", "keptBy", "(II)I"⟩, 37)]
theorem lw_r3 : ∀ q ∈ lw_privs_3, lw_okq q := List.forall_mem_cons.mpr ⟨lw_p32, List.forall_mem_cons.mpr ⟨lw_p33, List.forall_mem_cons.mpr ⟨lw_p34, List.forall_mem_cons.mpr ⟨lw_p35, List.forall_mem_cons.mpr ⟨lw_p36, List.forall_mem_cons.mpr ⟨lw_p37, List.forall_mem_cons.mpr ⟨lw_p38, List.forall_mem_cons.mpr ⟨lw_p39, List.forall_mem_cons.mpr ⟨lw_p40, List.forall_mem_cons.mpr ⟨lw_p41, List.forall_mem_cons.mpr ⟨lw_p42, List.forall_mem_cons.mpr ⟨lw_p43, List.forall_mem_cons.mpr ⟨lw_p44, List.forall_mem_cons.mpr ⟨lw_p45, List.forall_mem_cons.mpr ⟨lw_p46, List.forall_mem_cons.mpr ⟨lw_p47, fun _ h => absurd h List.not_mem_nil⟩⟩⟩⟩⟩⟩⟩⟩⟩⟩⟩⟩⟩⟩⟩⟩
theorem lw_p48 : lw_okq (⟨"NinthDayModel", "copyNow", "()V"⟩, 37) := ⟨⟨by decide +kernel, by decide +kernel⟩, List.mem_of_getElem? (i := 805) (by decide +kernel), List.mem_of_getElem? (i := 1153) (by decide +kernel), List.mem_of_getElem? (i := 1154) (by decide +kernel)⟩
theorem lw_p49 : lw_okq (⟨"NinthDayModel", "isDone", "([I)Z"⟩, 37) := ⟨⟨by decide +kernel, by decide +kernel⟩, List.mem_of_getElem? (i := 805) (by decide +kernel), List.mem_of_getElem? (i := 1161) (by decide +kernel), List.mem_of_getElem? (i := 1162) (by decide +kernel)⟩
theorem lw_p50 : lw_okq (⟨"NinthDayModel", "keptIn", "(II)I"⟩, 37) := ⟨⟨by decide +kernel, by decide +kernel⟩, List.mem_of_getElem? (i := 805) (by decide +kernel), List.mem_of_getElem? (i := 1169) (by decide +kernel), List.mem_of_getElem? (i := 1170) (by decide +kernel)⟩
theorem lw_p51 : lw_okq (⟨"NinthDayModel", "layFits", "(I)V"⟩, 37) := ⟨⟨by decide +kernel, by decide +kernel⟩, List.mem_of_getElem? (i := 805) (by decide +kernel), List.mem_of_getElem? (i := 1185) (by decide +kernel), List.mem_of_getElem? (i := 1186) (by decide +kernel)⟩
theorem lw_p52 : lw_okq (⟨"NinthDayModel", "fraction", "(JJ)I"⟩, 37) := ⟨⟨by decide +kernel, by decide +kernel⟩, List.mem_of_getElem? (i := 805) (by decide +kernel), List.mem_of_getElem? (i := 1189) (by decide +kernel), List.mem_of_getElem? (i := 1190) (by decide +kernel)⟩
theorem lw_p53 : lw_okq (⟨"NinthDayModel", "needPairs", "(II)I"⟩, 37) := ⟨⟨by decide +kernel, by decide +kernel⟩, List.mem_of_getElem? (i := 805) (by decide +kernel), List.mem_of_getElem? (i := 1206) (by decide +kernel), List.mem_of_getElem? (i := 1207) (by decide +kernel)⟩
theorem lw_p54 : lw_okq (⟨"NinthDayModel", "isTold", "(IIIII)Z"⟩, 37) := ⟨⟨by decide +kernel, by decide +kernel⟩, List.mem_of_getElem? (i := 805) (by decide +kernel), List.mem_of_getElem? (i := 1210) (by decide +kernel), List.mem_of_getElem? (i := 1211) (by decide +kernel)⟩
theorem lw_p55 : lw_okq (⟨"NinthDayModel", "kindSet", "(II)I"⟩, 37) := ⟨⟨by decide +kernel, by decide +kernel⟩, List.mem_of_getElem? (i := 805) (by decide +kernel), List.mem_of_getElem? (i := 1218) (by decide +kernel), List.mem_of_getElem? (i := 1219) (by decide +kernel)⟩
theorem lw_p56 : lw_okq (⟨"NinthDayModel", "alike", "(III)I"⟩, 37) := ⟨⟨by decide +kernel, by decide +kernel⟩, List.mem_of_getElem? (i := 805) (by decide +kernel), List.mem_of_getElem? (i := 1226) (by decide +kernel), List.mem_of_getElem? (i := 1227) (by decide +kernel)⟩
theorem lw_p57 : lw_okq (⟨"NinthDayModel", "savedBy", "(I)I"⟩, 37) := ⟨⟨by decide +kernel, by decide +kernel⟩, List.mem_of_getElem? (i := 805) (by decide +kernel), List.mem_of_getElem? (i := 1234) (by decide +kernel), List.mem_of_getElem? (i := 1235) (by decide +kernel)⟩
theorem lw_p58 : lw_okq (⟨"NinthDayModel", "codes", "()I"⟩, 37) := ⟨⟨by decide +kernel, by decide +kernel⟩, List.mem_of_getElem? (i := 805) (by decide +kernel), List.mem_of_getElem? (i := 1242) (by decide +kernel), List.mem_of_getElem? (i := 1243) (by decide +kernel)⟩
theorem lw_p59 : lw_okq (⟨"NinthDayModel", "setOf", "(II)I"⟩, 37) := ⟨⟨by decide +kernel, by decide +kernel⟩, List.mem_of_getElem? (i := 805) (by decide +kernel), List.mem_of_getElem? (i := 1246) (by decide +kernel), List.mem_of_getElem? (i := 1247) (by decide +kernel)⟩
theorem lw_p60 : lw_okq (⟨"NinthDayModel", "turned", "(IZ)I"⟩, 37) := ⟨⟨by decide +kernel, by decide +kernel⟩, List.mem_of_getElem? (i := 805) (by decide +kernel), List.mem_of_getElem? (i := 1250) (by decide +kernel), List.mem_of_getElem? (i := 1251) (by decide +kernel)⟩
theorem lw_p61 : lw_okq (⟨"NinthDayModel", "counted", "(I)I"⟩, 37) := ⟨⟨by decide +kernel, by decide +kernel⟩, List.mem_of_getElem? (i := 805) (by decide +kernel), List.mem_of_getElem? (i := 1276) (by decide +kernel), List.mem_of_getElem? (i := 1277) (by decide +kernel)⟩
theorem lw_p62 : lw_okq (⟨"NinthDayModel", "mix", "(J)V"⟩, 37) := ⟨⟨by decide +kernel, by decide +kernel⟩, List.mem_of_getElem? (i := 805) (by decide +kernel), List.mem_of_getElem? (i := 1285) (by decide +kernel), List.mem_of_getElem? (i := 1286) (by decide +kernel)⟩
theorem lw_p63 : lw_okq (⟨"NinthDayModel", "mixYear", "()V"⟩, 37) := ⟨⟨by decide +kernel, by decide +kernel⟩, List.mem_of_getElem? (i := 805) (by decide +kernel), List.mem_of_getElem? (i := 1290) (by decide +kernel), List.mem_of_getElem? (i := 1291) (by decide +kernel)⟩
def lw_privs_4 : List (MethodName × Nat) := [(⟨"NinthDayModel", "copyNow", "()V"⟩, 37), (⟨"NinthDayModel", "isDone", "([I)Z"⟩, 37), (⟨"NinthDayModel", "keptIn", "(II)I"⟩, 37), (⟨"NinthDayModel", "layFits", "(I)V"⟩, 37), (⟨"NinthDayModel", "fraction", "(JJ)I"⟩, 37), (⟨"NinthDayModel", "needPairs", "(II)I"⟩, 37), (⟨"NinthDayModel", "isTold", "(IIIII)Z"⟩, 37), (⟨"NinthDayModel", "kindSet", "(II)I"⟩, 37), (⟨"NinthDayModel", "alike", "(III)I"⟩, 37), (⟨"NinthDayModel", "savedBy", "(I)I"⟩, 37), (⟨"NinthDayModel", "codes", "()I"⟩, 37), (⟨"NinthDayModel", "setOf", "(II)I"⟩, 37), (⟨"NinthDayModel", "turned", "(IZ)I"⟩, 37), (⟨"NinthDayModel", "counted", "(I)I"⟩, 37), (⟨"NinthDayModel", "mix", "(J)V"⟩, 37), (⟨"NinthDayModel", "mixYear", "()V"⟩, 37)]
theorem lw_r4 : ∀ q ∈ lw_privs_4, lw_okq q := List.forall_mem_cons.mpr ⟨lw_p48, List.forall_mem_cons.mpr ⟨lw_p49, List.forall_mem_cons.mpr ⟨lw_p50, List.forall_mem_cons.mpr ⟨lw_p51, List.forall_mem_cons.mpr ⟨lw_p52, List.forall_mem_cons.mpr ⟨lw_p53, List.forall_mem_cons.mpr ⟨lw_p54, List.forall_mem_cons.mpr ⟨lw_p55, List.forall_mem_cons.mpr ⟨lw_p56, List.forall_mem_cons.mpr ⟨lw_p57, List.forall_mem_cons.mpr ⟨lw_p58, List.forall_mem_cons.mpr ⟨lw_p59, List.forall_mem_cons.mpr ⟨lw_p60, List.forall_mem_cons.mpr ⟨lw_p61, List.forall_mem_cons.mpr ⟨lw_p62, List.forall_mem_cons.mpr ⟨lw_p63, fun _ h => absurd h List.not_mem_nil⟩⟩⟩⟩⟩⟩⟩⟩⟩⟩⟩⟩⟩⟩⟩⟩
def lw_privs : List (MethodName × Nat) := lw_privs_1 ++ (lw_privs_2 ++ (lw_privs_3 ++ (lw_privs_4)))
def lw_tbl : List Cond := k2_sels lw_privs ++ tables_1
theorem lw_privs_ok : ∀ q ∈ lw_privs, lw_okq q := by
  show ∀ q ∈ lw_privs_1 ++ (lw_privs_2 ++ (lw_privs_3 ++ (lw_privs_4))), lw_okq q
  exact List.forall_mem_append.mpr ⟨lw_r1, List.forall_mem_append.mpr ⟨lw_r2, List.forall_mem_append.mpr ⟨lw_r3, lw_r4⟩⟩⟩
/-! ===== BEGIN words of one list among another's, by their places ===== -/
theorem goodIn_r {big : List Cond} (ws : List Cond) (ps : List Nat) (hp : ws = ps.filterMap (fun i => big[i]?)) (h : ws.all goodWord = true) : GoodIn big ws := by
  intro w hw
  have h1 := List.all_eq_true.mp h w hw
  rw [hp] at hw
  obtain ⟨i, -, hi⟩ := List.mem_filterMap.mp hw
  have hm : w ∈ big := by first | exact List.mem_of_getElem? hi | exact List.getElem?_mem hi
  exact ⟨hm, good_of_word h1⟩
theorem goodIn_app {big a b : List Cond} (ha : GoodIn big a) (hb : GoodIn big b) : GoodIn big (a ++ b) := fun w h => (List.mem_append.mp h).elim (ha w) (hb w)
theorem goodIn_ca {big a b : List Cond} {c : Cond} (ha : GoodIn big (c :: a)) (hb : GoodIn big b) : GoodIn big (c :: (a ++ b)) := fun w h => (List.mem_cons.mp h).elim (fun e => ha w (List.mem_cons.mpr (Or.inl e))) (fun h => (List.mem_append.mp h).elim (fun h => ha w (List.mem_cons.mpr (Or.inr h))) (hb w))
theorem goodIn_sub {big ws : List Cond} (hm : ∀ w ∈ ws, w ∈ big) (h : ws.all goodWord = true) : GoodIn big ws := fun w hw => ⟨hm w hw, good_of_word (List.all_eq_true.mp h w hw)⟩
/-! ===== END ===== -/

def RX0 : String := "NinthDay$Acts"
def TX0 : u_T := fun k => match k with
  | 0 => ("NinthDay$Acts", "done", "[I", true)
  | 1 => ("NinthDay$Acts", "stored", "[I", true)
  | 2 => ("NinthDay$Acts", "storedSizes", "[I", true)
  | _ => ("NinthDay$Acts", "size", "I", false)
def tyX0 : Nat → FieldType := fun k => match k with
  | 0 => .array .int
  | 1 => .array .int
  | 2 => .array .int
  | _ => .int
abbrev wsX00 : List Cond := u_ws RX0 TX0 4
theorem nmX0 : ∀ a, a < 4 → ∀ b, b < 4 → a ≠ b → (TX0 a).2.1 ≠ (TX0 b).2.1 := by decide +kernel
theorem tyX0_ok : ∀ k, k < 4 → parseFieldDescriptor (TX0 k).2.2.1 = some (tyX0 k) := by decide +kernel
abbrev cX0_init : ByteArray := prog_2_method_1_code
def yX0_init : MethodName := ⟨RX0, "<init>", "()V"⟩
abbrev cX0_pack : ByteArray := prog_2_method_2_code
def yX0_pack : MethodName := ⟨RX0, "pack", "(III)I"⟩
abbrev cX0_whatOf : ByteArray := prog_2_method_3_code
def yX0_whatOf : MethodName := ⟨RX0, "whatOf", "(I)I"⟩
abbrev cX0_firstOf : ByteArray := prog_2_method_4_code
def yX0_firstOf : MethodName := ⟨RX0, "firstOf", "(I)I"⟩
abbrev cX0_secondOf : ByteArray := prog_2_method_5_code
def yX0_secondOf : MethodName := ⟨RX0, "secondOf", "(I)I"⟩
abbrev cX0_haveRoom : ByteArray := prog_2_method_6_code
def yX0_haveRoom : MethodName := ⟨RX0, "haveRoom", "(I)Z"⟩
abbrev cX0_add : ByteArray := prog_2_method_7_code
def yX0_add : MethodName := ⟨RX0, "add", "(I)V"⟩
abbrev cX0_forget : ByteArray := prog_2_method_8_code
def yX0_forget : MethodName := ⟨RX0, "forget", "()V"⟩
abbrev cX0_storedSize : ByteArray := prog_2_method_9_code
def yX0_storedSize : MethodName := ⟨RX0, "storedSize", "(I)I"⟩
abbrev cX0_howManyStored : ByteArray := prog_2_method_10_code
def yX0_howManyStored : MethodName := ⟨RX0, "howManyStored", "()I"⟩
abbrev cX0_store : ByteArray := prog_2_method_11_code
def yX0_store : MethodName := ⟨RX0, "store", "(I)V"⟩
abbrev cX0_restore : ByteArray := prog_2_method_12_code
def yX0_restore : MethodName := ⟨RX0, "restore", "(I)V"⟩
def RX1 : String := "NinthDay$Kinds"
def TX1 : u_T := fun k => match k with
  | _ => ("", "", "", false)
def tyX1 : Nat → FieldType := fun k => match k with
  | _ => .int
abbrev wsX10 : List Cond := u_ws RX1 TX1 0
theorem nmX1 : ∀ a, a < 0 → ∀ b, b < 0 → a ≠ b → (TX1 a).2.1 ≠ (TX1 b).2.1 := by decide +kernel
theorem tyX1_ok : ∀ k, k < 0 → parseFieldDescriptor (TX1 k).2.2.1 = some (tyX1 k) := by decide +kernel
abbrev cX1_byLetter : ByteArray := prog_3_method_2_code
def yX1_byLetter : MethodName := ⟨RX1, "byLetter", "(I)I"⟩
abbrev cX1_isOf : ByteArray := prog_3_method_3_code
def yX1_isOf : MethodName := ⟨RX1, "isOf", "(II)Z"⟩
abbrev cX1_price : ByteArray := prog_3_method_4_code
def yX1_price : MethodName := ⟨RX1, "price", "(IIIIII)I"⟩
abbrev cX1_grown : ByteArray := prog_3_method_5_code
def yX1_grown : MethodName := ⟨RX1, "grown", "(II)I"⟩
abbrev cX1_shrunk : ByteArray := prog_3_method_6_code
def yX1_shrunk : MethodName := ⟨RX1, "shrunk", "(II)I"⟩
def RX2 : String := "NinthDay$Planner"
def TX2 : u_T := fun k => match k with
  | 0 => ("NinthDay$Planner", "one", "LNinthDay$Year;", true)
  | 1 => ("NinthDay$Planner", "two", "LNinthDay$Year;", true)
  | 2 => ("NinthDay$Planner", "tried", "[I", true)
  | 3 => ("NinthDay$Planner", "chosen", "[I", true)
  | _ => ("NinthDay$Planner", "most", "I", false)
def tyX2 : Nat → FieldType := fun k => match k with
  | 0 => .object "NinthDay$Year"
  | 1 => .object "NinthDay$Year"
  | 2 => .array .int
  | 3 => .array .int
  | _ => .int
abbrev wsX20 : List Cond := u_ws RX2 TX2 5
theorem nmX2 : ∀ a, a < 5 → ∀ b, b < 5 → a ≠ b → (TX2 a).2.1 ≠ (TX2 b).2.1 := by decide +kernel
theorem tyX2_ok : ∀ k, k < 5 → parseFieldDescriptor (TX2 k).2.2.1 = some (tyX2 k) := by decide +kernel
abbrev cX2_init : ByteArray := prog_4_method_1_code
def yX2_init : MethodName := ⟨RX2, "<init>", "()V"⟩
abbrev cX2_best : ByteArray := prog_4_method_2_code
def yX2_best : MethodName := ⟨RX2, "best", "(LNinthDay$Year;I)I"⟩
abbrev cX2_seek : ByteArray := prog_4_method_3_code
def yX2_seek : MethodName := ⟨RX2, "seek", "(LNinthDay$Planner;LNinthDay$Year;III)V"⟩
abbrev cX2_behind : ByteArray := prog_4_method_4_code
def yX2_behind : MethodName := ⟨RX2, "behind", "(LNinthDay$Year;III)LNinthDay$Year;"⟩
abbrev cX2_note : ByteArray := prog_4_method_5_code
def yX2_note : MethodName := ⟨RX2, "note", "(II)V"⟩
def RX3 : String := "NinthDay$Reader"
def TX3 : u_T := fun k => match k with
  | 0 => ("NinthDay$Reader", "texts", "LNinthDay$Texts;", true)
  | 1 => ("NinthDay$Reader", "t", "I", false)
  | 2 => ("NinthDay$Reader", "size", "I", false)
  | 3 => ("NinthDay$Reader", "place", "I", false)
  | _ => ("NinthDay$Reader", "wrong", "I", false)
def tyX3 : Nat → FieldType := fun k => match k with
  | 0 => .object "NinthDay$Texts"
  | 1 => .int
  | 2 => .int
  | 3 => .int
  | _ => .int
abbrev wsX30 : List Cond := u_ws RX3 TX3 5
theorem nmX3 : ∀ a, a < 5 → ∀ b, b < 5 → a ≠ b → (TX3 a).2.1 ≠ (TX3 b).2.1 := by decide +kernel
theorem tyX3_ok : ∀ k, k < 5 → parseFieldDescriptor (TX3 k).2.2.1 = some (tyX3 k) := by decide +kernel
abbrev cX3_init : ByteArray := prog_5_method_1_code
def yX3_init : MethodName := ⟨RX3, "<init>", "(LNinthDay$Texts;)V"⟩
abbrev cX3_readYear : ByteArray := prog_5_method_2_code
def yX3_readYear : MethodName := ⟨RX3, "readYear", "(ILNinthDay$Year;)I"⟩
abbrev cX3_passBlanks : ByteArray := prog_5_method_3_code
def yX3_passBlanks : MethodName := ⟨RX3, "passBlanks", "()V"⟩
abbrev cX3_readHead : ByteArray := prog_5_method_4_code
def yX3_readHead : MethodName := ⟨RX3, "readHead", "(LNinthDay$Year;)V"⟩
abbrev cX3_readDeed : ByteArray := prog_5_method_5_code
def yX3_readDeed : MethodName := ⟨RX3, "readDeed", "(LNinthDay$Year;)V"⟩
abbrev cX3_readFigure : ByteArray := prog_5_method_6_code
def yX3_readFigure : MethodName := ⟨RX3, "readFigure", "()I"⟩
def RX4 : String := "NinthDay$Rows"
def TX4 : u_T := fun k => match k with
  | 0 => ("NinthDay$Rows", "sizes", "[I", true)
  | _ => ("NinthDay$Rows", "cells", "[I", true)
def tyX4 : Nat → FieldType := fun k => match k with
  | 0 => .array .int
  | _ => .array .int
abbrev wsX40 : List Cond := u_ws RX4 TX4 2
theorem nmX4 : ∀ a, a < 2 → ∀ b, b < 2 → a ≠ b → (TX4 a).2.1 ≠ (TX4 b).2.1 := by decide +kernel
theorem tyX4_ok : ∀ k, k < 2 → parseFieldDescriptor (TX4 k).2.2.1 = some (tyX4 k) := by decide +kernel
abbrev cX4_init : ByteArray := prog_6_method_1_code
def yX4_init : MethodName := ⟨RX4, "<init>", "()V"⟩
abbrev cX4_isThere : ByteArray := prog_6_method_2_code
def yX4_isThere : MethodName := ⟨RX4, "isThere", "(I)Z"⟩
abbrev cX4_length : ByteArray := prog_6_method_3_code
def yX4_length : MethodName := ⟨RX4, "length", "(I)I"⟩
abbrev cX4_hasPart : ByteArray := prog_6_method_4_code
def yX4_hasPart : MethodName := ⟨RX4, "hasPart", "(III)Z"⟩
abbrev cX4_make : ByteArray := prog_6_method_5_code
def yX4_make : MethodName := ⟨RX4, "make", "(II)V"⟩
abbrev cX4_remove : ByteArray := prog_6_method_6_code
def yX4_remove : MethodName := ⟨RX4, "remove", "(I)V"⟩
abbrev cX4_read : ByteArray := prog_6_method_7_code
def yX4_read : MethodName := ⟨RX4, "read", "(II)I"⟩
abbrev cX4_write : ByteArray := prog_6_method_8_code
def yX4_write : MethodName := ⟨RX4, "write", "(III)V"⟩
abbrev cX4_move : ByteArray := prog_6_method_9_code
def yX4_move : MethodName := ⟨RX4, "move", "(IIIII)V"⟩
abbrev cX4_howMany : ByteArray := prog_6_method_10_code
def yX4_howMany : MethodName := ⟨RX4, "howMany", "()I"⟩
abbrev cX4_digestOn : ByteArray := prog_6_method_11_code
def yX4_digestOn : MethodName := ⟨RX4, "digestOn", "(J)J"⟩
def RX5 : String := "NinthDay$Share"
def TX5 : u_T := fun k => match k with
  | 0 => ("NinthDay$Share", "upper", "J", false)
  | _ => ("NinthDay$Share", "lower", "J", false)
def tyX5 : Nat → FieldType := fun k => match k with
  | 0 => .long
  | _ => .long
abbrev wsX50 : List Cond := u_ws RX5 TX5 2
theorem nmX5 : ∀ a, a < 2 → ∀ b, b < 2 → a ≠ b → (TX5 a).2.1 ≠ (TX5 b).2.1 := by decide +kernel
theorem tyX5_ok : ∀ k, k < 2 → parseFieldDescriptor (TX5 k).2.2.1 = some (tyX5 k) := by decide +kernel
abbrev cX5_init : ByteArray := prog_7_method_1_code
def yX5_init : MethodName := ⟨RX5, "<init>", "()V"⟩
abbrev cX5_reduce : ByteArray := prog_7_method_2_code
def yX5_reduce : MethodName := ⟨RX5, "reduce", "(JJ)V"⟩
def RX6 : String := "NinthDay$Texts"
def TX6 : u_T := fun k => match k with
  | 0 => ("NinthDay$Texts", "sizes", "[I", true)
  | _ => ("NinthDay$Texts", "cells", "[B", true)
def tyX6 : Nat → FieldType := fun k => match k with
  | 0 => .array .int
  | _ => .array .byte
abbrev wsX60 : List Cond := u_ws RX6 TX6 2
theorem nmX6 : ∀ a, a < 2 → ∀ b, b < 2 → a ≠ b → (TX6 a).2.1 ≠ (TX6 b).2.1 := by decide +kernel
theorem tyX6_ok : ∀ k, k < 2 → parseFieldDescriptor (TX6 k).2.2.1 = some (tyX6 k) := by decide +kernel
abbrev cX6_init : ByteArray := prog_8_method_1_code
def yX6_init : MethodName := ⟨RX6, "<init>", "()V"⟩
abbrev cX6_isThere : ByteArray := prog_8_method_2_code
def yX6_isThere : MethodName := ⟨RX6, "isThere", "(I)Z"⟩
abbrev cX6_length : ByteArray := prog_8_method_3_code
def yX6_length : MethodName := ⟨RX6, "length", "(I)I"⟩
abbrev cX6_make : ByteArray := prog_8_method_4_code
def yX6_make : MethodName := ⟨RX6, "make", "(II)V"⟩
abbrev cX6_read : ByteArray := prog_8_method_5_code
def yX6_read : MethodName := ⟨RX6, "read", "(II)I"⟩
abbrev cX6_write : ByteArray := prog_8_method_6_code
def yX6_write : MethodName := ⟨RX6, "write", "(III)V"⟩
abbrev cX6_howMany : ByteArray := prog_8_method_7_code
def yX6_howMany : MethodName := ⟨RX6, "howMany", "()I"⟩
abbrev cX6_digestOn : ByteArray := prog_8_method_8_code
def yX6_digestOn : MethodName := ⟨RX6, "digestOn", "(J)J"⟩
def RX7 : String := "NinthDay$Year"
def TX7 : u_T := fun k => match k with
  | 0 => ("NinthDay$Year", "kind", "[I", true)
  | 1 => ("NinthDay$Year", "effort", "[I", true)
  | 2 => ("NinthDay$Year", "habit", "[I", true)
  | 3 => ("NinthDay$Year", "pull", "[I", true)
  | 4 => ("NinthDay$Year", "chain", "[I", true)
  | 5 => ("NinthDay$Year", "timesKept", "[I", true)
  | 6 => ("NinthDay$Year", "sums", "[I", true)
  | 7 => ("NinthDay$Year", "size", "I", false)
  | 8 => ("NinthDay$Year", "day", "I", false)
  | 9 => ("NinthDay$Year", "will", "I", false)
  | 10 => ("NinthDay$Year", "offs", "I", false)
  | _ => ("NinthDay$Year", "givenUp", "I", false)
def tyX7 : Nat → FieldType := fun k => match k with
  | 0 => .array .int
  | 1 => .array .int
  | 2 => .array .int
  | 3 => .array .int
  | 4 => .array .int
  | 5 => .array .int
  | 6 => .array .int
  | 7 => .int
  | 8 => .int
  | 9 => .int
  | 10 => .int
  | _ => .int
abbrev wsX70 : List Cond := u_ws RX7 TX7 12
theorem nmX7 : ∀ a, a < 12 → ∀ b, b < 12 → a ≠ b → (TX7 a).2.1 ≠ (TX7 b).2.1 := by decide +kernel
theorem tyX7_ok : ∀ k, k < 12 → parseFieldDescriptor (TX7 k).2.2.1 = some (tyX7 k) := by decide +kernel
abbrev cX7_init : ByteArray := prog_9_method_1_code
def yX7_init : MethodName := ⟨RX7, "<init>", "()V"⟩
abbrev cX7_clear : ByteArray := prog_9_method_2_code
def yX7_clear : MethodName := ⟨RX7, "clear", "()V"⟩
abbrev cX7_addDeed : ByteArray := prog_9_method_3_code
def yX7_addDeed : MethodName := ⟨RX7, "addDeed", "(IIII)V"⟩
abbrev cX7_become : ByteArray := prog_9_method_4_code
def yX7_become : MethodName := ⟨RX7, "become", "(LNinthDay$Year;)V"⟩
abbrev cX7_trait : ByteArray := prog_9_method_5_code
def yX7_trait : MethodName := ⟨RX7, "trait", "(II)I"⟩
abbrev cX7_isGivenUp : ByteArray := prog_9_method_6_code
def yX7_isGivenUp : MethodName := ⟨RX7, "isGivenUp", "(I)Z"⟩
abbrev cX7_notGivenUp : ByteArray := prog_9_method_7_code
def yX7_notGivenUp : MethodName := ⟨RX7, "notGivenUp", "()I"⟩
abbrev cX7_openHabits : ByteArray := prog_9_method_8_code
def yX7_openHabits : MethodName := ⟨RX7, "openHabits", "()I"⟩
abbrev cX7_runs : ByteArray := prog_9_method_9_code
def yX7_runs : MethodName := ⟨RX7, "runs", "()I"⟩
abbrev cX7_price : ByteArray := prog_9_method_10_code
def yX7_price : MethodName := ⟨RX7, "price", "(I)I"⟩
abbrev cX7_priceAs : ByteArray := prog_9_method_11_code
def yX7_priceAs : MethodName := ⟨RX7, "priceAs", "(III)I"⟩
abbrev cX7_weighed : ByteArray := prog_9_method_12_code
def yX7_weighed : MethodName := ⟨RX7, "weighed", "()[I"⟩
abbrev cX7_lossOf : ByteArray := prog_9_method_13_code
def yX7_lossOf : MethodName := ⟨RX7, "lossOf", "(I)I"⟩
abbrev cX7_goesByItself : ByteArray := prog_9_method_14_code
def yX7_goesByItself : MethodName := ⟨RX7, "goesByItself", "()Z"⟩
abbrev cX7_choice : ByteArray := prog_9_method_15_code
def yX7_choice : MethodName := ⟨RX7, "choice", "(I)I"⟩
abbrev cX7_foremost : ByteArray := prog_9_method_16_code
def yX7_foremost : MethodName := ⟨RX7, "foremost", "(II[I)I"⟩
abbrev cX7_rank : ByteArray := prog_9_method_17_code
def yX7_rank : MethodName := ⟨RX7, "rank", "(II[I)I"⟩
abbrev cX7_passBy : ByteArray := prog_9_method_18_code
def yX7_passBy : MethodName := ⟨RX7, "passBy", "(I)I"⟩
abbrev cX7_pass : ByteArray := prog_9_method_19_code
def yX7_pass : MethodName := ⟨RX7, "pass", "(II)V"⟩
abbrev cX7_follow : ByteArray := prog_9_method_20_code
def yX7_follow : MethodName := ⟨RX7, "follow", "(I)V"⟩
def RX8 : String := "NinthDay"
def TX8 : u_T := fun k => match k with
  | 0 => ("NinthDay", "rows", "LNinthDay$Rows;", true)
  | 1 => ("NinthDay", "texts", "LNinthDay$Texts;", true)
  | 2 => ("NinthDay", "first", "LNinthDay$Year;", true)
  | 3 => ("NinthDay", "now", "LNinthDay$Year;", true)
  | 4 => ("NinthDay", "aside", "LNinthDay$Year;", true)
  | 5 => ("NinthDay", "reader", "LNinthDay$Reader;", true)
  | 6 => ("NinthDay", "acts", "LNinthDay$Acts;", true)
  | 7 => ("NinthDay", "planner", "LNinthDay$Planner;", true)
  | 8 => ("NinthDay", "share", "LNinthDay$Share;", true)
  | 9 => ("NinthDay", "found", "[I", true)
  | 10 => ("NinthDay", "latest", "I", false)
  | _ => ("NinthDay", "told", "I", false)
def tyX8 : Nat → FieldType := fun k => match k with
  | 0 => .object "NinthDay$Rows"
  | 1 => .object "NinthDay$Texts"
  | 2 => .object "NinthDay$Year"
  | 3 => .object "NinthDay$Year"
  | 4 => .object "NinthDay$Year"
  | 5 => .object "NinthDay$Reader"
  | 6 => .object "NinthDay$Acts"
  | 7 => .object "NinthDay$Planner"
  | 8 => .object "NinthDay$Share"
  | 9 => .array .int
  | 10 => .int
  | _ => .int
abbrev wsX80 : List Cond := u_ws RX8 TX8 12
theorem nmX8 : ∀ a, a < 12 → ∀ b, b < 12 → a ≠ b → (TX8 a).2.1 ≠ (TX8 b).2.1 := by decide +kernel
theorem tyX8_ok : ∀ k, k < 12 → parseFieldDescriptor (TX8 k).2.2.1 = some (tyX8 k) := by decide +kernel
abbrev cX8_init : ByteArray := prog_1_method_1_code
def yX8_init : MethodName := ⟨RX8, "<init>", "()V"⟩
abbrev cX8_row : ByteArray := prog_1_method_2_code
def yX8_row : MethodName := ⟨RX8, "row", "(II)I"⟩
abbrev cX8_lay : ByteArray := prog_1_method_3_code
def yX8_lay : MethodName := ⟨RX8, "lay", "(III)I"⟩
abbrev cX8_at : ByteArray := prog_1_method_4_code
def yX8_at : MethodName := ⟨RX8, "at", "(II)I"⟩
abbrev cX8_tear : ByteArray := prog_1_method_5_code
def yX8_tear : MethodName := ⟨RX8, "tear", "(I)I"⟩
abbrev cX8_copy : ByteArray := prog_1_method_6_code
def yX8_copy : MethodName := ⟨RX8, "copy", "(IIIII)I"⟩
abbrev cX8_mean : ByteArray := prog_1_method_7_code
def yX8_mean : MethodName := ⟨RX8, "mean", "(I)I"⟩
abbrev cX8_text : ByteArray := prog_1_method_8_code
def yX8_text : MethodName := ⟨RX8, "text", "(II)I"⟩
abbrev cX8_put : ByteArray := prog_1_method_9_code
def yX8_put : MethodName := ⟨RX8, "put", "(III)I"⟩
abbrev cX8_fault : ByteArray := prog_1_method_10_code
def yX8_fault : MethodName := ⟨RX8, "fault", "(I)I"⟩
abbrev cX8_year : ByteArray := prog_1_method_11_code
def yX8_year : MethodName := ⟨RX8, "year", "(I)I"⟩
abbrev cX8_deed : ByteArray := prog_1_method_12_code
def yX8_deed : MethodName := ⟨RX8, "deed", "(II)I"⟩
abbrev cX8_mark : ByteArray := prog_1_method_13_code
def yX8_mark : MethodName := ⟨RX8, "mark", "(II)I"⟩
abbrev cX8_day : ByteArray := prog_1_method_14_code
def yX8_day : MethodName := ⟨RX8, "day", "(II)I"⟩
abbrev cX8_drop : ByteArray := prog_1_method_15_code
def yX8_drop : MethodName := ⟨RX8, "drop", "(I)I"⟩
abbrev cX8_take : ByteArray := prog_1_method_16_code
def yX8_take : MethodName := ⟨RX8, "take", "(I)I"⟩
abbrev cX8_will : ByteArray := prog_1_method_17_code
def yX8_will : MethodName := ⟨RX8, "will", "(I)I"⟩
abbrev cX8_undo : ByteArray := prog_1_method_18_code
def yX8_undo : MethodName := ⟨RX8, "undo", "(I)I"⟩
abbrev cX8_keep : ByteArray := prog_1_method_19_code
def yX8_keep : MethodName := ⟨RX8, "keep", "(I)I"⟩
abbrev cX8_on : ByteArray := prog_1_method_20_code
def yX8_on : MethodName := ⟨RX8, "on", "(I)I"⟩
abbrev cX8_cost : ByteArray := prog_1_method_21_code
def yX8_cost : MethodName := ⟨RX8, "cost", "(I)I"⟩
abbrev cX8_most : ByteArray := prog_1_method_22_code
def yX8_most : MethodName := ⟨RX8, "most", "()I"⟩
abbrev cX8_rule : ByteArray := prog_1_method_23_code
def yX8_rule : MethodName := ⟨RX8, "rule", "(I)I"⟩
abbrev cX8_plan : ByteArray := prog_1_method_24_code
def yX8_plan : MethodName := ⟨RX8, "plan", "(II)I"⟩
abbrev cX8_till : ByteArray := prog_1_method_25_code
def yX8_till : MethodName := ⟨RX8, "till", "(I)I"⟩
abbrev cX8_better : ByteArray := prog_1_method_26_code
def yX8_better : MethodName := ⟨RX8, "better", "(I)I"⟩
abbrev cX8_least : ByteArray := prog_1_method_27_code
def yX8_least : MethodName := ⟨RX8, "least", "(II)I"⟩
abbrev cX8_chain : ByteArray := prog_1_method_28_code
def yX8_chain : MethodName := ⟨RX8, "chain", "(III)I"⟩
abbrev cX8_fits : ByteArray := prog_1_method_29_code
def yX8_fits : MethodName := ⟨RX8, "fits", "(I)I"⟩
abbrev cX8_sure : ByteArray := prog_1_method_30_code
def yX8_sure : MethodName := ⟨RX8, "sure", "(I)I"⟩
abbrev cX8_ask : ByteArray := prog_1_method_31_code
def yX8_ask : MethodName := ⟨RX8, "ask", "(I)I"⟩
abbrev cX8_habits : ByteArray := prog_1_method_32_code
def yX8_habits : MethodName := ⟨RX8, "habits", "(II)I"⟩
abbrev cX8_kinds : ByteArray := prog_1_method_33_code
def yX8_kinds : MethodName := ⟨RX8, "kinds", "(II)I"⟩
abbrev cX8_test : ByteArray := prog_1_method_34_code
def yX8_test : MethodName := ⟨RX8, "test", "(II)I"⟩
abbrev cX8_spare : ByteArray := prog_1_method_35_code
def yX8_spare : MethodName := ⟨RX8, "spare", "(I)I"⟩
abbrev cX8_tempt : ByteArray := prog_1_method_36_code
def yX8_tempt : MethodName := ⟨RX8, "tempt", "(I)I"⟩
abbrev cX8_odds : ByteArray := prog_1_method_37_code
def yX8_odds : MethodName := ⟨RX8, "odds", "(II)I"⟩
abbrev cX8_mid : ByteArray := prog_1_method_38_code
def yX8_mid : MethodName := ⟨RX8, "mid", "(I)I"⟩
abbrev cX8_lots : ByteArray := prog_1_method_39_code
def yX8_lots : MethodName := ⟨RX8, "lots", "(II)I"⟩
abbrev cX8_asked : ByteArray := prog_1_method_40_code
def yX8_asked : MethodName := ⟨RX8, "asked", "()I"⟩
abbrev cX8_upper : ByteArray := prog_1_method_41_code
def yX8_upper : MethodName := ⟨RX8, "upper", "()J"⟩
abbrev cX8_lower : ByteArray := prog_1_method_42_code
def yX8_lower : MethodName := ⟨RX8, "lower", "()J"⟩
abbrev cX8_count : ByteArray := prog_1_method_43_code
def yX8_count : MethodName := ⟨RX8, "count", "(I)I"⟩
abbrev cX8_finding : ByteArray := prog_1_method_44_code
def yX8_finding : MethodName := ⟨RX8, "finding", "()I"⟩
abbrev cX8_findings : ByteArray := prog_1_method_45_code
def yX8_findings : MethodName := ⟨RX8, "findings", "(I)I"⟩
abbrev cX8_digest : ByteArray := prog_1_method_46_code
def yX8_digest : MethodName := ⟨RX8, "digest", "()J"⟩
abbrev cX8_refuse : ByteArray := prog_1_method_47_code
def yX8_refuse : MethodName := ⟨RX8, "refuse", "(I)I"⟩
abbrev cX8_tell : ByteArray := prog_1_method_48_code
def yX8_tell : MethodName := ⟨RX8, "tell", "(I)I"⟩
abbrev cX8_act : ByteArray := prog_1_method_49_code
def yX8_act : MethodName := ⟨RX8, "act", "(I)V"⟩
abbrev cX8_replay : ByteArray := prog_1_method_50_code
def yX8_replay : MethodName := ⟨RX8, "replay", "()V"⟩
abbrev cX8_isRow : ByteArray := prog_1_method_51_code
def yX8_isRow : MethodName := ⟨RX8, "isRow", "(I)Z"⟩
abbrev cX8_isText : ByteArray := prog_1_method_52_code
def yX8_isText : MethodName := ⟨RX8, "isText", "(I)Z"⟩
abbrev cX8_isKeptPlace : ByteArray := prog_1_method_53_code
def yX8_isKeptPlace : MethodName := ⟨RX8, "isKeptPlace", "(I)Z"⟩
abbrev cX8_isRule : ByteArray := prog_1_method_54_code
def yX8_isRule : MethodName := ⟨RX8, "isRule", "(I)Z"⟩
abbrev cX8_isSum : ByteArray := prog_1_method_55_code
def yX8_isSum : MethodName := ⟨RX8, "isSum", "(I)Z"⟩
abbrev cX8_isDeed : ByteArray := prog_1_method_56_code
def yX8_isDeed : MethodName := ⟨RX8, "isDeed", "(I)Z"⟩
abbrev cX8_isSet : ByteArray := prog_1_method_57_code
def yX8_isSet : MethodName := ⟨RX8, "isSet", "(I)Z"⟩
abbrev cX8_refusedPlace : ByteArray := prog_1_method_58_code
def yX8_refusedPlace : MethodName := ⟨RX8, "refusedPlace", "(II)I"⟩
abbrev cX8_refusedSum : ByteArray := prog_1_method_59_code
def yX8_refusedSum : MethodName := ⟨RX8, "refusedSum", "(I)I"⟩
abbrev cX8_refusedPairs : ByteArray := prog_1_method_60_code
def yX8_refusedPairs : MethodName := ⟨RX8, "refusedPairs", "(II)I"⟩
abbrev cX8_isMore : ByteArray := prog_1_method_61_code
def yX8_isMore : MethodName := ⟨RX8, "isMore", "(II[I)Z"⟩
abbrev cX8_isFit : ByteArray := prog_1_method_62_code
def yX8_isFit : MethodName := ⟨RX8, "isFit", "([III)Z"⟩
abbrev cX8_fitting : ByteArray := prog_1_method_63_code
def yX8_fitting : MethodName := ⟨RX8, "fitting", "(III)I"⟩
abbrev cX8_keptBy : ByteArray := prog_1_method_64_code
def yX8_keptBy : MethodName := ⟨RX8, "keptBy", "(II)I"⟩
abbrev cX8_agrees : ByteArray := prog_1_method_65_code
def yX8_agrees : MethodName := ⟨RX8, "agrees", "(IIIII)Z"⟩
abbrev cX8_kindsThatFit : ByteArray := prog_1_method_66_code
def yX8_kindsThatFit : MethodName := ⟨RX8, "kindsThatFit", "(II)I"⟩
abbrev cX8_greatestPart : ByteArray := prog_1_method_67_code
def yX8_greatestPart : MethodName := ⟨RX8, "greatestPart", "(III)I"⟩
abbrev cX8_partLike : ByteArray := prog_1_method_68_code
def yX8_partLike : MethodName := ⟨RX8, "partLike", "(IIII)I"⟩
abbrev cX8_turns : ByteArray := prog_1_method_69_code
def yX8_turns : MethodName := ⟨RX8, "turns", "([IIIIZ)I"⟩
abbrev cX8_power : ByteArray := prog_1_method_70_code
def yX8_power : MethodName := ⟨RX8, "power", "(II)J"⟩
def RX9 : String := "NinthDayModel"
def TX9 : u_T := fun k => match k with
  | 0 => ("NinthDayModel", "latest", "I", false)
  | 1 => ("NinthDayModel", "came", "[I", true)
  | 2 => ("NinthDayModel", "asked", "I", false)
  | 3 => ("NinthDayModel", "upper", "J", false)
  | 4 => ("NinthDayModel", "lower", "J", false)
  | 5 => ("NinthDayModel", "sizes", "[I", true)
  | 6 => ("NinthDayModel", "rows", "[I", true)
  | 7 => ("NinthDayModel", "copied", "[I", true)
  | 8 => ("NinthDayModel", "textSizes", "[I", true)
  | 9 => ("NinthDayModel", "bytes", "[B", true)
  | 10 => ("NinthDayModel", "n", "I", false)
  | 11 => ("NinthDayModel", "kindOf", "[I", true)
  | 12 => ("NinthDayModel", "efforts", "[I", true)
  | 13 => ("NinthDayModel", "pulls", "[I", true)
  | 14 => ("NinthDayModel", "readAt", "I", false)
  | 15 => ("NinthDayModel", "readMany", "I", false)
  | 16 => ("NinthDayModel", "readWill", "I", false)
  | 17 => ("NinthDayModel", "readOffs", "I", false)
  | 18 => ("NinthDayModel", "isHead", "Z", false)
  | 19 => ("NinthDayModel", "readDeed", "[I", true)
  | 20 => ("NinthDayModel", "now", "[I", true)
  | 21 => ("NinthDayModel", "tried", "[I", true)
  | 22 => ("NinthDayModel", "actMany", "I", false)
  | 23 => ("NinthDayModel", "log", "[I", true)
  | 24 => ("NinthDayModel", "isKept", "[Z", true)
  | 25 => ("NinthDayModel", "keptMany", "[I", true)
  | 26 => ("NinthDayModel", "keptNow", "[I", true)
  | 27 => ("NinthDayModel", "keptLog", "[I", true)
  | 28 => ("NinthDayModel", "sets", "[I", true)
  | 29 => ("NinthDayModel", "fitMany", "I", false)
  | 30 => ("NinthDayModel", "fitFirst", "I", false)
  | 31 => ("NinthDayModel", "fitAll", "I", false)
  | 32 => ("NinthDayModel", "fitAny", "I", false)
  | 33 => ("NinthDayModel", "fitWith", "[I", true)
  | 34 => ("NinthDayModel", "ends", "[I", true)
  | 35 => ("NinthDayModel", "ahead", "[I", true)
  | _ => ("NinthDayModel", "hash", "J", false)
def tyX9 : Nat → FieldType := fun k => match k with
  | 0 => .int
  | 1 => .array .int
  | 2 => .int
  | 3 => .long
  | 4 => .long
  | 5 => .array .int
  | 6 => .array .int
  | 7 => .array .int
  | 8 => .array .int
  | 9 => .array .byte
  | 10 => .int
  | 11 => .array .int
  | 12 => .array .int
  | 13 => .array .int
  | 14 => .int
  | 15 => .int
  | 16 => .int
  | 17 => .int
  | 18 => .boolean
  | 19 => .array .int
  | 20 => .array .int
  | 21 => .array .int
  | 22 => .int
  | 23 => .array .int
  | 24 => .array .boolean
  | 25 => .array .int
  | 26 => .array .int
  | 27 => .array .int
  | 28 => .array .int
  | 29 => .int
  | 30 => .int
  | 31 => .int
  | 32 => .int
  | 33 => .array .int
  | 34 => .array .int
  | 35 => .array .int
  | _ => .long
abbrev wsX90 : List Cond := u_ws RX9 TX9 37
theorem nmX9 : ∀ a, a < 37 → ∀ b, b < 37 → a ≠ b → (TX9 a).2.1 ≠ (TX9 b).2.1 := by decide +kernel
theorem tyX9_ok : ∀ k, k < 37 → parseFieldDescriptor (TX9 k).2.2.1 = some (tyX9 k) := by decide +kernel
abbrev cX9_init : ByteArray := prog_11_method_1_code
def yX9_init : MethodName := ⟨RX9, "<init>", "()V"⟩
abbrev cX9_in : ByteArray := prog_11_method_2_code
def yX9_in : MethodName := ⟨RX9, "in", "(III)Z"⟩
abbrev cX9_has : ByteArray := prog_11_method_3_code
def yX9_has : MethodName := ⟨RX9, "has", "(II)Z"⟩
abbrev cX9_bits : ByteArray := prog_11_method_4_code
def yX9_bits : MethodName := ⟨RX9, "bits", "(I)I"⟩
abbrev cX9_meets : ByteArray := prog_11_method_5_code
def yX9_meets : MethodName := ⟨RX9, "meets", "(I)I"⟩
abbrev cX9_finding : ByteArray := prog_11_method_6_code
def yX9_finding : MethodName := ⟨RX9, "finding", "()I"⟩
abbrev cX9_findings : ByteArray := prog_11_method_7_code
def yX9_findings : MethodName := ⟨RX9, "findings", "(I)I"⟩
abbrev cX9_tells : ByteArray := prog_11_method_8_code
def yX9_tells : MethodName := ⟨RX9, "tells", "(II)I"⟩
abbrev cX9_asked : ByteArray := prog_11_method_9_code
def yX9_asked : MethodName := ⟨RX9, "asked", "()I"⟩
abbrev cX9_fraction : ByteArray := prog_11_method_10_code
def yX9_fraction : MethodName := ⟨RX9, "fraction", "(JJ)I"⟩
abbrev cX9_upper : ByteArray := prog_11_method_11_code
def yX9_upper : MethodName := ⟨RX9, "upper", "()J"⟩
abbrev cX9_lower : ByteArray := prog_11_method_12_code
def yX9_lower : MethodName := ⟨RX9, "lower", "()J"⟩
abbrev cX9_isRow : ByteArray := prog_11_method_13_code
def yX9_isRow : MethodName := ⟨RX9, "isRow", "(I)Z"⟩
abbrev cX9_rowAt : ByteArray := prog_11_method_14_code
def yX9_rowAt : MethodName := ⟨RX9, "rowAt", "(II)I"⟩
abbrev cX9_row : ByteArray := prog_11_method_15_code
def yX9_row : MethodName := ⟨RX9, "row", "(II)I"⟩
abbrev cX9_lay : ByteArray := prog_11_method_16_code
def yX9_lay : MethodName := ⟨RX9, "lay", "(III)I"⟩
abbrev cX9_at : ByteArray := prog_11_method_17_code
def yX9_at : MethodName := ⟨RX9, "at", "(II)I"⟩
abbrev cX9_tear : ByteArray := prog_11_method_18_code
def yX9_tear : MethodName := ⟨RX9, "tear", "(I)I"⟩
abbrev cX9_copy : ByteArray := prog_11_method_19_code
def yX9_copy : MethodName := ⟨RX9, "copy", "(IIIII)I"⟩
abbrev cX9_mean : ByteArray := prog_11_method_20_code
def yX9_mean : MethodName := ⟨RX9, "mean", "(I)I"⟩
abbrev cX9_isText : ByteArray := prog_11_method_21_code
def yX9_isText : MethodName := ⟨RX9, "isText", "(I)Z"⟩
abbrev cX9_text : ByteArray := prog_11_method_22_code
def yX9_text : MethodName := ⟨RX9, "text", "(II)I"⟩
abbrev cX9_put : ByteArray := prog_11_method_23_code
def yX9_put : MethodName := ⟨RX9, "put", "(III)I"⟩
abbrev cX9_byteAt : ByteArray := prog_11_method_24_code
def yX9_byteAt : MethodName := ⟨RX9, "byteAt", "(II)I"⟩
abbrev cX9_kindBy : ByteArray := prog_11_method_25_code
def yX9_kindBy : MethodName := ⟨RX9, "kindBy", "(I)I"⟩
abbrev cX9_figure : ByteArray := prog_11_method_26_code
def yX9_figure : MethodName := ⟨RX9, "figure", "(I)I"⟩
abbrev cX9_readsHead : ByteArray := prog_11_method_27_code
def yX9_readsHead : MethodName := ⟨RX9, "readsHead", "(I)Z"⟩
abbrev cX9_readsDeed : ByteArray := prog_11_method_28_code
def yX9_readsDeed : MethodName := ⟨RX9, "readsDeed", "(I)Z"⟩
abbrev cX9_faultOf : ByteArray := prog_11_method_29_code
def yX9_faultOf : MethodName := ⟨RX9, "faultOf", "(I)I"⟩
abbrev cX9_fault : ByteArray := prog_11_method_30_code
def yX9_fault : MethodName := ⟨RX9, "fault", "(I)I"⟩
abbrev cX9_year : ByteArray := prog_11_method_31_code
def yX9_year : MethodName := ⟨RX9, "year", "(I)I"⟩
abbrev cX9_isDeed : ByteArray := prog_11_method_32_code
def yX9_isDeed : MethodName := ⟨RX9, "isDeed", "(I)Z"⟩
abbrev cX9_isSet : ByteArray := prog_11_method_33_code
def yX9_isSet : MethodName := ⟨RX9, "isSet", "(I)Z"⟩
abbrev cX9_costBy : ByteArray := prog_11_method_34_code
def yX9_costBy : MethodName := ⟨RX9, "costBy", "(IIIIII)I"⟩
abbrev cX9_costOn : ByteArray := prog_11_method_35_code
def yX9_costOn : MethodName := ⟨RX9, "costOn", "([II)I"⟩
abbrev cX9_costsOf : ByteArray := prog_11_method_36_code
def yX9_costsOf : MethodName := ⟨RX9, "costsOf", "([II)I"⟩
abbrev cX9_isSmall : ByteArray := prog_11_method_37_code
def yX9_isSmall : MethodName := ⟨RX9, "isSmall", "(I)Z"⟩
abbrev cX9_grown : ByteArray := prog_11_method_38_code
def yX9_grown : MethodName := ⟨RX9, "grown", "([II)I"⟩
abbrev cX9_lessened : ByteArray := prog_11_method_39_code
def yX9_lessened : MethodName := ⟨RX9, "lessened", "([II)I"⟩
abbrev cX9_there : ByteArray := prog_11_method_40_code
def yX9_there : MethodName := ⟨RX9, "there", "([I)I"⟩
abbrev cX9_passes : ByteArray := prog_11_method_41_code
def yX9_passes : MethodName := ⟨RX9, "passes", "([III)V"⟩
abbrev cX9_rankOn : ByteArray := prog_11_method_42_code
def yX9_rankOn : MethodName := ⟨RX9, "rankOn", "([III)I"⟩
abbrev cX9_byRule : ByteArray := prog_11_method_43_code
def yX9_byRule : MethodName := ⟨RX9, "byRule", "([II)I"⟩
abbrev cX9_copyNow : ByteArray := prog_11_method_44_code
def yX9_copyNow : MethodName := ⟨RX9, "copyNow", "()V"⟩
abbrev cX9_deedTells : ByteArray := prog_11_method_45_code
def yX9_deedTells : MethodName := ⟨RX9, "deedTells", "(II)I"⟩
abbrev cX9_deed : ByteArray := prog_11_method_46_code
def yX9_deed : MethodName := ⟨RX9, "deed", "(II)I"⟩
abbrev cX9_asKind : ByteArray := prog_11_method_47_code
def yX9_asKind : MethodName := ⟨RX9, "asKind", "(II)I"⟩
abbrev cX9_mark : ByteArray := prog_11_method_48_code
def yX9_mark : MethodName := ⟨RX9, "mark", "(II)I"⟩
abbrev cX9_remember : ByteArray := prog_11_method_49_code
def yX9_remember : MethodName := ⟨RX9, "remember", "()V"⟩
abbrev cX9_day : ByteArray := prog_11_method_50_code
def yX9_day : MethodName := ⟨RX9, "day", "(II)I"⟩
abbrev cX9_drop : ByteArray := prog_11_method_51_code
def yX9_drop : MethodName := ⟨RX9, "drop", "(I)I"⟩
abbrev cX9_take : ByteArray := prog_11_method_52_code
def yX9_take : MethodName := ⟨RX9, "take", "(I)I"⟩
abbrev cX9_will : ByteArray := prog_11_method_53_code
def yX9_will : MethodName := ⟨RX9, "will", "(I)I"⟩
abbrev cX9_undo : ByteArray := prog_11_method_54_code
def yX9_undo : MethodName := ⟨RX9, "undo", "(I)I"⟩
abbrev cX9_keep : ByteArray := prog_11_method_55_code
def yX9_keep : MethodName := ⟨RX9, "keep", "(I)I"⟩
abbrev cX9_on : ByteArray := prog_11_method_56_code
def yX9_on : MethodName := ⟨RX9, "on", "(I)I"⟩
abbrev cX9_need : ByteArray := prog_11_method_57_code
def yX9_need : MethodName := ⟨RX9, "need", "(Z)I"⟩
abbrev cX9_cost : ByteArray := prog_11_method_58_code
def yX9_cost : MethodName := ⟨RX9, "cost", "(I)I"⟩
abbrev cX9_most : ByteArray := prog_11_method_59_code
def yX9_most : MethodName := ⟨RX9, "most", "()I"⟩
abbrev cX9_rule : ByteArray := prog_11_method_60_code
def yX9_rule : MethodName := ⟨RX9, "rule", "(I)I"⟩
abbrev cX9_keptBy : ByteArray := prog_11_method_61_code
def yX9_keptBy : MethodName := ⟨RX9, "keptBy", "(II)I"⟩
abbrev cX9_plan : ByteArray := prog_11_method_62_code
def yX9_plan : MethodName := ⟨RX9, "plan", "(II)I"⟩
abbrev cX9_isDone : ByteArray := prog_11_method_63_code
def yX9_isDone : MethodName := ⟨RX9, "isDone", "([I)Z"⟩
abbrev cX9_till : ByteArray := prog_11_method_64_code
def yX9_till : MethodName := ⟨RX9, "till", "(I)I"⟩
abbrev cX9_keptIn : ByteArray := prog_11_method_65_code
def yX9_keptIn : MethodName := ⟨RX9, "keptIn", "(II)I"⟩
abbrev cX9_better : ByteArray := prog_11_method_66_code
def yX9_better : MethodName := ⟨RX9, "better", "(I)I"⟩
abbrev cX9_least : ByteArray := prog_11_method_67_code
def yX9_least : MethodName := ⟨RX9, "least", "(II)I"⟩
abbrev cX9_chain : ByteArray := prog_11_method_68_code
def yX9_chain : MethodName := ⟨RX9, "chain", "(III)I"⟩
abbrev cX9_layFits : ByteArray := prog_11_method_69_code
def yX9_layFits : MethodName := ⟨RX9, "layFits", "(I)V"⟩
abbrev cX9_fits : ByteArray := prog_11_method_70_code
def yX9_fits : MethodName := ⟨RX9, "fits", "(I)I"⟩
abbrev cX9_sure : ByteArray := prog_11_method_71_code
def yX9_sure : MethodName := ⟨RX9, "sure", "(I)I"⟩
abbrev cX9_ask : ByteArray := prog_11_method_72_code
def yX9_ask : MethodName := ⟨RX9, "ask", "(I)I"⟩
abbrev cX9_needPairs : ByteArray := prog_11_method_73_code
def yX9_needPairs : MethodName := ⟨RX9, "needPairs", "(II)I"⟩
abbrev cX9_isTold : ByteArray := prog_11_method_74_code
def yX9_isTold : MethodName := ⟨RX9, "isTold", "(IIIII)Z"⟩
abbrev cX9_habits : ByteArray := prog_11_method_75_code
def yX9_habits : MethodName := ⟨RX9, "habits", "(II)I"⟩
abbrev cX9_kindSet : ByteArray := prog_11_method_76_code
def yX9_kindSet : MethodName := ⟨RX9, "kindSet", "(II)I"⟩
abbrev cX9_kinds : ByteArray := prog_11_method_77_code
def yX9_kinds : MethodName := ⟨RX9, "kinds", "(II)I"⟩
abbrev cX9_alike : ByteArray := prog_11_method_78_code
def yX9_alike : MethodName := ⟨RX9, "alike", "(III)I"⟩
abbrev cX9_test : ByteArray := prog_11_method_79_code
def yX9_test : MethodName := ⟨RX9, "test", "(II)I"⟩
abbrev cX9_savedBy : ByteArray := prog_11_method_80_code
def yX9_savedBy : MethodName := ⟨RX9, "savedBy", "(I)I"⟩
abbrev cX9_spare : ByteArray := prog_11_method_81_code
def yX9_spare : MethodName := ⟨RX9, "spare", "(I)I"⟩
abbrev cX9_codes : ByteArray := prog_11_method_82_code
def yX9_codes : MethodName := ⟨RX9, "codes", "()I"⟩
abbrev cX9_setOf : ByteArray := prog_11_method_83_code
def yX9_setOf : MethodName := ⟨RX9, "setOf", "(II)I"⟩
abbrev cX9_turned : ByteArray := prog_11_method_84_code
def yX9_turned : MethodName := ⟨RX9, "turned", "(IZ)I"⟩
abbrev cX9_tempt : ByteArray := prog_11_method_85_code
def yX9_tempt : MethodName := ⟨RX9, "tempt", "(I)I"⟩
abbrev cX9_odds : ByteArray := prog_11_method_86_code
def yX9_odds : MethodName := ⟨RX9, "odds", "(II)I"⟩
abbrev cX9_mid : ByteArray := prog_11_method_87_code
def yX9_mid : MethodName := ⟨RX9, "mid", "(I)I"⟩
abbrev cX9_lots : ByteArray := prog_11_method_88_code
def yX9_lots : MethodName := ⟨RX9, "lots", "(II)I"⟩
abbrev cX9_counted : ByteArray := prog_11_method_89_code
def yX9_counted : MethodName := ⟨RX9, "counted", "(I)I"⟩
abbrev cX9_count : ByteArray := prog_11_method_90_code
def yX9_count : MethodName := ⟨RX9, "count", "(I)I"⟩
abbrev cX9_mix : ByteArray := prog_11_method_91_code
def yX9_mix : MethodName := ⟨RX9, "mix", "(J)V"⟩
abbrev cX9_mixYear : ByteArray := prog_11_method_92_code
def yX9_mixYear : MethodName := ⟨RX9, "mixYear", "()V"⟩
abbrev cX9_digest : ByteArray := prog_11_method_93_code
def yX9_digest : MethodName := ⟨RX9, "digest", "()J"⟩
def RJ6 : String := "java/lang/Integer"
def TJ6 : u_T := fun k => match k with
  | _ => ("", "", "", false)
def tyJ6 : Nat → FieldType := fun k => match k with
  | _ => .int
abbrev wsJ60 : List Cond := u_ws RJ6 TJ6 0
theorem nmJ6 : ∀ a, a < 0 → ∀ b, b < 0 → a ≠ b → (TJ6 a).2.1 ≠ (TJ6 b).2.1 := by decide +kernel
theorem tyJ6_ok : ∀ k, k < 0 → parseFieldDescriptor (TJ6 k).2.2.1 = some (tyJ6 k) := by decide +kernel
abbrev cJ6_bitCount_0f7a4 : ByteArray := prog_12_method_49_code
def yJ6_bitCount_0f7a4 : MethodName := ⟨RJ6, "bitCount", "(I)I"⟩
def RJ9 : String := "java/lang/Math"
def TJ9 : u_T := fun k => match k with
  | _ => ("", "", "", false)
def tyJ9 : Nat → FieldType := fun k => match k with
  | _ => .int
abbrev wsJ90 : List Cond := u_ws RJ9 TJ9 0
theorem nmJ9 : ∀ a, a < 0 → ∀ b, b < 0 → a ≠ b → (TJ9 a).2.1 ≠ (TJ9 b).2.1 := by decide +kernel
theorem tyJ9_ok : ∀ k, k < 0 → parseFieldDescriptor (TJ9 k).2.2.1 = some (tyJ9 k) := by decide +kernel
abbrev cJ9_max_7cf53 : ByteArray := prog_13_method_65_code
def yJ9_max_7cf53 : MethodName := ⟨RJ9, "max", "(II)I"⟩
abbrev cJ9_min_7cf53 : ByteArray := prog_13_method_69_code
def yJ9_min_7cf53 : MethodName := ⟨RJ9, "min", "(II)I"⟩
def RJ10 : String := "java/lang/System"
def TJ10 : u_T := fun k => match k with
  | _ => ("", "", "", false)
def tyJ10 : Nat → FieldType := fun k => match k with
  | _ => .int
abbrev wsJ100 : List Cond := u_ws RJ10 TJ10 0
theorem nmJ10 : ∀ a, a < 0 → ∀ b, b < 0 → a ≠ b → (TJ10 a).2.1 ≠ (TJ10 b).2.1 := by decide +kernel
theorem tyJ10_ok : ∀ k, k < 0 → parseFieldDescriptor (TJ10 k).2.2.1 = some (tyJ10 k) := by decide +kernel
def RJ7 : String := "java/util/Arrays"
def TJ7 : u_T := fun k => match k with
  | _ => ("", "", "", false)
def tyJ7 : Nat → FieldType := fun k => match k with
  | _ => .int
abbrev wsJ70 : List Cond := u_ws RJ7 TJ7 0
theorem nmJ7 : ∀ a, a < 0 → ∀ b, b < 0 → a ≠ b → (TJ7 a).2.1 ≠ (TJ7 b).2.1 := by decide +kernel
theorem tyJ7_ok : ∀ k, k < 0 → parseFieldDescriptor (TJ7 k).2.2.1 = some (tyJ7 k) := by decide +kernel
abbrev cJ7_rangeCheck_23922 : ByteArray := prog_15_method_30_code
def yJ7_rangeCheck_23922 : MethodName := ⟨RJ7, "rangeCheck", "(III)V"⟩
abbrev cJ7_fill_53178 : ByteArray := prog_15_method_103_code
def yJ7_fill_53178 : MethodName := ⟨RJ7, "fill", "([II)V"⟩
abbrev cJ7_fill_fda19 : ByteArray := prog_15_method_104_code
def yJ7_fill_fda19 : MethodName := ⟨RJ7, "fill", "([IIII)V"⟩
abbrev cJ7_fill_eb02e : ByteArray := prog_15_method_110_code
def yJ7_fill_eb02e : MethodName := ⟨RJ7, "fill", "([BIIB)V"⟩
def RL : String := "NinthDayLaw"
abbrev cL_law : ByteArray := code
def yL_law : MethodName := ⟨RL, "law", "([I)Z"⟩
abbrev vwCl : List vw_C := [(RX0, TX0, 4), (RX2, TX2, 5), (RX3, TX3, 5), (RX4, TX4, 2), (RX5, TX5, 2), (RX6, TX6, 2), (RX7, TX7, 12), (RX8, TX8, 12), (RX9, TX9, 37)]
