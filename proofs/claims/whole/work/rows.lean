section
-- ===== PART A: goes FIRST, ahead of the names: the tables' words, and 'selects' of the private methods out of them =====
/-- a private method of a class that the tables say can be made, by its rows of tables_1 -/
def lw_okq (q : MethodName × Nat) : Prop := (q.1.cls ≠ "java/lang/invoke/MethodHandle" ∧ q.1.cls ≠ "java/lang/invoke/VarHandle") ∧ Cond.instantiable q.1.cls q.2 ∈ tables_1 ∧ Cond.privateMethod q.1 ∈ tables_1 ∧ Cond.instanceMethod q.1 ∈ tables_1
theorem lw_p0 : lw_okq (⟨"PreCommitHall", "drawnAct", "()I"⟩, 10) := ⟨⟨by decide +kernel, by decide +kernel⟩, List.mem_of_getElem? (i := 19) (by decide +kernel), List.mem_of_getElem? (i := 622) (by decide +kernel), List.mem_of_getElem? (i := 623) (by decide +kernel)⟩
theorem lw_p1 : lw_okq (⟨"PreCommitHall", "mixesBy", "(I)LPreCommitHall$Mixes;"⟩, 10) := ⟨⟨by decide +kernel, by decide +kernel⟩, List.mem_of_getElem? (i := 19) (by decide +kernel), List.mem_of_getElem? (i := 657) (by decide +kernel), List.mem_of_getElem? (i := 658) (by decide +kernel)⟩
theorem lw_p2 : lw_okq (⟨"PreCommitHall$Search", "reach", "(I)V"⟩, 11) := ⟨⟨by decide +kernel, by decide +kernel⟩, List.mem_of_getElem? (i := 212) (by decide +kernel), List.mem_of_getElem? (i := 677) (by decide +kernel), List.mem_of_getElem? (i := 678) (by decide +kernel)⟩
theorem lw_p3 : lw_okq (⟨"PreCommitHall$Search", "noteWay", "()V"⟩, 11) := ⟨⟨by decide +kernel, by decide +kernel⟩, List.mem_of_getElem? (i := 212) (by decide +kernel), List.mem_of_getElem? (i := 696) (by decide +kernel), List.mem_of_getElem? (i := 697) (by decide +kernel)⟩
theorem lw_p4 : lw_okq (⟨"PreCommitHall$Search", "lead", "(II)I"⟩, 11) := ⟨⟨by decide +kernel, by decide +kernel⟩, List.mem_of_getElem? (i := 212) (by decide +kernel), List.mem_of_getElem? (i := 713) (by decide +kernel), List.mem_of_getElem? (i := 714) (by decide +kernel)⟩
theorem lw_p5 : lw_okq (⟨"PreCommitHall$Search", "worthTrying", "(II)I"⟩, 11) := ⟨⟨by decide +kernel, by decide +kernel⟩, List.mem_of_getElem? (i := 212) (by decide +kernel), List.mem_of_getElem? (i := 720) (by decide +kernel), List.mem_of_getElem? (i := 721) (by decide +kernel)⟩
theorem lw_p6 : lw_okq (⟨"PreCommitHall", "feedWord", "(I)V"⟩, 10) := ⟨⟨by decide +kernel, by decide +kernel⟩, List.mem_of_getElem? (i := 19) (by decide +kernel), List.mem_of_getElem? (i := 763) (by decide +kernel), List.mem_of_getElem? (i := 764) (by decide +kernel)⟩
theorem lw_p7 : lw_okq (⟨"PreCommitHall$Script", "readDeed", "()V"⟩, 10) := ⟨⟨by decide +kernel, by decide +kernel⟩, List.mem_of_getElem? (i := 155) (by decide +kernel), List.mem_of_getElem? (i := 776) (by decide +kernel), List.mem_of_getElem? (i := 777) (by decide +kernel)⟩
theorem lw_p8 : lw_okq (⟨"PreCommitHall$Script", "wordEnd", "()I"⟩, 10) := ⟨⟨by decide +kernel, by decide +kernel⟩, List.mem_of_getElem? (i := 155) (by decide +kernel), List.mem_of_getElem? (i := 780) (by decide +kernel), List.mem_of_getElem? (i := 781) (by decide +kernel)⟩
theorem lw_p9 : lw_okq (⟨"PreCommitHall$Script", "failHere", "()V"⟩, 10) := ⟨⟨by decide +kernel, by decide +kernel⟩, List.mem_of_getElem? (i := 155) (by decide +kernel), List.mem_of_getElem? (i := 784) (by decide +kernel), List.mem_of_getElem? (i := 785) (by decide +kernel)⟩
theorem lw_p10 : lw_okq (⟨"PreCommitHall$Script", "fail", "(I)V"⟩, 10) := ⟨⟨by decide +kernel, by decide +kernel⟩, List.mem_of_getElem? (i := 155) (by decide +kernel), List.mem_of_getElem? (i := 788) (by decide +kernel), List.mem_of_getElem? (i := 789) (by decide +kernel)⟩
theorem lw_p11 : lw_okq (⟨"PreCommitHall$Script", "kindOf", "(II)I"⟩, 10) := ⟨⟨by decide +kernel, by decide +kernel⟩, List.mem_of_getElem? (i := 155) (by decide +kernel), List.mem_of_getElem? (i := 792) (by decide +kernel), List.mem_of_getElem? (i := 793) (by decide +kernel)⟩
theorem lw_p12 : lw_okq (⟨"PreCommitHall$Script", "isWord", "(Ljava/lang/String;II)Z"⟩, 10) := ⟨⟨by decide +kernel, by decide +kernel⟩, List.mem_of_getElem? (i := 155) (by decide +kernel), List.mem_of_getElem? (i := 809) (by decide +kernel), List.mem_of_getElem? (i := 810) (by decide +kernel)⟩
theorem lw_p13 : lw_okq (⟨"PreCommitHall$Script", "readRest", "(I)Z"⟩, 10) := ⟨⟨by decide +kernel, by decide +kernel⟩, List.mem_of_getElem? (i := 155) (by decide +kernel), List.mem_of_getElem? (i := 861) (by decide +kernel), List.mem_of_getElem? (i := 862) (by decide +kernel)⟩
theorem lw_p14 : lw_okq (⟨"PreCommitHall$Script", "readLimit", "()Z"⟩, 10) := ⟨⟨by decide +kernel, by decide +kernel⟩, List.mem_of_getElem? (i := 155) (by decide +kernel), List.mem_of_getElem? (i := 865) (by decide +kernel), List.mem_of_getElem? (i := 866) (by decide +kernel)⟩
theorem lw_p15 : lw_okq (⟨"PreCommitHall$Script", "byteHere", "()I"⟩, 10) := ⟨⟨by decide +kernel, by decide +kernel⟩, List.mem_of_getElem? (i := 155) (by decide +kernel), List.mem_of_getElem? (i := 869) (by decide +kernel), List.mem_of_getElem? (i := 870) (by decide +kernel)⟩
def lw_privs_1 : List (MethodName × Nat) := [(⟨"PreCommitHall", "drawnAct", "()I"⟩, 10), (⟨"PreCommitHall", "mixesBy", "(I)LPreCommitHall$Mixes;"⟩, 10), (⟨"PreCommitHall$Search", "reach", "(I)V"⟩, 11), (⟨"PreCommitHall$Search", "noteWay", "()V"⟩, 11), (⟨"PreCommitHall$Search", "lead", "(II)I"⟩, 11), (⟨"PreCommitHall$Search", "worthTrying", "(II)I"⟩, 11), (⟨"PreCommitHall", "feedWord", "(I)V"⟩, 10), (⟨"PreCommitHall$Script", "readDeed", "()V"⟩, 10), (⟨"PreCommitHall$Script", "wordEnd", "()I"⟩, 10), (⟨"PreCommitHall$Script", "failHere", "()V"⟩, 10), (⟨"PreCommitHall$Script", "fail", "(I)V"⟩, 10), (⟨"PreCommitHall$Script", "kindOf", "(II)I"⟩, 10), (⟨"PreCommitHall$Script", "isWord", "(Ljava/lang/String;II)Z"⟩, 10), (⟨"PreCommitHall$Script", "readRest", "(I)Z"⟩, 10), (⟨"PreCommitHall$Script", "readLimit", "()Z"⟩, 10), (⟨"PreCommitHall$Script", "byteHere", "()I"⟩, 10)]
theorem lw_r1 : ∀ q ∈ lw_privs_1, lw_okq q := List.forall_mem_cons.mpr ⟨lw_p0, List.forall_mem_cons.mpr ⟨lw_p1, List.forall_mem_cons.mpr ⟨lw_p2, List.forall_mem_cons.mpr ⟨lw_p3, List.forall_mem_cons.mpr ⟨lw_p4, List.forall_mem_cons.mpr ⟨lw_p5, List.forall_mem_cons.mpr ⟨lw_p6, List.forall_mem_cons.mpr ⟨lw_p7, List.forall_mem_cons.mpr ⟨lw_p8, List.forall_mem_cons.mpr ⟨lw_p9, List.forall_mem_cons.mpr ⟨lw_p10, List.forall_mem_cons.mpr ⟨lw_p11, List.forall_mem_cons.mpr ⟨lw_p12, List.forall_mem_cons.mpr ⟨lw_p13, List.forall_mem_cons.mpr ⟨lw_p14, List.forall_mem_cons.mpr ⟨lw_p15, fun _ h => absurd h List.not_mem_nil⟩⟩⟩⟩⟩⟩⟩⟩⟩⟩⟩⟩⟩⟩⟩⟩
theorem lw_p16 : lw_okq (⟨"PreCommitHall$Script", "isDigitHere", "()Z"⟩, 10) := ⟨⟨by decide +kernel, by decide +kernel⟩, List.mem_of_getElem? (i := 155) (by decide +kernel), List.mem_of_getElem? (i := 873) (by decide +kernel), List.mem_of_getElem? (i := 874) (by decide +kernel)⟩
theorem lw_p17 : lw_okq (⟨"PreCommitHall$Script", "readSite", "()Z"⟩, 10) := ⟨⟨by decide +kernel, by decide +kernel⟩, List.mem_of_getElem? (i := 155) (by decide +kernel), List.mem_of_getElem? (i := 877) (by decide +kernel), List.mem_of_getElem? (i := 878) (by decide +kernel)⟩
theorem lw_p18 : lw_okq (⟨"PreCommitHall$Script", "readByte", "(I)Z"⟩, 10) := ⟨⟨by decide +kernel, by decide +kernel⟩, List.mem_of_getElem? (i := 155) (by decide +kernel), List.mem_of_getElem? (i := 881) (by decide +kernel), List.mem_of_getElem? (i := 882) (by decide +kernel)⟩
theorem lw_p19 : lw_okq (⟨"PreCommitHall$Script", "readVote", "()Z"⟩, 10) := ⟨⟨by decide +kernel, by decide +kernel⟩, List.mem_of_getElem? (i := 155) (by decide +kernel), List.mem_of_getElem? (i := 885) (by decide +kernel), List.mem_of_getElem? (i := 886) (by decide +kernel)⟩
theorem lw_p20 : lw_okq (⟨"PreCommitHall", "doneDeeds", "()I"⟩, 10) := ⟨⟨by decide +kernel, by decide +kernel⟩, List.mem_of_getElem? (i := 19) (by decide +kernel), List.mem_of_getElem? (i := 891) (by decide +kernel), List.mem_of_getElem? (i := 892) (by decide +kernel)⟩
theorem lw_p21 : lw_okq (⟨"PreCommitHall", "doneDeed", "(III)I"⟩, 10) := ⟨⟨by decide +kernel, by decide +kernel⟩, List.mem_of_getElem? (i := 19) (by decide +kernel), List.mem_of_getElem? (i := 895) (by decide +kernel), List.mem_of_getElem? (i := 896) (by decide +kernel)⟩
theorem lw_p22 : lw_okq (⟨"PreCommitHall$Log", "rowOf", "(I)I"⟩, 3) := ⟨⟨by decide +kernel, by decide +kernel⟩, List.mem_of_getElem? (i := 33) (by decide +kernel), List.mem_of_getElem? (i := 915) (by decide +kernel), List.mem_of_getElem? (i := 916) (by decide +kernel)⟩
theorem lw_p23 : lw_okq (⟨"PreCommitHallModel", "laysHall", "(II)V"⟩, 28) := ⟨⟨by decide +kernel, by decide +kernel⟩, List.mem_of_getElem? (i := 957) (by decide +kernel), List.mem_of_getElem? (i := 963) (by decide +kernel), List.mem_of_getElem? (i := 964) (by decide +kernel)⟩
theorem lw_p24 : lw_okq (⟨"PreCommitHallModel", "lays", "(III)V"⟩, 28) := ⟨⟨by decide +kernel, by decide +kernel⟩, List.mem_of_getElem? (i := 957) (by decide +kernel), List.mem_of_getElem? (i := 967) (by decide +kernel), List.mem_of_getElem? (i := 968) (by decide +kernel)⟩
theorem lw_p25 : lw_okq (⟨"PreCommitHallModel", "begins", "()V"⟩, 28) := ⟨⟨by decide +kernel, by decide +kernel⟩, List.mem_of_getElem? (i := 957) (by decide +kernel), List.mem_of_getElem? (i := 1065) (by decide +kernel), List.mem_of_getElem? (i := 1066) (by decide +kernel)⟩
theorem lw_p26 : lw_okq (⟨"PreCommitHallModel", "told", "(I)I"⟩, 28) := ⟨⟨by decide +kernel, by decide +kernel⟩, List.mem_of_getElem? (i := 957) (by decide +kernel), List.mem_of_getElem? (i := 1072) (by decide +kernel), List.mem_of_getElem? (i := 1073) (by decide +kernel)⟩
theorem lw_p27 : lw_okq (⟨"PreCommitHallModel", "notes", "()V"⟩, 28) := ⟨⟨by decide +kernel, by decide +kernel⟩, List.mem_of_getElem? (i := 957) (by decide +kernel), List.mem_of_getElem? (i := 1076) (by decide +kernel), List.mem_of_getElem? (i := 1077) (by decide +kernel)⟩
theorem lw_p28 : lw_okq (⟨"PreCommitHallModel", "votes", "(II)I"⟩, 28) := ⟨⟨by decide +kernel, by decide +kernel⟩, List.mem_of_getElem? (i := 957) (by decide +kernel), List.mem_of_getElem? (i := 1084) (by decide +kernel), List.mem_of_getElem? (i := 1085) (by decide +kernel)⟩
theorem lw_p29 : lw_okq (⟨"PreCommitHallModel", "isSite", "(I)Z"⟩, 28) := ⟨⟨by decide +kernel, by decide +kernel⟩, List.mem_of_getElem? (i := 957) (by decide +kernel), List.mem_of_getElem? (i := 1088) (by decide +kernel), List.mem_of_getElem? (i := 1089) (by decide +kernel)⟩
theorem lw_p30 : lw_okq (⟨"PreCommitHallModel", "at", "(II)I"⟩, 28) := ⟨⟨by decide +kernel, by decide +kernel⟩, List.mem_of_getElem? (i := 957) (by decide +kernel), List.mem_of_getElem? (i := 1092) (by decide +kernel), List.mem_of_getElem? (i := 1093) (by decide +kernel)⟩
theorem lw_p31 : lw_okq (⟨"PreCommitHallModel", "areAllNew", "()Z"⟩, 28) := ⟨⟨by decide +kernel, by decide +kernel⟩, List.mem_of_getElem? (i := 957) (by decide +kernel), List.mem_of_getElem? (i := 1101) (by decide +kernel), List.mem_of_getElem? (i := 1102) (by decide +kernel)⟩
def lw_privs_2 : List (MethodName × Nat) := [(⟨"PreCommitHall$Script", "isDigitHere", "()Z"⟩, 10), (⟨"PreCommitHall$Script", "readSite", "()Z"⟩, 10), (⟨"PreCommitHall$Script", "readByte", "(I)Z"⟩, 10), (⟨"PreCommitHall$Script", "readVote", "()Z"⟩, 10), (⟨"PreCommitHall", "doneDeeds", "()I"⟩, 10), (⟨"PreCommitHall", "doneDeed", "(III)I"⟩, 10), (⟨"PreCommitHall$Log", "rowOf", "(I)I"⟩, 3), (⟨"PreCommitHallModel", "laysHall", "(II)V"⟩, 28), (⟨"PreCommitHallModel", "lays", "(III)V"⟩, 28), (⟨"PreCommitHallModel", "begins", "()V"⟩, 28), (⟨"PreCommitHallModel", "told", "(I)I"⟩, 28), (⟨"PreCommitHallModel", "notes", "()V"⟩, 28), (⟨"PreCommitHallModel", "votes", "(II)I"⟩, 28), (⟨"PreCommitHallModel", "isSite", "(I)Z"⟩, 28), (⟨"PreCommitHallModel", "at", "(II)I"⟩, 28), (⟨"PreCommitHallModel", "areAllNew", "()Z"⟩, 28)]
theorem lw_r2 : ∀ q ∈ lw_privs_2, lw_okq q := List.forall_mem_cons.mpr ⟨lw_p16, List.forall_mem_cons.mpr ⟨lw_p17, List.forall_mem_cons.mpr ⟨lw_p18, List.forall_mem_cons.mpr ⟨lw_p19, List.forall_mem_cons.mpr ⟨lw_p20, List.forall_mem_cons.mpr ⟨lw_p21, List.forall_mem_cons.mpr ⟨lw_p22, List.forall_mem_cons.mpr ⟨lw_p23, List.forall_mem_cons.mpr ⟨lw_p24, List.forall_mem_cons.mpr ⟨lw_p25, List.forall_mem_cons.mpr ⟨lw_p26, List.forall_mem_cons.mpr ⟨lw_p27, List.forall_mem_cons.mpr ⟨lw_p28, List.forall_mem_cons.mpr ⟨lw_p29, List.forall_mem_cons.mpr ⟨lw_p30, List.forall_mem_cons.mpr ⟨lw_p31, fun _ h => absurd h List.not_mem_nil⟩⟩⟩⟩⟩⟩⟩⟩⟩⟩⟩⟩⟩⟩⟩⟩
theorem lw_p32 : lw_okq (⟨"PreCommitHallModel", "thoseOf", "(II)I"⟩, 28) := ⟨⟨by decide +kernel, by decide +kernel⟩, List.mem_of_getElem? (i := 957) (by decide +kernel), List.mem_of_getElem? (i := 1105) (by decide +kernel), List.mem_of_getElem? (i := 1106) (by decide +kernel)⟩
theorem lw_p33 : lw_okq (⟨"PreCommitHallModel", "everyone", "()I"⟩, 28) := ⟨⟨by decide +kernel, by decide +kernel⟩, List.mem_of_getElem? (i := 957) (by decide +kernel), List.mem_of_getElem? (i := 1109) (by decide +kernel), List.mem_of_getElem? (i := 1110) (by decide +kernel)⟩
theorem lw_p34 : lw_okq (⟨"PreCommitHallModel", "weightOf", "(I)I"⟩, 28) := ⟨⟨by decide +kernel, by decide +kernel⟩, List.mem_of_getElem? (i := 957) (by decide +kernel), List.mem_of_getElem? (i := 1113) (by decide +kernel), List.mem_of_getElem? (i := 1114) (by decide +kernel)⟩
theorem lw_p35 : lw_okq (⟨"PreCommitHallModel", "asks", "(I)I"⟩, 28) := ⟨⟨by decide +kernel, by decide +kernel⟩, List.mem_of_getElem? (i := 957) (by decide +kernel), List.mem_of_getElem? (i := 1129) (by decide +kernel), List.mem_of_getElem? (i := 1130) (by decide +kernel)⟩
theorem lw_p36 : lw_okq (⟨"PreCommitHallModel", "opens", "(I)V"⟩, 28) := ⟨⟨by decide +kernel, by decide +kernel⟩, List.mem_of_getElem? (i := 957) (by decide +kernel), List.mem_of_getElem? (i := 1138) (by decide +kernel), List.mem_of_getElem? (i := 1139) (by decide +kernel)⟩
theorem lw_p37 : lw_okq (⟨"PreCommitHallModel", "sendsGone", "()V"⟩, 28) := ⟨⟨by decide +kernel, by decide +kernel⟩, List.mem_of_getElem? (i := 957) (by decide +kernel), List.mem_of_getElem? (i := 1143) (by decide +kernel), List.mem_of_getElem? (i := 1144) (by decide +kernel)⟩
theorem lw_p38 : lw_okq (⟨"PreCommitHallModel", "becomes", "(II)V"⟩, 28) := ⟨⟨by decide +kernel, by decide +kernel⟩, List.mem_of_getElem? (i := 957) (by decide +kernel), List.mem_of_getElem? (i := 1147) (by decide +kernel), List.mem_of_getElem? (i := 1148) (by decide +kernel)⟩
theorem lw_p39 : lw_okq (⟨"PreCommitHallModel", "reaches", "(II)Z"⟩, 28) := ⟨⟨by decide +kernel, by decide +kernel⟩, List.mem_of_getElem? (i := 957) (by decide +kernel), List.mem_of_getElem? (i := 1151) (by decide +kernel), List.mem_of_getElem? (i := 1152) (by decide +kernel)⟩
theorem lw_p40 : lw_okq (⟨"PreCommitHallModel", "failsPerhaps", "(I)V"⟩, 28) := ⟨⟨by decide +kernel, by decide +kernel⟩, List.mem_of_getElem? (i := 957) (by decide +kernel), List.mem_of_getElem? (i := 1155) (by decide +kernel), List.mem_of_getElem? (i := 1156) (by decide +kernel)⟩
theorem lw_p41 : lw_okq (⟨"PreCommitHallModel", "goesDown", "(I)V"⟩, 28) := ⟨⟨by decide +kernel, by decide +kernel⟩, List.mem_of_getElem? (i := 957) (by decide +kernel), List.mem_of_getElem? (i := 1159) (by decide +kernel), List.mem_of_getElem? (i := 1160) (by decide +kernel)⟩
theorem lw_p42 : lw_okq (⟨"PreCommitHallModel", "upWith", "(I)I"⟩, 28) := ⟨⟨by decide +kernel, by decide +kernel⟩, List.mem_of_getElem? (i := 957) (by decide +kernel), List.mem_of_getElem? (i := 1163) (by decide +kernel), List.mem_of_getElem? (i := 1164) (by decide +kernel)⟩
theorem lw_p43 : lw_okq (⟨"PreCommitHallModel", "areDecided", "(I)Z"⟩, 28) := ⟨⟨by decide +kernel, by decide +kernel⟩, List.mem_of_getElem? (i := 957) (by decide +kernel), List.mem_of_getElem? (i := 1167) (by decide +kernel), List.mem_of_getElem? (i := 1168) (by decide +kernel)⟩
theorem lw_p44 : lw_okq (⟨"PreCommitHallModel", "whoIsDecided", "()I"⟩, 28) := ⟨⟨by decide +kernel, by decide +kernel⟩, List.mem_of_getElem? (i := 957) (by decide +kernel), List.mem_of_getElem? (i := 1171) (by decide +kernel), List.mem_of_getElem? (i := 1172) (by decide +kernel)⟩
theorem lw_p45 : lw_okq (⟨"PreCommitHallModel", "prepares", "(I)I"⟩, 28) := ⟨⟨by decide +kernel, by decide +kernel⟩, List.mem_of_getElem? (i := 957) (by decide +kernel), List.mem_of_getElem? (i := 1179) (by decide +kernel), List.mem_of_getElem? (i := 1180) (by decide +kernel)⟩
theorem lw_p46 : lw_okq (⟨"PreCommitHallModel", "commits", "(I)I"⟩, 28) := ⟨⟨by decide +kernel, by decide +kernel⟩, List.mem_of_getElem? (i := 957) (by decide +kernel), List.mem_of_getElem? (i := 1187) (by decide +kernel), List.mem_of_getElem? (i := 1188) (by decide +kernel)⟩
theorem lw_p47 : lw_okq (⟨"PreCommitHallModel", "crashes", "(I)I"⟩, 28) := ⟨⟨by decide +kernel, by decide +kernel⟩, List.mem_of_getElem? (i := 957) (by decide +kernel), List.mem_of_getElem? (i := 1198) (by decide +kernel), List.mem_of_getElem? (i := 1199) (by decide +kernel)⟩
def lw_privs_3 : List (MethodName × Nat) := [(⟨"PreCommitHallModel", "thoseOf", "(II)I"⟩, 28), (⟨"PreCommitHallModel", "everyone", "()I"⟩, 28), (⟨"PreCommitHallModel", "weightOf", "(I)I"⟩, 28), (⟨"PreCommitHallModel", "asks", "(I)I"⟩, 28), (⟨"PreCommitHallModel", "opens", "(I)V"⟩, 28), (⟨"PreCommitHallModel", "sendsGone", "()V"⟩, 28), (⟨"PreCommitHallModel", "becomes", "(II)V"⟩, 28), (⟨"PreCommitHallModel", "reaches", "(II)Z"⟩, 28), (⟨"PreCommitHallModel", "failsPerhaps", "(I)V"⟩, 28), (⟨"PreCommitHallModel", "goesDown", "(I)V"⟩, 28), (⟨"PreCommitHallModel", "upWith", "(I)I"⟩, 28), (⟨"PreCommitHallModel", "areDecided", "(I)Z"⟩, 28), (⟨"PreCommitHallModel", "whoIsDecided", "()I"⟩, 28), (⟨"PreCommitHallModel", "prepares", "(I)I"⟩, 28), (⟨"PreCommitHallModel", "commits", "(I)I"⟩, 28), (⟨"PreCommitHallModel", "crashes", "(I)I"⟩, 28)]
theorem lw_r3 : ∀ q ∈ lw_privs_3, lw_okq q := List.forall_mem_cons.mpr ⟨lw_p32, List.forall_mem_cons.mpr ⟨lw_p33, List.forall_mem_cons.mpr ⟨lw_p34, List.forall_mem_cons.mpr ⟨lw_p35, List.forall_mem_cons.mpr ⟨lw_p36, List.forall_mem_cons.mpr ⟨lw_p37, List.forall_mem_cons.mpr ⟨lw_p38, List.forall_mem_cons.mpr ⟨lw_p39, List.forall_mem_cons.mpr ⟨lw_p40, List.forall_mem_cons.mpr ⟨lw_p41, List.forall_mem_cons.mpr ⟨lw_p42, List.forall_mem_cons.mpr ⟨lw_p43, List.forall_mem_cons.mpr ⟨lw_p44, List.forall_mem_cons.mpr ⟨lw_p45, List.forall_mem_cons.mpr ⟨lw_p46, List.forall_mem_cons.mpr ⟨lw_p47, fun _ h => absurd h List.not_mem_nil⟩⟩⟩⟩⟩⟩⟩⟩⟩⟩⟩⟩⟩⟩⟩⟩
theorem lw_p48 : lw_okq (⟨"PreCommitHallModel", "wakes", "(I)I"⟩, 28) := ⟨⟨by decide +kernel, by decide +kernel⟩, List.mem_of_getElem? (i := 957) (by decide +kernel), List.mem_of_getElem? (i := 1206) (by decide +kernel), List.mem_of_getElem? (i := 1207) (by decide +kernel)⟩
theorem lw_p49 : lw_okq (⟨"PreCommitHallModel", "parts", "(I)I"⟩, 28) := ⟨⟨by decide +kernel, by decide +kernel⟩, List.mem_of_getElem? (i := 957) (by decide +kernel), List.mem_of_getElem? (i := 1214) (by decide +kernel), List.mem_of_getElem? (i := 1215) (by decide +kernel)⟩
theorem lw_p50 : lw_okq (⟨"PreCommitHallModel", "finishes", "(II)I"⟩, 28) := ⟨⟨by decide +kernel, by decide +kernel⟩, List.mem_of_getElem? (i := 957) (by decide +kernel), List.mem_of_getElem? (i := 1222) (by decide +kernel), List.mem_of_getElem? (i := 1223) (by decide +kernel)⟩
theorem lw_p51 : lw_okq (⟨"PreCommitHallModel", "decides", "(II)I"⟩, 28) := ⟨⟨by decide +kernel, by decide +kernel⟩, List.mem_of_getElem? (i := 957) (by decide +kernel), List.mem_of_getElem? (i := 1229) (by decide +kernel), List.mem_of_getElem? (i := 1230) (by decide +kernel)⟩
theorem lw_p52 : lw_okq (⟨"PreCommitHallModel", "ofState", "(II)I"⟩, 28) := ⟨⟨by decide +kernel, by decide +kernel⟩, List.mem_of_getElem? (i := 957) (by decide +kernel), List.mem_of_getElem? (i := 1233) (by decide +kernel), List.mem_of_getElem? (i := 1234) (by decide +kernel)⟩
theorem lw_p53 : lw_okq (⟨"PreCommitHallModel", "goesThrough", "(III)V"⟩, 28) := ⟨⟨by decide +kernel, by decide +kernel⟩, List.mem_of_getElem? (i := 957) (by decide +kernel), List.mem_of_getElem? (i := 1237) (by decide +kernel), List.mem_of_getElem? (i := 1238) (by decide +kernel)⟩
theorem lw_p54 : lw_okq (⟨"PreCommitHallModel", "firstPart", "(II)I"⟩, 28) := ⟨⟨by decide +kernel, by decide +kernel⟩, List.mem_of_getElem? (i := 957) (by decide +kernel), List.mem_of_getElem? (i := 1241) (by decide +kernel), List.mem_of_getElem? (i := 1242) (by decide +kernel)⟩
theorem lw_p55 : lw_okq (⟨"PreCommitHallModel", "recovers", "(I)I"⟩, 28) := ⟨⟨by decide +kernel, by decide +kernel⟩, List.mem_of_getElem? (i := 957) (by decide +kernel), List.mem_of_getElem? (i := 1249) (by decide +kernel), List.mem_of_getElem? (i := 1250) (by decide +kernel)⟩
theorem lw_p56 : lw_okq (⟨"PreCommitHallModel", "isUpAgain", "(I)V"⟩, 28) := ⟨⟨by decide +kernel, by decide +kernel⟩, List.mem_of_getElem? (i := 957) (by decide +kernel), List.mem_of_getElem? (i := 1253) (by decide +kernel), List.mem_of_getElem? (i := 1254) (by decide +kernel)⟩
theorem lw_p57 : lw_okq (⟨"PreCommitHallModel", "rescues", "(I)I"⟩, 28) := ⟨⟨by decide +kernel, by decide +kernel⟩, List.mem_of_getElem? (i := 957) (by decide +kernel), List.mem_of_getElem? (i := 1261) (by decide +kernel), List.mem_of_getElem? (i := 1262) (by decide +kernel)⟩
theorem lw_p58 : lw_okq (⟨"PreCommitHallModel", "lastOf", "(I)I"⟩, 28) := ⟨⟨by decide +kernel, by decide +kernel⟩, List.mem_of_getElem? (i := 957) (by decide +kernel), List.mem_of_getElem? (i := 1265) (by decide +kernel), List.mem_of_getElem? (i := 1266) (by decide +kernel)⟩
theorem lw_p59 : lw_okq (⟨"PreCommitHallModel", "hasLast", "(I)Z"⟩, 28) := ⟨⟨by decide +kernel, by decide +kernel⟩, List.mem_of_getElem? (i := 957) (by decide +kernel), List.mem_of_getElem? (i := 1269) (by decide +kernel), List.mem_of_getElem? (i := 1270) (by decide +kernel)⟩
theorem lw_p60 : lw_okq (⟨"PreCommitHallModel", "wouldBe", "(I)I"⟩, 28) := ⟨⟨by decide +kernel, by decide +kernel⟩, List.mem_of_getElem? (i := 957) (by decide +kernel), List.mem_of_getElem? (i := 1281) (by decide +kernel), List.mem_of_getElem? (i := 1282) (by decide +kernel)⟩
theorem lw_p61 : lw_okq (⟨"PreCommitHallModel", "isBlocked", "(I)Z"⟩, 28) := ⟨⟨by decide +kernel, by decide +kernel⟩, List.mem_of_getElem? (i := 957) (by decide +kernel), List.mem_of_getElem? (i := 1293) (by decide +kernel), List.mem_of_getElem? (i := 1294) (by decide +kernel)⟩
theorem lw_p62 : lw_okq (⟨"PreCommitHallModel", "isSet", "(I)Z"⟩, 28) := ⟨⟨by decide +kernel, by decide +kernel⟩, List.mem_of_getElem? (i := 957) (by decide +kernel), List.mem_of_getElem? (i := 1301) (by decide +kernel), List.mem_of_getElem? (i := 1302) (by decide +kernel)⟩
theorem lw_p63 : lw_okq (⟨"PreCommitHallModel", "endsBy", "(I)I"⟩, 28) := ⟨⟨by decide +kernel, by decide +kernel⟩, List.mem_of_getElem? (i := 957) (by decide +kernel), List.mem_of_getElem? (i := 1309) (by decide +kernel), List.mem_of_getElem? (i := 1310) (by decide +kernel)⟩
def lw_privs_4 : List (MethodName × Nat) := [(⟨"PreCommitHallModel", "wakes", "(I)I"⟩, 28), (⟨"PreCommitHallModel", "parts", "(I)I"⟩, 28), (⟨"PreCommitHallModel", "finishes", "(II)I"⟩, 28), (⟨"PreCommitHallModel", "decides", "(II)I"⟩, 28), (⟨"PreCommitHallModel", "ofState", "(II)I"⟩, 28), (⟨"PreCommitHallModel", "goesThrough", "(III)V"⟩, 28), (⟨"PreCommitHallModel", "firstPart", "(II)I"⟩, 28), (⟨"PreCommitHallModel", "recovers", "(I)I"⟩, 28), (⟨"PreCommitHallModel", "isUpAgain", "(I)V"⟩, 28), (⟨"PreCommitHallModel", "rescues", "(I)I"⟩, 28), (⟨"PreCommitHallModel", "lastOf", "(I)I"⟩, 28), (⟨"PreCommitHallModel", "hasLast", "(I)Z"⟩, 28), (⟨"PreCommitHallModel", "wouldBe", "(I)I"⟩, 28), (⟨"PreCommitHallModel", "isBlocked", "(I)Z"⟩, 28), (⟨"PreCommitHallModel", "isSet", "(I)Z"⟩, 28), (⟨"PreCommitHallModel", "endsBy", "(I)I"⟩, 28)]
theorem lw_r4 : ∀ q ∈ lw_privs_4, lw_okq q := List.forall_mem_cons.mpr ⟨lw_p48, List.forall_mem_cons.mpr ⟨lw_p49, List.forall_mem_cons.mpr ⟨lw_p50, List.forall_mem_cons.mpr ⟨lw_p51, List.forall_mem_cons.mpr ⟨lw_p52, List.forall_mem_cons.mpr ⟨lw_p53, List.forall_mem_cons.mpr ⟨lw_p54, List.forall_mem_cons.mpr ⟨lw_p55, List.forall_mem_cons.mpr ⟨lw_p56, List.forall_mem_cons.mpr ⟨lw_p57, List.forall_mem_cons.mpr ⟨lw_p58, List.forall_mem_cons.mpr ⟨lw_p59, List.forall_mem_cons.mpr ⟨lw_p60, List.forall_mem_cons.mpr ⟨lw_p61, List.forall_mem_cons.mpr ⟨lw_p62, List.forall_mem_cons.mpr ⟨lw_p63, fun _ h => absurd h List.not_mem_nil⟩⟩⟩⟩⟩⟩⟩⟩⟩⟩⟩⟩⟩⟩⟩⟩
theorem lw_p64 : lw_okq (⟨"PreCommitHallModel", "standsWithout", "(I)Z"⟩, 28) := ⟨⟨by decide +kernel, by decide +kernel⟩, List.mem_of_getElem? (i := 957) (by decide +kernel), List.mem_of_getElem? (i := 1317) (by decide +kernel), List.mem_of_getElem? (i := 1318) (by decide +kernel)⟩
theorem lw_p65 : lw_okq (⟨"PreCommitHallModel", "hasQuorum", "(II)Z"⟩, 28) := ⟨⟨by decide +kernel, by decide +kernel⟩, List.mem_of_getElem? (i := 957) (by decide +kernel), List.mem_of_getElem? (i := 1333) (by decide +kernel), List.mem_of_getElem? (i := 1334) (by decide +kernel)⟩
theorem lw_p66 : lw_okq (⟨"PreCommitHallModel", "isLeast", "(II)Z"⟩, 28) := ⟨⟨by decide +kernel, by decide +kernel⟩, List.mem_of_getElem? (i := 957) (by decide +kernel), List.mem_of_getElem? (i := 1337) (by decide +kernel), List.mem_of_getElem? (i := 1338) (by decide +kernel)⟩
theorem lw_p67 : lw_okq (⟨"PreCommitHallModel", "wouldNow", "(I)I"⟩, 28) := ⟨⟨by decide +kernel, by decide +kernel⟩, List.mem_of_getElem? (i := 957) (by decide +kernel), List.mem_of_getElem? (i := 1345) (by decide +kernel), List.mem_of_getElem? (i := 1346) (by decide +kernel)⟩
theorem lw_p68 : lw_okq (⟨"PreCommitHallModel", "actDrawn", "()I"⟩, 28) := ⟨⟨by decide +kernel, by decide +kernel⟩, List.mem_of_getElem? (i := 957) (by decide +kernel), List.mem_of_getElem? (i := 1355) (by decide +kernel), List.mem_of_getElem? (i := 1356) (by decide +kernel)⟩
theorem lw_p69 : lw_okq (⟨"PreCommitHallModel", "draw", "(I)I"⟩, 28) := ⟨⟨by decide +kernel, by decide +kernel⟩, List.mem_of_getElem? (i := 957) (by decide +kernel), List.mem_of_getElem? (i := 1359) (by decide +kernel), List.mem_of_getElem? (i := 1360) (by decide +kernel)⟩
theorem lw_p70 : lw_okq (⟨"PreCommitHallModel", "drawK", "()I"⟩, 28) := ⟨⟨by decide +kernel, by decide +kernel⟩, List.mem_of_getElem? (i := 957) (by decide +kernel), List.mem_of_getElem? (i := 1363) (by decide +kernel), List.mem_of_getElem? (i := 1364) (by decide +kernel)⟩
theorem lw_p71 : lw_okq (⟨"PreCommitHallModel", "statesAsDigits", "()I"⟩, 28) := ⟨⟨by decide +kernel, by decide +kernel⟩, List.mem_of_getElem? (i := 957) (by decide +kernel), List.mem_of_getElem? (i := 1367) (by decide +kernel), List.mem_of_getElem? (i := 1368) (by decide +kernel)⟩
theorem lw_p72 : lw_okq (⟨"PreCommitHallModel", "laysMixes", "(I)V"⟩, 28) := ⟨⟨by decide +kernel, by decide +kernel⟩, List.mem_of_getElem? (i := 957) (by decide +kernel), List.mem_of_getElem? (i := 1379) (by decide +kernel), List.mem_of_getElem? (i := 1380) (by decide +kernel)⟩
theorem lw_p73 : lw_okq (⟨"PreCommitHallModel", "standNow", "()I"⟩, 28) := ⟨⟨by decide +kernel, by decide +kernel⟩, List.mem_of_getElem? (i := 957) (by decide +kernel), List.mem_of_getElem? (i := 1383) (by decide +kernel), List.mem_of_getElem? (i := 1384) (by decide +kernel)⟩
theorem lw_p74 : lw_okq (⟨"PreCommitHallModel", "comesTo", "(III)V"⟩, 28) := ⟨⟨by decide +kernel, by decide +kernel⟩, List.mem_of_getElem? (i := 957) (by decide +kernel), List.mem_of_getElem? (i := 1387) (by decide +kernel), List.mem_of_getElem? (i := 1388) (by decide +kernel)⟩
theorem lw_p75 : lw_okq (⟨"PreCommitHallModel", "nextAct", "(II)I"⟩, 28) := ⟨⟨by decide +kernel, by decide +kernel⟩, List.mem_of_getElem? (i := 957) (by decide +kernel), List.mem_of_getElem? (i := 1394) (by decide +kernel), List.mem_of_getElem? (i := 1395) (by decide +kernel)⟩
theorem lw_p76 : lw_okq (⟨"PreCommitHallModel", "laysStand", "(I)V"⟩, 28) := ⟨⟨by decide +kernel, by decide +kernel⟩, List.mem_of_getElem? (i := 957) (by decide +kernel), List.mem_of_getElem? (i := 1398) (by decide +kernel), List.mem_of_getElem? (i := 1399) (by decide +kernel)⟩
theorem lw_p77 : lw_okq (⟨"PreCommitHallModel", "actBy", "(I)I"⟩, 28) := ⟨⟨by decide +kernel, by decide +kernel⟩, List.mem_of_getElem? (i := 957) (by decide +kernel), List.mem_of_getElem? (i := 1402) (by decide +kernel), List.mem_of_getElem? (i := 1403) (by decide +kernel)⟩
theorem lw_p78 : lw_okq (⟨"PreCommitHallModel", "statesOf", "(I)I"⟩, 28) := ⟨⟨by decide +kernel, by decide +kernel⟩, List.mem_of_getElem? (i := 957) (by decide +kernel), List.mem_of_getElem? (i := 1420) (by decide +kernel), List.mem_of_getElem? (i := 1421) (by decide +kernel)⟩
theorem lw_p79 : lw_okq (⟨"PreCommitHallModel", "readsDeed", "()V"⟩, 28) := ⟨⟨by decide +kernel, by decide +kernel⟩, List.mem_of_getElem? (i := 957) (by decide +kernel), List.mem_of_getElem? (i := 1436) (by decide +kernel), List.mem_of_getElem? (i := 1437) (by decide +kernel)⟩
def lw_privs_5 : List (MethodName × Nat) := [(⟨"PreCommitHallModel", "standsWithout", "(I)Z"⟩, 28), (⟨"PreCommitHallModel", "hasQuorum", "(II)Z"⟩, 28), (⟨"PreCommitHallModel", "isLeast", "(II)Z"⟩, 28), (⟨"PreCommitHallModel", "wouldNow", "(I)I"⟩, 28), (⟨"PreCommitHallModel", "actDrawn", "()I"⟩, 28), (⟨"PreCommitHallModel", "draw", "(I)I"⟩, 28), (⟨"PreCommitHallModel", "drawK", "()I"⟩, 28), (⟨"PreCommitHallModel", "statesAsDigits", "()I"⟩, 28), (⟨"PreCommitHallModel", "laysMixes", "(I)V"⟩, 28), (⟨"PreCommitHallModel", "standNow", "()I"⟩, 28), (⟨"PreCommitHallModel", "comesTo", "(III)V"⟩, 28), (⟨"PreCommitHallModel", "nextAct", "(II)I"⟩, 28), (⟨"PreCommitHallModel", "laysStand", "(I)V"⟩, 28), (⟨"PreCommitHallModel", "actBy", "(I)I"⟩, 28), (⟨"PreCommitHallModel", "statesOf", "(I)I"⟩, 28), (⟨"PreCommitHallModel", "readsDeed", "()V"⟩, 28)]
theorem lw_r5 : ∀ q ∈ lw_privs_5, lw_okq q := List.forall_mem_cons.mpr ⟨lw_p64, List.forall_mem_cons.mpr ⟨lw_p65, List.forall_mem_cons.mpr ⟨lw_p66, List.forall_mem_cons.mpr ⟨lw_p67, List.forall_mem_cons.mpr ⟨lw_p68, List.forall_mem_cons.mpr ⟨lw_p69, List.forall_mem_cons.mpr ⟨lw_p70, List.forall_mem_cons.mpr ⟨lw_p71, List.forall_mem_cons.mpr ⟨lw_p72, List.forall_mem_cons.mpr ⟨lw_p73, List.forall_mem_cons.mpr ⟨lw_p74, List.forall_mem_cons.mpr ⟨lw_p75, List.forall_mem_cons.mpr ⟨lw_p76, List.forall_mem_cons.mpr ⟨lw_p77, List.forall_mem_cons.mpr ⟨lw_p78, List.forall_mem_cons.mpr ⟨lw_p79, fun _ h => absurd h List.not_mem_nil⟩⟩⟩⟩⟩⟩⟩⟩⟩⟩⟩⟩⟩⟩⟩⟩
theorem lw_p80 : lw_okq (⟨"PreCommitHallModel", "reads", "(II)I"⟩, 28) := ⟨⟨by decide +kernel, by decide +kernel⟩, List.mem_of_getElem? (i := 957) (by decide +kernel), List.mem_of_getElem? (i := 1440) (by decide +kernel), List.mem_of_getElem? (i := 1441) (by decide +kernel)⟩
theorem lw_p81 : lw_okq (⟨"PreCommitHallModel", "isLetter", "()Z"⟩, 28) := ⟨⟨by decide +kernel, by decide +kernel⟩, List.mem_of_getElem? (i := 957) (by decide +kernel), List.mem_of_getElem? (i := 1444) (by decide +kernel), List.mem_of_getElem? (i := 1445) (by decide +kernel)⟩
theorem lw_p82 : lw_okq (⟨"PreCommitHallModel", "see", "()I"⟩, 28) := ⟨⟨by decide +kernel, by decide +kernel⟩, List.mem_of_getElem? (i := 957) (by decide +kernel), List.mem_of_getElem? (i := 1448) (by decide +kernel), List.mem_of_getElem? (i := 1449) (by decide +kernel)⟩
theorem lw_p83 : lw_okq (⟨"PreCommitHallModel", "fails", "(II)V"⟩, 28) := ⟨⟨by decide +kernel, by decide +kernel⟩, List.mem_of_getElem? (i := 957) (by decide +kernel), List.mem_of_getElem? (i := 1454) (by decide +kernel), List.mem_of_getElem? (i := 1455) (by decide +kernel)⟩
theorem lw_p84 : lw_okq (⟨"PreCommitHallModel", "wordBetween", "(II)I"⟩, 28) := ⟨⟨by decide +kernel, by decide +kernel⟩, List.mem_of_getElem? (i := 957) (by decide +kernel), List.mem_of_getElem? (i := 1458) (by decide +kernel), List.mem_of_getElem? (i := 1459) (by decide +kernel)⟩
theorem lw_p85 : lw_okq (⟨"PreCommitHallModel", "isWord", "(IILjava/lang/String;)Z"⟩, 28) := ⟨⟨by decide +kernel, by decide +kernel⟩, List.mem_of_getElem? (i := 957) (by decide +kernel), List.mem_of_getElem? (i := 1463) (by decide +kernel), List.mem_of_getElem? (i := 1464) (by decide +kernel)⟩
theorem lw_p86 : lw_okq (⟨"PreCommitHallModel", "must", "(I)V"⟩, 28) := ⟨⟨by decide +kernel, by decide +kernel⟩, List.mem_of_getElem? (i := 957) (by decide +kernel), List.mem_of_getElem? (i := 1481) (by decide +kernel), List.mem_of_getElem? (i := 1482) (by decide +kernel)⟩
theorem lw_p87 : lw_okq (⟨"PreCommitHallModel", "readsDigit", "()I"⟩, 28) := ⟨⟨by decide +kernel, by decide +kernel⟩, List.mem_of_getElem? (i := 957) (by decide +kernel), List.mem_of_getElem? (i := 1485) (by decide +kernel), List.mem_of_getElem? (i := 1486) (by decide +kernel)⟩
theorem lw_p88 : lw_okq (⟨"PreCommitHallModel", "isDigit", "()Z"⟩, 28) := ⟨⟨by decide +kernel, by decide +kernel⟩, List.mem_of_getElem? (i := 957) (by decide +kernel), List.mem_of_getElem? (i := 1489) (by decide +kernel), List.mem_of_getElem? (i := 1490) (by decide +kernel)⟩
theorem lw_p89 : lw_okq (⟨"PreCommitHallModel", "passes", "(I)Z"⟩, 28) := ⟨⟨by decide +kernel, by decide +kernel⟩, List.mem_of_getElem? (i := 957) (by decide +kernel), List.mem_of_getElem? (i := 1495) (by decide +kernel), List.mem_of_getElem? (i := 1496) (by decide +kernel)⟩
theorem lw_p90 : lw_okq (⟨"PreCommitHallModel", "does", "(III)I"⟩, 28) := ⟨⟨by decide +kernel, by decide +kernel⟩, List.mem_of_getElem? (i := 957) (by decide +kernel), List.mem_of_getElem? (i := 1499) (by decide +kernel), List.mem_of_getElem? (i := 1500) (by decide +kernel)⟩
def lw_privs_6 : List (MethodName × Nat) := [(⟨"PreCommitHallModel", "reads", "(II)I"⟩, 28), (⟨"PreCommitHallModel", "isLetter", "()Z"⟩, 28), (⟨"PreCommitHallModel", "see", "()I"⟩, 28), (⟨"PreCommitHallModel", "fails", "(II)V"⟩, 28), (⟨"PreCommitHallModel", "wordBetween", "(II)I"⟩, 28), (⟨"PreCommitHallModel", "isWord", "(IILjava/lang/String;)Z"⟩, 28), (⟨"PreCommitHallModel", "must", "(I)V"⟩, 28), (⟨"PreCommitHallModel", "readsDigit", "()I"⟩, 28), (⟨"PreCommitHallModel", "isDigit", "()Z"⟩, 28), (⟨"PreCommitHallModel", "passes", "(I)Z"⟩, 28), (⟨"PreCommitHallModel", "does", "(III)I"⟩, 28)]
theorem lw_r6 : ∀ q ∈ lw_privs_6, lw_okq q := List.forall_mem_cons.mpr ⟨lw_p80, List.forall_mem_cons.mpr ⟨lw_p81, List.forall_mem_cons.mpr ⟨lw_p82, List.forall_mem_cons.mpr ⟨lw_p83, List.forall_mem_cons.mpr ⟨lw_p84, List.forall_mem_cons.mpr ⟨lw_p85, List.forall_mem_cons.mpr ⟨lw_p86, List.forall_mem_cons.mpr ⟨lw_p87, List.forall_mem_cons.mpr ⟨lw_p88, List.forall_mem_cons.mpr ⟨lw_p89, List.forall_mem_cons.mpr ⟨lw_p90, fun _ h => absurd h List.not_mem_nil⟩⟩⟩⟩⟩⟩⟩⟩⟩⟩⟩
def lw_privs : List (MethodName × Nat) := lw_privs_1 ++ (lw_privs_2 ++ (lw_privs_3 ++ (lw_privs_4 ++ (lw_privs_5 ++ (lw_privs_6)))))
def lw_tbl : List Cond := k2_sels lw_privs ++ tables_1
theorem lw_privs_ok : ∀ q ∈ lw_privs, lw_okq q := by
  show ∀ q ∈ lw_privs_1 ++ (lw_privs_2 ++ (lw_privs_3 ++ (lw_privs_4 ++ (lw_privs_5 ++ (lw_privs_6))))), lw_okq q
  exact List.forall_mem_append.mpr ⟨lw_r1, List.forall_mem_append.mpr ⟨lw_r2, List.forall_mem_append.mpr ⟨lw_r3, List.forall_mem_append.mpr ⟨lw_r4, List.forall_mem_append.mpr ⟨lw_r5, lw_r6⟩⟩⟩⟩⟩
-- ===== end of PART A; then your names; then what follows =====
end
section
/-! THE TABLES OF THE ABSTRACT MACHINE, by program (wip/whole/gentab2.py) out of claim/Statement.lean -/
abbrev a_Rw : Type := Instr × Nat × Nat × Nat × Int32
def a_cn : Nat → String := fun k => match k with
  | 0 => "PreCommitHall"
  | 1 => "PreCommitHall$Hall"
  | 2 => "PreCommitHall$Log"
  | 3 => "PreCommitHall$Past"
  | 4 => "PreCommitHall$Script"
  | 5 => "PreCommitHall$Draws"
  | 6 => "PreCommitHall$Search"
  | 7 => "PreCommitHall$Mixes"
  | 8 => "PreCommitHallModel"
  | 9 => "java/lang/String"
  | 10 => "PreCommitHallLaw"
  | 11 => "java/util/Arrays"
  | 12 => "java/lang/Math"
  | 13 => "java/lang/Integer"
  | 14 => "java/lang/StringLatin1"
  | _ => "jdk/internal/util/Preconditions"
def a_T0 : u_T := fun k => match k with
  | 0 => ("PreCommitHall", "now", "LPreCommitHall$Hall;", true)
  | 1 => ("PreCommitHall", "paper", "LPreCommitHall$Hall;", true)
  | 2 => ("PreCommitHall", "past", "LPreCommitHall$Past;", true)
  | 3 => ("PreCommitHall", "images", "[LPreCommitHall$Hall;", true)
  | 4 => ("PreCommitHall", "imaged", "[Z", true)
  | 5 => ("PreCommitHall", "tape", "[B", true)
  | 6 => ("PreCommitHall", "fed", "I", false)
  | 7 => ("PreCommitHall", "text", "LPreCommitHall$Script;", true)
  | 8 => ("PreCommitHall", "draws", "LPreCommitHall$Draws;", true)
  | _ => ("PreCommitHall", "search", "LPreCommitHall$Search;", true)
def a_ty0 : Nat → FieldType := fun k => match k with
  | 0 => .object "PreCommitHall$Hall"
  | 1 => .object "PreCommitHall$Hall"
  | 2 => .object "PreCommitHall$Past"
  | 3 => .array (.object "PreCommitHall$Hall")
  | 4 => .array .boolean
  | 5 => .array .byte
  | 6 => .int
  | 7 => .object "PreCommitHall$Script"
  | 8 => .object "PreCommitHall$Draws"
  | _ => .object "PreCommitHall$Search"
def a_T1 : u_T := fun k => match k with
  | 0 => ("PreCommitHall$Hall", "n", "I", false)
  | 1 => ("PreCommitHall$Hall", "form", "I", false)
  | 2 => ("PreCommitHall$Hall", "phase", "I", false)
  | 3 => ("PreCommitHall$Hall", "yes", "I", false)
  | 4 => ("PreCommitHall$Hall", "no", "I", false)
  | 5 => ("PreCommitHall$Hall", "state", "[I", true)
  | 6 => ("PreCommitHall$Hall", "up", "[I", true)
  | 7 => ("PreCommitHall$Hall", "group", "[I", true)
  | 8 => ("PreCommitHall$Hall", "votes", "[I", true)
  | 9 => ("PreCommitHall$Hall", "weights", "[I", true)
  | 10 => ("PreCommitHall$Hall", "knows", "[I", true)
  | 11 => ("PreCommitHall$Hall", "log", "LPreCommitHall$Log;", true)
  | 12 => ("PreCommitHall$Hall", "limit", "I", false)
  | _ => ("PreCommitHall$Hall", "sent", "I", false)
def a_ty1 : Nat → FieldType := fun k => match k with
  | 0 => .int
  | 1 => .int
  | 2 => .int
  | 3 => .int
  | 4 => .int
  | 5 => .array .int
  | 6 => .array .int
  | 7 => .array .int
  | 8 => .array .int
  | 9 => .array .int
  | 10 => .array .int
  | 11 => .object "PreCommitHall$Log"
  | 12 => .int
  | _ => .int
def a_T2 : u_T := fun k => match k with
  | 0 => ("PreCommitHall$Log", "rows", "[I", true)
  | 1 => ("PreCommitHall$Log", "eldest", "I", false)
  | _ => ("PreCommitHall$Log", "size", "I", false)
def a_ty2 : Nat → FieldType := fun k => match k with
  | 0 => .array .int
  | 1 => .int
  | _ => .int
def a_T3 : u_T := fun k => match k with
  | 0 => ("PreCommitHall$Past", "halls", "[LPreCommitHall$Hall;", true)
  | 1 => ("PreCommitHall$Past", "next", "I", false)
  | _ => ("PreCommitHall$Past", "size", "I", false)
def a_ty3 : Nat → FieldType := fun k => match k with
  | 0 => .array (.object "PreCommitHall$Hall")
  | 1 => .int
  | _ => .int
def a_T4 : u_T := fun k => match k with
  | 0 => ("PreCommitHall$Script", "kinds", "[I", true)
  | 1 => ("PreCommitHall$Script", "sites", "[I", true)
  | 2 => ("PreCommitHall$Script", "extras", "[I", true)
  | 3 => ("PreCommitHall$Script", "deeds", "I", false)
  | 4 => ("PreCommitHall$Script", "fault", "I", false)
  | 5 => ("PreCommitHall$Script", "place", "I", false)
  | 6 => ("PreCommitHall$Script", "told", "I", false)
  | 7 => ("PreCommitHall$Script", "bytes", "[B", true)
  | 8 => ("PreCommitHall$Script", "length", "I", false)
  | _ => ("PreCommitHall$Script", "at", "I", false)
def a_ty4 : Nat → FieldType := fun k => match k with
  | 0 => .array .int
  | 1 => .array .int
  | 2 => .array .int
  | 3 => .int
  | 4 => .int
  | 5 => .int
  | 6 => .int
  | 7 => .array .byte
  | 8 => .int
  | _ => .int
def a_T5 : u_T := fun k => match k with
  | _ => ("PreCommitHall$Draws", "x", "I", false)
def a_ty5 : Nat → FieldType := fun k => match k with
  | _ => .int
def a_T6 : u_T := fun k => match k with
  | 0 => ("PreCommitHall$Search", "hall", "LPreCommitHall$Hall;", true)
  | 1 => ("PreCommitHall$Search", "seen", "[I", true)
  | 2 => ("PreCommitHall$Search", "stands", "[I", true)
  | 3 => ("PreCommitHall$Search", "befores", "[I", true)
  | 4 => ("PreCommitHall$Search", "acts", "[I", true)
  | 5 => ("PreCommitHall$Search", "depths", "[I", true)
  | 6 => ("PreCommitHall$Search", "size", "I", false)
  | 7 => ("PreCommitHall$Search", "from", "I", false)
  | 8 => ("PreCommitHall$Search", "together", "LPreCommitHall$Mixes;", true)
  | 9 => ("PreCommitHall$Search", "parted", "LPreCommitHall$Mixes;", true)
  | _ => ("PreCommitHall$Search", "found", "LPreCommitHall$Mixes;", false)
def a_ty6 : Nat → FieldType := fun k => match k with
  | 0 => .object "PreCommitHall$Hall"
  | 1 => .array .int
  | 2 => .array .int
  | 3 => .array .int
  | 4 => .array .int
  | 5 => .array .int
  | 6 => .int
  | 7 => .int
  | 8 => .object "PreCommitHall$Mixes"
  | 9 => .object "PreCommitHall$Mixes"
  | _ => .object "PreCommitHall$Mixes"
def a_T7 : u_T := fun k => match k with
  | 0 => ("PreCommitHall$Mixes", "key", "I", false)
  | 1 => ("PreCommitHall$Mixes", "steps", "[I", true)
  | 2 => ("PreCommitHall$Mixes", "beside", "[I", true)
  | 3 => ("PreCommitHall$Mixes", "way", "[I", true)
  | 4 => ("PreCommitHall$Mixes", "wayLength", "I", false)
  | 5 => ("PreCommitHall$Mixes", "size", "I", false)
  | 6 => ("PreCommitHall$Mixes", "unlike", "I", false)
  | _ => ("PreCommitHall$Mixes", "most", "I", false)
def a_ty7 : Nat → FieldType := fun k => match k with
  | 0 => .int
  | 1 => .array .int
  | 2 => .array .int
  | 3 => .array .int
  | 4 => .int
  | 5 => .int
  | 6 => .int
  | _ => .int
def a_T8 : u_T := fun k => match k with
  | 0 => ("PreCommitHallModel", "thrown", "I", false)
  | 1 => ("PreCommitHallModel", "all", "[I", true)
  | 2 => ("PreCommitHallModel", "deeds", "[I", true)
  | 3 => ("PreCommitHallModel", "trial", "[I", true)
  | 4 => ("PreCommitHallModel", "acts", "[I", true)
  | 5 => ("PreCommitHallModel", "deedMany", "I", false)
  | 6 => ("PreCommitHallModel", "hasImage", "[Z", true)
  | 7 => ("PreCommitHallModel", "sent", "I", false)
  | 8 => ("PreCommitHallModel", "failAt", "I", false)
  | 9 => ("PreCommitHallModel", "hasFailed", "Z", false)
  | 10 => ("PreCommitHallModel", "drawn", "I", false)
  | 11 => ("PreCommitHallModel", "farOf", "[I", true)
  | 12 => ("PreCommitHallModel", "actTo", "[I", true)
  | 13 => ("PreCommitHallModel", "cameFrom", "[I", true)
  | 14 => ("PreCommitHallModel", "queue", "[I", true)
  | 15 => ("PreCommitHallModel", "mixFar", "[I", true)
  | 16 => ("PreCommitHallModel", "found", "I", false)
  | 17 => ("PreCommitHallModel", "tape", "[I", true)
  | 18 => ("PreCommitHallModel", "taped", "I", false)
  | 19 => ("PreCommitHallModel", "size", "I", false)
  | 20 => ("PreCommitHallModel", "spot", "I", false)
  | 21 => ("PreCommitHallModel", "wrong", "I", false)
  | 22 => ("PreCommitHallModel", "wrongAt", "I", false)
  | 23 => ("PreCommitHallModel", "refusedBy", "I", false)
  | 24 => ("PreCommitHallModel", "deedWhat", "[I", true)
  | 25 => ("PreCommitHallModel", "deedOne", "[I", true)
  | 26 => ("PreCommitHallModel", "deedOther", "[I", true)
  | _ => ("PreCommitHallModel", "deedsTold", "I", false)
def a_ty8 : Nat → FieldType := fun k => match k with
  | 0 => .int
  | 1 => .array .int
  | 2 => .array .int
  | 3 => .array .int
  | 4 => .array .int
  | 5 => .int
  | 6 => .array .boolean
  | 7 => .int
  | 8 => .int
  | 9 => .boolean
  | 10 => .int
  | 11 => .array .int
  | 12 => .array .int
  | 13 => .array .int
  | 14 => .array .int
  | 15 => .array .int
  | 16 => .int
  | 17 => .array .int
  | 18 => .int
  | 19 => .int
  | 20 => .int
  | 21 => .int
  | 22 => .int
  | 23 => .int
  | 24 => .array .int
  | 25 => .array .int
  | 26 => .array .int
  | _ => .int
def a_T : Nat → u_T := fun c => match c with
  | 0 => a_T0
  | 1 => a_T1
  | 2 => a_T2
  | 3 => a_T3
  | 4 => a_T4
  | 5 => a_T5
  | 6 => a_T6
  | 7 => a_T7
  | _ => a_T8
def a_ty : Nat → Nat → FieldType := fun c => match c with
  | 0 => a_ty0
  | 1 => a_ty1
  | 2 => a_ty2
  | 3 => a_ty3
  | 4 => a_ty4
  | 5 => a_ty5
  | 6 => a_ty6
  | 7 => a_ty7
  | _ => a_ty8
def a_fn : Nat → Nat := fun c => match c with
  | 0 => 10
  | 1 => 14
  | 2 => 3
  | 3 => 3
  | 4 => 10
  | 5 => 1
  | 6 => 11
  | 7 => 8
  | _ => 28
/-- 0 a whole number, 1 a reference, 2 a boolean -/
def a_fkl : List (List Nat) := [[1, 1, 1, 1, 1, 1, 0, 1, 1, 1], [0, 0, 0, 0, 0, 1, 1, 1, 1, 1, 1, 1, 0, 0], [1, 0, 0], [1, 0, 0], [1, 1, 1, 0, 0, 0, 0, 1, 0, 0], [0], [1, 1, 1, 1, 1, 1, 0, 0, 1, 1, 1], [0, 1, 1, 1, 0, 0, 0, 0], [0, 1, 1, 1, 1, 0, 1, 0, 0, 2, 0, 1, 1, 1, 1, 1, 0, 1, 0, 0, 0, 0, 0, 0, 1, 1, 1, 0]]
def a_fk (c k : Nat) : Nat := (a_fkl.getD c []).getD k 0
abbrev a_cl : List vw_C := [(a_cn 0, a_T 0, 10), (a_cn 1, a_T 1, 14), (a_cn 2, a_T 2, 3), (a_cn 3, a_T 3, 3), (a_cn 4, a_T 4, 10), (a_cn 5, a_T 5, 1), (a_cn 6, a_T 6, 11), (a_cn 7, a_T 7, 8), (a_cn 8, a_T 8, 28)]
def a_ms : List (MethodName × ByteArray × Nat × Option FieldType × Nat × Nat × Nat) := [
  (⟨a_cn 0, "<init>", "()V"⟩, prog_1_method_1_code, 2, none, 0, 4, 81),
  (⟨a_cn 0, "begin", "(II)I"⟩, prog_1_method_2_code, 3, some (FieldType.int), 0, 4, 95),
  (⟨a_cn 0, "vote", "(II)I"⟩, prog_1_method_3_code, 3, some (FieldType.int), 0, 4, 95),
  (⟨a_cn 0, "weight", "(II)I"⟩, prog_1_method_4_code, 3, some (FieldType.int), 0, 4, 95),
  (⟨a_cn 0, "quorum", "(II)I"⟩, prog_1_method_5_code, 3, some (FieldType.int), 0, 4, 95),
  (⟨a_cn 0, "ask", "(I)I"⟩, prog_1_method_6_code, 2, some (FieldType.int), 0, 4, 95),
  (⟨a_cn 0, "prepare", "(I)I"⟩, prog_1_method_7_code, 2, some (FieldType.int), 0, 4, 96),
  (⟨a_cn 0, "commit", "(I)I"⟩, prog_1_method_8_code, 2, some (FieldType.int), 0, 4, 95),
  (⟨a_cn 0, "crash", "(I)I"⟩, prog_1_method_9_code, 2, some (FieldType.int), 0, 4, 95),
  (⟨a_cn 0, "wake", "(I)I"⟩, prog_1_method_10_code, 2, some (FieldType.int), 0, 4, 95),
  (⟨a_cn 0, "part", "(I)I"⟩, prog_1_method_11_code, 2, some (FieldType.int), 0, 4, 95),
  (⟨a_cn 0, "finish", "(II)I"⟩, prog_1_method_12_code, 3, some (FieldType.int), 0, 5, 123),
  (⟨a_cn 0, "recover", "(I)I"⟩, prog_1_method_13_code, 2, some (FieldType.int), 0, 4, 95),
  (⟨a_cn 0, "rescue", "(I)I"⟩, prog_1_method_14_code, 2, some (FieldType.int), 0, 5, 125),
  (⟨a_cn 0, "site", "(II)I"⟩, prog_1_method_15_code, 3, some (FieldType.int), 0, 1, 21),
  (⟨a_cn 0, "would", "(I)I"⟩, prog_1_method_16_code, 2, some (FieldType.int), 0, 3, 68),
  (⟨a_cn 0, "messages", "(I)I"⟩, prog_1_method_17_code, 4, some (FieldType.int), 0, 4, 89),
  (⟨a_cn 0, "blocked", "()I"⟩, prog_1_method_18_code, 1, some (FieldType.int), 0, 3, 71),
  (⟨a_cn 0, "could", "(I)I"⟩, prog_1_method_19_code, 2, some (FieldType.int), 0, 3, 68),
  (⟨a_cn 0, "split", "()I"⟩, prog_1_method_20_code, 5, some (FieldType.int), 0, 3, 69),
  (⟨a_cn 0, "stands", "(I)I"⟩, prog_1_method_21_code, 6, some (FieldType.int), 0, 3, 71),
  (⟨a_cn 0, "sets", "(I)I"⟩, prog_1_method_22_code, 5, some (FieldType.int), 0, 2, 46),
  (⟨a_cn 0, "ends", "(III)I"⟩, prog_1_method_23_code, 5, some (FieldType.int), 0, 5, 123),
  (⟨a_cn 0, "years", "(III)I"⟩, prog_1_method_24_code, 6, some (FieldType.int), 0, 6, 145),
  (⟨a_cn 0, "drawnAct", "()I"⟩, prog_1_method_44_code, 3, some (FieldType.int), 0, 5, 123),
  (⟨a_cn 0, "last", "(I)I"⟩, prog_1_method_25_code, 2, some (FieldType.int), 0, 2, 43),
  (⟨a_cn 0, "fewest", "()I"⟩, prog_1_method_26_code, 4, some (FieldType.int), 0, 3, 65),
  (⟨a_cn 0, "those", "(I)I"⟩, prog_1_method_27_code, 2, some (FieldType.int), 0, 2, 43),
  (⟨a_cn 0, "mixes", "(II)I"⟩, prog_1_method_28_code, 4, some (FieldType.int), 0, 7, 170),
  (⟨a_cn 0, "mixesBy", "(I)LPreCommitHall$Mixes;"⟩, prog_1_method_45_code, 5, some ((FieldType.object "PreCommitHall$Mixes")), 0, 6, 146),
  (⟨a_cn 0, "steps", "(III)I"⟩, prog_1_method_29_code, 5, some (FieldType.int), 0, 7, 170),
  (⟨a_cn 0, "beside", "(II)I"⟩, prog_1_method_30_code, 3, some (FieldType.int), 0, 7, 170),
  (⟨a_cn 0, "way", "(II)I"⟩, prog_1_method_31_code, 4, some (FieldType.int), 0, 7, 170),
  (⟨a_cn 0, "feed", "(IIIII)I"⟩, prog_1_method_32_code, 6, some (FieldType.int), 0, 1, 22),
  (⟨a_cn 0, "feedWord", "(I)V"⟩, prog_1_method_41_code, 3, none, 0, 0, 0),
  (⟨a_cn 0, "script", "(I)I"⟩, prog_1_method_33_code, 3, some (FieldType.int), 0, 9, 197),
  (⟨a_cn 0, "doneDeeds", "()I"⟩, prog_1_method_42_code, 4, some (FieldType.int), 0, 6, 148),
  (⟨a_cn 0, "doneDeed", "(III)I"⟩, prog_1_method_43_code, 4, some (FieldType.int), 0, 5, 125),
  (⟨a_cn 0, "fault", "(I)I"⟩, prog_1_method_34_code, 2, some (FieldType.int), 0, 0, 0),
  (⟨a_cn 0, "lines", "()I"⟩, prog_1_method_35_code, 1, some (FieldType.int), 0, 0, 0),
  (⟨a_cn 0, "sign", "(II)I"⟩, prog_1_method_36_code, 3, some (FieldType.int), 0, 5, 112),
  (⟨a_cn 0, "undo", "(I)I"⟩, prog_1_method_37_code, 2, some (FieldType.int), 0, 4, 96),
  (⟨a_cn 0, "image", "(I)I"⟩, prog_1_method_38_code, 2, some (FieldType.int), 0, 3, 74),
  (⟨a_cn 0, "restore", "(I)I"⟩, prog_1_method_39_code, 2, some (FieldType.int), 0, 3, 74),
  (⟨a_cn 0, "count", "(I)I"⟩, prog_1_method_40_code, 2, some (FieldType.int), 0, 1, 23),
  (⟨a_cn 1, "<init>", "()V"⟩, prog_3_method_1_code, 1, none, 1, 2, 40),
  (⟨a_cn 1, "open", "(II)V"⟩, prog_3_method_2_code, 3, none, 1, 2, 44),
  (⟨a_cn 1, "all", "()I"⟩, prog_3_method_5_code, 1, some (FieldType.int), 1, 0, 0),
  (⟨a_cn 1, "halveQuorums", "()V"⟩, prog_3_method_18_code, 2, none, 1, 1, 23),
  (⟨a_cn 1, "weightOf", "(I)I"⟩, prog_3_method_16_code, 4, some (FieldType.int), 1, 0, 0),
  (⟨a_cn 1, "take", "(LPreCommitHall$Hall;)V"⟩, prog_3_method_3_code, 2, none, 1, 2, 53),
  (⟨a_cn 1, "takeTerms", "(LPreCommitHall$Hall;)V"⟩, prog_3_method_4_code, 2, none, 1, 1, 32),
  (⟨a_cn 1, "tellVote", "(II)I"⟩, prog_3_method_30_code, 4, some (FieldType.int), 1, 1, 21),
  (⟨a_cn 1, "isSite", "(I)Z"⟩, prog_3_method_6_code, 2, some (FieldType.boolean), 1, 0, 0),
  (⟨a_cn 1, "tellWeight", "(II)I"⟩, prog_3_method_31_code, 4, some (FieldType.int), 1, 2, 44),
  (⟨a_cn 1, "statesIn", "(I)I"⟩, prog_3_method_15_code, 4, some (FieldType.int), 1, 0, 0),
  (⟨a_cn 1, "tellQuorums", "(II)I"⟩, prog_3_method_32_code, 4, some (FieldType.int), 1, 1, 23),
  (⟨a_cn 1, "askAll", "(I)I"⟩, prog_3_method_33_code, 2, some (FieldType.int), 1, 3, 73),
  (⟨a_cn 1, "isLimit", "(I)Z"⟩, prog_3_method_8_code, 2, some (FieldType.boolean), 1, 0, 0),
  (⟨a_cn 1, "leads", "(II)Z"⟩, prog_3_method_36_code, 3, some (FieldType.boolean), 1, 0, 0),
  (⟨a_cn 1, "startAct", "(I)V"⟩, prog_3_method_44_code, 2, none, 1, 0, 0),
  (⟨a_cn 1, "failsIn", "(IIII)Z"⟩, prog_3_method_45_code, 6, some (FieldType.boolean), 1, 2, 48),
  (⟨a_cn 1, "turn", "(III)V"⟩, prog_3_method_46_code, 6, none, 1, 1, 23),
  (⟨a_cn 1, "goDown", "(I)V"⟩, prog_3_method_47_code, 3, none, 1, 0, 0),
  (⟨a_cn 1, "prepareAll", "(I)I"⟩, prog_3_method_34_code, 4, some (FieldType.int), 1, 3, 73),
  (⟨a_cn 1, "sitesThatAre", "(I)I"⟩, prog_3_method_14_code, 4, some (FieldType.int), 1, 0, 0),
  (⟨a_cn 1, "commitAll", "(I)I"⟩, prog_3_method_35_code, 2, some (FieldType.int), 1, 3, 73),
  (⟨a_cn 1, "crashSite", "(I)I"⟩, prog_3_method_37_code, 2, some (FieldType.int), 1, 2, 43),
  (⟨a_cn 1, "upBits", "()I"⟩, prog_3_method_10_code, 1, some (FieldType.int), 1, 1, 23),
  (⟨a_cn 1, "sitesStanding", "(I)I"⟩, prog_3_method_11_code, 4, some (FieldType.int), 1, 0, 0),
  (⟨a_cn 1, "wakeSite", "(I)I"⟩, prog_3_method_38_code, 2, some (FieldType.int), 1, 1, 21),
  (⟨a_cn 1, "partAll", "(I)I"⟩, prog_3_method_39_code, 5, some (FieldType.int), 1, 1, 20),
  (⟨a_cn 1, "finishBy", "(II)I"⟩, prog_3_method_40_code, 5, some (FieldType.int), 1, 4, 99),
  (⟨a_cn 1, "upIn", "(I)I"⟩, prog_3_method_13_code, 2, some (FieldType.int), 1, 2, 43),
  (⟨a_cn 1, "sitesIn", "(I)I"⟩, prog_3_method_12_code, 4, some (FieldType.int), 1, 0, 0),
  (⟨a_cn 1, "lowest", "(I)I"⟩, prog_3_method_9_code, 3, some (FieldType.int), 1, 0, 0),
  (⟨a_cn 1, "allDecided", "(I)Z"⟩, prog_3_method_23_code, 2, some (FieldType.boolean), 1, 1, 23),
  (⟨a_cn 1, "verdict", "(II)I"⟩, prog_3_method_24_code, 5, some (FieldType.int), 1, 1, 23),
  (⟨a_cn 1, "turnedToPre", "()I"⟩, prog_3_method_25_code, 1, some (FieldType.int), 1, 0, 0),
  (⟨a_cn 1, "carryOut", "(IIII)V"⟩, prog_3_method_43_code, 7, none, 1, 3, 73),
  (⟨a_cn 1, "recoverSite", "(I)I"⟩, prog_3_method_41_code, 3, some (FieldType.int), 1, 3, 64),
  (⟨a_cn 1, "comeUp", "(I)V"⟩, prog_3_method_48_code, 4, none, 1, 0, 0),
  (⟨a_cn 1, "rescueAll", "(I)I"⟩, prog_3_method_42_code, 7, some (FieldType.int), 1, 4, 99),
  (⟨a_cn 1, "hasLast", "(I)Z"⟩, prog_3_method_22_code, 3, some (FieldType.boolean), 1, 2, 43),
  (⟨a_cn 1, "lastOf", "(I)I"⟩, prog_3_method_21_code, 4, some (FieldType.int), 1, 1, 20),
  (⟨a_cn 1, "told", "(I)I"⟩, prog_3_method_26_code, 2, some (FieldType.int), 1, 2, 47),
  (⟨a_cn 1, "blockedOf", "(I)I"⟩, prog_3_method_29_code, 5, some (FieldType.int), 1, 2, 47),
  (⟨a_cn 1, "isSet", "(I)Z"⟩, prog_3_method_7_code, 2, some (FieldType.boolean), 1, 1, 20),
  (⟨a_cn 1, "endsDone", "(I)Z"⟩, prog_3_method_27_code, 3, some (FieldType.boolean), 1, 2, 47),
  (⟨a_cn 1, "endsGone", "(I)Z"⟩, prog_3_method_28_code, 3, some (FieldType.boolean), 1, 2, 47),
  (⟨a_cn 1, "needsEach", "(II)Z"⟩, prog_3_method_17_code, 4, some (FieldType.boolean), 1, 1, 23),
  (⟨a_cn 1, "digits", "()I"⟩, prog_3_method_19_code, 3, some (FieldType.int), 1, 0, 0),
  (⟨a_cn 1, "mixKey", "()I"⟩, prog_3_method_49_code, 3, some (FieldType.int), 1, 0, 0),
  (⟨a_cn 1, "standNumber", "()I"⟩, prog_3_method_50_code, 3, some (FieldType.int), 1, 2, 43),
  (⟨a_cn 1, "standBy", "(I)V"⟩, prog_3_method_51_code, 6, none, 1, 1, 20),
  (⟨a_cn 1, "statesNumber", "(I)I"⟩, prog_3_method_20_code, 6, some (FieldType.int), 1, 0, 0),
  (⟨a_cn 2, "<init>", "()V"⟩, prog_4_method_1_code, 1, none, 2, 1, 20),
  (⟨a_cn 2, "clear", "()V"⟩, prog_4_method_2_code, 1, none, 2, 0, 0),
  (⟨a_cn 2, "take", "(LPreCommitHall$Log;)V"⟩, prog_4_method_3_code, 2, none, 2, 1, 32),
  (⟨a_cn 2, "add", "(III)V"⟩, prog_4_method_4_code, 4, none, 2, 0, 0),
  (⟨a_cn 2, "lengthOf", "(I)I"⟩, prog_4_method_5_code, 3, some (FieldType.int), 2, 2, 40),
  (⟨a_cn 2, "rowOf", "(I)I"⟩, prog_4_method_7_code, 2, some (FieldType.int), 2, 0, 0),
  (⟨a_cn 2, "wordOf", "(I)Ljava/lang/String;"⟩, prog_4_method_8_code, 1, some ((FieldType.object "java/lang/String")), 2, 0, 0),
  (⟨a_cn 2, "byteOf", "(II)I"⟩, prog_4_method_6_code, 8, some (FieldType.int), 2, 4, 85),
  (⟨a_cn 3, "<init>", "()V"⟩, prog_6_method_1_code, 2, none, 3, 3, 60),
  (⟨a_cn 3, "remember", "(LPreCommitHall$Hall;)V"⟩, prog_6_method_2_code, 2, none, 3, 3, 74),
  (⟨a_cn 3, "settled", "(I)I"⟩, prog_6_method_3_code, 2, some (FieldType.int), 3, 1, 21),
  (⟨a_cn 3, "back", "(LPreCommitHall$Hall;I)V"⟩, prog_6_method_4_code, 3, none, 3, 3, 74),
  (⟨a_cn 4, "<init>", "()V"⟩, prog_7_method_1_code, 1, none, 4, 1, 20),
  (⟨a_cn 4, "read", "([BI)V"⟩, prog_7_method_2_code, 4, none, 4, 8, 174),
  (⟨a_cn 4, "readDeed", "()V"⟩, prog_7_method_3_code, 4, none, 4, 7, 151),
  (⟨a_cn 4, "wordEnd", "()I"⟩, prog_7_method_13_code, 2, some (FieldType.int), 4, 0, 0),
  (⟨a_cn 4, "failHere", "()V"⟩, prog_7_method_11_code, 1, none, 4, 1, 21),
  (⟨a_cn 4, "fail", "(I)V"⟩, prog_7_method_12_code, 2, none, 4, 0, 0),
  (⟨a_cn 4, "kindOf", "(II)I"⟩, prog_7_method_14_code, 4, some (FieldType.int), 4, 5, 109),
  (⟨a_cn 4, "deedWord", "(I)Ljava/lang/String;"⟩, prog_7_method_16_code, 1, some ((FieldType.object "java/lang/String")), 4, 0, 0),
  (⟨a_cn 4, "isWord", "(Ljava/lang/String;II)Z"⟩, prog_7_method_15_code, 5, some (FieldType.boolean), 4, 4, 85),
  (⟨a_cn 4, "readRest", "(I)Z"⟩, prog_7_method_4_code, 2, some (FieldType.boolean), 4, 6, 130),
  (⟨a_cn 4, "readLimit", "()Z"⟩, prog_7_method_6_code, 1, some (FieldType.boolean), 4, 3, 63),
  (⟨a_cn 4, "byteHere", "()I"⟩, prog_7_method_10_code, 1, some (FieldType.int), 4, 0, 0),
  (⟨a_cn 4, "isDigitHere", "()Z"⟩, prog_7_method_9_code, 3, some (FieldType.boolean), 4, 2, 41),
  (⟨a_cn 4, "readSite", "()Z"⟩, prog_7_method_5_code, 1, some (FieldType.boolean), 4, 3, 63),
  (⟨a_cn 4, "readByte", "(I)Z"⟩, prog_7_method_8_code, 2, some (FieldType.boolean), 4, 2, 41),
  (⟨a_cn 4, "readVote", "()Z"⟩, prog_7_method_7_code, 2, some (FieldType.boolean), 4, 5, 109),
  (⟨a_cn 5, "<init>", "()V"⟩, prog_2_method_1_code, 1, none, 5, 1, 20),
  (⟨a_cn 5, "next", "(I)I"⟩, prog_2_method_2_code, 3, some (FieldType.int), 5, 0, 0),
  (⟨a_cn 5, "nextLimit", "()I"⟩, prog_2_method_3_code, 2, some (FieldType.int), 5, 1, 22),
  (⟨a_cn 6, "<init>", "()V"⟩, prog_8_method_1_code, 1, none, 6, 3, 60),
  (⟨a_cn 6, "start", "(LPreCommitHall$Hall;LPreCommitHall$Mixes;)V"⟩, prog_8_method_2_code, 3, none, 6, 4, 93),
  (⟨a_cn 6, "reach", "(I)V"⟩, prog_8_method_10_code, 5, none, 6, 3, 69),
  (⟨a_cn 6, "noteWay", "()V"⟩, prog_8_method_11_code, 4, none, 6, 1, 21),
  (⟨a_cn 6, "goesOn", "()Z"⟩, prog_8_method_3_code, 1, some (FieldType.boolean), 6, 0, 0),
  (⟨a_cn 6, "leadActs", "()V"⟩, prog_8_method_4_code, 4, none, 6, 5, 118),
  (⟨a_cn 6, "lead", "(II)I"⟩, prog_8_method_8_code, 3, some (FieldType.int), 6, 4, 96),
  (⟨a_cn 6, "worthTrying", "(II)I"⟩, prog_8_method_9_code, 3, some (FieldType.int), 6, 1, 21),
  (⟨a_cn 6, "downActs", "()V"⟩, prog_8_method_5_code, 2, none, 6, 4, 93),
  (⟨a_cn 6, "finishActs", "()V"⟩, prog_8_method_6_code, 4, none, 6, 5, 123),
  (⟨a_cn 6, "groupActs", "()V"⟩, prog_8_method_7_code, 3, none, 6, 4, 93),
  (⟨a_cn 7, "<init>", "()V"⟩, prog_5_method_1_code, 1, none, 7, 1, 20),
  (⟨a_cn 7, "clear", "()V"⟩, prog_5_method_2_code, 1, none, 7, 1, 23),
  (⟨a_cn 7, "note", "(LPreCommitHall$Hall;II)V"⟩, prog_5_method_4_code, 6, none, 7, 2, 44),
  (⟨a_cn 7, "isUnlike", "(LPreCommitHall$Hall;)Z"⟩, prog_5_method_5_code, 2, some (FieldType.boolean), 7, 1, 23),
  (⟨a_cn 7, "stepsTo", "(I)I"⟩, prog_5_method_3_code, 2, some (FieldType.int), 7, 0, 0),
  (⟨a_cn 8, "<init>", "()V"⟩, prog_10_method_3_code, 1, none, 8, 2, 46),
  (⟨a_cn 8, "laysHall", "(II)V"⟩, prog_10_method_4_code, 4, none, 8, 1, 23),
  (⟨a_cn 8, "lays", "(III)V"⟩, prog_10_method_6_code, 4, none, 8, 0, 0),
  (⟨a_cn 8, "begin", "(II)I"⟩, prog_10_method_40_code, 3, some (FieldType.int), 8, 3, 66),
  (⟨a_cn 8, "within", "(JJJ)Z"⟩, prog_10_method_2_code, 6, some (FieldType.boolean), 8, 0, 0),
  (⟨a_cn 8, "begins", "()V"⟩, prog_10_method_18_code, 1, none, 8, 1, 24),
  (⟨a_cn 8, "copies", "([II[II)V"⟩, prog_10_method_17_code, 5, none, 8, 0, 0),
  (⟨a_cn 8, "told", "(I)I"⟩, prog_10_method_20_code, 2, some (FieldType.int), 8, 2, 45),
  (⟨a_cn 8, "notes", "()V"⟩, prog_10_method_19_code, 2, none, 8, 1, 24),
  (⟨a_cn 8, "vote", "(II)I"⟩, prog_10_method_42_code, 3, some (FieldType.int), 8, 3, 69),
  (⟨a_cn 8, "votes", "(II)I"⟩, prog_10_method_41_code, 4, some (FieldType.int), 8, 2, 46),
  (⟨a_cn 8, "isSite", "(I)Z"⟩, prog_10_method_7_code, 2, some (FieldType.boolean), 8, 1, 25),
  (⟨a_cn 8, "at", "(II)I"⟩, prog_10_method_5_code, 3, some (FieldType.int), 8, 0, 0),
  (⟨a_cn 8, "weight", "(II)I"⟩, prog_10_method_44_code, 4, some (FieldType.int), 8, 3, 66),
  (⟨a_cn 8, "areAllNew", "()Z"⟩, prog_10_method_43_code, 1, some (FieldType.boolean), 8, 2, 46),
  (⟨a_cn 8, "thoseOf", "(II)I"⟩, prog_10_method_10_code, 5, some (FieldType.int), 8, 1, 22),
  (⟨a_cn 8, "everyone", "()I"⟩, prog_10_method_9_code, 1, some (FieldType.int), 8, 0, 0),
  (⟨a_cn 8, "weightOf", "(I)I"⟩, prog_10_method_15_code, 4, some (FieldType.int), 8, 1, 22),
  (⟨a_cn 8, "has", "(II)Z"⟩, prog_10_method_8_code, 2, some (FieldType.boolean), 8, 0, 0),
  (⟨a_cn 8, "quorum", "(II)I"⟩, prog_10_method_45_code, 4, some (FieldType.int), 8, 3, 66),
  (⟨a_cn 8, "ask", "(I)I"⟩, prog_10_method_46_code, 2, some (FieldType.int), 8, 8, 177),
  (⟨a_cn 8, "asks", "(I)I"⟩, prog_10_method_29_code, 4, some (FieldType.int), 8, 7, 154),
  (⟨a_cn 8, "isK", "(I)Z"⟩, prog_10_method_25_code, 1, some (FieldType.boolean), 8, 1, 25),
  (⟨a_cn 8, "opens", "(I)V"⟩, prog_10_method_24_code, 2, none, 8, 0, 0),
  (⟨a_cn 8, "sendsGone", "()V"⟩, prog_10_method_28_code, 2, none, 8, 6, 133),
  (⟨a_cn 8, "becomes", "(II)V"⟩, prog_10_method_21_code, 4, none, 8, 1, 23),
  (⟨a_cn 8, "reaches", "(II)Z"⟩, prog_10_method_27_code, 3, some (FieldType.boolean), 8, 5, 111),
  (⟨a_cn 8, "failsPerhaps", "(I)V"⟩, prog_10_method_26_code, 2, none, 8, 4, 90),
  (⟨a_cn 8, "goesDown", "(I)V"⟩, prog_10_method_22_code, 4, none, 8, 3, 67),
  (⟨a_cn 8, "upWith", "(I)I"⟩, prog_10_method_11_code, 2, some (FieldType.int), 8, 2, 46),
  (⟨a_cn 8, "areDecided", "(I)Z"⟩, prog_10_method_16_code, 2, some (FieldType.boolean), 8, 3, 66),
  (⟨a_cn 8, "whoIsDecided", "()I"⟩, prog_10_method_75_code, 1, some (FieldType.int), 8, 2, 46),
  (⟨a_cn 8, "prepare", "(I)I"⟩, prog_10_method_47_code, 2, some (FieldType.int), 8, 7, 156),
  (⟨a_cn 8, "prepares", "(I)I"⟩, prog_10_method_30_code, 4, some (FieldType.int), 8, 6, 133),
  (⟨a_cn 8, "commit", "(I)I"⟩, prog_10_method_48_code, 2, some (FieldType.int), 8, 7, 155),
  (⟨a_cn 8, "commits", "(I)I"⟩, prog_10_method_31_code, 3, some (FieldType.int), 8, 6, 133),
  (⟨a_cn 8, "bits", "(I)I"⟩, prog_10_method_12_code, 3, some (FieldType.int), 8, 0, 0),
  (⟨a_cn 8, "crash", "(I)I"⟩, prog_10_method_50_code, 2, some (FieldType.int), 8, 5, 111),
  (⟨a_cn 8, "crashes", "(I)I"⟩, prog_10_method_49_code, 2, some (FieldType.int), 8, 4, 90),
  (⟨a_cn 8, "wake", "(I)I"⟩, prog_10_method_52_code, 2, some (FieldType.int), 8, 3, 67),
  (⟨a_cn 8, "wakes", "(I)I"⟩, prog_10_method_51_code, 2, some (FieldType.int), 8, 2, 46),
  (⟨a_cn 8, "part", "(I)I"⟩, prog_10_method_54_code, 2, some (FieldType.int), 8, 3, 66),
  (⟨a_cn 8, "parts", "(I)I"⟩, prog_10_method_53_code, 6, some (FieldType.int), 8, 1, 23),
  (⟨a_cn 8, "finish", "(II)I"⟩, prog_10_method_55_code, 3, some (FieldType.int), 8, 8, 183),
  (⟨a_cn 8, "finishes", "(II)I"⟩, prog_10_method_35_code, 5, some (FieldType.int), 8, 7, 159),
  (⟨a_cn 8, "lowest", "(I)I"⟩, prog_10_method_13_code, 2, some (FieldType.int), 8, 1, 21),
  (⟨a_cn 8, "decides", "(II)I"⟩, prog_10_method_32_code, 4, some (FieldType.int), 8, 3, 68),
  (⟨a_cn 8, "ofState", "(II)I"⟩, prog_10_method_14_code, 3, some (FieldType.int), 8, 2, 46),
  (⟨a_cn 8, "goesThrough", "(III)V"⟩, prog_10_method_34_code, 7, none, 8, 6, 133),
  (⟨a_cn 8, "firstPart", "(II)I"⟩, prog_10_method_33_code, 3, some (FieldType.int), 8, 3, 68),
  (⟨a_cn 8, "recover", "(I)I"⟩, prog_10_method_56_code, 2, some (FieldType.int), 8, 5, 112),
  (⟨a_cn 8, "recovers", "(I)I"⟩, prog_10_method_36_code, 3, some (FieldType.int), 8, 4, 90),
  (⟨a_cn 8, "isUpAgain", "(I)V"⟩, prog_10_method_23_code, 4, none, 8, 3, 67),
  (⟨a_cn 8, "rescue", "(I)I"⟩, prog_10_method_57_code, 2, some (FieldType.int), 8, 8, 183),
  (⟨a_cn 8, "rescues", "(I)I"⟩, prog_10_method_39_code, 5, some (FieldType.int), 8, 7, 159),
  (⟨a_cn 8, "lastOf", "(I)I"⟩, prog_10_method_37_code, 4, some (FieldType.int), 8, 1, 22),
  (⟨a_cn 8, "hasLast", "(I)Z"⟩, prog_10_method_38_code, 2, some (FieldType.boolean), 8, 2, 45),
  (⟨a_cn 8, "site", "(II)I"⟩, prog_10_method_58_code, 3, some (FieldType.int), 8, 2, 46),
  (⟨a_cn 8, "would", "(I)I"⟩, prog_10_method_61_code, 2, some (FieldType.int), 8, 5, 112),
  (⟨a_cn 8, "wouldBe", "(I)I"⟩, prog_10_method_60_code, 2, some (FieldType.int), 8, 4, 91),
  (⟨a_cn 8, "messages", "(I)I"⟩, prog_10_method_62_code, 4, some (FieldType.int), 8, 5, 112),
  (⟨a_cn 8, "blocked", "()I"⟩, prog_10_method_64_code, 3, some (FieldType.int), 8, 5, 112),
  (⟨a_cn 8, "isBlocked", "(I)Z"⟩, prog_10_method_63_code, 2, some (FieldType.boolean), 8, 4, 91),
  (⟨a_cn 8, "could", "(I)I"⟩, prog_10_method_65_code, 2, some (FieldType.int), 8, 5, 112),
  (⟨a_cn 8, "isSet", "(I)Z"⟩, prog_10_method_59_code, 2, some (FieldType.boolean), 8, 1, 25),
  (⟨a_cn 8, "split", "()I"⟩, prog_10_method_67_code, 4, some (FieldType.int), 8, 5, 113),
  (⟨a_cn 8, "endsBy", "(I)I"⟩, prog_10_method_66_code, 3, some (FieldType.int), 8, 4, 91),
  (⟨a_cn 8, "stands", "(I)I"⟩, prog_10_method_69_code, 4, some (FieldType.int), 8, 6, 135),
  (⟨a_cn 8, "standsWithout", "(I)Z"⟩, prog_10_method_68_code, 4, some (FieldType.boolean), 8, 5, 112),
  (⟨a_cn 8, "last", "(I)I"⟩, prog_10_method_70_code, 2, some (FieldType.int), 8, 2, 46),
  (⟨a_cn 8, "fewest", "()I"⟩, prog_10_method_71_code, 3, some (FieldType.int), 8, 3, 66),
  (⟨a_cn 8, "sets", "(I)I"⟩, prog_10_method_74_code, 5, some (FieldType.int), 8, 4, 90),
  (⟨a_cn 8, "hasQuorum", "(II)Z"⟩, prog_10_method_72_code, 3, some (FieldType.boolean), 8, 2, 45),
  (⟨a_cn 8, "isLeast", "(II)Z"⟩, prog_10_method_73_code, 4, some (FieldType.boolean), 8, 3, 67),
  (⟨a_cn 8, "ends", "(III)I"⟩, prog_10_method_76_code, 5, some (FieldType.int), 8, 8, 183),
  (⟨a_cn 8, "wouldNow", "(I)I"⟩, prog_10_method_77_code, 2, some (FieldType.int), 8, 5, 112),
  (⟨a_cn 8, "years", "(III)I"⟩, prog_10_method_82_code, 6, some (FieldType.int), 8, 9, 205),
  (⟨a_cn 8, "actDrawn", "()I"⟩, prog_10_method_80_code, 3, some (FieldType.int), 8, 8, 183),
  (⟨a_cn 8, "draw", "(I)I"⟩, prog_10_method_78_code, 3, some (FieldType.int), 8, 0, 0),
  (⟨a_cn 8, "drawK", "()I"⟩, prog_10_method_79_code, 2, some (FieldType.int), 8, 1, 22),
  (⟨a_cn 8, "statesAsDigits", "()I"⟩, prog_10_method_81_code, 3, some (FieldType.int), 8, 1, 22),
  (⟨a_cn 8, "those", "(I)I"⟩, prog_10_method_83_code, 3, some (FieldType.int), 8, 3, 66),
  (⟨a_cn 8, "mixes", "(II)I"⟩, prog_10_method_92_code, 8, some (FieldType.int), 8, 10, 231),
  (⟨a_cn 8, "laysMixes", "(I)V"⟩, prog_10_method_91_code, 5, none, 8, 9, 207),
  (⟨a_cn 8, "standNow", "()I"⟩, prog_10_method_84_code, 3, some (FieldType.int), 8, 2, 46),
  (⟨a_cn 8, "comesTo", "(III)V"⟩, prog_10_method_90_code, 4, none, 8, 0, 0),
  (⟨a_cn 8, "mixOf", "(I)I"⟩, prog_10_method_86_code, 1, some (FieldType.int), 8, 0, 0),
  (⟨a_cn 8, "nextAct", "(II)I"⟩, prog_10_method_89_code, 7, some (FieldType.int), 8, 1, 20),
  (⟨a_cn 8, "laysStand", "(I)V"⟩, prog_10_method_85_code, 6, none, 8, 1, 23),
  (⟨a_cn 8, "actBy", "(I)I"⟩, prog_10_method_88_code, 5, some (FieldType.int), 8, 8, 183),
  (⟨a_cn 8, "isUnlike", "(I)Z"⟩, prog_10_method_87_code, 5, some (FieldType.boolean), 8, 0, 0),
  (⟨a_cn 8, "beside", "(II)I"⟩, prog_10_method_93_code, 8, some (FieldType.int), 8, 10, 231),
  (⟨a_cn 8, "stateIn", "(II)I"⟩, prog_10_method_94_code, 2, some (FieldType.int), 8, 0, 0),
  (⟨a_cn 8, "steps", "(III)I"⟩, prog_10_method_96_code, 5, some (FieldType.int), 8, 10, 231),
  (⟨a_cn 8, "statesOf", "(I)I"⟩, prog_10_method_95_code, 5, some (FieldType.int), 8, 0, 0),
  (⟨a_cn 8, "way", "(II)I"⟩, prog_10_method_97_code, 5, some (FieldType.int), 8, 10, 231),
  (⟨a_cn 8, "feed", "(IIIII)I"⟩, prog_10_method_98_code, 8, some (FieldType.int), 8, 0, 0),
  (⟨a_cn 8, "script", "(I)I"⟩, prog_10_method_111_code, 4, some (FieldType.int), 8, 9, 206),
  (⟨a_cn 8, "readsDeed", "()V"⟩, prog_10_method_109_code, 5, none, 8, 7, 155),
  (⟨a_cn 8, "reads", "(II)I"⟩, prog_10_method_105_code, 5, some (FieldType.int), 8, 6, 131),
  (⟨a_cn 8, "isLetter", "()Z"⟩, prog_10_method_101_code, 1, some (FieldType.boolean), 8, 1, 25),
  (⟨a_cn 8, "see", "()I"⟩, prog_10_method_100_code, 1, some (FieldType.int), 8, 0, 0),
  (⟨a_cn 8, "fails", "(II)V"⟩, prog_10_method_99_code, 3, none, 8, 0, 0),
  (⟨a_cn 8, "wordBetween", "(II)I"⟩, prog_10_method_104_code, 3, some (FieldType.int), 8, 5, 109),
  (⟨a_cn 8, "isWord", "(IILjava/lang/String;)Z"⟩, prog_10_method_103_code, 5, some (FieldType.boolean), 8, 4, 85),
  (⟨a_cn 8, "must", "(I)V"⟩, prog_10_method_107_code, 2, none, 8, 2, 45),
  (⟨a_cn 8, "readsDigit", "()I"⟩, prog_10_method_106_code, 1, some (FieldType.int), 8, 2, 45),
  (⟨a_cn 8, "isDigit", "()Z"⟩, prog_10_method_102_code, 1, some (FieldType.boolean), 8, 1, 25),
  (⟨a_cn 8, "passes", "(I)Z"⟩, prog_10_method_108_code, 2, some (FieldType.boolean), 8, 1, 20),
  (⟨a_cn 8, "does", "(III)I"⟩, prog_10_method_110_code, 4, some (FieldType.int), 8, 8, 183),
  (⟨a_cn 8, "fault", "(I)I"⟩, prog_10_method_112_code, 2, some (FieldType.int), 8, 0, 0),
  (⟨a_cn 8, "lines", "()I"⟩, prog_10_method_115_code, 1, some (FieldType.int), 8, 0, 0),
  (⟨a_cn 8, "sign", "(II)I"⟩, prog_10_method_116_code, 5, some (FieldType.int), 8, 6, 128),
  (⟨a_cn 8, "longOf", "(I)I"⟩, prog_10_method_114_code, 2, some (FieldType.int), 8, 5, 107),
  (⟨a_cn 8, "signOf", "(II)I"⟩, prog_10_method_113_code, 3, some (FieldType.int), 8, 4, 85),
  (⟨a_cn 8, "undo", "(I)I"⟩, prog_10_method_117_code, 2, some (FieldType.int), 8, 1, 25),
  (⟨a_cn 8, "image", "(I)I"⟩, prog_10_method_118_code, 2, some (FieldType.int), 8, 1, 25),
  (⟨a_cn 8, "restore", "(I)I"⟩, prog_10_method_119_code, 2, some (FieldType.int), 8, 1, 25),
  (⟨a_cn 8, "count", "(I)I"⟩, prog_10_method_120_code, 2, some (FieldType.int), 8, 2, 45),
  (⟨a_cn 10, "law", "([I)Z"⟩, code, 4, some (FieldType.boolean), 10, 11, 258),
  (⟨a_cn 11, "fill", "([II)V"⟩, prog_17_method_103_code, 4, none, 11, 0, 0),
  (⟨a_cn 12, "min", "(II)I"⟩, prog_12_method_69_code, 2, some (FieldType.int), 12, 0, 0),
  (⟨a_cn 13, "bitCount", "(I)I"⟩, prog_11_method_49_code, 1, some (FieldType.int), 13, 0, 0),
  (⟨a_cn 12, "floorMod", "(II)I"⟩, prog_12_method_50_code, 3, some (FieldType.int), 12, 0, 0),
  (⟨a_cn 9, "length", "()I"⟩, prog_13_method_54_code, 1, some (FieldType.int), 9, 1, 20),
  (⟨a_cn 9, "coder", "()B"⟩, prog_13_method_152_code, 1, some (FieldType.byte), 9, 0, 0),
  (⟨a_cn 9, "charAt", "(I)C"⟩, prog_13_method_56_code, 2, some (FieldType.char), 9, 3, 64),
  (⟨a_cn 9, "isLatin1", "()Z"⟩, prog_13_method_154_code, 1, some (FieldType.boolean), 9, 0, 0),
  (⟨a_cn 14, "charAt", "([BI)C"⟩, prog_14_method_2_code, 2, some (FieldType.char), 14, 2, 43),
  (⟨a_cn 9, "checkIndex", "(II)V"⟩, prog_13_method_155_code, 2, none, 9, 1, 22),
  (⟨a_cn 15, "checkIndex", "(IILjava/util/function/BiFunction;)I"⟩, prog_18_method_11_code, 3, some (FieldType.int), 15, 0, 0)]
def a_c0 : List (Nat × a_Rw) := [
  (0, .aload_n 0, 1, 0, 0, 0),
  (1, .invokespecial 1, 3, 1000, 1, 0),
  (4, .aload_n 0, 1, 0, 0, 0),
  (5, .new 7, 3, 1, 0, 0),
  (8, .dup, 1, 0, 0, 0),
  (9, .invokespecial 9, 3, 45, 1, 0),
  (12, .putfield 10, 3, 0, 0, 0),
  (15, .aload_n 0, 1, 0, 0, 0),
  (16, .getfield 10, 3, 0, 0, 0),
  (19, .iconst (3), 1, 0, 0, 3),
  (20, .iconst (0), 1, 0, 0, 0),
  (21, .invokevirtual 16, 3, 46, 3, 0),
  (24, .aload_n 0, 1, 0, 0, 0),
  (25, .new 7, 3, 1, 0, 0),
  (28, .dup, 1, 0, 0, 0),
  (29, .invokespecial 9, 3, 45, 1, 0),
  (32, .putfield 20, 3, 0, 1, 0),
  (35, .aload_n 0, 1, 0, 0, 0),
  (36, .new 23, 3, 3, 0, 0),
  (39, .dup, 1, 0, 0, 0),
  (40, .invokespecial 25, 3, 104, 1, 0),
  (43, .putfield 26, 3, 0, 2, 0),
  (46, .aload_n 0, 1, 0, 0, 0),
  (47, .iconst (2), 1, 0, 0, 2),
  (48, .anewarray 7, 3, 0, 0, 0),
  (51, .putfield 30, 3, 0, 3, 0),
  (54, .iconst (0), 1, 0, 0, 0),
  (55, .istore_n 1, 1, 0, 0, 0),
  (56, .iload_n 1, 1, 0, 0, 0),
  (57, .iconst (2), 1, 0, 0, 2),
  (58, .if_icmp .ge (22), 3, 80, 0, 0),
  (61, .aload_n 0, 1, 0, 0, 0),
  (62, .getfield 30, 3, 0, 3, 0),
  (65, .iload_n 1, 1, 0, 0, 0),
  (66, .new 7, 3, 1, 0, 0),
  (69, .dup, 1, 0, 0, 0),
  (70, .invokespecial 9, 3, 45, 1, 0),
  (73, .aastore, 1, 0, 0, 0),
  (74, .iinc 1 (1), 3, 0, 0, 1),
  (77, .goto (-21), 3, 56, 0, 0),
  (80, .aload_n 0, 1, 0, 0, 0),
  (81, .iconst (2), 1, 0, 0, 2),
  (82, .newarray .boolean, 2, 2, 0, 0),
  (84, .putfield 34, 3, 0, 4, 0),
  (87, .aload_n 0, 1, 0, 0, 0),
  (88, .sipush (200), 3, 0, 0, 200),
  (91, .newarray .byte, 2, 1, 0, 0),
  (93, .putfield 38, 3, 0, 5, 0),
  (96, .aload_n 0, 1, 0, 0, 0),
  (97, .new 42, 3, 4, 0, 0),
  (100, .dup, 1, 0, 0, 0),
  (101, .invokespecial 44, 3, 108, 1, 0),
  (104, .putfield 45, 3, 0, 7, 0),
  (107, .aload_n 0, 1, 0, 0, 0),
  (108, .new 49, 3, 5, 0, 0),
  (111, .dup, 1, 0, 0, 0),
  (112, .invokespecial 51, 3, 124, 1, 0),
  (115, .putfield 52, 3, 0, 8, 0),
  (118, .aload_n 0, 1, 0, 0, 0),
  (119, .new 56, 3, 6, 0, 0),
  (122, .dup, 1, 0, 0, 0),
  (123, .invokespecial 58, 3, 127, 1, 0),
  (126, .putfield 59, 3, 0, 9, 0),
  (129, .return_, 1, 0, 0, 0)]
def a_c1 : List (Nat × a_Rw) := [
  (0, .iload_n 1, 1, 0, 0, 0),
  (1, .iconst (2), 1, 0, 0, 2),
  (2, .if_icmp .lt (17), 3, 19, 0, 0),
  (5, .iload_n 1, 1, 0, 0, 0),
  (6, .iconst (5), 1, 0, 0, 5),
  (7, .if_icmp .gt (12), 3, 19, 0, 0),
  (10, .iload_n 2, 1, 0, 0, 0),
  (11, .ifCond .lt (8), 3, 19, 0, 0),
  (14, .iload_n 2, 1, 0, 0, 0),
  (15, .iconst (1), 1, 0, 0, 1),
  (16, .if_icmp .le (6), 3, 22, 0, 0),
  (19, .bipush (-3), 2, 0, 0, -3),
  (21, .ireturn, 1, 0, 0, 0),
  (22, .aload_n 0, 1, 0, 0, 0),
  (23, .getfield 26, 3, 0, 2, 0),
  (26, .aload_n 0, 1, 0, 0, 0),
  (27, .getfield 10, 3, 0, 0, 0),
  (30, .invokevirtual 63, 3, 105, 2, 0),
  (33, .aload_n 0, 1, 0, 0, 0),
  (34, .getfield 10, 3, 0, 0, 0),
  (37, .iload_n 1, 1, 0, 0, 0),
  (38, .iload_n 2, 1, 0, 0, 0),
  (39, .invokevirtual 16, 3, 46, 3, 0),
  (42, .aload_n 0, 1, 0, 0, 0),
  (43, .getfield 26, 3, 0, 2, 0),
  (46, .iload_n 1, 1, 0, 0, 0),
  (47, .invokevirtual 67, 3, 106, 2, 0),
  (50, .ireturn, 1, 0, 0, 0)]
def a_c2 : List (Nat × a_Rw) := [
  (0, .aload_n 0, 1, 0, 0, 0),
  (1, .getfield 26, 3, 0, 2, 0),
  (4, .aload_n 0, 1, 0, 0, 0),
  (5, .getfield 10, 3, 0, 0, 0),
  (8, .invokevirtual 63, 3, 105, 2, 0),
  (11, .aload_n 0, 1, 0, 0, 0),
  (12, .getfield 26, 3, 0, 2, 0),
  (15, .aload_n 0, 1, 0, 0, 0),
  (16, .getfield 10, 3, 0, 0, 0),
  (19, .iload_n 1, 1, 0, 0, 0),
  (20, .iload_n 2, 1, 0, 0, 0),
  (21, .invokevirtual 71, 3, 52, 3, 0),
  (24, .invokevirtual 67, 3, 106, 2, 0),
  (27, .ireturn, 1, 0, 0, 0)]
def a_c3 : List (Nat × a_Rw) := [
  (0, .aload_n 0, 1, 0, 0, 0),
  (1, .getfield 26, 3, 0, 2, 0),
  (4, .aload_n 0, 1, 0, 0, 0),
  (5, .getfield 10, 3, 0, 0, 0),
  (8, .invokevirtual 63, 3, 105, 2, 0),
  (11, .aload_n 0, 1, 0, 0, 0),
  (12, .getfield 26, 3, 0, 2, 0),
  (15, .aload_n 0, 1, 0, 0, 0),
  (16, .getfield 10, 3, 0, 0, 0),
  (19, .iload_n 1, 1, 0, 0, 0),
  (20, .iload_n 2, 1, 0, 0, 0),
  (21, .invokevirtual 75, 3, 54, 3, 0),
  (24, .invokevirtual 67, 3, 106, 2, 0),
  (27, .ireturn, 1, 0, 0, 0)]
def a_c4 : List (Nat × a_Rw) := [
  (0, .aload_n 0, 1, 0, 0, 0),
  (1, .getfield 26, 3, 0, 2, 0),
  (4, .aload_n 0, 1, 0, 0, 0),
  (5, .getfield 10, 3, 0, 0, 0),
  (8, .invokevirtual 63, 3, 105, 2, 0),
  (11, .aload_n 0, 1, 0, 0, 0),
  (12, .getfield 26, 3, 0, 2, 0),
  (15, .aload_n 0, 1, 0, 0, 0),
  (16, .getfield 10, 3, 0, 0, 0),
  (19, .iload_n 1, 1, 0, 0, 0),
  (20, .iload_n 2, 1, 0, 0, 0),
  (21, .invokevirtual 78, 3, 56, 3, 0),
  (24, .invokevirtual 67, 3, 106, 2, 0),
  (27, .ireturn, 1, 0, 0, 0)]
def a_c5 : List (Nat × a_Rw) := [
  (0, .aload_n 0, 1, 0, 0, 0),
  (1, .getfield 26, 3, 0, 2, 0),
  (4, .aload_n 0, 1, 0, 0, 0),
  (5, .getfield 10, 3, 0, 0, 0),
  (8, .invokevirtual 63, 3, 105, 2, 0),
  (11, .aload_n 0, 1, 0, 0, 0),
  (12, .getfield 26, 3, 0, 2, 0),
  (15, .aload_n 0, 1, 0, 0, 0),
  (16, .getfield 10, 3, 0, 0, 0),
  (19, .iload_n 1, 1, 0, 0, 0),
  (20, .invokevirtual 81, 3, 57, 2, 0),
  (23, .invokevirtual 67, 3, 106, 2, 0),
  (26, .ireturn, 1, 0, 0, 0)]
def a_c6 : List (Nat × a_Rw) := [
  (0, .aload_n 0, 1, 0, 0, 0),
  (1, .getfield 26, 3, 0, 2, 0),
  (4, .aload_n 0, 1, 0, 0, 0),
  (5, .getfield 10, 3, 0, 0, 0),
  (8, .invokevirtual 63, 3, 105, 2, 0),
  (11, .aload_n 0, 1, 0, 0, 0),
  (12, .getfield 26, 3, 0, 2, 0),
  (15, .aload_n 0, 1, 0, 0, 0),
  (16, .getfield 10, 3, 0, 0, 0),
  (19, .iload_n 1, 1, 0, 0, 0),
  (20, .invokevirtual 84, 3, 64, 2, 0),
  (23, .invokevirtual 67, 3, 106, 2, 0),
  (26, .ireturn, 1, 0, 0, 0)]
def a_c7 : List (Nat × a_Rw) := [
  (0, .aload_n 0, 1, 0, 0, 0),
  (1, .getfield 26, 3, 0, 2, 0),
  (4, .aload_n 0, 1, 0, 0, 0),
  (5, .getfield 10, 3, 0, 0, 0),
  (8, .invokevirtual 63, 3, 105, 2, 0),
  (11, .aload_n 0, 1, 0, 0, 0),
  (12, .getfield 26, 3, 0, 2, 0),
  (15, .aload_n 0, 1, 0, 0, 0),
  (16, .getfield 10, 3, 0, 0, 0),
  (19, .iload_n 1, 1, 0, 0, 0),
  (20, .invokevirtual 87, 3, 66, 2, 0),
  (23, .invokevirtual 67, 3, 106, 2, 0),
  (26, .ireturn, 1, 0, 0, 0)]
def a_c8 : List (Nat × a_Rw) := [
  (0, .aload_n 0, 1, 0, 0, 0),
  (1, .getfield 26, 3, 0, 2, 0),
  (4, .aload_n 0, 1, 0, 0, 0),
  (5, .getfield 10, 3, 0, 0, 0),
  (8, .invokevirtual 63, 3, 105, 2, 0),
  (11, .aload_n 0, 1, 0, 0, 0),
  (12, .getfield 26, 3, 0, 2, 0),
  (15, .aload_n 0, 1, 0, 0, 0),
  (16, .getfield 10, 3, 0, 0, 0),
  (19, .iload_n 1, 1, 0, 0, 0),
  (20, .invokevirtual 90, 3, 67, 2, 0),
  (23, .invokevirtual 67, 3, 106, 2, 0),
  (26, .ireturn, 1, 0, 0, 0)]
def a_c9 : List (Nat × a_Rw) := [
  (0, .aload_n 0, 1, 0, 0, 0),
  (1, .getfield 26, 3, 0, 2, 0),
  (4, .aload_n 0, 1, 0, 0, 0),
  (5, .getfield 10, 3, 0, 0, 0),
  (8, .invokevirtual 63, 3, 105, 2, 0),
  (11, .aload_n 0, 1, 0, 0, 0),
  (12, .getfield 26, 3, 0, 2, 0),
  (15, .aload_n 0, 1, 0, 0, 0),
  (16, .getfield 10, 3, 0, 0, 0),
  (19, .iload_n 1, 1, 0, 0, 0),
  (20, .invokevirtual 93, 3, 70, 2, 0),
  (23, .invokevirtual 67, 3, 106, 2, 0),
  (26, .ireturn, 1, 0, 0, 0)]
def a_c10 : List (Nat × a_Rw) := [
  (0, .aload_n 0, 1, 0, 0, 0),
  (1, .getfield 26, 3, 0, 2, 0),
  (4, .aload_n 0, 1, 0, 0, 0),
  (5, .getfield 10, 3, 0, 0, 0),
  (8, .invokevirtual 63, 3, 105, 2, 0),
  (11, .aload_n 0, 1, 0, 0, 0),
  (12, .getfield 26, 3, 0, 2, 0),
  (15, .aload_n 0, 1, 0, 0, 0),
  (16, .getfield 10, 3, 0, 0, 0),
  (19, .iload_n 1, 1, 0, 0, 0),
  (20, .invokevirtual 96, 3, 71, 2, 0),
  (23, .invokevirtual 67, 3, 106, 2, 0),
  (26, .ireturn, 1, 0, 0, 0)]
def a_c11 : List (Nat × a_Rw) := [
  (0, .aload_n 0, 1, 0, 0, 0),
  (1, .getfield 26, 3, 0, 2, 0),
  (4, .aload_n 0, 1, 0, 0, 0),
  (5, .getfield 10, 3, 0, 0, 0),
  (8, .invokevirtual 63, 3, 105, 2, 0),
  (11, .aload_n 0, 1, 0, 0, 0),
  (12, .getfield 26, 3, 0, 2, 0),
  (15, .aload_n 0, 1, 0, 0, 0),
  (16, .getfield 10, 3, 0, 0, 0),
  (19, .iload_n 1, 1, 0, 0, 0),
  (20, .iload_n 2, 1, 0, 0, 0),
  (21, .invokevirtual 99, 3, 72, 3, 0),
  (24, .invokevirtual 67, 3, 106, 2, 0),
  (27, .ireturn, 1, 0, 0, 0)]
def a_c12 : List (Nat × a_Rw) := [
  (0, .aload_n 0, 1, 0, 0, 0),
  (1, .getfield 26, 3, 0, 2, 0),
  (4, .aload_n 0, 1, 0, 0, 0),
  (5, .getfield 10, 3, 0, 0, 0),
  (8, .invokevirtual 63, 3, 105, 2, 0),
  (11, .aload_n 0, 1, 0, 0, 0),
  (12, .getfield 26, 3, 0, 2, 0),
  (15, .aload_n 0, 1, 0, 0, 0),
  (16, .getfield 10, 3, 0, 0, 0),
  (19, .iload_n 1, 1, 0, 0, 0),
  (20, .invokevirtual 102, 3, 80, 2, 0),
  (23, .invokevirtual 67, 3, 106, 2, 0),
  (26, .ireturn, 1, 0, 0, 0)]
def a_c13 : List (Nat × a_Rw) := [
  (0, .aload_n 0, 1, 0, 0, 0),
  (1, .getfield 26, 3, 0, 2, 0),
  (4, .aload_n 0, 1, 0, 0, 0),
  (5, .getfield 10, 3, 0, 0, 0),
  (8, .invokevirtual 63, 3, 105, 2, 0),
  (11, .aload_n 0, 1, 0, 0, 0),
  (12, .getfield 26, 3, 0, 2, 0),
  (15, .aload_n 0, 1, 0, 0, 0),
  (16, .getfield 10, 3, 0, 0, 0),
  (19, .iload_n 1, 1, 0, 0, 0),
  (20, .invokevirtual 105, 3, 82, 2, 0),
  (23, .invokevirtual 67, 3, 106, 2, 0),
  (26, .ireturn, 1, 0, 0, 0)]
def a_c14 : List (Nat × a_Rw) := [
  (0, .aload_n 0, 1, 0, 0, 0),
  (1, .getfield 10, 3, 0, 0, 0),
  (4, .iload_n 1, 1, 0, 0, 0),
  (5, .invokevirtual 108, 3, 53, 2, 0),
  (8, .ifCond .ne (6), 3, 14, 0, 0),
  (11, .bipush (-2), 2, 0, 0, -2),
  (13, .ireturn, 1, 0, 0, 0),
  (14, .iload_n 2, 1, 0, 0, 0),
  (15, .tableswitch (97) (0) (5) #[37, 47, 57, 67, 77, 87], 37, 0, 0, 0),
  (52, .aload_n 0, 1, 0, 0, 0),
  (53, .getfield 10, 3, 0, 0, 0),
  (56, .getfield 112, 3, 1, 5, 0),
  (59, .iload_n 1, 1, 0, 0, 0),
  (60, .iaload, 1, 0, 0, 0),
  (61, .ireturn, 1, 0, 0, 0),
  (62, .aload_n 0, 1, 0, 0, 0),
  (63, .getfield 10, 3, 0, 0, 0),
  (66, .getfield 116, 3, 1, 6, 0),
  (69, .iload_n 1, 1, 0, 0, 0),
  (70, .iaload, 1, 0, 0, 0),
  (71, .ireturn, 1, 0, 0, 0),
  (72, .aload_n 0, 1, 0, 0, 0),
  (73, .getfield 10, 3, 0, 0, 0),
  (76, .getfield 119, 3, 1, 7, 0),
  (79, .iload_n 1, 1, 0, 0, 0),
  (80, .iaload, 1, 0, 0, 0),
  (81, .ireturn, 1, 0, 0, 0),
  (82, .aload_n 0, 1, 0, 0, 0),
  (83, .getfield 10, 3, 0, 0, 0),
  (86, .getfield 122, 3, 1, 8, 0),
  (89, .iload_n 1, 1, 0, 0, 0),
  (90, .iaload, 1, 0, 0, 0),
  (91, .ireturn, 1, 0, 0, 0),
  (92, .aload_n 0, 1, 0, 0, 0),
  (93, .getfield 10, 3, 0, 0, 0),
  (96, .getfield 125, 3, 1, 9, 0),
  (99, .iload_n 1, 1, 0, 0, 0),
  (100, .iaload, 1, 0, 0, 0),
  (101, .ireturn, 1, 0, 0, 0),
  (102, .aload_n 0, 1, 0, 0, 0),
  (103, .getfield 10, 3, 0, 0, 0),
  (106, .getfield 128, 3, 1, 10, 0),
  (109, .iload_n 1, 1, 0, 0, 0),
  (110, .iaload, 1, 0, 0, 0),
  (111, .ireturn, 1, 0, 0, 0),
  (112, .bipush (-2), 2, 0, 0, -2),
  (114, .ireturn, 1, 0, 0, 0)]
def a_c15 : List (Nat × a_Rw) := [
  (0, .aload_n 0, 1, 0, 0, 0),
  (1, .getfield 10, 3, 0, 0, 0),
  (4, .iload_n 1, 1, 0, 0, 0),
  (5, .invokevirtual 108, 3, 53, 2, 0),
  (8, .ifCond .ne (6), 3, 14, 0, 0),
  (11, .bipush (-2), 2, 0, 0, -2),
  (13, .ireturn, 1, 0, 0, 0),
  (14, .aload_n 0, 1, 0, 0, 0),
  (15, .getfield 10, 3, 0, 0, 0),
  (18, .getfield 116, 3, 1, 6, 0),
  (21, .iload_n 1, 1, 0, 0, 0),
  (22, .iaload, 1, 0, 0, 0),
  (23, .iconst (1), 1, 0, 0, 1),
  (24, .if_icmp .eq (6), 3, 30, 0, 0),
  (27, .bipush (-5), 2, 0, 0, -5),
  (29, .ireturn, 1, 0, 0, 0),
  (30, .aload_n 0, 1, 0, 0, 0),
  (31, .getfield 10, 3, 0, 0, 0),
  (34, .aload_n 0, 1, 0, 0, 0),
  (35, .getfield 10, 3, 0, 0, 0),
  (38, .aload_n 0, 1, 0, 0, 0),
  (39, .getfield 10, 3, 0, 0, 0),
  (42, .getfield 119, 3, 1, 7, 0),
  (45, .iload_n 1, 1, 0, 0, 0),
  (46, .iaload, 1, 0, 0, 0),
  (47, .invokevirtual 131, 3, 73, 2, 0),
  (50, .invokevirtual 134, 3, 85, 2, 0),
  (53, .ireturn, 1, 0, 0, 0)]
def a_c16 : List (Nat × a_Rw) := [
  (0, .aload_n 0, 1, 0, 0, 0),
  (1, .iload_n 1, 1, 0, 0, 0),
  (2, .invokevirtual 137, 3, 15, 2, 0),
  (5, .istore_n 2, 1, 0, 0, 0),
  (6, .iload_n 2, 1, 0, 0, 0),
  (7, .ifCond .ge (5), 3, 12, 0, 0),
  (10, .iload_n 2, 1, 0, 0, 0),
  (11, .ireturn, 1, 0, 0, 0),
  (12, .aload_n 0, 1, 0, 0, 0),
  (13, .getfield 10, 3, 0, 0, 0),
  (16, .aload_n 0, 1, 0, 0, 0),
  (17, .getfield 10, 3, 0, 0, 0),
  (20, .getfield 119, 3, 1, 7, 0),
  (23, .iload_n 1, 1, 0, 0, 0),
  (24, .iaload, 1, 0, 0, 0),
  (25, .invokevirtual 131, 3, 73, 2, 0),
  (28, .invokestatic 140, 3, 265, 1, 0),
  (31, .iconst (1), 1, 0, 0, 1),
  (32, .isub, 1, 0, 0, 0),
  (33, .istore_n 3, 1, 0, 0, 0),
  (34, .iload_n 2, 1, 0, 0, 0),
  (35, .iconst (2), 1, 0, 0, 2),
  (36, .if_icmp .eq (8), 3, 44, 0, 0),
  (39, .iload_n 2, 1, 0, 0, 0),
  (40, .iconst (3), 1, 0, 0, 3),
  (41, .if_icmp .ne (9), 3, 50, 0, 0),
  (44, .iconst (2), 1, 0, 0, 2),
  (45, .iload_n 3, 1, 0, 0, 0),
  (46, .imul, 1, 0, 0, 0),
  (47, .goto (4), 3, 51, 0, 0),
  (50, .iload_n 3, 1, 0, 0, 0),
  (51, .ireturn, 1, 0, 0, 0)]
def a_c17 : List (Nat × a_Rw) := [
  (0, .aload_n 0, 1, 0, 0, 0),
  (1, .getfield 10, 3, 0, 0, 0),
  (4, .aload_n 0, 1, 0, 0, 0),
  (5, .getfield 10, 3, 0, 0, 0),
  (8, .invokevirtual 145, 3, 68, 1, 0),
  (11, .invokevirtual 149, 3, 86, 2, 0),
  (14, .ireturn, 1, 0, 0, 0)]
def a_c18 : List (Nat × a_Rw) := [
  (0, .aload_n 0, 1, 0, 0, 0),
  (1, .getfield 10, 3, 0, 0, 0),
  (4, .iload_n 1, 1, 0, 0, 0),
  (5, .invokevirtual 152, 3, 87, 2, 0),
  (8, .ifCond .eq (14), 3, 22, 0, 0),
  (11, .aload_n 0, 1, 0, 0, 0),
  (12, .getfield 10, 3, 0, 0, 0),
  (15, .iload_n 1, 1, 0, 0, 0),
  (16, .invokevirtual 134, 3, 85, 2, 0),
  (19, .goto (5), 3, 24, 0, 0),
  (22, .bipush (-2), 2, 0, 0, -2),
  (24, .ireturn, 1, 0, 0, 0)]
def a_c19 : List (Nat × a_Rw) := [
  (0, .iconst (0), 1, 0, 0, 0),
  (1, .istore_n 1, 1, 0, 0, 0),
  (2, .aload_n 0, 1, 0, 0, 0),
  (3, .getfield 10, 3, 0, 0, 0),
  (6, .invokevirtual 155, 3, 47, 1, 0),
  (9, .istore_n 2, 1, 0, 0, 0),
  (10, .iconst (1), 1, 0, 0, 1),
  (11, .istore_n 3, 1, 0, 0, 0),
  (12, .iload_n 3, 1, 0, 0, 0),
  (13, .iload_n 2, 1, 0, 0, 0),
  (14, .if_icmp .gt (60), 3, 74, 0, 0),
  (17, .aload_n 0, 1, 0, 0, 0),
  (18, .getfield 10, 3, 0, 0, 0),
  (21, .iload_n 3, 1, 0, 0, 0),
  (22, .invokevirtual 158, 3, 88, 2, 0),
  (25, .ifCond .ne (6), 3, 31, 0, 0),
  (28, .goto (40), 3, 68, 0, 0),
  (31, .iconst (1), 1, 0, 0, 1),
  (32, .istore 4, 2, 0, 0, 0),
  (34, .iload 4, 2, 0, 0, 0),
  (36, .iload_n 2, 1, 0, 0, 0),
  (37, .if_icmp .gt (31), 3, 68, 0, 0),
  (40, .iload_n 3, 1, 0, 0, 0),
  (41, .iload 4, 2, 0, 0, 0),
  (43, .iand, 1, 0, 0, 0),
  (44, .ifCond .ne (18), 3, 62, 0, 0),
  (47, .aload_n 0, 1, 0, 0, 0),
  (48, .getfield 10, 3, 0, 0, 0),
  (51, .iload 4, 2, 0, 0, 0),
  (53, .invokevirtual 161, 3, 89, 2, 0),
  (56, .ifCond .eq (6), 3, 62, 0, 0),
  (59, .iinc 1 (1), 3, 0, 0, 1),
  (62, .iinc 4 (1), 3, 0, 0, 1),
  (65, .goto (-31), 3, 34, 0, 0),
  (68, .iinc 3 (1), 3, 0, 0, 1),
  (71, .goto (-59), 3, 12, 0, 0),
  (74, .iload_n 1, 1, 0, 0, 0),
  (75, .ireturn, 1, 0, 0, 0)]
def a_c20 : List (Nat × a_Rw) := [
  (0, .iload_n 1, 1, 0, 0, 0),
  (1, .ifCond .lt (14), 3, 15, 0, 0),
  (4, .iload_n 1, 1, 0, 0, 0),
  (5, .aload_n 0, 1, 0, 0, 0),
  (6, .getfield 10, 3, 0, 0, 0),
  (9, .getfield 164, 3, 1, 0, 0),
  (12, .if_icmp .lt (6), 3, 18, 0, 0),
  (15, .bipush (-3), 2, 0, 0, -3),
  (17, .ireturn, 1, 0, 0, 0),
  (18, .aload_n 0, 1, 0, 0, 0),
  (19, .getfield 10, 3, 0, 0, 0),
  (22, .invokevirtual 145, 3, 68, 1, 0),
  (25, .istore_n 2, 1, 0, 0, 0),
  (26, .iconst (0), 1, 0, 0, 0),
  (27, .istore_n 3, 1, 0, 0, 0),
  (28, .iconst (0), 1, 0, 0, 0),
  (29, .istore 4, 2, 0, 0, 0),
  (31, .iload 4, 2, 0, 0, 0),
  (33, .iload_n 2, 1, 0, 0, 0),
  (34, .if_icmp .gt (58), 3, 92, 0, 0),
  (37, .iload 4, 2, 0, 0, 0),
  (39, .iload_n 2, 1, 0, 0, 0),
  (40, .iconst (-1), 1, 0, 0, -1),
  (41, .ixor, 1, 0, 0, 0),
  (42, .iand, 1, 0, 0, 0),
  (43, .ifCond .ne (16), 3, 59, 0, 0),
  (46, .iload 4, 2, 0, 0, 0),
  (48, .invokestatic 140, 3, 265, 1, 0),
  (51, .iload_n 1, 1, 0, 0, 0),
  (52, .if_icmp .ne (7), 3, 59, 0, 0),
  (55, .iconst (1), 1, 0, 0, 1),
  (56, .goto (4), 3, 60, 0, 0),
  (59, .iconst (0), 1, 0, 0, 0),
  (60, .istore 5, 2, 0, 0, 0),
  (62, .iload 5, 2, 0, 0, 0),
  (64, .ifCond .eq (22), 3, 86, 0, 0),
  (67, .aload_n 0, 1, 0, 0, 0),
  (68, .getfield 10, 3, 0, 0, 0),
  (71, .iload_n 2, 1, 0, 0, 0),
  (72, .iload 4, 2, 0, 0, 0),
  (74, .iconst (-1), 1, 0, 0, -1),
  (75, .ixor, 1, 0, 0, 0),
  (76, .iand, 1, 0, 0, 0),
  (77, .invokevirtual 149, 3, 86, 2, 0),
  (80, .ifCond .ne (6), 3, 86, 0, 0),
  (83, .iinc 3 (1), 3, 0, 0, 1),
  (86, .iinc 4 (1), 3, 0, 0, 1),
  (89, .goto (-58), 3, 31, 0, 0),
  (92, .iload_n 3, 1, 0, 0, 0),
  (93, .ireturn, 1, 0, 0, 0)]
def a_c21 : List (Nat × a_Rw) := [
  (0, .iload_n 1, 1, 0, 0, 0),
  (1, .ifCond .lt (8), 3, 9, 0, 0),
  (4, .iload_n 1, 1, 0, 0, 0),
  (5, .iconst (3), 1, 0, 0, 3),
  (6, .if_icmp .le (6), 3, 12, 0, 0),
  (9, .bipush (-2), 2, 0, 0, -2),
  (11, .ireturn, 1, 0, 0, 0),
  (12, .iload_n 1, 1, 0, 0, 0),
  (13, .iconst (2), 1, 0, 0, 2),
  (14, .irem, 1, 0, 0, 0),
  (15, .ifCond .ne (13), 3, 28, 0, 0),
  (18, .aload_n 0, 1, 0, 0, 0),
  (19, .getfield 10, 3, 0, 0, 0),
  (22, .getfield 168, 3, 1, 3, 0),
  (25, .goto (10), 3, 35, 0, 0),
  (28, .aload_n 0, 1, 0, 0, 0),
  (29, .getfield 10, 3, 0, 0, 0),
  (32, .getfield 171, 3, 1, 4, 0),
  (35, .istore_n 2, 1, 0, 0, 0),
  (36, .iconst (0), 1, 0, 0, 0),
  (37, .istore_n 3, 1, 0, 0, 0),
  (38, .iconst (1), 1, 0, 0, 1),
  (39, .istore 4, 2, 0, 0, 0),
  (41, .iload 4, 2, 0, 0, 0),
  (43, .aload_n 0, 1, 0, 0, 0),
  (44, .getfield 10, 3, 0, 0, 0),
  (47, .invokevirtual 155, 3, 47, 1, 0),
  (50, .if_icmp .gt (43), 3, 93, 0, 0),
  (53, .aload_n 0, 1, 0, 0, 0),
  (54, .getfield 10, 3, 0, 0, 0),
  (57, .iload 4, 2, 0, 0, 0),
  (59, .invokevirtual 174, 3, 49, 2, 0),
  (62, .iload_n 2, 1, 0, 0, 0),
  (63, .if_icmp .lt (24), 3, 87, 0, 0),
  (66, .iload_n 1, 1, 0, 0, 0),
  (67, .iconst (2), 1, 0, 0, 2),
  (68, .if_icmp .lt (16), 3, 84, 0, 0),
  (71, .aload_n 0, 1, 0, 0, 0),
  (72, .getfield 10, 3, 0, 0, 0),
  (75, .iload 4, 2, 0, 0, 0),
  (77, .iload_n 2, 1, 0, 0, 0),
  (78, .invokevirtual 177, 3, 90, 3, 0),
  (81, .ifCond .eq (6), 3, 87, 0, 0),
  (84, .iinc 3 (1), 3, 0, 0, 1),
  (87, .iinc 4 (1), 3, 0, 0, 1),
  (90, .goto (-49), 3, 41, 0, 0),
  (93, .iload_n 3, 1, 0, 0, 0),
  (94, .ireturn, 1, 0, 0, 0)]
def a_c22 : List (Nat × a_Rw) := [
  (0, .iload_n 3, 1, 0, 0, 0),
  (1, .ifCond .lt (8), 3, 9, 0, 0),
  (4, .iload_n 3, 1, 0, 0, 0),
  (5, .iconst (2), 1, 0, 0, 2),
  (6, .if_icmp .le (6), 3, 12, 0, 0),
  (9, .bipush (-2), 2, 0, 0, -2),
  (11, .ireturn, 1, 0, 0, 0),
  (12, .aload_n 0, 1, 0, 0, 0),
  (13, .getfield 20, 3, 0, 1, 0),
  (16, .aload_n 0, 1, 0, 0, 0),
  (17, .getfield 10, 3, 0, 0, 0),
  (20, .invokevirtual 181, 3, 50, 2, 0),
  (23, .aload_n 0, 1, 0, 0, 0),
  (24, .getfield 20, 3, 0, 1, 0),
  (27, .iload_n 1, 1, 0, 0, 0),
  (28, .iload_n 2, 1, 0, 0, 0),
  (29, .invokevirtual 99, 3, 72, 3, 0),
  (32, .istore 4, 2, 0, 0, 0),
  (34, .iload 4, 2, 0, 0, 0),
  (36, .ifCond .ge (6), 3, 42, 0, 0),
  (39, .iload 4, 2, 0, 0, 0),
  (41, .ireturn, 1, 0, 0, 0),
  (42, .iload_n 3, 1, 0, 0, 0),
  (43, .ifCond .ne (13), 3, 56, 0, 0),
  (46, .aload_n 0, 1, 0, 0, 0),
  (47, .getfield 20, 3, 0, 1, 0),
  (50, .bipush (48), 2, 0, 0, 48),
  (52, .invokevirtual 184, 3, 65, 2, 0),
  (55, .ireturn, 1, 0, 0, 0),
  (56, .iload_n 3, 1, 0, 0, 0),
  (57, .iconst (1), 1, 0, 0, 1),
  (58, .if_icmp .ne (11), 3, 69, 0, 0),
  (61, .aload_n 0, 1, 0, 0, 0),
  (62, .getfield 20, 3, 0, 1, 0),
  (65, .invokevirtual 145, 3, 68, 1, 0),
  (68, .ireturn, 1, 0, 0, 0),
  (69, .aload_n 0, 1, 0, 0, 0),
  (70, .getfield 20, 3, 0, 1, 0),
  (73, .aload_n 0, 1, 0, 0, 0),
  (74, .getfield 20, 3, 0, 1, 0),
  (77, .aload_n 0, 1, 0, 0, 0),
  (78, .getfield 20, 3, 0, 1, 0),
  (81, .getfield 119, 3, 1, 7, 0),
  (84, .iload_n 1, 1, 0, 0, 0),
  (85, .iaload, 1, 0, 0, 0),
  (86, .invokevirtual 131, 3, 73, 2, 0),
  (89, .invokevirtual 134, 3, 85, 2, 0),
  (92, .ireturn, 1, 0, 0, 0)]
def a_c23 : List (Nat × a_Rw) := [
  (0, .iload_n 1, 1, 0, 0, 0),
  (1, .ifCond .lt (21), 3, 22, 0, 0),
  (4, .iload_n 1, 1, 0, 0, 0),
  (5, .sipush (9999), 3, 0, 0, 9999),
  (8, .if_icmp .gt (14), 3, 22, 0, 0),
  (11, .iload_n 2, 1, 0, 0, 0),
  (12, .iconst (1), 1, 0, 0, 1),
  (13, .if_icmp .lt (9), 3, 22, 0, 0),
  (16, .iload_n 2, 1, 0, 0, 0),
  (17, .bipush (40), 2, 0, 0, 40),
  (19, .if_icmp .le (6), 3, 25, 0, 0),
  (22, .bipush (-3), 2, 0, 0, -3),
  (24, .ireturn, 1, 0, 0, 0),
  (25, .iload_n 3, 1, 0, 0, 0),
  (26, .ifCond .lt (8), 3, 34, 0, 0),
  (29, .iload_n 3, 1, 0, 0, 0),
  (30, .iconst (2), 1, 0, 0, 2),
  (31, .if_icmp .le (6), 3, 37, 0, 0),
  (34, .bipush (-2), 2, 0, 0, -2),
  (36, .ireturn, 1, 0, 0, 0),
  (37, .aload_n 0, 1, 0, 0, 0),
  (38, .getfield 20, 3, 0, 1, 0),
  (41, .aload_n 0, 1, 0, 0, 0),
  (42, .getfield 10, 3, 0, 0, 0),
  (45, .invokevirtual 181, 3, 50, 2, 0),
  (48, .aload_n 0, 1, 0, 0, 0),
  (49, .getfield 52, 3, 0, 8, 0),
  (52, .iload_n 1, 1, 0, 0, 0),
  (53, .putfield 187, 3, 5, 0, 0),
  (56, .iconst (0), 1, 0, 0, 0),
  (57, .istore 4, 2, 0, 0, 0),
  (59, .iconst (0), 1, 0, 0, 0),
  (60, .istore 5, 2, 0, 0, 0),
  (62, .iload 5, 2, 0, 0, 0),
  (64, .iload_n 2, 1, 0, 0, 0),
  (65, .if_icmp .ge (19), 3, 84, 0, 0),
  (68, .aload_n 0, 1, 0, 0, 0),
  (69, .invokevirtual 190, 3, 24, 1, 0),
  (72, .ifCond .lt (6), 3, 78, 0, 0),
  (75, .iinc 4 (1), 3, 0, 0, 1),
  (78, .iinc 5 (1), 3, 0, 0, 1),
  (81, .goto (-19), 3, 62, 0, 0),
  (84, .iload_n 3, 1, 0, 0, 0),
  (85, .ifCond .ne (11), 3, 96, 0, 0),
  (88, .aload_n 0, 1, 0, 0, 0),
  (89, .getfield 20, 3, 0, 1, 0),
  (92, .invokevirtual 193, 3, 91, 1, 0),
  (95, .ireturn, 1, 0, 0, 0),
  (96, .iload_n 3, 1, 0, 0, 0),
  (97, .iconst (1), 1, 0, 0, 1),
  (98, .if_icmp .ne (13), 3, 111, 0, 0),
  (101, .aload_n 0, 1, 0, 0, 0),
  (102, .getfield 20, 3, 0, 1, 0),
  (105, .invokevirtual 145, 3, 68, 1, 0),
  (108, .goto (5), 3, 113, 0, 0),
  (111, .iload 4, 2, 0, 0, 0),
  (113, .ireturn, 1, 0, 0, 0)]
def a_c24 : List (Nat × a_Rw) := [
  (0, .aload_n 0, 1, 0, 0, 0),
  (1, .getfield 52, 3, 0, 8, 0),
  (4, .bipush (8), 2, 0, 0, 8),
  (6, .invokevirtual 294, 3, 125, 2, 0),
  (9, .istore_n 1, 1, 0, 0, 0),
  (10, .iload_n 1, 1, 0, 0, 0),
  (11, .iconst (3), 1, 0, 0, 3),
  (12, .if_icmp .ge (49), 3, 61, 0, 0),
  (15, .aload_n 0, 1, 0, 0, 0),
  (16, .getfield 52, 3, 0, 8, 0),
  (19, .invokevirtual 297, 3, 126, 1, 0),
  (22, .istore_n 2, 1, 0, 0, 0),
  (23, .iload_n 1, 1, 0, 0, 0),
  (24, .ifCond .ne (12), 3, 36, 0, 0),
  (27, .aload_n 0, 1, 0, 0, 0),
  (28, .getfield 20, 3, 0, 1, 0),
  (31, .iload_n 2, 1, 0, 0, 0),
  (32, .invokevirtual 81, 3, 57, 2, 0),
  (35, .ireturn, 1, 0, 0, 0),
  (36, .iload_n 1, 1, 0, 0, 0),
  (37, .iconst (1), 1, 0, 0, 1),
  (38, .if_icmp .ne (14), 3, 52, 0, 0),
  (41, .aload_n 0, 1, 0, 0, 0),
  (42, .getfield 20, 3, 0, 1, 0),
  (45, .iload_n 2, 1, 0, 0, 0),
  (46, .invokevirtual 84, 3, 64, 2, 0),
  (49, .goto (11), 3, 60, 0, 0),
  (52, .aload_n 0, 1, 0, 0, 0),
  (53, .getfield 20, 3, 0, 1, 0),
  (56, .iload_n 2, 1, 0, 0, 0),
  (57, .invokevirtual 87, 3, 66, 2, 0),
  (60, .ireturn, 1, 0, 0, 0),
  (61, .aload_n 0, 1, 0, 0, 0),
  (62, .getfield 52, 3, 0, 8, 0),
  (65, .aload_n 0, 1, 0, 0, 0),
  (66, .getfield 20, 3, 0, 1, 0),
  (69, .getfield 164, 3, 1, 0, 0),
  (72, .invokevirtual 294, 3, 125, 2, 0),
  (75, .istore_n 2, 1, 0, 0, 0),
  (76, .iload_n 1, 1, 0, 0, 0),
  (77, .tableswitch (54) (3) (5) #[27, 36, 45], 27, 0, 0, 0),
  (104, .aload_n 0, 1, 0, 0, 0),
  (105, .getfield 20, 3, 0, 1, 0),
  (108, .iload_n 2, 1, 0, 0, 0),
  (109, .invokevirtual 90, 3, 67, 2, 0),
  (112, .ireturn, 1, 0, 0, 0),
  (113, .aload_n 0, 1, 0, 0, 0),
  (114, .getfield 20, 3, 0, 1, 0),
  (117, .iload_n 2, 1, 0, 0, 0),
  (118, .invokevirtual 93, 3, 70, 2, 0),
  (121, .ireturn, 1, 0, 0, 0),
  (122, .aload_n 0, 1, 0, 0, 0),
  (123, .getfield 20, 3, 0, 1, 0),
  (126, .iload_n 2, 1, 0, 0, 0),
  (127, .invokevirtual 102, 3, 80, 2, 0),
  (130, .ireturn, 1, 0, 0, 0),
  (131, .aload_n 0, 1, 0, 0, 0),
  (132, .getfield 20, 3, 0, 1, 0),
  (135, .iload_n 2, 1, 0, 0, 0),
  (136, .aload_n 0, 1, 0, 0, 0),
  (137, .getfield 52, 3, 0, 8, 0),
  (140, .invokevirtual 297, 3, 126, 1, 0),
  (143, .invokevirtual 99, 3, 72, 3, 0),
  (146, .ireturn, 1, 0, 0, 0)]
def a_c25 : List (Nat × a_Rw) := [
  (0, .aload_n 0, 1, 0, 0, 0),
  (1, .getfield 10, 3, 0, 0, 0),
  (4, .iload_n 1, 1, 0, 0, 0),
  (5, .invokevirtual 152, 3, 87, 2, 0),
  (8, .ifCond .eq (14), 3, 22, 0, 0),
  (11, .aload_n 0, 1, 0, 0, 0),
  (12, .getfield 10, 3, 0, 0, 0),
  (15, .iload_n 1, 1, 0, 0, 0),
  (16, .invokevirtual 196, 3, 84, 2, 0),
  (19, .goto (5), 3, 24, 0, 0),
  (22, .bipush (-2), 2, 0, 0, -2),
  (24, .ireturn, 1, 0, 0, 0)]
def a_c26 : List (Nat × a_Rw) := [
  (0, .iconst (-1), 1, 0, 0, -1),
  (1, .istore_n 1, 1, 0, 0, 0),
  (2, .bipush (6), 2, 0, 0, 6),
  (4, .istore_n 2, 1, 0, 0, 0),
  (5, .iconst (1), 1, 0, 0, 1),
  (6, .istore_n 3, 1, 0, 0, 0),
  (7, .iload_n 3, 1, 0, 0, 0),
  (8, .aload_n 0, 1, 0, 0, 0),
  (9, .getfield 10, 3, 0, 0, 0),
  (12, .invokevirtual 155, 3, 47, 1, 0),
  (15, .if_icmp .gt (35), 3, 50, 0, 0),
  (18, .iload_n 3, 1, 0, 0, 0),
  (19, .invokestatic 140, 3, 265, 1, 0),
  (22, .iload_n 2, 1, 0, 0, 0),
  (23, .if_icmp .ge (21), 3, 44, 0, 0),
  (26, .aload_n 0, 1, 0, 0, 0),
  (27, .getfield 10, 3, 0, 0, 0),
  (30, .iload_n 3, 1, 0, 0, 0),
  (31, .invokevirtual 199, 3, 83, 2, 0),
  (34, .ifCond .eq (10), 3, 44, 0, 0),
  (37, .iload_n 3, 1, 0, 0, 0),
  (38, .istore_n 1, 1, 0, 0, 0),
  (39, .iload_n 3, 1, 0, 0, 0),
  (40, .invokestatic 140, 3, 265, 1, 0),
  (43, .istore_n 2, 1, 0, 0, 0),
  (44, .iinc 3 (1), 3, 0, 0, 1),
  (47, .goto (-40), 3, 7, 0, 0),
  (50, .iload_n 1, 1, 0, 0, 0),
  (51, .ireturn, 1, 0, 0, 0)]
def a_c27 : List (Nat × a_Rw) := [
  (0, .iload_n 1, 1, 0, 0, 0),
  (1, .tableswitch (77) (0) (3) #[31, 41, 51, 59], 31, 0, 0, 0),
  (32, .aload_n 0, 1, 0, 0, 0),
  (33, .getfield 10, 3, 0, 0, 0),
  (36, .bipush (16), 2, 0, 0, 16),
  (38, .invokevirtual 184, 3, 65, 2, 0),
  (41, .ireturn, 1, 0, 0, 0),
  (42, .aload_n 0, 1, 0, 0, 0),
  (43, .getfield 10, 3, 0, 0, 0),
  (46, .bipush (32), 2, 0, 0, 32),
  (48, .invokevirtual 184, 3, 65, 2, 0),
  (51, .ireturn, 1, 0, 0, 0),
  (52, .aload_n 0, 1, 0, 0, 0),
  (53, .getfield 10, 3, 0, 0, 0),
  (56, .invokevirtual 145, 3, 68, 1, 0),
  (59, .ireturn, 1, 0, 0, 0),
  (60, .aload_n 0, 1, 0, 0, 0),
  (61, .getfield 10, 3, 0, 0, 0),
  (64, .bipush (48), 2, 0, 0, 48),
  (66, .invokevirtual 184, 3, 65, 2, 0),
  (69, .aload_n 0, 1, 0, 0, 0),
  (70, .getfield 10, 3, 0, 0, 0),
  (73, .invokevirtual 145, 3, 68, 1, 0),
  (76, .iand, 1, 0, 0, 0),
  (77, .ireturn, 1, 0, 0, 0),
  (78, .bipush (-2), 2, 0, 0, -2),
  (80, .ireturn, 1, 0, 0, 0)]
def a_c28 : List (Nat × a_Rw) := [
  (0, .iload_n 1, 1, 0, 0, 0),
  (1, .ifCond .lt (8), 3, 9, 0, 0),
  (4, .iload_n 1, 1, 0, 0, 0),
  (5, .iconst (1), 1, 0, 0, 1),
  (6, .if_icmp .le (6), 3, 12, 0, 0),
  (9, .bipush (-3), 2, 0, 0, -3),
  (11, .ireturn, 1, 0, 0, 0),
  (12, .iload_n 2, 1, 0, 0, 0),
  (13, .ifCond .lt (8), 3, 21, 0, 0),
  (16, .iload_n 2, 1, 0, 0, 0),
  (17, .iconst (3), 1, 0, 0, 3),
  (18, .if_icmp .le (6), 3, 24, 0, 0),
  (21, .bipush (-2), 2, 0, 0, -2),
  (23, .ireturn, 1, 0, 0, 0),
  (24, .aload_n 0, 1, 0, 0, 0),
  (25, .getfield 10, 3, 0, 0, 0),
  (28, .getfield 164, 3, 1, 0, 0),
  (31, .iconst (3), 1, 0, 0, 3),
  (32, .if_icmp .le (6), 3, 38, 0, 0),
  (35, .bipush (-5), 2, 0, 0, -5),
  (37, .ireturn, 1, 0, 0, 0),
  (38, .aload_n 0, 1, 0, 0, 0),
  (39, .iload_n 1, 1, 0, 0, 0),
  (40, .invokevirtual 202, 3, 29, 2, 0),
  (43, .astore_n 3, 1, 0, 0, 0),
  (44, .iload_n 2, 1, 0, 0, 0),
  (45, .tableswitch (42) (0) (2) #[27, 32, 37], 27, 0, 0, 0),
  (72, .aload_n 3, 1, 0, 0, 0),
  (73, .getfield 206, 3, 7, 5, 0),
  (76, .ireturn, 1, 0, 0, 0),
  (77, .aload_n 3, 1, 0, 0, 0),
  (78, .getfield 211, 3, 7, 6, 0),
  (81, .ireturn, 1, 0, 0, 0),
  (82, .aload_n 3, 1, 0, 0, 0),
  (83, .getfield 214, 3, 7, 4, 0),
  (86, .ireturn, 1, 0, 0, 0),
  (87, .aload_n 3, 1, 0, 0, 0),
  (88, .getfield 217, 3, 7, 7, 0),
  (91, .ireturn, 1, 0, 0, 0)]
def a_c29 : List (Nat × a_Rw) := [
  (0, .iload_n 1, 1, 0, 0, 0),
  (1, .iconst (1), 1, 0, 0, 1),
  (2, .if_icmp .ne (13), 3, 15, 0, 0),
  (5, .aload_n 0, 1, 0, 0, 0),
  (6, .getfield 59, 3, 0, 9, 0),
  (9, .getfield 300, 3, 6, 9, 0),
  (12, .goto (10), 3, 22, 0, 0),
  (15, .aload_n 0, 1, 0, 0, 0),
  (16, .getfield 59, 3, 0, 9, 0),
  (19, .getfield 304, 3, 6, 8, 0),
  (22, .astore_n 2, 1, 0, 0, 0),
  (23, .aload_n 0, 1, 0, 0, 0),
  (24, .getfield 10, 3, 0, 0, 0),
  (27, .invokevirtual 307, 3, 92, 1, 0),
  (30, .istore_n 3, 1, 0, 0, 0),
  (31, .aload_n 2, 1, 0, 0, 0),
  (32, .getfield 310, 3, 7, 0, 0),
  (35, .iload_n 3, 1, 0, 0, 0),
  (36, .if_icmp .eq (80), 3, 116, 0, 0),
  (39, .aload_n 0, 1, 0, 0, 0),
  (40, .getfield 59, 3, 0, 9, 0),
  (43, .aload_n 0, 1, 0, 0, 0),
  (44, .getfield 10, 3, 0, 0, 0),
  (47, .aload_n 2, 1, 0, 0, 0),
  (48, .invokevirtual 313, 3, 128, 3, 0),
  (51, .iconst (0), 1, 0, 0, 0),
  (52, .istore 4, 2, 0, 0, 0),
  (54, .iload 4, 2, 0, 0, 0),
  (56, .sipush (4096), 3, 0, 0, 4096),
  (59, .if_icmp .ge (52), 3, 111, 0, 0),
  (62, .aload_n 0, 1, 0, 0, 0),
  (63, .getfield 59, 3, 0, 9, 0),
  (66, .invokevirtual 317, 3, 131, 1, 0),
  (69, .ifCond .eq (42), 3, 111, 0, 0),
  (72, .aload_n 0, 1, 0, 0, 0),
  (73, .getfield 59, 3, 0, 9, 0),
  (76, .invokevirtual 321, 3, 132, 1, 0),
  (79, .aload_n 0, 1, 0, 0, 0),
  (80, .getfield 59, 3, 0, 9, 0),
  (83, .invokevirtual 324, 3, 135, 1, 0),
  (86, .aload_n 0, 1, 0, 0, 0),
  (87, .getfield 59, 3, 0, 9, 0),
  (90, .invokevirtual 327, 3, 136, 1, 0),
  (93, .iload_n 1, 1, 0, 0, 0),
  (94, .iconst (1), 1, 0, 0, 1),
  (95, .if_icmp .ne (10), 3, 105, 0, 0),
  (98, .aload_n 0, 1, 0, 0, 0),
  (99, .getfield 59, 3, 0, 9, 0),
  (102, .invokevirtual 330, 3, 137, 1, 0),
  (105, .iinc 4 (1), 3, 0, 0, 1),
  (108, .goto (-54), 3, 54, 0, 0),
  (111, .aload_n 2, 1, 0, 0, 0),
  (112, .iload_n 3, 1, 0, 0, 0),
  (113, .putfield 310, 3, 7, 0, 0),
  (116, .aload_n 2, 1, 0, 0, 0),
  (117, .areturn, 1, 0, 0, 0)]
def a_c30 : List (Nat × a_Rw) := [
  (0, .aload_n 0, 1, 0, 0, 0),
  (1, .getfield 10, 3, 0, 0, 0),
  (4, .iload_n 1, 1, 0, 0, 0),
  (5, .invokevirtual 220, 3, 95, 2, 0),
  (8, .istore 4, 2, 0, 0, 0),
  (10, .iload 4, 2, 0, 0, 0),
  (12, .iconst (-1), 1, 0, 0, -1),
  (13, .if_icmp .eq (27), 3, 40, 0, 0),
  (16, .iload_n 2, 1, 0, 0, 0),
  (17, .ifCond .lt (23), 3, 40, 0, 0),
  (20, .iload_n 2, 1, 0, 0, 0),
  (21, .aload_n 0, 1, 0, 0, 0),
  (22, .getfield 10, 3, 0, 0, 0),
  (25, .invokevirtual 155, 3, 47, 1, 0),
  (28, .if_icmp .gt (12), 3, 40, 0, 0),
  (31, .iload_n 3, 1, 0, 0, 0),
  (32, .ifCond .lt (8), 3, 40, 0, 0),
  (35, .iload_n 3, 1, 0, 0, 0),
  (36, .iconst (1), 1, 0, 0, 1),
  (37, .if_icmp .le (6), 3, 43, 0, 0),
  (40, .bipush (-3), 2, 0, 0, -3),
  (42, .ireturn, 1, 0, 0, 0),
  (43, .aload_n 0, 1, 0, 0, 0),
  (44, .getfield 10, 3, 0, 0, 0),
  (47, .getfield 164, 3, 1, 0, 0),
  (50, .iconst (3), 1, 0, 0, 3),
  (51, .if_icmp .le (6), 3, 57, 0, 0),
  (54, .bipush (-5), 2, 0, 0, -5),
  (56, .ireturn, 1, 0, 0, 0),
  (57, .aload_n 0, 1, 0, 0, 0),
  (58, .iload_n 3, 1, 0, 0, 0),
  (59, .invokevirtual 202, 3, 29, 2, 0),
  (62, .iload 4, 2, 0, 0, 0),
  (64, .bipush (8), 2, 0, 0, 8),
  (66, .imul, 1, 0, 0, 0),
  (67, .iload_n 2, 1, 0, 0, 0),
  (68, .iadd, 1, 0, 0, 0),
  (69, .invokevirtual 223, 3, 142, 2, 0),
  (72, .ireturn, 1, 0, 0, 0)]
def a_c31 : List (Nat × a_Rw) := [
  (0, .iload_n 1, 1, 0, 0, 0),
  (1, .ifCond .lt (8), 3, 9, 0, 0),
  (4, .iload_n 1, 1, 0, 0, 0),
  (5, .iconst (5), 1, 0, 0, 5),
  (6, .if_icmp .le (6), 3, 12, 0, 0),
  (9, .bipush (-2), 2, 0, 0, -2),
  (11, .ireturn, 1, 0, 0, 0),
  (12, .iload_n 2, 1, 0, 0, 0),
  (13, .ifCond .lt (8), 3, 21, 0, 0),
  (16, .iload_n 2, 1, 0, 0, 0),
  (17, .iconst (1), 1, 0, 0, 1),
  (18, .if_icmp .le (6), 3, 24, 0, 0),
  (21, .bipush (-3), 2, 0, 0, -3),
  (23, .ireturn, 1, 0, 0, 0),
  (24, .aload_n 0, 1, 0, 0, 0),
  (25, .getfield 10, 3, 0, 0, 0),
  (28, .getfield 164, 3, 1, 0, 0),
  (31, .iconst (3), 1, 0, 0, 3),
  (32, .if_icmp .le (6), 3, 38, 0, 0),
  (35, .bipush (-5), 2, 0, 0, -5),
  (37, .ireturn, 1, 0, 0, 0),
  (38, .aload_n 0, 1, 0, 0, 0),
  (39, .iload_n 2, 1, 0, 0, 0),
  (40, .invokevirtual 202, 3, 29, 2, 0),
  (43, .getfield 226, 3, 7, 2, 0),
  (46, .iload_n 1, 1, 0, 0, 0),
  (47, .iaload, 1, 0, 0, 0),
  (48, .ireturn, 1, 0, 0, 0)]
def a_c32 : List (Nat × a_Rw) := [
  (0, .iload_n 1, 1, 0, 0, 0),
  (1, .ifCond .lt (12), 3, 13, 0, 0),
  (4, .iload_n 1, 1, 0, 0, 0),
  (5, .iconst (1), 1, 0, 0, 1),
  (6, .if_icmp .gt (7), 3, 13, 0, 0),
  (9, .iload_n 2, 1, 0, 0, 0),
  (10, .ifCond .ge (6), 3, 16, 0, 0),
  (13, .bipush (-3), 2, 0, 0, -3),
  (15, .ireturn, 1, 0, 0, 0),
  (16, .aload_n 0, 1, 0, 0, 0),
  (17, .getfield 10, 3, 0, 0, 0),
  (20, .getfield 164, 3, 1, 0, 0),
  (23, .iconst (3), 1, 0, 0, 3),
  (24, .if_icmp .le (6), 3, 30, 0, 0),
  (27, .bipush (-5), 2, 0, 0, -5),
  (29, .ireturn, 1, 0, 0, 0),
  (30, .aload_n 0, 1, 0, 0, 0),
  (31, .iload_n 1, 1, 0, 0, 0),
  (32, .invokevirtual 202, 3, 29, 2, 0),
  (35, .astore_n 3, 1, 0, 0, 0),
  (36, .iload_n 2, 1, 0, 0, 0),
  (37, .aload_n 3, 1, 0, 0, 0),
  (38, .getfield 214, 3, 7, 4, 0),
  (41, .if_icmp .ge (18), 3, 59, 0, 0),
  (44, .iload_n 2, 1, 0, 0, 0),
  (45, .bipush (64), 2, 0, 0, 64),
  (47, .if_icmp .ge (12), 3, 59, 0, 0),
  (50, .aload_n 3, 1, 0, 0, 0),
  (51, .getfield 229, 3, 7, 3, 0),
  (54, .iload_n 2, 1, 0, 0, 0),
  (55, .iaload, 1, 0, 0, 0),
  (56, .goto (4), 3, 60, 0, 0),
  (59, .iconst (-1), 1, 0, 0, -1),
  (60, .ireturn, 1, 0, 0, 0)]
def a_c33 : List (Nat × a_Rw) := [
  (0, .aload_n 0, 1, 0, 0, 0),
  (1, .getfield 232, 3, 0, 6, 0),
  (4, .bipush (20), 2, 0, 0, 20),
  (6, .iadd, 1, 0, 0, 0),
  (7, .sipush (200), 3, 0, 0, 200),
  (10, .if_icmp .le (6), 3, 16, 0, 0),
  (13, .bipush (-3), 2, 0, 0, -3),
  (15, .ireturn, 1, 0, 0, 0),
  (16, .aload_n 0, 1, 0, 0, 0),
  (17, .iload_n 1, 1, 0, 0, 0),
  (18, .invokevirtual 235, 3, 34, 2, 0),
  (21, .aload_n 0, 1, 0, 0, 0),
  (22, .iload_n 2, 1, 0, 0, 0),
  (23, .invokevirtual 235, 3, 34, 2, 0),
  (26, .aload_n 0, 1, 0, 0, 0),
  (27, .iload_n 3, 1, 0, 0, 0),
  (28, .invokevirtual 235, 3, 34, 2, 0),
  (31, .aload_n 0, 1, 0, 0, 0),
  (32, .iload 4, 2, 0, 0, 0),
  (34, .invokevirtual 235, 3, 34, 2, 0),
  (37, .aload_n 0, 1, 0, 0, 0),
  (38, .iload 5, 2, 0, 0, 0),
  (40, .invokevirtual 235, 3, 34, 2, 0),
  (43, .aload_n 0, 1, 0, 0, 0),
  (44, .getfield 232, 3, 0, 6, 0),
  (47, .ireturn, 1, 0, 0, 0)]
def a_c34 : List (Nat × a_Rw) := [
  (0, .bipush (24), 2, 0, 0, 24),
  (2, .istore_n 2, 1, 0, 0, 0),
  (3, .iload_n 2, 1, 0, 0, 0),
  (4, .ifCond .lt (32), 3, 36, 0, 0),
  (7, .aload_n 0, 1, 0, 0, 0),
  (8, .getfield 38, 3, 0, 5, 0),
  (11, .aload_n 0, 1, 0, 0, 0),
  (12, .getfield 232, 3, 0, 6, 0),
  (15, .iload_n 1, 1, 0, 0, 0),
  (16, .iload_n 2, 1, 0, 0, 0),
  (17, .ishr, 1, 0, 0, 0),
  (18, .i2b, 1, 0, 0, 0),
  (19, .bastore, 1, 0, 0, 0),
  (20, .aload_n 0, 1, 0, 0, 0),
  (21, .dup, 1, 0, 0, 0),
  (22, .getfield 232, 3, 0, 6, 0),
  (25, .iconst (1), 1, 0, 0, 1),
  (26, .iadd, 1, 0, 0, 0),
  (27, .putfield 232, 3, 0, 6, 0),
  (30, .iinc 2 (-8), 3, 0, 0, -8),
  (33, .goto (-30), 3, 3, 0, 0),
  (36, .return_, 1, 0, 0, 0)]
def a_c35 : List (Nat × a_Rw) := [
  (0, .iload_n 1, 1, 0, 0, 0),
  (1, .ifCond .lt (11), 3, 12, 0, 0),
  (4, .iload_n 1, 1, 0, 0, 0),
  (5, .aload_n 0, 1, 0, 0, 0),
  (6, .getfield 232, 3, 0, 6, 0),
  (9, .if_icmp .le (6), 3, 15, 0, 0),
  (12, .bipush (-3), 2, 0, 0, -3),
  (14, .ireturn, 1, 0, 0, 0),
  (15, .aload_n 0, 1, 0, 0, 0),
  (16, .getfield 45, 3, 0, 7, 0),
  (19, .aload_n 0, 1, 0, 0, 0),
  (20, .getfield 38, 3, 0, 5, 0),
  (23, .iload_n 1, 1, 0, 0, 0),
  (24, .invokevirtual 239, 3, 109, 3, 0),
  (27, .aload_n 0, 1, 0, 0, 0),
  (28, .iconst (0), 1, 0, 0, 0),
  (29, .putfield 232, 3, 0, 6, 0),
  (32, .aload_n 0, 1, 0, 0, 0),
  (33, .getfield 45, 3, 0, 7, 0),
  (36, .getfield 243, 3, 4, 4, 0),
  (39, .ifCond .eq (14), 3, 53, 0, 0),
  (42, .bipush (-30), 2, 0, 0, -30),
  (44, .aload_n 0, 1, 0, 0, 0),
  (45, .getfield 45, 3, 0, 7, 0),
  (48, .getfield 243, 3, 4, 4, 0),
  (51, .isub, 1, 0, 0, 0),
  (52, .ireturn, 1, 0, 0, 0),
  (53, .aload_n 0, 1, 0, 0, 0),
  (54, .getfield 26, 3, 0, 2, 0),
  (57, .aload_n 0, 1, 0, 0, 0),
  (58, .getfield 10, 3, 0, 0, 0),
  (61, .invokevirtual 63, 3, 105, 2, 0),
  (64, .aload_n 0, 1, 0, 0, 0),
  (65, .invokevirtual 246, 3, 36, 1, 0),
  (68, .istore_n 2, 1, 0, 0, 0),
  (69, .iload_n 2, 1, 0, 0, 0),
  (70, .ifCond .le (12), 3, 82, 0, 0),
  (73, .aload_n 0, 1, 0, 0, 0),
  (74, .getfield 26, 3, 0, 2, 0),
  (77, .iload_n 2, 1, 0, 0, 0),
  (78, .invokevirtual 67, 3, 106, 2, 0),
  (81, .pop, 1, 0, 0, 0),
  (82, .iload_n 2, 1, 0, 0, 0),
  (83, .ireturn, 1, 0, 0, 0)]
def a_c36 : List (Nat × a_Rw) := [
  (0, .iconst (0), 1, 0, 0, 0),
  (1, .istore_n 1, 1, 0, 0, 0),
  (2, .iconst (0), 1, 0, 0, 0),
  (3, .istore_n 2, 1, 0, 0, 0),
  (4, .iload_n 2, 1, 0, 0, 0),
  (5, .aload_n 0, 1, 0, 0, 0),
  (6, .getfield 45, 3, 0, 7, 0),
  (9, .getfield 278, 3, 4, 3, 0),
  (12, .if_icmp .ge (59), 3, 71, 0, 0),
  (15, .aload_n 0, 1, 0, 0, 0),
  (16, .aload_n 0, 1, 0, 0, 0),
  (17, .getfield 45, 3, 0, 7, 0),
  (20, .getfield 281, 3, 4, 0, 0),
  (23, .iload_n 2, 1, 0, 0, 0),
  (24, .iaload, 1, 0, 0, 0),
  (25, .aload_n 0, 1, 0, 0, 0),
  (26, .getfield 45, 3, 0, 7, 0),
  (29, .getfield 284, 3, 4, 1, 0),
  (32, .iload_n 2, 1, 0, 0, 0),
  (33, .iaload, 1, 0, 0, 0),
  (34, .aload_n 0, 1, 0, 0, 0),
  (35, .getfield 45, 3, 0, 7, 0),
  (38, .getfield 287, 3, 4, 2, 0),
  (41, .iload_n 2, 1, 0, 0, 0),
  (42, .iaload, 1, 0, 0, 0),
  (43, .invokevirtual 290, 3, 37, 4, 0),
  (46, .istore_n 3, 1, 0, 0, 0),
  (47, .iload_n 3, 1, 0, 0, 0),
  (48, .ifCond .ge (14), 3, 62, 0, 0),
  (51, .aload_n 0, 1, 0, 0, 0),
  (52, .getfield 45, 3, 0, 7, 0),
  (55, .iload_n 3, 1, 0, 0, 0),
  (56, .putfield 252, 3, 4, 6, 0),
  (59, .goto (12), 3, 71, 0, 0),
  (62, .iinc 1 (1), 3, 0, 0, 1),
  (65, .iinc 2 (1), 3, 0, 0, 1),
  (68, .goto (-64), 3, 4, 0, 0),
  (71, .iload_n 1, 1, 0, 0, 0),
  (72, .ireturn, 1, 0, 0, 0)]
def a_c37 : List (Nat × a_Rw) := [
  (0, .iload_n 1, 1, 0, 0, 0),
  (1, .tableswitch (134) (0) (8) #[51, 60, 69, 78, 87, 96, 106, 115, 124], 51, 0, 0, 0),
  (52, .aload_n 0, 1, 0, 0, 0),
  (53, .getfield 10, 3, 0, 0, 0),
  (56, .iload_n 3, 1, 0, 0, 0),
  (57, .invokevirtual 81, 3, 57, 2, 0),
  (60, .ireturn, 1, 0, 0, 0),
  (61, .aload_n 0, 1, 0, 0, 0),
  (62, .getfield 10, 3, 0, 0, 0),
  (65, .iload_n 3, 1, 0, 0, 0),
  (66, .invokevirtual 84, 3, 64, 2, 0),
  (69, .ireturn, 1, 0, 0, 0),
  (70, .aload_n 0, 1, 0, 0, 0),
  (71, .getfield 10, 3, 0, 0, 0),
  (74, .iload_n 3, 1, 0, 0, 0),
  (75, .invokevirtual 87, 3, 66, 2, 0),
  (78, .ireturn, 1, 0, 0, 0),
  (79, .aload_n 0, 1, 0, 0, 0),
  (80, .getfield 10, 3, 0, 0, 0),
  (83, .iload_n 2, 1, 0, 0, 0),
  (84, .invokevirtual 90, 3, 67, 2, 0),
  (87, .ireturn, 1, 0, 0, 0),
  (88, .aload_n 0, 1, 0, 0, 0),
  (89, .getfield 10, 3, 0, 0, 0),
  (92, .iload_n 2, 1, 0, 0, 0),
  (93, .invokevirtual 93, 3, 70, 2, 0),
  (96, .ireturn, 1, 0, 0, 0),
  (97, .aload_n 0, 1, 0, 0, 0),
  (98, .getfield 10, 3, 0, 0, 0),
  (101, .iload_n 2, 1, 0, 0, 0),
  (102, .iload_n 3, 1, 0, 0, 0),
  (103, .invokevirtual 99, 3, 72, 3, 0),
  (106, .ireturn, 1, 0, 0, 0),
  (107, .aload_n 0, 1, 0, 0, 0),
  (108, .getfield 10, 3, 0, 0, 0),
  (111, .iload_n 2, 1, 0, 0, 0),
  (112, .invokevirtual 102, 3, 80, 2, 0),
  (115, .ireturn, 1, 0, 0, 0),
  (116, .aload_n 0, 1, 0, 0, 0),
  (117, .getfield 10, 3, 0, 0, 0),
  (120, .iconst (0), 1, 0, 0, 0),
  (121, .invokevirtual 96, 3, 71, 2, 0),
  (124, .ireturn, 1, 0, 0, 0),
  (125, .aload_n 0, 1, 0, 0, 0),
  (126, .getfield 10, 3, 0, 0, 0),
  (129, .iload_n 2, 1, 0, 0, 0),
  (130, .iload_n 3, 1, 0, 0, 0),
  (131, .invokevirtual 71, 3, 52, 3, 0),
  (134, .ireturn, 1, 0, 0, 0),
  (135, .aload_n 0, 1, 0, 0, 0),
  (136, .getfield 10, 3, 0, 0, 0),
  (139, .iconst (-1), 1, 0, 0, -1),
  (140, .invokevirtual 105, 3, 82, 2, 0),
  (143, .ireturn, 1, 0, 0, 0)]
def a_c38 : List (Nat × a_Rw) := [
  (0, .iload_n 1, 1, 0, 0, 0),
  (1, .tableswitch (51) (0) (2) #[27, 35, 43], 27, 0, 0, 0),
  (28, .aload_n 0, 1, 0, 0, 0),
  (29, .getfield 45, 3, 0, 7, 0),
  (32, .getfield 243, 3, 4, 4, 0),
  (35, .ireturn, 1, 0, 0, 0),
  (36, .aload_n 0, 1, 0, 0, 0),
  (37, .getfield 45, 3, 0, 7, 0),
  (40, .getfield 249, 3, 4, 5, 0),
  (43, .ireturn, 1, 0, 0, 0),
  (44, .aload_n 0, 1, 0, 0, 0),
  (45, .getfield 45, 3, 0, 7, 0),
  (48, .getfield 252, 3, 4, 6, 0),
  (51, .ireturn, 1, 0, 0, 0),
  (52, .iconst (-1), 1, 0, 0, -1),
  (53, .ireturn, 1, 0, 0, 0)]
def a_c39 : List (Nat × a_Rw) := [
  (0, .aload_n 0, 1, 0, 0, 0),
  (1, .getfield 10, 3, 0, 0, 0),
  (4, .getfield 254, 3, 1, 11, 0),
  (7, .getfield 258, 3, 2, 2, 0),
  (10, .ireturn, 1, 0, 0, 0)]
def a_c40 : List (Nat × a_Rw) := [
  (0, .iload_n 1, 1, 0, 0, 0),
  (1, .ifCond .lt (17), 3, 18, 0, 0),
  (4, .iload_n 1, 1, 0, 0, 0),
  (5, .aload_n 0, 1, 0, 0, 0),
  (6, .getfield 10, 3, 0, 0, 0),
  (9, .getfield 254, 3, 1, 11, 0),
  (12, .getfield 258, 3, 2, 2, 0),
  (15, .if_icmp .lt (6), 3, 21, 0, 0),
  (18, .bipush (-2), 2, 0, 0, -2),
  (20, .ireturn, 1, 0, 0, 0),
  (21, .iload_n 2, 1, 0, 0, 0),
  (22, .iconst (-1), 1, 0, 0, -1),
  (23, .if_icmp .ge (6), 3, 29, 0, 0),
  (26, .bipush (-3), 2, 0, 0, -3),
  (28, .ireturn, 1, 0, 0, 0),
  (29, .iload_n 2, 1, 0, 0, 0),
  (30, .iconst (-1), 1, 0, 0, -1),
  (31, .if_icmp .ne (17), 3, 48, 0, 0),
  (34, .aload_n 0, 1, 0, 0, 0),
  (35, .getfield 10, 3, 0, 0, 0),
  (38, .getfield 254, 3, 1, 11, 0),
  (41, .iload_n 1, 1, 0, 0, 0),
  (42, .invokevirtual 261, 3, 100, 2, 0),
  (45, .goto (15), 3, 60, 0, 0),
  (48, .aload_n 0, 1, 0, 0, 0),
  (49, .getfield 10, 3, 0, 0, 0),
  (52, .getfield 254, 3, 1, 11, 0),
  (55, .iload_n 1, 1, 0, 0, 0),
  (56, .iload_n 2, 1, 0, 0, 0),
  (57, .invokevirtual 264, 3, 103, 3, 0),
  (60, .ireturn, 1, 0, 0, 0)]
def a_c41 : List (Nat × a_Rw) := [
  (0, .iload_n 1, 1, 0, 0, 0),
  (1, .iconst (1), 1, 0, 0, 1),
  (2, .if_icmp .lt (14), 3, 16, 0, 0),
  (5, .iload_n 1, 1, 0, 0, 0),
  (6, .aload_n 0, 1, 0, 0, 0),
  (7, .getfield 26, 3, 0, 2, 0),
  (10, .getfield 267, 3, 3, 2, 0),
  (13, .if_icmp .le (6), 3, 19, 0, 0),
  (16, .bipush (-3), 2, 0, 0, -3),
  (18, .ireturn, 1, 0, 0, 0),
  (19, .aload_n 0, 1, 0, 0, 0),
  (20, .getfield 26, 3, 0, 2, 0),
  (23, .aload_n 0, 1, 0, 0, 0),
  (24, .getfield 10, 3, 0, 0, 0),
  (27, .iload_n 1, 1, 0, 0, 0),
  (28, .invokevirtual 268, 3, 107, 3, 0),
  (31, .aload_n 0, 1, 0, 0, 0),
  (32, .getfield 26, 3, 0, 2, 0),
  (35, .getfield 267, 3, 3, 2, 0),
  (38, .ireturn, 1, 0, 0, 0)]
def a_c42 : List (Nat × a_Rw) := [
  (0, .iload_n 1, 1, 0, 0, 0),
  (1, .ifCond .lt (8), 3, 9, 0, 0),
  (4, .iload_n 1, 1, 0, 0, 0),
  (5, .iconst (2), 1, 0, 0, 2),
  (6, .if_icmp .lt (6), 3, 12, 0, 0),
  (9, .bipush (-2), 2, 0, 0, -2),
  (11, .ireturn, 1, 0, 0, 0),
  (12, .aload_n 0, 1, 0, 0, 0),
  (13, .getfield 30, 3, 0, 3, 0),
  (16, .iload_n 1, 1, 0, 0, 0),
  (17, .aaload, 1, 0, 0, 0),
  (18, .aload_n 0, 1, 0, 0, 0),
  (19, .getfield 10, 3, 0, 0, 0),
  (22, .invokevirtual 181, 3, 50, 2, 0),
  (25, .aload_n 0, 1, 0, 0, 0),
  (26, .getfield 34, 3, 0, 4, 0),
  (29, .iload_n 1, 1, 0, 0, 0),
  (30, .iconst (1), 1, 0, 0, 1),
  (31, .bastore, 1, 0, 0, 0),
  (32, .iconst (0), 1, 0, 0, 0),
  (33, .ireturn, 1, 0, 0, 0)]
def a_c43 : List (Nat × a_Rw) := [
  (0, .iload_n 1, 1, 0, 0, 0),
  (1, .ifCond .lt (8), 3, 9, 0, 0),
  (4, .iload_n 1, 1, 0, 0, 0),
  (5, .iconst (2), 1, 0, 0, 2),
  (6, .if_icmp .lt (6), 3, 12, 0, 0),
  (9, .bipush (-2), 2, 0, 0, -2),
  (11, .ireturn, 1, 0, 0, 0),
  (12, .aload_n 0, 1, 0, 0, 0),
  (13, .getfield 34, 3, 0, 4, 0),
  (16, .iload_n 1, 1, 0, 0, 0),
  (17, .baload, 1, 0, 0, 0),
  (18, .ifCond .ne (6), 3, 24, 0, 0),
  (21, .bipush (-6), 2, 0, 0, -6),
  (23, .ireturn, 1, 0, 0, 0),
  (24, .aload_n 0, 1, 0, 0, 0),
  (25, .getfield 10, 3, 0, 0, 0),
  (28, .aload_n 0, 1, 0, 0, 0),
  (29, .getfield 30, 3, 0, 3, 0),
  (32, .iload_n 1, 1, 0, 0, 0),
  (33, .aaload, 1, 0, 0, 0),
  (34, .invokevirtual 181, 3, 50, 2, 0),
  (37, .aload_n 0, 1, 0, 0, 0),
  (38, .getfield 26, 3, 0, 2, 0),
  (41, .iconst (0), 1, 0, 0, 0),
  (42, .putfield 267, 3, 3, 2, 0),
  (45, .iconst (0), 1, 0, 0, 0),
  (46, .ireturn, 1, 0, 0, 0)]
def a_c44 : List (Nat × a_Rw) := [
  (0, .iload_n 1, 1, 0, 0, 0),
  (1, .tableswitch (115) (0) (7) #[47, 55, 63, 71, 79, 87, 102, 110], 47, 0, 0, 0),
  (48, .aload_n 0, 1, 0, 0, 0),
  (49, .getfield 10, 3, 0, 0, 0),
  (52, .getfield 164, 3, 1, 0, 0),
  (55, .ireturn, 1, 0, 0, 0),
  (56, .aload_n 0, 1, 0, 0, 0),
  (57, .getfield 10, 3, 0, 0, 0),
  (60, .getfield 272, 3, 1, 1, 0),
  (63, .ireturn, 1, 0, 0, 0),
  (64, .aload_n 0, 1, 0, 0, 0),
  (65, .getfield 10, 3, 0, 0, 0),
  (68, .getfield 275, 3, 1, 2, 0),
  (71, .ireturn, 1, 0, 0, 0),
  (72, .aload_n 0, 1, 0, 0, 0),
  (73, .getfield 10, 3, 0, 0, 0),
  (76, .getfield 168, 3, 1, 3, 0),
  (79, .ireturn, 1, 0, 0, 0),
  (80, .aload_n 0, 1, 0, 0, 0),
  (81, .getfield 10, 3, 0, 0, 0),
  (84, .getfield 171, 3, 1, 4, 0),
  (87, .ireturn, 1, 0, 0, 0),
  (88, .aload_n 0, 1, 0, 0, 0),
  (89, .getfield 10, 3, 0, 0, 0),
  (92, .aload_n 0, 1, 0, 0, 0),
  (93, .getfield 10, 3, 0, 0, 0),
  (96, .invokevirtual 155, 3, 47, 1, 0),
  (99, .invokevirtual 174, 3, 49, 2, 0),
  (102, .ireturn, 1, 0, 0, 0),
  (103, .aload_n 0, 1, 0, 0, 0),
  (104, .getfield 26, 3, 0, 2, 0),
  (107, .getfield 267, 3, 3, 2, 0),
  (110, .ireturn, 1, 0, 0, 0),
  (111, .aload_n 0, 1, 0, 0, 0),
  (112, .getfield 232, 3, 0, 6, 0),
  (115, .ireturn, 1, 0, 0, 0),
  (116, .iconst (-1), 1, 0, 0, -1),
  (117, .ireturn, 1, 0, 0, 0)]
def a_c45 : List (Nat × a_Rw) := [
  (0, .aload_n 0, 1, 0, 0, 0),
  (1, .invokespecial 3, 3, 1000, 1, 0),
  (4, .aload_n 0, 1, 0, 0, 0),
  (5, .iconst (2), 1, 0, 0, 2),
  (6, .putfield 9, 3, 1, 0, 0),
  (9, .aload_n 0, 1, 0, 0, 0),
  (10, .iconst (5), 1, 0, 0, 5),
  (11, .newarray .int, 2, 0, 0, 0),
  (13, .putfield 15, 3, 1, 5, 0),
  (16, .aload_n 0, 1, 0, 0, 0),
  (17, .iconst (5), 1, 0, 0, 5),
  (18, .newarray .int, 2, 0, 0, 0),
  (20, .putfield 19, 3, 1, 6, 0),
  (23, .aload_n 0, 1, 0, 0, 0),
  (24, .iconst (5), 1, 0, 0, 5),
  (25, .newarray .int, 2, 0, 0, 0),
  (27, .putfield 22, 3, 1, 7, 0),
  (30, .aload_n 0, 1, 0, 0, 0),
  (31, .iconst (5), 1, 0, 0, 5),
  (32, .newarray .int, 2, 0, 0, 0),
  (34, .putfield 25, 3, 1, 8, 0),
  (37, .aload_n 0, 1, 0, 0, 0),
  (38, .iconst (5), 1, 0, 0, 5),
  (39, .newarray .int, 2, 0, 0, 0),
  (41, .putfield 28, 3, 1, 9, 0),
  (44, .aload_n 0, 1, 0, 0, 0),
  (45, .iconst (5), 1, 0, 0, 5),
  (46, .newarray .int, 2, 0, 0, 0),
  (48, .putfield 31, 3, 1, 10, 0),
  (51, .aload_n 0, 1, 0, 0, 0),
  (52, .new 34, 3, 2, 0, 0),
  (55, .dup, 1, 0, 0, 0),
  (56, .invokespecial 36, 3, 96, 1, 0),
  (59, .putfield 37, 3, 1, 11, 0),
  (62, .return_, 1, 0, 0, 0)]
def a_c46 : List (Nat × a_Rw) := [
  (0, .aload_n 0, 1, 0, 0, 0),
  (1, .iload_n 1, 1, 0, 0, 0),
  (2, .putfield 9, 3, 1, 0, 0),
  (5, .aload_n 0, 1, 0, 0, 0),
  (6, .iload_n 2, 1, 0, 0, 0),
  (7, .putfield 41, 3, 1, 1, 0),
  (10, .aload_n 0, 1, 0, 0, 0),
  (11, .iconst (0), 1, 0, 0, 0),
  (12, .putfield 44, 3, 1, 2, 0),
  (15, .aload_n 0, 1, 0, 0, 0),
  (16, .getfield 37, 3, 1, 11, 0),
  (19, .invokevirtual 47, 3, 97, 1, 0),
  (22, .aload_n 0, 1, 0, 0, 0),
  (23, .getfield 15, 3, 1, 5, 0),
  (26, .iconst (0), 1, 0, 0, 0),
  (27, .invokestatic 50, 3, 263, 2, 0),
  (30, .aload_n 0, 1, 0, 0, 0),
  (31, .getfield 19, 3, 1, 6, 0),
  (34, .iconst (1), 1, 0, 0, 1),
  (35, .invokestatic 50, 3, 263, 2, 0),
  (38, .aload_n 0, 1, 0, 0, 0),
  (39, .getfield 22, 3, 1, 7, 0),
  (42, .iconst (0), 1, 0, 0, 0),
  (43, .invokestatic 50, 3, 263, 2, 0),
  (46, .aload_n 0, 1, 0, 0, 0),
  (47, .getfield 25, 3, 1, 8, 0),
  (50, .iconst (1), 1, 0, 0, 1),
  (51, .invokestatic 50, 3, 263, 2, 0),
  (54, .aload_n 0, 1, 0, 0, 0),
  (55, .getfield 28, 3, 1, 9, 0),
  (58, .iconst (1), 1, 0, 0, 1),
  (59, .invokestatic 50, 3, 263, 2, 0),
  (62, .aload_n 0, 1, 0, 0, 0),
  (63, .getfield 31, 3, 1, 10, 0),
  (66, .aload_n 0, 1, 0, 0, 0),
  (67, .invokevirtual 56, 3, 47, 1, 0),
  (70, .invokestatic 50, 3, 263, 2, 0),
  (73, .aload_n 0, 1, 0, 0, 0),
  (74, .invokevirtual 60, 3, 48, 1, 0),
  (77, .return_, 1, 0, 0, 0)]
def a_c47 : List (Nat × a_Rw) := [
  (0, .iconst (1), 1, 0, 0, 1),
  (1, .aload_n 0, 1, 0, 0, 0),
  (2, .getfield 9, 3, 1, 0, 0),
  (5, .ishl, 1, 0, 0, 0),
  (6, .iconst (1), 1, 0, 0, 1),
  (7, .isub, 1, 0, 0, 0),
  (8, .ireturn, 1, 0, 0, 0)]
def a_c48 : List (Nat × a_Rw) := [
  (0, .aload_n 0, 1, 0, 0, 0),
  (1, .aload_n 0, 1, 0, 0, 0),
  (2, .invokevirtual 56, 3, 47, 1, 0),
  (5, .invokevirtual 93, 3, 49, 2, 0),
  (8, .iconst (2), 1, 0, 0, 2),
  (9, .idiv, 1, 0, 0, 0),
  (10, .iconst (1), 1, 0, 0, 1),
  (11, .iadd, 1, 0, 0, 0),
  (12, .istore_n 1, 1, 0, 0, 0),
  (13, .aload_n 0, 1, 0, 0, 0),
  (14, .iload_n 1, 1, 0, 0, 0),
  (15, .putfield 77, 3, 1, 3, 0),
  (18, .aload_n 0, 1, 0, 0, 0),
  (19, .iload_n 1, 1, 0, 0, 0),
  (20, .putfield 80, 3, 1, 4, 0),
  (23, .return_, 1, 0, 0, 0)]
def a_c49 : List (Nat × a_Rw) := [
  (0, .iconst (0), 1, 0, 0, 0),
  (1, .istore_n 2, 1, 0, 0, 0),
  (2, .iconst (0), 1, 0, 0, 0),
  (3, .istore_n 3, 1, 0, 0, 0),
  (4, .iload_n 3, 1, 0, 0, 0),
  (5, .aload_n 0, 1, 0, 0, 0),
  (6, .getfield 9, 3, 1, 0, 0),
  (9, .if_icmp .ge (27), 3, 36, 0, 0),
  (12, .iload_n 1, 1, 0, 0, 0),
  (13, .iload_n 3, 1, 0, 0, 0),
  (14, .ishr, 1, 0, 0, 0),
  (15, .iconst (1), 1, 0, 0, 1),
  (16, .iand, 1, 0, 0, 0),
  (17, .iconst (1), 1, 0, 0, 1),
  (18, .if_icmp .ne (12), 3, 30, 0, 0),
  (21, .iload_n 2, 1, 0, 0, 0),
  (22, .aload_n 0, 1, 0, 0, 0),
  (23, .getfield 28, 3, 1, 9, 0),
  (26, .iload_n 3, 1, 0, 0, 0),
  (27, .iaload, 1, 0, 0, 0),
  (28, .iadd, 1, 0, 0, 0),
  (29, .istore_n 2, 1, 0, 0, 0),
  (30, .iinc 3 (1), 3, 0, 0, 1),
  (33, .goto (-29), 3, 4, 0, 0),
  (36, .iload_n 2, 1, 0, 0, 0),
  (37, .ireturn, 1, 0, 0, 0)]
def a_c50 : List (Nat × a_Rw) := [
  (0, .aload_n 0, 1, 0, 0, 0),
  (1, .aload_n 1, 1, 0, 0, 0),
  (2, .invokevirtual 63, 3, 51, 2, 0),
  (5, .aload_n 0, 1, 0, 0, 0),
  (6, .aload_n 1, 1, 0, 0, 0),
  (7, .getfield 44, 3, 1, 2, 0),
  (10, .putfield 44, 3, 1, 2, 0),
  (13, .aload_n 1, 1, 0, 0, 0),
  (14, .getfield 15, 3, 1, 5, 0),
  (17, .iconst (0), 1, 0, 0, 0),
  (18, .aload_n 0, 1, 0, 0, 0),
  (19, .getfield 15, 3, 1, 5, 0),
  (22, .iconst (0), 1, 0, 0, 0),
  (23, .iconst (5), 1, 0, 0, 5),
  (24, .invokestatic 67, 3, 1001, 5, 0),
  (27, .aload_n 1, 1, 0, 0, 0),
  (28, .getfield 19, 3, 1, 6, 0),
  (31, .iconst (0), 1, 0, 0, 0),
  (32, .aload_n 0, 1, 0, 0, 0),
  (33, .getfield 19, 3, 1, 6, 0),
  (36, .iconst (0), 1, 0, 0, 0),
  (37, .iconst (5), 1, 0, 0, 5),
  (38, .invokestatic 67, 3, 1001, 5, 0),
  (41, .aload_n 1, 1, 0, 0, 0),
  (42, .getfield 22, 3, 1, 7, 0),
  (45, .iconst (0), 1, 0, 0, 0),
  (46, .aload_n 0, 1, 0, 0, 0),
  (47, .getfield 22, 3, 1, 7, 0),
  (50, .iconst (0), 1, 0, 0, 0),
  (51, .iconst (5), 1, 0, 0, 5),
  (52, .invokestatic 67, 3, 1001, 5, 0),
  (55, .aload_n 1, 1, 0, 0, 0),
  (56, .getfield 31, 3, 1, 10, 0),
  (59, .iconst (0), 1, 0, 0, 0),
  (60, .aload_n 0, 1, 0, 0, 0),
  (61, .getfield 31, 3, 1, 10, 0),
  (64, .iconst (0), 1, 0, 0, 0),
  (65, .iconst (5), 1, 0, 0, 5),
  (66, .invokestatic 67, 3, 1001, 5, 0),
  (69, .aload_n 0, 1, 0, 0, 0),
  (70, .getfield 37, 3, 1, 11, 0),
  (73, .aload_n 1, 1, 0, 0, 0),
  (74, .getfield 37, 3, 1, 11, 0),
  (77, .invokevirtual 73, 3, 98, 2, 0),
  (80, .return_, 1, 0, 0, 0)]
def a_c51 : List (Nat × a_Rw) := [
  (0, .aload_n 0, 1, 0, 0, 0),
  (1, .aload_n 1, 1, 0, 0, 0),
  (2, .getfield 9, 3, 1, 0, 0),
  (5, .putfield 9, 3, 1, 0, 0),
  (8, .aload_n 0, 1, 0, 0, 0),
  (9, .aload_n 1, 1, 0, 0, 0),
  (10, .getfield 41, 3, 1, 1, 0),
  (13, .putfield 41, 3, 1, 1, 0),
  (16, .aload_n 0, 1, 0, 0, 0),
  (17, .aload_n 1, 1, 0, 0, 0),
  (18, .getfield 77, 3, 1, 3, 0),
  (21, .putfield 77, 3, 1, 3, 0),
  (24, .aload_n 0, 1, 0, 0, 0),
  (25, .aload_n 1, 1, 0, 0, 0),
  (26, .getfield 80, 3, 1, 4, 0),
  (29, .putfield 80, 3, 1, 4, 0),
  (32, .aload_n 1, 1, 0, 0, 0),
  (33, .getfield 25, 3, 1, 8, 0),
  (36, .iconst (0), 1, 0, 0, 0),
  (37, .aload_n 0, 1, 0, 0, 0),
  (38, .getfield 25, 3, 1, 8, 0),
  (41, .iconst (0), 1, 0, 0, 0),
  (42, .iconst (5), 1, 0, 0, 5),
  (43, .invokestatic 67, 3, 1001, 5, 0),
  (46, .aload_n 1, 1, 0, 0, 0),
  (47, .getfield 28, 3, 1, 9, 0),
  (50, .iconst (0), 1, 0, 0, 0),
  (51, .aload_n 0, 1, 0, 0, 0),
  (52, .getfield 28, 3, 1, 9, 0),
  (55, .iconst (0), 1, 0, 0, 0),
  (56, .iconst (5), 1, 0, 0, 5),
  (57, .invokestatic 67, 3, 1001, 5, 0),
  (60, .return_, 1, 0, 0, 0)]
def a_c52 : List (Nat × a_Rw) := [
  (0, .aload_n 0, 1, 0, 0, 0),
  (1, .iload_n 1, 1, 0, 0, 0),
  (2, .invokevirtual 116, 3, 53, 2, 0),
  (5, .ifCond .ne (6), 3, 11, 0, 0),
  (8, .bipush (-2), 2, 0, 0, -2),
  (10, .ireturn, 1, 0, 0, 0),
  (11, .iload_n 2, 1, 0, 0, 0),
  (12, .ifCond .lt (8), 3, 20, 0, 0),
  (15, .iload_n 2, 1, 0, 0, 0),
  (16, .iconst (1), 1, 0, 0, 1),
  (17, .if_icmp .le (6), 3, 23, 0, 0),
  (20, .bipush (-3), 2, 0, 0, -3),
  (22, .ireturn, 1, 0, 0, 0),
  (23, .aload_n 0, 1, 0, 0, 0),
  (24, .getfield 15, 3, 1, 5, 0),
  (27, .iload_n 1, 1, 0, 0, 0),
  (28, .iaload, 1, 0, 0, 0),
  (29, .ifCond .eq (6), 3, 35, 0, 0),
  (32, .bipush (-5), 2, 0, 0, -5),
  (34, .ireturn, 1, 0, 0, 0),
  (35, .aload_n 0, 1, 0, 0, 0),
  (36, .getfield 25, 3, 1, 8, 0),
  (39, .iload_n 1, 1, 0, 0, 0),
  (40, .iaload, 1, 0, 0, 0),
  (41, .istore_n 3, 1, 0, 0, 0),
  (42, .aload_n 0, 1, 0, 0, 0),
  (43, .getfield 25, 3, 1, 8, 0),
  (46, .iload_n 1, 1, 0, 0, 0),
  (47, .iload_n 2, 1, 0, 0, 0),
  (48, .iastore, 1, 0, 0, 0),
  (49, .iload_n 3, 1, 0, 0, 0),
  (50, .ireturn, 1, 0, 0, 0)]
def a_c53 : List (Nat × a_Rw) := [
  (0, .iload_n 1, 1, 0, 0, 0),
  (1, .ifCond .lt (15), 3, 16, 0, 0),
  (4, .iload_n 1, 1, 0, 0, 0),
  (5, .aload_n 0, 1, 0, 0, 0),
  (6, .getfield 9, 3, 1, 0, 0),
  (9, .if_icmp .ge (7), 3, 16, 0, 0),
  (12, .iconst (1), 1, 0, 0, 1),
  (13, .goto (4), 3, 17, 0, 0),
  (16, .iconst (0), 1, 0, 0, 0),
  (17, .ireturn, 1, 0, 0, 0)]
def a_c54 : List (Nat × a_Rw) := [
  (0, .aload_n 0, 1, 0, 0, 0),
  (1, .iload_n 1, 1, 0, 0, 0),
  (2, .invokevirtual 116, 3, 53, 2, 0),
  (5, .ifCond .ne (6), 3, 11, 0, 0),
  (8, .bipush (-2), 2, 0, 0, -2),
  (10, .ireturn, 1, 0, 0, 0),
  (11, .iload_n 2, 1, 0, 0, 0),
  (12, .iconst (1), 1, 0, 0, 1),
  (13, .if_icmp .lt (8), 3, 21, 0, 0),
  (16, .iload_n 2, 1, 0, 0, 0),
  (17, .iconst (3), 1, 0, 0, 3),
  (18, .if_icmp .le (6), 3, 24, 0, 0),
  (21, .bipush (-3), 2, 0, 0, -3),
  (23, .ireturn, 1, 0, 0, 0),
  (24, .aload_n 0, 1, 0, 0, 0),
  (25, .aload_n 0, 1, 0, 0, 0),
  (26, .invokevirtual 56, 3, 47, 1, 0),
  (29, .invokevirtual 99, 3, 55, 2, 0),
  (32, .iconst (1), 1, 0, 0, 1),
  (33, .if_icmp .eq (6), 3, 39, 0, 0),
  (36, .bipush (-5), 2, 0, 0, -5),
  (38, .ireturn, 1, 0, 0, 0),
  (39, .aload_n 0, 1, 0, 0, 0),
  (40, .getfield 28, 3, 1, 9, 0),
  (43, .iload_n 1, 1, 0, 0, 0),
  (44, .iaload, 1, 0, 0, 0),
  (45, .istore_n 3, 1, 0, 0, 0),
  (46, .aload_n 0, 1, 0, 0, 0),
  (47, .getfield 28, 3, 1, 9, 0),
  (50, .iload_n 1, 1, 0, 0, 0),
  (51, .iload_n 2, 1, 0, 0, 0),
  (52, .iastore, 1, 0, 0, 0),
  (53, .aload_n 0, 1, 0, 0, 0),
  (54, .invokevirtual 60, 3, 48, 1, 0),
  (57, .iload_n 3, 1, 0, 0, 0),
  (58, .ireturn, 1, 0, 0, 0)]
def a_c55 : List (Nat × a_Rw) := [
  (0, .iconst (0), 1, 0, 0, 0),
  (1, .istore_n 2, 1, 0, 0, 0),
  (2, .iconst (0), 1, 0, 0, 0),
  (3, .istore_n 3, 1, 0, 0, 0),
  (4, .iload_n 3, 1, 0, 0, 0),
  (5, .aload_n 0, 1, 0, 0, 0),
  (6, .getfield 9, 3, 1, 0, 0),
  (9, .if_icmp .ge (29), 3, 38, 0, 0),
  (12, .iload_n 1, 1, 0, 0, 0),
  (13, .iload_n 3, 1, 0, 0, 0),
  (14, .ishr, 1, 0, 0, 0),
  (15, .iconst (1), 1, 0, 0, 1),
  (16, .iand, 1, 0, 0, 0),
  (17, .iconst (1), 1, 0, 0, 1),
  (18, .if_icmp .ne (14), 3, 32, 0, 0),
  (21, .iload_n 2, 1, 0, 0, 0),
  (22, .iconst (1), 1, 0, 0, 1),
  (23, .aload_n 0, 1, 0, 0, 0),
  (24, .getfield 15, 3, 1, 5, 0),
  (27, .iload_n 3, 1, 0, 0, 0),
  (28, .iaload, 1, 0, 0, 0),
  (29, .ishl, 1, 0, 0, 0),
  (30, .ior, 1, 0, 0, 0),
  (31, .istore_n 2, 1, 0, 0, 0),
  (32, .iinc 3 (1), 3, 0, 0, 1),
  (35, .goto (-31), 3, 4, 0, 0),
  (38, .iload_n 2, 1, 0, 0, 0),
  (39, .ireturn, 1, 0, 0, 0)]
def a_c56 : List (Nat × a_Rw) := [
  (0, .iload_n 1, 1, 0, 0, 0),
  (1, .iconst (1), 1, 0, 0, 1),
  (2, .if_icmp .lt (20), 3, 22, 0, 0),
  (5, .iload_n 1, 1, 0, 0, 0),
  (6, .bipush (15), 2, 0, 0, 15),
  (8, .if_icmp .gt (14), 3, 22, 0, 0),
  (11, .iload_n 2, 1, 0, 0, 0),
  (12, .iconst (1), 1, 0, 0, 1),
  (13, .if_icmp .lt (9), 3, 22, 0, 0),
  (16, .iload_n 2, 1, 0, 0, 0),
  (17, .bipush (15), 2, 0, 0, 15),
  (19, .if_icmp .le (6), 3, 25, 0, 0),
  (22, .bipush (-3), 2, 0, 0, -3),
  (24, .ireturn, 1, 0, 0, 0),
  (25, .aload_n 0, 1, 0, 0, 0),
  (26, .aload_n 0, 1, 0, 0, 0),
  (27, .invokevirtual 56, 3, 47, 1, 0),
  (30, .invokevirtual 93, 3, 49, 2, 0),
  (33, .istore_n 3, 1, 0, 0, 0),
  (34, .iload_n 1, 1, 0, 0, 0),
  (35, .iload_n 2, 1, 0, 0, 0),
  (36, .iadd, 1, 0, 0, 0),
  (37, .iload_n 3, 1, 0, 0, 0),
  (38, .if_icmp .gt (6), 3, 44, 0, 0),
  (41, .bipush (-3), 2, 0, 0, -3),
  (43, .ireturn, 1, 0, 0, 0),
  (44, .aload_n 0, 1, 0, 0, 0),
  (45, .aload_n 0, 1, 0, 0, 0),
  (46, .invokevirtual 56, 3, 47, 1, 0),
  (49, .invokevirtual 99, 3, 55, 2, 0),
  (52, .iconst (1), 1, 0, 0, 1),
  (53, .if_icmp .eq (6), 3, 59, 0, 0),
  (56, .bipush (-5), 2, 0, 0, -5),
  (58, .ireturn, 1, 0, 0, 0),
  (59, .aload_n 0, 1, 0, 0, 0),
  (60, .iload_n 1, 1, 0, 0, 0),
  (61, .putfield 77, 3, 1, 3, 0),
  (64, .aload_n 0, 1, 0, 0, 0),
  (65, .iload_n 2, 1, 0, 0, 0),
  (66, .putfield 80, 3, 1, 4, 0),
  (69, .iload_n 3, 1, 0, 0, 0),
  (70, .ireturn, 1, 0, 0, 0)]
def a_c57 : List (Nat × a_Rw) := [
  (0, .aload_n 0, 1, 0, 0, 0),
  (1, .iload_n 1, 1, 0, 0, 0),
  (2, .invokevirtual 119, 3, 58, 2, 0),
  (5, .ifCond .ne (6), 3, 11, 0, 0),
  (8, .bipush (-3), 2, 0, 0, -3),
  (10, .ireturn, 1, 0, 0, 0),
  (11, .aload_n 0, 1, 0, 0, 0),
  (12, .iconst (0), 1, 0, 0, 0),
  (13, .iconst (0), 1, 0, 0, 0),
  (14, .invokevirtual 122, 3, 59, 3, 0),
  (17, .ifCond .ne (6), 3, 23, 0, 0),
  (20, .bipush (-5), 2, 0, 0, -5),
  (22, .ireturn, 1, 0, 0, 0),
  (23, .aload_n 0, 1, 0, 0, 0),
  (24, .iload_n 1, 1, 0, 0, 0),
  (25, .invokevirtual 126, 3, 60, 2, 0),
  (28, .aload_n 0, 1, 0, 0, 0),
  (29, .getfield 25, 3, 1, 8, 0),
  (32, .iconst (0), 1, 0, 0, 0),
  (33, .iaload, 1, 0, 0, 0),
  (34, .iconst (1), 1, 0, 0, 1),
  (35, .if_icmp .ne (44), 3, 79, 0, 0),
  (38, .aload_n 0, 1, 0, 0, 0),
  (39, .iconst (0), 1, 0, 0, 0),
  (40, .aload_n 0, 1, 0, 0, 0),
  (41, .invokevirtual 56, 3, 47, 1, 0),
  (44, .iconst (1), 1, 0, 0, 1),
  (45, .iconst (1), 1, 0, 0, 1),
  (46, .invokevirtual 130, 3, 61, 5, 0),
  (49, .ifCond .eq (8), 3, 57, 0, 0),
  (52, .aload_n 0, 1, 0, 0, 0),
  (53, .getfield 44, 3, 1, 2, 0),
  (56, .ireturn, 1, 0, 0, 0),
  (57, .aload_n 0, 1, 0, 0, 0),
  (58, .aload_n 0, 1, 0, 0, 0),
  (59, .invokevirtual 56, 3, 47, 1, 0),
  (62, .invokevirtual 99, 3, 55, 2, 0),
  (65, .iconst (2), 1, 0, 0, 2),
  (66, .if_icmp .ne (13), 3, 79, 0, 0),
  (69, .aload_n 0, 1, 0, 0, 0),
  (70, .iconst (1), 1, 0, 0, 1),
  (71, .putfield 44, 3, 1, 2, 0),
  (74, .aload_n 0, 1, 0, 0, 0),
  (75, .getfield 44, 3, 1, 2, 0),
  (78, .ireturn, 1, 0, 0, 0),
  (79, .aload_n 0, 1, 0, 0, 0),
  (80, .iconst (0), 1, 0, 0, 0),
  (81, .aload_n 0, 1, 0, 0, 0),
  (82, .invokevirtual 56, 3, 47, 1, 0),
  (85, .iconst (5), 1, 0, 0, 5),
  (86, .bipush (15), 2, 0, 0, 15),
  (88, .invokevirtual 130, 3, 61, 5, 0),
  (91, .pop, 1, 0, 0, 0),
  (92, .aload_n 0, 1, 0, 0, 0),
  (93, .iconst (3), 1, 0, 0, 3),
  (94, .putfield 44, 3, 1, 2, 0),
  (97, .aload_n 0, 1, 0, 0, 0),
  (98, .getfield 44, 3, 1, 2, 0),
  (101, .ireturn, 1, 0, 0, 0)]
def a_c58 : List (Nat × a_Rw) := [
  (0, .iload_n 1, 1, 0, 0, 0),
  (1, .iconst (-1), 1, 0, 0, -1),
  (2, .if_icmp .lt (13), 3, 15, 0, 0),
  (5, .iload_n 1, 1, 0, 0, 0),
  (6, .bipush (20), 2, 0, 0, 20),
  (8, .if_icmp .gt (7), 3, 15, 0, 0),
  (11, .iconst (1), 1, 0, 0, 1),
  (12, .goto (4), 3, 16, 0, 0),
  (15, .iconst (0), 1, 0, 0, 0),
  (16, .ireturn, 1, 0, 0, 0)]
def a_c59 : List (Nat × a_Rw) := [
  (0, .aload_n 0, 1, 0, 0, 0),
  (1, .getfield 44, 3, 1, 2, 0),
  (4, .iload_n 1, 1, 0, 0, 0),
  (5, .if_icmp .ne (27), 3, 32, 0, 0),
  (8, .aload_n 0, 1, 0, 0, 0),
  (9, .getfield 19, 3, 1, 6, 0),
  (12, .iconst (0), 1, 0, 0, 0),
  (13, .iaload, 1, 0, 0, 0),
  (14, .iconst (1), 1, 0, 0, 1),
  (15, .if_icmp .ne (17), 3, 32, 0, 0),
  (18, .aload_n 0, 1, 0, 0, 0),
  (19, .getfield 15, 3, 1, 5, 0),
  (22, .iconst (0), 1, 0, 0, 0),
  (23, .iaload, 1, 0, 0, 0),
  (24, .iload_n 2, 1, 0, 0, 0),
  (25, .if_icmp .ne (7), 3, 32, 0, 0),
  (28, .iconst (1), 1, 0, 0, 1),
  (29, .goto (4), 3, 33, 0, 0),
  (32, .iconst (0), 1, 0, 0, 0),
  (33, .ireturn, 1, 0, 0, 0)]
def a_c60 : List (Nat × a_Rw) := [
  (0, .aload_n 0, 1, 0, 0, 0),
  (1, .iload_n 1, 1, 0, 0, 0),
  (2, .putfield 162, 3, 1, 12, 0),
  (5, .aload_n 0, 1, 0, 0, 0),
  (6, .iconst (0), 1, 0, 0, 0),
  (7, .putfield 165, 3, 1, 13, 0),
  (10, .return_, 1, 0, 0, 0)]
def a_c61 : List (Nat × a_Rw) := [
  (0, .aload_n 0, 1, 0, 0, 0),
  (1, .iload_n 1, 1, 0, 0, 0),
  (2, .iload_n 3, 1, 0, 0, 0),
  (3, .iload 4, 2, 0, 0, 0),
  (5, .invokevirtual 152, 3, 62, 4, 0),
  (8, .aload_n 0, 1, 0, 0, 0),
  (9, .getfield 162, 3, 1, 12, 0),
  (12, .ifCond .ne (10), 3, 22, 0, 0),
  (15, .aload_n 0, 1, 0, 0, 0),
  (16, .iload_n 1, 1, 0, 0, 0),
  (17, .invokevirtual 139, 3, 63, 2, 0),
  (20, .iconst (1), 1, 0, 0, 1),
  (21, .ireturn, 1, 0, 0, 0),
  (22, .iconst (0), 1, 0, 0, 0),
  (23, .istore 5, 2, 0, 0, 0),
  (25, .iload 5, 2, 0, 0, 0),
  (27, .aload_n 0, 1, 0, 0, 0),
  (28, .getfield 9, 3, 1, 0, 0),
  (31, .if_icmp .ge (91), 3, 122, 0, 0),
  (34, .iload 5, 2, 0, 0, 0),
  (36, .iload_n 1, 1, 0, 0, 0),
  (37, .if_icmp .eq (79), 3, 116, 0, 0),
  (40, .iload_n 2, 1, 0, 0, 0),
  (41, .iload 5, 2, 0, 0, 0),
  (43, .ishr, 1, 0, 0, 0),
  (44, .iconst (1), 1, 0, 0, 1),
  (45, .iand, 1, 0, 0, 0),
  (46, .ifCond .ne (6), 3, 52, 0, 0),
  (49, .goto (67), 3, 116, 0, 0),
  (52, .aload_n 0, 1, 0, 0, 0),
  (53, .dup, 1, 0, 0, 0),
  (54, .getfield 165, 3, 1, 13, 0),
  (57, .iconst (1), 1, 0, 0, 1),
  (58, .iadd, 1, 0, 0, 0),
  (59, .putfield 165, 3, 1, 13, 0),
  (62, .aload_n 0, 1, 0, 0, 0),
  (63, .getfield 19, 3, 1, 6, 0),
  (66, .iload 5, 2, 0, 0, 0),
  (68, .iaload, 1, 0, 0, 0),
  (69, .iconst (1), 1, 0, 0, 1),
  (70, .if_icmp .ne (28), 3, 98, 0, 0),
  (73, .aload_n 0, 1, 0, 0, 0),
  (74, .getfield 22, 3, 1, 7, 0),
  (77, .iload 5, 2, 0, 0, 0),
  (79, .iaload, 1, 0, 0, 0),
  (80, .aload_n 0, 1, 0, 0, 0),
  (81, .getfield 22, 3, 1, 7, 0),
  (84, .iload_n 1, 1, 0, 0, 0),
  (85, .iaload, 1, 0, 0, 0),
  (86, .if_icmp .ne (12), 3, 98, 0, 0),
  (89, .aload_n 0, 1, 0, 0, 0),
  (90, .iload 5, 2, 0, 0, 0),
  (92, .iload_n 3, 1, 0, 0, 0),
  (93, .iload 4, 2, 0, 0, 0),
  (95, .invokevirtual 152, 3, 62, 4, 0),
  (98, .aload_n 0, 1, 0, 0, 0),
  (99, .getfield 165, 3, 1, 13, 0),
  (102, .aload_n 0, 1, 0, 0, 0),
  (103, .getfield 162, 3, 1, 12, 0),
  (106, .if_icmp .ne (10), 3, 116, 0, 0),
  (109, .aload_n 0, 1, 0, 0, 0),
  (110, .iload_n 1, 1, 0, 0, 0),
  (111, .invokevirtual 139, 3, 63, 2, 0),
  (114, .iconst (1), 1, 0, 0, 1),
  (115, .ireturn, 1, 0, 0, 0),
  (116, .iinc 5 (1), 3, 0, 0, 1),
  (119, .goto (-94), 3, 25, 0, 0),
  (122, .iconst (0), 1, 0, 0, 0),
  (123, .ireturn, 1, 0, 0, 0)]
def a_c62 : List (Nat × a_Rw) := [
  (0, .aload_n 0, 1, 0, 0, 0),
  (1, .getfield 15, 3, 1, 5, 0),
  (4, .iload_n 1, 1, 0, 0, 0),
  (5, .iaload, 1, 0, 0, 0),
  (6, .istore 4, 2, 0, 0, 0),
  (8, .iload_n 2, 1, 0, 0, 0),
  (9, .iconst (1), 1, 0, 0, 1),
  (10, .if_icmp .ne (16), 3, 26, 0, 0),
  (13, .aload_n 0, 1, 0, 0, 0),
  (14, .getfield 25, 3, 1, 8, 0),
  (17, .iload_n 1, 1, 0, 0, 0),
  (18, .iaload, 1, 0, 0, 0),
  (19, .ifCond .ne (7), 3, 26, 0, 0),
  (22, .iconst (5), 1, 0, 0, 5),
  (23, .goto (4), 3, 27, 0, 0),
  (26, .iload_n 2, 1, 0, 0, 0),
  (27, .istore 5, 2, 0, 0, 0),
  (29, .iload_n 3, 1, 0, 0, 0),
  (30, .iload 4, 2, 0, 0, 0),
  (32, .ishr, 1, 0, 0, 0),
  (33, .iconst (1), 1, 0, 0, 1),
  (34, .iand, 1, 0, 0, 0),
  (35, .ifCond .eq (10), 3, 45, 0, 0),
  (38, .iload 4, 2, 0, 0, 0),
  (40, .iload 5, 2, 0, 0, 0),
  (42, .if_icmp .ne (4), 3, 46, 0, 0),
  (45, .return_, 1, 0, 0, 0),
  (46, .aload_n 0, 1, 0, 0, 0),
  (47, .getfield 15, 3, 1, 5, 0),
  (50, .iload_n 1, 1, 0, 0, 0),
  (51, .iload 5, 2, 0, 0, 0),
  (53, .iastore, 1, 0, 0, 0),
  (54, .aload_n 0, 1, 0, 0, 0),
  (55, .getfield 37, 3, 1, 11, 0),
  (58, .iload_n 1, 1, 0, 0, 0),
  (59, .iload 4, 2, 0, 0, 0),
  (61, .iload 5, 2, 0, 0, 0),
  (63, .invokevirtual 168, 3, 99, 4, 0),
  (66, .return_, 1, 0, 0, 0)]
def a_c63 : List (Nat × a_Rw) := [
  (0, .aload_n 0, 1, 0, 0, 0),
  (1, .getfield 19, 3, 1, 6, 0),
  (4, .iload_n 1, 1, 0, 0, 0),
  (5, .iconst (0), 1, 0, 0, 0),
  (6, .iastore, 1, 0, 0, 0),
  (7, .iconst (0), 1, 0, 0, 0),
  (8, .istore_n 2, 1, 0, 0, 0),
  (9, .iload_n 2, 1, 0, 0, 0),
  (10, .aload_n 0, 1, 0, 0, 0),
  (11, .getfield 9, 3, 1, 0, 0),
  (14, .if_icmp .ge (48), 3, 62, 0, 0),
  (17, .aload_n 0, 1, 0, 0, 0),
  (18, .getfield 19, 3, 1, 6, 0),
  (21, .iload_n 2, 1, 0, 0, 0),
  (22, .iaload, 1, 0, 0, 0),
  (23, .iconst (1), 1, 0, 0, 1),
  (24, .if_icmp .ne (32), 3, 56, 0, 0),
  (27, .aload_n 0, 1, 0, 0, 0),
  (28, .getfield 22, 3, 1, 7, 0),
  (31, .iload_n 2, 1, 0, 0, 0),
  (32, .iaload, 1, 0, 0, 0),
  (33, .aload_n 0, 1, 0, 0, 0),
  (34, .getfield 22, 3, 1, 7, 0),
  (37, .iload_n 1, 1, 0, 0, 0),
  (38, .iaload, 1, 0, 0, 0),
  (39, .if_icmp .ne (17), 3, 56, 0, 0),
  (42, .aload_n 0, 1, 0, 0, 0),
  (43, .getfield 31, 3, 1, 10, 0),
  (46, .iload_n 2, 1, 0, 0, 0),
  (47, .dup2, 1, 0, 0, 0),
  (48, .iaload, 1, 0, 0, 0),
  (49, .iconst (1), 1, 0, 0, 1),
  (50, .iload_n 1, 1, 0, 0, 0),
  (51, .ishl, 1, 0, 0, 0),
  (52, .iconst (-1), 1, 0, 0, -1),
  (53, .ixor, 1, 0, 0, 0),
  (54, .iand, 1, 0, 0, 0),
  (55, .iastore, 1, 0, 0, 0),
  (56, .iinc 2 (1), 3, 0, 0, 1),
  (59, .goto (-50), 3, 9, 0, 0),
  (62, .iload_n 1, 1, 0, 0, 0),
  (63, .ifCond .ne (8), 3, 71, 0, 0),
  (66, .aload_n 0, 1, 0, 0, 0),
  (67, .iconst (3), 1, 0, 0, 3),
  (68, .putfield 44, 3, 1, 2, 0),
  (71, .return_, 1, 0, 0, 0)]
def a_c64 : List (Nat × a_Rw) := [
  (0, .aload_n 0, 1, 0, 0, 0),
  (1, .iload_n 1, 1, 0, 0, 0),
  (2, .invokevirtual 119, 3, 58, 2, 0),
  (5, .ifCond .ne (6), 3, 11, 0, 0),
  (8, .bipush (-3), 2, 0, 0, -3),
  (10, .ireturn, 1, 0, 0, 0),
  (11, .aload_n 0, 1, 0, 0, 0),
  (12, .iconst (1), 1, 0, 0, 1),
  (13, .iconst (1), 1, 0, 0, 1),
  (14, .invokevirtual 122, 3, 59, 3, 0),
  (17, .ifCond .ne (6), 3, 23, 0, 0),
  (20, .bipush (-5), 2, 0, 0, -5),
  (22, .ireturn, 1, 0, 0, 0),
  (23, .aload_n 0, 1, 0, 0, 0),
  (24, .iconst (4), 1, 0, 0, 4),
  (25, .invokevirtual 102, 3, 65, 2, 0),
  (28, .istore_n 2, 1, 0, 0, 0),
  (29, .aload_n 0, 1, 0, 0, 0),
  (30, .iload_n 1, 1, 0, 0, 0),
  (31, .invokevirtual 126, 3, 60, 2, 0),
  (34, .aload_n 0, 1, 0, 0, 0),
  (35, .iconst (0), 1, 0, 0, 0),
  (36, .aload_n 0, 1, 0, 0, 0),
  (37, .invokevirtual 56, 3, 47, 1, 0),
  (40, .iconst (2), 1, 0, 0, 2),
  (41, .iconst (2), 1, 0, 0, 2),
  (42, .invokevirtual 130, 3, 61, 5, 0),
  (45, .ifCond .ne (41), 3, 86, 0, 0),
  (48, .aload_n 0, 1, 0, 0, 0),
  (49, .iconst (4), 1, 0, 0, 4),
  (50, .invokevirtual 102, 3, 65, 2, 0),
  (53, .iload_n 2, 1, 0, 0, 0),
  (54, .iconst (-1), 1, 0, 0, -1),
  (55, .ixor, 1, 0, 0, 0),
  (56, .iand, 1, 0, 0, 0),
  (57, .istore_n 3, 1, 0, 0, 0),
  (58, .aload_n 0, 1, 0, 0, 0),
  (59, .aload_n 0, 1, 0, 0, 0),
  (60, .getfield 41, 3, 1, 1, 0),
  (63, .ifCond .eq (15), 3, 78, 0, 0),
  (66, .aload_n 0, 1, 0, 0, 0),
  (67, .iload_n 3, 1, 0, 0, 0),
  (68, .invokevirtual 93, 3, 49, 2, 0),
  (71, .aload_n 0, 1, 0, 0, 0),
  (72, .getfield 77, 3, 1, 3, 0),
  (75, .if_icmp .lt (7), 3, 82, 0, 0),
  (78, .iconst (2), 1, 0, 0, 2),
  (79, .goto (4), 3, 83, 0, 0),
  (82, .iconst (3), 1, 0, 0, 3),
  (83, .putfield 44, 3, 1, 2, 0),
  (86, .aload_n 0, 1, 0, 0, 0),
  (87, .getfield 44, 3, 1, 2, 0),
  (90, .ireturn, 1, 0, 0, 0)]
def a_c65 : List (Nat × a_Rw) := [
  (0, .iconst (0), 1, 0, 0, 0),
  (1, .istore_n 2, 1, 0, 0, 0),
  (2, .iconst (0), 1, 0, 0, 0),
  (3, .istore_n 3, 1, 0, 0, 0),
  (4, .iload_n 3, 1, 0, 0, 0),
  (5, .aload_n 0, 1, 0, 0, 0),
  (6, .getfield 9, 3, 1, 0, 0),
  (9, .if_icmp .ge (29), 3, 38, 0, 0),
  (12, .iload_n 1, 1, 0, 0, 0),
  (13, .aload_n 0, 1, 0, 0, 0),
  (14, .getfield 15, 3, 1, 5, 0),
  (17, .iload_n 3, 1, 0, 0, 0),
  (18, .iaload, 1, 0, 0, 0),
  (19, .ishr, 1, 0, 0, 0),
  (20, .iconst (1), 1, 0, 0, 1),
  (21, .iand, 1, 0, 0, 0),
  (22, .iconst (1), 1, 0, 0, 1),
  (23, .if_icmp .ne (9), 3, 32, 0, 0),
  (26, .iload_n 2, 1, 0, 0, 0),
  (27, .iconst (1), 1, 0, 0, 1),
  (28, .iload_n 3, 1, 0, 0, 0),
  (29, .ishl, 1, 0, 0, 0),
  (30, .ior, 1, 0, 0, 0),
  (31, .istore_n 2, 1, 0, 0, 0),
  (32, .iinc 3 (1), 3, 0, 0, 1),
  (35, .goto (-31), 3, 4, 0, 0),
  (38, .iload_n 2, 1, 0, 0, 0),
  (39, .ireturn, 1, 0, 0, 0)]
def a_c66 : List (Nat × a_Rw) := [
  (0, .aload_n 0, 1, 0, 0, 0),
  (1, .iload_n 1, 1, 0, 0, 0),
  (2, .invokevirtual 119, 3, 58, 2, 0),
  (5, .ifCond .ne (6), 3, 11, 0, 0),
  (8, .bipush (-3), 2, 0, 0, -3),
  (10, .ireturn, 1, 0, 0, 0),
  (11, .aload_n 0, 1, 0, 0, 0),
  (12, .iconst (2), 1, 0, 0, 2),
  (13, .iconst (2), 1, 0, 0, 2),
  (14, .invokevirtual 122, 3, 59, 3, 0),
  (17, .ifCond .ne (6), 3, 23, 0, 0),
  (20, .bipush (-5), 2, 0, 0, -5),
  (22, .ireturn, 1, 0, 0, 0),
  (23, .aload_n 0, 1, 0, 0, 0),
  (24, .iload_n 1, 1, 0, 0, 0),
  (25, .invokevirtual 126, 3, 60, 2, 0),
  (28, .aload_n 0, 1, 0, 0, 0),
  (29, .iconst (0), 1, 0, 0, 0),
  (30, .aload_n 0, 1, 0, 0, 0),
  (31, .invokevirtual 56, 3, 47, 1, 0),
  (34, .iconst (4), 1, 0, 0, 4),
  (35, .bipush (31), 2, 0, 0, 31),
  (37, .invokevirtual 130, 3, 61, 5, 0),
  (40, .pop, 1, 0, 0, 0),
  (41, .aload_n 0, 1, 0, 0, 0),
  (42, .iconst (3), 1, 0, 0, 3),
  (43, .putfield 44, 3, 1, 2, 0),
  (46, .aload_n 0, 1, 0, 0, 0),
  (47, .bipush (16), 2, 0, 0, 16),
  (49, .invokevirtual 102, 3, 65, 2, 0),
  (52, .invokestatic 134, 3, 265, 1, 0),
  (55, .ireturn, 1, 0, 0, 0)]
def a_c67 : List (Nat × a_Rw) := [
  (0, .aload_n 0, 1, 0, 0, 0),
  (1, .iload_n 1, 1, 0, 0, 0),
  (2, .invokevirtual 116, 3, 53, 2, 0),
  (5, .ifCond .ne (6), 3, 11, 0, 0),
  (8, .bipush (-2), 2, 0, 0, -2),
  (10, .ireturn, 1, 0, 0, 0),
  (11, .aload_n 0, 1, 0, 0, 0),
  (12, .getfield 19, 3, 1, 6, 0),
  (15, .iload_n 1, 1, 0, 0, 0),
  (16, .iaload, 1, 0, 0, 0),
  (17, .ifCond .ne (6), 3, 23, 0, 0),
  (20, .bipush (-5), 2, 0, 0, -5),
  (22, .ireturn, 1, 0, 0, 0),
  (23, .aload_n 0, 1, 0, 0, 0),
  (24, .iload_n 1, 1, 0, 0, 0),
  (25, .invokevirtual 139, 3, 63, 2, 0),
  (28, .aload_n 0, 1, 0, 0, 0),
  (29, .invokevirtual 87, 3, 68, 1, 0),
  (32, .invokestatic 134, 3, 265, 1, 0),
  (35, .ireturn, 1, 0, 0, 0)]
def a_c68 : List (Nat × a_Rw) := [
  (0, .aload_n 0, 1, 0, 0, 0),
  (1, .iconst (1), 1, 0, 0, 1),
  (2, .invokevirtual 83, 3, 69, 2, 0),
  (5, .ireturn, 1, 0, 0, 0)]
def a_c69 : List (Nat × a_Rw) := [
  (0, .iconst (0), 1, 0, 0, 0),
  (1, .istore_n 2, 1, 0, 0, 0),
  (2, .iconst (0), 1, 0, 0, 0),
  (3, .istore_n 3, 1, 0, 0, 0),
  (4, .iload_n 3, 1, 0, 0, 0),
  (5, .aload_n 0, 1, 0, 0, 0),
  (6, .getfield 9, 3, 1, 0, 0),
  (9, .if_icmp .ge (25), 3, 34, 0, 0),
  (12, .aload_n 0, 1, 0, 0, 0),
  (13, .getfield 19, 3, 1, 6, 0),
  (16, .iload_n 3, 1, 0, 0, 0),
  (17, .iaload, 1, 0, 0, 0),
  (18, .iload_n 1, 1, 0, 0, 0),
  (19, .if_icmp .ne (9), 3, 28, 0, 0),
  (22, .iload_n 2, 1, 0, 0, 0),
  (23, .iconst (1), 1, 0, 0, 1),
  (24, .iload_n 3, 1, 0, 0, 0),
  (25, .ishl, 1, 0, 0, 0),
  (26, .ior, 1, 0, 0, 0),
  (27, .istore_n 2, 1, 0, 0, 0),
  (28, .iinc 3 (1), 3, 0, 0, 1),
  (31, .goto (-27), 3, 4, 0, 0),
  (34, .iload_n 2, 1, 0, 0, 0),
  (35, .ireturn, 1, 0, 0, 0)]
def a_c70 : List (Nat × a_Rw) := [
  (0, .aload_n 0, 1, 0, 0, 0),
  (1, .iload_n 1, 1, 0, 0, 0),
  (2, .invokevirtual 116, 3, 53, 2, 0),
  (5, .ifCond .ne (6), 3, 11, 0, 0),
  (8, .bipush (-2), 2, 0, 0, -2),
  (10, .ireturn, 1, 0, 0, 0),
  (11, .aload_n 0, 1, 0, 0, 0),
  (12, .getfield 19, 3, 1, 6, 0),
  (15, .iload_n 1, 1, 0, 0, 0),
  (16, .iaload, 1, 0, 0, 0),
  (17, .ifCond .eq (6), 3, 23, 0, 0),
  (20, .bipush (-5), 2, 0, 0, -5),
  (22, .ireturn, 1, 0, 0, 0),
  (23, .aload_n 0, 1, 0, 0, 0),
  (24, .getfield 19, 3, 1, 6, 0),
  (27, .iload_n 1, 1, 0, 0, 0),
  (28, .iconst (2), 1, 0, 0, 2),
  (29, .iastore, 1, 0, 0, 0),
  (30, .aload_n 0, 1, 0, 0, 0),
  (31, .getfield 15, 3, 1, 5, 0),
  (34, .iload_n 1, 1, 0, 0, 0),
  (35, .iaload, 1, 0, 0, 0),
  (36, .ireturn, 1, 0, 0, 0)]
def a_c71 : List (Nat × a_Rw) := [
  (0, .iload_n 1, 1, 0, 0, 0),
  (1, .istore_n 2, 1, 0, 0, 0),
  (2, .aload_n 0, 1, 0, 0, 0),
  (3, .getfield 9, 3, 1, 0, 0),
  (6, .iconst (1), 1, 0, 0, 1),
  (7, .isub, 1, 0, 0, 0),
  (8, .istore_n 3, 1, 0, 0, 0),
  (9, .iload_n 3, 1, 0, 0, 0),
  (10, .ifCond .lt (29), 3, 39, 0, 0),
  (13, .iload_n 2, 1, 0, 0, 0),
  (14, .ifCond .lt (11), 3, 25, 0, 0),
  (17, .iload_n 2, 1, 0, 0, 0),
  (18, .bipush (10), 2, 0, 0, 10),
  (20, .irem, 1, 0, 0, 0),
  (21, .iconst (4), 1, 0, 0, 4),
  (22, .if_icmp .le (6), 3, 28, 0, 0),
  (25, .bipush (-3), 2, 0, 0, -3),
  (27, .ireturn, 1, 0, 0, 0),
  (28, .iload_n 2, 1, 0, 0, 0),
  (29, .bipush (10), 2, 0, 0, 10),
  (31, .idiv, 1, 0, 0, 0),
  (32, .istore_n 2, 1, 0, 0, 0),
  (33, .iinc 3 (-1), 3, 0, 0, -1),
  (36, .goto (-27), 3, 9, 0, 0),
  (39, .iload_n 2, 1, 0, 0, 0),
  (40, .ifCond .eq (6), 3, 46, 0, 0),
  (43, .bipush (-3), 2, 0, 0, -3),
  (45, .ireturn, 1, 0, 0, 0),
  (46, .iload_n 1, 1, 0, 0, 0),
  (47, .istore_n 2, 1, 0, 0, 0),
  (48, .iconst (0), 1, 0, 0, 0),
  (49, .istore_n 3, 1, 0, 0, 0),
  (50, .aload_n 0, 1, 0, 0, 0),
  (51, .getfield 9, 3, 1, 0, 0),
  (54, .iconst (1), 1, 0, 0, 1),
  (55, .isub, 1, 0, 0, 0),
  (56, .istore 4, 2, 0, 0, 0),
  (58, .iload 4, 2, 0, 0, 0),
  (60, .ifCond .lt (37), 3, 97, 0, 0),
  (63, .aload_n 0, 1, 0, 0, 0),
  (64, .getfield 22, 3, 1, 7, 0),
  (67, .iload 4, 2, 0, 0, 0),
  (69, .iload_n 2, 1, 0, 0, 0),
  (70, .bipush (10), 2, 0, 0, 10),
  (72, .irem, 1, 0, 0, 0),
  (73, .iastore, 1, 0, 0, 0),
  (74, .iload_n 3, 1, 0, 0, 0),
  (75, .iconst (1), 1, 0, 0, 1),
  (76, .aload_n 0, 1, 0, 0, 0),
  (77, .getfield 22, 3, 1, 7, 0),
  (80, .iload 4, 2, 0, 0, 0),
  (82, .iaload, 1, 0, 0, 0),
  (83, .ishl, 1, 0, 0, 0),
  (84, .ior, 1, 0, 0, 0),
  (85, .istore_n 3, 1, 0, 0, 0),
  (86, .iload_n 2, 1, 0, 0, 0),
  (87, .bipush (10), 2, 0, 0, 10),
  (89, .idiv, 1, 0, 0, 0),
  (90, .istore_n 2, 1, 0, 0, 0),
  (91, .iinc 4 (-1), 3, 0, 0, -1),
  (94, .goto (-36), 3, 58, 0, 0),
  (97, .iload_n 3, 1, 0, 0, 0),
  (98, .invokestatic 134, 3, 265, 1, 0),
  (101, .ireturn, 1, 0, 0, 0)]
def a_c72 : List (Nat × a_Rw) := [
  (0, .aload_n 0, 1, 0, 0, 0),
  (1, .iload_n 1, 1, 0, 0, 0),
  (2, .invokevirtual 116, 3, 53, 2, 0),
  (5, .ifCond .ne (6), 3, 11, 0, 0),
  (8, .bipush (-2), 2, 0, 0, -2),
  (10, .ireturn, 1, 0, 0, 0),
  (11, .aload_n 0, 1, 0, 0, 0),
  (12, .iload_n 2, 1, 0, 0, 0),
  (13, .invokevirtual 119, 3, 58, 2, 0),
  (16, .ifCond .ne (6), 3, 22, 0, 0),
  (19, .bipush (-3), 2, 0, 0, -3),
  (21, .ireturn, 1, 0, 0, 0),
  (22, .aload_n 0, 1, 0, 0, 0),
  (23, .getfield 19, 3, 1, 6, 0),
  (26, .iload_n 1, 1, 0, 0, 0),
  (27, .iaload, 1, 0, 0, 0),
  (28, .iconst (1), 1, 0, 0, 1),
  (29, .if_icmp .eq (6), 3, 35, 0, 0),
  (32, .bipush (-5), 2, 0, 0, -5),
  (34, .ireturn, 1, 0, 0, 0),
  (35, .aload_n 0, 1, 0, 0, 0),
  (36, .aload_n 0, 1, 0, 0, 0),
  (37, .getfield 22, 3, 1, 7, 0),
  (40, .iload_n 1, 1, 0, 0, 0),
  (41, .iaload, 1, 0, 0, 0),
  (42, .invokevirtual 142, 3, 73, 2, 0),
  (45, .istore_n 3, 1, 0, 0, 0),
  (46, .aload_n 0, 1, 0, 0, 0),
  (47, .iload_n 3, 1, 0, 0, 0),
  (48, .invokevirtual 145, 3, 75, 2, 0),
  (51, .iload_n 1, 1, 0, 0, 0),
  (52, .if_icmp .ne (11), 3, 63, 0, 0),
  (55, .aload_n 0, 1, 0, 0, 0),
  (56, .iload_n 3, 1, 0, 0, 0),
  (57, .invokevirtual 108, 3, 76, 2, 0),
  (60, .ifCond .eq (6), 3, 66, 0, 0),
  (63, .bipush (-5), 2, 0, 0, -5),
  (65, .ireturn, 1, 0, 0, 0),
  (66, .aload_n 0, 1, 0, 0, 0),
  (67, .iload_n 3, 1, 0, 0, 0),
  (68, .iload_n 3, 1, 0, 0, 0),
  (69, .invokevirtual 112, 3, 77, 3, 0),
  (72, .istore 4, 2, 0, 0, 0),
  (74, .iload 4, 2, 0, 0, 0),
  (76, .iconst (-1), 1, 0, 0, -1),
  (77, .if_icmp .ne (6), 3, 83, 0, 0),
  (80, .bipush (-4), 2, 0, 0, -4),
  (82, .ireturn, 1, 0, 0, 0),
  (83, .aload_n 0, 1, 0, 0, 0),
  (84, .iload_n 1, 1, 0, 0, 0),
  (85, .iload_n 3, 1, 0, 0, 0),
  (86, .iload 4, 2, 0, 0, 0),
  (88, .iload_n 2, 1, 0, 0, 0),
  (89, .invokevirtual 148, 3, 79, 5, 0),
  (92, .iload 4, 2, 0, 0, 0),
  (94, .ireturn, 1, 0, 0, 0)]
def a_c73 : List (Nat × a_Rw) := [
  (0, .aload_n 0, 1, 0, 0, 0),
  (1, .invokevirtual 87, 3, 68, 1, 0),
  (4, .aload_n 0, 1, 0, 0, 0),
  (5, .iload_n 1, 1, 0, 0, 0),
  (6, .invokevirtual 90, 3, 74, 2, 0),
  (9, .iand, 1, 0, 0, 0),
  (10, .ireturn, 1, 0, 0, 0)]
def a_c74 : List (Nat × a_Rw) := [
  (0, .iconst (0), 1, 0, 0, 0),
  (1, .istore_n 2, 1, 0, 0, 0),
  (2, .iconst (0), 1, 0, 0, 0),
  (3, .istore_n 3, 1, 0, 0, 0),
  (4, .iload_n 3, 1, 0, 0, 0),
  (5, .aload_n 0, 1, 0, 0, 0),
  (6, .getfield 9, 3, 1, 0, 0),
  (9, .if_icmp .ge (25), 3, 34, 0, 0),
  (12, .aload_n 0, 1, 0, 0, 0),
  (13, .getfield 22, 3, 1, 7, 0),
  (16, .iload_n 3, 1, 0, 0, 0),
  (17, .iaload, 1, 0, 0, 0),
  (18, .iload_n 1, 1, 0, 0, 0),
  (19, .if_icmp .ne (9), 3, 28, 0, 0),
  (22, .iload_n 2, 1, 0, 0, 0),
  (23, .iconst (1), 1, 0, 0, 1),
  (24, .iload_n 3, 1, 0, 0, 0),
  (25, .ishl, 1, 0, 0, 0),
  (26, .ior, 1, 0, 0, 0),
  (27, .istore_n 2, 1, 0, 0, 0),
  (28, .iinc 3 (1), 3, 0, 0, 1),
  (31, .goto (-27), 3, 4, 0, 0),
  (34, .iload_n 2, 1, 0, 0, 0),
  (35, .ireturn, 1, 0, 0, 0)]
def a_c75 : List (Nat × a_Rw) := [
  (0, .iconst (0), 1, 0, 0, 0),
  (1, .istore_n 2, 1, 0, 0, 0),
  (2, .iload_n 2, 1, 0, 0, 0),
  (3, .aload_n 0, 1, 0, 0, 0),
  (4, .getfield 9, 3, 1, 0, 0),
  (7, .if_icmp .ge (20), 3, 27, 0, 0),
  (10, .iload_n 1, 1, 0, 0, 0),
  (11, .iload_n 2, 1, 0, 0, 0),
  (12, .ishr, 1, 0, 0, 0),
  (13, .iconst (1), 1, 0, 0, 1),
  (14, .iand, 1, 0, 0, 0),
  (15, .iconst (1), 1, 0, 0, 1),
  (16, .if_icmp .ne (5), 3, 21, 0, 0),
  (19, .iload_n 2, 1, 0, 0, 0),
  (20, .ireturn, 1, 0, 0, 0),
  (21, .iinc 2 (1), 3, 0, 0, 1),
  (24, .goto (-22), 3, 2, 0, 0),
  (27, .iconst (-1), 1, 0, 0, -1),
  (28, .ireturn, 1, 0, 0, 0)]
def a_c76 : List (Nat × a_Rw) := [
  (0, .aload_n 0, 1, 0, 0, 0),
  (1, .iload_n 1, 1, 0, 0, 0),
  (2, .invokevirtual 99, 3, 55, 2, 0),
  (5, .bipush (15), 2, 0, 0, 15),
  (7, .iand, 1, 0, 0, 0),
  (8, .ifCond .ne (7), 3, 15, 0, 0),
  (11, .iconst (1), 1, 0, 0, 1),
  (12, .goto (4), 3, 16, 0, 0),
  (15, .iconst (0), 1, 0, 0, 0),
  (16, .ireturn, 1, 0, 0, 0)]
def a_c77 : List (Nat × a_Rw) := [
  (0, .aload_n 0, 1, 0, 0, 0),
  (1, .iload_n 1, 1, 0, 0, 0),
  (2, .invokevirtual 99, 3, 55, 2, 0),
  (5, .istore_n 3, 1, 0, 0, 0),
  (6, .iload_n 3, 1, 0, 0, 0),
  (7, .bipush (16), 2, 0, 0, 16),
  (9, .iand, 1, 0, 0, 0),
  (10, .ifCond .eq (5), 3, 15, 0, 0),
  (13, .iconst (1), 1, 0, 0, 1),
  (14, .ireturn, 1, 0, 0, 0),
  (15, .iload_n 3, 1, 0, 0, 0),
  (16, .bipush (32), 2, 0, 0, 32),
  (18, .iand, 1, 0, 0, 0),
  (19, .ifCond .eq (5), 3, 24, 0, 0),
  (22, .iconst (0), 1, 0, 0, 0),
  (23, .ireturn, 1, 0, 0, 0),
  (24, .iload_n 3, 1, 0, 0, 0),
  (25, .iconst (4), 1, 0, 0, 4),
  (26, .iand, 1, 0, 0, 0),
  (27, .ifCond .eq (7), 3, 34, 0, 0),
  (30, .iconst (1), 1, 0, 0, 1),
  (31, .goto (4), 3, 35, 0, 0),
  (34, .iconst (0), 1, 0, 0, 0),
  (35, .istore 4, 2, 0, 0, 0),
  (37, .aload_n 0, 1, 0, 0, 0),
  (38, .getfield 41, 3, 1, 1, 0),
  (41, .ifCond .ne (10), 3, 51, 0, 0),
  (44, .iload 4, 2, 0, 0, 0),
  (46, .ifCond .ne (5), 3, 51, 0, 0),
  (49, .iconst (0), 1, 0, 0, 0),
  (50, .ireturn, 1, 0, 0, 0),
  (51, .aload_n 0, 1, 0, 0, 0),
  (52, .getfield 41, 3, 1, 1, 0),
  (55, .ifCond .eq (27), 3, 82, 0, 0),
  (58, .iload 4, 2, 0, 0, 0),
  (60, .ifCond .eq (41), 3, 101, 0, 0),
  (63, .aload_n 0, 1, 0, 0, 0),
  (64, .iload_n 1, 1, 0, 0, 0),
  (65, .aload_n 0, 1, 0, 0, 0),
  (66, .bipush (6), 2, 0, 0, 6),
  (68, .invokevirtual 102, 3, 65, 2, 0),
  (71, .iand, 1, 0, 0, 0),
  (72, .invokevirtual 93, 3, 49, 2, 0),
  (75, .aload_n 0, 1, 0, 0, 0),
  (76, .getfield 77, 3, 1, 3, 0),
  (79, .if_icmp .lt (22), 3, 101, 0, 0),
  (82, .aload_n 0, 1, 0, 0, 0),
  (83, .iload_n 2, 1, 0, 0, 0),
  (84, .invokevirtual 99, 3, 55, 2, 0),
  (87, .aload_n 0, 1, 0, 0, 0),
  (88, .invokevirtual 105, 3, 78, 1, 0),
  (91, .iand, 1, 0, 0, 0),
  (92, .ifCond .eq (7), 3, 99, 0, 0),
  (95, .iconst (2), 1, 0, 0, 2),
  (96, .goto (4), 3, 100, 0, 0),
  (99, .iconst (1), 1, 0, 0, 1),
  (100, .ireturn, 1, 0, 0, 0),
  (101, .aload_n 0, 1, 0, 0, 0),
  (102, .iload_n 1, 1, 0, 0, 0),
  (103, .aload_n 0, 1, 0, 0, 0),
  (104, .bipush (11), 2, 0, 0, 11),
  (106, .invokevirtual 102, 3, 65, 2, 0),
  (109, .iand, 1, 0, 0, 0),
  (110, .invokevirtual 93, 3, 49, 2, 0),
  (113, .aload_n 0, 1, 0, 0, 0),
  (114, .getfield 80, 3, 1, 4, 0),
  (117, .if_icmp .lt (19), 3, 136, 0, 0),
  (120, .aload_n 0, 1, 0, 0, 0),
  (121, .iload_n 2, 1, 0, 0, 0),
  (122, .invokevirtual 99, 3, 55, 2, 0),
  (125, .iconst (3), 1, 0, 0, 3),
  (126, .iand, 1, 0, 0, 0),
  (127, .ifCond .eq (7), 3, 134, 0, 0),
  (130, .iconst (3), 1, 0, 0, 3),
  (131, .goto (4), 3, 135, 0, 0),
  (134, .iconst (0), 1, 0, 0, 0),
  (135, .ireturn, 1, 0, 0, 0),
  (136, .iconst (-1), 1, 0, 0, -1),
  (137, .ireturn, 1, 0, 0, 0)]
def a_c78 : List (Nat × a_Rw) := [
  (0, .aload_n 0, 1, 0, 0, 0),
  (1, .getfield 41, 3, 1, 1, 0),
  (4, .ifCond .ne (7), 3, 11, 0, 0),
  (7, .iconst (3), 1, 0, 0, 3),
  (8, .goto (4), 3, 12, 0, 0),
  (11, .iconst (2), 1, 0, 0, 2),
  (12, .ireturn, 1, 0, 0, 0)]
def a_c79 : List (Nat × a_Rw) := [
  (0, .aload_n 0, 1, 0, 0, 0),
  (1, .iload 4, 2, 0, 0, 0),
  (3, .invokevirtual 126, 3, 60, 2, 0),
  (6, .iconst (0), 1, 0, 0, 0),
  (7, .istore 5, 2, 0, 0, 0),
  (9, .iload_n 3, 1, 0, 0, 0),
  (10, .iconst (2), 1, 0, 0, 2),
  (11, .if_icmp .ne (19), 3, 30, 0, 0),
  (14, .aload_n 0, 1, 0, 0, 0),
  (15, .iload_n 1, 1, 0, 0, 0),
  (16, .iload_n 2, 1, 0, 0, 0),
  (17, .iconst (2), 1, 0, 0, 2),
  (18, .aload_n 0, 1, 0, 0, 0),
  (19, .invokevirtual 105, 3, 78, 1, 0),
  (22, .invokevirtual 130, 3, 61, 5, 0),
  (25, .istore 5, 2, 0, 0, 0),
  (27, .goto (18), 3, 45, 0, 0),
  (30, .iload_n 3, 1, 0, 0, 0),
  (31, .iconst (3), 1, 0, 0, 3),
  (32, .if_icmp .ne (13), 3, 45, 0, 0),
  (35, .aload_n 0, 1, 0, 0, 0),
  (36, .iload_n 1, 1, 0, 0, 0),
  (37, .iload_n 2, 1, 0, 0, 0),
  (38, .iconst (3), 1, 0, 0, 3),
  (39, .iconst (3), 1, 0, 0, 3),
  (40, .invokevirtual 130, 3, 61, 5, 0),
  (43, .istore 5, 2, 0, 0, 0),
  (45, .iload 5, 2, 0, 0, 0),
  (47, .ifCond .ne (39), 3, 86, 0, 0),
  (50, .iload_n 3, 1, 0, 0, 0),
  (51, .iconst (1), 1, 0, 0, 1),
  (52, .if_icmp .eq (8), 3, 60, 0, 0),
  (55, .iload_n 3, 1, 0, 0, 0),
  (56, .iconst (2), 1, 0, 0, 2),
  (57, .if_icmp .ne (7), 3, 64, 0, 0),
  (60, .iconst (1), 1, 0, 0, 1),
  (61, .goto (4), 3, 65, 0, 0),
  (64, .iconst (0), 1, 0, 0, 0),
  (65, .istore 6, 2, 0, 0, 0),
  (67, .aload_n 0, 1, 0, 0, 0),
  (68, .iload_n 1, 1, 0, 0, 0),
  (69, .iload_n 2, 1, 0, 0, 0),
  (70, .iload 6, 2, 0, 0, 0),
  (72, .ifCond .eq (7), 3, 79, 0, 0),
  (75, .iconst (4), 1, 0, 0, 4),
  (76, .goto (4), 3, 80, 0, 0),
  (79, .iconst (5), 1, 0, 0, 5),
  (80, .bipush (63), 2, 0, 0, 63),
  (82, .invokevirtual 130, 3, 61, 5, 0),
  (85, .pop, 1, 0, 0, 0),
  (86, .iload_n 1, 1, 0, 0, 0),
  (87, .ifCond .ne (8), 3, 95, 0, 0),
  (90, .aload_n 0, 1, 0, 0, 0),
  (91, .iconst (3), 1, 0, 0, 3),
  (92, .putfield 44, 3, 1, 2, 0),
  (95, .return_, 1, 0, 0, 0)]
def a_c80 : List (Nat × a_Rw) := [
  (0, .aload_n 0, 1, 0, 0, 0),
  (1, .iload_n 1, 1, 0, 0, 0),
  (2, .invokevirtual 116, 3, 53, 2, 0),
  (5, .ifCond .ne (6), 3, 11, 0, 0),
  (8, .bipush (-2), 2, 0, 0, -2),
  (10, .ireturn, 1, 0, 0, 0),
  (11, .aload_n 0, 1, 0, 0, 0),
  (12, .getfield 19, 3, 1, 6, 0),
  (15, .iload_n 1, 1, 0, 0, 0),
  (16, .iaload, 1, 0, 0, 0),
  (17, .iconst (2), 1, 0, 0, 2),
  (18, .if_icmp .eq (6), 3, 24, 0, 0),
  (21, .bipush (-5), 2, 0, 0, -5),
  (23, .ireturn, 1, 0, 0, 0),
  (24, .aload_n 0, 1, 0, 0, 0),
  (25, .aload_n 0, 1, 0, 0, 0),
  (26, .aload_n 0, 1, 0, 0, 0),
  (27, .getfield 22, 3, 1, 7, 0),
  (30, .iload_n 1, 1, 0, 0, 0),
  (31, .iaload, 1, 0, 0, 0),
  (32, .invokevirtual 142, 3, 73, 2, 0),
  (35, .invokevirtual 99, 3, 55, 2, 0),
  (38, .istore_n 2, 1, 0, 0, 0),
  (39, .aload_n 0, 1, 0, 0, 0),
  (40, .getfield 15, 3, 1, 5, 0),
  (43, .iload_n 1, 1, 0, 0, 0),
  (44, .iaload, 1, 0, 0, 0),
  (45, .ifCond .ne (14), 3, 59, 0, 0),
  (48, .aload_n 0, 1, 0, 0, 0),
  (49, .iload_n 1, 1, 0, 0, 0),
  (50, .iconst (5), 1, 0, 0, 5),
  (51, .bipush (63), 2, 0, 0, 63),
  (53, .invokevirtual 152, 3, 62, 4, 0),
  (56, .goto (62), 3, 118, 0, 0),
  (59, .aload_n 0, 1, 0, 0, 0),
  (60, .getfield 15, 3, 1, 5, 0),
  (63, .iload_n 1, 1, 0, 0, 0),
  (64, .iaload, 1, 0, 0, 0),
  (65, .iconst (4), 1, 0, 0, 4),
  (66, .if_icmp .eq (52), 3, 118, 0, 0),
  (69, .aload_n 0, 1, 0, 0, 0),
  (70, .getfield 15, 3, 1, 5, 0),
  (73, .iload_n 1, 1, 0, 0, 0),
  (74, .iaload, 1, 0, 0, 0),
  (75, .iconst (5), 1, 0, 0, 5),
  (76, .if_icmp .eq (42), 3, 118, 0, 0),
  (79, .iload_n 2, 1, 0, 0, 0),
  (80, .bipush (48), 2, 0, 0, 48),
  (82, .iand, 1, 0, 0, 0),
  (83, .ifCond .eq (25), 3, 108, 0, 0),
  (86, .aload_n 0, 1, 0, 0, 0),
  (87, .iload_n 1, 1, 0, 0, 0),
  (88, .iload_n 2, 1, 0, 0, 0),
  (89, .bipush (16), 2, 0, 0, 16),
  (91, .iand, 1, 0, 0, 0),
  (92, .ifCond .eq (7), 3, 99, 0, 0),
  (95, .iconst (4), 1, 0, 0, 4),
  (96, .goto (4), 3, 100, 0, 0),
  (99, .iconst (5), 1, 0, 0, 5),
  (100, .bipush (63), 2, 0, 0, 63),
  (102, .invokevirtual 152, 3, 62, 4, 0),
  (105, .goto (13), 3, 118, 0, 0),
  (108, .aload_n 0, 1, 0, 0, 0),
  (109, .getfield 41, 3, 1, 1, 0),
  (112, .ifCond .ne (6), 3, 118, 0, 0),
  (115, .bipush (-4), 2, 0, 0, -4),
  (117, .ireturn, 1, 0, 0, 0),
  (118, .aload_n 0, 1, 0, 0, 0),
  (119, .iload_n 1, 1, 0, 0, 0),
  (120, .invokevirtual 156, 3, 81, 2, 0),
  (123, .aload_n 0, 1, 0, 0, 0),
  (124, .getfield 15, 3, 1, 5, 0),
  (127, .iload_n 1, 1, 0, 0, 0),
  (128, .iaload, 1, 0, 0, 0),
  (129, .ireturn, 1, 0, 0, 0)]
def a_c81 : List (Nat × a_Rw) := [
  (0, .aload_n 0, 1, 0, 0, 0),
  (1, .getfield 19, 3, 1, 6, 0),
  (4, .iload_n 1, 1, 0, 0, 0),
  (5, .iconst (1), 1, 0, 0, 1),
  (6, .iastore, 1, 0, 0, 0),
  (7, .iconst (0), 1, 0, 0, 0),
  (8, .istore_n 2, 1, 0, 0, 0),
  (9, .iconst (0), 1, 0, 0, 0),
  (10, .istore_n 3, 1, 0, 0, 0),
  (11, .iload_n 3, 1, 0, 0, 0),
  (12, .aload_n 0, 1, 0, 0, 0),
  (13, .getfield 9, 3, 1, 0, 0),
  (16, .if_icmp .ge (52), 3, 68, 0, 0),
  (19, .aload_n 0, 1, 0, 0, 0),
  (20, .getfield 19, 3, 1, 6, 0),
  (23, .iload_n 3, 1, 0, 0, 0),
  (24, .iaload, 1, 0, 0, 0),
  (25, .iconst (1), 1, 0, 0, 1),
  (26, .if_icmp .ne (36), 3, 62, 0, 0),
  (29, .aload_n 0, 1, 0, 0, 0),
  (30, .getfield 22, 3, 1, 7, 0),
  (33, .iload_n 3, 1, 0, 0, 0),
  (34, .iaload, 1, 0, 0, 0),
  (35, .aload_n 0, 1, 0, 0, 0),
  (36, .getfield 22, 3, 1, 7, 0),
  (39, .iload_n 1, 1, 0, 0, 0),
  (40, .iaload, 1, 0, 0, 0),
  (41, .if_icmp .ne (21), 3, 62, 0, 0),
  (44, .aload_n 0, 1, 0, 0, 0),
  (45, .getfield 31, 3, 1, 10, 0),
  (48, .iload_n 3, 1, 0, 0, 0),
  (49, .dup2, 1, 0, 0, 0),
  (50, .iaload, 1, 0, 0, 0),
  (51, .iconst (1), 1, 0, 0, 1),
  (52, .iload_n 1, 1, 0, 0, 0),
  (53, .ishl, 1, 0, 0, 0),
  (54, .ior, 1, 0, 0, 0),
  (55, .iastore, 1, 0, 0, 0),
  (56, .iload_n 2, 1, 0, 0, 0),
  (57, .iconst (1), 1, 0, 0, 1),
  (58, .iload_n 3, 1, 0, 0, 0),
  (59, .ishl, 1, 0, 0, 0),
  (60, .ior, 1, 0, 0, 0),
  (61, .istore_n 2, 1, 0, 0, 0),
  (62, .iinc 3 (1), 3, 0, 0, 1),
  (65, .goto (-54), 3, 11, 0, 0),
  (68, .aload_n 0, 1, 0, 0, 0),
  (69, .getfield 31, 3, 1, 10, 0),
  (72, .iload_n 1, 1, 0, 0, 0),
  (73, .iload_n 2, 1, 0, 0, 0),
  (74, .iastore, 1, 0, 0, 0),
  (75, .return_, 1, 0, 0, 0)]
def a_c82 : List (Nat × a_Rw) := [
  (0, .aload_n 0, 1, 0, 0, 0),
  (1, .iload_n 1, 1, 0, 0, 0),
  (2, .invokevirtual 119, 3, 58, 2, 0),
  (5, .ifCond .ne (6), 3, 11, 0, 0),
  (8, .bipush (-3), 2, 0, 0, -3),
  (10, .ireturn, 1, 0, 0, 0),
  (11, .aload_n 0, 1, 0, 0, 0),
  (12, .getfield 41, 3, 1, 1, 0),
  (15, .ifCond .ne (10), 3, 25, 0, 0),
  (18, .aload_n 0, 1, 0, 0, 0),
  (19, .invokevirtual 87, 3, 68, 1, 0),
  (22, .ifCond .eq (6), 3, 28, 0, 0),
  (25, .bipush (-5), 2, 0, 0, -5),
  (27, .ireturn, 1, 0, 0, 0),
  (28, .aload_n 0, 1, 0, 0, 0),
  (29, .iconst (2), 1, 0, 0, 2),
  (30, .invokevirtual 83, 3, 69, 2, 0),
  (33, .istore_n 2, 1, 0, 0, 0),
  (34, .aload_n 0, 1, 0, 0, 0),
  (35, .iload_n 2, 1, 0, 0, 0),
  (36, .invokevirtual 145, 3, 75, 2, 0),
  (39, .istore_n 3, 1, 0, 0, 0),
  (40, .iload_n 3, 1, 0, 0, 0),
  (41, .iconst (-1), 1, 0, 0, -1),
  (42, .if_icmp .ne (6), 3, 48, 0, 0),
  (45, .bipush (-6), 2, 0, 0, -6),
  (47, .ireturn, 1, 0, 0, 0),
  (48, .iload_n 2, 1, 0, 0, 0),
  (49, .aload_n 0, 1, 0, 0, 0),
  (50, .aload_n 0, 1, 0, 0, 0),
  (51, .getfield 22, 3, 1, 7, 0),
  (54, .iload_n 3, 1, 0, 0, 0),
  (55, .iaload, 1, 0, 0, 0),
  (56, .invokevirtual 90, 3, 74, 2, 0),
  (59, .iand, 1, 0, 0, 0),
  (60, .istore 4, 2, 0, 0, 0),
  (62, .aload_n 0, 1, 0, 0, 0),
  (63, .iload 4, 2, 0, 0, 0),
  (65, .invokevirtual 159, 3, 83, 2, 0),
  (68, .ifCond .ne (6), 3, 74, 0, 0),
  (71, .bipush (-4), 2, 0, 0, -4),
  (73, .ireturn, 1, 0, 0, 0),
  (74, .aload_n 0, 1, 0, 0, 0),
  (75, .iload 4, 2, 0, 0, 0),
  (77, .invokevirtual 96, 3, 84, 2, 0),
  (80, .istore 5, 2, 0, 0, 0),
  (82, .iconst (0), 1, 0, 0, 0),
  (83, .istore 6, 2, 0, 0, 0),
  (85, .iload 6, 2, 0, 0, 0),
  (87, .aload_n 0, 1, 0, 0, 0),
  (88, .getfield 9, 3, 1, 0, 0),
  (91, .if_icmp .ge (26), 3, 117, 0, 0),
  (94, .iload 4, 2, 0, 0, 0),
  (96, .iload 6, 2, 0, 0, 0),
  (98, .ishr, 1, 0, 0, 0),
  (99, .iconst (1), 1, 0, 0, 1),
  (100, .iand, 1, 0, 0, 0),
  (101, .iconst (1), 1, 0, 0, 1),
  (102, .if_icmp .ne (9), 3, 111, 0, 0),
  (105, .aload_n 0, 1, 0, 0, 0),
  (106, .iload 6, 2, 0, 0, 0),
  (108, .invokevirtual 156, 3, 81, 2, 0),
  (111, .iinc 6 (1), 3, 0, 0, 1),
  (114, .goto (-29), 3, 85, 0, 0),
  (117, .aload_n 0, 1, 0, 0, 0),
  (118, .iload 4, 2, 0, 0, 0),
  (120, .invokevirtual 108, 3, 76, 2, 0),
  (123, .ifCond .eq (5), 3, 128, 0, 0),
  (126, .iconst (4), 1, 0, 0, 4),
  (127, .ireturn, 1, 0, 0, 0),
  (128, .aload_n 0, 1, 0, 0, 0),
  (129, .iload 5, 2, 0, 0, 0),
  (131, .iload 4, 2, 0, 0, 0),
  (133, .invokevirtual 112, 3, 77, 3, 0),
  (136, .istore 6, 2, 0, 0, 0),
  (138, .aload_n 0, 1, 0, 0, 0),
  (139, .aload_n 0, 1, 0, 0, 0),
  (140, .iload 5, 2, 0, 0, 0),
  (142, .invokevirtual 145, 3, 75, 2, 0),
  (145, .iload 4, 2, 0, 0, 0),
  (147, .iload 6, 2, 0, 0, 0),
  (149, .iload_n 1, 1, 0, 0, 0),
  (150, .invokevirtual 148, 3, 79, 5, 0),
  (153, .iload 6, 2, 0, 0, 0),
  (155, .ireturn, 1, 0, 0, 0)]
def a_c83 : List (Nat × a_Rw) := [
  (0, .aload_n 0, 1, 0, 0, 0),
  (1, .iload_n 1, 1, 0, 0, 0),
  (2, .invokevirtual 96, 3, 84, 2, 0),
  (5, .istore_n 2, 1, 0, 0, 0),
  (6, .iload_n 2, 1, 0, 0, 0),
  (7, .ifCond .eq (15), 3, 22, 0, 0),
  (10, .iload_n 2, 1, 0, 0, 0),
  (11, .iload_n 1, 1, 0, 0, 0),
  (12, .iconst (-1), 1, 0, 0, -1),
  (13, .ixor, 1, 0, 0, 0),
  (14, .iand, 1, 0, 0, 0),
  (15, .ifCond .ne (7), 3, 22, 0, 0),
  (18, .iconst (1), 1, 0, 0, 1),
  (19, .goto (4), 3, 23, 0, 0),
  (22, .iconst (0), 1, 0, 0, 0),
  (23, .ireturn, 1, 0, 0, 0)]
def a_c84 : List (Nat × a_Rw) := [
  (0, .aload_n 0, 1, 0, 0, 0),
  (1, .invokevirtual 56, 3, 47, 1, 0),
  (4, .istore_n 2, 1, 0, 0, 0),
  (5, .iconst (0), 1, 0, 0, 0),
  (6, .istore_n 3, 1, 0, 0, 0),
  (7, .iload_n 3, 1, 0, 0, 0),
  (8, .aload_n 0, 1, 0, 0, 0),
  (9, .getfield 9, 3, 1, 0, 0),
  (12, .if_icmp .ge (27), 3, 39, 0, 0),
  (15, .iload_n 1, 1, 0, 0, 0),
  (16, .iload_n 3, 1, 0, 0, 0),
  (17, .ishr, 1, 0, 0, 0),
  (18, .iconst (1), 1, 0, 0, 1),
  (19, .iand, 1, 0, 0, 0),
  (20, .iconst (1), 1, 0, 0, 1),
  (21, .if_icmp .ne (12), 3, 33, 0, 0),
  (24, .iload_n 2, 1, 0, 0, 0),
  (25, .aload_n 0, 1, 0, 0, 0),
  (26, .getfield 31, 3, 1, 10, 0),
  (29, .iload_n 3, 1, 0, 0, 0),
  (30, .iaload, 1, 0, 0, 0),
  (31, .iand, 1, 0, 0, 0),
  (32, .istore_n 2, 1, 0, 0, 0),
  (33, .iinc 3 (1), 3, 0, 0, 1),
  (36, .goto (-29), 3, 7, 0, 0),
  (39, .iload_n 2, 1, 0, 0, 0),
  (40, .ireturn, 1, 0, 0, 0)]
def a_c85 : List (Nat × a_Rw) := [
  (0, .aload_n 0, 1, 0, 0, 0),
  (1, .iload_n 1, 1, 0, 0, 0),
  (2, .invokevirtual 108, 3, 76, 2, 0),
  (5, .ifCond .eq (7), 3, 12, 0, 0),
  (8, .iconst (-1), 1, 0, 0, -1),
  (9, .goto (9), 3, 18, 0, 0),
  (12, .aload_n 0, 1, 0, 0, 0),
  (13, .iload_n 1, 1, 0, 0, 0),
  (14, .iload_n 1, 1, 0, 0, 0),
  (15, .invokevirtual 112, 3, 77, 3, 0),
  (18, .ireturn, 1, 0, 0, 0)]
def a_c86 : List (Nat × a_Rw) := [
  (0, .iconst (0), 1, 0, 0, 0),
  (1, .istore_n 2, 1, 0, 0, 0),
  (2, .iconst (0), 1, 0, 0, 0),
  (3, .istore_n 3, 1, 0, 0, 0),
  (4, .iload_n 3, 1, 0, 0, 0),
  (5, .iconst (4), 1, 0, 0, 4),
  (6, .if_icmp .gt (44), 3, 50, 0, 0),
  (9, .iload_n 1, 1, 0, 0, 0),
  (10, .aload_n 0, 1, 0, 0, 0),
  (11, .iload_n 3, 1, 0, 0, 0),
  (12, .invokevirtual 90, 3, 74, 2, 0),
  (15, .iand, 1, 0, 0, 0),
  (16, .istore 4, 2, 0, 0, 0),
  (18, .aload_n 0, 1, 0, 0, 0),
  (19, .iload 4, 2, 0, 0, 0),
  (21, .invokevirtual 108, 3, 76, 2, 0),
  (24, .ifCond .ne (20), 3, 44, 0, 0),
  (27, .aload_n 0, 1, 0, 0, 0),
  (28, .iload 4, 2, 0, 0, 0),
  (30, .iload 4, 2, 0, 0, 0),
  (32, .invokevirtual 112, 3, 77, 3, 0),
  (35, .iconst (-1), 1, 0, 0, -1),
  (36, .if_icmp .ne (8), 3, 44, 0, 0),
  (39, .iload_n 2, 1, 0, 0, 0),
  (40, .iload 4, 2, 0, 0, 0),
  (42, .ior, 1, 0, 0, 0),
  (43, .istore_n 2, 1, 0, 0, 0),
  (44, .iinc 3 (1), 3, 0, 0, 1),
  (47, .goto (-43), 3, 4, 0, 0),
  (50, .iload_n 2, 1, 0, 0, 0),
  (51, .ireturn, 1, 0, 0, 0)]
def a_c87 : List (Nat × a_Rw) := [
  (0, .iload_n 1, 1, 0, 0, 0),
  (1, .iconst (1), 1, 0, 0, 1),
  (2, .if_icmp .lt (15), 3, 17, 0, 0),
  (5, .iload_n 1, 1, 0, 0, 0),
  (6, .aload_n 0, 1, 0, 0, 0),
  (7, .invokevirtual 56, 3, 47, 1, 0),
  (10, .if_icmp .gt (7), 3, 17, 0, 0),
  (13, .iconst (1), 1, 0, 0, 1),
  (14, .goto (4), 3, 18, 0, 0),
  (17, .iconst (0), 1, 0, 0, 0),
  (18, .ireturn, 1, 0, 0, 0)]
def a_c88 : List (Nat × a_Rw) := [
  (0, .aload_n 0, 1, 0, 0, 0),
  (1, .iload_n 1, 1, 0, 0, 0),
  (2, .iload_n 1, 1, 0, 0, 0),
  (3, .invokevirtual 112, 3, 77, 3, 0),
  (6, .istore_n 2, 1, 0, 0, 0),
  (7, .iload_n 2, 1, 0, 0, 0),
  (8, .iconst (1), 1, 0, 0, 1),
  (9, .if_icmp .eq (8), 3, 17, 0, 0),
  (12, .iload_n 2, 1, 0, 0, 0),
  (13, .iconst (2), 1, 0, 0, 2),
  (14, .if_icmp .ne (7), 3, 21, 0, 0),
  (17, .iconst (1), 1, 0, 0, 1),
  (18, .goto (4), 3, 22, 0, 0),
  (21, .iconst (0), 1, 0, 0, 0),
  (22, .ireturn, 1, 0, 0, 0)]
def a_c89 : List (Nat × a_Rw) := [
  (0, .aload_n 0, 1, 0, 0, 0),
  (1, .iload_n 1, 1, 0, 0, 0),
  (2, .iload_n 1, 1, 0, 0, 0),
  (3, .invokevirtual 112, 3, 77, 3, 0),
  (6, .istore_n 2, 1, 0, 0, 0),
  (7, .iload_n 2, 1, 0, 0, 0),
  (8, .ifCond .eq (8), 3, 16, 0, 0),
  (11, .iload_n 2, 1, 0, 0, 0),
  (12, .iconst (3), 1, 0, 0, 3),
  (13, .if_icmp .ne (7), 3, 20, 0, 0),
  (16, .iconst (1), 1, 0, 0, 1),
  (17, .goto (4), 3, 21, 0, 0),
  (20, .iconst (0), 1, 0, 0, 0),
  (21, .ireturn, 1, 0, 0, 0)]
def a_c90 : List (Nat × a_Rw) := [
  (0, .iconst (0), 1, 0, 0, 0),
  (1, .istore_n 3, 1, 0, 0, 0),
  (2, .iload_n 3, 1, 0, 0, 0),
  (3, .aload_n 0, 1, 0, 0, 0),
  (4, .getfield 9, 3, 1, 0, 0),
  (7, .if_icmp .ge (35), 3, 42, 0, 0),
  (10, .iload_n 1, 1, 0, 0, 0),
  (11, .iload_n 3, 1, 0, 0, 0),
  (12, .ishr, 1, 0, 0, 0),
  (13, .iconst (1), 1, 0, 0, 1),
  (14, .iand, 1, 0, 0, 0),
  (15, .iconst (1), 1, 0, 0, 1),
  (16, .if_icmp .ne (20), 3, 36, 0, 0),
  (19, .aload_n 0, 1, 0, 0, 0),
  (20, .iload_n 1, 1, 0, 0, 0),
  (21, .iconst (1), 1, 0, 0, 1),
  (22, .iload_n 3, 1, 0, 0, 0),
  (23, .ishl, 1, 0, 0, 0),
  (24, .iconst (-1), 1, 0, 0, -1),
  (25, .ixor, 1, 0, 0, 0),
  (26, .iand, 1, 0, 0, 0),
  (27, .invokevirtual 93, 3, 49, 2, 0),
  (30, .iload_n 2, 1, 0, 0, 0),
  (31, .if_icmp .lt (5), 3, 36, 0, 0),
  (34, .iconst (0), 1, 0, 0, 0),
  (35, .ireturn, 1, 0, 0, 0),
  (36, .iinc 3 (1), 3, 0, 0, 1),
  (39, .goto (-37), 3, 2, 0, 0),
  (42, .iconst (1), 1, 0, 0, 1),
  (43, .ireturn, 1, 0, 0, 0)]
def a_c91 : List (Nat × a_Rw) := [
  (0, .iconst (0), 1, 0, 0, 0),
  (1, .istore_n 1, 1, 0, 0, 0),
  (2, .iconst (0), 1, 0, 0, 0),
  (3, .istore_n 2, 1, 0, 0, 0),
  (4, .iload_n 2, 1, 0, 0, 0),
  (5, .aload_n 0, 1, 0, 0, 0),
  (6, .getfield 9, 3, 1, 0, 0),
  (9, .if_icmp .ge (21), 3, 30, 0, 0),
  (12, .iload_n 1, 1, 0, 0, 0),
  (13, .bipush (10), 2, 0, 0, 10),
  (15, .imul, 1, 0, 0, 0),
  (16, .aload_n 0, 1, 0, 0, 0),
  (17, .getfield 15, 3, 1, 5, 0),
  (20, .iload_n 2, 1, 0, 0, 0),
  (21, .iaload, 1, 0, 0, 0),
  (22, .iadd, 1, 0, 0, 0),
  (23, .istore_n 1, 1, 0, 0, 0),
  (24, .iinc 2 (1), 3, 0, 0, 1),
  (27, .goto (-23), 3, 4, 0, 0),
  (30, .iload_n 1, 1, 0, 0, 0),
  (31, .ireturn, 1, 0, 0, 0)]
def a_c92 : List (Nat × a_Rw) := [
  (0, .aload_n 0, 1, 0, 0, 0),
  (1, .getfield 9, 3, 1, 0, 0),
  (4, .iconst (2), 1, 0, 0, 2),
  (5, .imul, 1, 0, 0, 0),
  (6, .aload_n 0, 1, 0, 0, 0),
  (7, .getfield 41, 3, 1, 1, 0),
  (10, .iadd, 1, 0, 0, 0),
  (11, .istore_n 1, 1, 0, 0, 0),
  (12, .iconst (0), 1, 0, 0, 0),
  (13, .istore_n 2, 1, 0, 0, 0),
  (14, .iload_n 2, 1, 0, 0, 0),
  (15, .iconst (3), 1, 0, 0, 3),
  (16, .if_icmp .ge (30), 3, 46, 0, 0),
  (19, .iload_n 1, 1, 0, 0, 0),
  (20, .bipush (8), 2, 0, 0, 8),
  (22, .imul, 1, 0, 0, 0),
  (23, .aload_n 0, 1, 0, 0, 0),
  (24, .getfield 25, 3, 1, 8, 0),
  (27, .iload_n 2, 1, 0, 0, 0),
  (28, .iaload, 1, 0, 0, 0),
  (29, .iconst (4), 1, 0, 0, 4),
  (30, .imul, 1, 0, 0, 0),
  (31, .iadd, 1, 0, 0, 0),
  (32, .aload_n 0, 1, 0, 0, 0),
  (33, .getfield 28, 3, 1, 9, 0),
  (36, .iload_n 2, 1, 0, 0, 0),
  (37, .iaload, 1, 0, 0, 0),
  (38, .iadd, 1, 0, 0, 0),
  (39, .istore_n 1, 1, 0, 0, 0),
  (40, .iinc 2 (1), 3, 0, 0, 1),
  (43, .goto (-29), 3, 14, 0, 0),
  (46, .iload_n 1, 1, 0, 0, 0),
  (47, .bipush (16), 2, 0, 0, 16),
  (49, .imul, 1, 0, 0, 0),
  (50, .aload_n 0, 1, 0, 0, 0),
  (51, .getfield 77, 3, 1, 3, 0),
  (54, .iadd, 1, 0, 0, 0),
  (55, .bipush (16), 2, 0, 0, 16),
  (57, .imul, 1, 0, 0, 0),
  (58, .aload_n 0, 1, 0, 0, 0),
  (59, .getfield 80, 3, 1, 4, 0),
  (62, .iadd, 1, 0, 0, 0),
  (63, .ireturn, 1, 0, 0, 0)]
def a_c93 : List (Nat × a_Rw) := [
  (0, .iconst (0), 1, 0, 0, 0),
  (1, .istore_n 1, 1, 0, 0, 0),
  (2, .iconst (0), 1, 0, 0, 0),
  (3, .istore_n 2, 1, 0, 0, 0),
  (4, .iload_n 2, 1, 0, 0, 0),
  (5, .aload_n 0, 1, 0, 0, 0),
  (6, .getfield 9, 3, 1, 0, 0),
  (9, .if_icmp .ge (21), 3, 30, 0, 0),
  (12, .iload_n 1, 1, 0, 0, 0),
  (13, .bipush (6), 2, 0, 0, 6),
  (15, .imul, 1, 0, 0, 0),
  (16, .aload_n 0, 1, 0, 0, 0),
  (17, .getfield 15, 3, 1, 5, 0),
  (20, .iload_n 2, 1, 0, 0, 0),
  (21, .iaload, 1, 0, 0, 0),
  (22, .iadd, 1, 0, 0, 0),
  (23, .istore_n 1, 1, 0, 0, 0),
  (24, .iinc 2 (1), 3, 0, 0, 1),
  (27, .goto (-23), 3, 4, 0, 0),
  (30, .iload_n 1, 1, 0, 0, 0),
  (31, .bipush (8), 2, 0, 0, 8),
  (33, .imul, 1, 0, 0, 0),
  (34, .aload_n 0, 1, 0, 0, 0),
  (35, .invokevirtual 87, 3, 68, 1, 0),
  (38, .iadd, 1, 0, 0, 0),
  (39, .iconst (4), 1, 0, 0, 4),
  (40, .imul, 1, 0, 0, 0),
  (41, .aload_n 0, 1, 0, 0, 0),
  (42, .iconst (1), 1, 0, 0, 1),
  (43, .invokevirtual 90, 3, 74, 2, 0),
  (46, .iconst (1), 1, 0, 0, 1),
  (47, .ishr, 1, 0, 0, 0),
  (48, .iadd, 1, 0, 0, 0),
  (49, .iconst (4), 1, 0, 0, 4),
  (50, .imul, 1, 0, 0, 0),
  (51, .aload_n 0, 1, 0, 0, 0),
  (52, .getfield 44, 3, 1, 2, 0),
  (55, .iadd, 1, 0, 0, 0),
  (56, .ireturn, 1, 0, 0, 0)]
def a_c94 : List (Nat × a_Rw) := [
  (0, .aload_n 0, 1, 0, 0, 0),
  (1, .iload_n 1, 1, 0, 0, 0),
  (2, .iconst (4), 1, 0, 0, 4),
  (3, .irem, 1, 0, 0, 0),
  (4, .putfield 44, 3, 1, 2, 0),
  (7, .iload_n 1, 1, 0, 0, 0),
  (8, .iconst (4), 1, 0, 0, 4),
  (9, .idiv, 1, 0, 0, 0),
  (10, .iconst (4), 1, 0, 0, 4),
  (11, .irem, 1, 0, 0, 0),
  (12, .iconst (2), 1, 0, 0, 2),
  (13, .imul, 1, 0, 0, 0),
  (14, .istore_n 2, 1, 0, 0, 0),
  (15, .iload_n 1, 1, 0, 0, 0),
  (16, .bipush (16), 2, 0, 0, 16),
  (18, .idiv, 1, 0, 0, 0),
  (19, .bipush (8), 2, 0, 0, 8),
  (21, .irem, 1, 0, 0, 0),
  (22, .istore_n 3, 1, 0, 0, 0),
  (23, .iload_n 1, 1, 0, 0, 0),
  (24, .sipush (128), 3, 0, 0, 128),
  (27, .idiv, 1, 0, 0, 0),
  (28, .istore 4, 2, 0, 0, 0),
  (30, .aload_n 0, 1, 0, 0, 0),
  (31, .getfield 9, 3, 1, 0, 0),
  (34, .iconst (1), 1, 0, 0, 1),
  (35, .isub, 1, 0, 0, 0),
  (36, .istore 5, 2, 0, 0, 0),
  (38, .iload 5, 2, 0, 0, 0),
  (40, .ifCond .lt (54), 3, 94, 0, 0),
  (43, .aload_n 0, 1, 0, 0, 0),
  (44, .getfield 22, 3, 1, 7, 0),
  (47, .iload 5, 2, 0, 0, 0),
  (49, .iload_n 2, 1, 0, 0, 0),
  (50, .iload 5, 2, 0, 0, 0),
  (52, .ishr, 1, 0, 0, 0),
  (53, .iconst (1), 1, 0, 0, 1),
  (54, .iand, 1, 0, 0, 0),
  (55, .iastore, 1, 0, 0, 0),
  (56, .aload_n 0, 1, 0, 0, 0),
  (57, .getfield 19, 3, 1, 6, 0),
  (60, .iload 5, 2, 0, 0, 0),
  (62, .iload_n 3, 1, 0, 0, 0),
  (63, .iload 5, 2, 0, 0, 0),
  (65, .ishr, 1, 0, 0, 0),
  (66, .iconst (1), 1, 0, 0, 1),
  (67, .iand, 1, 0, 0, 0),
  (68, .iastore, 1, 0, 0, 0),
  (69, .aload_n 0, 1, 0, 0, 0),
  (70, .getfield 15, 3, 1, 5, 0),
  (73, .iload 5, 2, 0, 0, 0),
  (75, .iload 4, 2, 0, 0, 0),
  (77, .bipush (6), 2, 0, 0, 6),
  (79, .irem, 1, 0, 0, 0),
  (80, .iastore, 1, 0, 0, 0),
  (81, .iload 4, 2, 0, 0, 0),
  (83, .bipush (6), 2, 0, 0, 6),
  (85, .idiv, 1, 0, 0, 0),
  (86, .istore 4, 2, 0, 0, 0),
  (88, .iinc 5 (-1), 3, 0, 0, -1),
  (91, .goto (-53), 3, 38, 0, 0),
  (94, .aload_n 0, 1, 0, 0, 0),
  (95, .getfield 37, 3, 1, 11, 0),
  (98, .invokevirtual 47, 3, 97, 1, 0),
  (101, .return_, 1, 0, 0, 0)]
def a_c95 : List (Nat × a_Rw) := [
  (0, .iload_n 1, 1, 0, 0, 0),
  (1, .ifCond .ge (5), 3, 6, 0, 0),
  (4, .iconst (-1), 1, 0, 0, -1),
  (5, .ireturn, 1, 0, 0, 0),
  (6, .iload_n 1, 1, 0, 0, 0),
  (7, .istore_n 2, 1, 0, 0, 0),
  (8, .iconst (0), 1, 0, 0, 0),
  (9, .istore_n 3, 1, 0, 0, 0),
  (10, .iconst (1), 1, 0, 0, 1),
  (11, .istore 4, 2, 0, 0, 0),
  (13, .iconst (0), 1, 0, 0, 0),
  (14, .istore 5, 2, 0, 0, 0),
  (16, .iload 5, 2, 0, 0, 0),
  (18, .aload_n 0, 1, 0, 0, 0),
  (19, .getfield 9, 3, 1, 0, 0),
  (22, .if_icmp .ge (42), 3, 64, 0, 0),
  (25, .iload_n 2, 1, 0, 0, 0),
  (26, .bipush (10), 2, 0, 0, 10),
  (28, .irem, 1, 0, 0, 0),
  (29, .bipush (6), 2, 0, 0, 6),
  (31, .if_icmp .lt (5), 3, 36, 0, 0),
  (34, .iconst (-1), 1, 0, 0, -1),
  (35, .ireturn, 1, 0, 0, 0),
  (36, .iload_n 3, 1, 0, 0, 0),
  (37, .iload_n 2, 1, 0, 0, 0),
  (38, .bipush (10), 2, 0, 0, 10),
  (40, .irem, 1, 0, 0, 0),
  (41, .iload 4, 2, 0, 0, 0),
  (43, .imul, 1, 0, 0, 0),
  (44, .iadd, 1, 0, 0, 0),
  (45, .istore_n 3, 1, 0, 0, 0),
  (46, .iload 4, 2, 0, 0, 0),
  (48, .bipush (6), 2, 0, 0, 6),
  (50, .imul, 1, 0, 0, 0),
  (51, .istore 4, 2, 0, 0, 0),
  (53, .iload_n 2, 1, 0, 0, 0),
  (54, .bipush (10), 2, 0, 0, 10),
  (56, .idiv, 1, 0, 0, 0),
  (57, .istore_n 2, 1, 0, 0, 0),
  (58, .iinc 5 (1), 3, 0, 0, 1),
  (61, .goto (-45), 3, 16, 0, 0),
  (64, .iload_n 2, 1, 0, 0, 0),
  (65, .ifCond .ne (7), 3, 72, 0, 0),
  (68, .iload_n 3, 1, 0, 0, 0),
  (69, .goto (4), 3, 73, 0, 0),
  (72, .iconst (-1), 1, 0, 0, -1),
  (73, .ireturn, 1, 0, 0, 0)]
def a_c96 : List (Nat × a_Rw) := [
  (0, .aload_n 0, 1, 0, 0, 0),
  (1, .invokespecial 3, 3, 1000, 1, 0),
  (4, .aload_n 0, 1, 0, 0, 0),
  (5, .bipush (60), 2, 0, 0, 60),
  (7, .newarray .int, 2, 0, 0, 0),
  (9, .putfield 9, 3, 2, 0, 0),
  (12, .return_, 1, 0, 0, 0)]
def a_c97 : List (Nat × a_Rw) := [
  (0, .aload_n 0, 1, 0, 0, 0),
  (1, .iconst (0), 1, 0, 0, 0),
  (2, .putfield 15, 3, 2, 1, 0),
  (5, .aload_n 0, 1, 0, 0, 0),
  (6, .iconst (0), 1, 0, 0, 0),
  (7, .putfield 19, 3, 2, 2, 0),
  (10, .return_, 1, 0, 0, 0)]
def a_c98 : List (Nat × a_Rw) := [
  (0, .aload_n 0, 1, 0, 0, 0),
  (1, .aload_n 1, 1, 0, 0, 0),
  (2, .getfield 15, 3, 2, 1, 0),
  (5, .putfield 15, 3, 2, 1, 0),
  (8, .aload_n 0, 1, 0, 0, 0),
  (9, .aload_n 1, 1, 0, 0, 0),
  (10, .getfield 19, 3, 2, 2, 0),
  (13, .putfield 19, 3, 2, 2, 0),
  (16, .aload_n 1, 1, 0, 0, 0),
  (17, .getfield 9, 3, 2, 0, 0),
  (20, .iconst (0), 1, 0, 0, 0),
  (21, .aload_n 0, 1, 0, 0, 0),
  (22, .getfield 9, 3, 2, 0, 0),
  (25, .iconst (0), 1, 0, 0, 0),
  (26, .bipush (60), 2, 0, 0, 60),
  (28, .invokestatic 22, 3, 1001, 5, 0),
  (31, .return_, 1, 0, 0, 0)]
def a_c99 : List (Nat × a_Rw) := [
  (0, .aload_n 0, 1, 0, 0, 0),
  (1, .getfield 9, 3, 2, 0, 0),
  (4, .aload_n 0, 1, 0, 0, 0),
  (5, .getfield 15, 3, 2, 1, 0),
  (8, .aload_n 0, 1, 0, 0, 0),
  (9, .getfield 19, 3, 2, 2, 0),
  (12, .iadd, 1, 0, 0, 0),
  (13, .bipush (60), 2, 0, 0, 60),
  (15, .irem, 1, 0, 0, 0),
  (16, .iload_n 1, 1, 0, 0, 0),
  (17, .bipush (100), 2, 0, 0, 100),
  (19, .imul, 1, 0, 0, 0),
  (20, .iload_n 2, 1, 0, 0, 0),
  (21, .bipush (10), 2, 0, 0, 10),
  (23, .imul, 1, 0, 0, 0),
  (24, .iadd, 1, 0, 0, 0),
  (25, .iload_n 3, 1, 0, 0, 0),
  (26, .iadd, 1, 0, 0, 0),
  (27, .iastore, 1, 0, 0, 0),
  (28, .aload_n 0, 1, 0, 0, 0),
  (29, .getfield 19, 3, 2, 2, 0),
  (32, .bipush (60), 2, 0, 0, 60),
  (34, .if_icmp .ge (16), 3, 50, 0, 0),
  (37, .aload_n 0, 1, 0, 0, 0),
  (38, .dup, 1, 0, 0, 0),
  (39, .getfield 19, 3, 2, 2, 0),
  (42, .iconst (1), 1, 0, 0, 1),
  (43, .iadd, 1, 0, 0, 0),
  (44, .putfield 19, 3, 2, 2, 0),
  (47, .goto (16), 3, 63, 0, 0),
  (50, .aload_n 0, 1, 0, 0, 0),
  (51, .aload_n 0, 1, 0, 0, 0),
  (52, .getfield 15, 3, 2, 1, 0),
  (55, .iconst (1), 1, 0, 0, 1),
  (56, .iadd, 1, 0, 0, 0),
  (57, .bipush (60), 2, 0, 0, 60),
  (59, .irem, 1, 0, 0, 0),
  (60, .putfield 15, 3, 2, 1, 0),
  (63, .return_, 1, 0, 0, 0)]
def a_c100 : List (Nat × a_Rw) := [
  (0, .aload_n 0, 1, 0, 0, 0),
  (1, .iload_n 1, 1, 0, 0, 0),
  (2, .invokevirtual 28, 3, 101, 2, 0),
  (5, .istore_n 2, 1, 0, 0, 0),
  (6, .iconst (3), 1, 0, 0, 3),
  (7, .iload_n 2, 1, 0, 0, 0),
  (8, .bipush (10), 2, 0, 0, 10),
  (10, .idiv, 1, 0, 0, 0),
  (11, .bipush (10), 2, 0, 0, 10),
  (13, .irem, 1, 0, 0, 0),
  (14, .invokestatic 32, 3, 102, 1, 0),
  (17, .invokevirtual 36, 3, 267, 1, 0),
  (20, .iadd, 1, 0, 0, 0),
  (21, .iload_n 2, 1, 0, 0, 0),
  (22, .bipush (10), 2, 0, 0, 10),
  (24, .irem, 1, 0, 0, 0),
  (25, .invokestatic 32, 3, 102, 1, 0),
  (28, .invokevirtual 36, 3, 267, 1, 0),
  (31, .iadd, 1, 0, 0, 0),
  (32, .ireturn, 1, 0, 0, 0)]
def a_c101 : List (Nat × a_Rw) := [
  (0, .aload_n 0, 1, 0, 0, 0),
  (1, .getfield 9, 3, 2, 0, 0),
  (4, .aload_n 0, 1, 0, 0, 0),
  (5, .getfield 15, 3, 2, 1, 0),
  (8, .iload_n 1, 1, 0, 0, 0),
  (9, .iadd, 1, 0, 0, 0),
  (10, .bipush (60), 2, 0, 0, 60),
  (12, .irem, 1, 0, 0, 0),
  (13, .iaload, 1, 0, 0, 0),
  (14, .ireturn, 1, 0, 0, 0)]
def a_c102 : List (Nat × a_Rw) := [
  (0, .iload_n 0, 1, 0, 0, 0),
  (1, .tableswitch (50) (0) (4) #[35, 38, 41, 44, 47], 35, 0, 0, 0),
  (36, .ldc 46, 2, 1, 12, 0),
  (38, .areturn, 1, 0, 0, 0),
  (39, .ldc 48, 2, 1, 13, 0),
  (41, .areturn, 1, 0, 0, 0),
  (42, .ldc 50, 2, 1, 14, 0),
  (44, .areturn, 1, 0, 0, 0),
  (45, .ldc 52, 2, 1, 15, 0),
  (47, .areturn, 1, 0, 0, 0),
  (48, .ldc 54, 2, 1, 16, 0),
  (50, .areturn, 1, 0, 0, 0),
  (51, .ldc 56, 2, 1, 17, 0),
  (53, .areturn, 1, 0, 0, 0)]
def a_c103 : List (Nat × a_Rw) := [
  (0, .aload_n 0, 1, 0, 0, 0),
  (1, .iload_n 1, 1, 0, 0, 0),
  (2, .invokevirtual 28, 3, 101, 2, 0),
  (5, .istore_n 3, 1, 0, 0, 0),
  (6, .iload_n 2, 1, 0, 0, 0),
  (7, .ifCond .ne (11), 3, 18, 0, 0),
  (10, .bipush (48), 2, 0, 0, 48),
  (12, .iload_n 3, 1, 0, 0, 0),
  (13, .bipush (100), 2, 0, 0, 100),
  (15, .idiv, 1, 0, 0, 0),
  (16, .iadd, 1, 0, 0, 0),
  (17, .ireturn, 1, 0, 0, 0),
  (18, .iload_n 3, 1, 0, 0, 0),
  (19, .bipush (10), 2, 0, 0, 10),
  (21, .idiv, 1, 0, 0, 0),
  (22, .bipush (10), 2, 0, 0, 10),
  (24, .irem, 1, 0, 0, 0),
  (25, .invokestatic 32, 3, 102, 1, 0),
  (28, .astore 4, 2, 0, 0, 0),
  (30, .iload_n 3, 1, 0, 0, 0),
  (31, .bipush (10), 2, 0, 0, 10),
  (33, .irem, 1, 0, 0, 0),
  (34, .invokestatic 32, 3, 102, 1, 0),
  (37, .astore 5, 2, 0, 0, 0),
  (39, .iconst (2), 1, 0, 0, 2),
  (40, .aload 4, 2, 0, 0, 0),
  (42, .invokevirtual 36, 3, 267, 1, 0),
  (45, .iadd, 1, 0, 0, 0),
  (46, .istore 6, 2, 0, 0, 0),
  (48, .iload_n 2, 1, 0, 0, 0),
  (49, .iconst (1), 1, 0, 0, 1),
  (50, .if_icmp .eq (9), 3, 59, 0, 0),
  (53, .iload_n 2, 1, 0, 0, 0),
  (54, .iload 6, 2, 0, 0, 0),
  (56, .if_icmp .ne (6), 3, 62, 0, 0),
  (59, .bipush (32), 2, 0, 0, 32),
  (61, .ireturn, 1, 0, 0, 0),
  (62, .iload_n 2, 1, 0, 0, 0),
  (63, .iload 6, 2, 0, 0, 0),
  (65, .if_icmp .ge (12), 3, 77, 0, 0),
  (68, .aload 4, 2, 0, 0, 0),
  (70, .iload_n 2, 1, 0, 0, 0),
  (71, .iconst (2), 1, 0, 0, 2),
  (72, .isub, 1, 0, 0, 0),
  (73, .invokevirtual 42, 3, 269, 2, 0),
  (76, .ireturn, 1, 0, 0, 0),
  (77, .iload_n 2, 1, 0, 0, 0),
  (78, .iload 6, 2, 0, 0, 0),
  (80, .isub, 1, 0, 0, 0),
  (81, .iconst (1), 1, 0, 0, 1),
  (82, .isub, 1, 0, 0, 0),
  (83, .istore 7, 2, 0, 0, 0),
  (85, .iload 7, 2, 0, 0, 0),
  (87, .ifCond .lt (23), 3, 110, 0, 0),
  (90, .iload 7, 2, 0, 0, 0),
  (92, .aload 5, 2, 0, 0, 0),
  (94, .invokevirtual 36, 3, 267, 1, 0),
  (97, .if_icmp .ge (13), 3, 110, 0, 0),
  (100, .aload 5, 2, 0, 0, 0),
  (102, .iload 7, 2, 0, 0, 0),
  (104, .invokevirtual 42, 3, 269, 2, 0),
  (107, .goto (4), 3, 111, 0, 0),
  (110, .iconst (-1), 1, 0, 0, -1),
  (111, .ireturn, 1, 0, 0, 0)]
def a_c104 : List (Nat × a_Rw) := [
  (0, .aload_n 0, 1, 0, 0, 0),
  (1, .invokespecial 3, 3, 1000, 1, 0),
  (4, .aload_n 0, 1, 0, 0, 0),
  (5, .bipush (11), 2, 0, 0, 11),
  (7, .anewarray 9, 3, 0, 0, 0),
  (10, .putfield 11, 3, 3, 0, 0),
  (13, .iconst (0), 1, 0, 0, 0),
  (14, .istore_n 1, 1, 0, 0, 0),
  (15, .iload_n 1, 1, 0, 0, 0),
  (16, .bipush (10), 2, 0, 0, 10),
  (18, .if_icmp .gt (22), 3, 40, 0, 0),
  (21, .aload_n 0, 1, 0, 0, 0),
  (22, .getfield 11, 3, 3, 0, 0),
  (25, .iload_n 1, 1, 0, 0, 0),
  (26, .new 9, 3, 1, 0, 0),
  (29, .dup, 1, 0, 0, 0),
  (30, .invokespecial 17, 3, 45, 1, 0),
  (33, .aastore, 1, 0, 0, 0),
  (34, .iinc 1 (1), 3, 0, 0, 1),
  (37, .goto (-22), 3, 15, 0, 0),
  (40, .return_, 1, 0, 0, 0)]
def a_c105 : List (Nat × a_Rw) := [
  (0, .aload_n 0, 1, 0, 0, 0),
  (1, .getfield 11, 3, 3, 0, 0),
  (4, .aload_n 0, 1, 0, 0, 0),
  (5, .getfield 18, 3, 3, 1, 0),
  (8, .aaload, 1, 0, 0, 0),
  (9, .aload_n 1, 1, 0, 0, 0),
  (10, .invokevirtual 22, 3, 50, 2, 0),
  (13, .return_, 1, 0, 0, 0)]
def a_c106 : List (Nat × a_Rw) := [
  (0, .iload_n 1, 1, 0, 0, 0),
  (1, .ifCond .lt (31), 3, 32, 0, 0),
  (4, .aload_n 0, 1, 0, 0, 0),
  (5, .aload_n 0, 1, 0, 0, 0),
  (6, .getfield 18, 3, 3, 1, 0),
  (9, .iconst (1), 1, 0, 0, 1),
  (10, .iadd, 1, 0, 0, 0),
  (11, .bipush (11), 2, 0, 0, 11),
  (13, .irem, 1, 0, 0, 0),
  (14, .putfield 18, 3, 3, 1, 0),
  (17, .aload_n 0, 1, 0, 0, 0),
  (18, .aload_n 0, 1, 0, 0, 0),
  (19, .getfield 26, 3, 3, 2, 0),
  (22, .iconst (1), 1, 0, 0, 1),
  (23, .iadd, 1, 0, 0, 0),
  (24, .bipush (10), 2, 0, 0, 10),
  (26, .invokestatic 29, 3, 264, 2, 0),
  (29, .putfield 26, 3, 3, 2, 0),
  (32, .iload_n 1, 1, 0, 0, 0),
  (33, .ireturn, 1, 0, 0, 0)]
def a_c107 : List (Nat × a_Rw) := [
  (0, .aload_n 0, 1, 0, 0, 0),
  (1, .aload_n 0, 1, 0, 0, 0),
  (2, .getfield 18, 3, 3, 1, 0),
  (5, .iload_n 2, 1, 0, 0, 0),
  (6, .isub, 1, 0, 0, 0),
  (7, .bipush (11), 2, 0, 0, 11),
  (9, .invokestatic 35, 3, 266, 2, 0),
  (12, .putfield 18, 3, 3, 1, 0),
  (15, .aload_n 0, 1, 0, 0, 0),
  (16, .dup, 1, 0, 0, 0),
  (17, .getfield 26, 3, 3, 2, 0),
  (20, .iload_n 2, 1, 0, 0, 0),
  (21, .isub, 1, 0, 0, 0),
  (22, .putfield 26, 3, 3, 2, 0),
  (25, .aload_n 1, 1, 0, 0, 0),
  (26, .aload_n 0, 1, 0, 0, 0),
  (27, .getfield 11, 3, 3, 0, 0),
  (30, .aload_n 0, 1, 0, 0, 0),
  (31, .getfield 18, 3, 3, 1, 0),
  (34, .aaload, 1, 0, 0, 0),
  (35, .invokevirtual 22, 3, 50, 2, 0),
  (38, .return_, 1, 0, 0, 0)]
def a_c108 : List (Nat × a_Rw) := [
  (0, .aload_n 0, 1, 0, 0, 0),
  (1, .invokespecial 3, 3, 1000, 1, 0),
  (4, .aload_n 0, 1, 0, 0, 0),
  (5, .bipush (12), 2, 0, 0, 12),
  (7, .newarray .int, 2, 0, 0, 0),
  (9, .putfield 9, 3, 4, 0, 0),
  (12, .aload_n 0, 1, 0, 0, 0),
  (13, .bipush (12), 2, 0, 0, 12),
  (15, .newarray .int, 2, 0, 0, 0),
  (17, .putfield 15, 3, 4, 1, 0),
  (20, .aload_n 0, 1, 0, 0, 0),
  (21, .bipush (12), 2, 0, 0, 12),
  (23, .newarray .int, 2, 0, 0, 0),
  (25, .putfield 18, 3, 4, 2, 0),
  (28, .aload_n 0, 1, 0, 0, 0),
  (29, .sipush (200), 3, 0, 0, 200),
  (32, .newarray .byte, 2, 1, 0, 0),
  (34, .putfield 21, 3, 4, 7, 0),
  (37, .aload_n 0, 1, 0, 0, 0),
  (38, .iconst (-1), 1, 0, 0, -1),
  (39, .putfield 25, 3, 4, 5, 0),
  (42, .return_, 1, 0, 0, 0)]
def a_c109 : List (Nat × a_Rw) := [
  (0, .aload_n 1, 1, 0, 0, 0),
  (1, .iconst (0), 1, 0, 0, 0),
  (2, .aload_n 0, 1, 0, 0, 0),
  (3, .getfield 21, 3, 4, 7, 0),
  (6, .iconst (0), 1, 0, 0, 0),
  (7, .iload_n 2, 1, 0, 0, 0),
  (8, .invokestatic 29, 3, 1001, 5, 0),
  (11, .aload_n 0, 1, 0, 0, 0),
  (12, .iload_n 2, 1, 0, 0, 0),
  (13, .putfield 35, 3, 4, 8, 0),
  (16, .aload_n 0, 1, 0, 0, 0),
  (17, .iconst (0), 1, 0, 0, 0),
  (18, .putfield 38, 3, 4, 9, 0),
  (21, .aload_n 0, 1, 0, 0, 0),
  (22, .iconst (0), 1, 0, 0, 0),
  (23, .putfield 41, 3, 4, 3, 0),
  (26, .aload_n 0, 1, 0, 0, 0),
  (27, .iconst (0), 1, 0, 0, 0),
  (28, .putfield 44, 3, 4, 4, 0),
  (31, .aload_n 0, 1, 0, 0, 0),
  (32, .iconst (-1), 1, 0, 0, -1),
  (33, .putfield 25, 3, 4, 5, 0),
  (36, .aload_n 0, 1, 0, 0, 0),
  (37, .iconst (0), 1, 0, 0, 0),
  (38, .putfield 47, 3, 4, 6, 0),
  (41, .iconst (0), 1, 0, 0, 0),
  (42, .istore_n 3, 1, 0, 0, 0),
  (43, .iload_n 3, 1, 0, 0, 0),
  (44, .bipush (12), 2, 0, 0, 12),
  (46, .if_icmp .gt (31), 3, 77, 0, 0),
  (49, .aload_n 0, 1, 0, 0, 0),
  (50, .getfield 38, 3, 4, 9, 0),
  (53, .aload_n 0, 1, 0, 0, 0),
  (54, .getfield 35, 3, 4, 8, 0),
  (57, .if_icmp .ge (20), 3, 77, 0, 0),
  (60, .aload_n 0, 1, 0, 0, 0),
  (61, .getfield 44, 3, 4, 4, 0),
  (64, .ifCond .ne (13), 3, 77, 0, 0),
  (67, .aload_n 0, 1, 0, 0, 0),
  (68, .invokevirtual 50, 3, 110, 1, 0),
  (71, .iinc 3 (1), 3, 0, 0, 1),
  (74, .goto (-31), 3, 43, 0, 0),
  (77, .return_, 1, 0, 0, 0)]
def a_c110 : List (Nat × a_Rw) := [
  (0, .aload_n 0, 1, 0, 0, 0),
  (1, .getfield 38, 3, 4, 9, 0),
  (4, .istore_n 1, 1, 0, 0, 0),
  (5, .aload_n 0, 1, 0, 0, 0),
  (6, .invokevirtual 53, 3, 111, 1, 0),
  (9, .istore_n 2, 1, 0, 0, 0),
  (10, .iload_n 2, 1, 0, 0, 0),
  (11, .iload_n 1, 1, 0, 0, 0),
  (12, .if_icmp .ne (8), 3, 20, 0, 0),
  (15, .aload_n 0, 1, 0, 0, 0),
  (16, .invokevirtual 57, 3, 112, 1, 0),
  (19, .return_, 1, 0, 0, 0),
  (20, .aload_n 0, 1, 0, 0, 0),
  (21, .iload_n 1, 1, 0, 0, 0),
  (22, .iload_n 2, 1, 0, 0, 0),
  (23, .invokevirtual 60, 3, 114, 3, 0),
  (26, .istore_n 3, 1, 0, 0, 0),
  (27, .iload_n 3, 1, 0, 0, 0),
  (28, .iconst (-1), 1, 0, 0, -1),
  (29, .if_icmp .ne (10), 3, 39, 0, 0),
  (32, .aload_n 0, 1, 0, 0, 0),
  (33, .invokevirtual 57, 3, 112, 1, 0),
  (36, .goto (82), 3, 118, 0, 0),
  (39, .aload_n 0, 1, 0, 0, 0),
  (40, .getfield 41, 3, 4, 3, 0),
  (43, .bipush (12), 2, 0, 0, 12),
  (45, .if_icmp .lt (11), 3, 56, 0, 0),
  (48, .aload_n 0, 1, 0, 0, 0),
  (49, .iconst (3), 1, 0, 0, 3),
  (50, .invokevirtual 64, 3, 113, 2, 0),
  (53, .goto (65), 3, 118, 0, 0),
  (56, .aload_n 0, 1, 0, 0, 0),
  (57, .iload_n 2, 1, 0, 0, 0),
  (58, .putfield 38, 3, 4, 9, 0),
  (61, .aload_n 0, 1, 0, 0, 0),
  (62, .getfield 9, 3, 4, 0, 0),
  (65, .aload_n 0, 1, 0, 0, 0),
  (66, .getfield 41, 3, 4, 3, 0),
  (69, .iload_n 3, 1, 0, 0, 0),
  (70, .iastore, 1, 0, 0, 0),
  (71, .aload_n 0, 1, 0, 0, 0),
  (72, .getfield 15, 3, 4, 1, 0),
  (75, .aload_n 0, 1, 0, 0, 0),
  (76, .getfield 41, 3, 4, 3, 0),
  (79, .iconst (0), 1, 0, 0, 0),
  (80, .iastore, 1, 0, 0, 0),
  (81, .aload_n 0, 1, 0, 0, 0),
  (82, .getfield 18, 3, 4, 2, 0),
  (85, .aload_n 0, 1, 0, 0, 0),
  (86, .getfield 41, 3, 4, 3, 0),
  (89, .iconst (-1), 1, 0, 0, -1),
  (90, .iastore, 1, 0, 0, 0),
  (91, .aload_n 0, 1, 0, 0, 0),
  (92, .iload_n 3, 1, 0, 0, 0),
  (93, .invokevirtual 68, 3, 117, 2, 0),
  (96, .ifCond .eq (22), 3, 118, 0, 0),
  (99, .aload_n 0, 1, 0, 0, 0),
  (100, .bipush (59), 2, 0, 0, 59),
  (102, .invokevirtual 72, 3, 122, 2, 0),
  (105, .ifCond .eq (13), 3, 118, 0, 0),
  (108, .aload_n 0, 1, 0, 0, 0),
  (109, .dup, 1, 0, 0, 0),
  (110, .getfield 41, 3, 4, 3, 0),
  (113, .iconst (1), 1, 0, 0, 1),
  (114, .iadd, 1, 0, 0, 0),
  (115, .putfield 41, 3, 4, 3, 0),
  (118, .return_, 1, 0, 0, 0)]
def a_c111 : List (Nat × a_Rw) := [
  (0, .aload_n 0, 1, 0, 0, 0),
  (1, .getfield 38, 3, 4, 9, 0),
  (4, .istore_n 1, 1, 0, 0, 0),
  (5, .iload_n 1, 1, 0, 0, 0),
  (6, .aload_n 0, 1, 0, 0, 0),
  (7, .getfield 35, 3, 4, 8, 0),
  (10, .if_icmp .ge (31), 3, 41, 0, 0),
  (13, .aload_n 0, 1, 0, 0, 0),
  (14, .getfield 21, 3, 4, 7, 0),
  (17, .iload_n 1, 1, 0, 0, 0),
  (18, .baload, 1, 0, 0, 0),
  (19, .bipush (97), 2, 0, 0, 97),
  (21, .if_icmp .lt (20), 3, 41, 0, 0),
  (24, .aload_n 0, 1, 0, 0, 0),
  (25, .getfield 21, 3, 4, 7, 0),
  (28, .iload_n 1, 1, 0, 0, 0),
  (29, .baload, 1, 0, 0, 0),
  (30, .bipush (122), 2, 0, 0, 122),
  (32, .if_icmp .gt (9), 3, 41, 0, 0),
  (35, .iinc 1 (1), 3, 0, 0, 1),
  (38, .goto (-33), 3, 5, 0, 0),
  (41, .iload_n 1, 1, 0, 0, 0),
  (42, .ireturn, 1, 0, 0, 0)]
def a_c112 : List (Nat × a_Rw) := [
  (0, .aload_n 0, 1, 0, 0, 0),
  (1, .aload_n 0, 1, 0, 0, 0),
  (2, .invokevirtual 53, 3, 111, 1, 0),
  (5, .aload_n 0, 1, 0, 0, 0),
  (6, .getfield 38, 3, 4, 9, 0),
  (9, .if_icmp .le (7), 3, 16, 0, 0),
  (12, .iconst (1), 1, 0, 0, 1),
  (13, .goto (4), 3, 17, 0, 0),
  (16, .iconst (2), 1, 0, 0, 2),
  (17, .invokevirtual 64, 3, 113, 2, 0),
  (20, .return_, 1, 0, 0, 0)]
def a_c113 : List (Nat × a_Rw) := [
  (0, .aload_n 0, 1, 0, 0, 0),
  (1, .iload_n 1, 1, 0, 0, 0),
  (2, .putfield 44, 3, 4, 4, 0),
  (5, .aload_n 0, 1, 0, 0, 0),
  (6, .aload_n 0, 1, 0, 0, 0),
  (7, .getfield 38, 3, 4, 9, 0),
  (10, .putfield 25, 3, 4, 5, 0),
  (13, .return_, 1, 0, 0, 0)]
def a_c114 : List (Nat × a_Rw) := [
  (0, .iconst (0), 1, 0, 0, 0),
  (1, .istore_n 3, 1, 0, 0, 0),
  (2, .iload_n 3, 1, 0, 0, 0),
  (3, .bipush (10), 2, 0, 0, 10),
  (5, .if_icmp .ge (24), 3, 29, 0, 0),
  (8, .aload_n 0, 1, 0, 0, 0),
  (9, .iload_n 3, 1, 0, 0, 0),
  (10, .invokestatic 99, 3, 115, 1, 0),
  (13, .iload_n 1, 1, 0, 0, 0),
  (14, .iload_n 2, 1, 0, 0, 0),
  (15, .invokevirtual 93, 3, 116, 4, 0),
  (18, .ifCond .eq (5), 3, 23, 0, 0),
  (21, .iload_n 3, 1, 0, 0, 0),
  (22, .ireturn, 1, 0, 0, 0),
  (23, .iinc 3 (1), 3, 0, 0, 1),
  (26, .goto (-24), 3, 2, 0, 0),
  (29, .iconst (-1), 1, 0, 0, -1),
  (30, .ireturn, 1, 0, 0, 0)]
def a_c115 : List (Nat × a_Rw) := [
  (0, .iload_n 0, 1, 0, 0, 0),
  (1, .tableswitch (78) (0) (8) #[51, 54, 57, 60, 63, 66, 69, 72, 75], 51, 0, 0, 0),
  (52, .ldc 111, 2, 1, 0, 0),
  (54, .areturn, 1, 0, 0, 0),
  (55, .ldc 113, 2, 1, 1, 0),
  (57, .areturn, 1, 0, 0, 0),
  (58, .ldc 115, 2, 1, 2, 0),
  (60, .areturn, 1, 0, 0, 0),
  (61, .ldc 117, 2, 1, 3, 0),
  (63, .areturn, 1, 0, 0, 0),
  (64, .ldc 119, 2, 1, 4, 0),
  (66, .areturn, 1, 0, 0, 0),
  (67, .ldc 121, 2, 1, 5, 0),
  (69, .areturn, 1, 0, 0, 0),
  (70, .ldc 123, 2, 1, 6, 0),
  (72, .areturn, 1, 0, 0, 0),
  (73, .ldc 125, 2, 1, 7, 0),
  (75, .areturn, 1, 0, 0, 0),
  (76, .ldc 127, 2, 1, 8, 0),
  (78, .areturn, 1, 0, 0, 0),
  (79, .ldc 129, 2, 1, 9, 0),
  (81, .areturn, 1, 0, 0, 0)]
def a_c116 : List (Nat × a_Rw) := [
  (0, .aload_n 1, 1, 0, 0, 0),
  (1, .invokevirtual 103, 3, 267, 1, 0),
  (4, .iload_n 3, 1, 0, 0, 0),
  (5, .iload_n 2, 1, 0, 0, 0),
  (6, .isub, 1, 0, 0, 0),
  (7, .if_icmp .eq (5), 3, 12, 0, 0),
  (10, .iconst (0), 1, 0, 0, 0),
  (11, .ireturn, 1, 0, 0, 0),
  (12, .iconst (0), 1, 0, 0, 0),
  (13, .istore 4, 2, 0, 0, 0),
  (15, .iload 4, 2, 0, 0, 0),
  (17, .aload_n 1, 1, 0, 0, 0),
  (18, .invokevirtual 103, 3, 267, 1, 0),
  (21, .if_icmp .ge (29), 3, 50, 0, 0),
  (24, .aload_n 0, 1, 0, 0, 0),
  (25, .getfield 21, 3, 4, 7, 0),
  (28, .iload_n 2, 1, 0, 0, 0),
  (29, .iload 4, 2, 0, 0, 0),
  (31, .iadd, 1, 0, 0, 0),
  (32, .baload, 1, 0, 0, 0),
  (33, .aload_n 1, 1, 0, 0, 0),
  (34, .iload 4, 2, 0, 0, 0),
  (36, .invokevirtual 107, 3, 269, 2, 0),
  (39, .if_icmp .eq (5), 3, 44, 0, 0),
  (42, .iconst (0), 1, 0, 0, 0),
  (43, .ireturn, 1, 0, 0, 0),
  (44, .iinc 4 (1), 3, 0, 0, 1),
  (47, .goto (-32), 3, 15, 0, 0),
  (50, .iconst (1), 1, 0, 0, 1),
  (51, .ireturn, 1, 0, 0, 0)]
def a_c117 : List (Nat × a_Rw) := [
  (0, .iload_n 1, 1, 0, 0, 0),
  (1, .tableswitch (101) (0) (8) #[51, 51, 51, 56, 56, 61, 56, 101, 81], 51, 0, 0, 0),
  (52, .aload_n 0, 1, 0, 0, 0),
  (53, .invokevirtual 75, 3, 118, 1, 0),
  (56, .ireturn, 1, 0, 0, 0),
  (57, .aload_n 0, 1, 0, 0, 0),
  (58, .invokevirtual 79, 3, 121, 1, 0),
  (61, .ireturn, 1, 0, 0, 0),
  (62, .aload_n 0, 1, 0, 0, 0),
  (63, .invokevirtual 79, 3, 121, 1, 0),
  (66, .ifCond .eq (14), 3, 80, 0, 0),
  (69, .aload_n 0, 1, 0, 0, 0),
  (70, .invokevirtual 75, 3, 118, 1, 0),
  (73, .ifCond .eq (7), 3, 80, 0, 0),
  (76, .iconst (1), 1, 0, 0, 1),
  (77, .goto (4), 3, 81, 0, 0),
  (80, .iconst (0), 1, 0, 0, 0),
  (81, .ireturn, 1, 0, 0, 0),
  (82, .aload_n 0, 1, 0, 0, 0),
  (83, .invokevirtual 79, 3, 121, 1, 0),
  (86, .ifCond .eq (14), 3, 100, 0, 0),
  (89, .aload_n 0, 1, 0, 0, 0),
  (90, .invokevirtual 82, 3, 123, 1, 0),
  (93, .ifCond .eq (7), 3, 100, 0, 0),
  (96, .iconst (1), 1, 0, 0, 1),
  (97, .goto (4), 3, 101, 0, 0),
  (100, .iconst (0), 1, 0, 0, 0),
  (101, .ireturn, 1, 0, 0, 0),
  (102, .iconst (1), 1, 0, 0, 1),
  (103, .ireturn, 1, 0, 0, 0)]
def a_c118 : List (Nat × a_Rw) := [
  (0, .aload_n 0, 1, 0, 0, 0),
  (1, .invokevirtual 88, 3, 119, 1, 0),
  (4, .bipush (32), 2, 0, 0, 32),
  (6, .if_icmp .eq (5), 3, 11, 0, 0),
  (9, .iconst (1), 1, 0, 0, 1),
  (10, .ireturn, 1, 0, 0, 0),
  (11, .aload_n 0, 1, 0, 0, 0),
  (12, .dup, 1, 0, 0, 0),
  (13, .getfield 38, 3, 4, 9, 0),
  (16, .iconst (1), 1, 0, 0, 1),
  (17, .iadd, 1, 0, 0, 0),
  (18, .putfield 38, 3, 4, 9, 0),
  (21, .aload_n 0, 1, 0, 0, 0),
  (22, .invokevirtual 85, 3, 120, 1, 0),
  (25, .ifCond .ne (5), 3, 30, 0, 0),
  (28, .iconst (0), 1, 0, 0, 0),
  (29, .ireturn, 1, 0, 0, 0),
  (30, .aload_n 0, 1, 0, 0, 0),
  (31, .getfield 18, 3, 4, 2, 0),
  (34, .aload_n 0, 1, 0, 0, 0),
  (35, .getfield 41, 3, 4, 3, 0),
  (38, .aload_n 0, 1, 0, 0, 0),
  (39, .getfield 21, 3, 4, 7, 0),
  (42, .aload_n 0, 1, 0, 0, 0),
  (43, .getfield 38, 3, 4, 9, 0),
  (46, .baload, 1, 0, 0, 0),
  (47, .bipush (48), 2, 0, 0, 48),
  (49, .isub, 1, 0, 0, 0),
  (50, .iastore, 1, 0, 0, 0),
  (51, .aload_n 0, 1, 0, 0, 0),
  (52, .dup, 1, 0, 0, 0),
  (53, .getfield 38, 3, 4, 9, 0),
  (56, .iconst (1), 1, 0, 0, 1),
  (57, .iadd, 1, 0, 0, 0),
  (58, .putfield 38, 3, 4, 9, 0),
  (61, .iconst (1), 1, 0, 0, 1),
  (62, .ireturn, 1, 0, 0, 0)]
def a_c119 : List (Nat × a_Rw) := [
  (0, .aload_n 0, 1, 0, 0, 0),
  (1, .getfield 38, 3, 4, 9, 0),
  (4, .aload_n 0, 1, 0, 0, 0),
  (5, .getfield 35, 3, 4, 8, 0),
  (8, .if_icmp .ge (19), 3, 27, 0, 0),
  (11, .aload_n 0, 1, 0, 0, 0),
  (12, .getfield 21, 3, 4, 7, 0),
  (15, .aload_n 0, 1, 0, 0, 0),
  (16, .getfield 38, 3, 4, 9, 0),
  (19, .baload, 1, 0, 0, 0),
  (20, .sipush (255), 3, 0, 0, 255),
  (23, .iand, 1, 0, 0, 0),
  (24, .goto (4), 3, 28, 0, 0),
  (27, .iconst (-1), 1, 0, 0, -1),
  (28, .ireturn, 1, 0, 0, 0)]
def a_c120 : List (Nat × a_Rw) := [
  (0, .aload_n 0, 1, 0, 0, 0),
  (1, .invokevirtual 88, 3, 119, 1, 0),
  (4, .istore_n 1, 1, 0, 0, 0),
  (5, .iload_n 1, 1, 0, 0, 0),
  (6, .bipush (48), 2, 0, 0, 48),
  (8, .if_icmp .lt (13), 3, 21, 0, 0),
  (11, .iload_n 1, 1, 0, 0, 0),
  (12, .bipush (57), 2, 0, 0, 57),
  (14, .if_icmp .gt (7), 3, 21, 0, 0),
  (17, .iconst (1), 1, 0, 0, 1),
  (18, .goto (4), 3, 22, 0, 0),
  (21, .iconst (0), 1, 0, 0, 0),
  (22, .istore_n 2, 1, 0, 0, 0),
  (23, .iload_n 2, 1, 0, 0, 0),
  (24, .ifCond .ne (7), 3, 31, 0, 0),
  (27, .aload_n 0, 1, 0, 0, 0),
  (28, .invokevirtual 57, 3, 112, 1, 0),
  (31, .iload_n 2, 1, 0, 0, 0),
  (32, .ireturn, 1, 0, 0, 0)]
def a_c121 : List (Nat × a_Rw) := [
  (0, .aload_n 0, 1, 0, 0, 0),
  (1, .bipush (32), 2, 0, 0, 32),
  (3, .invokevirtual 72, 3, 122, 2, 0),
  (6, .ifCond .eq (10), 3, 16, 0, 0),
  (9, .aload_n 0, 1, 0, 0, 0),
  (10, .invokevirtual 85, 3, 120, 1, 0),
  (13, .ifCond .ne (5), 3, 18, 0, 0),
  (16, .iconst (0), 1, 0, 0, 0),
  (17, .ireturn, 1, 0, 0, 0),
  (18, .aload_n 0, 1, 0, 0, 0),
  (19, .getfield 15, 3, 4, 1, 0),
  (22, .aload_n 0, 1, 0, 0, 0),
  (23, .getfield 41, 3, 4, 3, 0),
  (26, .aload_n 0, 1, 0, 0, 0),
  (27, .getfield 21, 3, 4, 7, 0),
  (30, .aload_n 0, 1, 0, 0, 0),
  (31, .getfield 38, 3, 4, 9, 0),
  (34, .baload, 1, 0, 0, 0),
  (35, .bipush (48), 2, 0, 0, 48),
  (37, .isub, 1, 0, 0, 0),
  (38, .iastore, 1, 0, 0, 0),
  (39, .aload_n 0, 1, 0, 0, 0),
  (40, .dup, 1, 0, 0, 0),
  (41, .getfield 38, 3, 4, 9, 0),
  (44, .iconst (1), 1, 0, 0, 1),
  (45, .iadd, 1, 0, 0, 0),
  (46, .putfield 38, 3, 4, 9, 0),
  (49, .iconst (1), 1, 0, 0, 1),
  (50, .ireturn, 1, 0, 0, 0)]
def a_c122 : List (Nat × a_Rw) := [
  (0, .aload_n 0, 1, 0, 0, 0),
  (1, .invokevirtual 88, 3, 119, 1, 0),
  (4, .iload_n 1, 1, 0, 0, 0),
  (5, .if_icmp .eq (9), 3, 14, 0, 0),
  (8, .aload_n 0, 1, 0, 0, 0),
  (9, .invokevirtual 57, 3, 112, 1, 0),
  (12, .iconst (0), 1, 0, 0, 0),
  (13, .ireturn, 1, 0, 0, 0),
  (14, .aload_n 0, 1, 0, 0, 0),
  (15, .dup, 1, 0, 0, 0),
  (16, .getfield 38, 3, 4, 9, 0),
  (19, .iconst (1), 1, 0, 0, 1),
  (20, .iadd, 1, 0, 0, 0),
  (21, .putfield 38, 3, 4, 9, 0),
  (24, .iconst (1), 1, 0, 0, 1),
  (25, .ireturn, 1, 0, 0, 0)]
def a_c123 : List (Nat × a_Rw) := [
  (0, .aload_n 0, 1, 0, 0, 0),
  (1, .bipush (32), 2, 0, 0, 32),
  (3, .invokevirtual 72, 3, 122, 2, 0),
  (6, .ifCond .ne (5), 3, 11, 0, 0),
  (9, .iconst (0), 1, 0, 0, 0),
  (10, .ireturn, 1, 0, 0, 0),
  (11, .aload_n 0, 1, 0, 0, 0),
  (12, .invokevirtual 53, 3, 111, 1, 0),
  (15, .istore_n 1, 1, 0, 0, 0),
  (16, .aload_n 0, 1, 0, 0, 0),
  (17, .ldc 91, 2, 1, 10, 0),
  (19, .aload_n 0, 1, 0, 0, 0),
  (20, .getfield 38, 3, 4, 9, 0),
  (23, .iload_n 1, 1, 0, 0, 0),
  (24, .invokevirtual 93, 3, 116, 4, 0),
  (27, .ifCond .eq (16), 3, 43, 0, 0),
  (30, .aload_n 0, 1, 0, 0, 0),
  (31, .getfield 18, 3, 4, 2, 0),
  (34, .aload_n 0, 1, 0, 0, 0),
  (35, .getfield 41, 3, 4, 3, 0),
  (38, .iconst (1), 1, 0, 0, 1),
  (39, .iastore, 1, 0, 0, 0),
  (40, .goto (36), 3, 76, 0, 0),
  (43, .aload_n 0, 1, 0, 0, 0),
  (44, .ldc 97, 2, 1, 11, 0),
  (46, .aload_n 0, 1, 0, 0, 0),
  (47, .getfield 38, 3, 4, 9, 0),
  (50, .iload_n 1, 1, 0, 0, 0),
  (51, .invokevirtual 93, 3, 116, 4, 0),
  (54, .ifCond .eq (16), 3, 70, 0, 0),
  (57, .aload_n 0, 1, 0, 0, 0),
  (58, .getfield 18, 3, 4, 2, 0),
  (61, .aload_n 0, 1, 0, 0, 0),
  (62, .getfield 41, 3, 4, 3, 0),
  (65, .iconst (0), 1, 0, 0, 0),
  (66, .iastore, 1, 0, 0, 0),
  (67, .goto (9), 3, 76, 0, 0),
  (70, .aload_n 0, 1, 0, 0, 0),
  (71, .invokevirtual 57, 3, 112, 1, 0),
  (74, .iconst (0), 1, 0, 0, 0),
  (75, .ireturn, 1, 0, 0, 0),
  (76, .aload_n 0, 1, 0, 0, 0),
  (77, .iload_n 1, 1, 0, 0, 0),
  (78, .putfield 38, 3, 4, 9, 0),
  (81, .iconst (1), 1, 0, 0, 1),
  (82, .ireturn, 1, 0, 0, 0)]
def a_c124 : List (Nat × a_Rw) := [
  (0, .aload_n 0, 1, 0, 0, 0),
  (1, .invokespecial 3, 3, 1000, 1, 0),
  (4, .return_, 1, 0, 0, 0)]
def a_c125 : List (Nat × a_Rw) := [
  (0, .iload_n 1, 1, 0, 0, 0),
  (1, .iconst (1), 1, 0, 0, 1),
  (2, .if_icmp .ge (7), 3, 9, 0, 0),
  (5, .iconst (0), 1, 0, 0, 0),
  (6, .goto (9), 3, 15, 0, 0),
  (9, .aload_n 0, 1, 0, 0, 0),
  (10, .getfield 9, 3, 5, 0, 0),
  (13, .iload_n 1, 1, 0, 0, 0),
  (14, .irem, 1, 0, 0, 0),
  (15, .istore_n 2, 1, 0, 0, 0),
  (16, .aload_n 0, 1, 0, 0, 0),
  (17, .sipush (709), 3, 0, 0, 709),
  (20, .aload_n 0, 1, 0, 0, 0),
  (21, .getfield 9, 3, 5, 0, 0),
  (24, .imul, 1, 0, 0, 0),
  (25, .sipush (4177), 3, 0, 0, 4177),
  (28, .iadd, 1, 0, 0, 0),
  (29, .sipush (30011), 3, 0, 0, 30011),
  (32, .irem, 1, 0, 0, 0),
  (33, .putfield 9, 3, 5, 0, 0),
  (36, .iload_n 2, 1, 0, 0, 0),
  (37, .ireturn, 1, 0, 0, 0)]
def a_c126 : List (Nat × a_Rw) := [
  (0, .aload_n 0, 1, 0, 0, 0),
  (1, .bipush (6), 2, 0, 0, 6),
  (3, .invokevirtual 15, 3, 125, 2, 0),
  (6, .istore_n 1, 1, 0, 0, 0),
  (7, .iload_n 1, 1, 0, 0, 0),
  (8, .iconst (5), 1, 0, 0, 5),
  (9, .if_icmp .ne (7), 3, 16, 0, 0),
  (12, .iconst (-1), 1, 0, 0, -1),
  (13, .goto (4), 3, 17, 0, 0),
  (16, .iload_n 1, 1, 0, 0, 0),
  (17, .ireturn, 1, 0, 0, 0)]
def a_c127 : List (Nat × a_Rw) := [
  (0, .aload_n 0, 1, 0, 0, 0),
  (1, .invokespecial 3, 3, 1000, 1, 0),
  (4, .aload_n 0, 1, 0, 0, 0),
  (5, .new 9, 3, 7, 0, 0),
  (8, .dup, 1, 0, 0, 0),
  (9, .invokespecial 11, 3, 138, 1, 0),
  (12, .putfield 12, 3, 6, 8, 0),
  (15, .aload_n 0, 1, 0, 0, 0),
  (16, .new 9, 3, 7, 0, 0),
  (19, .dup, 1, 0, 0, 0),
  (20, .invokespecial 11, 3, 138, 1, 0),
  (23, .putfield 18, 3, 6, 9, 0),
  (26, .aload_n 0, 1, 0, 0, 0),
  (27, .aload_n 0, 1, 0, 0, 0),
  (28, .getfield 12, 3, 6, 8, 0),
  (31, .putfield 21, 3, 6, 10, 0),
  (34, .aload_n 0, 1, 0, 0, 0),
  (35, .new 24, 3, 1, 0, 0),
  (38, .dup, 1, 0, 0, 0),
  (39, .invokespecial 26, 3, 45, 1, 0),
  (42, .putfield 27, 3, 6, 0, 0),
  (45, .aload_n 0, 1, 0, 0, 0),
  (46, .sipush (864), 3, 0, 0, 864),
  (49, .newarray .int, 2, 0, 0, 0),
  (51, .putfield 31, 3, 6, 1, 0),
  (54, .aload_n 0, 1, 0, 0, 0),
  (55, .sipush (4096), 3, 0, 0, 4096),
  (58, .newarray .int, 2, 0, 0, 0),
  (60, .putfield 35, 3, 6, 2, 0),
  (63, .aload_n 0, 1, 0, 0, 0),
  (64, .sipush (4096), 3, 0, 0, 4096),
  (67, .newarray .int, 2, 0, 0, 0),
  (69, .putfield 38, 3, 6, 3, 0),
  (72, .aload_n 0, 1, 0, 0, 0),
  (73, .sipush (4096), 3, 0, 0, 4096),
  (76, .newarray .int, 2, 0, 0, 0),
  (78, .putfield 41, 3, 6, 4, 0),
  (81, .aload_n 0, 1, 0, 0, 0),
  (82, .sipush (4096), 3, 0, 0, 4096),
  (85, .newarray .int, 2, 0, 0, 0),
  (87, .putfield 44, 3, 6, 5, 0),
  (90, .return_, 1, 0, 0, 0)]
def a_c128 : List (Nat × a_Rw) := [
  (0, .aload_n 0, 1, 0, 0, 0),
  (1, .getfield 31, 3, 6, 1, 0),
  (4, .iconst (0), 1, 0, 0, 0),
  (5, .invokestatic 47, 3, 263, 2, 0),
  (8, .aload_n 0, 1, 0, 0, 0),
  (9, .iconst (0), 1, 0, 0, 0),
  (10, .putfield 53, 3, 6, 6, 0),
  (13, .aload_n 0, 1, 0, 0, 0),
  (14, .iconst (-1), 1, 0, 0, -1),
  (15, .putfield 57, 3, 6, 7, 0),
  (18, .aload_n 0, 1, 0, 0, 0),
  (19, .aload_n 2, 1, 0, 0, 0),
  (20, .putfield 21, 3, 6, 10, 0),
  (23, .aload_n 0, 1, 0, 0, 0),
  (24, .getfield 21, 3, 6, 10, 0),
  (27, .invokevirtual 60, 3, 139, 1, 0),
  (30, .aload_n 0, 1, 0, 0, 0),
  (31, .getfield 27, 3, 6, 0, 0),
  (34, .aload_n 1, 1, 0, 0, 0),
  (35, .getfield 63, 3, 1, 0, 0),
  (38, .aload_n 1, 1, 0, 0, 0),
  (39, .getfield 66, 3, 1, 1, 0),
  (42, .invokevirtual 69, 3, 46, 3, 0),
  (45, .aload_n 0, 1, 0, 0, 0),
  (46, .getfield 27, 3, 6, 0, 0),
  (49, .aload_n 1, 1, 0, 0, 0),
  (50, .invokevirtual 73, 3, 51, 2, 0),
  (53, .aload_n 0, 1, 0, 0, 0),
  (54, .iconst (0), 1, 0, 0, 0),
  (55, .invokevirtual 77, 3, 129, 2, 0),
  (58, .return_, 1, 0, 0, 0)]
def a_c129 : List (Nat × a_Rw) := [
  (0, .aload_n 0, 1, 0, 0, 0),
  (1, .getfield 27, 3, 6, 0, 0),
  (4, .invokevirtual 122, 3, 93, 1, 0),
  (7, .istore_n 2, 1, 0, 0, 0),
  (8, .iload_n 2, 1, 0, 0, 0),
  (9, .ifCond .lt (20), 3, 29, 0, 0),
  (12, .iload_n 2, 1, 0, 0, 0),
  (13, .sipush (27648), 3, 0, 0, 27648),
  (16, .if_icmp .ge (13), 3, 29, 0, 0),
  (19, .aload_n 0, 1, 0, 0, 0),
  (20, .getfield 53, 3, 6, 6, 0),
  (23, .sipush (4096), 3, 0, 0, 4096),
  (26, .if_icmp .lt (4), 3, 30, 0, 0),
  (29, .return_, 1, 0, 0, 0),
  (30, .iconst (1), 1, 0, 0, 1),
  (31, .iload_n 2, 1, 0, 0, 0),
  (32, .bipush (32), 2, 0, 0, 32),
  (34, .irem, 1, 0, 0, 0),
  (35, .ishl, 1, 0, 0, 0),
  (36, .istore_n 3, 1, 0, 0, 0),
  (37, .aload_n 0, 1, 0, 0, 0),
  (38, .getfield 31, 3, 6, 1, 0),
  (41, .iload_n 2, 1, 0, 0, 0),
  (42, .bipush (32), 2, 0, 0, 32),
  (44, .idiv, 1, 0, 0, 0),
  (45, .iaload, 1, 0, 0, 0),
  (46, .iload_n 3, 1, 0, 0, 0),
  (47, .iand, 1, 0, 0, 0),
  (48, .ifCond .eq (4), 3, 52, 0, 0),
  (51, .return_, 1, 0, 0, 0),
  (52, .aload_n 0, 1, 0, 0, 0),
  (53, .getfield 31, 3, 6, 1, 0),
  (56, .iload_n 2, 1, 0, 0, 0),
  (57, .bipush (32), 2, 0, 0, 32),
  (59, .idiv, 1, 0, 0, 0),
  (60, .dup2, 1, 0, 0, 0),
  (61, .iaload, 1, 0, 0, 0),
  (62, .iload_n 3, 1, 0, 0, 0),
  (63, .ior, 1, 0, 0, 0),
  (64, .iastore, 1, 0, 0, 0),
  (65, .aload_n 0, 1, 0, 0, 0),
  (66, .getfield 35, 3, 6, 2, 0),
  (69, .aload_n 0, 1, 0, 0, 0),
  (70, .getfield 53, 3, 6, 6, 0),
  (73, .iload_n 2, 1, 0, 0, 0),
  (74, .iastore, 1, 0, 0, 0),
  (75, .aload_n 0, 1, 0, 0, 0),
  (76, .getfield 38, 3, 6, 3, 0),
  (79, .aload_n 0, 1, 0, 0, 0),
  (80, .getfield 53, 3, 6, 6, 0),
  (83, .aload_n 0, 1, 0, 0, 0),
  (84, .getfield 57, 3, 6, 7, 0),
  (87, .iastore, 1, 0, 0, 0),
  (88, .aload_n 0, 1, 0, 0, 0),
  (89, .getfield 41, 3, 6, 4, 0),
  (92, .aload_n 0, 1, 0, 0, 0),
  (93, .getfield 53, 3, 6, 6, 0),
  (96, .iload_n 1, 1, 0, 0, 0),
  (97, .iastore, 1, 0, 0, 0),
  (98, .aload_n 0, 1, 0, 0, 0),
  (99, .getfield 44, 3, 6, 5, 0),
  (102, .aload_n 0, 1, 0, 0, 0),
  (103, .getfield 53, 3, 6, 6, 0),
  (106, .aload_n 0, 1, 0, 0, 0),
  (107, .getfield 57, 3, 6, 7, 0),
  (110, .iconst (-1), 1, 0, 0, -1),
  (111, .if_icmp .ne (7), 3, 118, 0, 0),
  (114, .iconst (0), 1, 0, 0, 0),
  (115, .goto (14), 3, 129, 0, 0),
  (118, .aload_n 0, 1, 0, 0, 0),
  (119, .getfield 44, 3, 6, 5, 0),
  (122, .aload_n 0, 1, 0, 0, 0),
  (123, .getfield 57, 3, 6, 7, 0),
  (126, .iaload, 1, 0, 0, 0),
  (127, .iconst (1), 1, 0, 0, 1),
  (128, .iadd, 1, 0, 0, 0),
  (129, .iastore, 1, 0, 0, 0),
  (130, .aload_n 0, 1, 0, 0, 0),
  (131, .dup, 1, 0, 0, 0),
  (132, .getfield 53, 3, 6, 6, 0),
  (135, .iconst (1), 1, 0, 0, 1),
  (136, .iadd, 1, 0, 0, 0),
  (137, .putfield 53, 3, 6, 6, 0),
  (140, .iload_n 2, 1, 0, 0, 0),
  (141, .bipush (16), 2, 0, 0, 16),
  (143, .idiv, 1, 0, 0, 0),
  (144, .istore 4, 2, 0, 0, 0),
  (146, .aload_n 0, 1, 0, 0, 0),
  (147, .getfield 21, 3, 6, 10, 0),
  (150, .getfield 125, 3, 7, 1, 0),
  (153, .iload 4, 2, 0, 0, 0),
  (155, .iaload, 1, 0, 0, 0),
  (156, .iconst (-1), 1, 0, 0, -1),
  (157, .if_icmp .ne (27), 3, 184, 0, 0),
  (160, .aload_n 0, 1, 0, 0, 0),
  (161, .getfield 21, 3, 6, 10, 0),
  (164, .aload_n 0, 1, 0, 0, 0),
  (165, .getfield 27, 3, 6, 0, 0),
  (168, .iload 4, 2, 0, 0, 0),
  (170, .aload_n 0, 1, 0, 0, 0),
  (171, .getfield 44, 3, 6, 5, 0),
  (174, .aload_n 0, 1, 0, 0, 0),
  (175, .getfield 53, 3, 6, 6, 0),
  (178, .iconst (1), 1, 0, 0, 1),
  (179, .isub, 1, 0, 0, 0),
  (180, .iaload, 1, 0, 0, 0),
  (181, .invokevirtual 128, 3, 140, 4, 0),
  (184, .aload_n 0, 1, 0, 0, 0),
  (185, .getfield 21, 3, 6, 10, 0),
  (188, .getfield 132, 3, 7, 4, 0),
  (191, .iconst (-1), 1, 0, 0, -1),
  (192, .if_icmp .ne (21), 3, 213, 0, 0),
  (195, .aload_n 0, 1, 0, 0, 0),
  (196, .getfield 21, 3, 6, 10, 0),
  (199, .aload_n 0, 1, 0, 0, 0),
  (200, .getfield 27, 3, 6, 0, 0),
  (203, .invokevirtual 135, 3, 141, 2, 0),
  (206, .ifCond .eq (7), 3, 213, 0, 0),
  (209, .aload_n 0, 1, 0, 0, 0),
  (210, .invokevirtual 139, 3, 130, 1, 0),
  (213, .return_, 1, 0, 0, 0)]
def a_c130 : List (Nat × a_Rw) := [
  (0, .aload_n 0, 1, 0, 0, 0),
  (1, .getfield 53, 3, 6, 6, 0),
  (4, .iconst (1), 1, 0, 0, 1),
  (5, .isub, 1, 0, 0, 0),
  (6, .istore_n 1, 1, 0, 0, 0),
  (7, .aload_n 0, 1, 0, 0, 0),
  (8, .getfield 44, 3, 6, 5, 0),
  (11, .iload_n 1, 1, 0, 0, 0),
  (12, .iaload, 1, 0, 0, 0),
  (13, .bipush (64), 2, 0, 0, 64),
  (15, .invokestatic 117, 3, 264, 2, 0),
  (18, .istore_n 2, 1, 0, 0, 0),
  (19, .aload_n 0, 1, 0, 0, 0),
  (20, .getfield 21, 3, 6, 10, 0),
  (23, .iload_n 2, 1, 0, 0, 0),
  (24, .putfield 132, 3, 7, 4, 0),
  (27, .iload_n 2, 1, 0, 0, 0),
  (28, .iconst (1), 1, 0, 0, 1),
  (29, .isub, 1, 0, 0, 0),
  (30, .istore_n 3, 1, 0, 0, 0),
  (31, .iload_n 3, 1, 0, 0, 0),
  (32, .ifCond .lt (35), 3, 67, 0, 0),
  (35, .iload_n 1, 1, 0, 0, 0),
  (36, .ifCond .lt (31), 3, 67, 0, 0),
  (39, .aload_n 0, 1, 0, 0, 0),
  (40, .getfield 21, 3, 6, 10, 0),
  (43, .getfield 142, 3, 7, 3, 0),
  (46, .iload_n 3, 1, 0, 0, 0),
  (47, .aload_n 0, 1, 0, 0, 0),
  (48, .getfield 41, 3, 6, 4, 0),
  (51, .iload_n 1, 1, 0, 0, 0),
  (52, .iaload, 1, 0, 0, 0),
  (53, .iastore, 1, 0, 0, 0),
  (54, .aload_n 0, 1, 0, 0, 0),
  (55, .getfield 38, 3, 6, 3, 0),
  (58, .iload_n 1, 1, 0, 0, 0),
  (59, .iaload, 1, 0, 0, 0),
  (60, .istore_n 1, 1, 0, 0, 0),
  (61, .iinc 3 (-1), 3, 0, 0, -1),
  (64, .goto (-33), 3, 31, 0, 0),
  (67, .return_, 1, 0, 0, 0)]
def a_c131 : List (Nat × a_Rw) := [
  (0, .aload_n 0, 1, 0, 0, 0),
  (1, .dup, 1, 0, 0, 0),
  (2, .getfield 57, 3, 6, 7, 0),
  (5, .iconst (1), 1, 0, 0, 1),
  (6, .iadd, 1, 0, 0, 0),
  (7, .putfield 57, 3, 6, 7, 0),
  (10, .aload_n 0, 1, 0, 0, 0),
  (11, .getfield 57, 3, 6, 7, 0),
  (14, .aload_n 0, 1, 0, 0, 0),
  (15, .getfield 53, 3, 6, 6, 0),
  (18, .if_icmp .ge (7), 3, 25, 0, 0),
  (21, .iconst (1), 1, 0, 0, 1),
  (22, .goto (4), 3, 26, 0, 0),
  (25, .iconst (0), 1, 0, 0, 0),
  (26, .ireturn, 1, 0, 0, 0)]
def a_c132 : List (Nat × a_Rw) := [
  (0, .aload_n 0, 1, 0, 0, 0),
  (1, .getfield 35, 3, 6, 2, 0),
  (4, .aload_n 0, 1, 0, 0, 0),
  (5, .getfield 57, 3, 6, 7, 0),
  (8, .iaload, 1, 0, 0, 0),
  (9, .iconst (4), 1, 0, 0, 4),
  (10, .irem, 1, 0, 0, 0),
  (11, .istore_n 1, 1, 0, 0, 0),
  (12, .iload_n 1, 1, 0, 0, 0),
  (13, .iconst (3), 1, 0, 0, 3),
  (14, .if_icmp .ne (8), 3, 22, 0, 0),
  (17, .bipush (-2), 2, 0, 0, -2),
  (19, .goto (4), 3, 23, 0, 0),
  (22, .iconst (4), 1, 0, 0, 4),
  (23, .istore_n 2, 1, 0, 0, 0),
  (24, .iconst (-1), 1, 0, 0, -1),
  (25, .istore_n 3, 1, 0, 0, 0),
  (26, .iload_n 3, 1, 0, 0, 0),
  (27, .iload_n 2, 1, 0, 0, 0),
  (28, .if_icmp .gt (58), 3, 86, 0, 0),
  (31, .aload_n 0, 1, 0, 0, 0),
  (32, .getfield 27, 3, 6, 0, 0),
  (35, .aload_n 0, 1, 0, 0, 0),
  (36, .getfield 35, 3, 6, 2, 0),
  (39, .aload_n 0, 1, 0, 0, 0),
  (40, .getfield 57, 3, 6, 7, 0),
  (43, .iaload, 1, 0, 0, 0),
  (44, .invokevirtual 81, 3, 94, 2, 0),
  (47, .aload_n 0, 1, 0, 0, 0),
  (48, .iload_n 1, 1, 0, 0, 0),
  (49, .iload_n 3, 1, 0, 0, 0),
  (50, .invokevirtual 84, 3, 133, 3, 0),
  (53, .ifCond .ge (6), 3, 59, 0, 0),
  (56, .goto (30), 3, 86, 0, 0),
  (59, .aload_n 0, 1, 0, 0, 0),
  (60, .iload_n 1, 1, 0, 0, 0),
  (61, .iconst (1), 1, 0, 0, 1),
  (62, .iadd, 1, 0, 0, 0),
  (63, .bipush (100), 2, 0, 0, 100),
  (65, .imul, 1, 0, 0, 0),
  (66, .iload_n 3, 1, 0, 0, 0),
  (67, .iadd, 1, 0, 0, 0),
  (68, .iconst (1), 1, 0, 0, 1),
  (69, .iadd, 1, 0, 0, 0),
  (70, .invokevirtual 77, 3, 129, 2, 0),
  (73, .aload_n 0, 1, 0, 0, 0),
  (74, .iload_n 3, 1, 0, 0, 0),
  (75, .iload_n 2, 1, 0, 0, 0),
  (76, .invokevirtual 88, 3, 134, 3, 0),
  (79, .istore_n 2, 1, 0, 0, 0),
  (80, .iinc 3 (1), 3, 0, 0, 1),
  (83, .goto (-57), 3, 26, 0, 0),
  (86, .return_, 1, 0, 0, 0)]
def a_c133 : List (Nat × a_Rw) := [
  (0, .iload_n 1, 1, 0, 0, 0),
  (1, .lookupswitch (45) #[(0, 27), (1, 36)], 27, 0, 0, 0),
  (28, .aload_n 0, 1, 0, 0, 0),
  (29, .getfield 27, 3, 6, 0, 0),
  (32, .iload_n 2, 1, 0, 0, 0),
  (33, .invokevirtual 105, 3, 57, 2, 0),
  (36, .ireturn, 1, 0, 0, 0),
  (37, .aload_n 0, 1, 0, 0, 0),
  (38, .getfield 27, 3, 6, 0, 0),
  (41, .iload_n 2, 1, 0, 0, 0),
  (42, .invokevirtual 108, 3, 64, 2, 0),
  (45, .ireturn, 1, 0, 0, 0),
  (46, .aload_n 0, 1, 0, 0, 0),
  (47, .getfield 27, 3, 6, 0, 0),
  (50, .iload_n 2, 1, 0, 0, 0),
  (51, .invokevirtual 111, 3, 66, 2, 0),
  (54, .ireturn, 1, 0, 0, 0)]
def a_c134 : List (Nat × a_Rw) := [
  (0, .iload_n 1, 1, 0, 0, 0),
  (1, .iconst (-1), 1, 0, 0, -1),
  (2, .if_icmp .ne (17), 3, 19, 0, 0),
  (5, .iload_n 2, 1, 0, 0, 0),
  (6, .aload_n 0, 1, 0, 0, 0),
  (7, .getfield 27, 3, 6, 0, 0),
  (10, .getfield 114, 3, 1, 13, 0),
  (13, .invokestatic 117, 3, 264, 2, 0),
  (16, .goto (4), 3, 20, 0, 0),
  (19, .iload_n 2, 1, 0, 0, 0),
  (20, .ireturn, 1, 0, 0, 0)]
def a_c135 : List (Nat × a_Rw) := [
  (0, .iconst (0), 1, 0, 0, 0),
  (1, .istore_n 1, 1, 0, 0, 0),
  (2, .iload_n 1, 1, 0, 0, 0),
  (3, .aload_n 0, 1, 0, 0, 0),
  (4, .getfield 27, 3, 6, 0, 0),
  (7, .getfield 63, 3, 1, 0, 0),
  (10, .if_icmp .ge (45), 3, 55, 0, 0),
  (13, .aload_n 0, 1, 0, 0, 0),
  (14, .getfield 27, 3, 6, 0, 0),
  (17, .aload_n 0, 1, 0, 0, 0),
  (18, .getfield 35, 3, 6, 2, 0),
  (21, .aload_n 0, 1, 0, 0, 0),
  (22, .getfield 57, 3, 6, 7, 0),
  (25, .iaload, 1, 0, 0, 0),
  (26, .invokevirtual 81, 3, 94, 2, 0),
  (29, .aload_n 0, 1, 0, 0, 0),
  (30, .getfield 27, 3, 6, 0, 0),
  (33, .iload_n 1, 1, 0, 0, 0),
  (34, .invokevirtual 91, 3, 67, 2, 0),
  (37, .ifCond .lt (12), 3, 49, 0, 0),
  (40, .aload_n 0, 1, 0, 0, 0),
  (41, .sipush (400), 3, 0, 0, 400),
  (44, .iload_n 1, 1, 0, 0, 0),
  (45, .iadd, 1, 0, 0, 0),
  (46, .invokevirtual 77, 3, 129, 2, 0),
  (49, .iinc 1 (1), 3, 0, 0, 1),
  (52, .goto (-50), 3, 2, 0, 0),
  (55, .return_, 1, 0, 0, 0)]
def a_c136 : List (Nat × a_Rw) := [
  (0, .iconst (0), 1, 0, 0, 0),
  (1, .istore_n 1, 1, 0, 0, 0),
  (2, .iload_n 1, 1, 0, 0, 0),
  (3, .aload_n 0, 1, 0, 0, 0),
  (4, .getfield 27, 3, 6, 0, 0),
  (7, .getfield 63, 3, 1, 0, 0),
  (10, .if_icmp .ge (78), 3, 88, 0, 0),
  (13, .iconst (4), 1, 0, 0, 4),
  (14, .istore_n 2, 1, 0, 0, 0),
  (15, .iconst (-1), 1, 0, 0, -1),
  (16, .istore_n 3, 1, 0, 0, 0),
  (17, .iload_n 3, 1, 0, 0, 0),
  (18, .iload_n 2, 1, 0, 0, 0),
  (19, .if_icmp .gt (63), 3, 82, 0, 0),
  (22, .aload_n 0, 1, 0, 0, 0),
  (23, .getfield 27, 3, 6, 0, 0),
  (26, .aload_n 0, 1, 0, 0, 0),
  (27, .getfield 35, 3, 6, 2, 0),
  (30, .aload_n 0, 1, 0, 0, 0),
  (31, .getfield 57, 3, 6, 7, 0),
  (34, .iaload, 1, 0, 0, 0),
  (35, .invokevirtual 81, 3, 94, 2, 0),
  (38, .aload_n 0, 1, 0, 0, 0),
  (39, .getfield 27, 3, 6, 0, 0),
  (42, .iload_n 1, 1, 0, 0, 0),
  (43, .iload_n 3, 1, 0, 0, 0),
  (44, .invokevirtual 95, 3, 72, 3, 0),
  (47, .ifCond .ge (6), 3, 53, 0, 0),
  (50, .goto (32), 3, 82, 0, 0),
  (53, .aload_n 0, 1, 0, 0, 0),
  (54, .sipush (500), 3, 0, 0, 500),
  (57, .bipush (10), 2, 0, 0, 10),
  (59, .iload_n 1, 1, 0, 0, 0),
  (60, .imul, 1, 0, 0, 0),
  (61, .iadd, 1, 0, 0, 0),
  (62, .iload_n 3, 1, 0, 0, 0),
  (63, .iadd, 1, 0, 0, 0),
  (64, .iconst (1), 1, 0, 0, 1),
  (65, .iadd, 1, 0, 0, 0),
  (66, .invokevirtual 77, 3, 129, 2, 0),
  (69, .aload_n 0, 1, 0, 0, 0),
  (70, .iload_n 3, 1, 0, 0, 0),
  (71, .iload_n 2, 1, 0, 0, 0),
  (72, .invokevirtual 88, 3, 134, 3, 0),
  (75, .istore_n 2, 1, 0, 0, 0),
  (76, .iinc 3 (1), 3, 0, 0, 1),
  (79, .goto (-62), 3, 17, 0, 0),
  (82, .iinc 1 (1), 3, 0, 0, 1),
  (85, .goto (-83), 3, 2, 0, 0),
  (88, .return_, 1, 0, 0, 0)]
def a_c137 : List (Nat × a_Rw) := [
  (0, .iconst (0), 1, 0, 0, 0),
  (1, .istore_n 1, 1, 0, 0, 0),
  (2, .iload_n 1, 1, 0, 0, 0),
  (3, .aload_n 0, 1, 0, 0, 0),
  (4, .getfield 27, 3, 6, 0, 0),
  (7, .invokevirtual 98, 3, 47, 1, 0),
  (10, .if_icmp .gt (67), 3, 77, 0, 0),
  (13, .aload_n 0, 1, 0, 0, 0),
  (14, .getfield 27, 3, 6, 0, 0),
  (17, .aload_n 0, 1, 0, 0, 0),
  (18, .getfield 35, 3, 6, 2, 0),
  (21, .aload_n 0, 1, 0, 0, 0),
  (22, .getfield 57, 3, 6, 7, 0),
  (25, .iaload, 1, 0, 0, 0),
  (26, .invokevirtual 81, 3, 94, 2, 0),
  (29, .iconst (1), 1, 0, 0, 1),
  (30, .istore_n 2, 1, 0, 0, 0),
  (31, .iload_n 2, 1, 0, 0, 0),
  (32, .aload_n 0, 1, 0, 0, 0),
  (33, .getfield 27, 3, 6, 0, 0),
  (36, .getfield 63, 3, 1, 0, 0),
  (39, .if_icmp .ge (23), 3, 62, 0, 0),
  (42, .aload_n 0, 1, 0, 0, 0),
  (43, .getfield 27, 3, 6, 0, 0),
  (46, .getfield 102, 3, 1, 7, 0),
  (49, .iload_n 2, 1, 0, 0, 0),
  (50, .iload_n 1, 1, 0, 0, 0),
  (51, .iload_n 2, 1, 0, 0, 0),
  (52, .ishr, 1, 0, 0, 0),
  (53, .iconst (1), 1, 0, 0, 1),
  (54, .iand, 1, 0, 0, 0),
  (55, .iastore, 1, 0, 0, 0),
  (56, .iinc 2 (1), 3, 0, 0, 1),
  (59, .goto (-28), 3, 31, 0, 0),
  (62, .aload_n 0, 1, 0, 0, 0),
  (63, .sipush (600), 3, 0, 0, 600),
  (66, .iload_n 1, 1, 0, 0, 0),
  (67, .iadd, 1, 0, 0, 0),
  (68, .invokevirtual 77, 3, 129, 2, 0),
  (71, .iinc 1 (2), 3, 0, 0, 2),
  (74, .goto (-72), 3, 2, 0, 0),
  (77, .return_, 1, 0, 0, 0)]
def a_c138 : List (Nat × a_Rw) := [
  (0, .aload_n 0, 1, 0, 0, 0),
  (1, .invokespecial 3, 3, 1000, 1, 0),
  (4, .aload_n 0, 1, 0, 0, 0),
  (5, .iconst (-1), 1, 0, 0, -1),
  (6, .putfield 9, 3, 7, 0, 0),
  (9, .aload_n 0, 1, 0, 0, 0),
  (10, .sipush (1728), 3, 0, 0, 1728),
  (13, .newarray .int, 2, 0, 0, 0),
  (15, .putfield 15, 3, 7, 1, 0),
  (18, .aload_n 0, 1, 0, 0, 0),
  (19, .bipush (6), 2, 0, 0, 6),
  (21, .newarray .int, 2, 0, 0, 0),
  (23, .putfield 19, 3, 7, 2, 0),
  (26, .aload_n 0, 1, 0, 0, 0),
  (27, .bipush (64), 2, 0, 0, 64),
  (29, .newarray .int, 2, 0, 0, 0),
  (31, .putfield 22, 3, 7, 3, 0),
  (34, .return_, 1, 0, 0, 0)]
def a_c139 : List (Nat × a_Rw) := [
  (0, .aload_n 0, 1, 0, 0, 0),
  (1, .getfield 15, 3, 7, 1, 0),
  (4, .iconst (-1), 1, 0, 0, -1),
  (5, .invokestatic 25, 3, 263, 2, 0),
  (8, .aload_n 0, 1, 0, 0, 0),
  (9, .getfield 19, 3, 7, 2, 0),
  (12, .iconst (0), 1, 0, 0, 0),
  (13, .invokestatic 25, 3, 263, 2, 0),
  (16, .aload_n 0, 1, 0, 0, 0),
  (17, .iconst (-1), 1, 0, 0, -1),
  (18, .putfield 31, 3, 7, 4, 0),
  (21, .aload_n 0, 1, 0, 0, 0),
  (22, .iconst (0), 1, 0, 0, 0),
  (23, .putfield 34, 3, 7, 5, 0),
  (26, .aload_n 0, 1, 0, 0, 0),
  (27, .iconst (0), 1, 0, 0, 0),
  (28, .putfield 37, 3, 7, 6, 0),
  (31, .aload_n 0, 1, 0, 0, 0),
  (32, .iconst (0), 1, 0, 0, 0),
  (33, .putfield 40, 3, 7, 7, 0),
  (36, .return_, 1, 0, 0, 0)]
def a_c140 : List (Nat × a_Rw) := [
  (0, .aload_n 0, 1, 0, 0, 0),
  (1, .getfield 15, 3, 7, 1, 0),
  (4, .iload_n 2, 1, 0, 0, 0),
  (5, .iload_n 3, 1, 0, 0, 0),
  (6, .iastore, 1, 0, 0, 0),
  (7, .aload_n 0, 1, 0, 0, 0),
  (8, .iload_n 3, 1, 0, 0, 0),
  (9, .putfield 40, 3, 7, 7, 0),
  (12, .aload_n 0, 1, 0, 0, 0),
  (13, .dup, 1, 0, 0, 0),
  (14, .getfield 34, 3, 7, 5, 0),
  (17, .iconst (1), 1, 0, 0, 1),
  (18, .iadd, 1, 0, 0, 0),
  (19, .putfield 34, 3, 7, 5, 0),
  (22, .iconst (0), 1, 0, 0, 0),
  (23, .istore 4, 2, 0, 0, 0),
  (25, .iload 4, 2, 0, 0, 0),
  (27, .aload_n 1, 1, 0, 0, 0),
  (28, .getfield 43, 3, 1, 0, 0),
  (31, .if_icmp .ge (43), 3, 74, 0, 0),
  (34, .aload_n 1, 1, 0, 0, 0),
  (35, .invokevirtual 48, 3, 47, 1, 0),
  (38, .iconst (1), 1, 0, 0, 1),
  (39, .iload 4, 2, 0, 0, 0),
  (41, .ishl, 1, 0, 0, 0),
  (42, .iconst (-1), 1, 0, 0, -1),
  (43, .ixor, 1, 0, 0, 0),
  (44, .iand, 1, 0, 0, 0),
  (45, .istore 5, 2, 0, 0, 0),
  (47, .aload_n 0, 1, 0, 0, 0),
  (48, .getfield 19, 3, 7, 2, 0),
  (51, .aload_n 1, 1, 0, 0, 0),
  (52, .getfield 52, 3, 1, 5, 0),
  (55, .iload 4, 2, 0, 0, 0),
  (57, .iaload, 1, 0, 0, 0),
  (58, .dup2, 1, 0, 0, 0),
  (59, .iaload, 1, 0, 0, 0),
  (60, .aload_n 1, 1, 0, 0, 0),
  (61, .iload 5, 2, 0, 0, 0),
  (63, .invokevirtual 55, 3, 55, 2, 0),
  (66, .ior, 1, 0, 0, 0),
  (67, .iastore, 1, 0, 0, 0),
  (68, .iinc 4 (1), 3, 0, 0, 1),
  (71, .goto (-46), 3, 25, 0, 0),
  (74, .aload_n 0, 1, 0, 0, 0),
  (75, .aload_n 1, 1, 0, 0, 0),
  (76, .invokevirtual 59, 3, 141, 2, 0),
  (79, .ifCond .eq (13), 3, 92, 0, 0),
  (82, .aload_n 0, 1, 0, 0, 0),
  (83, .dup, 1, 0, 0, 0),
  (84, .getfield 37, 3, 7, 6, 0),
  (87, .iconst (1), 1, 0, 0, 1),
  (88, .iadd, 1, 0, 0, 0),
  (89, .putfield 37, 3, 7, 6, 0),
  (92, .return_, 1, 0, 0, 0)]
def a_c141 : List (Nat × a_Rw) := [
  (0, .aload_n 1, 1, 0, 0, 0),
  (1, .aload_n 1, 1, 0, 0, 0),
  (2, .invokevirtual 48, 3, 47, 1, 0),
  (5, .invokevirtual 55, 3, 55, 2, 0),
  (8, .bipush (48), 2, 0, 0, 48),
  (10, .iand, 1, 0, 0, 0),
  (11, .bipush (48), 2, 0, 0, 48),
  (13, .if_icmp .ne (7), 3, 20, 0, 0),
  (16, .iconst (1), 1, 0, 0, 1),
  (17, .goto (4), 3, 21, 0, 0),
  (20, .iconst (0), 1, 0, 0, 0),
  (21, .ireturn, 1, 0, 0, 0)]
def a_c142 : List (Nat × a_Rw) := [
  (0, .iload_n 1, 1, 0, 0, 0),
  (1, .ifCond .lt (19), 3, 20, 0, 0),
  (4, .iload_n 1, 1, 0, 0, 0),
  (5, .sipush (1728), 3, 0, 0, 1728),
  (8, .if_icmp .ge (12), 3, 20, 0, 0),
  (11, .aload_n 0, 1, 0, 0, 0),
  (12, .getfield 15, 3, 7, 1, 0),
  (15, .iload_n 1, 1, 0, 0, 0),
  (16, .iaload, 1, 0, 0, 0),
  (17, .goto (4), 3, 21, 0, 0),
  (20, .iconst (-1), 1, 0, 0, -1),
  (21, .ireturn, 1, 0, 0, 0)]
def a_c143 : List (Nat × a_Rw) := [
  (0, .aload_n 0, 1, 0, 0, 0),
  (1, .invokespecial 7, 3, 1000, 1, 0),
  (4, .aload_n 0, 1, 0, 0, 0),
  (5, .sipush (648), 3, 0, 0, 648),
  (8, .newarray .int, 2, 0, 0, 0),
  (10, .putfield 13, 3, 8, 1, 0),
  (13, .aload_n 0, 1, 0, 0, 0),
  (14, .sipush (2160), 3, 0, 0, 2160),
  (17, .newarray .int, 2, 0, 0, 0),
  (19, .putfield 17, 3, 8, 2, 0),
  (22, .aload_n 0, 1, 0, 0, 0),
  (23, .sipush (216), 3, 0, 0, 216),
  (26, .newarray .int, 2, 0, 0, 0),
  (28, .putfield 20, 3, 8, 3, 0),
  (31, .aload_n 0, 1, 0, 0, 0),
  (32, .sipush (216), 3, 0, 0, 216),
  (35, .newarray .int, 2, 0, 0, 0),
  (37, .putfield 23, 3, 8, 4, 0),
  (40, .aload_n 0, 1, 0, 0, 0),
  (41, .iconst (2), 1, 0, 0, 2),
  (42, .newarray .boolean, 2, 2, 0, 0),
  (44, .putfield 26, 3, 8, 6, 0),
  (47, .aload_n 0, 1, 0, 0, 0),
  (48, .sipush (27648), 3, 0, 0, 27648),
  (51, .newarray .int, 2, 0, 0, 0),
  (53, .putfield 30, 3, 8, 11, 0),
  (56, .aload_n 0, 1, 0, 0, 0),
  (57, .sipush (27648), 3, 0, 0, 27648),
  (60, .newarray .int, 2, 0, 0, 0),
  (62, .putfield 33, 3, 8, 12, 0),
  (65, .aload_n 0, 1, 0, 0, 0),
  (66, .sipush (27648), 3, 0, 0, 27648),
  (69, .newarray .int, 2, 0, 0, 0),
  (71, .putfield 36, 3, 8, 13, 0),
  (74, .aload_n 0, 1, 0, 0, 0),
  (75, .sipush (27648), 3, 0, 0, 27648),
  (78, .newarray .int, 2, 0, 0, 0),
  (80, .putfield 39, 3, 8, 14, 0),
  (83, .aload_n 0, 1, 0, 0, 0),
  (84, .sipush (1728), 3, 0, 0, 1728),
  (87, .newarray .int, 2, 0, 0, 0),
  (89, .putfield 42, 3, 8, 15, 0),
  (92, .aload_n 0, 1, 0, 0, 0),
  (93, .sipush (200), 3, 0, 0, 200),
  (96, .newarray .int, 2, 0, 0, 0),
  (98, .putfield 45, 3, 8, 17, 0),
  (101, .aload_n 0, 1, 0, 0, 0),
  (102, .iconst (-1), 1, 0, 0, -1),
  (103, .putfield 48, 3, 8, 22, 0),
  (106, .aload_n 0, 1, 0, 0, 0),
  (107, .bipush (12), 2, 0, 0, 12),
  (109, .newarray .int, 2, 0, 0, 0),
  (111, .putfield 51, 3, 8, 24, 0),
  (114, .aload_n 0, 1, 0, 0, 0),
  (115, .bipush (12), 2, 0, 0, 12),
  (117, .newarray .int, 2, 0, 0, 0),
  (119, .putfield 54, 3, 8, 25, 0),
  (122, .aload_n 0, 1, 0, 0, 0),
  (123, .bipush (12), 2, 0, 0, 12),
  (125, .newarray .int, 2, 0, 0, 0),
  (127, .putfield 57, 3, 8, 26, 0),
  (130, .aload_n 0, 1, 0, 0, 0),
  (131, .iconst (3), 1, 0, 0, 3),
  (132, .iconst (0), 1, 0, 0, 0),
  (133, .invokevirtual 60, 3, 144, 3, 0),
  (136, .return_, 1, 0, 0, 0)]
def a_c144 : List (Nat × a_Rw) := [
  (0, .iconst (0), 1, 0, 0, 0),
  (1, .istore_n 3, 1, 0, 0, 0),
  (2, .iload_n 3, 1, 0, 0, 0),
  (3, .sipush (216), 3, 0, 0, 216),
  (6, .if_icmp .ge (16), 3, 22, 0, 0),
  (9, .aload_n 0, 1, 0, 0, 0),
  (10, .getfield 13, 3, 8, 1, 0),
  (13, .iload_n 3, 1, 0, 0, 0),
  (14, .iconst (0), 1, 0, 0, 0),
  (15, .iastore, 1, 0, 0, 0),
  (16, .iinc 3 (1), 3, 0, 0, 1),
  (19, .goto (-17), 3, 2, 0, 0),
  (22, .aload_n 0, 1, 0, 0, 0),
  (23, .getfield 13, 3, 8, 1, 0),
  (26, .iconst (0), 1, 0, 0, 0),
  (27, .iload_n 1, 1, 0, 0, 0),
  (28, .iastore, 1, 0, 0, 0),
  (29, .aload_n 0, 1, 0, 0, 0),
  (30, .getfield 13, 3, 8, 1, 0),
  (33, .iconst (1), 1, 0, 0, 1),
  (34, .iload_n 2, 1, 0, 0, 0),
  (35, .iastore, 1, 0, 0, 0),
  (36, .aload_n 0, 1, 0, 0, 0),
  (37, .getfield 13, 3, 8, 1, 0),
  (40, .iconst (3), 1, 0, 0, 3),
  (41, .iload_n 1, 1, 0, 0, 0),
  (42, .iconst (2), 1, 0, 0, 2),
  (43, .idiv, 1, 0, 0, 0),
  (44, .iconst (1), 1, 0, 0, 1),
  (45, .iadd, 1, 0, 0, 0),
  (46, .iastore, 1, 0, 0, 0),
  (47, .aload_n 0, 1, 0, 0, 0),
  (48, .getfield 13, 3, 8, 1, 0),
  (51, .iconst (4), 1, 0, 0, 4),
  (52, .iload_n 1, 1, 0, 0, 0),
  (53, .iconst (2), 1, 0, 0, 2),
  (54, .idiv, 1, 0, 0, 0),
  (55, .iconst (1), 1, 0, 0, 1),
  (56, .iadd, 1, 0, 0, 0),
  (57, .iastore, 1, 0, 0, 0),
  (58, .iconst (0), 1, 0, 0, 0),
  (59, .istore_n 3, 1, 0, 0, 0),
  (60, .iload_n 3, 1, 0, 0, 0),
  (61, .iload_n 1, 1, 0, 0, 0),
  (62, .if_icmp .ge (41), 3, 103, 0, 0),
  (65, .aload_n 0, 1, 0, 0, 0),
  (66, .iload_n 3, 1, 0, 0, 0),
  (67, .iconst (1), 1, 0, 0, 1),
  (68, .iconst (1), 1, 0, 0, 1),
  (69, .invokevirtual 64, 3, 145, 4, 0),
  (72, .aload_n 0, 1, 0, 0, 0),
  (73, .iload_n 3, 1, 0, 0, 0),
  (74, .iconst (3), 1, 0, 0, 3),
  (75, .iconst (1), 1, 0, 0, 1),
  (76, .invokevirtual 64, 3, 145, 4, 0),
  (79, .aload_n 0, 1, 0, 0, 0),
  (80, .iload_n 3, 1, 0, 0, 0),
  (81, .iconst (4), 1, 0, 0, 4),
  (82, .iconst (1), 1, 0, 0, 1),
  (83, .invokevirtual 64, 3, 145, 4, 0),
  (86, .aload_n 0, 1, 0, 0, 0),
  (87, .iload_n 3, 1, 0, 0, 0),
  (88, .iconst (5), 1, 0, 0, 5),
  (89, .iconst (1), 1, 0, 0, 1),
  (90, .iload_n 1, 1, 0, 0, 0),
  (91, .ishl, 1, 0, 0, 0),
  (92, .iconst (1), 1, 0, 0, 1),
  (93, .isub, 1, 0, 0, 0),
  (94, .invokevirtual 64, 3, 145, 4, 0),
  (97, .iinc 3 (1), 3, 0, 0, 1),
  (100, .goto (-40), 3, 60, 0, 0),
  (103, .return_, 1, 0, 0, 0)]
def a_c145 : List (Nat × a_Rw) := [
  (0, .aload_n 0, 1, 0, 0, 0),
  (1, .getfield 13, 3, 8, 1, 0),
  (4, .iconst (5), 1, 0, 0, 5),
  (5, .bipush (6), 2, 0, 0, 6),
  (7, .iload_n 1, 1, 0, 0, 0),
  (8, .imul, 1, 0, 0, 0),
  (9, .iadd, 1, 0, 0, 0),
  (10, .iload_n 2, 1, 0, 0, 0),
  (11, .iadd, 1, 0, 0, 0),
  (12, .iload_n 3, 1, 0, 0, 0),
  (13, .iastore, 1, 0, 0, 0),
  (14, .return_, 1, 0, 0, 0)]
def a_c146 : List (Nat × a_Rw) := [
  (0, .aload_n 0, 1, 0, 0, 0),
  (1, .iconst (0), 1, 0, 0, 0),
  (2, .putfield 1, 3, 8, 0, 0),
  (5, .iload_n 1, 1, 0, 0, 0),
  (6, .i2l, 1, 0, 0, 0),
  (7, .ldc2_w 178, 3, 0, 0, 2),
  (10, .ldc2_w 180, 3, 0, 0, 5),
  (13, .invokestatic 68, 3, 147, 3, 0),
  (16, .ifCond .eq (13), 3, 29, 0, 0),
  (19, .iload_n 2, 1, 0, 0, 0),
  (20, .i2l, 1, 0, 0, 0),
  (21, .lconst 0, 1, 0, 0, 0),
  (22, .lconst 1, 1, 0, 0, 1),
  (23, .invokestatic 68, 3, 147, 3, 0),
  (26, .ifCond .ne (6), 3, 32, 0, 0),
  (29, .bipush (-3), 2, 0, 0, -3),
  (31, .ireturn, 1, 0, 0, 0),
  (32, .aload_n 0, 1, 0, 0, 0),
  (33, .invokevirtual 182, 3, 148, 1, 0),
  (36, .aload_n 0, 1, 0, 0, 0),
  (37, .iload_n 1, 1, 0, 0, 0),
  (38, .iload_n 2, 1, 0, 0, 0),
  (39, .invokevirtual 60, 3, 144, 3, 0),
  (42, .aload_n 0, 1, 0, 0, 0),
  (43, .iload_n 1, 1, 0, 0, 0),
  (44, .invokevirtual 185, 3, 150, 2, 0),
  (47, .ireturn, 1, 0, 0, 0)]
def a_c147 : List (Nat × a_Rw) := [
  (0, .lload_n 0, 1, 0, 0, 0),
  (1, .lload_n 2, 1, 0, 0, 0),
  (2, .lcmp, 1, 0, 0, 0),
  (3, .ifCond .lt (14), 3, 17, 0, 0),
  (6, .lload_n 0, 1, 0, 0, 0),
  (7, .lload 4, 2, 0, 0, 0),
  (9, .lcmp, 1, 0, 0, 0),
  (10, .ifCond .gt (7), 3, 17, 0, 0),
  (13, .iconst (1), 1, 0, 0, 1),
  (14, .goto (4), 3, 18, 0, 0),
  (17, .iconst (0), 1, 0, 0, 0),
  (18, .ireturn, 1, 0, 0, 0)]
def a_c148 : List (Nat × a_Rw) := [
  (0, .aload_n 0, 1, 0, 0, 0),
  (1, .getfield 13, 3, 8, 1, 0),
  (4, .iconst (0), 1, 0, 0, 0),
  (5, .aload_n 0, 1, 0, 0, 0),
  (6, .getfield 23, 3, 8, 4, 0),
  (9, .iconst (0), 1, 0, 0, 0),
  (10, .invokestatic 87, 3, 149, 4, 0),
  (13, .return_, 1, 0, 0, 0)]
def a_c149 : List (Nat × a_Rw) := [
  (0, .iconst (0), 1, 0, 0, 0),
  (1, .istore 4, 2, 0, 0, 0),
  (3, .iload 4, 2, 0, 0, 0),
  (5, .sipush (216), 3, 0, 0, 216),
  (8, .if_icmp .ge (21), 3, 29, 0, 0),
  (11, .aload_n 2, 1, 0, 0, 0),
  (12, .iload_n 3, 1, 0, 0, 0),
  (13, .iload 4, 2, 0, 0, 0),
  (15, .iadd, 1, 0, 0, 0),
  (16, .aload_n 0, 1, 0, 0, 0),
  (17, .iload_n 1, 1, 0, 0, 0),
  (18, .iload 4, 2, 0, 0, 0),
  (20, .iadd, 1, 0, 0, 0),
  (21, .iaload, 1, 0, 0, 0),
  (22, .iastore, 1, 0, 0, 0),
  (23, .iinc 4 (1), 3, 0, 0, 1),
  (26, .goto (-23), 3, 3, 0, 0),
  (29, .return_, 1, 0, 0, 0)]
def a_c150 : List (Nat × a_Rw) := [
  (0, .iload_n 1, 1, 0, 0, 0),
  (1, .bipush (-2), 2, 0, 0, -2),
  (3, .if_icmp .le (7), 3, 10, 0, 0),
  (6, .aload_n 0, 1, 0, 0, 0),
  (7, .invokevirtual 94, 3, 151, 1, 0),
  (10, .iload_n 1, 1, 0, 0, 0),
  (11, .ireturn, 1, 0, 0, 0)]
def a_c151 : List (Nat × a_Rw) := [
  (0, .aload_n 0, 1, 0, 0, 0),
  (1, .getfield 91, 3, 8, 5, 0),
  (4, .bipush (10), 2, 0, 0, 10),
  (6, .if_icmp .ne (44), 3, 50, 0, 0),
  (9, .iconst (0), 1, 0, 0, 0),
  (10, .istore_n 1, 1, 0, 0, 0),
  (11, .iload_n 1, 1, 0, 0, 0),
  (12, .sipush (1944), 3, 0, 0, 1944),
  (15, .if_icmp .ge (25), 3, 40, 0, 0),
  (18, .aload_n 0, 1, 0, 0, 0),
  (19, .getfield 17, 3, 8, 2, 0),
  (22, .iload_n 1, 1, 0, 0, 0),
  (23, .aload_n 0, 1, 0, 0, 0),
  (24, .getfield 17, 3, 8, 2, 0),
  (27, .sipush (216), 3, 0, 0, 216),
  (30, .iload_n 1, 1, 0, 0, 0),
  (31, .iadd, 1, 0, 0, 0),
  (32, .iaload, 1, 0, 0, 0),
  (33, .iastore, 1, 0, 0, 0),
  (34, .iinc 1 (1), 3, 0, 0, 1),
  (37, .goto (-26), 3, 11, 0, 0),
  (40, .aload_n 0, 1, 0, 0, 0),
  (41, .dup, 1, 0, 0, 0),
  (42, .getfield 91, 3, 8, 5, 0),
  (45, .iconst (1), 1, 0, 0, 1),
  (46, .isub, 1, 0, 0, 0),
  (47, .putfield 91, 3, 8, 5, 0),
  (50, .aload_n 0, 1, 0, 0, 0),
  (51, .getfield 23, 3, 8, 4, 0),
  (54, .iconst (0), 1, 0, 0, 0),
  (55, .aload_n 0, 1, 0, 0, 0),
  (56, .getfield 17, 3, 8, 2, 0),
  (59, .sipush (216), 3, 0, 0, 216),
  (62, .aload_n 0, 1, 0, 0, 0),
  (63, .getfield 91, 3, 8, 5, 0),
  (66, .imul, 1, 0, 0, 0),
  (67, .invokestatic 87, 3, 149, 4, 0),
  (70, .aload_n 0, 1, 0, 0, 0),
  (71, .dup, 1, 0, 0, 0),
  (72, .getfield 91, 3, 8, 5, 0),
  (75, .iconst (1), 1, 0, 0, 1),
  (76, .iadd, 1, 0, 0, 0),
  (77, .putfield 91, 3, 8, 5, 0),
  (80, .return_, 1, 0, 0, 0)]
def a_c152 : List (Nat × a_Rw) := [
  (0, .aload_n 0, 1, 0, 0, 0),
  (1, .iconst (0), 1, 0, 0, 0),
  (2, .putfield 1, 3, 8, 0, 0),
  (5, .aload_n 0, 1, 0, 0, 0),
  (6, .invokevirtual 182, 3, 148, 1, 0),
  (9, .aload_n 0, 1, 0, 0, 0),
  (10, .aload_n 0, 1, 0, 0, 0),
  (11, .iload_n 1, 1, 0, 0, 0),
  (12, .iload_n 2, 1, 0, 0, 0),
  (13, .invokevirtual 188, 3, 153, 3, 0),
  (16, .invokevirtual 185, 3, 150, 2, 0),
  (19, .ireturn, 1, 0, 0, 0)]
def a_c153 : List (Nat × a_Rw) := [
  (0, .aload_n 0, 1, 0, 0, 0),
  (1, .iload_n 1, 1, 0, 0, 0),
  (2, .invokevirtual 157, 3, 154, 2, 0),
  (5, .ifCond .ne (6), 3, 11, 0, 0),
  (8, .bipush (-2), 2, 0, 0, -2),
  (10, .ireturn, 1, 0, 0, 0),
  (11, .iload_n 2, 1, 0, 0, 0),
  (12, .i2l, 1, 0, 0, 0),
  (13, .lconst 0, 1, 0, 0, 0),
  (14, .lconst 1, 1, 0, 0, 1),
  (15, .invokestatic 68, 3, 147, 3, 0),
  (18, .ifCond .ne (6), 3, 24, 0, 0),
  (21, .bipush (-3), 2, 0, 0, -3),
  (23, .ireturn, 1, 0, 0, 0),
  (24, .aload_n 0, 1, 0, 0, 0),
  (25, .iload_n 1, 1, 0, 0, 0),
  (26, .iconst (0), 1, 0, 0, 0),
  (27, .invokevirtual 72, 3, 155, 3, 0),
  (30, .ifCond .eq (6), 3, 36, 0, 0),
  (33, .bipush (-5), 2, 0, 0, -5),
  (35, .ireturn, 1, 0, 0, 0),
  (36, .aload_n 0, 1, 0, 0, 0),
  (37, .iload_n 1, 1, 0, 0, 0),
  (38, .iconst (3), 1, 0, 0, 3),
  (39, .invokevirtual 72, 3, 155, 3, 0),
  (42, .istore_n 3, 1, 0, 0, 0),
  (43, .aload_n 0, 1, 0, 0, 0),
  (44, .iload_n 1, 1, 0, 0, 0),
  (45, .iconst (3), 1, 0, 0, 3),
  (46, .iload_n 2, 1, 0, 0, 0),
  (47, .invokevirtual 64, 3, 145, 4, 0),
  (50, .iload_n 3, 1, 0, 0, 0),
  (51, .ireturn, 1, 0, 0, 0)]
def a_c154 : List (Nat × a_Rw) := [
  (0, .iload_n 1, 1, 0, 0, 0),
  (1, .i2l, 1, 0, 0, 0),
  (2, .lconst 0, 1, 0, 0, 0),
  (3, .aload_n 0, 1, 0, 0, 0),
  (4, .getfield 13, 3, 8, 1, 0),
  (7, .iconst (0), 1, 0, 0, 0),
  (8, .iaload, 1, 0, 0, 0),
  (9, .iconst (1), 1, 0, 0, 1),
  (10, .isub, 1, 0, 0, 0),
  (11, .i2l, 1, 0, 0, 0),
  (12, .invokestatic 68, 3, 147, 3, 0),
  (15, .ireturn, 1, 0, 0, 0)]
def a_c155 : List (Nat × a_Rw) := [
  (0, .aload_n 0, 1, 0, 0, 0),
  (1, .getfield 13, 3, 8, 1, 0),
  (4, .iconst (5), 1, 0, 0, 5),
  (5, .bipush (6), 2, 0, 0, 6),
  (7, .iload_n 1, 1, 0, 0, 0),
  (8, .imul, 1, 0, 0, 0),
  (9, .iadd, 1, 0, 0, 0),
  (10, .iload_n 2, 1, 0, 0, 0),
  (11, .iadd, 1, 0, 0, 0),
  (12, .iaload, 1, 0, 0, 0),
  (13, .ireturn, 1, 0, 0, 0)]
def a_c156 : List (Nat × a_Rw) := [
  (0, .aload_n 0, 1, 0, 0, 0),
  (1, .iconst (0), 1, 0, 0, 0),
  (2, .putfield 1, 3, 8, 0, 0),
  (5, .aload_n 0, 1, 0, 0, 0),
  (6, .iload_n 1, 1, 0, 0, 0),
  (7, .invokevirtual 157, 3, 154, 2, 0),
  (10, .ifCond .ne (6), 3, 16, 0, 0),
  (13, .bipush (-2), 2, 0, 0, -2),
  (15, .ireturn, 1, 0, 0, 0),
  (16, .iload_n 2, 1, 0, 0, 0),
  (17, .i2l, 1, 0, 0, 0),
  (18, .lconst 1, 1, 0, 0, 1),
  (19, .ldc2_w 191, 3, 0, 0, 3),
  (22, .invokestatic 68, 3, 147, 3, 0),
  (25, .ifCond .ne (6), 3, 31, 0, 0),
  (28, .bipush (-3), 2, 0, 0, -3),
  (30, .ireturn, 1, 0, 0, 0),
  (31, .aload_n 0, 1, 0, 0, 0),
  (32, .invokevirtual 193, 3, 157, 1, 0),
  (35, .ifCond .ne (6), 3, 41, 0, 0),
  (38, .bipush (-5), 2, 0, 0, -5),
  (40, .ireturn, 1, 0, 0, 0),
  (41, .aload_n 0, 1, 0, 0, 0),
  (42, .invokevirtual 182, 3, 148, 1, 0),
  (45, .aload_n 0, 1, 0, 0, 0),
  (46, .iload_n 1, 1, 0, 0, 0),
  (47, .iconst (4), 1, 0, 0, 4),
  (48, .invokevirtual 72, 3, 155, 3, 0),
  (51, .istore_n 3, 1, 0, 0, 0),
  (52, .aload_n 0, 1, 0, 0, 0),
  (53, .iload_n 1, 1, 0, 0, 0),
  (54, .iconst (4), 1, 0, 0, 4),
  (55, .iload_n 2, 1, 0, 0, 0),
  (56, .invokevirtual 64, 3, 145, 4, 0),
  (59, .aload_n 0, 1, 0, 0, 0),
  (60, .getfield 13, 3, 8, 1, 0),
  (63, .iconst (3), 1, 0, 0, 3),
  (64, .aload_n 0, 1, 0, 0, 0),
  (65, .aload_n 0, 1, 0, 0, 0),
  (66, .invokevirtual 142, 3, 159, 1, 0),
  (69, .invokevirtual 145, 3, 160, 2, 0),
  (72, .iconst (2), 1, 0, 0, 2),
  (73, .idiv, 1, 0, 0, 0),
  (74, .iconst (1), 1, 0, 0, 1),
  (75, .iadd, 1, 0, 0, 0),
  (76, .iastore, 1, 0, 0, 0),
  (77, .aload_n 0, 1, 0, 0, 0),
  (78, .getfield 13, 3, 8, 1, 0),
  (81, .iconst (4), 1, 0, 0, 4),
  (82, .aload_n 0, 1, 0, 0, 0),
  (83, .getfield 13, 3, 8, 1, 0),
  (86, .iconst (3), 1, 0, 0, 3),
  (87, .iaload, 1, 0, 0, 0),
  (88, .iastore, 1, 0, 0, 0),
  (89, .aload_n 0, 1, 0, 0, 0),
  (90, .iload_n 3, 1, 0, 0, 0),
  (91, .invokevirtual 185, 3, 150, 2, 0),
  (94, .ireturn, 1, 0, 0, 0)]
def a_c157 : List (Nat × a_Rw) := [
  (0, .aload_n 0, 1, 0, 0, 0),
  (1, .iconst (0), 1, 0, 0, 0),
  (2, .iconst (0), 1, 0, 0, 0),
  (3, .invokevirtual 76, 3, 158, 3, 0),
  (6, .aload_n 0, 1, 0, 0, 0),
  (7, .invokevirtual 142, 3, 159, 1, 0),
  (10, .if_icmp .ne (7), 3, 17, 0, 0),
  (13, .iconst (1), 1, 0, 0, 1),
  (14, .goto (4), 3, 18, 0, 0),
  (17, .iconst (0), 1, 0, 0, 0),
  (18, .ireturn, 1, 0, 0, 0)]
def a_c158 : List (Nat × a_Rw) := [
  (0, .iconst (0), 1, 0, 0, 0),
  (1, .istore_n 3, 1, 0, 0, 0),
  (2, .iconst (0), 1, 0, 0, 0),
  (3, .istore 4, 2, 0, 0, 0),
  (5, .iload 4, 2, 0, 0, 0),
  (7, .aload_n 0, 1, 0, 0, 0),
  (8, .getfield 13, 3, 8, 1, 0),
  (11, .iconst (0), 1, 0, 0, 0),
  (12, .iaload, 1, 0, 0, 0),
  (13, .if_icmp .ge (31), 3, 44, 0, 0),
  (16, .iload_n 3, 1, 0, 0, 0),
  (17, .aload_n 0, 1, 0, 0, 0),
  (18, .iload 4, 2, 0, 0, 0),
  (20, .iload_n 1, 1, 0, 0, 0),
  (21, .invokevirtual 72, 3, 155, 3, 0),
  (24, .iload_n 2, 1, 0, 0, 0),
  (25, .if_icmp .ne (10), 3, 35, 0, 0),
  (28, .iconst (1), 1, 0, 0, 1),
  (29, .iload 4, 2, 0, 0, 0),
  (31, .ishl, 1, 0, 0, 0),
  (32, .goto (4), 3, 36, 0, 0),
  (35, .iconst (0), 1, 0, 0, 0),
  (36, .ior, 1, 0, 0, 0),
  (37, .istore_n 3, 1, 0, 0, 0),
  (38, .iinc 4 (1), 3, 0, 0, 1),
  (41, .goto (-36), 3, 5, 0, 0),
  (44, .iload_n 3, 1, 0, 0, 0),
  (45, .ireturn, 1, 0, 0, 0)]
def a_c159 : List (Nat × a_Rw) := [
  (0, .iconst (1), 1, 0, 0, 1),
  (1, .aload_n 0, 1, 0, 0, 0),
  (2, .getfield 13, 3, 8, 1, 0),
  (5, .iconst (0), 1, 0, 0, 0),
  (6, .iaload, 1, 0, 0, 0),
  (7, .ishl, 1, 0, 0, 0),
  (8, .iconst (1), 1, 0, 0, 1),
  (9, .isub, 1, 0, 0, 0),
  (10, .ireturn, 1, 0, 0, 0)]
def a_c160 : List (Nat × a_Rw) := [
  (0, .iconst (0), 1, 0, 0, 0),
  (1, .istore_n 2, 1, 0, 0, 0),
  (2, .iconst (0), 1, 0, 0, 0),
  (3, .istore_n 3, 1, 0, 0, 0),
  (4, .iload_n 3, 1, 0, 0, 0),
  (5, .aload_n 0, 1, 0, 0, 0),
  (6, .getfield 13, 3, 8, 1, 0),
  (9, .iconst (0), 1, 0, 0, 0),
  (10, .iaload, 1, 0, 0, 0),
  (11, .if_icmp .ge (30), 3, 41, 0, 0),
  (14, .iload_n 2, 1, 0, 0, 0),
  (15, .iload_n 1, 1, 0, 0, 0),
  (16, .iload_n 3, 1, 0, 0, 0),
  (17, .invokestatic 79, 3, 161, 2, 0),
  (20, .ifCond .eq (12), 3, 32, 0, 0),
  (23, .aload_n 0, 1, 0, 0, 0),
  (24, .iload_n 3, 1, 0, 0, 0),
  (25, .iconst (4), 1, 0, 0, 4),
  (26, .invokevirtual 72, 3, 155, 3, 0),
  (29, .goto (4), 3, 33, 0, 0),
  (32, .iconst (0), 1, 0, 0, 0),
  (33, .iadd, 1, 0, 0, 0),
  (34, .istore_n 2, 1, 0, 0, 0),
  (35, .iinc 3 (1), 3, 0, 0, 1),
  (38, .goto (-34), 3, 4, 0, 0),
  (41, .iload_n 2, 1, 0, 0, 0),
  (42, .ireturn, 1, 0, 0, 0)]
def a_c161 : List (Nat × a_Rw) := [
  (0, .iload_n 0, 1, 0, 0, 0),
  (1, .iload_n 1, 1, 0, 0, 0),
  (2, .ishr, 1, 0, 0, 0),
  (3, .iconst (1), 1, 0, 0, 1),
  (4, .iand, 1, 0, 0, 0),
  (5, .iconst (1), 1, 0, 0, 1),
  (6, .if_icmp .ne (7), 3, 13, 0, 0),
  (9, .iconst (1), 1, 0, 0, 1),
  (10, .goto (4), 3, 14, 0, 0),
  (13, .iconst (0), 1, 0, 0, 0),
  (14, .ireturn, 1, 0, 0, 0)]
def a_c162 : List (Nat × a_Rw) := [
  (0, .aload_n 0, 1, 0, 0, 0),
  (1, .iconst (0), 1, 0, 0, 0),
  (2, .putfield 1, 3, 8, 0, 0),
  (5, .aload_n 0, 1, 0, 0, 0),
  (6, .aload_n 0, 1, 0, 0, 0),
  (7, .invokevirtual 142, 3, 159, 1, 0),
  (10, .invokevirtual 145, 3, 160, 2, 0),
  (13, .istore_n 3, 1, 0, 0, 0),
  (14, .iload_n 1, 1, 0, 0, 0),
  (15, .i2l, 1, 0, 0, 0),
  (16, .lconst 1, 1, 0, 0, 1),
  (17, .ldc2_w 197, 3, 0, 0, 15),
  (20, .invokestatic 68, 3, 147, 3, 0),
  (23, .ifCond .eq (22), 3, 45, 0, 0),
  (26, .iload_n 2, 1, 0, 0, 0),
  (27, .i2l, 1, 0, 0, 0),
  (28, .lconst 1, 1, 0, 0, 1),
  (29, .ldc2_w 197, 3, 0, 0, 15),
  (32, .invokestatic 68, 3, 147, 3, 0),
  (35, .ifCond .eq (10), 3, 45, 0, 0),
  (38, .iload_n 1, 1, 0, 0, 0),
  (39, .iload_n 2, 1, 0, 0, 0),
  (40, .iadd, 1, 0, 0, 0),
  (41, .iload_n 3, 1, 0, 0, 0),
  (42, .if_icmp .gt (6), 3, 48, 0, 0),
  (45, .bipush (-3), 2, 0, 0, -3),
  (47, .ireturn, 1, 0, 0, 0),
  (48, .aload_n 0, 1, 0, 0, 0),
  (49, .invokevirtual 193, 3, 157, 1, 0),
  (52, .ifCond .ne (6), 3, 58, 0, 0),
  (55, .bipush (-5), 2, 0, 0, -5),
  (57, .ireturn, 1, 0, 0, 0),
  (58, .aload_n 0, 1, 0, 0, 0),
  (59, .invokevirtual 182, 3, 148, 1, 0),
  (62, .aload_n 0, 1, 0, 0, 0),
  (63, .getfield 13, 3, 8, 1, 0),
  (66, .iconst (3), 1, 0, 0, 3),
  (67, .iload_n 1, 1, 0, 0, 0),
  (68, .iastore, 1, 0, 0, 0),
  (69, .aload_n 0, 1, 0, 0, 0),
  (70, .getfield 13, 3, 8, 1, 0),
  (73, .iconst (4), 1, 0, 0, 4),
  (74, .iload_n 2, 1, 0, 0, 0),
  (75, .iastore, 1, 0, 0, 0),
  (76, .aload_n 0, 1, 0, 0, 0),
  (77, .iload_n 3, 1, 0, 0, 0),
  (78, .invokevirtual 185, 3, 150, 2, 0),
  (81, .ireturn, 1, 0, 0, 0)]
def a_c163 : List (Nat × a_Rw) := [
  (0, .aload_n 0, 1, 0, 0, 0),
  (1, .iconst (0), 1, 0, 0, 0),
  (2, .putfield 1, 3, 8, 0, 0),
  (5, .aload_n 0, 1, 0, 0, 0),
  (6, .invokevirtual 182, 3, 148, 1, 0),
  (9, .aload_n 0, 1, 0, 0, 0),
  (10, .aload_n 0, 1, 0, 0, 0),
  (11, .iload_n 1, 1, 0, 0, 0),
  (12, .invokevirtual 199, 3, 164, 2, 0),
  (15, .invokevirtual 185, 3, 150, 2, 0),
  (18, .ireturn, 1, 0, 0, 0)]
def a_c164 : List (Nat × a_Rw) := [
  (0, .iload_n 1, 1, 0, 0, 0),
  (1, .invokestatic 133, 3, 165, 1, 0),
  (4, .ifCond .ne (6), 3, 10, 0, 0),
  (7, .bipush (-3), 2, 0, 0, -3),
  (9, .ireturn, 1, 0, 0, 0),
  (10, .aload_n 0, 1, 0, 0, 0),
  (11, .getfield 13, 3, 8, 1, 0),
  (14, .iconst (2), 1, 0, 0, 2),
  (15, .iaload, 1, 0, 0, 0),
  (16, .ifCond .ne (22), 3, 38, 0, 0),
  (19, .aload_n 0, 1, 0, 0, 0),
  (20, .iconst (0), 1, 0, 0, 0),
  (21, .iconst (1), 1, 0, 0, 1),
  (22, .invokevirtual 72, 3, 155, 3, 0),
  (25, .iconst (1), 1, 0, 0, 1),
  (26, .if_icmp .ne (12), 3, 38, 0, 0),
  (29, .aload_n 0, 1, 0, 0, 0),
  (30, .iconst (0), 1, 0, 0, 0),
  (31, .iconst (0), 1, 0, 0, 0),
  (32, .invokevirtual 72, 3, 155, 3, 0),
  (35, .ifCond .eq (6), 3, 41, 0, 0),
  (38, .bipush (-5), 2, 0, 0, -5),
  (40, .ireturn, 1, 0, 0, 0),
  (41, .aload_n 0, 1, 0, 0, 0),
  (42, .iload_n 1, 1, 0, 0, 0),
  (43, .invokevirtual 136, 3, 166, 2, 0),
  (46, .aload_n 0, 1, 0, 0, 0),
  (47, .iconst (0), 1, 0, 0, 0),
  (48, .iconst (3), 1, 0, 0, 3),
  (49, .invokevirtual 72, 3, 155, 3, 0),
  (52, .ifCond .ne (14), 3, 66, 0, 0),
  (55, .aload_n 0, 1, 0, 0, 0),
  (56, .invokevirtual 139, 3, 167, 1, 0),
  (59, .aload_n 0, 1, 0, 0, 0),
  (60, .getfield 13, 3, 8, 1, 0),
  (63, .iconst (2), 1, 0, 0, 2),
  (64, .iaload, 1, 0, 0, 0),
  (65, .ireturn, 1, 0, 0, 0),
  (66, .aload_n 0, 1, 0, 0, 0),
  (67, .iconst (0), 1, 0, 0, 0),
  (68, .iconst (1), 1, 0, 0, 1),
  (69, .invokevirtual 123, 3, 168, 3, 0),
  (72, .iconst (1), 1, 0, 0, 1),
  (73, .istore_n 2, 1, 0, 0, 0),
  (74, .iconst (1), 1, 0, 0, 1),
  (75, .istore_n 3, 1, 0, 0, 0),
  (76, .iload_n 3, 1, 0, 0, 0),
  (77, .aload_n 0, 1, 0, 0, 0),
  (78, .getfield 13, 3, 8, 1, 0),
  (81, .iconst (0), 1, 0, 0, 0),
  (82, .iaload, 1, 0, 0, 0),
  (83, .if_icmp .ge (70), 3, 153, 0, 0),
  (86, .aload_n 0, 1, 0, 0, 0),
  (87, .iconst (0), 1, 0, 0, 0),
  (88, .iload_n 3, 1, 0, 0, 0),
  (89, .invokevirtual 126, 3, 169, 3, 0),
  (92, .ifCond .eq (55), 3, 147, 0, 0),
  (95, .aload_n 0, 1, 0, 0, 0),
  (96, .iload_n 3, 1, 0, 0, 0),
  (97, .iconst (0), 1, 0, 0, 0),
  (98, .invokevirtual 72, 3, 155, 3, 0),
  (101, .ifCond .eq (6), 3, 107, 0, 0),
  (104, .goto (43), 3, 147, 0, 0),
  (107, .aload_n 0, 1, 0, 0, 0),
  (108, .iload_n 3, 1, 0, 0, 0),
  (109, .aload_n 0, 1, 0, 0, 0),
  (110, .iload_n 3, 1, 0, 0, 0),
  (111, .iconst (3), 1, 0, 0, 3),
  (112, .invokevirtual 72, 3, 155, 3, 0),
  (115, .iconst (1), 1, 0, 0, 1),
  (116, .if_icmp .ne (7), 3, 123, 0, 0),
  (119, .iconst (1), 1, 0, 0, 1),
  (120, .goto (4), 3, 124, 0, 0),
  (123, .iconst (5), 1, 0, 0, 5),
  (124, .invokevirtual 123, 3, 168, 3, 0),
  (127, .iload_n 2, 1, 0, 0, 0),
  (128, .aload_n 0, 1, 0, 0, 0),
  (129, .iload_n 3, 1, 0, 0, 0),
  (130, .iconst (0), 1, 0, 0, 0),
  (131, .invokevirtual 72, 3, 155, 3, 0),
  (134, .iconst (1), 1, 0, 0, 1),
  (135, .if_icmp .ne (9), 3, 144, 0, 0),
  (138, .iconst (1), 1, 0, 0, 1),
  (139, .iload_n 3, 1, 0, 0, 0),
  (140, .ishl, 1, 0, 0, 0),
  (141, .goto (4), 3, 145, 0, 0),
  (144, .iconst (0), 1, 0, 0, 0),
  (145, .ior, 1, 0, 0, 0),
  (146, .istore_n 2, 1, 0, 0, 0),
  (147, .iinc 3 (1), 3, 0, 0, 1),
  (150, .goto (-74), 3, 76, 0, 0),
  (153, .aload_n 0, 1, 0, 0, 0),
  (154, .iconst (0), 1, 0, 0, 0),
  (155, .invokevirtual 120, 3, 170, 2, 0),
  (158, .aload_n 0, 1, 0, 0, 0),
  (159, .getfield 108, 3, 8, 9, 0),
  (162, .ifCond .eq (10), 3, 172, 0, 0),
  (165, .aload_n 0, 1, 0, 0, 0),
  (166, .getfield 13, 3, 8, 1, 0),
  (169, .iconst (2), 1, 0, 0, 2),
  (170, .iaload, 1, 0, 0, 0),
  (171, .ireturn, 1, 0, 0, 0),
  (172, .iload_n 2, 1, 0, 0, 0),
  (173, .aload_n 0, 1, 0, 0, 0),
  (174, .invokevirtual 142, 3, 159, 1, 0),
  (177, .if_icmp .ne (13), 3, 190, 0, 0),
  (180, .aload_n 0, 1, 0, 0, 0),
  (181, .getfield 13, 3, 8, 1, 0),
  (184, .iconst (2), 1, 0, 0, 2),
  (185, .iconst (1), 1, 0, 0, 1),
  (186, .iastore, 1, 0, 0, 0),
  (187, .goto (7), 3, 194, 0, 0),
  (190, .aload_n 0, 1, 0, 0, 0),
  (191, .invokevirtual 139, 3, 167, 1, 0),
  (194, .aload_n 0, 1, 0, 0, 0),
  (195, .getfield 13, 3, 8, 1, 0),
  (198, .iconst (2), 1, 0, 0, 2),
  (199, .iaload, 1, 0, 0, 0),
  (200, .ireturn, 1, 0, 0, 0)]
def a_c165 : List (Nat × a_Rw) := [
  (0, .iload_n 0, 1, 0, 0, 0),
  (1, .i2l, 1, 0, 0, 0),
  (2, .ldc2_w 112, 3, 0, 0, -1),
  (5, .ldc2_w 114, 3, 0, 0, 20),
  (8, .invokestatic 68, 3, 147, 3, 0),
  (11, .ireturn, 1, 0, 0, 0)]
def a_c166 : List (Nat × a_Rw) := [
  (0, .aload_n 0, 1, 0, 0, 0),
  (1, .iconst (0), 1, 0, 0, 0),
  (2, .putfield 101, 3, 8, 7, 0),
  (5, .aload_n 0, 1, 0, 0, 0),
  (6, .iload_n 1, 1, 0, 0, 0),
  (7, .iconst (-1), 1, 0, 0, -1),
  (8, .if_icmp .ne (8), 3, 16, 0, 0),
  (11, .ldc 104, 2, 0, 0, 1048576),
  (13, .goto (4), 3, 17, 0, 0),
  (16, .iload_n 1, 1, 0, 0, 0),
  (17, .putfield 105, 3, 8, 8, 0),
  (20, .aload_n 0, 1, 0, 0, 0),
  (21, .iconst (0), 1, 0, 0, 0),
  (22, .putfield 108, 3, 8, 9, 0),
  (25, .return_, 1, 0, 0, 0)]
def a_c167 : List (Nat × a_Rw) := [
  (0, .aload_n 0, 1, 0, 0, 0),
  (1, .iconst (0), 1, 0, 0, 0),
  (2, .iconst (5), 1, 0, 0, 5),
  (3, .invokevirtual 123, 3, 168, 3, 0),
  (6, .iconst (1), 1, 0, 0, 1),
  (7, .istore_n 1, 1, 0, 0, 0),
  (8, .iload_n 1, 1, 0, 0, 0),
  (9, .aload_n 0, 1, 0, 0, 0),
  (10, .getfield 13, 3, 8, 1, 0),
  (13, .iconst (0), 1, 0, 0, 0),
  (14, .iaload, 1, 0, 0, 0),
  (15, .if_icmp .ge (34), 3, 49, 0, 0),
  (18, .aload_n 0, 1, 0, 0, 0),
  (19, .iconst (0), 1, 0, 0, 0),
  (20, .iload_n 1, 1, 0, 0, 0),
  (21, .invokevirtual 126, 3, 169, 3, 0),
  (24, .ifCond .eq (19), 3, 43, 0, 0),
  (27, .aload_n 0, 1, 0, 0, 0),
  (28, .iconst (1), 1, 0, 0, 1),
  (29, .iload_n 1, 1, 0, 0, 0),
  (30, .ishl, 1, 0, 0, 0),
  (31, .invokevirtual 129, 3, 173, 2, 0),
  (34, .ifCond .ne (9), 3, 43, 0, 0),
  (37, .aload_n 0, 1, 0, 0, 0),
  (38, .iload_n 1, 1, 0, 0, 0),
  (39, .iconst (5), 1, 0, 0, 5),
  (40, .invokevirtual 123, 3, 168, 3, 0),
  (43, .iinc 1 (1), 3, 0, 0, 1),
  (46, .goto (-38), 3, 8, 0, 0),
  (49, .aload_n 0, 1, 0, 0, 0),
  (50, .iconst (0), 1, 0, 0, 0),
  (51, .invokevirtual 120, 3, 170, 2, 0),
  (54, .aload_n 0, 1, 0, 0, 0),
  (55, .getfield 13, 3, 8, 1, 0),
  (58, .iconst (2), 1, 0, 0, 2),
  (59, .iconst (3), 1, 0, 0, 3),
  (60, .iastore, 1, 0, 0, 0),
  (61, .return_, 1, 0, 0, 0)]
def a_c168 : List (Nat × a_Rw) := [
  (0, .aload_n 0, 1, 0, 0, 0),
  (1, .iload_n 1, 1, 0, 0, 0),
  (2, .iconst (0), 1, 0, 0, 0),
  (3, .invokevirtual 72, 3, 155, 3, 0),
  (6, .iload_n 2, 1, 0, 0, 0),
  (7, .if_icmp .ne (4), 3, 11, 0, 0),
  (10, .return_, 1, 0, 0, 0),
  (11, .aload_n 0, 1, 0, 0, 0),
  (12, .getfield 13, 3, 8, 1, 0),
  (15, .bipush (35), 2, 0, 0, 35),
  (17, .iaload, 1, 0, 0, 0),
  (18, .bipush (60), 2, 0, 0, 60),
  (20, .if_icmp .ne (47), 3, 67, 0, 0),
  (23, .iconst (0), 1, 0, 0, 0),
  (24, .istore_n 3, 1, 0, 0, 0),
  (25, .iload_n 3, 1, 0, 0, 0),
  (26, .sipush (177), 3, 0, 0, 177),
  (29, .if_icmp .ge (27), 3, 56, 0, 0),
  (32, .aload_n 0, 1, 0, 0, 0),
  (33, .getfield 13, 3, 8, 1, 0),
  (36, .bipush (36), 2, 0, 0, 36),
  (38, .iload_n 3, 1, 0, 0, 0),
  (39, .iadd, 1, 0, 0, 0),
  (40, .aload_n 0, 1, 0, 0, 0),
  (41, .getfield 13, 3, 8, 1, 0),
  (44, .bipush (39), 2, 0, 0, 39),
  (46, .iload_n 3, 1, 0, 0, 0),
  (47, .iadd, 1, 0, 0, 0),
  (48, .iaload, 1, 0, 0, 0),
  (49, .iastore, 1, 0, 0, 0),
  (50, .iinc 3 (1), 3, 0, 0, 1),
  (53, .goto (-28), 3, 25, 0, 0),
  (56, .aload_n 0, 1, 0, 0, 0),
  (57, .getfield 13, 3, 8, 1, 0),
  (60, .bipush (35), 2, 0, 0, 35),
  (62, .dup2, 1, 0, 0, 0),
  (63, .iaload, 1, 0, 0, 0),
  (64, .iconst (1), 1, 0, 0, 1),
  (65, .isub, 1, 0, 0, 0),
  (66, .iastore, 1, 0, 0, 0),
  (67, .bipush (36), 2, 0, 0, 36),
  (69, .iconst (3), 1, 0, 0, 3),
  (70, .aload_n 0, 1, 0, 0, 0),
  (71, .getfield 13, 3, 8, 1, 0),
  (74, .bipush (35), 2, 0, 0, 35),
  (76, .iaload, 1, 0, 0, 0),
  (77, .imul, 1, 0, 0, 0),
  (78, .iadd, 1, 0, 0, 0),
  (79, .istore_n 3, 1, 0, 0, 0),
  (80, .aload_n 0, 1, 0, 0, 0),
  (81, .getfield 13, 3, 8, 1, 0),
  (84, .iload_n 3, 1, 0, 0, 0),
  (85, .iload_n 1, 1, 0, 0, 0),
  (86, .iastore, 1, 0, 0, 0),
  (87, .aload_n 0, 1, 0, 0, 0),
  (88, .getfield 13, 3, 8, 1, 0),
  (91, .iload_n 3, 1, 0, 0, 0),
  (92, .iconst (1), 1, 0, 0, 1),
  (93, .iadd, 1, 0, 0, 0),
  (94, .aload_n 0, 1, 0, 0, 0),
  (95, .iload_n 1, 1, 0, 0, 0),
  (96, .iconst (0), 1, 0, 0, 0),
  (97, .invokevirtual 72, 3, 155, 3, 0),
  (100, .iastore, 1, 0, 0, 0),
  (101, .aload_n 0, 1, 0, 0, 0),
  (102, .getfield 13, 3, 8, 1, 0),
  (105, .iload_n 3, 1, 0, 0, 0),
  (106, .iconst (2), 1, 0, 0, 2),
  (107, .iadd, 1, 0, 0, 0),
  (108, .iload_n 2, 1, 0, 0, 0),
  (109, .iastore, 1, 0, 0, 0),
  (110, .aload_n 0, 1, 0, 0, 0),
  (111, .getfield 13, 3, 8, 1, 0),
  (114, .bipush (35), 2, 0, 0, 35),
  (116, .dup2, 1, 0, 0, 0),
  (117, .iaload, 1, 0, 0, 0),
  (118, .iconst (1), 1, 0, 0, 1),
  (119, .iadd, 1, 0, 0, 0),
  (120, .iastore, 1, 0, 0, 0),
  (121, .aload_n 0, 1, 0, 0, 0),
  (122, .iload_n 1, 1, 0, 0, 0),
  (123, .iconst (0), 1, 0, 0, 0),
  (124, .iload_n 2, 1, 0, 0, 0),
  (125, .invokevirtual 64, 3, 145, 4, 0),
  (128, .return_, 1, 0, 0, 0)]
def a_c169 : List (Nat × a_Rw) := [
  (0, .aload_n 0, 1, 0, 0, 0),
  (1, .iload_n 1, 1, 0, 0, 0),
  (2, .invokevirtual 120, 3, 170, 2, 0),
  (5, .aload_n 0, 1, 0, 0, 0),
  (6, .getfield 108, 3, 8, 9, 0),
  (9, .ifCond .eq (5), 3, 14, 0, 0),
  (12, .iconst (0), 1, 0, 0, 0),
  (13, .ireturn, 1, 0, 0, 0),
  (14, .aload_n 0, 1, 0, 0, 0),
  (15, .dup, 1, 0, 0, 0),
  (16, .getfield 101, 3, 8, 7, 0),
  (19, .iconst (1), 1, 0, 0, 1),
  (20, .iadd, 1, 0, 0, 0),
  (21, .putfield 101, 3, 8, 7, 0),
  (24, .aload_n 0, 1, 0, 0, 0),
  (25, .iload_n 2, 1, 0, 0, 0),
  (26, .iconst (1), 1, 0, 0, 1),
  (27, .invokevirtual 72, 3, 155, 3, 0),
  (30, .iconst (1), 1, 0, 0, 1),
  (31, .if_icmp .ne (22), 3, 53, 0, 0),
  (34, .aload_n 0, 1, 0, 0, 0),
  (35, .iload_n 2, 1, 0, 0, 0),
  (36, .iconst (2), 1, 0, 0, 2),
  (37, .invokevirtual 72, 3, 155, 3, 0),
  (40, .aload_n 0, 1, 0, 0, 0),
  (41, .iload_n 1, 1, 0, 0, 0),
  (42, .iconst (2), 1, 0, 0, 2),
  (43, .invokevirtual 72, 3, 155, 3, 0),
  (46, .if_icmp .ne (7), 3, 53, 0, 0),
  (49, .iconst (1), 1, 0, 0, 1),
  (50, .goto (4), 3, 54, 0, 0),
  (53, .iconst (0), 1, 0, 0, 0),
  (54, .ireturn, 1, 0, 0, 0)]
def a_c170 : List (Nat × a_Rw) := [
  (0, .aload_n 0, 1, 0, 0, 0),
  (1, .getfield 108, 3, 8, 9, 0),
  (4, .ifCond .ne (14), 3, 18, 0, 0),
  (7, .aload_n 0, 1, 0, 0, 0),
  (8, .getfield 101, 3, 8, 7, 0),
  (11, .aload_n 0, 1, 0, 0, 0),
  (12, .getfield 105, 3, 8, 8, 0),
  (15, .if_icmp .eq (4), 3, 19, 0, 0),
  (18, .return_, 1, 0, 0, 0),
  (19, .aload_n 0, 1, 0, 0, 0),
  (20, .iconst (1), 1, 0, 0, 1),
  (21, .putfield 108, 3, 8, 9, 0),
  (24, .aload_n 0, 1, 0, 0, 0),
  (25, .iload_n 1, 1, 0, 0, 0),
  (26, .invokevirtual 116, 3, 171, 2, 0),
  (29, .return_, 1, 0, 0, 0)]
def a_c171 : List (Nat × a_Rw) := [
  (0, .aload_n 0, 1, 0, 0, 0),
  (1, .iload_n 1, 1, 0, 0, 0),
  (2, .iconst (1), 1, 0, 0, 1),
  (3, .iconst (0), 1, 0, 0, 0),
  (4, .invokevirtual 64, 3, 145, 4, 0),
  (7, .aload_n 0, 1, 0, 0, 0),
  (8, .iload_n 1, 1, 0, 0, 0),
  (9, .invokevirtual 97, 3, 172, 2, 0),
  (12, .istore_n 2, 1, 0, 0, 0),
  (13, .iconst (0), 1, 0, 0, 0),
  (14, .istore_n 3, 1, 0, 0, 0),
  (15, .iload_n 3, 1, 0, 0, 0),
  (16, .aload_n 0, 1, 0, 0, 0),
  (17, .getfield 13, 3, 8, 1, 0),
  (20, .iconst (0), 1, 0, 0, 0),
  (21, .iaload, 1, 0, 0, 0),
  (22, .if_icmp .ge (35), 3, 57, 0, 0),
  (25, .iload_n 2, 1, 0, 0, 0),
  (26, .iload_n 3, 1, 0, 0, 0),
  (27, .invokestatic 79, 3, 161, 2, 0),
  (30, .ifCond .eq (21), 3, 51, 0, 0),
  (33, .aload_n 0, 1, 0, 0, 0),
  (34, .iload_n 3, 1, 0, 0, 0),
  (35, .iconst (5), 1, 0, 0, 5),
  (36, .aload_n 0, 1, 0, 0, 0),
  (37, .iload_n 3, 1, 0, 0, 0),
  (38, .iconst (5), 1, 0, 0, 5),
  (39, .invokevirtual 72, 3, 155, 3, 0),
  (42, .iconst (1), 1, 0, 0, 1),
  (43, .iload_n 1, 1, 0, 0, 0),
  (44, .ishl, 1, 0, 0, 0),
  (45, .iconst (-1), 1, 0, 0, -1),
  (46, .ixor, 1, 0, 0, 0),
  (47, .iand, 1, 0, 0, 0),
  (48, .invokevirtual 64, 3, 145, 4, 0),
  (51, .iinc 3 (1), 3, 0, 0, 1),
  (54, .goto (-39), 3, 15, 0, 0),
  (57, .iload_n 1, 1, 0, 0, 0),
  (58, .ifCond .ne (10), 3, 68, 0, 0),
  (61, .aload_n 0, 1, 0, 0, 0),
  (62, .getfield 13, 3, 8, 1, 0),
  (65, .iconst (2), 1, 0, 0, 2),
  (66, .iconst (3), 1, 0, 0, 3),
  (67, .iastore, 1, 0, 0, 0),
  (68, .return_, 1, 0, 0, 0)]
def a_c172 : List (Nat × a_Rw) := [
  (0, .aload_n 0, 1, 0, 0, 0),
  (1, .iconst (1), 1, 0, 0, 1),
  (2, .iconst (1), 1, 0, 0, 1),
  (3, .invokevirtual 76, 3, 158, 3, 0),
  (6, .aload_n 0, 1, 0, 0, 0),
  (7, .iconst (2), 1, 0, 0, 2),
  (8, .aload_n 0, 1, 0, 0, 0),
  (9, .iload_n 1, 1, 0, 0, 0),
  (10, .iconst (2), 1, 0, 0, 2),
  (11, .invokevirtual 72, 3, 155, 3, 0),
  (14, .invokevirtual 76, 3, 158, 3, 0),
  (17, .iand, 1, 0, 0, 0),
  (18, .ireturn, 1, 0, 0, 0)]
def a_c173 : List (Nat × a_Rw) := [
  (0, .iload_n 1, 1, 0, 0, 0),
  (1, .aload_n 0, 1, 0, 0, 0),
  (2, .invokevirtual 83, 3, 174, 1, 0),
  (5, .iconst (-1), 1, 0, 0, -1),
  (6, .ixor, 1, 0, 0, 0),
  (7, .iand, 1, 0, 0, 0),
  (8, .ifCond .ne (7), 3, 15, 0, 0),
  (11, .iconst (1), 1, 0, 0, 1),
  (12, .goto (4), 3, 16, 0, 0),
  (15, .iconst (0), 1, 0, 0, 0),
  (16, .ireturn, 1, 0, 0, 0)]
def a_c174 : List (Nat × a_Rw) := [
  (0, .aload_n 0, 1, 0, 0, 0),
  (1, .iconst (0), 1, 0, 0, 0),
  (2, .iconst (4), 1, 0, 0, 4),
  (3, .invokevirtual 76, 3, 158, 3, 0),
  (6, .aload_n 0, 1, 0, 0, 0),
  (7, .iconst (0), 1, 0, 0, 0),
  (8, .iconst (5), 1, 0, 0, 5),
  (9, .invokevirtual 76, 3, 158, 3, 0),
  (12, .ior, 1, 0, 0, 0),
  (13, .ireturn, 1, 0, 0, 0)]
def a_c175 : List (Nat × a_Rw) := [
  (0, .aload_n 0, 1, 0, 0, 0),
  (1, .iconst (0), 1, 0, 0, 0),
  (2, .putfield 1, 3, 8, 0, 0),
  (5, .aload_n 0, 1, 0, 0, 0),
  (6, .invokevirtual 182, 3, 148, 1, 0),
  (9, .aload_n 0, 1, 0, 0, 0),
  (10, .aload_n 0, 1, 0, 0, 0),
  (11, .iload_n 1, 1, 0, 0, 0),
  (12, .invokevirtual 202, 3, 176, 2, 0),
  (15, .invokevirtual 185, 3, 150, 2, 0),
  (18, .ireturn, 1, 0, 0, 0)]
def a_c176 : List (Nat × a_Rw) := [
  (0, .iload_n 1, 1, 0, 0, 0),
  (1, .invokestatic 133, 3, 165, 1, 0),
  (4, .ifCond .ne (6), 3, 10, 0, 0),
  (7, .bipush (-3), 2, 0, 0, -3),
  (9, .ireturn, 1, 0, 0, 0),
  (10, .aload_n 0, 1, 0, 0, 0),
  (11, .getfield 13, 3, 8, 1, 0),
  (14, .iconst (2), 1, 0, 0, 2),
  (15, .iaload, 1, 0, 0, 0),
  (16, .iconst (1), 1, 0, 0, 1),
  (17, .if_icmp .ne (23), 3, 40, 0, 0),
  (20, .aload_n 0, 1, 0, 0, 0),
  (21, .iconst (0), 1, 0, 0, 0),
  (22, .iconst (1), 1, 0, 0, 1),
  (23, .invokevirtual 72, 3, 155, 3, 0),
  (26, .iconst (1), 1, 0, 0, 1),
  (27, .if_icmp .ne (13), 3, 40, 0, 0),
  (30, .aload_n 0, 1, 0, 0, 0),
  (31, .iconst (0), 1, 0, 0, 0),
  (32, .iconst (0), 1, 0, 0, 0),
  (33, .invokevirtual 72, 3, 155, 3, 0),
  (36, .iconst (1), 1, 0, 0, 1),
  (37, .if_icmp .eq (6), 3, 43, 0, 0),
  (40, .bipush (-5), 2, 0, 0, -5),
  (42, .ireturn, 1, 0, 0, 0),
  (43, .aload_n 0, 1, 0, 0, 0),
  (44, .iload_n 1, 1, 0, 0, 0),
  (45, .invokevirtual 136, 3, 166, 2, 0),
  (48, .aload_n 0, 1, 0, 0, 0),
  (49, .iconst (0), 1, 0, 0, 0),
  (50, .iconst (2), 1, 0, 0, 2),
  (51, .invokevirtual 123, 3, 168, 3, 0),
  (54, .iconst (1), 1, 0, 0, 1),
  (55, .istore_n 2, 1, 0, 0, 0),
  (56, .iconst (1), 1, 0, 0, 1),
  (57, .istore_n 3, 1, 0, 0, 0),
  (58, .iload_n 3, 1, 0, 0, 0),
  (59, .aload_n 0, 1, 0, 0, 0),
  (60, .getfield 13, 3, 8, 1, 0),
  (63, .iconst (0), 1, 0, 0, 0),
  (64, .iaload, 1, 0, 0, 0),
  (65, .if_icmp .ge (43), 3, 108, 0, 0),
  (68, .aload_n 0, 1, 0, 0, 0),
  (69, .iconst (0), 1, 0, 0, 0),
  (70, .iload_n 3, 1, 0, 0, 0),
  (71, .invokevirtual 126, 3, 169, 3, 0),
  (74, .ifCond .eq (28), 3, 102, 0, 0),
  (77, .aload_n 0, 1, 0, 0, 0),
  (78, .iload_n 3, 1, 0, 0, 0),
  (79, .iconst (0), 1, 0, 0, 0),
  (80, .invokevirtual 72, 3, 155, 3, 0),
  (83, .iconst (1), 1, 0, 0, 1),
  (84, .if_icmp .eq (6), 3, 90, 0, 0),
  (87, .goto (15), 3, 102, 0, 0),
  (90, .aload_n 0, 1, 0, 0, 0),
  (91, .iload_n 3, 1, 0, 0, 0),
  (92, .iconst (2), 1, 0, 0, 2),
  (93, .invokevirtual 123, 3, 168, 3, 0),
  (96, .iload_n 2, 1, 0, 0, 0),
  (97, .iconst (1), 1, 0, 0, 1),
  (98, .iload_n 3, 1, 0, 0, 0),
  (99, .ishl, 1, 0, 0, 0),
  (100, .ior, 1, 0, 0, 0),
  (101, .istore_n 2, 1, 0, 0, 0),
  (102, .iinc 3 (1), 3, 0, 0, 1),
  (105, .goto (-47), 3, 58, 0, 0),
  (108, .aload_n 0, 1, 0, 0, 0),
  (109, .iconst (0), 1, 0, 0, 0),
  (110, .invokevirtual 120, 3, 170, 2, 0),
  (113, .aload_n 0, 1, 0, 0, 0),
  (114, .getfield 108, 3, 8, 9, 0),
  (117, .ifCond .ne (37), 3, 154, 0, 0),
  (120, .aload_n 0, 1, 0, 0, 0),
  (121, .getfield 13, 3, 8, 1, 0),
  (124, .iconst (2), 1, 0, 0, 2),
  (125, .aload_n 0, 1, 0, 0, 0),
  (126, .getfield 13, 3, 8, 1, 0),
  (129, .iconst (1), 1, 0, 0, 1),
  (130, .iaload, 1, 0, 0, 0),
  (131, .ifCond .eq (17), 3, 148, 0, 0),
  (134, .aload_n 0, 1, 0, 0, 0),
  (135, .iload_n 2, 1, 0, 0, 0),
  (136, .invokevirtual 145, 3, 160, 2, 0),
  (139, .aload_n 0, 1, 0, 0, 0),
  (140, .getfield 13, 3, 8, 1, 0),
  (143, .iconst (3), 1, 0, 0, 3),
  (144, .iaload, 1, 0, 0, 0),
  (145, .if_icmp .lt (7), 3, 152, 0, 0),
  (148, .iconst (2), 1, 0, 0, 2),
  (149, .goto (4), 3, 153, 0, 0),
  (152, .iconst (3), 1, 0, 0, 3),
  (153, .iastore, 1, 0, 0, 0),
  (154, .aload_n 0, 1, 0, 0, 0),
  (155, .getfield 13, 3, 8, 1, 0),
  (158, .iconst (2), 1, 0, 0, 2),
  (159, .iaload, 1, 0, 0, 0),
  (160, .ireturn, 1, 0, 0, 0)]
def a_c177 : List (Nat × a_Rw) := [
  (0, .aload_n 0, 1, 0, 0, 0),
  (1, .iconst (0), 1, 0, 0, 0),
  (2, .putfield 1, 3, 8, 0, 0),
  (5, .aload_n 0, 1, 0, 0, 0),
  (6, .invokevirtual 182, 3, 148, 1, 0),
  (9, .aload_n 0, 1, 0, 0, 0),
  (10, .aload_n 0, 1, 0, 0, 0),
  (11, .iload_n 1, 1, 0, 0, 0),
  (12, .invokevirtual 205, 3, 178, 2, 0),
  (15, .invokevirtual 185, 3, 150, 2, 0),
  (18, .ireturn, 1, 0, 0, 0)]
def a_c178 : List (Nat × a_Rw) := [
  (0, .iload_n 1, 1, 0, 0, 0),
  (1, .invokestatic 133, 3, 165, 1, 0),
  (4, .ifCond .ne (6), 3, 10, 0, 0),
  (7, .bipush (-3), 2, 0, 0, -3),
  (9, .ireturn, 1, 0, 0, 0),
  (10, .aload_n 0, 1, 0, 0, 0),
  (11, .getfield 13, 3, 8, 1, 0),
  (14, .iconst (2), 1, 0, 0, 2),
  (15, .iaload, 1, 0, 0, 0),
  (16, .iconst (2), 1, 0, 0, 2),
  (17, .if_icmp .ne (23), 3, 40, 0, 0),
  (20, .aload_n 0, 1, 0, 0, 0),
  (21, .iconst (0), 1, 0, 0, 0),
  (22, .iconst (1), 1, 0, 0, 1),
  (23, .invokevirtual 72, 3, 155, 3, 0),
  (26, .iconst (1), 1, 0, 0, 1),
  (27, .if_icmp .ne (13), 3, 40, 0, 0),
  (30, .aload_n 0, 1, 0, 0, 0),
  (31, .iconst (0), 1, 0, 0, 0),
  (32, .iconst (0), 1, 0, 0, 0),
  (33, .invokevirtual 72, 3, 155, 3, 0),
  (36, .iconst (2), 1, 0, 0, 2),
  (37, .if_icmp .eq (6), 3, 43, 0, 0),
  (40, .bipush (-5), 2, 0, 0, -5),
  (42, .ireturn, 1, 0, 0, 0),
  (43, .aload_n 0, 1, 0, 0, 0),
  (44, .iload_n 1, 1, 0, 0, 0),
  (45, .invokevirtual 136, 3, 166, 2, 0),
  (48, .aload_n 0, 1, 0, 0, 0),
  (49, .iconst (0), 1, 0, 0, 0),
  (50, .iconst (4), 1, 0, 0, 4),
  (51, .invokevirtual 123, 3, 168, 3, 0),
  (54, .iconst (1), 1, 0, 0, 1),
  (55, .istore_n 2, 1, 0, 0, 0),
  (56, .iload_n 2, 1, 0, 0, 0),
  (57, .aload_n 0, 1, 0, 0, 0),
  (58, .getfield 13, 3, 8, 1, 0),
  (61, .iconst (0), 1, 0, 0, 0),
  (62, .iaload, 1, 0, 0, 0),
  (63, .if_icmp .ge (34), 3, 97, 0, 0),
  (66, .aload_n 0, 1, 0, 0, 0),
  (67, .iconst (0), 1, 0, 0, 0),
  (68, .iload_n 2, 1, 0, 0, 0),
  (69, .invokevirtual 126, 3, 169, 3, 0),
  (72, .ifCond .eq (19), 3, 91, 0, 0),
  (75, .aload_n 0, 1, 0, 0, 0),
  (76, .iload_n 2, 1, 0, 0, 0),
  (77, .iconst (0), 1, 0, 0, 0),
  (78, .invokevirtual 72, 3, 155, 3, 0),
  (81, .iconst (5), 1, 0, 0, 5),
  (82, .if_icmp .eq (9), 3, 91, 0, 0),
  (85, .aload_n 0, 1, 0, 0, 0),
  (86, .iload_n 2, 1, 0, 0, 0),
  (87, .iconst (4), 1, 0, 0, 4),
  (88, .invokevirtual 123, 3, 168, 3, 0),
  (91, .iinc 2 (1), 3, 0, 0, 1),
  (94, .goto (-38), 3, 56, 0, 0),
  (97, .aload_n 0, 1, 0, 0, 0),
  (98, .iconst (0), 1, 0, 0, 0),
  (99, .invokevirtual 120, 3, 170, 2, 0),
  (102, .aload_n 0, 1, 0, 0, 0),
  (103, .getfield 13, 3, 8, 1, 0),
  (106, .iconst (2), 1, 0, 0, 2),
  (107, .iconst (3), 1, 0, 0, 3),
  (108, .iastore, 1, 0, 0, 0),
  (109, .aload_n 0, 1, 0, 0, 0),
  (110, .iconst (0), 1, 0, 0, 0),
  (111, .iconst (4), 1, 0, 0, 4),
  (112, .invokevirtual 76, 3, 158, 3, 0),
  (115, .invokestatic 148, 3, 179, 1, 0),
  (118, .ireturn, 1, 0, 0, 0)]
def a_c179 : List (Nat × a_Rw) := [
  (0, .iconst (0), 1, 0, 0, 0),
  (1, .istore_n 1, 1, 0, 0, 0),
  (2, .iconst (0), 1, 0, 0, 0),
  (3, .istore_n 2, 1, 0, 0, 0),
  (4, .iload_n 2, 1, 0, 0, 0),
  (5, .iconst (5), 1, 0, 0, 5),
  (6, .if_icmp .ge (17), 3, 23, 0, 0),
  (9, .iload_n 1, 1, 0, 0, 0),
  (10, .iload_n 0, 1, 0, 0, 0),
  (11, .iload_n 2, 1, 0, 0, 0),
  (12, .ishr, 1, 0, 0, 0),
  (13, .iconst (1), 1, 0, 0, 1),
  (14, .iand, 1, 0, 0, 0),
  (15, .iadd, 1, 0, 0, 0),
  (16, .istore_n 1, 1, 0, 0, 0),
  (17, .iinc 2 (1), 3, 0, 0, 1),
  (20, .goto (-16), 3, 4, 0, 0),
  (23, .iload_n 1, 1, 0, 0, 0),
  (24, .ireturn, 1, 0, 0, 0)]
def a_c180 : List (Nat × a_Rw) := [
  (0, .aload_n 0, 1, 0, 0, 0),
  (1, .iconst (0), 1, 0, 0, 0),
  (2, .putfield 1, 3, 8, 0, 0),
  (5, .aload_n 0, 1, 0, 0, 0),
  (6, .invokevirtual 182, 3, 148, 1, 0),
  (9, .aload_n 0, 1, 0, 0, 0),
  (10, .aload_n 0, 1, 0, 0, 0),
  (11, .iload_n 1, 1, 0, 0, 0),
  (12, .invokevirtual 208, 3, 181, 2, 0),
  (15, .invokevirtual 185, 3, 150, 2, 0),
  (18, .ireturn, 1, 0, 0, 0)]
def a_c181 : List (Nat × a_Rw) := [
  (0, .aload_n 0, 1, 0, 0, 0),
  (1, .iload_n 1, 1, 0, 0, 0),
  (2, .invokevirtual 157, 3, 154, 2, 0),
  (5, .ifCond .ne (6), 3, 11, 0, 0),
  (8, .bipush (-2), 2, 0, 0, -2),
  (10, .ireturn, 1, 0, 0, 0),
  (11, .aload_n 0, 1, 0, 0, 0),
  (12, .iload_n 1, 1, 0, 0, 0),
  (13, .iconst (1), 1, 0, 0, 1),
  (14, .invokevirtual 72, 3, 155, 3, 0),
  (17, .ifCond .ne (6), 3, 23, 0, 0),
  (20, .bipush (-5), 2, 0, 0, -5),
  (22, .ireturn, 1, 0, 0, 0),
  (23, .aload_n 0, 1, 0, 0, 0),
  (24, .iload_n 1, 1, 0, 0, 0),
  (25, .invokevirtual 116, 3, 171, 2, 0),
  (28, .aload_n 0, 1, 0, 0, 0),
  (29, .iconst (1), 1, 0, 0, 1),
  (30, .iconst (1), 1, 0, 0, 1),
  (31, .invokevirtual 76, 3, 158, 3, 0),
  (34, .invokestatic 148, 3, 179, 1, 0),
  (37, .ireturn, 1, 0, 0, 0)]
def a_c182 : List (Nat × a_Rw) := [
  (0, .aload_n 0, 1, 0, 0, 0),
  (1, .iconst (0), 1, 0, 0, 0),
  (2, .putfield 1, 3, 8, 0, 0),
  (5, .aload_n 0, 1, 0, 0, 0),
  (6, .invokevirtual 182, 3, 148, 1, 0),
  (9, .aload_n 0, 1, 0, 0, 0),
  (10, .aload_n 0, 1, 0, 0, 0),
  (11, .iload_n 1, 1, 0, 0, 0),
  (12, .invokevirtual 211, 3, 183, 2, 0),
  (15, .invokevirtual 185, 3, 150, 2, 0),
  (18, .ireturn, 1, 0, 0, 0)]
def a_c183 : List (Nat × a_Rw) := [
  (0, .aload_n 0, 1, 0, 0, 0),
  (1, .iload_n 1, 1, 0, 0, 0),
  (2, .invokevirtual 157, 3, 154, 2, 0),
  (5, .ifCond .ne (6), 3, 11, 0, 0),
  (8, .bipush (-2), 2, 0, 0, -2),
  (10, .ireturn, 1, 0, 0, 0),
  (11, .aload_n 0, 1, 0, 0, 0),
  (12, .iload_n 1, 1, 0, 0, 0),
  (13, .iconst (1), 1, 0, 0, 1),
  (14, .invokevirtual 72, 3, 155, 3, 0),
  (17, .ifCond .eq (6), 3, 23, 0, 0),
  (20, .bipush (-5), 2, 0, 0, -5),
  (22, .ireturn, 1, 0, 0, 0),
  (23, .aload_n 0, 1, 0, 0, 0),
  (24, .iload_n 1, 1, 0, 0, 0),
  (25, .iconst (1), 1, 0, 0, 1),
  (26, .iconst (2), 1, 0, 0, 2),
  (27, .invokevirtual 64, 3, 145, 4, 0),
  (30, .aload_n 0, 1, 0, 0, 0),
  (31, .iload_n 1, 1, 0, 0, 0),
  (32, .iconst (0), 1, 0, 0, 0),
  (33, .invokevirtual 72, 3, 155, 3, 0),
  (36, .ireturn, 1, 0, 0, 0)]
def a_c184 : List (Nat × a_Rw) := [
  (0, .aload_n 0, 1, 0, 0, 0),
  (1, .iconst (0), 1, 0, 0, 0),
  (2, .putfield 1, 3, 8, 0, 0),
  (5, .aload_n 0, 1, 0, 0, 0),
  (6, .invokevirtual 182, 3, 148, 1, 0),
  (9, .aload_n 0, 1, 0, 0, 0),
  (10, .aload_n 0, 1, 0, 0, 0),
  (11, .iload_n 1, 1, 0, 0, 0),
  (12, .invokevirtual 214, 3, 185, 2, 0),
  (15, .invokevirtual 185, 3, 150, 2, 0),
  (18, .ireturn, 1, 0, 0, 0)]
def a_c185 : List (Nat × a_Rw) := [
  (0, .aload_n 0, 1, 0, 0, 0),
  (1, .getfield 13, 3, 8, 1, 0),
  (4, .iconst (0), 1, 0, 0, 0),
  (5, .iaload, 1, 0, 0, 0),
  (6, .istore_n 2, 1, 0, 0, 0),
  (7, .iload_n 1, 1, 0, 0, 0),
  (8, .istore_n 3, 1, 0, 0, 0),
  (9, .iload_n 3, 1, 0, 0, 0),
  (10, .ifCond .ge (6), 3, 16, 0, 0),
  (13, .bipush (-3), 2, 0, 0, -3),
  (15, .ireturn, 1, 0, 0, 0),
  (16, .iconst (0), 1, 0, 0, 0),
  (17, .istore 4, 2, 0, 0, 0),
  (19, .iload 4, 2, 0, 0, 0),
  (21, .iload_n 2, 1, 0, 0, 0),
  (22, .if_icmp .ge (25), 3, 47, 0, 0),
  (25, .iload_n 3, 1, 0, 0, 0),
  (26, .bipush (10), 2, 0, 0, 10),
  (28, .irem, 1, 0, 0, 0),
  (29, .iconst (5), 1, 0, 0, 5),
  (30, .if_icmp .lt (6), 3, 36, 0, 0),
  (33, .bipush (-3), 2, 0, 0, -3),
  (35, .ireturn, 1, 0, 0, 0),
  (36, .iload_n 3, 1, 0, 0, 0),
  (37, .bipush (10), 2, 0, 0, 10),
  (39, .idiv, 1, 0, 0, 0),
  (40, .istore_n 3, 1, 0, 0, 0),
  (41, .iinc 4 (1), 3, 0, 0, 1),
  (44, .goto (-25), 3, 19, 0, 0),
  (47, .iload_n 3, 1, 0, 0, 0),
  (48, .ifCond .le (6), 3, 54, 0, 0),
  (51, .bipush (-3), 2, 0, 0, -3),
  (53, .ireturn, 1, 0, 0, 0),
  (54, .iload_n 1, 1, 0, 0, 0),
  (55, .istore_n 3, 1, 0, 0, 0),
  (56, .iconst (0), 1, 0, 0, 0),
  (57, .istore 4, 2, 0, 0, 0),
  (59, .iload_n 2, 1, 0, 0, 0),
  (60, .iconst (1), 1, 0, 0, 1),
  (61, .isub, 1, 0, 0, 0),
  (62, .istore 5, 2, 0, 0, 0),
  (64, .iload 5, 2, 0, 0, 0),
  (66, .ifCond .lt (36), 3, 102, 0, 0),
  (69, .aload_n 0, 1, 0, 0, 0),
  (70, .iload 5, 2, 0, 0, 0),
  (72, .iconst (2), 1, 0, 0, 2),
  (73, .iload_n 3, 1, 0, 0, 0),
  (74, .bipush (10), 2, 0, 0, 10),
  (76, .irem, 1, 0, 0, 0),
  (77, .invokevirtual 64, 3, 145, 4, 0),
  (80, .iload 4, 2, 0, 0, 0),
  (82, .iconst (1), 1, 0, 0, 1),
  (83, .iload_n 3, 1, 0, 0, 0),
  (84, .bipush (10), 2, 0, 0, 10),
  (86, .irem, 1, 0, 0, 0),
  (87, .ishl, 1, 0, 0, 0),
  (88, .ior, 1, 0, 0, 0),
  (89, .istore 4, 2, 0, 0, 0),
  (91, .iload_n 3, 1, 0, 0, 0),
  (92, .bipush (10), 2, 0, 0, 10),
  (94, .idiv, 1, 0, 0, 0),
  (95, .istore_n 3, 1, 0, 0, 0),
  (96, .iinc 5 (-1), 3, 0, 0, -1),
  (99, .goto (-35), 3, 64, 0, 0),
  (102, .iload 4, 2, 0, 0, 0),
  (104, .invokestatic 148, 3, 179, 1, 0),
  (107, .ireturn, 1, 0, 0, 0)]
def a_c186 : List (Nat × a_Rw) := [
  (0, .aload_n 0, 1, 0, 0, 0),
  (1, .iconst (0), 1, 0, 0, 0),
  (2, .putfield 1, 3, 8, 0, 0),
  (5, .aload_n 0, 1, 0, 0, 0),
  (6, .invokevirtual 182, 3, 148, 1, 0),
  (9, .aload_n 0, 1, 0, 0, 0),
  (10, .aload_n 0, 1, 0, 0, 0),
  (11, .iload_n 1, 1, 0, 0, 0),
  (12, .iload_n 2, 1, 0, 0, 0),
  (13, .invokevirtual 217, 3, 187, 3, 0),
  (16, .invokevirtual 185, 3, 150, 2, 0),
  (19, .ireturn, 1, 0, 0, 0)]
def a_c187 : List (Nat × a_Rw) := [
  (0, .aload_n 0, 1, 0, 0, 0),
  (1, .iload_n 1, 1, 0, 0, 0),
  (2, .invokevirtual 157, 3, 154, 2, 0),
  (5, .ifCond .ne (6), 3, 11, 0, 0),
  (8, .bipush (-2), 2, 0, 0, -2),
  (10, .ireturn, 1, 0, 0, 0),
  (11, .iload_n 2, 1, 0, 0, 0),
  (12, .invokestatic 133, 3, 165, 1, 0),
  (15, .ifCond .ne (6), 3, 21, 0, 0),
  (18, .bipush (-3), 2, 0, 0, -3),
  (20, .ireturn, 1, 0, 0, 0),
  (21, .aload_n 0, 1, 0, 0, 0),
  (22, .iload_n 1, 1, 0, 0, 0),
  (23, .iconst (1), 1, 0, 0, 1),
  (24, .invokevirtual 72, 3, 155, 3, 0),
  (27, .iconst (1), 1, 0, 0, 1),
  (28, .if_icmp .ne (27), 3, 55, 0, 0),
  (31, .aload_n 0, 1, 0, 0, 0),
  (32, .iload_n 1, 1, 0, 0, 0),
  (33, .invokevirtual 97, 3, 172, 2, 0),
  (36, .invokestatic 160, 3, 188, 1, 0),
  (39, .iload_n 1, 1, 0, 0, 0),
  (40, .if_icmp .ne (15), 3, 55, 0, 0),
  (43, .aload_n 0, 1, 0, 0, 0),
  (44, .aload_n 0, 1, 0, 0, 0),
  (45, .iload_n 1, 1, 0, 0, 0),
  (46, .invokevirtual 97, 3, 172, 2, 0),
  (49, .invokevirtual 129, 3, 173, 2, 0),
  (52, .ifCond .eq (6), 3, 58, 0, 0),
  (55, .bipush (-5), 2, 0, 0, -5),
  (57, .ireturn, 1, 0, 0, 0),
  (58, .aload_n 0, 1, 0, 0, 0),
  (59, .iload_n 1, 1, 0, 0, 0),
  (60, .invokevirtual 97, 3, 172, 2, 0),
  (63, .istore_n 3, 1, 0, 0, 0),
  (64, .aload_n 0, 1, 0, 0, 0),
  (65, .iload_n 3, 1, 0, 0, 0),
  (66, .iload_n 3, 1, 0, 0, 0),
  (67, .invokevirtual 163, 3, 189, 3, 0),
  (70, .istore 4, 2, 0, 0, 0),
  (72, .iload 4, 2, 0, 0, 0),
  (74, .iconst (-1), 1, 0, 0, -1),
  (75, .if_icmp .ne (6), 3, 81, 0, 0),
  (78, .bipush (-4), 2, 0, 0, -4),
  (80, .ireturn, 1, 0, 0, 0),
  (81, .aload_n 0, 1, 0, 0, 0),
  (82, .iload_n 2, 1, 0, 0, 0),
  (83, .invokevirtual 136, 3, 166, 2, 0),
  (86, .aload_n 0, 1, 0, 0, 0),
  (87, .iload_n 1, 1, 0, 0, 0),
  (88, .iload 4, 2, 0, 0, 0),
  (90, .iload_n 3, 1, 0, 0, 0),
  (91, .invokevirtual 166, 3, 191, 4, 0),
  (94, .iload 4, 2, 0, 0, 0),
  (96, .ireturn, 1, 0, 0, 0)]
def a_c188 : List (Nat × a_Rw) := [
  (0, .iconst (0), 1, 0, 0, 0),
  (1, .istore_n 1, 1, 0, 0, 0),
  (2, .iload_n 0, 1, 0, 0, 0),
  (3, .iload_n 1, 1, 0, 0, 0),
  (4, .invokestatic 79, 3, 161, 2, 0),
  (7, .ifCond .ne (9), 3, 16, 0, 0),
  (10, .iinc 1 (1), 3, 0, 0, 1),
  (13, .goto (-11), 3, 2, 0, 0),
  (16, .iload_n 1, 1, 0, 0, 0),
  (17, .ireturn, 1, 0, 0, 0)]
def a_c189 : List (Nat × a_Rw) := [
  (0, .aload_n 0, 1, 0, 0, 0),
  (1, .iload_n 1, 1, 0, 0, 0),
  (2, .iconst (4), 1, 0, 0, 4),
  (3, .invokevirtual 151, 3, 190, 3, 0),
  (6, .ifCond .eq (5), 3, 11, 0, 0),
  (9, .iconst (1), 1, 0, 0, 1),
  (10, .ireturn, 1, 0, 0, 0),
  (11, .aload_n 0, 1, 0, 0, 0),
  (12, .iload_n 1, 1, 0, 0, 0),
  (13, .iconst (5), 1, 0, 0, 5),
  (14, .invokevirtual 151, 3, 190, 3, 0),
  (17, .ifCond .eq (5), 3, 22, 0, 0),
  (20, .iconst (0), 1, 0, 0, 0),
  (21, .ireturn, 1, 0, 0, 0),
  (22, .aload_n 0, 1, 0, 0, 0),
  (23, .iload_n 1, 1, 0, 0, 0),
  (24, .iconst (2), 1, 0, 0, 2),
  (25, .invokevirtual 151, 3, 190, 3, 0),
  (28, .istore_n 3, 1, 0, 0, 0),
  (29, .aload_n 0, 1, 0, 0, 0),
  (30, .getfield 13, 3, 8, 1, 0),
  (33, .iconst (1), 1, 0, 0, 1),
  (34, .iaload, 1, 0, 0, 0),
  (35, .ifCond .ne (31), 3, 66, 0, 0),
  (38, .iload_n 3, 1, 0, 0, 0),
  (39, .ifCond .ne (5), 3, 44, 0, 0),
  (42, .iconst (0), 1, 0, 0, 0),
  (43, .ireturn, 1, 0, 0, 0),
  (44, .aload_n 0, 1, 0, 0, 0),
  (45, .iload_n 2, 1, 0, 0, 0),
  (46, .iconst (0), 1, 0, 0, 0),
  (47, .invokevirtual 151, 3, 190, 3, 0),
  (50, .aload_n 0, 1, 0, 0, 0),
  (51, .iload_n 2, 1, 0, 0, 0),
  (52, .iconst (1), 1, 0, 0, 1),
  (53, .invokevirtual 151, 3, 190, 3, 0),
  (56, .ior, 1, 0, 0, 0),
  (57, .ifCond .ne (7), 3, 64, 0, 0),
  (60, .iconst (1), 1, 0, 0, 1),
  (61, .goto (4), 3, 65, 0, 0),
  (64, .iconst (2), 1, 0, 0, 2),
  (65, .ireturn, 1, 0, 0, 0),
  (66, .iload_n 3, 1, 0, 0, 0),
  (67, .ifCond .eq (39), 3, 106, 0, 0),
  (70, .aload_n 0, 1, 0, 0, 0),
  (71, .iload_n 3, 1, 0, 0, 0),
  (72, .aload_n 0, 1, 0, 0, 0),
  (73, .iload_n 1, 1, 0, 0, 0),
  (74, .iconst (1), 1, 0, 0, 1),
  (75, .invokevirtual 151, 3, 190, 3, 0),
  (78, .ior, 1, 0, 0, 0),
  (79, .invokevirtual 145, 3, 160, 2, 0),
  (82, .aload_n 0, 1, 0, 0, 0),
  (83, .getfield 13, 3, 8, 1, 0),
  (86, .iconst (3), 1, 0, 0, 3),
  (87, .iaload, 1, 0, 0, 0),
  (88, .if_icmp .lt (18), 3, 106, 0, 0),
  (91, .aload_n 0, 1, 0, 0, 0),
  (92, .iload_n 2, 1, 0, 0, 0),
  (93, .iconst (1), 1, 0, 0, 1),
  (94, .invokevirtual 151, 3, 190, 3, 0),
  (97, .ifCond .ne (7), 3, 104, 0, 0),
  (100, .iconst (1), 1, 0, 0, 1),
  (101, .goto (4), 3, 105, 0, 0),
  (104, .iconst (2), 1, 0, 0, 2),
  (105, .ireturn, 1, 0, 0, 0),
  (106, .aload_n 0, 1, 0, 0, 0),
  (107, .aload_n 0, 1, 0, 0, 0),
  (108, .iload_n 1, 1, 0, 0, 0),
  (109, .iconst (0), 1, 0, 0, 0),
  (110, .invokevirtual 151, 3, 190, 3, 0),
  (113, .aload_n 0, 1, 0, 0, 0),
  (114, .iload_n 1, 1, 0, 0, 0),
  (115, .iconst (1), 1, 0, 0, 1),
  (116, .invokevirtual 151, 3, 190, 3, 0),
  (119, .ior, 1, 0, 0, 0),
  (120, .aload_n 0, 1, 0, 0, 0),
  (121, .iload_n 1, 1, 0, 0, 0),
  (122, .iconst (3), 1, 0, 0, 3),
  (123, .invokevirtual 151, 3, 190, 3, 0),
  (126, .ior, 1, 0, 0, 0),
  (127, .invokevirtual 145, 3, 160, 2, 0),
  (130, .aload_n 0, 1, 0, 0, 0),
  (131, .getfield 13, 3, 8, 1, 0),
  (134, .iconst (4), 1, 0, 0, 4),
  (135, .iaload, 1, 0, 0, 0),
  (136, .if_icmp .ge (5), 3, 141, 0, 0),
  (139, .iconst (-1), 1, 0, 0, -1),
  (140, .ireturn, 1, 0, 0, 0),
  (141, .aload_n 0, 1, 0, 0, 0),
  (142, .iload_n 2, 1, 0, 0, 0),
  (143, .iconst (0), 1, 0, 0, 0),
  (144, .invokevirtual 151, 3, 190, 3, 0),
  (147, .aload_n 0, 1, 0, 0, 0),
  (148, .iload_n 2, 1, 0, 0, 0),
  (149, .iconst (1), 1, 0, 0, 1),
  (150, .invokevirtual 151, 3, 190, 3, 0),
  (153, .ior, 1, 0, 0, 0),
  (154, .ifCond .ne (7), 3, 161, 0, 0),
  (157, .iconst (0), 1, 0, 0, 0),
  (158, .goto (4), 3, 162, 0, 0),
  (161, .iconst (3), 1, 0, 0, 3),
  (162, .ireturn, 1, 0, 0, 0)]
def a_c190 : List (Nat × a_Rw) := [
  (0, .iload_n 1, 1, 0, 0, 0),
  (1, .aload_n 0, 1, 0, 0, 0),
  (2, .iconst (0), 1, 0, 0, 0),
  (3, .iload_n 2, 1, 0, 0, 0),
  (4, .invokevirtual 76, 3, 158, 3, 0),
  (7, .iand, 1, 0, 0, 0),
  (8, .ireturn, 1, 0, 0, 0)]
def a_c191 : List (Nat × a_Rw) := [
  (0, .aload_n 0, 1, 0, 0, 0),
  (1, .iload_n 2, 1, 0, 0, 0),
  (2, .iload_n 3, 1, 0, 0, 0),
  (3, .invokevirtual 154, 3, 192, 3, 0),
  (6, .istore 4, 2, 0, 0, 0),
  (8, .iload 4, 2, 0, 0, 0),
  (10, .ifCond .eq (99), 3, 109, 0, 0),
  (13, .iload_n 2, 1, 0, 0, 0),
  (14, .iconst (2), 1, 0, 0, 2),
  (15, .if_icmp .ne (7), 3, 22, 0, 0),
  (18, .iconst (2), 1, 0, 0, 2),
  (19, .goto (4), 3, 23, 0, 0),
  (22, .iconst (3), 1, 0, 0, 3),
  (23, .istore 5, 2, 0, 0, 0),
  (25, .iload 4, 2, 0, 0, 0),
  (27, .iload_n 1, 1, 0, 0, 0),
  (28, .invokestatic 79, 3, 161, 2, 0),
  (31, .ifCond .eq (10), 3, 41, 0, 0),
  (34, .aload_n 0, 1, 0, 0, 0),
  (35, .iload_n 1, 1, 0, 0, 0),
  (36, .iload 5, 2, 0, 0, 0),
  (38, .invokevirtual 123, 3, 168, 3, 0),
  (41, .iconst (0), 1, 0, 0, 0),
  (42, .istore 6, 2, 0, 0, 0),
  (44, .iload 6, 2, 0, 0, 0),
  (46, .aload_n 0, 1, 0, 0, 0),
  (47, .getfield 13, 3, 8, 1, 0),
  (50, .iconst (0), 1, 0, 0, 0),
  (51, .iaload, 1, 0, 0, 0),
  (52, .if_icmp .ge (52), 3, 104, 0, 0),
  (55, .iload 6, 2, 0, 0, 0),
  (57, .iload_n 1, 1, 0, 0, 0),
  (58, .if_icmp .eq (40), 3, 98, 0, 0),
  (61, .iload_n 3, 1, 0, 0, 0),
  (62, .iload 6, 2, 0, 0, 0),
  (64, .invokestatic 79, 3, 161, 2, 0),
  (67, .ifCond .eq (31), 3, 98, 0, 0),
  (70, .aload_n 0, 1, 0, 0, 0),
  (71, .iload_n 1, 1, 0, 0, 0),
  (72, .iload 6, 2, 0, 0, 0),
  (74, .invokevirtual 126, 3, 169, 3, 0),
  (77, .ifCond .eq (21), 3, 98, 0, 0),
  (80, .iload 4, 2, 0, 0, 0),
  (82, .iload 6, 2, 0, 0, 0),
  (84, .invokestatic 79, 3, 161, 2, 0),
  (87, .ifCond .eq (11), 3, 98, 0, 0),
  (90, .aload_n 0, 1, 0, 0, 0),
  (91, .iload 6, 2, 0, 0, 0),
  (93, .iload 5, 2, 0, 0, 0),
  (95, .invokevirtual 123, 3, 168, 3, 0),
  (98, .iinc 6 (1), 3, 0, 0, 1),
  (101, .goto (-57), 3, 44, 0, 0),
  (104, .aload_n 0, 1, 0, 0, 0),
  (105, .iload_n 1, 1, 0, 0, 0),
  (106, .invokevirtual 120, 3, 170, 2, 0),
  (109, .aload_n 0, 1, 0, 0, 0),
  (110, .getfield 108, 3, 8, 9, 0),
  (113, .ifCond .eq (4), 3, 117, 0, 0),
  (116, .return_, 1, 0, 0, 0),
  (117, .iload_n 2, 1, 0, 0, 0),
  (118, .iconst (1), 1, 0, 0, 1),
  (119, .if_icmp .eq (8), 3, 127, 0, 0),
  (122, .iload_n 2, 1, 0, 0, 0),
  (123, .iconst (2), 1, 0, 0, 2),
  (124, .if_icmp .ne (7), 3, 131, 0, 0),
  (127, .iconst (4), 1, 0, 0, 4),
  (128, .goto (4), 3, 132, 0, 0),
  (131, .iconst (5), 1, 0, 0, 5),
  (132, .istore 5, 2, 0, 0, 0),
  (134, .aload_n 0, 1, 0, 0, 0),
  (135, .iload_n 1, 1, 0, 0, 0),
  (136, .iload 5, 2, 0, 0, 0),
  (138, .invokevirtual 123, 3, 168, 3, 0),
  (141, .iconst (0), 1, 0, 0, 0),
  (142, .istore 6, 2, 0, 0, 0),
  (144, .iload 6, 2, 0, 0, 0),
  (146, .aload_n 0, 1, 0, 0, 0),
  (147, .getfield 13, 3, 8, 1, 0),
  (150, .iconst (0), 1, 0, 0, 0),
  (151, .iaload, 1, 0, 0, 0),
  (152, .if_icmp .ge (42), 3, 194, 0, 0),
  (155, .iload 6, 2, 0, 0, 0),
  (157, .iload_n 1, 1, 0, 0, 0),
  (158, .if_icmp .eq (30), 3, 188, 0, 0),
  (161, .iload_n 3, 1, 0, 0, 0),
  (162, .iload 6, 2, 0, 0, 0),
  (164, .invokestatic 79, 3, 161, 2, 0),
  (167, .ifCond .eq (21), 3, 188, 0, 0),
  (170, .aload_n 0, 1, 0, 0, 0),
  (171, .iload_n 1, 1, 0, 0, 0),
  (172, .iload 6, 2, 0, 0, 0),
  (174, .invokevirtual 126, 3, 169, 3, 0),
  (177, .ifCond .eq (11), 3, 188, 0, 0),
  (180, .aload_n 0, 1, 0, 0, 0),
  (181, .iload 6, 2, 0, 0, 0),
  (183, .iload 5, 2, 0, 0, 0),
  (185, .invokevirtual 123, 3, 168, 3, 0),
  (188, .iinc 6 (1), 3, 0, 0, 1),
  (191, .goto (-47), 3, 144, 0, 0),
  (194, .aload_n 0, 1, 0, 0, 0),
  (195, .iload_n 1, 1, 0, 0, 0),
  (196, .invokevirtual 120, 3, 170, 2, 0),
  (199, .iload_n 1, 1, 0, 0, 0),
  (200, .ifCond .ne (10), 3, 210, 0, 0),
  (203, .aload_n 0, 1, 0, 0, 0),
  (204, .getfield 13, 3, 8, 1, 0),
  (207, .iconst (2), 1, 0, 0, 2),
  (208, .iconst (3), 1, 0, 0, 3),
  (209, .iastore, 1, 0, 0, 0),
  (210, .return_, 1, 0, 0, 0)]
def a_c192 : List (Nat × a_Rw) := [
  (0, .iload_n 1, 1, 0, 0, 0),
  (1, .iconst (2), 1, 0, 0, 2),
  (2, .if_icmp .ge (5), 3, 7, 0, 0),
  (5, .iconst (0), 1, 0, 0, 0),
  (6, .ireturn, 1, 0, 0, 0),
  (7, .aload_n 0, 1, 0, 0, 0),
  (8, .iload_n 2, 1, 0, 0, 0),
  (9, .iconst (1), 1, 0, 0, 1),
  (10, .invokevirtual 151, 3, 190, 3, 0),
  (13, .iload_n 1, 1, 0, 0, 0),
  (14, .iconst (2), 1, 0, 0, 2),
  (15, .if_icmp .ne (17), 3, 32, 0, 0),
  (18, .aload_n 0, 1, 0, 0, 0),
  (19, .getfield 13, 3, 8, 1, 0),
  (22, .iconst (1), 1, 0, 0, 1),
  (23, .iaload, 1, 0, 0, 0),
  (24, .iconst (1), 1, 0, 0, 1),
  (25, .if_icmp .ne (7), 3, 32, 0, 0),
  (28, .iconst (0), 1, 0, 0, 0),
  (29, .goto (9), 3, 38, 0, 0),
  (32, .aload_n 0, 1, 0, 0, 0),
  (33, .iload_n 2, 1, 0, 0, 0),
  (34, .iconst (0), 1, 0, 0, 0),
  (35, .invokevirtual 151, 3, 190, 3, 0),
  (38, .ior, 1, 0, 0, 0),
  (39, .ireturn, 1, 0, 0, 0)]
def a_c193 : List (Nat × a_Rw) := [
  (0, .aload_n 0, 1, 0, 0, 0),
  (1, .iconst (0), 1, 0, 0, 0),
  (2, .putfield 1, 3, 8, 0, 0),
  (5, .aload_n 0, 1, 0, 0, 0),
  (6, .invokevirtual 182, 3, 148, 1, 0),
  (9, .aload_n 0, 1, 0, 0, 0),
  (10, .aload_n 0, 1, 0, 0, 0),
  (11, .iload_n 1, 1, 0, 0, 0),
  (12, .invokevirtual 220, 3, 194, 2, 0),
  (15, .invokevirtual 185, 3, 150, 2, 0),
  (18, .ireturn, 1, 0, 0, 0)]
def a_c194 : List (Nat × a_Rw) := [
  (0, .aload_n 0, 1, 0, 0, 0),
  (1, .iload_n 1, 1, 0, 0, 0),
  (2, .invokevirtual 157, 3, 154, 2, 0),
  (5, .ifCond .ne (6), 3, 11, 0, 0),
  (8, .bipush (-2), 2, 0, 0, -2),
  (10, .ireturn, 1, 0, 0, 0),
  (11, .aload_n 0, 1, 0, 0, 0),
  (12, .iload_n 1, 1, 0, 0, 0),
  (13, .iconst (1), 1, 0, 0, 1),
  (14, .invokevirtual 72, 3, 155, 3, 0),
  (17, .iconst (2), 1, 0, 0, 2),
  (18, .if_icmp .eq (6), 3, 24, 0, 0),
  (21, .bipush (-5), 2, 0, 0, -5),
  (23, .ireturn, 1, 0, 0, 0),
  (24, .aload_n 0, 1, 0, 0, 0),
  (25, .iload_n 1, 1, 0, 0, 0),
  (26, .invokevirtual 97, 3, 172, 2, 0),
  (29, .istore_n 2, 1, 0, 0, 0),
  (30, .aload_n 0, 1, 0, 0, 0),
  (31, .iload_n 1, 1, 0, 0, 0),
  (32, .iconst (0), 1, 0, 0, 0),
  (33, .invokevirtual 72, 3, 155, 3, 0),
  (36, .ifCond .ne (12), 3, 48, 0, 0),
  (39, .aload_n 0, 1, 0, 0, 0),
  (40, .iload_n 1, 1, 0, 0, 0),
  (41, .iconst (5), 1, 0, 0, 5),
  (42, .invokevirtual 123, 3, 168, 3, 0),
  (45, .goto (81), 3, 126, 0, 0),
  (48, .aload_n 0, 1, 0, 0, 0),
  (49, .iconst (1), 1, 0, 0, 1),
  (50, .iload_n 1, 1, 0, 0, 0),
  (51, .ishl, 1, 0, 0, 0),
  (52, .invokevirtual 129, 3, 173, 2, 0),
  (55, .ifCond .ne (21), 3, 76, 0, 0),
  (58, .aload_n 0, 1, 0, 0, 0),
  (59, .iload_n 2, 1, 0, 0, 0),
  (60, .iconst (4), 1, 0, 0, 4),
  (61, .invokevirtual 151, 3, 190, 3, 0),
  (64, .ifCond .eq (12), 3, 76, 0, 0),
  (67, .aload_n 0, 1, 0, 0, 0),
  (68, .iload_n 1, 1, 0, 0, 0),
  (69, .iconst (4), 1, 0, 0, 4),
  (70, .invokevirtual 123, 3, 168, 3, 0),
  (73, .goto (53), 3, 126, 0, 0),
  (76, .aload_n 0, 1, 0, 0, 0),
  (77, .iconst (1), 1, 0, 0, 1),
  (78, .iload_n 1, 1, 0, 0, 0),
  (79, .ishl, 1, 0, 0, 0),
  (80, .invokevirtual 129, 3, 173, 2, 0),
  (83, .ifCond .ne (21), 3, 104, 0, 0),
  (86, .aload_n 0, 1, 0, 0, 0),
  (87, .iload_n 2, 1, 0, 0, 0),
  (88, .iconst (5), 1, 0, 0, 5),
  (89, .invokevirtual 151, 3, 190, 3, 0),
  (92, .ifCond .eq (12), 3, 104, 0, 0),
  (95, .aload_n 0, 1, 0, 0, 0),
  (96, .iload_n 1, 1, 0, 0, 0),
  (97, .iconst (5), 1, 0, 0, 5),
  (98, .invokevirtual 123, 3, 168, 3, 0),
  (101, .goto (25), 3, 126, 0, 0),
  (104, .aload_n 0, 1, 0, 0, 0),
  (105, .iconst (1), 1, 0, 0, 1),
  (106, .iload_n 1, 1, 0, 0, 0),
  (107, .ishl, 1, 0, 0, 0),
  (108, .invokevirtual 129, 3, 173, 2, 0),
  (111, .ifCond .ne (15), 3, 126, 0, 0),
  (114, .aload_n 0, 1, 0, 0, 0),
  (115, .getfield 13, 3, 8, 1, 0),
  (118, .iconst (1), 1, 0, 0, 1),
  (119, .iaload, 1, 0, 0, 0),
  (120, .ifCond .ne (6), 3, 126, 0, 0),
  (123, .bipush (-4), 2, 0, 0, -4),
  (125, .ireturn, 1, 0, 0, 0),
  (126, .aload_n 0, 1, 0, 0, 0),
  (127, .iload_n 1, 1, 0, 0, 0),
  (128, .invokevirtual 169, 3, 195, 2, 0),
  (131, .aload_n 0, 1, 0, 0, 0),
  (132, .iload_n 1, 1, 0, 0, 0),
  (133, .iconst (0), 1, 0, 0, 0),
  (134, .invokevirtual 72, 3, 155, 3, 0),
  (137, .ireturn, 1, 0, 0, 0)]
def a_c195 : List (Nat × a_Rw) := [
  (0, .aload_n 0, 1, 0, 0, 0),
  (1, .iload_n 1, 1, 0, 0, 0),
  (2, .iconst (1), 1, 0, 0, 1),
  (3, .iconst (1), 1, 0, 0, 1),
  (4, .invokevirtual 64, 3, 145, 4, 0),
  (7, .aload_n 0, 1, 0, 0, 0),
  (8, .iload_n 1, 1, 0, 0, 0),
  (9, .invokevirtual 97, 3, 172, 2, 0),
  (12, .istore_n 2, 1, 0, 0, 0),
  (13, .iconst (0), 1, 0, 0, 0),
  (14, .istore_n 3, 1, 0, 0, 0),
  (15, .iload_n 3, 1, 0, 0, 0),
  (16, .aload_n 0, 1, 0, 0, 0),
  (17, .getfield 13, 3, 8, 1, 0),
  (20, .iconst (0), 1, 0, 0, 0),
  (21, .iaload, 1, 0, 0, 0),
  (22, .if_icmp .ge (33), 3, 55, 0, 0),
  (25, .iload_n 2, 1, 0, 0, 0),
  (26, .iload_n 3, 1, 0, 0, 0),
  (27, .invokestatic 79, 3, 161, 2, 0),
  (30, .ifCond .eq (19), 3, 49, 0, 0),
  (33, .aload_n 0, 1, 0, 0, 0),
  (34, .iload_n 3, 1, 0, 0, 0),
  (35, .iconst (5), 1, 0, 0, 5),
  (36, .aload_n 0, 1, 0, 0, 0),
  (37, .iload_n 3, 1, 0, 0, 0),
  (38, .iconst (5), 1, 0, 0, 5),
  (39, .invokevirtual 72, 3, 155, 3, 0),
  (42, .iconst (1), 1, 0, 0, 1),
  (43, .iload_n 1, 1, 0, 0, 0),
  (44, .ishl, 1, 0, 0, 0),
  (45, .ior, 1, 0, 0, 0),
  (46, .invokevirtual 64, 3, 145, 4, 0),
  (49, .iinc 3 (1), 3, 0, 0, 1),
  (52, .goto (-37), 3, 15, 0, 0),
  (55, .aload_n 0, 1, 0, 0, 0),
  (56, .iload_n 1, 1, 0, 0, 0),
  (57, .iconst (5), 1, 0, 0, 5),
  (58, .iload_n 2, 1, 0, 0, 0),
  (59, .invokevirtual 64, 3, 145, 4, 0),
  (62, .return_, 1, 0, 0, 0)]
def a_c196 : List (Nat × a_Rw) := [
  (0, .aload_n 0, 1, 0, 0, 0),
  (1, .iconst (0), 1, 0, 0, 0),
  (2, .putfield 1, 3, 8, 0, 0),
  (5, .aload_n 0, 1, 0, 0, 0),
  (6, .invokevirtual 182, 3, 148, 1, 0),
  (9, .aload_n 0, 1, 0, 0, 0),
  (10, .aload_n 0, 1, 0, 0, 0),
  (11, .iload_n 1, 1, 0, 0, 0),
  (12, .invokevirtual 223, 3, 197, 2, 0),
  (15, .invokevirtual 185, 3, 150, 2, 0),
  (18, .ireturn, 1, 0, 0, 0)]
def a_c197 : List (Nat × a_Rw) := [
  (0, .iload_n 1, 1, 0, 0, 0),
  (1, .invokestatic 133, 3, 165, 1, 0),
  (4, .ifCond .ne (6), 3, 10, 0, 0),
  (7, .bipush (-3), 2, 0, 0, -3),
  (9, .ireturn, 1, 0, 0, 0),
  (10, .aload_n 0, 1, 0, 0, 0),
  (11, .getfield 13, 3, 8, 1, 0),
  (14, .iconst (1), 1, 0, 0, 1),
  (15, .iaload, 1, 0, 0, 0),
  (16, .iconst (1), 1, 0, 0, 1),
  (17, .if_icmp .eq (12), 3, 29, 0, 0),
  (20, .aload_n 0, 1, 0, 0, 0),
  (21, .iconst (1), 1, 0, 0, 1),
  (22, .iconst (1), 1, 0, 0, 1),
  (23, .invokevirtual 76, 3, 158, 3, 0),
  (26, .ifCond .eq (6), 3, 32, 0, 0),
  (29, .bipush (-5), 2, 0, 0, -5),
  (31, .ireturn, 1, 0, 0, 0),
  (32, .aload_n 0, 1, 0, 0, 0),
  (33, .iconst (1), 1, 0, 0, 1),
  (34, .iconst (2), 1, 0, 0, 2),
  (35, .invokevirtual 76, 3, 158, 3, 0),
  (38, .istore_n 2, 1, 0, 0, 0),
  (39, .iload_n 2, 1, 0, 0, 0),
  (40, .ifCond .ne (6), 3, 46, 0, 0),
  (43, .bipush (-6), 2, 0, 0, -6),
  (45, .ireturn, 1, 0, 0, 0),
  (46, .iload_n 2, 1, 0, 0, 0),
  (47, .aload_n 0, 1, 0, 0, 0),
  (48, .iconst (2), 1, 0, 0, 2),
  (49, .aload_n 0, 1, 0, 0, 0),
  (50, .iload_n 2, 1, 0, 0, 0),
  (51, .invokestatic 160, 3, 188, 1, 0),
  (54, .iconst (2), 1, 0, 0, 2),
  (55, .invokevirtual 72, 3, 155, 3, 0),
  (58, .invokevirtual 76, 3, 158, 3, 0),
  (61, .iand, 1, 0, 0, 0),
  (62, .istore_n 2, 1, 0, 0, 0),
  (63, .aload_n 0, 1, 0, 0, 0),
  (64, .iload_n 2, 1, 0, 0, 0),
  (65, .invokevirtual 172, 3, 198, 2, 0),
  (68, .istore_n 3, 1, 0, 0, 0),
  (69, .aload_n 0, 1, 0, 0, 0),
  (70, .iload_n 2, 1, 0, 0, 0),
  (71, .invokevirtual 175, 3, 199, 2, 0),
  (74, .ifCond .ne (6), 3, 80, 0, 0),
  (77, .bipush (-4), 2, 0, 0, -4),
  (79, .ireturn, 1, 0, 0, 0),
  (80, .iconst (0), 1, 0, 0, 0),
  (81, .istore 4, 2, 0, 0, 0),
  (83, .iload 4, 2, 0, 0, 0),
  (85, .aload_n 0, 1, 0, 0, 0),
  (86, .getfield 13, 3, 8, 1, 0),
  (89, .iconst (0), 1, 0, 0, 0),
  (90, .iaload, 1, 0, 0, 0),
  (91, .if_icmp .ge (24), 3, 115, 0, 0),
  (94, .iload_n 2, 1, 0, 0, 0),
  (95, .iload 4, 2, 0, 0, 0),
  (97, .invokestatic 79, 3, 161, 2, 0),
  (100, .ifCond .eq (9), 3, 109, 0, 0),
  (103, .aload_n 0, 1, 0, 0, 0),
  (104, .iload 4, 2, 0, 0, 0),
  (106, .invokevirtual 169, 3, 195, 2, 0),
  (109, .iinc 4 (1), 3, 0, 0, 1),
  (112, .goto (-29), 3, 83, 0, 0),
  (115, .aload_n 0, 1, 0, 0, 0),
  (116, .iload_n 2, 1, 0, 0, 0),
  (117, .invokevirtual 129, 3, 173, 2, 0),
  (120, .ifCond .eq (5), 3, 125, 0, 0),
  (123, .iconst (4), 1, 0, 0, 4),
  (124, .ireturn, 1, 0, 0, 0),
  (125, .aload_n 0, 1, 0, 0, 0),
  (126, .iload_n 3, 1, 0, 0, 0),
  (127, .iload_n 2, 1, 0, 0, 0),
  (128, .invokevirtual 163, 3, 189, 3, 0),
  (131, .istore 4, 2, 0, 0, 0),
  (133, .aload_n 0, 1, 0, 0, 0),
  (134, .iload_n 1, 1, 0, 0, 0),
  (135, .invokevirtual 136, 3, 166, 2, 0),
  (138, .aload_n 0, 1, 0, 0, 0),
  (139, .iload_n 3, 1, 0, 0, 0),
  (140, .invokestatic 160, 3, 188, 1, 0),
  (143, .iload 4, 2, 0, 0, 0),
  (145, .iload_n 2, 1, 0, 0, 0),
  (146, .invokevirtual 166, 3, 191, 4, 0),
  (149, .iload 4, 2, 0, 0, 0),
  (151, .ireturn, 1, 0, 0, 0)]
def a_c198 : List (Nat × a_Rw) := [
  (0, .aload_n 0, 1, 0, 0, 0),
  (1, .invokevirtual 142, 3, 159, 1, 0),
  (4, .istore_n 2, 1, 0, 0, 0),
  (5, .iconst (0), 1, 0, 0, 0),
  (6, .istore_n 3, 1, 0, 0, 0),
  (7, .iload_n 3, 1, 0, 0, 0),
  (8, .aload_n 0, 1, 0, 0, 0),
  (9, .getfield 13, 3, 8, 1, 0),
  (12, .iconst (0), 1, 0, 0, 0),
  (13, .iaload, 1, 0, 0, 0),
  (14, .if_icmp .ge (26), 3, 40, 0, 0),
  (17, .iload_n 1, 1, 0, 0, 0),
  (18, .iload_n 3, 1, 0, 0, 0),
  (19, .invokestatic 79, 3, 161, 2, 0),
  (22, .ifCond .eq (12), 3, 34, 0, 0),
  (25, .iload_n 2, 1, 0, 0, 0),
  (26, .aload_n 0, 1, 0, 0, 0),
  (27, .iload_n 3, 1, 0, 0, 0),
  (28, .iconst (5), 1, 0, 0, 5),
  (29, .invokevirtual 72, 3, 155, 3, 0),
  (32, .iand, 1, 0, 0, 0),
  (33, .istore_n 2, 1, 0, 0, 0),
  (34, .iinc 3 (1), 3, 0, 0, 1),
  (37, .goto (-30), 3, 7, 0, 0),
  (40, .iload_n 2, 1, 0, 0, 0),
  (41, .ireturn, 1, 0, 0, 0)]
def a_c199 : List (Nat × a_Rw) := [
  (0, .aload_n 0, 1, 0, 0, 0),
  (1, .iload_n 1, 1, 0, 0, 0),
  (2, .invokevirtual 172, 3, 198, 2, 0),
  (5, .ifCond .eq (19), 3, 24, 0, 0),
  (8, .aload_n 0, 1, 0, 0, 0),
  (9, .iload_n 1, 1, 0, 0, 0),
  (10, .invokevirtual 172, 3, 198, 2, 0),
  (13, .iload_n 1, 1, 0, 0, 0),
  (14, .iconst (-1), 1, 0, 0, -1),
  (15, .ixor, 1, 0, 0, 0),
  (16, .iand, 1, 0, 0, 0),
  (17, .ifCond .ne (7), 3, 24, 0, 0),
  (20, .iconst (1), 1, 0, 0, 1),
  (21, .goto (4), 3, 25, 0, 0),
  (24, .iconst (0), 1, 0, 0, 0),
  (25, .ireturn, 1, 0, 0, 0)]
def a_c200 : List (Nat × a_Rw) := [
  (0, .aload_n 0, 1, 0, 0, 0),
  (1, .iconst (0), 1, 0, 0, 0),
  (2, .putfield 1, 3, 8, 0, 0),
  (5, .aload_n 0, 1, 0, 0, 0),
  (6, .iload_n 1, 1, 0, 0, 0),
  (7, .invokevirtual 157, 3, 154, 2, 0),
  (10, .ifCond .eq (24), 3, 34, 0, 0),
  (13, .iload_n 2, 1, 0, 0, 0),
  (14, .i2l, 1, 0, 0, 0),
  (15, .lconst 0, 1, 0, 0, 0),
  (16, .ldc2_w 180, 3, 0, 0, 5),
  (19, .invokestatic 68, 3, 147, 3, 0),
  (22, .ifCond .eq (12), 3, 34, 0, 0),
  (25, .aload_n 0, 1, 0, 0, 0),
  (26, .iload_n 1, 1, 0, 0, 0),
  (27, .iload_n 2, 1, 0, 0, 0),
  (28, .invokevirtual 72, 3, 155, 3, 0),
  (31, .goto (5), 3, 36, 0, 0),
  (34, .bipush (-2), 2, 0, 0, -2),
  (36, .ireturn, 1, 0, 0, 0)]
def a_c201 : List (Nat × a_Rw) := [
  (0, .aload_n 0, 1, 0, 0, 0),
  (1, .iconst (0), 1, 0, 0, 0),
  (2, .putfield 1, 3, 8, 0, 0),
  (5, .aload_n 0, 1, 0, 0, 0),
  (6, .iload_n 1, 1, 0, 0, 0),
  (7, .invokevirtual 157, 3, 154, 2, 0),
  (10, .ifCond .ne (6), 3, 16, 0, 0),
  (13, .bipush (-2), 2, 0, 0, -2),
  (15, .ireturn, 1, 0, 0, 0),
  (16, .aload_n 0, 1, 0, 0, 0),
  (17, .iload_n 1, 1, 0, 0, 0),
  (18, .iconst (1), 1, 0, 0, 1),
  (19, .invokevirtual 72, 3, 155, 3, 0),
  (22, .iconst (1), 1, 0, 0, 1),
  (23, .if_icmp .ne (15), 3, 38, 0, 0),
  (26, .aload_n 0, 1, 0, 0, 0),
  (27, .aload_n 0, 1, 0, 0, 0),
  (28, .iload_n 1, 1, 0, 0, 0),
  (29, .invokevirtual 97, 3, 172, 2, 0),
  (32, .invokevirtual 226, 3, 202, 2, 0),
  (35, .goto (5), 3, 40, 0, 0),
  (38, .bipush (-5), 2, 0, 0, -5),
  (40, .ireturn, 1, 0, 0, 0)]
def a_c202 : List (Nat × a_Rw) := [
  (0, .aload_n 0, 1, 0, 0, 0),
  (1, .iload_n 1, 1, 0, 0, 0),
  (2, .invokevirtual 129, 3, 173, 2, 0),
  (5, .ifCond .eq (7), 3, 12, 0, 0),
  (8, .iconst (-1), 1, 0, 0, -1),
  (9, .goto (9), 3, 18, 0, 0),
  (12, .aload_n 0, 1, 0, 0, 0),
  (13, .iload_n 1, 1, 0, 0, 0),
  (14, .iload_n 1, 1, 0, 0, 0),
  (15, .invokevirtual 163, 3, 189, 3, 0),
  (18, .ireturn, 1, 0, 0, 0)]
def a_c203 : List (Nat × a_Rw) := [
  (0, .aload_n 0, 1, 0, 0, 0),
  (1, .iconst (0), 1, 0, 0, 0),
  (2, .putfield 1, 3, 8, 0, 0),
  (5, .aload_n 0, 1, 0, 0, 0),
  (6, .iload_n 1, 1, 0, 0, 0),
  (7, .invokevirtual 157, 3, 154, 2, 0),
  (10, .ifCond .ne (6), 3, 16, 0, 0),
  (13, .bipush (-2), 2, 0, 0, -2),
  (15, .ireturn, 1, 0, 0, 0),
  (16, .aload_n 0, 1, 0, 0, 0),
  (17, .iload_n 1, 1, 0, 0, 0),
  (18, .iconst (1), 1, 0, 0, 1),
  (19, .invokevirtual 72, 3, 155, 3, 0),
  (22, .iconst (1), 1, 0, 0, 1),
  (23, .if_icmp .eq (6), 3, 29, 0, 0),
  (26, .bipush (-5), 2, 0, 0, -5),
  (28, .ireturn, 1, 0, 0, 0),
  (29, .aload_n 0, 1, 0, 0, 0),
  (30, .aload_n 0, 1, 0, 0, 0),
  (31, .iload_n 1, 1, 0, 0, 0),
  (32, .invokevirtual 97, 3, 172, 2, 0),
  (35, .invokevirtual 226, 3, 202, 2, 0),
  (38, .istore_n 2, 1, 0, 0, 0),
  (39, .aload_n 0, 1, 0, 0, 0),
  (40, .iload_n 1, 1, 0, 0, 0),
  (41, .invokevirtual 97, 3, 172, 2, 0),
  (44, .invokestatic 148, 3, 179, 1, 0),
  (47, .iconst (1), 1, 0, 0, 1),
  (48, .isub, 1, 0, 0, 0),
  (49, .istore_n 3, 1, 0, 0, 0),
  (50, .iload_n 2, 1, 0, 0, 0),
  (51, .iconst (-1), 1, 0, 0, -1),
  (52, .if_icmp .ne (7), 3, 59, 0, 0),
  (55, .iconst (-1), 1, 0, 0, -1),
  (56, .goto (15), 3, 71, 0, 0),
  (59, .iload_n 2, 1, 0, 0, 0),
  (60, .iconst (2), 1, 0, 0, 2),
  (61, .if_icmp .ge (7), 3, 68, 0, 0),
  (64, .iload_n 3, 1, 0, 0, 0),
  (65, .goto (6), 3, 71, 0, 0),
  (68, .iconst (2), 1, 0, 0, 2),
  (69, .iload_n 3, 1, 0, 0, 0),
  (70, .imul, 1, 0, 0, 0),
  (71, .ireturn, 1, 0, 0, 0)]
def a_c204 : List (Nat × a_Rw) := [
  (0, .aload_n 0, 1, 0, 0, 0),
  (1, .iconst (0), 1, 0, 0, 0),
  (2, .putfield 1, 3, 8, 0, 0),
  (5, .iconst (0), 1, 0, 0, 0),
  (6, .istore_n 1, 1, 0, 0, 0),
  (7, .iconst (0), 1, 0, 0, 0),
  (8, .istore_n 2, 1, 0, 0, 0),
  (9, .iload_n 2, 1, 0, 0, 0),
  (10, .aload_n 0, 1, 0, 0, 0),
  (11, .getfield 13, 3, 8, 1, 0),
  (14, .iconst (0), 1, 0, 0, 0),
  (15, .iaload, 1, 0, 0, 0),
  (16, .if_icmp .ge (41), 3, 57, 0, 0),
  (19, .iload_n 1, 1, 0, 0, 0),
  (20, .aload_n 0, 1, 0, 0, 0),
  (21, .iload_n 2, 1, 0, 0, 0),
  (22, .iconst (1), 1, 0, 0, 1),
  (23, .invokevirtual 72, 3, 155, 3, 0),
  (26, .iconst (1), 1, 0, 0, 1),
  (27, .if_icmp .ne (21), 3, 48, 0, 0),
  (30, .aload_n 0, 1, 0, 0, 0),
  (31, .aload_n 0, 1, 0, 0, 0),
  (32, .iload_n 2, 1, 0, 0, 0),
  (33, .invokevirtual 97, 3, 172, 2, 0),
  (36, .invokevirtual 229, 3, 205, 2, 0),
  (39, .ifCond .eq (9), 3, 48, 0, 0),
  (42, .iconst (1), 1, 0, 0, 1),
  (43, .iload_n 2, 1, 0, 0, 0),
  (44, .ishl, 1, 0, 0, 0),
  (45, .goto (4), 3, 49, 0, 0),
  (48, .iconst (0), 1, 0, 0, 0),
  (49, .ior, 1, 0, 0, 0),
  (50, .istore_n 1, 1, 0, 0, 0),
  (51, .iinc 2 (1), 3, 0, 0, 1),
  (54, .goto (-45), 3, 9, 0, 0),
  (57, .iload_n 1, 1, 0, 0, 0),
  (58, .ireturn, 1, 0, 0, 0)]
def a_c205 : List (Nat × a_Rw) := [
  (0, .aload_n 0, 1, 0, 0, 0),
  (1, .iload_n 1, 1, 0, 0, 0),
  (2, .invokevirtual 129, 3, 173, 2, 0),
  (5, .ifCond .ne (17), 3, 22, 0, 0),
  (8, .aload_n 0, 1, 0, 0, 0),
  (9, .iload_n 1, 1, 0, 0, 0),
  (10, .iload_n 1, 1, 0, 0, 0),
  (11, .invokevirtual 163, 3, 189, 3, 0),
  (14, .iconst (-1), 1, 0, 0, -1),
  (15, .if_icmp .ne (7), 3, 22, 0, 0),
  (18, .iconst (1), 1, 0, 0, 1),
  (19, .goto (4), 3, 23, 0, 0),
  (22, .iconst (0), 1, 0, 0, 0),
  (23, .ireturn, 1, 0, 0, 0)]
def a_c206 : List (Nat × a_Rw) := [
  (0, .aload_n 0, 1, 0, 0, 0),
  (1, .iconst (0), 1, 0, 0, 0),
  (2, .putfield 1, 3, 8, 0, 0),
  (5, .aload_n 0, 1, 0, 0, 0),
  (6, .iload_n 1, 1, 0, 0, 0),
  (7, .invokevirtual 232, 3, 207, 2, 0),
  (10, .ifCond .eq (11), 3, 21, 0, 0),
  (13, .aload_n 0, 1, 0, 0, 0),
  (14, .iload_n 1, 1, 0, 0, 0),
  (15, .invokevirtual 226, 3, 202, 2, 0),
  (18, .goto (5), 3, 23, 0, 0),
  (21, .bipush (-2), 2, 0, 0, -2),
  (23, .ireturn, 1, 0, 0, 0)]
def a_c207 : List (Nat × a_Rw) := [
  (0, .iload_n 1, 1, 0, 0, 0),
  (1, .i2l, 1, 0, 0, 0),
  (2, .lconst 1, 1, 0, 0, 1),
  (3, .aload_n 0, 1, 0, 0, 0),
  (4, .invokevirtual 142, 3, 159, 1, 0),
  (7, .i2l, 1, 0, 0, 0),
  (8, .invokestatic 68, 3, 147, 3, 0),
  (11, .ireturn, 1, 0, 0, 0)]
def a_c208 : List (Nat × a_Rw) := [
  (0, .aload_n 0, 1, 0, 0, 0),
  (1, .iconst (0), 1, 0, 0, 0),
  (2, .putfield 1, 3, 8, 0, 0),
  (5, .iconst (0), 1, 0, 0, 0),
  (6, .istore_n 1, 1, 0, 0, 0),
  (7, .iconst (1), 1, 0, 0, 1),
  (8, .istore_n 2, 1, 0, 0, 0),
  (9, .iload_n 2, 1, 0, 0, 0),
  (10, .aload_n 0, 1, 0, 0, 0),
  (11, .invokevirtual 142, 3, 159, 1, 0),
  (14, .if_icmp .gt (59), 3, 73, 0, 0),
  (17, .aload_n 0, 1, 0, 0, 0),
  (18, .iload_n 2, 1, 0, 0, 0),
  (19, .invokevirtual 235, 3, 209, 2, 0),
  (22, .iconst (1), 1, 0, 0, 1),
  (23, .if_icmp .eq (6), 3, 29, 0, 0),
  (26, .goto (41), 3, 67, 0, 0),
  (29, .iconst (1), 1, 0, 0, 1),
  (30, .istore_n 3, 1, 0, 0, 0),
  (31, .iload_n 3, 1, 0, 0, 0),
  (32, .aload_n 0, 1, 0, 0, 0),
  (33, .invokevirtual 142, 3, 159, 1, 0),
  (36, .if_icmp .gt (31), 3, 67, 0, 0),
  (39, .iload_n 1, 1, 0, 0, 0),
  (40, .iload_n 2, 1, 0, 0, 0),
  (41, .iload_n 3, 1, 0, 0, 0),
  (42, .iand, 1, 0, 0, 0),
  (43, .ifCond .ne (15), 3, 58, 0, 0),
  (46, .aload_n 0, 1, 0, 0, 0),
  (47, .iload_n 3, 1, 0, 0, 0),
  (48, .invokevirtual 235, 3, 209, 2, 0),
  (51, .ifCond .ne (7), 3, 58, 0, 0),
  (54, .iconst (1), 1, 0, 0, 1),
  (55, .goto (4), 3, 59, 0, 0),
  (58, .iconst (0), 1, 0, 0, 0),
  (59, .iadd, 1, 0, 0, 0),
  (60, .istore_n 1, 1, 0, 0, 0),
  (61, .iinc 3 (1), 3, 0, 0, 1),
  (64, .goto (-33), 3, 31, 0, 0),
  (67, .iinc 2 (1), 3, 0, 0, 1),
  (70, .goto (-61), 3, 9, 0, 0),
  (73, .iload_n 1, 1, 0, 0, 0),
  (74, .ireturn, 1, 0, 0, 0)]
def a_c209 : List (Nat × a_Rw) := [
  (0, .aload_n 0, 1, 0, 0, 0),
  (1, .iload_n 1, 1, 0, 0, 0),
  (2, .invokevirtual 129, 3, 173, 2, 0),
  (5, .ifCond .eq (18), 3, 23, 0, 0),
  (8, .aload_n 0, 1, 0, 0, 0),
  (9, .iload_n 1, 1, 0, 0, 0),
  (10, .iconst (4), 1, 0, 0, 4),
  (11, .invokevirtual 151, 3, 190, 3, 0),
  (14, .ifCond .eq (7), 3, 21, 0, 0),
  (17, .iconst (1), 1, 0, 0, 1),
  (18, .goto (4), 3, 22, 0, 0),
  (21, .iconst (0), 1, 0, 0, 0),
  (22, .ireturn, 1, 0, 0, 0),
  (23, .aload_n 0, 1, 0, 0, 0),
  (24, .iload_n 1, 1, 0, 0, 0),
  (25, .iload_n 1, 1, 0, 0, 0),
  (26, .invokevirtual 163, 3, 189, 3, 0),
  (29, .istore_n 2, 1, 0, 0, 0),
  (30, .iload_n 2, 1, 0, 0, 0),
  (31, .iconst (-1), 1, 0, 0, -1),
  (32, .if_icmp .ne (7), 3, 39, 0, 0),
  (35, .iconst (-1), 1, 0, 0, -1),
  (36, .goto (18), 3, 54, 0, 0),
  (39, .iload_n 2, 1, 0, 0, 0),
  (40, .iconst (1), 1, 0, 0, 1),
  (41, .if_icmp .eq (8), 3, 49, 0, 0),
  (44, .iload_n 2, 1, 0, 0, 0),
  (45, .iconst (2), 1, 0, 0, 2),
  (46, .if_icmp .ne (7), 3, 53, 0, 0),
  (49, .iconst (1), 1, 0, 0, 1),
  (50, .goto (4), 3, 54, 0, 0),
  (53, .iconst (0), 1, 0, 0, 0),
  (54, .ireturn, 1, 0, 0, 0)]
def a_c210 : List (Nat × a_Rw) := [
  (0, .aload_n 0, 1, 0, 0, 0),
  (1, .iconst (0), 1, 0, 0, 0),
  (2, .putfield 1, 3, 8, 0, 0),
  (5, .iload_n 1, 1, 0, 0, 0),
  (6, .i2l, 1, 0, 0, 0),
  (7, .lconst 0, 1, 0, 0, 0),
  (8, .aload_n 0, 1, 0, 0, 0),
  (9, .getfield 13, 3, 8, 1, 0),
  (12, .iconst (0), 1, 0, 0, 0),
  (13, .iaload, 1, 0, 0, 0),
  (14, .iconst (1), 1, 0, 0, 1),
  (15, .isub, 1, 0, 0, 0),
  (16, .i2l, 1, 0, 0, 0),
  (17, .invokestatic 68, 3, 147, 3, 0),
  (20, .ifCond .ne (6), 3, 26, 0, 0),
  (23, .bipush (-3), 2, 0, 0, -3),
  (25, .ireturn, 1, 0, 0, 0),
  (26, .iconst (0), 1, 0, 0, 0),
  (27, .istore_n 2, 1, 0, 0, 0),
  (28, .iconst (0), 1, 0, 0, 0),
  (29, .istore_n 3, 1, 0, 0, 0),
  (30, .iload_n 3, 1, 0, 0, 0),
  (31, .aload_n 0, 1, 0, 0, 0),
  (32, .invokevirtual 142, 3, 159, 1, 0),
  (35, .if_icmp .gt (46), 3, 81, 0, 0),
  (38, .iload_n 2, 1, 0, 0, 0),
  (39, .iload_n 3, 1, 0, 0, 0),
  (40, .invokestatic 148, 3, 179, 1, 0),
  (43, .iload_n 1, 1, 0, 0, 0),
  (44, .if_icmp .ne (28), 3, 72, 0, 0),
  (47, .iload_n 3, 1, 0, 0, 0),
  (48, .aload_n 0, 1, 0, 0, 0),
  (49, .iconst (1), 1, 0, 0, 1),
  (50, .iconst (1), 1, 0, 0, 1),
  (51, .invokevirtual 76, 3, 158, 3, 0),
  (54, .iconst (-1), 1, 0, 0, -1),
  (55, .ixor, 1, 0, 0, 0),
  (56, .iand, 1, 0, 0, 0),
  (57, .ifCond .ne (15), 3, 72, 0, 0),
  (60, .aload_n 0, 1, 0, 0, 0),
  (61, .iload_n 3, 1, 0, 0, 0),
  (62, .invokevirtual 238, 3, 211, 2, 0),
  (65, .ifCond .eq (7), 3, 72, 0, 0),
  (68, .iconst (1), 1, 0, 0, 1),
  (69, .goto (4), 3, 73, 0, 0),
  (72, .iconst (0), 1, 0, 0, 0),
  (73, .iadd, 1, 0, 0, 0),
  (74, .istore_n 2, 1, 0, 0, 0),
  (75, .iinc 3 (1), 3, 0, 0, 1),
  (78, .goto (-48), 3, 30, 0, 0),
  (81, .iload_n 2, 1, 0, 0, 0),
  (82, .ireturn, 1, 0, 0, 0)]
def a_c211 : List (Nat × a_Rw) := [
  (0, .aload_n 0, 1, 0, 0, 0),
  (1, .iconst (1), 1, 0, 0, 1),
  (2, .iconst (1), 1, 0, 0, 1),
  (3, .invokevirtual 76, 3, 158, 3, 0),
  (6, .iload_n 1, 1, 0, 0, 0),
  (7, .iconst (-1), 1, 0, 0, -1),
  (8, .ixor, 1, 0, 0, 0),
  (9, .iand, 1, 0, 0, 0),
  (10, .istore_n 2, 1, 0, 0, 0),
  (11, .iconst (0), 1, 0, 0, 0),
  (12, .istore_n 3, 1, 0, 0, 0),
  (13, .iload_n 3, 1, 0, 0, 0),
  (14, .aload_n 0, 1, 0, 0, 0),
  (15, .getfield 13, 3, 8, 1, 0),
  (18, .iconst (0), 1, 0, 0, 0),
  (19, .iaload, 1, 0, 0, 0),
  (20, .if_icmp .ge (39), 3, 59, 0, 0),
  (23, .iload_n 2, 1, 0, 0, 0),
  (24, .iload_n 3, 1, 0, 0, 0),
  (25, .invokestatic 79, 3, 161, 2, 0),
  (28, .ifCond .eq (25), 3, 53, 0, 0),
  (31, .aload_n 0, 1, 0, 0, 0),
  (32, .iload_n 2, 1, 0, 0, 0),
  (33, .aload_n 0, 1, 0, 0, 0),
  (34, .iconst (2), 1, 0, 0, 2),
  (35, .aload_n 0, 1, 0, 0, 0),
  (36, .iload_n 3, 1, 0, 0, 0),
  (37, .iconst (2), 1, 0, 0, 2),
  (38, .invokevirtual 72, 3, 155, 3, 0),
  (41, .invokevirtual 76, 3, 158, 3, 0),
  (44, .iand, 1, 0, 0, 0),
  (45, .invokevirtual 229, 3, 205, 2, 0),
  (48, .ifCond .eq (5), 3, 53, 0, 0),
  (51, .iconst (0), 1, 0, 0, 0),
  (52, .ireturn, 1, 0, 0, 0),
  (53, .iinc 3 (1), 3, 0, 0, 1),
  (56, .goto (-43), 3, 13, 0, 0),
  (59, .iconst (1), 1, 0, 0, 1),
  (60, .ireturn, 1, 0, 0, 0)]
def a_c212 : List (Nat × a_Rw) := [
  (0, .aload_n 0, 1, 0, 0, 0),
  (1, .iconst (0), 1, 0, 0, 0),
  (2, .putfield 1, 3, 8, 0, 0),
  (5, .aload_n 0, 1, 0, 0, 0),
  (6, .iload_n 1, 1, 0, 0, 0),
  (7, .invokevirtual 232, 3, 207, 2, 0),
  (10, .ifCond .eq (11), 3, 21, 0, 0),
  (13, .aload_n 0, 1, 0, 0, 0),
  (14, .iload_n 1, 1, 0, 0, 0),
  (15, .invokevirtual 172, 3, 198, 2, 0),
  (18, .goto (5), 3, 23, 0, 0),
  (21, .bipush (-2), 2, 0, 0, -2),
  (23, .ireturn, 1, 0, 0, 0)]
def a_c213 : List (Nat × a_Rw) := [
  (0, .aload_n 0, 1, 0, 0, 0),
  (1, .iconst (0), 1, 0, 0, 0),
  (2, .putfield 1, 3, 8, 0, 0),
  (5, .iconst (-1), 1, 0, 0, -1),
  (6, .istore_n 1, 1, 0, 0, 0),
  (7, .aload_n 0, 1, 0, 0, 0),
  (8, .invokevirtual 142, 3, 159, 1, 0),
  (11, .istore_n 2, 1, 0, 0, 0),
  (12, .iload_n 2, 1, 0, 0, 0),
  (13, .ifCond .le (35), 3, 48, 0, 0),
  (16, .iload_n 1, 1, 0, 0, 0),
  (17, .iconst (-1), 1, 0, 0, -1),
  (18, .if_icmp .eq (14), 3, 32, 0, 0),
  (21, .iload_n 2, 1, 0, 0, 0),
  (22, .invokestatic 148, 3, 179, 1, 0),
  (25, .iload_n 1, 1, 0, 0, 0),
  (26, .invokestatic 148, 3, 179, 1, 0),
  (29, .if_icmp .gt (13), 3, 42, 0, 0),
  (32, .aload_n 0, 1, 0, 0, 0),
  (33, .iload_n 2, 1, 0, 0, 0),
  (34, .invokevirtual 175, 3, 199, 2, 0),
  (37, .ifCond .eq (5), 3, 42, 0, 0),
  (40, .iload_n 2, 1, 0, 0, 0),
  (41, .istore_n 1, 1, 0, 0, 0),
  (42, .iinc 2 (-1), 3, 0, 0, -1),
  (45, .goto (-33), 3, 12, 0, 0),
  (48, .iload_n 1, 1, 0, 0, 0),
  (49, .ireturn, 1, 0, 0, 0)]
def a_c214 : List (Nat × a_Rw) := [
  (0, .aload_n 0, 1, 0, 0, 0),
  (1, .iconst (0), 1, 0, 0, 0),
  (2, .putfield 1, 3, 8, 0, 0),
  (5, .iload_n 1, 1, 0, 0, 0),
  (6, .i2l, 1, 0, 0, 0),
  (7, .lconst 0, 1, 0, 0, 0),
  (8, .ldc2_w 191, 3, 0, 0, 3),
  (11, .invokestatic 68, 3, 147, 3, 0),
  (14, .ifCond .ne (6), 3, 20, 0, 0),
  (17, .bipush (-2), 2, 0, 0, -2),
  (19, .ireturn, 1, 0, 0, 0),
  (20, .iload_n 1, 1, 0, 0, 0),
  (21, .iconst (2), 1, 0, 0, 2),
  (22, .irem, 1, 0, 0, 0),
  (23, .ifCond .ne (7), 3, 30, 0, 0),
  (26, .iconst (3), 1, 0, 0, 3),
  (27, .goto (4), 3, 31, 0, 0),
  (30, .iconst (4), 1, 0, 0, 4),
  (31, .istore_n 2, 1, 0, 0, 0),
  (32, .iconst (0), 1, 0, 0, 0),
  (33, .istore_n 3, 1, 0, 0, 0),
  (34, .iconst (1), 1, 0, 0, 1),
  (35, .istore 4, 2, 0, 0, 0),
  (37, .iload 4, 2, 0, 0, 0),
  (39, .aload_n 0, 1, 0, 0, 0),
  (40, .invokevirtual 142, 3, 159, 1, 0),
  (43, .if_icmp .gt (45), 3, 88, 0, 0),
  (46, .iload_n 3, 1, 0, 0, 0),
  (47, .iload_n 1, 1, 0, 0, 0),
  (48, .iconst (2), 1, 0, 0, 2),
  (49, .if_icmp .ge (16), 3, 65, 0, 0),
  (52, .aload_n 0, 1, 0, 0, 0),
  (53, .iload 4, 2, 0, 0, 0),
  (55, .iload_n 2, 1, 0, 0, 0),
  (56, .invokevirtual 241, 3, 215, 3, 0),
  (59, .ifCond .eq (20), 3, 79, 0, 0),
  (62, .goto (13), 3, 75, 0, 0),
  (65, .aload_n 0, 1, 0, 0, 0),
  (66, .iload 4, 2, 0, 0, 0),
  (68, .iload_n 2, 1, 0, 0, 0),
  (69, .invokevirtual 244, 3, 216, 3, 0),
  (72, .ifCond .eq (7), 3, 79, 0, 0),
  (75, .iconst (1), 1, 0, 0, 1),
  (76, .goto (4), 3, 80, 0, 0),
  (79, .iconst (0), 1, 0, 0, 0),
  (80, .iadd, 1, 0, 0, 0),
  (81, .istore_n 3, 1, 0, 0, 0),
  (82, .iinc 4 (1), 3, 0, 0, 1),
  (85, .goto (-48), 3, 37, 0, 0),
  (88, .iload_n 3, 1, 0, 0, 0),
  (89, .ireturn, 1, 0, 0, 0)]
def a_c215 : List (Nat × a_Rw) := [
  (0, .aload_n 0, 1, 0, 0, 0),
  (1, .iload_n 1, 1, 0, 0, 0),
  (2, .invokevirtual 145, 3, 160, 2, 0),
  (5, .aload_n 0, 1, 0, 0, 0),
  (6, .getfield 13, 3, 8, 1, 0),
  (9, .iload_n 2, 1, 0, 0, 0),
  (10, .iaload, 1, 0, 0, 0),
  (11, .if_icmp .lt (7), 3, 18, 0, 0),
  (14, .iconst (1), 1, 0, 0, 1),
  (15, .goto (4), 3, 19, 0, 0),
  (18, .iconst (0), 1, 0, 0, 0),
  (19, .ireturn, 1, 0, 0, 0)]
def a_c216 : List (Nat × a_Rw) := [
  (0, .iconst (0), 1, 0, 0, 0),
  (1, .istore_n 3, 1, 0, 0, 0),
  (2, .iload_n 3, 1, 0, 0, 0),
  (3, .aload_n 0, 1, 0, 0, 0),
  (4, .getfield 13, 3, 8, 1, 0),
  (7, .iconst (0), 1, 0, 0, 0),
  (8, .iaload, 1, 0, 0, 0),
  (9, .if_icmp .ge (34), 3, 43, 0, 0),
  (12, .iload_n 1, 1, 0, 0, 0),
  (13, .iload_n 3, 1, 0, 0, 0),
  (14, .invokestatic 79, 3, 161, 2, 0),
  (17, .ifCond .eq (20), 3, 37, 0, 0),
  (20, .aload_n 0, 1, 0, 0, 0),
  (21, .iload_n 1, 1, 0, 0, 0),
  (22, .iconst (1), 1, 0, 0, 1),
  (23, .iload_n 3, 1, 0, 0, 0),
  (24, .ishl, 1, 0, 0, 0),
  (25, .iconst (-1), 1, 0, 0, -1),
  (26, .ixor, 1, 0, 0, 0),
  (27, .iand, 1, 0, 0, 0),
  (28, .iload_n 2, 1, 0, 0, 0),
  (29, .invokevirtual 241, 3, 215, 3, 0),
  (32, .ifCond .eq (5), 3, 37, 0, 0),
  (35, .iconst (0), 1, 0, 0, 0),
  (36, .ireturn, 1, 0, 0, 0),
  (37, .iinc 3 (1), 3, 0, 0, 1),
  (40, .goto (-38), 3, 2, 0, 0),
  (43, .aload_n 0, 1, 0, 0, 0),
  (44, .iload_n 1, 1, 0, 0, 0),
  (45, .iload_n 2, 1, 0, 0, 0),
  (46, .invokevirtual 241, 3, 215, 3, 0),
  (49, .ireturn, 1, 0, 0, 0)]
def a_c217 : List (Nat × a_Rw) := [
  (0, .aload_n 0, 1, 0, 0, 0),
  (1, .iconst (0), 1, 0, 0, 0),
  (2, .putfield 1, 3, 8, 0, 0),
  (5, .aload_n 0, 1, 0, 0, 0),
  (6, .iload_n 1, 1, 0, 0, 0),
  (7, .invokevirtual 157, 3, 154, 2, 0),
  (10, .ifCond .eq (15), 3, 25, 0, 0),
  (13, .iload_n 3, 1, 0, 0, 0),
  (14, .i2l, 1, 0, 0, 0),
  (15, .lconst 0, 1, 0, 0, 0),
  (16, .ldc2_w 178, 3, 0, 0, 2),
  (19, .invokestatic 68, 3, 147, 3, 0),
  (22, .ifCond .ne (6), 3, 28, 0, 0),
  (25, .bipush (-2), 2, 0, 0, -2),
  (27, .ireturn, 1, 0, 0, 0),
  (28, .aload_n 0, 1, 0, 0, 0),
  (29, .getfield 13, 3, 8, 1, 0),
  (32, .iconst (0), 1, 0, 0, 0),
  (33, .aload_n 0, 1, 0, 0, 0),
  (34, .getfield 20, 3, 8, 3, 0),
  (37, .iconst (0), 1, 0, 0, 0),
  (38, .invokestatic 87, 3, 149, 4, 0),
  (41, .aload_n 0, 1, 0, 0, 0),
  (42, .iload_n 1, 1, 0, 0, 0),
  (43, .iload_n 2, 1, 0, 0, 0),
  (44, .invokevirtual 217, 3, 187, 3, 0),
  (47, .istore 4, 2, 0, 0, 0),
  (49, .iload 4, 2, 0, 0, 0),
  (51, .ifCond .lt (39), 3, 90, 0, 0),
  (54, .iload_n 3, 1, 0, 0, 0),
  (55, .ifCond .ne (10), 3, 65, 0, 0),
  (58, .aload_n 0, 1, 0, 0, 0),
  (59, .invokevirtual 83, 3, 174, 1, 0),
  (62, .goto (26), 3, 88, 0, 0),
  (65, .iload_n 3, 1, 0, 0, 0),
  (66, .iconst (1), 1, 0, 0, 1),
  (67, .if_icmp .ne (12), 3, 79, 0, 0),
  (70, .aload_n 0, 1, 0, 0, 0),
  (71, .iconst (1), 1, 0, 0, 1),
  (72, .iconst (1), 1, 0, 0, 1),
  (73, .invokevirtual 76, 3, 158, 3, 0),
  (76, .goto (12), 3, 88, 0, 0),
  (79, .aload_n 0, 1, 0, 0, 0),
  (80, .aload_n 0, 1, 0, 0, 0),
  (81, .iload_n 1, 1, 0, 0, 0),
  (82, .invokevirtual 97, 3, 172, 2, 0),
  (85, .invokevirtual 247, 3, 218, 2, 0),
  (88, .istore 4, 2, 0, 0, 0),
  (90, .aload_n 0, 1, 0, 0, 0),
  (91, .getfield 20, 3, 8, 3, 0),
  (94, .iconst (0), 1, 0, 0, 0),
  (95, .aload_n 0, 1, 0, 0, 0),
  (96, .getfield 13, 3, 8, 1, 0),
  (99, .iconst (0), 1, 0, 0, 0),
  (100, .invokestatic 87, 3, 149, 4, 0),
  (103, .iload 4, 2, 0, 0, 0),
  (105, .ireturn, 1, 0, 0, 0)]
def a_c218 : List (Nat × a_Rw) := [
  (0, .iload_n 1, 1, 0, 0, 0),
  (1, .ifCond .ne (7), 3, 8, 0, 0),
  (4, .iconst (-1), 1, 0, 0, -1),
  (5, .goto (8), 3, 13, 0, 0),
  (8, .aload_n 0, 1, 0, 0, 0),
  (9, .iload_n 1, 1, 0, 0, 0),
  (10, .invokevirtual 226, 3, 202, 2, 0),
  (13, .ireturn, 1, 0, 0, 0)]
def a_c219 : List (Nat × a_Rw) := [
  (0, .aload_n 0, 1, 0, 0, 0),
  (1, .iconst (0), 1, 0, 0, 0),
  (2, .putfield 1, 3, 8, 0, 0),
  (5, .iload_n 1, 1, 0, 0, 0),
  (6, .i2l, 1, 0, 0, 0),
  (7, .lconst 0, 1, 0, 0, 0),
  (8, .ldc2_w 259, 3, 0, 0, 9999),
  (11, .invokestatic 68, 3, 147, 3, 0),
  (14, .ifCond .eq (15), 3, 29, 0, 0),
  (17, .iload_n 2, 1, 0, 0, 0),
  (18, .i2l, 1, 0, 0, 0),
  (19, .lconst 1, 1, 0, 0, 1),
  (20, .ldc2_w 261, 3, 0, 0, 40),
  (23, .invokestatic 68, 3, 147, 3, 0),
  (26, .ifCond .ne (6), 3, 32, 0, 0),
  (29, .bipush (-3), 2, 0, 0, -3),
  (31, .ireturn, 1, 0, 0, 0),
  (32, .iload_n 3, 1, 0, 0, 0),
  (33, .i2l, 1, 0, 0, 0),
  (34, .lconst 0, 1, 0, 0, 0),
  (35, .ldc2_w 178, 3, 0, 0, 2),
  (38, .invokestatic 68, 3, 147, 3, 0),
  (41, .ifCond .ne (6), 3, 47, 0, 0),
  (44, .bipush (-2), 2, 0, 0, -2),
  (46, .ireturn, 1, 0, 0, 0),
  (47, .aload_n 0, 1, 0, 0, 0),
  (48, .getfield 13, 3, 8, 1, 0),
  (51, .iconst (0), 1, 0, 0, 0),
  (52, .aload_n 0, 1, 0, 0, 0),
  (53, .getfield 20, 3, 8, 3, 0),
  (56, .iconst (0), 1, 0, 0, 0),
  (57, .invokestatic 87, 3, 149, 4, 0),
  (60, .aload_n 0, 1, 0, 0, 0),
  (61, .iload_n 1, 1, 0, 0, 0),
  (62, .putfield 250, 3, 8, 10, 0),
  (65, .iconst (0), 1, 0, 0, 0),
  (66, .istore 4, 2, 0, 0, 0),
  (68, .iconst (0), 1, 0, 0, 0),
  (69, .istore 5, 2, 0, 0, 0),
  (71, .iload 5, 2, 0, 0, 0),
  (73, .iload_n 2, 1, 0, 0, 0),
  (74, .if_icmp .ge (26), 3, 100, 0, 0),
  (77, .iload 4, 2, 0, 0, 0),
  (79, .aload_n 0, 1, 0, 0, 0),
  (80, .invokevirtual 263, 3, 220, 1, 0),
  (83, .ifCond .lt (7), 3, 90, 0, 0),
  (86, .iconst (1), 1, 0, 0, 1),
  (87, .goto (4), 3, 91, 0, 0),
  (90, .iconst (0), 1, 0, 0, 0),
  (91, .iadd, 1, 0, 0, 0),
  (92, .istore 4, 2, 0, 0, 0),
  (94, .iinc 5 (1), 3, 0, 0, 1),
  (97, .goto (-26), 3, 71, 0, 0),
  (100, .iload_n 3, 1, 0, 0, 0),
  (101, .ifCond .ne (10), 3, 111, 0, 0),
  (104, .aload_n 0, 1, 0, 0, 0),
  (105, .invokevirtual 266, 3, 223, 1, 0),
  (108, .goto (19), 3, 127, 0, 0),
  (111, .iload_n 3, 1, 0, 0, 0),
  (112, .iconst (1), 1, 0, 0, 1),
  (113, .if_icmp .ne (12), 3, 125, 0, 0),
  (116, .aload_n 0, 1, 0, 0, 0),
  (117, .iconst (1), 1, 0, 0, 1),
  (118, .iconst (1), 1, 0, 0, 1),
  (119, .invokevirtual 76, 3, 158, 3, 0),
  (122, .goto (5), 3, 127, 0, 0),
  (125, .iload 4, 2, 0, 0, 0),
  (127, .istore 5, 2, 0, 0, 0),
  (129, .aload_n 0, 1, 0, 0, 0),
  (130, .getfield 20, 3, 8, 3, 0),
  (133, .iconst (0), 1, 0, 0, 0),
  (134, .aload_n 0, 1, 0, 0, 0),
  (135, .getfield 13, 3, 8, 1, 0),
  (138, .iconst (0), 1, 0, 0, 0),
  (139, .invokestatic 87, 3, 149, 4, 0),
  (142, .iload 5, 2, 0, 0, 0),
  (144, .ireturn, 1, 0, 0, 0)]
def a_c220 : List (Nat × a_Rw) := [
  (0, .aload_n 0, 1, 0, 0, 0),
  (1, .bipush (8), 2, 0, 0, 8),
  (3, .invokevirtual 253, 3, 221, 2, 0),
  (6, .istore_n 1, 1, 0, 0, 0),
  (7, .iload_n 1, 1, 0, 0, 0),
  (8, .iconst (3), 1, 0, 0, 3),
  (9, .if_icmp .ge (39), 3, 48, 0, 0),
  (12, .aload_n 0, 1, 0, 0, 0),
  (13, .invokevirtual 256, 3, 222, 1, 0),
  (16, .istore_n 2, 1, 0, 0, 0),
  (17, .iload_n 1, 1, 0, 0, 0),
  (18, .ifCond .ne (11), 3, 29, 0, 0),
  (21, .aload_n 0, 1, 0, 0, 0),
  (22, .iload_n 2, 1, 0, 0, 0),
  (23, .invokevirtual 199, 3, 164, 2, 0),
  (26, .goto (21), 3, 47, 0, 0),
  (29, .iload_n 1, 1, 0, 0, 0),
  (30, .iconst (1), 1, 0, 0, 1),
  (31, .if_icmp .ne (11), 3, 42, 0, 0),
  (34, .aload_n 0, 1, 0, 0, 0),
  (35, .iload_n 2, 1, 0, 0, 0),
  (36, .invokevirtual 202, 3, 176, 2, 0),
  (39, .goto (8), 3, 47, 0, 0),
  (42, .aload_n 0, 1, 0, 0, 0),
  (43, .iload_n 2, 1, 0, 0, 0),
  (44, .invokevirtual 205, 3, 178, 2, 0),
  (47, .ireturn, 1, 0, 0, 0),
  (48, .aload_n 0, 1, 0, 0, 0),
  (49, .aload_n 0, 1, 0, 0, 0),
  (50, .getfield 13, 3, 8, 1, 0),
  (53, .iconst (0), 1, 0, 0, 0),
  (54, .iaload, 1, 0, 0, 0),
  (55, .invokevirtual 253, 3, 221, 2, 0),
  (58, .istore_n 2, 1, 0, 0, 0),
  (59, .iload_n 1, 1, 0, 0, 0),
  (60, .bipush (6), 2, 0, 0, 6),
  (62, .if_icmp .ge (35), 3, 97, 0, 0),
  (65, .iload_n 1, 1, 0, 0, 0),
  (66, .iconst (3), 1, 0, 0, 3),
  (67, .if_icmp .ne (11), 3, 78, 0, 0),
  (70, .aload_n 0, 1, 0, 0, 0),
  (71, .iload_n 2, 1, 0, 0, 0),
  (72, .invokevirtual 208, 3, 181, 2, 0),
  (75, .goto (21), 3, 96, 0, 0),
  (78, .iload_n 1, 1, 0, 0, 0),
  (79, .iconst (4), 1, 0, 0, 4),
  (80, .if_icmp .ne (11), 3, 91, 0, 0),
  (83, .aload_n 0, 1, 0, 0, 0),
  (84, .iload_n 2, 1, 0, 0, 0),
  (85, .invokevirtual 211, 3, 183, 2, 0),
  (88, .goto (8), 3, 96, 0, 0),
  (91, .aload_n 0, 1, 0, 0, 0),
  (92, .iload_n 2, 1, 0, 0, 0),
  (93, .invokevirtual 220, 3, 194, 2, 0),
  (96, .ireturn, 1, 0, 0, 0),
  (97, .aload_n 0, 1, 0, 0, 0),
  (98, .iload_n 2, 1, 0, 0, 0),
  (99, .aload_n 0, 1, 0, 0, 0),
  (100, .invokevirtual 256, 3, 222, 1, 0),
  (103, .invokevirtual 217, 3, 187, 3, 0),
  (106, .ireturn, 1, 0, 0, 0)]
def a_c221 : List (Nat × a_Rw) := [
  (0, .aload_n 0, 1, 0, 0, 0),
  (1, .getfield 250, 3, 8, 10, 0),
  (4, .iload_n 1, 1, 0, 0, 0),
  (5, .irem, 1, 0, 0, 0),
  (6, .istore_n 2, 1, 0, 0, 0),
  (7, .aload_n 0, 1, 0, 0, 0),
  (8, .sipush (709), 3, 0, 0, 709),
  (11, .aload_n 0, 1, 0, 0, 0),
  (12, .getfield 250, 3, 8, 10, 0),
  (15, .imul, 1, 0, 0, 0),
  (16, .sipush (4177), 3, 0, 0, 4177),
  (19, .iadd, 1, 0, 0, 0),
  (20, .sipush (30011), 3, 0, 0, 30011),
  (23, .irem, 1, 0, 0, 0),
  (24, .putfield 250, 3, 8, 10, 0),
  (27, .iload_n 2, 1, 0, 0, 0),
  (28, .ireturn, 1, 0, 0, 0)]
def a_c222 : List (Nat × a_Rw) := [
  (0, .aload_n 0, 1, 0, 0, 0),
  (1, .bipush (6), 2, 0, 0, 6),
  (3, .invokevirtual 253, 3, 221, 2, 0),
  (6, .istore_n 1, 1, 0, 0, 0),
  (7, .iload_n 1, 1, 0, 0, 0),
  (8, .iconst (5), 1, 0, 0, 5),
  (9, .if_icmp .ne (7), 3, 16, 0, 0),
  (12, .iconst (-1), 1, 0, 0, -1),
  (13, .goto (4), 3, 17, 0, 0),
  (16, .iload_n 1, 1, 0, 0, 0),
  (17, .ireturn, 1, 0, 0, 0)]
def a_c223 : List (Nat × a_Rw) := [
  (0, .iconst (0), 1, 0, 0, 0),
  (1, .istore_n 1, 1, 0, 0, 0),
  (2, .iconst (0), 1, 0, 0, 0),
  (3, .istore_n 2, 1, 0, 0, 0),
  (4, .iload_n 2, 1, 0, 0, 0),
  (5, .aload_n 0, 1, 0, 0, 0),
  (6, .getfield 13, 3, 8, 1, 0),
  (9, .iconst (0), 1, 0, 0, 0),
  (10, .iaload, 1, 0, 0, 0),
  (11, .if_icmp .ge (21), 3, 32, 0, 0),
  (14, .bipush (10), 2, 0, 0, 10),
  (16, .iload_n 1, 1, 0, 0, 0),
  (17, .imul, 1, 0, 0, 0),
  (18, .aload_n 0, 1, 0, 0, 0),
  (19, .iload_n 2, 1, 0, 0, 0),
  (20, .iconst (0), 1, 0, 0, 0),
  (21, .invokevirtual 72, 3, 155, 3, 0),
  (24, .iadd, 1, 0, 0, 0),
  (25, .istore_n 1, 1, 0, 0, 0),
  (26, .iinc 2 (1), 3, 0, 0, 1),
  (29, .goto (-25), 3, 4, 0, 0),
  (32, .iload_n 1, 1, 0, 0, 0),
  (33, .ireturn, 1, 0, 0, 0)]
def a_c224 : List (Nat × a_Rw) := [
  (0, .aload_n 0, 1, 0, 0, 0),
  (1, .iconst (0), 1, 0, 0, 0),
  (2, .putfield 1, 3, 8, 0, 0),
  (5, .aload_n 0, 1, 0, 0, 0),
  (6, .iconst (1), 1, 0, 0, 1),
  (7, .iconst (1), 1, 0, 0, 1),
  (8, .invokevirtual 76, 3, 158, 3, 0),
  (11, .istore_n 2, 1, 0, 0, 0),
  (12, .iload_n 1, 1, 0, 0, 0),
  (13, .tableswitch (54) (0) (3) #[31, 38, 45, 47], 31, 0, 0, 0),
  (44, .aload_n 0, 1, 0, 0, 0),
  (45, .iconst (0), 1, 0, 0, 0),
  (46, .iconst (4), 1, 0, 0, 4),
  (47, .invokevirtual 76, 3, 158, 3, 0),
  (50, .ireturn, 1, 0, 0, 0),
  (51, .aload_n 0, 1, 0, 0, 0),
  (52, .iconst (0), 1, 0, 0, 0),
  (53, .iconst (5), 1, 0, 0, 5),
  (54, .invokevirtual 76, 3, 158, 3, 0),
  (57, .ireturn, 1, 0, 0, 0),
  (58, .iload_n 2, 1, 0, 0, 0),
  (59, .ireturn, 1, 0, 0, 0),
  (60, .iload_n 2, 1, 0, 0, 0),
  (61, .aload_n 0, 1, 0, 0, 0),
  (62, .invokevirtual 83, 3, 174, 1, 0),
  (65, .iand, 1, 0, 0, 0),
  (66, .ireturn, 1, 0, 0, 0),
  (67, .bipush (-2), 2, 0, 0, -2),
  (69, .ireturn, 1, 0, 0, 0)]
def a_c225 : List (Nat × a_Rw) := [
  (0, .aload_n 0, 1, 0, 0, 0),
  (1, .iconst (0), 1, 0, 0, 0),
  (2, .putfield 1, 3, 8, 0, 0),
  (5, .iload_n 1, 1, 0, 0, 0),
  (6, .i2l, 1, 0, 0, 0),
  (7, .lconst 0, 1, 0, 0, 0),
  (8, .lconst 1, 1, 0, 0, 1),
  (9, .invokestatic 68, 3, 147, 3, 0),
  (12, .ifCond .ne (6), 3, 18, 0, 0),
  (15, .bipush (-3), 2, 0, 0, -3),
  (17, .ireturn, 1, 0, 0, 0),
  (18, .iload_n 2, 1, 0, 0, 0),
  (19, .i2l, 1, 0, 0, 0),
  (20, .lconst 0, 1, 0, 0, 0),
  (21, .ldc2_w 191, 3, 0, 0, 3),
  (24, .invokestatic 68, 3, 147, 3, 0),
  (27, .ifCond .ne (6), 3, 33, 0, 0),
  (30, .bipush (-2), 2, 0, 0, -2),
  (32, .ireturn, 1, 0, 0, 0),
  (33, .aload_n 0, 1, 0, 0, 0),
  (34, .getfield 13, 3, 8, 1, 0),
  (37, .iconst (0), 1, 0, 0, 0),
  (38, .iaload, 1, 0, 0, 0),
  (39, .iconst (3), 1, 0, 0, 3),
  (40, .if_icmp .le (6), 3, 46, 0, 0),
  (43, .bipush (-5), 2, 0, 0, -5),
  (45, .ireturn, 1, 0, 0, 0),
  (46, .aload_n 0, 1, 0, 0, 0),
  (47, .iload_n 1, 1, 0, 0, 0),
  (48, .invokevirtual 290, 3, 226, 2, 0),
  (51, .iconst (0), 1, 0, 0, 0),
  (52, .istore_n 3, 1, 0, 0, 0),
  (53, .iconst (0), 1, 0, 0, 0),
  (54, .istore 4, 2, 0, 0, 0),
  (56, .iconst (-1), 1, 0, 0, -1),
  (57, .istore 5, 2, 0, 0, 0),
  (59, .iconst (0), 1, 0, 0, 0),
  (60, .istore 6, 2, 0, 0, 0),
  (62, .iconst (0), 1, 0, 0, 0),
  (63, .istore 7, 2, 0, 0, 0),
  (65, .iload 7, 2, 0, 0, 0),
  (67, .sipush (1728), 3, 0, 0, 1728),
  (70, .if_icmp .ge (98), 3, 168, 0, 0),
  (73, .aload_n 0, 1, 0, 0, 0),
  (74, .getfield 42, 3, 8, 15, 0),
  (77, .iload 7, 2, 0, 0, 0),
  (79, .iaload, 1, 0, 0, 0),
  (80, .iconst (-1), 1, 0, 0, -1),
  (81, .if_icmp .ne (6), 3, 87, 0, 0),
  (84, .goto (78), 3, 162, 0, 0),
  (87, .iinc 3 (1), 3, 0, 0, 1),
  (90, .aload_n 0, 1, 0, 0, 0),
  (91, .getfield 42, 3, 8, 15, 0),
  (94, .iload 7, 2, 0, 0, 0),
  (96, .iaload, 1, 0, 0, 0),
  (97, .iload 6, 2, 0, 0, 0),
  (99, .if_icmp .le (13), 3, 112, 0, 0),
  (102, .aload_n 0, 1, 0, 0, 0),
  (103, .getfield 42, 3, 8, 15, 0),
  (106, .iload 7, 2, 0, 0, 0),
  (108, .iaload, 1, 0, 0, 0),
  (109, .goto (5), 3, 114, 0, 0),
  (112, .iload 6, 2, 0, 0, 0),
  (114, .istore 6, 2, 0, 0, 0),
  (116, .iload 7, 2, 0, 0, 0),
  (118, .invokestatic 293, 3, 233, 1, 0),
  (121, .ifCond .ne (6), 3, 127, 0, 0),
  (124, .goto (38), 3, 162, 0, 0),
  (127, .iinc 4 (1), 3, 0, 0, 1),
  (130, .iload 5, 2, 0, 0, 0),
  (132, .iconst (-1), 1, 0, 0, -1),
  (133, .if_icmp .eq (15), 3, 148, 0, 0),
  (136, .aload_n 0, 1, 0, 0, 0),
  (137, .getfield 42, 3, 8, 15, 0),
  (140, .iload 7, 2, 0, 0, 0),
  (142, .iaload, 1, 0, 0, 0),
  (143, .iload 5, 2, 0, 0, 0),
  (145, .if_icmp .ge (13), 3, 158, 0, 0),
  (148, .aload_n 0, 1, 0, 0, 0),
  (149, .getfield 42, 3, 8, 15, 0),
  (152, .iload 7, 2, 0, 0, 0),
  (154, .iaload, 1, 0, 0, 0),
  (155, .goto (5), 3, 160, 0, 0),
  (158, .iload 5, 2, 0, 0, 0),
  (160, .istore 5, 2, 0, 0, 0),
  (162, .iinc 7 (1), 3, 0, 0, 1),
  (165, .goto (-100), 3, 65, 0, 0),
  (168, .iload_n 2, 1, 0, 0, 0),
  (169, .ifCond .ne (7), 3, 176, 0, 0),
  (172, .iload_n 3, 1, 0, 0, 0),
  (173, .goto (25), 3, 198, 0, 0),
  (176, .iload_n 2, 1, 0, 0, 0),
  (177, .iconst (1), 1, 0, 0, 1),
  (178, .if_icmp .ne (8), 3, 186, 0, 0),
  (181, .iload 4, 2, 0, 0, 0),
  (183, .goto (15), 3, 198, 0, 0),
  (186, .iload_n 2, 1, 0, 0, 0),
  (187, .iconst (2), 1, 0, 0, 2),
  (188, .if_icmp .ne (8), 3, 196, 0, 0),
  (191, .iload 5, 2, 0, 0, 0),
  (193, .goto (5), 3, 198, 0, 0),
  (196, .iload 6, 2, 0, 0, 0),
  (198, .ireturn, 1, 0, 0, 0)]
def a_c226 : List (Nat × a_Rw) := [
  (0, .aload_n 0, 1, 0, 0, 0),
  (1, .getfield 13, 3, 8, 1, 0),
  (4, .iconst (0), 1, 0, 0, 0),
  (5, .aload_n 0, 1, 0, 0, 0),
  (6, .getfield 20, 3, 8, 3, 0),
  (9, .iconst (0), 1, 0, 0, 0),
  (10, .invokestatic 87, 3, 149, 4, 0),
  (13, .iconst (0), 1, 0, 0, 0),
  (14, .istore_n 2, 1, 0, 0, 0),
  (15, .iload_n 2, 1, 0, 0, 0),
  (16, .sipush (27648), 3, 0, 0, 27648),
  (19, .if_icmp .ge (16), 3, 35, 0, 0),
  (22, .aload_n 0, 1, 0, 0, 0),
  (23, .getfield 30, 3, 8, 11, 0),
  (26, .iload_n 2, 1, 0, 0, 0),
  (27, .iconst (-1), 1, 0, 0, -1),
  (28, .iastore, 1, 0, 0, 0),
  (29, .iinc 2 (1), 3, 0, 0, 1),
  (32, .goto (-17), 3, 15, 0, 0),
  (35, .iconst (0), 1, 0, 0, 0),
  (36, .istore_n 2, 1, 0, 0, 0),
  (37, .iload_n 2, 1, 0, 0, 0),
  (38, .sipush (1728), 3, 0, 0, 1728),
  (41, .if_icmp .ge (16), 3, 57, 0, 0),
  (44, .aload_n 0, 1, 0, 0, 0),
  (45, .getfield 42, 3, 8, 15, 0),
  (48, .iload_n 2, 1, 0, 0, 0),
  (49, .iconst (-1), 1, 0, 0, -1),
  (50, .iastore, 1, 0, 0, 0),
  (51, .iinc 2 (1), 3, 0, 0, 1),
  (54, .goto (-17), 3, 37, 0, 0),
  (57, .aload_n 0, 1, 0, 0, 0),
  (58, .iconst (0), 1, 0, 0, 0),
  (59, .putfield 269, 3, 8, 16, 0),
  (62, .aload_n 0, 1, 0, 0, 0),
  (63, .getfield 13, 3, 8, 1, 0),
  (66, .iconst (2), 1, 0, 0, 2),
  (67, .iconst (0), 1, 0, 0, 0),
  (68, .iastore, 1, 0, 0, 0),
  (69, .iconst (0), 1, 0, 0, 0),
  (70, .istore_n 2, 1, 0, 0, 0),
  (71, .iload_n 2, 1, 0, 0, 0),
  (72, .aload_n 0, 1, 0, 0, 0),
  (73, .getfield 13, 3, 8, 1, 0),
  (76, .iconst (0), 1, 0, 0, 0),
  (77, .iaload, 1, 0, 0, 0),
  (78, .if_icmp .ge (30), 3, 108, 0, 0),
  (81, .aload_n 0, 1, 0, 0, 0),
  (82, .iload_n 2, 1, 0, 0, 0),
  (83, .iconst (0), 1, 0, 0, 0),
  (84, .iconst (0), 1, 0, 0, 0),
  (85, .invokevirtual 64, 3, 145, 4, 0),
  (88, .aload_n 0, 1, 0, 0, 0),
  (89, .iload_n 2, 1, 0, 0, 0),
  (90, .iconst (1), 1, 0, 0, 1),
  (91, .iconst (1), 1, 0, 0, 1),
  (92, .invokevirtual 64, 3, 145, 4, 0),
  (95, .aload_n 0, 1, 0, 0, 0),
  (96, .iload_n 2, 1, 0, 0, 0),
  (97, .iconst (2), 1, 0, 0, 2),
  (98, .iconst (0), 1, 0, 0, 0),
  (99, .invokevirtual 64, 3, 145, 4, 0),
  (102, .iinc 2 (1), 3, 0, 0, 1),
  (105, .goto (-34), 3, 71, 0, 0),
  (108, .aload_n 0, 1, 0, 0, 0),
  (109, .aload_n 0, 1, 0, 0, 0),
  (110, .invokevirtual 272, 3, 227, 1, 0),
  (113, .iconst (-1), 1, 0, 0, -1),
  (114, .iconst (-1), 1, 0, 0, -1),
  (115, .invokevirtual 275, 3, 228, 4, 0),
  (118, .iconst (0), 1, 0, 0, 0),
  (119, .istore_n 2, 1, 0, 0, 0),
  (120, .iload_n 2, 1, 0, 0, 0),
  (121, .aload_n 0, 1, 0, 0, 0),
  (122, .getfield 269, 3, 8, 16, 0),
  (125, .if_icmp .ge (96), 3, 221, 0, 0),
  (128, .aload_n 0, 1, 0, 0, 0),
  (129, .getfield 39, 3, 8, 14, 0),
  (132, .iload_n 2, 1, 0, 0, 0),
  (133, .iaload, 1, 0, 0, 0),
  (134, .istore_n 3, 1, 0, 0, 0),
  (135, .aload_n 0, 1, 0, 0, 0),
  (136, .getfield 42, 3, 8, 15, 0),
  (139, .iload_n 3, 1, 0, 0, 0),
  (140, .invokestatic 278, 3, 229, 1, 0),
  (143, .iaload, 1, 0, 0, 0),
  (144, .iconst (-1), 1, 0, 0, -1),
  (145, .if_icmp .ne (18), 3, 163, 0, 0),
  (148, .aload_n 0, 1, 0, 0, 0),
  (149, .getfield 42, 3, 8, 15, 0),
  (152, .iload_n 3, 1, 0, 0, 0),
  (153, .invokestatic 278, 3, 229, 1, 0),
  (156, .aload_n 0, 1, 0, 0, 0),
  (157, .getfield 30, 3, 8, 11, 0),
  (160, .iload_n 3, 1, 0, 0, 0),
  (161, .iaload, 1, 0, 0, 0),
  (162, .iastore, 1, 0, 0, 0),
  (163, .aload_n 0, 1, 0, 0, 0),
  (164, .bipush (99), 2, 0, 0, 99),
  (166, .iload_n 1, 1, 0, 0, 0),
  (167, .invokevirtual 281, 3, 230, 3, 0),
  (170, .istore 4, 2, 0, 0, 0),
  (172, .iload 4, 2, 0, 0, 0),
  (174, .iconst (-1), 1, 0, 0, -1),
  (175, .if_icmp .eq (40), 3, 215, 0, 0),
  (178, .aload_n 0, 1, 0, 0, 0),
  (179, .iload_n 3, 1, 0, 0, 0),
  (180, .invokevirtual 284, 3, 231, 2, 0),
  (183, .aload_n 0, 1, 0, 0, 0),
  (184, .iload 4, 2, 0, 0, 0),
  (186, .invokevirtual 287, 3, 232, 2, 0),
  (189, .ifCond .lt (14), 3, 203, 0, 0),
  (192, .aload_n 0, 1, 0, 0, 0),
  (193, .aload_n 0, 1, 0, 0, 0),
  (194, .invokevirtual 272, 3, 227, 1, 0),
  (197, .iload_n 3, 1, 0, 0, 0),
  (198, .iload 4, 2, 0, 0, 0),
  (200, .invokevirtual 275, 3, 228, 4, 0),
  (203, .aload_n 0, 1, 0, 0, 0),
  (204, .iload 4, 2, 0, 0, 0),
  (206, .iload_n 1, 1, 0, 0, 0),
  (207, .invokevirtual 281, 3, 230, 3, 0),
  (210, .istore 4, 2, 0, 0, 0),
  (212, .goto (-40), 3, 172, 0, 0),
  (215, .iinc 2 (1), 3, 0, 0, 1),
  (218, .goto (-98), 3, 120, 0, 0),
  (221, .aload_n 0, 1, 0, 0, 0),
  (222, .getfield 20, 3, 8, 3, 0),
  (225, .iconst (0), 1, 0, 0, 0),
  (226, .aload_n 0, 1, 0, 0, 0),
  (227, .getfield 13, 3, 8, 1, 0),
  (230, .iconst (0), 1, 0, 0, 0),
  (231, .invokestatic 87, 3, 149, 4, 0),
  (234, .return_, 1, 0, 0, 0)]
def a_c227 : List (Nat × a_Rw) := [
  (0, .iconst (0), 1, 0, 0, 0),
  (1, .istore_n 1, 1, 0, 0, 0),
  (2, .iconst (2), 1, 0, 0, 2),
  (3, .istore_n 2, 1, 0, 0, 0),
  (4, .iload_n 2, 1, 0, 0, 0),
  (5, .ifCond .lt (35), 3, 40, 0, 0),
  (8, .bipush (6), 2, 0, 0, 6),
  (10, .iload_n 1, 1, 0, 0, 0),
  (11, .imul, 1, 0, 0, 0),
  (12, .iload_n 2, 1, 0, 0, 0),
  (13, .aload_n 0, 1, 0, 0, 0),
  (14, .getfield 13, 3, 8, 1, 0),
  (17, .iconst (0), 1, 0, 0, 0),
  (18, .iaload, 1, 0, 0, 0),
  (19, .if_icmp .ge (12), 3, 31, 0, 0),
  (22, .aload_n 0, 1, 0, 0, 0),
  (23, .iload_n 2, 1, 0, 0, 0),
  (24, .iconst (0), 1, 0, 0, 0),
  (25, .invokevirtual 72, 3, 155, 3, 0),
  (28, .goto (4), 3, 32, 0, 0),
  (31, .iconst (0), 1, 0, 0, 0),
  (32, .iadd, 1, 0, 0, 0),
  (33, .istore_n 1, 1, 0, 0, 0),
  (34, .iinc 2 (-1), 3, 0, 0, -1),
  (37, .goto (-33), 3, 4, 0, 0),
  (40, .iconst (4), 1, 0, 0, 4),
  (41, .iconst (4), 1, 0, 0, 4),
  (42, .bipush (8), 2, 0, 0, 8),
  (44, .iload_n 1, 1, 0, 0, 0),
  (45, .imul, 1, 0, 0, 0),
  (46, .aload_n 0, 1, 0, 0, 0),
  (47, .iconst (1), 1, 0, 0, 1),
  (48, .iconst (1), 1, 0, 0, 1),
  (49, .invokevirtual 76, 3, 158, 3, 0),
  (52, .iadd, 1, 0, 0, 0),
  (53, .imul, 1, 0, 0, 0),
  (54, .aload_n 0, 1, 0, 0, 0),
  (55, .iconst (2), 1, 0, 0, 2),
  (56, .iconst (1), 1, 0, 0, 1),
  (57, .invokevirtual 76, 3, 158, 3, 0),
  (60, .iconst (2), 1, 0, 0, 2),
  (61, .idiv, 1, 0, 0, 0),
  (62, .iadd, 1, 0, 0, 0),
  (63, .imul, 1, 0, 0, 0),
  (64, .aload_n 0, 1, 0, 0, 0),
  (65, .getfield 13, 3, 8, 1, 0),
  (68, .iconst (2), 1, 0, 0, 2),
  (69, .iaload, 1, 0, 0, 0),
  (70, .iadd, 1, 0, 0, 0),
  (71, .ireturn, 1, 0, 0, 0)]
def a_c228 : List (Nat × a_Rw) := [
  (0, .aload_n 0, 1, 0, 0, 0),
  (1, .getfield 30, 3, 8, 11, 0),
  (4, .iload_n 1, 1, 0, 0, 0),
  (5, .iaload, 1, 0, 0, 0),
  (6, .iconst (-1), 1, 0, 0, -1),
  (7, .if_icmp .eq (4), 3, 11, 0, 0),
  (10, .return_, 1, 0, 0, 0),
  (11, .aload_n 0, 1, 0, 0, 0),
  (12, .getfield 30, 3, 8, 11, 0),
  (15, .iload_n 1, 1, 0, 0, 0),
  (16, .iload_n 2, 1, 0, 0, 0),
  (17, .iconst (-1), 1, 0, 0, -1),
  (18, .if_icmp .ne (7), 3, 25, 0, 0),
  (21, .iconst (0), 1, 0, 0, 0),
  (22, .goto (11), 3, 33, 0, 0),
  (25, .aload_n 0, 1, 0, 0, 0),
  (26, .getfield 30, 3, 8, 11, 0),
  (29, .iload_n 2, 1, 0, 0, 0),
  (30, .iaload, 1, 0, 0, 0),
  (31, .iconst (1), 1, 0, 0, 1),
  (32, .iadd, 1, 0, 0, 0),
  (33, .iastore, 1, 0, 0, 0),
  (34, .aload_n 0, 1, 0, 0, 0),
  (35, .getfield 36, 3, 8, 13, 0),
  (38, .iload_n 1, 1, 0, 0, 0),
  (39, .iload_n 2, 1, 0, 0, 0),
  (40, .iastore, 1, 0, 0, 0),
  (41, .aload_n 0, 1, 0, 0, 0),
  (42, .getfield 33, 3, 8, 12, 0),
  (45, .iload_n 1, 1, 0, 0, 0),
  (46, .iload_n 3, 1, 0, 0, 0),
  (47, .iastore, 1, 0, 0, 0),
  (48, .aload_n 0, 1, 0, 0, 0),
  (49, .getfield 39, 3, 8, 14, 0),
  (52, .aload_n 0, 1, 0, 0, 0),
  (53, .getfield 269, 3, 8, 16, 0),
  (56, .iload_n 1, 1, 0, 0, 0),
  (57, .iastore, 1, 0, 0, 0),
  (58, .aload_n 0, 1, 0, 0, 0),
  (59, .dup, 1, 0, 0, 0),
  (60, .getfield 269, 3, 8, 16, 0),
  (63, .iconst (1), 1, 0, 0, 1),
  (64, .iadd, 1, 0, 0, 0),
  (65, .putfield 269, 3, 8, 16, 0),
  (68, .return_, 1, 0, 0, 0)]
def a_c229 : List (Nat × a_Rw) := [
  (0, .iload_n 0, 1, 0, 0, 0),
  (1, .bipush (16), 2, 0, 0, 16),
  (3, .idiv, 1, 0, 0, 0),
  (4, .ireturn, 1, 0, 0, 0)]
def a_c230 : List (Nat × a_Rw) := [
  (0, .iload_n 1, 1, 0, 0, 0),
  (1, .iconst (1), 1, 0, 0, 1),
  (2, .iadd, 1, 0, 0, 0),
  (3, .istore_n 3, 1, 0, 0, 0),
  (4, .iload_n 3, 1, 0, 0, 0),
  (5, .sipush (608), 3, 0, 0, 608),
  (8, .if_icmp .ge (140), 3, 148, 0, 0),
  (11, .iload_n 3, 1, 0, 0, 0),
  (12, .bipush (100), 2, 0, 0, 100),
  (14, .idiv, 1, 0, 0, 0),
  (15, .istore 4, 2, 0, 0, 0),
  (17, .iload_n 3, 1, 0, 0, 0),
  (18, .bipush (100), 2, 0, 0, 100),
  (20, .irem, 1, 0, 0, 0),
  (21, .istore 5, 2, 0, 0, 0),
  (23, .iload 4, 2, 0, 0, 0),
  (25, .iconst (4), 1, 0, 0, 4),
  (26, .if_icmp .ge (18), 3, 44, 0, 0),
  (29, .iload 5, 2, 0, 0, 0),
  (31, .bipush (6), 2, 0, 0, 6),
  (33, .if_icmp .ge (7), 3, 40, 0, 0),
  (36, .iconst (1), 1, 0, 0, 1),
  (37, .goto (96), 3, 133, 0, 0),
  (40, .iconst (0), 1, 0, 0, 0),
  (41, .goto (92), 3, 133, 0, 0),
  (44, .iload 4, 2, 0, 0, 0),
  (46, .iconst (4), 1, 0, 0, 4),
  (47, .if_icmp .ne (22), 3, 69, 0, 0),
  (50, .iload 5, 2, 0, 0, 0),
  (52, .aload_n 0, 1, 0, 0, 0),
  (53, .getfield 13, 3, 8, 1, 0),
  (56, .iconst (0), 1, 0, 0, 0),
  (57, .iaload, 1, 0, 0, 0),
  (58, .if_icmp .ge (7), 3, 65, 0, 0),
  (61, .iconst (1), 1, 0, 0, 1),
  (62, .goto (71), 3, 133, 0, 0),
  (65, .iconst (0), 1, 0, 0, 0),
  (66, .goto (67), 3, 133, 0, 0),
  (69, .iload 4, 2, 0, 0, 0),
  (71, .iconst (5), 1, 0, 0, 5),
  (72, .if_icmp .ne (35), 3, 107, 0, 0),
  (75, .iload 5, 2, 0, 0, 0),
  (77, .bipush (10), 2, 0, 0, 10),
  (79, .idiv, 1, 0, 0, 0),
  (80, .aload_n 0, 1, 0, 0, 0),
  (81, .getfield 13, 3, 8, 1, 0),
  (84, .iconst (0), 1, 0, 0, 0),
  (85, .iaload, 1, 0, 0, 0),
  (86, .if_icmp .ge (17), 3, 103, 0, 0),
  (89, .iload 5, 2, 0, 0, 0),
  (91, .bipush (10), 2, 0, 0, 10),
  (93, .irem, 1, 0, 0, 0),
  (94, .bipush (6), 2, 0, 0, 6),
  (96, .if_icmp .ge (7), 3, 103, 0, 0),
  (99, .iconst (1), 1, 0, 0, 1),
  (100, .goto (33), 3, 133, 0, 0),
  (103, .iconst (0), 1, 0, 0, 0),
  (104, .goto (29), 3, 133, 0, 0),
  (107, .iload_n 2, 1, 0, 0, 0),
  (108, .iconst (1), 1, 0, 0, 1),
  (109, .if_icmp .ne (23), 3, 132, 0, 0),
  (112, .iload 5, 2, 0, 0, 0),
  (114, .iconst (2), 1, 0, 0, 2),
  (115, .irem, 1, 0, 0, 0),
  (116, .ifCond .ne (16), 3, 132, 0, 0),
  (119, .iload 5, 2, 0, 0, 0),
  (121, .aload_n 0, 1, 0, 0, 0),
  (122, .invokevirtual 142, 3, 159, 1, 0),
  (125, .if_icmp .gt (7), 3, 132, 0, 0),
  (128, .iconst (1), 1, 0, 0, 1),
  (129, .goto (4), 3, 133, 0, 0),
  (132, .iconst (0), 1, 0, 0, 0),
  (133, .istore 6, 2, 0, 0, 0),
  (135, .iload 6, 2, 0, 0, 0),
  (137, .ifCond .eq (5), 3, 142, 0, 0),
  (140, .iload_n 3, 1, 0, 0, 0),
  (141, .ireturn, 1, 0, 0, 0),
  (142, .iinc 3 (1), 3, 0, 0, 1),
  (145, .goto (-141), 3, 4, 0, 0),
  (148, .iconst (-1), 1, 0, 0, -1),
  (149, .ireturn, 1, 0, 0, 0)]
def a_c231 : List (Nat × a_Rw) := [
  (0, .aload_n 0, 1, 0, 0, 0),
  (1, .getfield 13, 3, 8, 1, 0),
  (4, .iconst (2), 1, 0, 0, 2),
  (5, .iload_n 1, 1, 0, 0, 0),
  (6, .iconst (4), 1, 0, 0, 4),
  (7, .irem, 1, 0, 0, 0),
  (8, .iastore, 1, 0, 0, 0),
  (9, .iload_n 1, 1, 0, 0, 0),
  (10, .iconst (4), 1, 0, 0, 4),
  (11, .idiv, 1, 0, 0, 0),
  (12, .iconst (4), 1, 0, 0, 4),
  (13, .irem, 1, 0, 0, 0),
  (14, .iconst (2), 1, 0, 0, 2),
  (15, .imul, 1, 0, 0, 0),
  (16, .istore_n 2, 1, 0, 0, 0),
  (17, .iload_n 1, 1, 0, 0, 0),
  (18, .bipush (16), 2, 0, 0, 16),
  (20, .idiv, 1, 0, 0, 0),
  (21, .bipush (8), 2, 0, 0, 8),
  (23, .irem, 1, 0, 0, 0),
  (24, .istore_n 3, 1, 0, 0, 0),
  (25, .iload_n 1, 1, 0, 0, 0),
  (26, .sipush (128), 3, 0, 0, 128),
  (29, .idiv, 1, 0, 0, 0),
  (30, .istore 4, 2, 0, 0, 0),
  (32, .iconst (0), 1, 0, 0, 0),
  (33, .istore 5, 2, 0, 0, 0),
  (35, .iload 5, 2, 0, 0, 0),
  (37, .aload_n 0, 1, 0, 0, 0),
  (38, .getfield 13, 3, 8, 1, 0),
  (41, .iconst (0), 1, 0, 0, 0),
  (42, .iaload, 1, 0, 0, 0),
  (43, .if_icmp .ge (70), 3, 113, 0, 0),
  (46, .aload_n 0, 1, 0, 0, 0),
  (47, .iload 5, 2, 0, 0, 0),
  (49, .iconst (0), 1, 0, 0, 0),
  (50, .iload 4, 2, 0, 0, 0),
  (52, .bipush (6), 2, 0, 0, 6),
  (54, .irem, 1, 0, 0, 0),
  (55, .invokevirtual 64, 3, 145, 4, 0),
  (58, .aload_n 0, 1, 0, 0, 0),
  (59, .iload 5, 2, 0, 0, 0),
  (61, .iconst (1), 1, 0, 0, 1),
  (62, .iload_n 3, 1, 0, 0, 0),
  (63, .iload 5, 2, 0, 0, 0),
  (65, .invokestatic 79, 3, 161, 2, 0),
  (68, .ifCond .eq (7), 3, 75, 0, 0),
  (71, .iconst (1), 1, 0, 0, 1),
  (72, .goto (4), 3, 76, 0, 0),
  (75, .iconst (0), 1, 0, 0, 0),
  (76, .invokevirtual 64, 3, 145, 4, 0),
  (79, .aload_n 0, 1, 0, 0, 0),
  (80, .iload 5, 2, 0, 0, 0),
  (82, .iconst (2), 1, 0, 0, 2),
  (83, .iload_n 2, 1, 0, 0, 0),
  (84, .iload 5, 2, 0, 0, 0),
  (86, .invokestatic 79, 3, 161, 2, 0),
  (89, .ifCond .eq (7), 3, 96, 0, 0),
  (92, .iconst (1), 1, 0, 0, 1),
  (93, .goto (4), 3, 97, 0, 0),
  (96, .iconst (0), 1, 0, 0, 0),
  (97, .invokevirtual 64, 3, 145, 4, 0),
  (100, .iload 4, 2, 0, 0, 0),
  (102, .bipush (6), 2, 0, 0, 6),
  (104, .idiv, 1, 0, 0, 0),
  (105, .istore 4, 2, 0, 0, 0),
  (107, .iinc 5 (1), 3, 0, 0, 1),
  (110, .goto (-75), 3, 35, 0, 0),
  (113, .return_, 1, 0, 0, 0)]
def a_c232 : List (Nat × a_Rw) := [
  (0, .iload_n 1, 1, 0, 0, 0),
  (1, .bipush (100), 2, 0, 0, 100),
  (3, .idiv, 1, 0, 0, 0),
  (4, .istore_n 2, 1, 0, 0, 0),
  (5, .iload_n 1, 1, 0, 0, 0),
  (6, .bipush (100), 2, 0, 0, 100),
  (8, .irem, 1, 0, 0, 0),
  (9, .istore_n 3, 1, 0, 0, 0),
  (10, .iload_n 2, 1, 0, 0, 0),
  (11, .tableswitch (78) (1) (5) #[33, 41, 49, 57, 63], 33, 0, 0, 0),
  (44, .aload_n 0, 1, 0, 0, 0),
  (45, .iload_n 3, 1, 0, 0, 0),
  (46, .iconst (1), 1, 0, 0, 1),
  (47, .isub, 1, 0, 0, 0),
  (48, .invokevirtual 199, 3, 164, 2, 0),
  (51, .ireturn, 1, 0, 0, 0),
  (52, .aload_n 0, 1, 0, 0, 0),
  (53, .iload_n 3, 1, 0, 0, 0),
  (54, .iconst (1), 1, 0, 0, 1),
  (55, .isub, 1, 0, 0, 0),
  (56, .invokevirtual 202, 3, 176, 2, 0),
  (59, .ireturn, 1, 0, 0, 0),
  (60, .aload_n 0, 1, 0, 0, 0),
  (61, .iload_n 3, 1, 0, 0, 0),
  (62, .iconst (1), 1, 0, 0, 1),
  (63, .isub, 1, 0, 0, 0),
  (64, .invokevirtual 205, 3, 178, 2, 0),
  (67, .ireturn, 1, 0, 0, 0),
  (68, .aload_n 0, 1, 0, 0, 0),
  (69, .iload_n 3, 1, 0, 0, 0),
  (70, .invokevirtual 208, 3, 181, 2, 0),
  (73, .ireturn, 1, 0, 0, 0),
  (74, .aload_n 0, 1, 0, 0, 0),
  (75, .iload_n 3, 1, 0, 0, 0),
  (76, .bipush (10), 2, 0, 0, 10),
  (78, .idiv, 1, 0, 0, 0),
  (79, .iload_n 3, 1, 0, 0, 0),
  (80, .bipush (10), 2, 0, 0, 10),
  (82, .irem, 1, 0, 0, 0),
  (83, .iconst (1), 1, 0, 0, 1),
  (84, .isub, 1, 0, 0, 0),
  (85, .invokevirtual 217, 3, 187, 3, 0),
  (88, .ireturn, 1, 0, 0, 0),
  (89, .iconst (0), 1, 0, 0, 0),
  (90, .istore 4, 2, 0, 0, 0),
  (92, .iload 4, 2, 0, 0, 0),
  (94, .aload_n 0, 1, 0, 0, 0),
  (95, .getfield 13, 3, 8, 1, 0),
  (98, .iconst (0), 1, 0, 0, 0),
  (99, .iaload, 1, 0, 0, 0),
  (100, .if_icmp .ge (30), 3, 130, 0, 0),
  (103, .aload_n 0, 1, 0, 0, 0),
  (104, .iload 4, 2, 0, 0, 0),
  (106, .iconst (2), 1, 0, 0, 2),
  (107, .iload_n 3, 1, 0, 0, 0),
  (108, .iload 4, 2, 0, 0, 0),
  (110, .invokestatic 79, 3, 161, 2, 0),
  (113, .ifCond .eq (7), 3, 120, 0, 0),
  (116, .iconst (1), 1, 0, 0, 1),
  (117, .goto (4), 3, 121, 0, 0),
  (120, .iconst (0), 1, 0, 0, 0),
  (121, .invokevirtual 64, 3, 145, 4, 0),
  (124, .iinc 4 (1), 3, 0, 0, 1),
  (127, .goto (-35), 3, 92, 0, 0),
  (130, .iconst (0), 1, 0, 0, 0),
  (131, .ireturn, 1, 0, 0, 0)]
def a_c233 : List (Nat × a_Rw) := [
  (0, .iconst (0), 1, 0, 0, 0),
  (1, .istore_n 1, 1, 0, 0, 0),
  (2, .iconst (0), 1, 0, 0, 0),
  (3, .istore_n 2, 1, 0, 0, 0),
  (4, .iload_n 0, 1, 0, 0, 0),
  (5, .bipush (8), 2, 0, 0, 8),
  (7, .idiv, 1, 0, 0, 0),
  (8, .istore_n 3, 1, 0, 0, 0),
  (9, .iconst (0), 1, 0, 0, 0),
  (10, .istore 4, 2, 0, 0, 0),
  (12, .iload 4, 2, 0, 0, 0),
  (14, .iconst (3), 1, 0, 0, 3),
  (15, .if_icmp .ge (46), 3, 61, 0, 0),
  (18, .iload_n 1, 1, 0, 0, 0),
  (19, .iload_n 3, 1, 0, 0, 0),
  (20, .bipush (6), 2, 0, 0, 6),
  (22, .irem, 1, 0, 0, 0),
  (23, .iconst (4), 1, 0, 0, 4),
  (24, .if_icmp .ne (7), 3, 31, 0, 0),
  (27, .iconst (1), 1, 0, 0, 1),
  (28, .goto (4), 3, 32, 0, 0),
  (31, .iconst (0), 1, 0, 0, 0),
  (32, .ior, 1, 0, 0, 0),
  (33, .istore_n 1, 1, 0, 0, 0),
  (34, .iload_n 2, 1, 0, 0, 0),
  (35, .iload_n 3, 1, 0, 0, 0),
  (36, .bipush (6), 2, 0, 0, 6),
  (38, .irem, 1, 0, 0, 0),
  (39, .iconst (5), 1, 0, 0, 5),
  (40, .if_icmp .ne (7), 3, 47, 0, 0),
  (43, .iconst (1), 1, 0, 0, 1),
  (44, .goto (4), 3, 48, 0, 0),
  (47, .iconst (0), 1, 0, 0, 0),
  (48, .ior, 1, 0, 0, 0),
  (49, .istore_n 2, 1, 0, 0, 0),
  (50, .iload_n 3, 1, 0, 0, 0),
  (51, .bipush (6), 2, 0, 0, 6),
  (53, .idiv, 1, 0, 0, 0),
  (54, .istore_n 3, 1, 0, 0, 0),
  (55, .iinc 4 (1), 3, 0, 0, 1),
  (58, .goto (-46), 3, 12, 0, 0),
  (61, .iload_n 1, 1, 0, 0, 0),
  (62, .ifCond .eq (11), 3, 73, 0, 0),
  (65, .iload_n 2, 1, 0, 0, 0),
  (66, .ifCond .eq (7), 3, 73, 0, 0),
  (69, .iconst (1), 1, 0, 0, 1),
  (70, .goto (4), 3, 74, 0, 0),
  (73, .iconst (0), 1, 0, 0, 0),
  (74, .ireturn, 1, 0, 0, 0)]
def a_c234 : List (Nat × a_Rw) := [
  (0, .aload_n 0, 1, 0, 0, 0),
  (1, .iconst (0), 1, 0, 0, 0),
  (2, .putfield 1, 3, 8, 0, 0),
  (5, .iload_n 1, 1, 0, 0, 0),
  (6, .i2l, 1, 0, 0, 0),
  (7, .lconst 0, 1, 0, 0, 0),
  (8, .ldc2_w 180, 3, 0, 0, 5),
  (11, .invokestatic 68, 3, 147, 3, 0),
  (14, .ifCond .ne (6), 3, 20, 0, 0),
  (17, .bipush (-2), 2, 0, 0, -2),
  (19, .ireturn, 1, 0, 0, 0),
  (20, .iload_n 2, 1, 0, 0, 0),
  (21, .i2l, 1, 0, 0, 0),
  (22, .lconst 0, 1, 0, 0, 0),
  (23, .lconst 1, 1, 0, 0, 1),
  (24, .invokestatic 68, 3, 147, 3, 0),
  (27, .ifCond .ne (6), 3, 33, 0, 0),
  (30, .bipush (-3), 2, 0, 0, -3),
  (32, .ireturn, 1, 0, 0, 0),
  (33, .aload_n 0, 1, 0, 0, 0),
  (34, .getfield 13, 3, 8, 1, 0),
  (37, .iconst (0), 1, 0, 0, 0),
  (38, .iaload, 1, 0, 0, 0),
  (39, .iconst (3), 1, 0, 0, 3),
  (40, .if_icmp .le (6), 3, 46, 0, 0),
  (43, .bipush (-5), 2, 0, 0, -5),
  (45, .ireturn, 1, 0, 0, 0),
  (46, .aload_n 0, 1, 0, 0, 0),
  (47, .iload_n 2, 1, 0, 0, 0),
  (48, .invokevirtual 290, 3, 226, 2, 0),
  (51, .iconst (0), 1, 0, 0, 0),
  (52, .istore_n 3, 1, 0, 0, 0),
  (53, .iconst (0), 1, 0, 0, 0),
  (54, .istore 4, 2, 0, 0, 0),
  (56, .iload 4, 2, 0, 0, 0),
  (58, .sipush (1728), 3, 0, 0, 1728),
  (61, .if_icmp .ge (100), 3, 161, 0, 0),
  (64, .aload_n 0, 1, 0, 0, 0),
  (65, .getfield 42, 3, 8, 15, 0),
  (68, .iload 4, 2, 0, 0, 0),
  (70, .iaload, 1, 0, 0, 0),
  (71, .iconst (-1), 1, 0, 0, -1),
  (72, .if_icmp .ne (6), 3, 78, 0, 0),
  (75, .goto (80), 3, 155, 0, 0),
  (78, .iload 4, 2, 0, 0, 0),
  (80, .bipush (8), 2, 0, 0, 8),
  (82, .idiv, 1, 0, 0, 0),
  (83, .istore 5, 2, 0, 0, 0),
  (85, .iconst (0), 1, 0, 0, 0),
  (86, .istore 6, 2, 0, 0, 0),
  (88, .iload 6, 2, 0, 0, 0),
  (90, .aload_n 0, 1, 0, 0, 0),
  (91, .getfield 13, 3, 8, 1, 0),
  (94, .iconst (0), 1, 0, 0, 0),
  (95, .iaload, 1, 0, 0, 0),
  (96, .if_icmp .ge (59), 3, 155, 0, 0),
  (99, .iconst (0), 1, 0, 0, 0),
  (100, .istore 7, 2, 0, 0, 0),
  (102, .iload 7, 2, 0, 0, 0),
  (104, .aload_n 0, 1, 0, 0, 0),
  (105, .getfield 13, 3, 8, 1, 0),
  (108, .iconst (0), 1, 0, 0, 0),
  (109, .iaload, 1, 0, 0, 0),
  (110, .if_icmp .ge (39), 3, 149, 0, 0),
  (113, .iload 6, 2, 0, 0, 0),
  (115, .iload 7, 2, 0, 0, 0),
  (117, .if_icmp .eq (26), 3, 143, 0, 0),
  (120, .iload 5, 2, 0, 0, 0),
  (122, .iload 6, 2, 0, 0, 0),
  (124, .invokestatic 296, 3, 235, 2, 0),
  (127, .iload_n 1, 1, 0, 0, 0),
  (128, .if_icmp .ne (15), 3, 143, 0, 0),
  (131, .iload_n 3, 1, 0, 0, 0),
  (132, .iconst (1), 1, 0, 0, 1),
  (133, .iload 5, 2, 0, 0, 0),
  (135, .iload 7, 2, 0, 0, 0),
  (137, .invokestatic 296, 3, 235, 2, 0),
  (140, .ishl, 1, 0, 0, 0),
  (141, .ior, 1, 0, 0, 0),
  (142, .istore_n 3, 1, 0, 0, 0),
  (143, .iinc 7 (1), 3, 0, 0, 1),
  (146, .goto (-44), 3, 102, 0, 0),
  (149, .iinc 6 (1), 3, 0, 0, 1),
  (152, .goto (-64), 3, 88, 0, 0),
  (155, .iinc 4 (1), 3, 0, 0, 1),
  (158, .goto (-102), 3, 56, 0, 0),
  (161, .iload_n 3, 1, 0, 0, 0),
  (162, .ireturn, 1, 0, 0, 0)]
def a_c235 : List (Nat × a_Rw) := [
  (0, .iload_n 1, 1, 0, 0, 0),
  (1, .ifCond .ne (10), 3, 11, 0, 0),
  (4, .iload_n 0, 1, 0, 0, 0),
  (5, .bipush (6), 2, 0, 0, 6),
  (7, .irem, 1, 0, 0, 0),
  (8, .goto (22), 3, 30, 0, 0),
  (11, .iload_n 1, 1, 0, 0, 0),
  (12, .iconst (1), 1, 0, 0, 1),
  (13, .if_icmp .ne (13), 3, 26, 0, 0),
  (16, .iload_n 0, 1, 0, 0, 0),
  (17, .bipush (6), 2, 0, 0, 6),
  (19, .idiv, 1, 0, 0, 0),
  (20, .bipush (6), 2, 0, 0, 6),
  (22, .irem, 1, 0, 0, 0),
  (23, .goto (7), 3, 30, 0, 0),
  (26, .iload_n 0, 1, 0, 0, 0),
  (27, .bipush (36), 2, 0, 0, 36),
  (29, .idiv, 1, 0, 0, 0),
  (30, .ireturn, 1, 0, 0, 0)]
def a_c236 : List (Nat × a_Rw) := [
  (0, .aload_n 0, 1, 0, 0, 0),
  (1, .iconst (0), 1, 0, 0, 0),
  (2, .putfield 1, 3, 8, 0, 0),
  (5, .aload_n 0, 1, 0, 0, 0),
  (6, .iload_n 1, 1, 0, 0, 0),
  (7, .invokevirtual 299, 3, 237, 2, 0),
  (10, .istore 4, 2, 0, 0, 0),
  (12, .iload 4, 2, 0, 0, 0),
  (14, .iconst (-1), 1, 0, 0, -1),
  (15, .if_icmp .eq (27), 3, 42, 0, 0),
  (18, .iload_n 2, 1, 0, 0, 0),
  (19, .i2l, 1, 0, 0, 0),
  (20, .lconst 0, 1, 0, 0, 0),
  (21, .aload_n 0, 1, 0, 0, 0),
  (22, .invokevirtual 142, 3, 159, 1, 0),
  (25, .i2l, 1, 0, 0, 0),
  (26, .invokestatic 68, 3, 147, 3, 0),
  (29, .ifCond .eq (13), 3, 42, 0, 0),
  (32, .iload_n 3, 1, 0, 0, 0),
  (33, .i2l, 1, 0, 0, 0),
  (34, .lconst 0, 1, 0, 0, 0),
  (35, .lconst 1, 1, 0, 0, 1),
  (36, .invokestatic 68, 3, 147, 3, 0),
  (39, .ifCond .ne (6), 3, 45, 0, 0),
  (42, .bipush (-3), 2, 0, 0, -3),
  (44, .ireturn, 1, 0, 0, 0),
  (45, .aload_n 0, 1, 0, 0, 0),
  (46, .getfield 13, 3, 8, 1, 0),
  (49, .iconst (0), 1, 0, 0, 0),
  (50, .iaload, 1, 0, 0, 0),
  (51, .iconst (3), 1, 0, 0, 3),
  (52, .if_icmp .le (6), 3, 58, 0, 0),
  (55, .bipush (-5), 2, 0, 0, -5),
  (57, .ireturn, 1, 0, 0, 0),
  (58, .aload_n 0, 1, 0, 0, 0),
  (59, .iload_n 3, 1, 0, 0, 0),
  (60, .invokevirtual 290, 3, 226, 2, 0),
  (63, .aload_n 0, 1, 0, 0, 0),
  (64, .getfield 42, 3, 8, 15, 0),
  (67, .bipush (8), 2, 0, 0, 8),
  (69, .iload 4, 2, 0, 0, 0),
  (71, .imul, 1, 0, 0, 0),
  (72, .iload_n 2, 1, 0, 0, 0),
  (73, .iadd, 1, 0, 0, 0),
  (74, .iaload, 1, 0, 0, 0),
  (75, .ireturn, 1, 0, 0, 0)]
def a_c237 : List (Nat × a_Rw) := [
  (0, .iload_n 1, 1, 0, 0, 0),
  (1, .istore_n 2, 1, 0, 0, 0),
  (2, .iconst (0), 1, 0, 0, 0),
  (3, .istore_n 3, 1, 0, 0, 0),
  (4, .iload_n 2, 1, 0, 0, 0),
  (5, .ifCond .ge (5), 3, 10, 0, 0),
  (8, .iconst (-1), 1, 0, 0, -1),
  (9, .ireturn, 1, 0, 0, 0),
  (10, .iconst (0), 1, 0, 0, 0),
  (11, .istore 4, 2, 0, 0, 0),
  (13, .iload 4, 2, 0, 0, 0),
  (15, .aload_n 0, 1, 0, 0, 0),
  (16, .getfield 13, 3, 8, 1, 0),
  (19, .iconst (0), 1, 0, 0, 0),
  (20, .iaload, 1, 0, 0, 0),
  (21, .if_icmp .ge (34), 3, 55, 0, 0),
  (24, .iload_n 2, 1, 0, 0, 0),
  (25, .bipush (10), 2, 0, 0, 10),
  (27, .irem, 1, 0, 0, 0),
  (28, .iconst (5), 1, 0, 0, 5),
  (29, .if_icmp .le (5), 3, 34, 0, 0),
  (32, .iconst (-1), 1, 0, 0, -1),
  (33, .ireturn, 1, 0, 0, 0),
  (34, .bipush (6), 2, 0, 0, 6),
  (36, .iload_n 3, 1, 0, 0, 0),
  (37, .imul, 1, 0, 0, 0),
  (38, .iload_n 2, 1, 0, 0, 0),
  (39, .bipush (10), 2, 0, 0, 10),
  (41, .irem, 1, 0, 0, 0),
  (42, .iadd, 1, 0, 0, 0),
  (43, .istore_n 3, 1, 0, 0, 0),
  (44, .iload_n 2, 1, 0, 0, 0),
  (45, .bipush (10), 2, 0, 0, 10),
  (47, .idiv, 1, 0, 0, 0),
  (48, .istore_n 2, 1, 0, 0, 0),
  (49, .iinc 4 (1), 3, 0, 0, 1),
  (52, .goto (-39), 3, 13, 0, 0),
  (55, .iload_n 2, 1, 0, 0, 0),
  (56, .ifCond .le (7), 3, 63, 0, 0),
  (59, .iconst (-1), 1, 0, 0, -1),
  (60, .goto (4), 3, 64, 0, 0),
  (63, .iload_n 3, 1, 0, 0, 0),
  (64, .ireturn, 1, 0, 0, 0)]
def a_c238 : List (Nat × a_Rw) := [
  (0, .aload_n 0, 1, 0, 0, 0),
  (1, .iconst (0), 1, 0, 0, 0),
  (2, .putfield 1, 3, 8, 0, 0),
  (5, .iload_n 1, 1, 0, 0, 0),
  (6, .i2l, 1, 0, 0, 0),
  (7, .lconst 0, 1, 0, 0, 0),
  (8, .lconst 1, 1, 0, 0, 1),
  (9, .invokestatic 68, 3, 147, 3, 0),
  (12, .ifCond .eq (7), 3, 19, 0, 0),
  (15, .iload_n 2, 1, 0, 0, 0),
  (16, .ifCond .ge (6), 3, 22, 0, 0),
  (19, .bipush (-3), 2, 0, 0, -3),
  (21, .ireturn, 1, 0, 0, 0),
  (22, .aload_n 0, 1, 0, 0, 0),
  (23, .getfield 13, 3, 8, 1, 0),
  (26, .iconst (0), 1, 0, 0, 0),
  (27, .iaload, 1, 0, 0, 0),
  (28, .iconst (3), 1, 0, 0, 3),
  (29, .if_icmp .le (6), 3, 35, 0, 0),
  (32, .bipush (-5), 2, 0, 0, -5),
  (34, .ireturn, 1, 0, 0, 0),
  (35, .aload_n 0, 1, 0, 0, 0),
  (36, .iload_n 1, 1, 0, 0, 0),
  (37, .invokevirtual 290, 3, 226, 2, 0),
  (40, .iconst (0), 1, 0, 0, 0),
  (41, .istore_n 3, 1, 0, 0, 0),
  (42, .iload_n 3, 1, 0, 0, 0),
  (43, .aload_n 0, 1, 0, 0, 0),
  (44, .getfield 269, 3, 8, 16, 0),
  (47, .if_icmp .ge (24), 3, 71, 0, 0),
  (50, .aload_n 0, 1, 0, 0, 0),
  (51, .getfield 39, 3, 8, 14, 0),
  (54, .iload_n 3, 1, 0, 0, 0),
  (55, .iaload, 1, 0, 0, 0),
  (56, .invokestatic 278, 3, 229, 1, 0),
  (59, .invokestatic 293, 3, 233, 1, 0),
  (62, .ifCond .ne (9), 3, 71, 0, 0),
  (65, .iinc 3 (1), 3, 0, 0, 1),
  (68, .goto (-26), 3, 42, 0, 0),
  (71, .iload_n 3, 1, 0, 0, 0),
  (72, .aload_n 0, 1, 0, 0, 0),
  (73, .getfield 269, 3, 8, 16, 0),
  (76, .if_icmp .eq (18), 3, 94, 0, 0),
  (79, .iload_n 2, 1, 0, 0, 0),
  (80, .aload_n 0, 1, 0, 0, 0),
  (81, .getfield 30, 3, 8, 11, 0),
  (84, .aload_n 0, 1, 0, 0, 0),
  (85, .getfield 39, 3, 8, 14, 0),
  (88, .iload_n 3, 1, 0, 0, 0),
  (89, .iaload, 1, 0, 0, 0),
  (90, .iaload, 1, 0, 0, 0),
  (91, .if_icmp .lt (5), 3, 96, 0, 0),
  (94, .iconst (-1), 1, 0, 0, -1),
  (95, .ireturn, 1, 0, 0, 0),
  (96, .aload_n 0, 1, 0, 0, 0),
  (97, .getfield 39, 3, 8, 14, 0),
  (100, .iload_n 3, 1, 0, 0, 0),
  (101, .iaload, 1, 0, 0, 0),
  (102, .istore 4, 2, 0, 0, 0),
  (104, .aload_n 0, 1, 0, 0, 0),
  (105, .getfield 30, 3, 8, 11, 0),
  (108, .iload 4, 2, 0, 0, 0),
  (110, .iaload, 1, 0, 0, 0),
  (111, .iload_n 2, 1, 0, 0, 0),
  (112, .iconst (1), 1, 0, 0, 1),
  (113, .iadd, 1, 0, 0, 0),
  (114, .if_icmp .le (15), 3, 129, 0, 0),
  (117, .aload_n 0, 1, 0, 0, 0),
  (118, .getfield 36, 3, 8, 13, 0),
  (121, .iload 4, 2, 0, 0, 0),
  (123, .iaload, 1, 0, 0, 0),
  (124, .istore 4, 2, 0, 0, 0),
  (126, .goto (-22), 3, 104, 0, 0),
  (129, .aload_n 0, 1, 0, 0, 0),
  (130, .getfield 33, 3, 8, 12, 0),
  (133, .iload 4, 2, 0, 0, 0),
  (135, .iaload, 1, 0, 0, 0),
  (136, .ireturn, 1, 0, 0, 0)]
def a_c239 : List (Nat × a_Rw) := [
  (0, .aload_n 0, 1, 0, 0, 0),
  (1, .iconst (0), 1, 0, 0, 0),
  (2, .putfield 1, 3, 8, 0, 0),
  (5, .aload_n 0, 1, 0, 0, 0),
  (6, .getfield 302, 3, 8, 18, 0),
  (9, .bipush (20), 2, 0, 0, 20),
  (11, .iadd, 1, 0, 0, 0),
  (12, .sipush (200), 3, 0, 0, 200),
  (15, .if_icmp .le (6), 3, 21, 0, 0),
  (18, .bipush (-3), 2, 0, 0, -3),
  (20, .ireturn, 1, 0, 0, 0),
  (21, .iconst (0), 1, 0, 0, 0),
  (22, .istore 6, 2, 0, 0, 0),
  (24, .iload 6, 2, 0, 0, 0),
  (26, .bipush (20), 2, 0, 0, 20),
  (28, .if_icmp .ge (93), 3, 121, 0, 0),
  (31, .iload 6, 2, 0, 0, 0),
  (33, .iconst (4), 1, 0, 0, 4),
  (34, .if_icmp .ge (7), 3, 41, 0, 0),
  (37, .iload_n 1, 1, 0, 0, 0),
  (38, .goto (39), 3, 77, 0, 0),
  (41, .iload 6, 2, 0, 0, 0),
  (43, .bipush (8), 2, 0, 0, 8),
  (45, .if_icmp .ge (7), 3, 52, 0, 0),
  (48, .iload_n 2, 1, 0, 0, 0),
  (49, .goto (28), 3, 77, 0, 0),
  (52, .iload 6, 2, 0, 0, 0),
  (54, .bipush (12), 2, 0, 0, 12),
  (56, .if_icmp .ge (7), 3, 63, 0, 0),
  (59, .iload_n 3, 1, 0, 0, 0),
  (60, .goto (17), 3, 77, 0, 0),
  (63, .iload 6, 2, 0, 0, 0),
  (65, .bipush (16), 2, 0, 0, 16),
  (67, .if_icmp .ge (8), 3, 75, 0, 0),
  (70, .iload 4, 2, 0, 0, 0),
  (72, .goto (5), 3, 77, 0, 0),
  (75, .iload 5, 2, 0, 0, 0),
  (77, .istore 7, 2, 0, 0, 0),
  (79, .aload_n 0, 1, 0, 0, 0),
  (80, .getfield 45, 3, 8, 17, 0),
  (83, .aload_n 0, 1, 0, 0, 0),
  (84, .getfield 302, 3, 8, 18, 0),
  (87, .iload 7, 2, 0, 0, 0),
  (89, .bipush (24), 2, 0, 0, 24),
  (91, .bipush (8), 2, 0, 0, 8),
  (93, .iload 6, 2, 0, 0, 0),
  (95, .iconst (4), 1, 0, 0, 4),
  (96, .irem, 1, 0, 0, 0),
  (97, .imul, 1, 0, 0, 0),
  (98, .isub, 1, 0, 0, 0),
  (99, .ishr, 1, 0, 0, 0),
  (100, .sipush (255), 3, 0, 0, 255),
  (103, .iand, 1, 0, 0, 0),
  (104, .iastore, 1, 0, 0, 0),
  (105, .aload_n 0, 1, 0, 0, 0),
  (106, .dup, 1, 0, 0, 0),
  (107, .getfield 302, 3, 8, 18, 0),
  (110, .iconst (1), 1, 0, 0, 1),
  (111, .iadd, 1, 0, 0, 0),
  (112, .putfield 302, 3, 8, 18, 0),
  (115, .iinc 6 (1), 3, 0, 0, 1),
  (118, .goto (-94), 3, 24, 0, 0),
  (121, .aload_n 0, 1, 0, 0, 0),
  (122, .getfield 302, 3, 8, 18, 0),
  (125, .ireturn, 1, 0, 0, 0)]
def a_c240 : List (Nat × a_Rw) := [
  (0, .aload_n 0, 1, 0, 0, 0),
  (1, .iconst (0), 1, 0, 0, 0),
  (2, .putfield 1, 3, 8, 0, 0),
  (5, .iload_n 1, 1, 0, 0, 0),
  (6, .i2l, 1, 0, 0, 0),
  (7, .lconst 0, 1, 0, 0, 0),
  (8, .aload_n 0, 1, 0, 0, 0),
  (9, .getfield 302, 3, 8, 18, 0),
  (12, .i2l, 1, 0, 0, 0),
  (13, .invokestatic 68, 3, 147, 3, 0),
  (16, .ifCond .ne (6), 3, 22, 0, 0),
  (19, .bipush (-3), 2, 0, 0, -3),
  (21, .ireturn, 1, 0, 0, 0),
  (22, .aload_n 0, 1, 0, 0, 0),
  (23, .iconst (0), 1, 0, 0, 0),
  (24, .putfield 302, 3, 8, 18, 0),
  (27, .aload_n 0, 1, 0, 0, 0),
  (28, .iload_n 1, 1, 0, 0, 0),
  (29, .putfield 311, 3, 8, 19, 0),
  (32, .aload_n 0, 1, 0, 0, 0),
  (33, .iconst (0), 1, 0, 0, 0),
  (34, .putfield 308, 3, 8, 20, 0),
  (37, .aload_n 0, 1, 0, 0, 0),
  (38, .iconst (0), 1, 0, 0, 0),
  (39, .putfield 305, 3, 8, 21, 0),
  (42, .aload_n 0, 1, 0, 0, 0),
  (43, .iconst (-1), 1, 0, 0, -1),
  (44, .putfield 48, 3, 8, 22, 0),
  (47, .aload_n 0, 1, 0, 0, 0),
  (48, .iconst (0), 1, 0, 0, 0),
  (49, .putfield 391, 3, 8, 23, 0),
  (52, .aload_n 0, 1, 0, 0, 0),
  (53, .iconst (0), 1, 0, 0, 0),
  (54, .putfield 377, 3, 8, 27, 0),
  (57, .aload_n 0, 1, 0, 0, 0),
  (58, .getfield 305, 3, 8, 21, 0),
  (61, .ifCond .ne (21), 3, 82, 0, 0),
  (64, .aload_n 0, 1, 0, 0, 0),
  (65, .getfield 308, 3, 8, 20, 0),
  (68, .aload_n 0, 1, 0, 0, 0),
  (69, .getfield 311, 3, 8, 19, 0),
  (72, .if_icmp .ge (10), 3, 82, 0, 0),
  (75, .aload_n 0, 1, 0, 0, 0),
  (76, .invokevirtual 394, 3, 241, 1, 0),
  (79, .goto (-22), 3, 57, 0, 0),
  (82, .aload_n 0, 1, 0, 0, 0),
  (83, .getfield 305, 3, 8, 21, 0),
  (86, .ifCond .eq (11), 3, 97, 0, 0),
  (89, .bipush (-30), 2, 0, 0, -30),
  (91, .aload_n 0, 1, 0, 0, 0),
  (92, .getfield 305, 3, 8, 21, 0),
  (95, .isub, 1, 0, 0, 0),
  (96, .ireturn, 1, 0, 0, 0),
  (97, .aload_n 0, 1, 0, 0, 0),
  (98, .invokevirtual 182, 3, 148, 1, 0),
  (101, .iconst (0), 1, 0, 0, 0),
  (102, .istore_n 2, 1, 0, 0, 0),
  (103, .iload_n 2, 1, 0, 0, 0),
  (104, .aload_n 0, 1, 0, 0, 0),
  (105, .getfield 377, 3, 8, 27, 0),
  (108, .if_icmp .ge (51), 3, 159, 0, 0),
  (111, .aload_n 0, 1, 0, 0, 0),
  (112, .getfield 391, 3, 8, 23, 0),
  (115, .ifCond .ne (44), 3, 159, 0, 0),
  (118, .aload_n 0, 1, 0, 0, 0),
  (119, .aload_n 0, 1, 0, 0, 0),
  (120, .getfield 51, 3, 8, 24, 0),
  (123, .iload_n 2, 1, 0, 0, 0),
  (124, .iaload, 1, 0, 0, 0),
  (125, .aload_n 0, 1, 0, 0, 0),
  (126, .getfield 54, 3, 8, 25, 0),
  (129, .iload_n 2, 1, 0, 0, 0),
  (130, .iaload, 1, 0, 0, 0),
  (131, .aload_n 0, 1, 0, 0, 0),
  (132, .getfield 57, 3, 8, 26, 0),
  (135, .iload_n 2, 1, 0, 0, 0),
  (136, .iaload, 1, 0, 0, 0),
  (137, .invokevirtual 397, 3, 252, 4, 0),
  (140, .istore_n 3, 1, 0, 0, 0),
  (141, .iload_n 3, 1, 0, 0, 0),
  (142, .ifCond .ge (11), 3, 153, 0, 0),
  (145, .aload_n 0, 1, 0, 0, 0),
  (146, .iload_n 3, 1, 0, 0, 0),
  (147, .putfield 391, 3, 8, 23, 0),
  (150, .goto (6), 3, 156, 0, 0),
  (153, .iinc 2 (1), 3, 0, 0, 1),
  (156, .goto (-53), 3, 103, 0, 0),
  (159, .iload_n 2, 1, 0, 0, 0),
  (160, .ifCond .le (7), 3, 167, 0, 0),
  (163, .aload_n 0, 1, 0, 0, 0),
  (164, .invokevirtual 94, 3, 151, 1, 0),
  (167, .iload_n 2, 1, 0, 0, 0),
  (168, .ireturn, 1, 0, 0, 0)]
def a_c241 : List (Nat × a_Rw) := [
  (0, .aload_n 0, 1, 0, 0, 0),
  (1, .getfield 308, 3, 8, 20, 0),
  (4, .istore_n 1, 1, 0, 0, 0),
  (5, .aload_n 0, 1, 0, 0, 0),
  (6, .iconst (0), 1, 0, 0, 0),
  (7, .bipush (9), 2, 0, 0, 9),
  (9, .invokevirtual 374, 3, 242, 3, 0),
  (12, .istore_n 2, 1, 0, 0, 0),
  (13, .aload_n 0, 1, 0, 0, 0),
  (14, .getfield 377, 3, 8, 27, 0),
  (17, .bipush (12), 2, 0, 0, 12),
  (19, .if_icmp .ne (9), 3, 28, 0, 0),
  (22, .aload_n 0, 1, 0, 0, 0),
  (23, .iconst (3), 1, 0, 0, 3),
  (24, .iload_n 1, 1, 0, 0, 0),
  (25, .invokevirtual 365, 3, 245, 3, 0),
  (28, .iconst (-1), 1, 0, 0, -1),
  (29, .istore_n 3, 1, 0, 0, 0),
  (30, .iconst (-1), 1, 0, 0, -1),
  (31, .istore 4, 2, 0, 0, 0),
  (33, .iload_n 2, 1, 0, 0, 0),
  (34, .i2l, 1, 0, 0, 0),
  (35, .ldc2_w 191, 3, 0, 0, 3),
  (38, .ldc2_w 380, 3, 0, 0, 6),
  (41, .invokestatic 68, 3, 147, 3, 0),
  (44, .ifCond .ne (9), 3, 53, 0, 0),
  (47, .iload_n 2, 1, 0, 0, 0),
  (48, .bipush (8), 2, 0, 0, 8),
  (50, .if_icmp .ne (14), 3, 64, 0, 0),
  (53, .aload_n 0, 1, 0, 0, 0),
  (54, .bipush (32), 2, 0, 0, 32),
  (56, .invokevirtual 382, 3, 248, 2, 0),
  (59, .aload_n 0, 1, 0, 0, 0),
  (60, .invokevirtual 385, 3, 249, 1, 0),
  (63, .istore_n 3, 1, 0, 0, 0),
  (64, .iload_n 2, 1, 0, 0, 0),
  (65, .bipush (8), 2, 0, 0, 8),
  (67, .if_icmp .ne (29), 3, 96, 0, 0),
  (70, .aload_n 0, 1, 0, 0, 0),
  (71, .bipush (32), 2, 0, 0, 32),
  (73, .invokevirtual 382, 3, 248, 2, 0),
  (76, .aload_n 0, 1, 0, 0, 0),
  (77, .bipush (10), 2, 0, 0, 10),
  (79, .bipush (11), 2, 0, 0, 11),
  (81, .invokevirtual 374, 3, 242, 3, 0),
  (84, .bipush (10), 2, 0, 0, 10),
  (86, .if_icmp .ne (7), 3, 93, 0, 0),
  (89, .iconst (1), 1, 0, 0, 1),
  (90, .goto (4), 3, 94, 0, 0),
  (93, .iconst (0), 1, 0, 0, 0),
  (94, .istore 4, 2, 0, 0, 0),
  (96, .iload_n 2, 1, 0, 0, 0),
  (97, .i2l, 1, 0, 0, 0),
  (98, .lconst 0, 1, 0, 0, 0),
  (99, .ldc2_w 178, 3, 0, 0, 2),
  (102, .invokestatic 68, 3, 147, 3, 0),
  (105, .ifCond .eq (17), 3, 122, 0, 0),
  (108, .aload_n 0, 1, 0, 0, 0),
  (109, .bipush (32), 2, 0, 0, 32),
  (111, .invokevirtual 388, 3, 251, 2, 0),
  (114, .ifCond .eq (8), 3, 122, 0, 0),
  (117, .aload_n 0, 1, 0, 0, 0),
  (118, .invokevirtual 385, 3, 249, 1, 0),
  (121, .istore_n 3, 1, 0, 0, 0),
  (122, .iload_n 2, 1, 0, 0, 0),
  (123, .iconst (5), 1, 0, 0, 5),
  (124, .if_icmp .ne (18), 3, 142, 0, 0),
  (127, .aload_n 0, 1, 0, 0, 0),
  (128, .bipush (32), 2, 0, 0, 32),
  (130, .invokevirtual 388, 3, 251, 2, 0),
  (133, .ifCond .eq (9), 3, 142, 0, 0),
  (136, .aload_n 0, 1, 0, 0, 0),
  (137, .invokevirtual 385, 3, 249, 1, 0),
  (140, .istore 4, 2, 0, 0, 0),
  (142, .aload_n 0, 1, 0, 0, 0),
  (143, .bipush (59), 2, 0, 0, 59),
  (145, .invokevirtual 382, 3, 248, 2, 0),
  (148, .aload_n 0, 1, 0, 0, 0),
  (149, .getfield 305, 3, 8, 21, 0),
  (152, .ifCond .eq (4), 3, 156, 0, 0),
  (155, .return_, 1, 0, 0, 0),
  (156, .aload_n 0, 1, 0, 0, 0),
  (157, .getfield 51, 3, 8, 24, 0),
  (160, .aload_n 0, 1, 0, 0, 0),
  (161, .getfield 377, 3, 8, 27, 0),
  (164, .iload_n 2, 1, 0, 0, 0),
  (165, .iastore, 1, 0, 0, 0),
  (166, .aload_n 0, 1, 0, 0, 0),
  (167, .getfield 54, 3, 8, 25, 0),
  (170, .aload_n 0, 1, 0, 0, 0),
  (171, .getfield 377, 3, 8, 27, 0),
  (174, .iload_n 3, 1, 0, 0, 0),
  (175, .iastore, 1, 0, 0, 0),
  (176, .aload_n 0, 1, 0, 0, 0),
  (177, .getfield 57, 3, 8, 26, 0),
  (180, .aload_n 0, 1, 0, 0, 0),
  (181, .getfield 377, 3, 8, 27, 0),
  (184, .iload 4, 2, 0, 0, 0),
  (186, .iastore, 1, 0, 0, 0),
  (187, .aload_n 0, 1, 0, 0, 0),
  (188, .dup, 1, 0, 0, 0),
  (189, .getfield 377, 3, 8, 27, 0),
  (192, .iconst (1), 1, 0, 0, 1),
  (193, .iadd, 1, 0, 0, 0),
  (194, .putfield 377, 3, 8, 27, 0),
  (197, .return_, 1, 0, 0, 0)]
def a_c242 : List (Nat × a_Rw) := [
  (0, .aload_n 0, 1, 0, 0, 0),
  (1, .getfield 305, 3, 8, 21, 0),
  (4, .ifCond .eq (5), 3, 9, 0, 0),
  (7, .iconst (-1), 1, 0, 0, -1),
  (8, .ireturn, 1, 0, 0, 0),
  (9, .aload_n 0, 1, 0, 0, 0),
  (10, .getfield 308, 3, 8, 20, 0),
  (13, .istore_n 3, 1, 0, 0, 0),
  (14, .aload_n 0, 1, 0, 0, 0),
  (15, .invokevirtual 362, 3, 243, 1, 0),
  (18, .ifCond .ne (11), 3, 29, 0, 0),
  (21, .aload_n 0, 1, 0, 0, 0),
  (22, .iconst (2), 1, 0, 0, 2),
  (23, .iload_n 3, 1, 0, 0, 0),
  (24, .invokevirtual 365, 3, 245, 3, 0),
  (27, .iconst (-1), 1, 0, 0, -1),
  (28, .ireturn, 1, 0, 0, 0),
  (29, .aload_n 0, 1, 0, 0, 0),
  (30, .invokevirtual 362, 3, 243, 1, 0),
  (33, .ifCond .eq (16), 3, 49, 0, 0),
  (36, .aload_n 0, 1, 0, 0, 0),
  (37, .dup, 1, 0, 0, 0),
  (38, .getfield 308, 3, 8, 20, 0),
  (41, .iconst (1), 1, 0, 0, 1),
  (42, .iadd, 1, 0, 0, 0),
  (43, .putfield 308, 3, 8, 20, 0),
  (46, .goto (-17), 3, 29, 0, 0),
  (49, .aload_n 0, 1, 0, 0, 0),
  (50, .iload_n 3, 1, 0, 0, 0),
  (51, .aload_n 0, 1, 0, 0, 0),
  (52, .getfield 308, 3, 8, 20, 0),
  (55, .invokevirtual 368, 3, 246, 3, 0),
  (58, .istore 4, 2, 0, 0, 0),
  (60, .iload 4, 2, 0, 0, 0),
  (62, .i2l, 1, 0, 0, 0),
  (63, .iload_n 1, 1, 0, 0, 0),
  (64, .i2l, 1, 0, 0, 0),
  (65, .iload_n 2, 1, 0, 0, 0),
  (66, .i2l, 1, 0, 0, 0),
  (67, .invokestatic 68, 3, 147, 3, 0),
  (70, .ifCond .ne (9), 3, 79, 0, 0),
  (73, .aload_n 0, 1, 0, 0, 0),
  (74, .iconst (1), 1, 0, 0, 1),
  (75, .iload_n 3, 1, 0, 0, 0),
  (76, .invokevirtual 365, 3, 245, 3, 0),
  (79, .iload 4, 2, 0, 0, 0),
  (81, .ireturn, 1, 0, 0, 0)]
def a_c243 : List (Nat × a_Rw) := [
  (0, .aload_n 0, 1, 0, 0, 0),
  (1, .invokevirtual 314, 3, 244, 1, 0),
  (4, .i2l, 1, 0, 0, 0),
  (5, .ldc2_w 317, 3, 0, 0, 97),
  (8, .ldc2_w 319, 3, 0, 0, 122),
  (11, .invokestatic 68, 3, 147, 3, 0),
  (14, .ireturn, 1, 0, 0, 0)]
def a_c244 : List (Nat × a_Rw) := [
  (0, .aload_n 0, 1, 0, 0, 0),
  (1, .getfield 308, 3, 8, 20, 0),
  (4, .aload_n 0, 1, 0, 0, 0),
  (5, .getfield 311, 3, 8, 19, 0),
  (8, .if_icmp .ge (15), 3, 23, 0, 0),
  (11, .aload_n 0, 1, 0, 0, 0),
  (12, .getfield 45, 3, 8, 17, 0),
  (15, .aload_n 0, 1, 0, 0, 0),
  (16, .getfield 308, 3, 8, 20, 0),
  (19, .iaload, 1, 0, 0, 0),
  (20, .goto (4), 3, 24, 0, 0),
  (23, .iconst (-1), 1, 0, 0, -1),
  (24, .ireturn, 1, 0, 0, 0)]
def a_c245 : List (Nat × a_Rw) := [
  (0, .aload_n 0, 1, 0, 0, 0),
  (1, .getfield 305, 3, 8, 21, 0),
  (4, .ifCond .eq (4), 3, 8, 0, 0),
  (7, .return_, 1, 0, 0, 0),
  (8, .aload_n 0, 1, 0, 0, 0),
  (9, .iload_n 1, 1, 0, 0, 0),
  (10, .putfield 305, 3, 8, 21, 0),
  (13, .aload_n 0, 1, 0, 0, 0),
  (14, .iload_n 2, 1, 0, 0, 0),
  (15, .putfield 48, 3, 8, 22, 0),
  (18, .return_, 1, 0, 0, 0)]
def a_c246 : List (Nat × a_Rw) := [
  (0, .aload_n 0, 1, 0, 0, 0),
  (1, .iload_n 1, 1, 0, 0, 0),
  (2, .iload_n 2, 1, 0, 0, 0),
  (3, .ldc_w 334, 3, 1, 18, 0),
  (6, .invokevirtual 336, 3, 247, 4, 0),
  (9, .ifCond .eq (5), 3, 14, 0, 0),
  (12, .iconst (0), 1, 0, 0, 0),
  (13, .ireturn, 1, 0, 0, 0),
  (14, .aload_n 0, 1, 0, 0, 0),
  (15, .iload_n 1, 1, 0, 0, 0),
  (16, .iload_n 2, 1, 0, 0, 0),
  (17, .ldc_w 340, 3, 1, 19, 0),
  (20, .invokevirtual 336, 3, 247, 4, 0),
  (23, .ifCond .eq (5), 3, 28, 0, 0),
  (26, .iconst (1), 1, 0, 0, 1),
  (27, .ireturn, 1, 0, 0, 0),
  (28, .aload_n 0, 1, 0, 0, 0),
  (29, .iload_n 1, 1, 0, 0, 0),
  (30, .iload_n 2, 1, 0, 0, 0),
  (31, .ldc_w 342, 3, 1, 20, 0),
  (34, .invokevirtual 336, 3, 247, 4, 0),
  (37, .ifCond .eq (5), 3, 42, 0, 0),
  (40, .iconst (2), 1, 0, 0, 2),
  (41, .ireturn, 1, 0, 0, 0),
  (42, .aload_n 0, 1, 0, 0, 0),
  (43, .iload_n 1, 1, 0, 0, 0),
  (44, .iload_n 2, 1, 0, 0, 0),
  (45, .ldc_w 344, 3, 1, 21, 0),
  (48, .invokevirtual 336, 3, 247, 4, 0),
  (51, .ifCond .eq (5), 3, 56, 0, 0),
  (54, .iconst (3), 1, 0, 0, 3),
  (55, .ireturn, 1, 0, 0, 0),
  (56, .aload_n 0, 1, 0, 0, 0),
  (57, .iload_n 1, 1, 0, 0, 0),
  (58, .iload_n 2, 1, 0, 0, 0),
  (59, .ldc_w 346, 3, 1, 22, 0),
  (62, .invokevirtual 336, 3, 247, 4, 0),
  (65, .ifCond .eq (5), 3, 70, 0, 0),
  (68, .iconst (4), 1, 0, 0, 4),
  (69, .ireturn, 1, 0, 0, 0),
  (70, .aload_n 0, 1, 0, 0, 0),
  (71, .iload_n 1, 1, 0, 0, 0),
  (72, .iload_n 2, 1, 0, 0, 0),
  (73, .ldc_w 348, 3, 1, 23, 0),
  (76, .invokevirtual 336, 3, 247, 4, 0),
  (79, .ifCond .eq (5), 3, 84, 0, 0),
  (82, .iconst (5), 1, 0, 0, 5),
  (83, .ireturn, 1, 0, 0, 0),
  (84, .aload_n 0, 1, 0, 0, 0),
  (85, .iload_n 1, 1, 0, 0, 0),
  (86, .iload_n 2, 1, 0, 0, 0),
  (87, .ldc_w 350, 3, 1, 24, 0),
  (90, .invokevirtual 336, 3, 247, 4, 0),
  (93, .ifCond .eq (6), 3, 99, 0, 0),
  (96, .bipush (6), 2, 0, 0, 6),
  (98, .ireturn, 1, 0, 0, 0),
  (99, .aload_n 0, 1, 0, 0, 0),
  (100, .iload_n 1, 1, 0, 0, 0),
  (101, .iload_n 2, 1, 0, 0, 0),
  (102, .ldc_w 352, 3, 1, 25, 0),
  (105, .invokevirtual 336, 3, 247, 4, 0),
  (108, .ifCond .eq (6), 3, 114, 0, 0),
  (111, .bipush (7), 2, 0, 0, 7),
  (113, .ireturn, 1, 0, 0, 0),
  (114, .aload_n 0, 1, 0, 0, 0),
  (115, .iload_n 1, 1, 0, 0, 0),
  (116, .iload_n 2, 1, 0, 0, 0),
  (117, .ldc_w 354, 3, 1, 26, 0),
  (120, .invokevirtual 336, 3, 247, 4, 0),
  (123, .ifCond .eq (6), 3, 129, 0, 0),
  (126, .bipush (8), 2, 0, 0, 8),
  (128, .ireturn, 1, 0, 0, 0),
  (129, .aload_n 0, 1, 0, 0, 0),
  (130, .iload_n 1, 1, 0, 0, 0),
  (131, .iload_n 2, 1, 0, 0, 0),
  (132, .ldc_w 356, 3, 1, 27, 0),
  (135, .invokevirtual 336, 3, 247, 4, 0),
  (138, .ifCond .eq (6), 3, 144, 0, 0),
  (141, .bipush (9), 2, 0, 0, 9),
  (143, .ireturn, 1, 0, 0, 0),
  (144, .aload_n 0, 1, 0, 0, 0),
  (145, .iload_n 1, 1, 0, 0, 0),
  (146, .iload_n 2, 1, 0, 0, 0),
  (147, .ldc_w 358, 3, 1, 28, 0),
  (150, .invokevirtual 336, 3, 247, 4, 0),
  (153, .ifCond .eq (6), 3, 159, 0, 0),
  (156, .bipush (10), 2, 0, 0, 10),
  (158, .ireturn, 1, 0, 0, 0),
  (159, .aload_n 0, 1, 0, 0, 0),
  (160, .iload_n 1, 1, 0, 0, 0),
  (161, .iload_n 2, 1, 0, 0, 0),
  (162, .ldc_w 360, 3, 1, 29, 0),
  (165, .invokevirtual 336, 3, 247, 4, 0),
  (168, .ifCond .eq (8), 3, 176, 0, 0),
  (171, .bipush (11), 2, 0, 0, 11),
  (173, .goto (4), 3, 177, 0, 0),
  (176, .iconst (-1), 1, 0, 0, -1),
  (177, .ireturn, 1, 0, 0, 0)]
def a_c247 : List (Nat × a_Rw) := [
  (0, .iload_n 2, 1, 0, 0, 0),
  (1, .iload_n 1, 1, 0, 0, 0),
  (2, .isub, 1, 0, 0, 0),
  (3, .aload_n 3, 1, 0, 0, 0),
  (4, .invokevirtual 325, 3, 267, 1, 0),
  (7, .if_icmp .eq (5), 3, 12, 0, 0),
  (10, .iconst (0), 1, 0, 0, 0),
  (11, .ireturn, 1, 0, 0, 0),
  (12, .iconst (0), 1, 0, 0, 0),
  (13, .istore 4, 2, 0, 0, 0),
  (15, .iload 4, 2, 0, 0, 0),
  (17, .aload_n 3, 1, 0, 0, 0),
  (18, .invokevirtual 325, 3, 267, 1, 0),
  (21, .if_icmp .ge (29), 3, 50, 0, 0),
  (24, .aload_n 0, 1, 0, 0, 0),
  (25, .getfield 45, 3, 8, 17, 0),
  (28, .iload_n 1, 1, 0, 0, 0),
  (29, .iload 4, 2, 0, 0, 0),
  (31, .iadd, 1, 0, 0, 0),
  (32, .iaload, 1, 0, 0, 0),
  (33, .aload_n 3, 1, 0, 0, 0),
  (34, .iload 4, 2, 0, 0, 0),
  (36, .invokevirtual 330, 3, 269, 2, 0),
  (39, .if_icmp .eq (5), 3, 44, 0, 0),
  (42, .iconst (0), 1, 0, 0, 0),
  (43, .ireturn, 1, 0, 0, 0),
  (44, .iinc 4 (1), 3, 0, 0, 1),
  (47, .goto (-32), 3, 15, 0, 0),
  (50, .iconst (1), 1, 0, 0, 1),
  (51, .ireturn, 1, 0, 0, 0)]
def a_c248 : List (Nat × a_Rw) := [
  (0, .aload_n 0, 1, 0, 0, 0),
  (1, .getfield 305, 3, 8, 21, 0),
  (4, .ifCond .eq (4), 3, 8, 0, 0),
  (7, .return_, 1, 0, 0, 0),
  (8, .aload_n 0, 1, 0, 0, 0),
  (9, .invokevirtual 314, 3, 244, 1, 0),
  (12, .iload_n 1, 1, 0, 0, 0),
  (13, .if_icmp .ne (16), 3, 29, 0, 0),
  (16, .aload_n 0, 1, 0, 0, 0),
  (17, .dup, 1, 0, 0, 0),
  (18, .getfield 308, 3, 8, 20, 0),
  (21, .iconst (1), 1, 0, 0, 1),
  (22, .iadd, 1, 0, 0, 0),
  (23, .putfield 308, 3, 8, 20, 0),
  (26, .goto (23), 3, 49, 0, 0),
  (29, .aload_n 0, 1, 0, 0, 0),
  (30, .aload_n 0, 1, 0, 0, 0),
  (31, .invokevirtual 362, 3, 243, 1, 0),
  (34, .ifCond .eq (7), 3, 41, 0, 0),
  (37, .iconst (1), 1, 0, 0, 1),
  (38, .goto (4), 3, 42, 0, 0),
  (41, .iconst (2), 1, 0, 0, 2),
  (42, .aload_n 0, 1, 0, 0, 0),
  (43, .getfield 308, 3, 8, 20, 0),
  (46, .invokevirtual 365, 3, 245, 3, 0),
  (49, .return_, 1, 0, 0, 0)]
def a_c249 : List (Nat × a_Rw) := [
  (0, .aload_n 0, 1, 0, 0, 0),
  (1, .getfield 305, 3, 8, 21, 0),
  (4, .ifCond .eq (5), 3, 9, 0, 0),
  (7, .iconst (-1), 1, 0, 0, -1),
  (8, .ireturn, 1, 0, 0, 0),
  (9, .aload_n 0, 1, 0, 0, 0),
  (10, .invokevirtual 371, 3, 250, 1, 0),
  (13, .ifCond .ne (25), 3, 38, 0, 0),
  (16, .aload_n 0, 1, 0, 0, 0),
  (17, .aload_n 0, 1, 0, 0, 0),
  (18, .invokevirtual 362, 3, 243, 1, 0),
  (21, .ifCond .eq (7), 3, 28, 0, 0),
  (24, .iconst (1), 1, 0, 0, 1),
  (25, .goto (4), 3, 29, 0, 0),
  (28, .iconst (2), 1, 0, 0, 2),
  (29, .aload_n 0, 1, 0, 0, 0),
  (30, .getfield 308, 3, 8, 20, 0),
  (33, .invokevirtual 365, 3, 245, 3, 0),
  (36, .iconst (-1), 1, 0, 0, -1),
  (37, .ireturn, 1, 0, 0, 0),
  (38, .aload_n 0, 1, 0, 0, 0),
  (39, .dup, 1, 0, 0, 0),
  (40, .getfield 308, 3, 8, 20, 0),
  (43, .iconst (1), 1, 0, 0, 1),
  (44, .iadd, 1, 0, 0, 0),
  (45, .putfield 308, 3, 8, 20, 0),
  (48, .aload_n 0, 1, 0, 0, 0),
  (49, .getfield 45, 3, 8, 17, 0),
  (52, .aload_n 0, 1, 0, 0, 0),
  (53, .getfield 308, 3, 8, 20, 0),
  (56, .iconst (1), 1, 0, 0, 1),
  (57, .isub, 1, 0, 0, 0),
  (58, .iaload, 1, 0, 0, 0),
  (59, .bipush (48), 2, 0, 0, 48),
  (61, .isub, 1, 0, 0, 0),
  (62, .ireturn, 1, 0, 0, 0)]
def a_c250 : List (Nat × a_Rw) := [
  (0, .aload_n 0, 1, 0, 0, 0),
  (1, .invokevirtual 314, 3, 244, 1, 0),
  (4, .i2l, 1, 0, 0, 0),
  (5, .ldc2_w 321, 3, 0, 0, 48),
  (8, .ldc2_w 323, 3, 0, 0, 57),
  (11, .invokestatic 68, 3, 147, 3, 0),
  (14, .ireturn, 1, 0, 0, 0)]
def a_c251 : List (Nat × a_Rw) := [
  (0, .aload_n 0, 1, 0, 0, 0),
  (1, .getfield 305, 3, 8, 21, 0),
  (4, .ifCond .ne (11), 3, 15, 0, 0),
  (7, .aload_n 0, 1, 0, 0, 0),
  (8, .invokevirtual 314, 3, 244, 1, 0),
  (11, .iload_n 1, 1, 0, 0, 0),
  (12, .if_icmp .eq (5), 3, 17, 0, 0),
  (15, .iconst (0), 1, 0, 0, 0),
  (16, .ireturn, 1, 0, 0, 0),
  (17, .aload_n 0, 1, 0, 0, 0),
  (18, .dup, 1, 0, 0, 0),
  (19, .getfield 308, 3, 8, 20, 0),
  (22, .iconst (1), 1, 0, 0, 1),
  (23, .iadd, 1, 0, 0, 0),
  (24, .putfield 308, 3, 8, 20, 0),
  (27, .iconst (1), 1, 0, 0, 1),
  (28, .ireturn, 1, 0, 0, 0)]
def a_c252 : List (Nat × a_Rw) := [
  (0, .iload_n 1, 1, 0, 0, 0),
  (1, .tableswitch (107) (0) (8) #[51, 57, 63, 69, 75, 81, 88, 94, 100], 51, 0, 0, 0),
  (52, .aload_n 0, 1, 0, 0, 0),
  (53, .iload_n 2, 1, 0, 0, 0),
  (54, .invokevirtual 199, 3, 164, 2, 0),
  (57, .ireturn, 1, 0, 0, 0),
  (58, .aload_n 0, 1, 0, 0, 0),
  (59, .iload_n 2, 1, 0, 0, 0),
  (60, .invokevirtual 202, 3, 176, 2, 0),
  (63, .ireturn, 1, 0, 0, 0),
  (64, .aload_n 0, 1, 0, 0, 0),
  (65, .iload_n 2, 1, 0, 0, 0),
  (66, .invokevirtual 205, 3, 178, 2, 0),
  (69, .ireturn, 1, 0, 0, 0),
  (70, .aload_n 0, 1, 0, 0, 0),
  (71, .iload_n 2, 1, 0, 0, 0),
  (72, .invokevirtual 208, 3, 181, 2, 0),
  (75, .ireturn, 1, 0, 0, 0),
  (76, .aload_n 0, 1, 0, 0, 0),
  (77, .iload_n 2, 1, 0, 0, 0),
  (78, .invokevirtual 211, 3, 183, 2, 0),
  (81, .ireturn, 1, 0, 0, 0),
  (82, .aload_n 0, 1, 0, 0, 0),
  (83, .iload_n 2, 1, 0, 0, 0),
  (84, .iload_n 3, 1, 0, 0, 0),
  (85, .invokevirtual 217, 3, 187, 3, 0),
  (88, .ireturn, 1, 0, 0, 0),
  (89, .aload_n 0, 1, 0, 0, 0),
  (90, .iload_n 2, 1, 0, 0, 0),
  (91, .invokevirtual 220, 3, 194, 2, 0),
  (94, .ireturn, 1, 0, 0, 0),
  (95, .aload_n 0, 1, 0, 0, 0),
  (96, .iconst (0), 1, 0, 0, 0),
  (97, .invokevirtual 214, 3, 185, 2, 0),
  (100, .ireturn, 1, 0, 0, 0),
  (101, .aload_n 0, 1, 0, 0, 0),
  (102, .iload_n 2, 1, 0, 0, 0),
  (103, .iload_n 3, 1, 0, 0, 0),
  (104, .invokevirtual 188, 3, 153, 3, 0),
  (107, .ireturn, 1, 0, 0, 0),
  (108, .aload_n 0, 1, 0, 0, 0),
  (109, .iconst (-1), 1, 0, 0, -1),
  (110, .invokevirtual 223, 3, 197, 2, 0),
  (113, .ireturn, 1, 0, 0, 0)]
def a_c253 : List (Nat × a_Rw) := [
  (0, .aload_n 0, 1, 0, 0, 0),
  (1, .iconst (0), 1, 0, 0, 0),
  (2, .putfield 1, 3, 8, 0, 0),
  (5, .iload_n 1, 1, 0, 0, 0),
  (6, .ifCond .ne (10), 3, 16, 0, 0),
  (9, .aload_n 0, 1, 0, 0, 0),
  (10, .getfield 305, 3, 8, 21, 0),
  (13, .goto (28), 3, 41, 0, 0),
  (16, .iload_n 1, 1, 0, 0, 0),
  (17, .iconst (1), 1, 0, 0, 1),
  (18, .if_icmp .ne (10), 3, 28, 0, 0),
  (21, .aload_n 0, 1, 0, 0, 0),
  (22, .getfield 48, 3, 8, 22, 0),
  (25, .goto (16), 3, 41, 0, 0),
  (28, .iload_n 1, 1, 0, 0, 0),
  (29, .iconst (2), 1, 0, 0, 2),
  (30, .if_icmp .ne (10), 3, 40, 0, 0),
  (33, .aload_n 0, 1, 0, 0, 0),
  (34, .getfield 391, 3, 8, 23, 0),
  (37, .goto (4), 3, 41, 0, 0),
  (40, .iconst (-1), 1, 0, 0, -1),
  (41, .ireturn, 1, 0, 0, 0)]
def a_c254 : List (Nat × a_Rw) := [
  (0, .aload_n 0, 1, 0, 0, 0),
  (1, .iconst (0), 1, 0, 0, 0),
  (2, .putfield 1, 3, 8, 0, 0),
  (5, .aload_n 0, 1, 0, 0, 0),
  (6, .getfield 13, 3, 8, 1, 0),
  (9, .bipush (35), 2, 0, 0, 35),
  (11, .iaload, 1, 0, 0, 0),
  (12, .ireturn, 1, 0, 0, 0)]
def a_c255 : List (Nat × a_Rw) := [
  (0, .aload_n 0, 1, 0, 0, 0),
  (1, .iconst (0), 1, 0, 0, 0),
  (2, .putfield 1, 3, 8, 0, 0),
  (5, .iload_n 1, 1, 0, 0, 0),
  (6, .i2l, 1, 0, 0, 0),
  (7, .lconst 0, 1, 0, 0, 0),
  (8, .aload_n 0, 1, 0, 0, 0),
  (9, .getfield 13, 3, 8, 1, 0),
  (12, .bipush (35), 2, 0, 0, 35),
  (14, .iaload, 1, 0, 0, 0),
  (15, .iconst (1), 1, 0, 0, 1),
  (16, .isub, 1, 0, 0, 0),
  (17, .i2l, 1, 0, 0, 0),
  (18, .invokestatic 68, 3, 147, 3, 0),
  (21, .ifCond .ne (6), 3, 27, 0, 0),
  (24, .bipush (-2), 2, 0, 0, -2),
  (26, .ireturn, 1, 0, 0, 0),
  (27, .iload_n 2, 1, 0, 0, 0),
  (28, .iconst (-1), 1, 0, 0, -1),
  (29, .if_icmp .ge (6), 3, 35, 0, 0),
  (32, .bipush (-3), 2, 0, 0, -3),
  (34, .ireturn, 1, 0, 0, 0),
  (35, .bipush (36), 2, 0, 0, 36),
  (37, .iconst (3), 1, 0, 0, 3),
  (38, .iload_n 1, 1, 0, 0, 0),
  (39, .imul, 1, 0, 0, 0),
  (40, .iadd, 1, 0, 0, 0),
  (41, .istore_n 3, 1, 0, 0, 0),
  (42, .aload_n 0, 1, 0, 0, 0),
  (43, .getfield 13, 3, 8, 1, 0),
  (46, .iload_n 3, 1, 0, 0, 0),
  (47, .iconst (1), 1, 0, 0, 1),
  (48, .iadd, 1, 0, 0, 0),
  (49, .iaload, 1, 0, 0, 0),
  (50, .invokestatic 416, 3, 256, 1, 0),
  (53, .istore 4, 2, 0, 0, 0),
  (55, .iload_n 2, 1, 0, 0, 0),
  (56, .iconst (-1), 1, 0, 0, -1),
  (57, .if_icmp .ne (20), 3, 77, 0, 0),
  (60, .iconst (3), 1, 0, 0, 3),
  (61, .iload 4, 2, 0, 0, 0),
  (63, .iadd, 1, 0, 0, 0),
  (64, .aload_n 0, 1, 0, 0, 0),
  (65, .getfield 13, 3, 8, 1, 0),
  (68, .iload_n 3, 1, 0, 0, 0),
  (69, .iconst (2), 1, 0, 0, 2),
  (70, .iadd, 1, 0, 0, 0),
  (71, .iaload, 1, 0, 0, 0),
  (72, .invokestatic 416, 3, 256, 1, 0),
  (75, .iadd, 1, 0, 0, 0),
  (76, .ireturn, 1, 0, 0, 0),
  (77, .iload_n 2, 1, 0, 0, 0),
  (78, .ifCond .ne (13), 3, 91, 0, 0),
  (81, .bipush (48), 2, 0, 0, 48),
  (83, .aload_n 0, 1, 0, 0, 0),
  (84, .getfield 13, 3, 8, 1, 0),
  (87, .iload_n 3, 1, 0, 0, 0),
  (88, .iaload, 1, 0, 0, 0),
  (89, .iadd, 1, 0, 0, 0),
  (90, .ireturn, 1, 0, 0, 0),
  (91, .iload_n 2, 1, 0, 0, 0),
  (92, .iconst (1), 1, 0, 0, 1),
  (93, .if_icmp .eq (11), 3, 104, 0, 0),
  (96, .iload_n 2, 1, 0, 0, 0),
  (97, .iconst (2), 1, 0, 0, 2),
  (98, .iload 4, 2, 0, 0, 0),
  (100, .iadd, 1, 0, 0, 0),
  (101, .if_icmp .ne (6), 3, 107, 0, 0),
  (104, .bipush (32), 2, 0, 0, 32),
  (106, .ireturn, 1, 0, 0, 0),
  (107, .iload_n 2, 1, 0, 0, 0),
  (108, .iconst (2), 1, 0, 0, 2),
  (109, .iload 4, 2, 0, 0, 0),
  (111, .iadd, 1, 0, 0, 0),
  (112, .if_icmp .ge (20), 3, 132, 0, 0),
  (115, .aload_n 0, 1, 0, 0, 0),
  (116, .getfield 13, 3, 8, 1, 0),
  (119, .iload_n 3, 1, 0, 0, 0),
  (120, .iconst (1), 1, 0, 0, 1),
  (121, .iadd, 1, 0, 0, 0),
  (122, .iaload, 1, 0, 0, 0),
  (123, .iload_n 2, 1, 0, 0, 0),
  (124, .iconst (2), 1, 0, 0, 2),
  (125, .isub, 1, 0, 0, 0),
  (126, .invokestatic 413, 3, 257, 2, 0),
  (129, .goto (20), 3, 149, 0, 0),
  (132, .aload_n 0, 1, 0, 0, 0),
  (133, .getfield 13, 3, 8, 1, 0),
  (136, .iload_n 3, 1, 0, 0, 0),
  (137, .iconst (2), 1, 0, 0, 2),
  (138, .iadd, 1, 0, 0, 0),
  (139, .iaload, 1, 0, 0, 0),
  (140, .iload_n 2, 1, 0, 0, 0),
  (141, .iconst (3), 1, 0, 0, 3),
  (142, .isub, 1, 0, 0, 0),
  (143, .iload 4, 2, 0, 0, 0),
  (145, .isub, 1, 0, 0, 0),
  (146, .invokestatic 413, 3, 257, 2, 0),
  (149, .ireturn, 1, 0, 0, 0)]
def a_c256 : List (Nat × a_Rw) := [
  (0, .iconst (0), 1, 0, 0, 0),
  (1, .istore_n 1, 1, 0, 0, 0),
  (2, .iload_n 0, 1, 0, 0, 0),
  (3, .iload_n 1, 1, 0, 0, 0),
  (4, .invokestatic 413, 3, 257, 2, 0),
  (7, .iconst (-1), 1, 0, 0, -1),
  (8, .if_icmp .eq (9), 3, 17, 0, 0),
  (11, .iinc 1 (1), 3, 0, 0, 1),
  (14, .goto (-12), 3, 2, 0, 0),
  (17, .iload_n 1, 1, 0, 0, 0),
  (18, .ireturn, 1, 0, 0, 0)]
def a_c257 : List (Nat × a_Rw) := [
  (0, .iload_n 0, 1, 0, 0, 0),
  (1, .ifCond .ne (9), 3, 10, 0, 0),
  (4, .ldc_w 401, 3, 1, 30, 0),
  (7, .goto (50), 3, 57, 0, 0),
  (10, .iload_n 0, 1, 0, 0, 0),
  (11, .iconst (1), 1, 0, 0, 1),
  (12, .if_icmp .ne (9), 3, 21, 0, 0),
  (15, .ldc_w 403, 3, 1, 31, 0),
  (18, .goto (39), 3, 57, 0, 0),
  (21, .iload_n 0, 1, 0, 0, 0),
  (22, .iconst (2), 1, 0, 0, 2),
  (23, .if_icmp .ne (9), 3, 32, 0, 0),
  (26, .ldc_w 405, 3, 1, 32, 0),
  (29, .goto (28), 3, 57, 0, 0),
  (32, .iload_n 0, 1, 0, 0, 0),
  (33, .iconst (3), 1, 0, 0, 3),
  (34, .if_icmp .ne (9), 3, 43, 0, 0),
  (37, .ldc_w 407, 3, 1, 33, 0),
  (40, .goto (17), 3, 57, 0, 0),
  (43, .iload_n 0, 1, 0, 0, 0),
  (44, .iconst (4), 1, 0, 0, 4),
  (45, .if_icmp .ne (9), 3, 54, 0, 0),
  (48, .ldc_w 409, 3, 1, 34, 0),
  (51, .goto (6), 3, 57, 0, 0),
  (54, .ldc_w 411, 3, 1, 35, 0),
  (57, .astore_n 2, 1, 0, 0, 0),
  (58, .iload_n 1, 1, 0, 0, 0),
  (59, .aload_n 2, 1, 0, 0, 0),
  (60, .invokevirtual 325, 3, 267, 1, 0),
  (63, .if_icmp .ge (11), 3, 74, 0, 0),
  (66, .aload_n 2, 1, 0, 0, 0),
  (67, .iload_n 1, 1, 0, 0, 0),
  (68, .invokevirtual 330, 3, 269, 2, 0),
  (71, .goto (4), 3, 75, 0, 0),
  (74, .iconst (-1), 1, 0, 0, -1),
  (75, .ireturn, 1, 0, 0, 0)]
def a_c258 : List (Nat × a_Rw) := [
  (0, .aload_n 0, 1, 0, 0, 0),
  (1, .iconst (0), 1, 0, 0, 0),
  (2, .putfield 1, 3, 8, 0, 0),
  (5, .iload_n 1, 1, 0, 0, 0),
  (6, .i2l, 1, 0, 0, 0),
  (7, .lconst 1, 1, 0, 0, 1),
  (8, .ldc2_w 419, 3, 0, 0, 10),
  (11, .invokestatic 68, 3, 147, 3, 0),
  (14, .ifCond .eq (11), 3, 25, 0, 0),
  (17, .iload_n 1, 1, 0, 0, 0),
  (18, .aload_n 0, 1, 0, 0, 0),
  (19, .getfield 91, 3, 8, 5, 0),
  (22, .if_icmp .le (6), 3, 28, 0, 0),
  (25, .bipush (-3), 2, 0, 0, -3),
  (27, .ireturn, 1, 0, 0, 0),
  (28, .aload_n 0, 1, 0, 0, 0),
  (29, .dup, 1, 0, 0, 0),
  (30, .getfield 91, 3, 8, 5, 0),
  (33, .iload_n 1, 1, 0, 0, 0),
  (34, .isub, 1, 0, 0, 0),
  (35, .putfield 91, 3, 8, 5, 0),
  (38, .aload_n 0, 1, 0, 0, 0),
  (39, .getfield 17, 3, 8, 2, 0),
  (42, .sipush (216), 3, 0, 0, 216),
  (45, .aload_n 0, 1, 0, 0, 0),
  (46, .getfield 91, 3, 8, 5, 0),
  (49, .imul, 1, 0, 0, 0),
  (50, .aload_n 0, 1, 0, 0, 0),
  (51, .getfield 13, 3, 8, 1, 0),
  (54, .iconst (0), 1, 0, 0, 0),
  (55, .invokestatic 87, 3, 149, 4, 0),
  (58, .aload_n 0, 1, 0, 0, 0),
  (59, .getfield 91, 3, 8, 5, 0),
  (62, .ireturn, 1, 0, 0, 0)]
def a_c259 : List (Nat × a_Rw) := [
  (0, .aload_n 0, 1, 0, 0, 0),
  (1, .iconst (0), 1, 0, 0, 0),
  (2, .putfield 1, 3, 8, 0, 0),
  (5, .iload_n 1, 1, 0, 0, 0),
  (6, .i2l, 1, 0, 0, 0),
  (7, .lconst 0, 1, 0, 0, 0),
  (8, .lconst 1, 1, 0, 0, 1),
  (9, .invokestatic 68, 3, 147, 3, 0),
  (12, .ifCond .ne (6), 3, 18, 0, 0),
  (15, .bipush (-2), 2, 0, 0, -2),
  (17, .ireturn, 1, 0, 0, 0),
  (18, .aload_n 0, 1, 0, 0, 0),
  (19, .getfield 13, 3, 8, 1, 0),
  (22, .iconst (0), 1, 0, 0, 0),
  (23, .aload_n 0, 1, 0, 0, 0),
  (24, .getfield 13, 3, 8, 1, 0),
  (27, .sipush (216), 3, 0, 0, 216),
  (30, .iload_n 1, 1, 0, 0, 0),
  (31, .iconst (1), 1, 0, 0, 1),
  (32, .iadd, 1, 0, 0, 0),
  (33, .imul, 1, 0, 0, 0),
  (34, .invokestatic 87, 3, 149, 4, 0),
  (37, .aload_n 0, 1, 0, 0, 0),
  (38, .getfield 26, 3, 8, 6, 0),
  (41, .iload_n 1, 1, 0, 0, 0),
  (42, .iconst (1), 1, 0, 0, 1),
  (43, .bastore, 1, 0, 0, 0),
  (44, .iconst (0), 1, 0, 0, 0),
  (45, .ireturn, 1, 0, 0, 0)]
def a_c260 : List (Nat × a_Rw) := [
  (0, .aload_n 0, 1, 0, 0, 0),
  (1, .iconst (0), 1, 0, 0, 0),
  (2, .putfield 1, 3, 8, 0, 0),
  (5, .iload_n 1, 1, 0, 0, 0),
  (6, .i2l, 1, 0, 0, 0),
  (7, .lconst 0, 1, 0, 0, 0),
  (8, .lconst 1, 1, 0, 0, 1),
  (9, .invokestatic 68, 3, 147, 3, 0),
  (12, .ifCond .ne (6), 3, 18, 0, 0),
  (15, .bipush (-2), 2, 0, 0, -2),
  (17, .ireturn, 1, 0, 0, 0),
  (18, .aload_n 0, 1, 0, 0, 0),
  (19, .getfield 26, 3, 8, 6, 0),
  (22, .iload_n 1, 1, 0, 0, 0),
  (23, .baload, 1, 0, 0, 0),
  (24, .ifCond .ne (6), 3, 30, 0, 0),
  (27, .bipush (-6), 2, 0, 0, -6),
  (29, .ireturn, 1, 0, 0, 0),
  (30, .aload_n 0, 1, 0, 0, 0),
  (31, .getfield 13, 3, 8, 1, 0),
  (34, .sipush (216), 3, 0, 0, 216),
  (37, .iload_n 1, 1, 0, 0, 0),
  (38, .iconst (1), 1, 0, 0, 1),
  (39, .iadd, 1, 0, 0, 0),
  (40, .imul, 1, 0, 0, 0),
  (41, .aload_n 0, 1, 0, 0, 0),
  (42, .getfield 13, 3, 8, 1, 0),
  (45, .iconst (0), 1, 0, 0, 0),
  (46, .invokestatic 87, 3, 149, 4, 0),
  (49, .aload_n 0, 1, 0, 0, 0),
  (50, .iconst (0), 1, 0, 0, 0),
  (51, .putfield 91, 3, 8, 5, 0),
  (54, .iconst (0), 1, 0, 0, 0),
  (55, .ireturn, 1, 0, 0, 0)]
def a_c261 : List (Nat × a_Rw) := [
  (0, .aload_n 0, 1, 0, 0, 0),
  (1, .iconst (0), 1, 0, 0, 0),
  (2, .putfield 1, 3, 8, 0, 0),
  (5, .iload_n 1, 1, 0, 0, 0),
  (6, .tableswitch (100) (0) (7) #[46, 53, 60, 67, 74, 81, 90, 95], 46, 0, 0, 0),
  (52, .aload_n 0, 1, 0, 0, 0),
  (53, .getfield 13, 3, 8, 1, 0),
  (56, .iconst (0), 1, 0, 0, 0),
  (57, .iaload, 1, 0, 0, 0),
  (58, .ireturn, 1, 0, 0, 0),
  (59, .aload_n 0, 1, 0, 0, 0),
  (60, .getfield 13, 3, 8, 1, 0),
  (63, .iconst (1), 1, 0, 0, 1),
  (64, .iaload, 1, 0, 0, 0),
  (65, .ireturn, 1, 0, 0, 0),
  (66, .aload_n 0, 1, 0, 0, 0),
  (67, .getfield 13, 3, 8, 1, 0),
  (70, .iconst (2), 1, 0, 0, 2),
  (71, .iaload, 1, 0, 0, 0),
  (72, .ireturn, 1, 0, 0, 0),
  (73, .aload_n 0, 1, 0, 0, 0),
  (74, .getfield 13, 3, 8, 1, 0),
  (77, .iconst (3), 1, 0, 0, 3),
  (78, .iaload, 1, 0, 0, 0),
  (79, .ireturn, 1, 0, 0, 0),
  (80, .aload_n 0, 1, 0, 0, 0),
  (81, .getfield 13, 3, 8, 1, 0),
  (84, .iconst (4), 1, 0, 0, 4),
  (85, .iaload, 1, 0, 0, 0),
  (86, .ireturn, 1, 0, 0, 0),
  (87, .aload_n 0, 1, 0, 0, 0),
  (88, .aload_n 0, 1, 0, 0, 0),
  (89, .invokevirtual 142, 3, 159, 1, 0),
  (92, .invokevirtual 145, 3, 160, 2, 0),
  (95, .ireturn, 1, 0, 0, 0),
  (96, .aload_n 0, 1, 0, 0, 0),
  (97, .getfield 91, 3, 8, 5, 0),
  (100, .ireturn, 1, 0, 0, 0),
  (101, .aload_n 0, 1, 0, 0, 0),
  (102, .getfield 302, 3, 8, 18, 0),
  (105, .ireturn, 1, 0, 0, 0),
  (106, .iconst (-1), 1, 0, 0, -1),
  (107, .ireturn, 1, 0, 0, 0)]
def a_c262 : List (Nat × a_Rw) := [
  (0, .new 7, 3, 0, 0, 0),
  (3, .dup, 1, 0, 0, 0),
  (4, .invokespecial 9, 3, 0, 1, 0),
  (7, .astore_n 1, 1, 0, 0, 0),
  (8, .new 10, 3, 8, 0, 0),
  (11, .dup, 1, 0, 0, 0),
  (12, .invokespecial 12, 3, 143, 1, 0),
  (15, .astore_n 2, 1, 0, 0, 0),
  (16, .iconst (0), 1, 0, 0, 0),
  (17, .istore_n 3, 1, 0, 0, 0),
  (18, .iload_n 3, 1, 0, 0, 0),
  (19, .aload_n 0, 1, 0, 0, 0),
  (20, .arraylength, 1, 0, 0, 0),
  (21, .bipush (6), 2, 0, 0, 6),
  (23, .isub, 1, 0, 0, 0),
  (24, .if_icmp .gt (1243), 3, 1267, 0, 0),
  (27, .aload_n 0, 1, 0, 0, 0),
  (28, .iload_n 3, 1, 0, 0, 0),
  (29, .iaload, 1, 0, 0, 0),
  (30, .bipush (63), 2, 0, 0, 63),
  (32, .iand, 1, 0, 0, 0),
  (33, .tableswitch (1228) (0) (38) #[171, 204, 237, 270, 303, 326, 349, 372, 395, 418, 441, 474, 497, 520, 553, 576, 599, 612, 635, 648, 671, 694, 737, 780, 803, 816, 839, 872, 915, 948, 981, 1044, 1067, 1090, 1103, 1136, 1159, 1182, 1205], 171, 0, 0, 0),
  (204, .aload_n 1, 1, 0, 0, 0),
  (205, .aload_n 0, 1, 0, 0, 0),
  (206, .iload_n 3, 1, 0, 0, 0),
  (207, .iconst (1), 1, 0, 0, 1),
  (208, .iadd, 1, 0, 0, 0),
  (209, .iaload, 1, 0, 0, 0),
  (210, .aload_n 0, 1, 0, 0, 0),
  (211, .iload_n 3, 1, 0, 0, 0),
  (212, .iconst (2), 1, 0, 0, 2),
  (213, .iadd, 1, 0, 0, 0),
  (214, .iaload, 1, 0, 0, 0),
  (215, .invokevirtual 13, 3, 1, 3, 0),
  (218, .aload_n 2, 1, 0, 0, 0),
  (219, .aload_n 0, 1, 0, 0, 0),
  (220, .iload_n 3, 1, 0, 0, 0),
  (221, .iconst (1), 1, 0, 0, 1),
  (222, .iadd, 1, 0, 0, 0),
  (223, .iaload, 1, 0, 0, 0),
  (224, .aload_n 0, 1, 0, 0, 0),
  (225, .iload_n 3, 1, 0, 0, 0),
  (226, .iconst (2), 1, 0, 0, 2),
  (227, .iadd, 1, 0, 0, 0),
  (228, .iaload, 1, 0, 0, 0),
  (229, .invokevirtual 17, 3, 146, 3, 0),
  (232, .if_icmp .eq (1029), 3, 1261, 0, 0),
  (235, .iconst (0), 1, 0, 0, 0),
  (236, .ireturn, 1, 0, 0, 0),
  (237, .aload_n 1, 1, 0, 0, 0),
  (238, .aload_n 0, 1, 0, 0, 0),
  (239, .iload_n 3, 1, 0, 0, 0),
  (240, .iconst (1), 1, 0, 0, 1),
  (241, .iadd, 1, 0, 0, 0),
  (242, .iaload, 1, 0, 0, 0),
  (243, .aload_n 0, 1, 0, 0, 0),
  (244, .iload_n 3, 1, 0, 0, 0),
  (245, .iconst (2), 1, 0, 0, 2),
  (246, .iadd, 1, 0, 0, 0),
  (247, .iaload, 1, 0, 0, 0),
  (248, .invokevirtual 18, 3, 2, 3, 0),
  (251, .aload_n 2, 1, 0, 0, 0),
  (252, .aload_n 0, 1, 0, 0, 0),
  (253, .iload_n 3, 1, 0, 0, 0),
  (254, .iconst (1), 1, 0, 0, 1),
  (255, .iadd, 1, 0, 0, 0),
  (256, .iaload, 1, 0, 0, 0),
  (257, .aload_n 0, 1, 0, 0, 0),
  (258, .iload_n 3, 1, 0, 0, 0),
  (259, .iconst (2), 1, 0, 0, 2),
  (260, .iadd, 1, 0, 0, 0),
  (261, .iaload, 1, 0, 0, 0),
  (262, .invokevirtual 21, 3, 152, 3, 0),
  (265, .if_icmp .eq (996), 3, 1261, 0, 0),
  (268, .iconst (0), 1, 0, 0, 0),
  (269, .ireturn, 1, 0, 0, 0),
  (270, .aload_n 1, 1, 0, 0, 0),
  (271, .aload_n 0, 1, 0, 0, 0),
  (272, .iload_n 3, 1, 0, 0, 0),
  (273, .iconst (1), 1, 0, 0, 1),
  (274, .iadd, 1, 0, 0, 0),
  (275, .iaload, 1, 0, 0, 0),
  (276, .aload_n 0, 1, 0, 0, 0),
  (277, .iload_n 3, 1, 0, 0, 0),
  (278, .iconst (2), 1, 0, 0, 2),
  (279, .iadd, 1, 0, 0, 0),
  (280, .iaload, 1, 0, 0, 0),
  (281, .invokevirtual 22, 3, 3, 3, 0),
  (284, .aload_n 2, 1, 0, 0, 0),
  (285, .aload_n 0, 1, 0, 0, 0),
  (286, .iload_n 3, 1, 0, 0, 0),
  (287, .iconst (1), 1, 0, 0, 1),
  (288, .iadd, 1, 0, 0, 0),
  (289, .iaload, 1, 0, 0, 0),
  (290, .aload_n 0, 1, 0, 0, 0),
  (291, .iload_n 3, 1, 0, 0, 0),
  (292, .iconst (2), 1, 0, 0, 2),
  (293, .iadd, 1, 0, 0, 0),
  (294, .iaload, 1, 0, 0, 0),
  (295, .invokevirtual 25, 3, 156, 3, 0),
  (298, .if_icmp .eq (963), 3, 1261, 0, 0),
  (301, .iconst (0), 1, 0, 0, 0),
  (302, .ireturn, 1, 0, 0, 0),
  (303, .aload_n 1, 1, 0, 0, 0),
  (304, .aload_n 0, 1, 0, 0, 0),
  (305, .iload_n 3, 1, 0, 0, 0),
  (306, .iconst (1), 1, 0, 0, 1),
  (307, .iadd, 1, 0, 0, 0),
  (308, .iaload, 1, 0, 0, 0),
  (309, .aload_n 0, 1, 0, 0, 0),
  (310, .iload_n 3, 1, 0, 0, 0),
  (311, .iconst (2), 1, 0, 0, 2),
  (312, .iadd, 1, 0, 0, 0),
  (313, .iaload, 1, 0, 0, 0),
  (314, .invokevirtual 26, 3, 4, 3, 0),
  (317, .aload_n 2, 1, 0, 0, 0),
  (318, .aload_n 0, 1, 0, 0, 0),
  (319, .iload_n 3, 1, 0, 0, 0),
  (320, .iconst (1), 1, 0, 0, 1),
  (321, .iadd, 1, 0, 0, 0),
  (322, .iaload, 1, 0, 0, 0),
  (323, .aload_n 0, 1, 0, 0, 0),
  (324, .iload_n 3, 1, 0, 0, 0),
  (325, .iconst (2), 1, 0, 0, 2),
  (326, .iadd, 1, 0, 0, 0),
  (327, .iaload, 1, 0, 0, 0),
  (328, .invokevirtual 29, 3, 162, 3, 0),
  (331, .if_icmp .eq (930), 3, 1261, 0, 0),
  (334, .iconst (0), 1, 0, 0, 0),
  (335, .ireturn, 1, 0, 0, 0),
  (336, .aload_n 1, 1, 0, 0, 0),
  (337, .aload_n 0, 1, 0, 0, 0),
  (338, .iload_n 3, 1, 0, 0, 0),
  (339, .iconst (1), 1, 0, 0, 1),
  (340, .iadd, 1, 0, 0, 0),
  (341, .iaload, 1, 0, 0, 0),
  (342, .invokevirtual 30, 3, 5, 2, 0),
  (345, .aload_n 2, 1, 0, 0, 0),
  (346, .aload_n 0, 1, 0, 0, 0),
  (347, .iload_n 3, 1, 0, 0, 0),
  (348, .iconst (1), 1, 0, 0, 1),
  (349, .iadd, 1, 0, 0, 0),
  (350, .iaload, 1, 0, 0, 0),
  (351, .invokevirtual 34, 3, 163, 2, 0),
  (354, .if_icmp .eq (907), 3, 1261, 0, 0),
  (357, .iconst (0), 1, 0, 0, 0),
  (358, .ireturn, 1, 0, 0, 0),
  (359, .aload_n 1, 1, 0, 0, 0),
  (360, .aload_n 0, 1, 0, 0, 0),
  (361, .iload_n 3, 1, 0, 0, 0),
  (362, .iconst (1), 1, 0, 0, 1),
  (363, .iadd, 1, 0, 0, 0),
  (364, .iaload, 1, 0, 0, 0),
  (365, .invokevirtual 35, 3, 6, 2, 0),
  (368, .aload_n 2, 1, 0, 0, 0),
  (369, .aload_n 0, 1, 0, 0, 0),
  (370, .iload_n 3, 1, 0, 0, 0),
  (371, .iconst (1), 1, 0, 0, 1),
  (372, .iadd, 1, 0, 0, 0),
  (373, .iaload, 1, 0, 0, 0),
  (374, .invokevirtual 38, 3, 175, 2, 0),
  (377, .if_icmp .eq (884), 3, 1261, 0, 0),
  (380, .iconst (0), 1, 0, 0, 0),
  (381, .ireturn, 1, 0, 0, 0),
  (382, .aload_n 1, 1, 0, 0, 0),
  (383, .aload_n 0, 1, 0, 0, 0),
  (384, .iload_n 3, 1, 0, 0, 0),
  (385, .iconst (1), 1, 0, 0, 1),
  (386, .iadd, 1, 0, 0, 0),
  (387, .iaload, 1, 0, 0, 0),
  (388, .invokevirtual 39, 3, 7, 2, 0),
  (391, .aload_n 2, 1, 0, 0, 0),
  (392, .aload_n 0, 1, 0, 0, 0),
  (393, .iload_n 3, 1, 0, 0, 0),
  (394, .iconst (1), 1, 0, 0, 1),
  (395, .iadd, 1, 0, 0, 0),
  (396, .iaload, 1, 0, 0, 0),
  (397, .invokevirtual 42, 3, 177, 2, 0),
  (400, .if_icmp .eq (861), 3, 1261, 0, 0),
  (403, .iconst (0), 1, 0, 0, 0),
  (404, .ireturn, 1, 0, 0, 0),
  (405, .aload_n 1, 1, 0, 0, 0),
  (406, .aload_n 0, 1, 0, 0, 0),
  (407, .iload_n 3, 1, 0, 0, 0),
  (408, .iconst (1), 1, 0, 0, 1),
  (409, .iadd, 1, 0, 0, 0),
  (410, .iaload, 1, 0, 0, 0),
  (411, .invokevirtual 43, 3, 8, 2, 0),
  (414, .aload_n 2, 1, 0, 0, 0),
  (415, .aload_n 0, 1, 0, 0, 0),
  (416, .iload_n 3, 1, 0, 0, 0),
  (417, .iconst (1), 1, 0, 0, 1),
  (418, .iadd, 1, 0, 0, 0),
  (419, .iaload, 1, 0, 0, 0),
  (420, .invokevirtual 46, 3, 180, 2, 0),
  (423, .if_icmp .eq (838), 3, 1261, 0, 0),
  (426, .iconst (0), 1, 0, 0, 0),
  (427, .ireturn, 1, 0, 0, 0),
  (428, .aload_n 1, 1, 0, 0, 0),
  (429, .aload_n 0, 1, 0, 0, 0),
  (430, .iload_n 3, 1, 0, 0, 0),
  (431, .iconst (1), 1, 0, 0, 1),
  (432, .iadd, 1, 0, 0, 0),
  (433, .iaload, 1, 0, 0, 0),
  (434, .invokevirtual 47, 3, 9, 2, 0),
  (437, .aload_n 2, 1, 0, 0, 0),
  (438, .aload_n 0, 1, 0, 0, 0),
  (439, .iload_n 3, 1, 0, 0, 0),
  (440, .iconst (1), 1, 0, 0, 1),
  (441, .iadd, 1, 0, 0, 0),
  (442, .iaload, 1, 0, 0, 0),
  (443, .invokevirtual 50, 3, 182, 2, 0),
  (446, .if_icmp .eq (815), 3, 1261, 0, 0),
  (449, .iconst (0), 1, 0, 0, 0),
  (450, .ireturn, 1, 0, 0, 0),
  (451, .aload_n 1, 1, 0, 0, 0),
  (452, .aload_n 0, 1, 0, 0, 0),
  (453, .iload_n 3, 1, 0, 0, 0),
  (454, .iconst (1), 1, 0, 0, 1),
  (455, .iadd, 1, 0, 0, 0),
  (456, .iaload, 1, 0, 0, 0),
  (457, .invokevirtual 51, 3, 10, 2, 0),
  (460, .aload_n 2, 1, 0, 0, 0),
  (461, .aload_n 0, 1, 0, 0, 0),
  (462, .iload_n 3, 1, 0, 0, 0),
  (463, .iconst (1), 1, 0, 0, 1),
  (464, .iadd, 1, 0, 0, 0),
  (465, .iaload, 1, 0, 0, 0),
  (466, .invokevirtual 54, 3, 184, 2, 0),
  (469, .if_icmp .eq (792), 3, 1261, 0, 0),
  (472, .iconst (0), 1, 0, 0, 0),
  (473, .ireturn, 1, 0, 0, 0),
  (474, .aload_n 1, 1, 0, 0, 0),
  (475, .aload_n 0, 1, 0, 0, 0),
  (476, .iload_n 3, 1, 0, 0, 0),
  (477, .iconst (1), 1, 0, 0, 1),
  (478, .iadd, 1, 0, 0, 0),
  (479, .iaload, 1, 0, 0, 0),
  (480, .aload_n 0, 1, 0, 0, 0),
  (481, .iload_n 3, 1, 0, 0, 0),
  (482, .iconst (2), 1, 0, 0, 2),
  (483, .iadd, 1, 0, 0, 0),
  (484, .iaload, 1, 0, 0, 0),
  (485, .invokevirtual 55, 3, 11, 3, 0),
  (488, .aload_n 2, 1, 0, 0, 0),
  (489, .aload_n 0, 1, 0, 0, 0),
  (490, .iload_n 3, 1, 0, 0, 0),
  (491, .iconst (1), 1, 0, 0, 1),
  (492, .iadd, 1, 0, 0, 0),
  (493, .iaload, 1, 0, 0, 0),
  (494, .aload_n 0, 1, 0, 0, 0),
  (495, .iload_n 3, 1, 0, 0, 0),
  (496, .iconst (2), 1, 0, 0, 2),
  (497, .iadd, 1, 0, 0, 0),
  (498, .iaload, 1, 0, 0, 0),
  (499, .invokevirtual 58, 3, 186, 3, 0),
  (502, .if_icmp .eq (759), 3, 1261, 0, 0),
  (505, .iconst (0), 1, 0, 0, 0),
  (506, .ireturn, 1, 0, 0, 0),
  (507, .aload_n 1, 1, 0, 0, 0),
  (508, .aload_n 0, 1, 0, 0, 0),
  (509, .iload_n 3, 1, 0, 0, 0),
  (510, .iconst (1), 1, 0, 0, 1),
  (511, .iadd, 1, 0, 0, 0),
  (512, .iaload, 1, 0, 0, 0),
  (513, .invokevirtual 59, 3, 12, 2, 0),
  (516, .aload_n 2, 1, 0, 0, 0),
  (517, .aload_n 0, 1, 0, 0, 0),
  (518, .iload_n 3, 1, 0, 0, 0),
  (519, .iconst (1), 1, 0, 0, 1),
  (520, .iadd, 1, 0, 0, 0),
  (521, .iaload, 1, 0, 0, 0),
  (522, .invokevirtual 62, 3, 193, 2, 0),
  (525, .if_icmp .eq (736), 3, 1261, 0, 0),
  (528, .iconst (0), 1, 0, 0, 0),
  (529, .ireturn, 1, 0, 0, 0),
  (530, .aload_n 1, 1, 0, 0, 0),
  (531, .aload_n 0, 1, 0, 0, 0),
  (532, .iload_n 3, 1, 0, 0, 0),
  (533, .iconst (1), 1, 0, 0, 1),
  (534, .iadd, 1, 0, 0, 0),
  (535, .iaload, 1, 0, 0, 0),
  (536, .invokevirtual 63, 3, 13, 2, 0),
  (539, .aload_n 2, 1, 0, 0, 0),
  (540, .aload_n 0, 1, 0, 0, 0),
  (541, .iload_n 3, 1, 0, 0, 0),
  (542, .iconst (1), 1, 0, 0, 1),
  (543, .iadd, 1, 0, 0, 0),
  (544, .iaload, 1, 0, 0, 0),
  (545, .invokevirtual 66, 3, 196, 2, 0),
  (548, .if_icmp .eq (713), 3, 1261, 0, 0),
  (551, .iconst (0), 1, 0, 0, 0),
  (552, .ireturn, 1, 0, 0, 0),
  (553, .aload_n 1, 1, 0, 0, 0),
  (554, .aload_n 0, 1, 0, 0, 0),
  (555, .iload_n 3, 1, 0, 0, 0),
  (556, .iconst (1), 1, 0, 0, 1),
  (557, .iadd, 1, 0, 0, 0),
  (558, .iaload, 1, 0, 0, 0),
  (559, .aload_n 0, 1, 0, 0, 0),
  (560, .iload_n 3, 1, 0, 0, 0),
  (561, .iconst (2), 1, 0, 0, 2),
  (562, .iadd, 1, 0, 0, 0),
  (563, .iaload, 1, 0, 0, 0),
  (564, .invokevirtual 67, 3, 14, 3, 0),
  (567, .aload_n 2, 1, 0, 0, 0),
  (568, .aload_n 0, 1, 0, 0, 0),
  (569, .iload_n 3, 1, 0, 0, 0),
  (570, .iconst (1), 1, 0, 0, 1),
  (571, .iadd, 1, 0, 0, 0),
  (572, .iaload, 1, 0, 0, 0),
  (573, .aload_n 0, 1, 0, 0, 0),
  (574, .iload_n 3, 1, 0, 0, 0),
  (575, .iconst (2), 1, 0, 0, 2),
  (576, .iadd, 1, 0, 0, 0),
  (577, .iaload, 1, 0, 0, 0),
  (578, .invokevirtual 70, 3, 200, 3, 0),
  (581, .if_icmp .eq (680), 3, 1261, 0, 0),
  (584, .iconst (0), 1, 0, 0, 0),
  (585, .ireturn, 1, 0, 0, 0),
  (586, .aload_n 1, 1, 0, 0, 0),
  (587, .aload_n 0, 1, 0, 0, 0),
  (588, .iload_n 3, 1, 0, 0, 0),
  (589, .iconst (1), 1, 0, 0, 1),
  (590, .iadd, 1, 0, 0, 0),
  (591, .iaload, 1, 0, 0, 0),
  (592, .invokevirtual 71, 3, 15, 2, 0),
  (595, .aload_n 2, 1, 0, 0, 0),
  (596, .aload_n 0, 1, 0, 0, 0),
  (597, .iload_n 3, 1, 0, 0, 0),
  (598, .iconst (1), 1, 0, 0, 1),
  (599, .iadd, 1, 0, 0, 0),
  (600, .iaload, 1, 0, 0, 0),
  (601, .invokevirtual 74, 3, 201, 2, 0),
  (604, .if_icmp .eq (657), 3, 1261, 0, 0),
  (607, .iconst (0), 1, 0, 0, 0),
  (608, .ireturn, 1, 0, 0, 0),
  (609, .aload_n 1, 1, 0, 0, 0),
  (610, .aload_n 0, 1, 0, 0, 0),
  (611, .iload_n 3, 1, 0, 0, 0),
  (612, .iconst (1), 1, 0, 0, 1),
  (613, .iadd, 1, 0, 0, 0),
  (614, .iaload, 1, 0, 0, 0),
  (615, .invokevirtual 75, 3, 16, 2, 0),
  (618, .aload_n 2, 1, 0, 0, 0),
  (619, .aload_n 0, 1, 0, 0, 0),
  (620, .iload_n 3, 1, 0, 0, 0),
  (621, .iconst (1), 1, 0, 0, 1),
  (622, .iadd, 1, 0, 0, 0),
  (623, .iaload, 1, 0, 0, 0),
  (624, .invokevirtual 78, 3, 203, 2, 0),
  (627, .if_icmp .eq (634), 3, 1261, 0, 0),
  (630, .iconst (0), 1, 0, 0, 0),
  (631, .ireturn, 1, 0, 0, 0),
  (632, .aload_n 1, 1, 0, 0, 0),
  (633, .invokevirtual 79, 3, 17, 1, 0),
  (636, .aload_n 2, 1, 0, 0, 0),
  (637, .invokevirtual 83, 3, 204, 1, 0),
  (640, .if_icmp .eq (621), 3, 1261, 0, 0),
  (643, .iconst (0), 1, 0, 0, 0),
  (644, .ireturn, 1, 0, 0, 0),
  (645, .aload_n 1, 1, 0, 0, 0),
  (646, .aload_n 0, 1, 0, 0, 0),
  (647, .iload_n 3, 1, 0, 0, 0),
  (648, .iconst (1), 1, 0, 0, 1),
  (649, .iadd, 1, 0, 0, 0),
  (650, .iaload, 1, 0, 0, 0),
  (651, .invokevirtual 84, 3, 18, 2, 0),
  (654, .aload_n 2, 1, 0, 0, 0),
  (655, .aload_n 0, 1, 0, 0, 0),
  (656, .iload_n 3, 1, 0, 0, 0),
  (657, .iconst (1), 1, 0, 0, 1),
  (658, .iadd, 1, 0, 0, 0),
  (659, .iaload, 1, 0, 0, 0),
  (660, .invokevirtual 87, 3, 206, 2, 0),
  (663, .if_icmp .eq (598), 3, 1261, 0, 0),
  (666, .iconst (0), 1, 0, 0, 0),
  (667, .ireturn, 1, 0, 0, 0),
  (668, .aload_n 1, 1, 0, 0, 0),
  (669, .invokevirtual 88, 3, 19, 1, 0),
  (672, .aload_n 2, 1, 0, 0, 0),
  (673, .invokevirtual 91, 3, 208, 1, 0),
  (676, .if_icmp .eq (585), 3, 1261, 0, 0),
  (679, .iconst (0), 1, 0, 0, 0),
  (680, .ireturn, 1, 0, 0, 0),
  (681, .aload_n 1, 1, 0, 0, 0),
  (682, .aload_n 0, 1, 0, 0, 0),
  (683, .iload_n 3, 1, 0, 0, 0),
  (684, .iconst (1), 1, 0, 0, 1),
  (685, .iadd, 1, 0, 0, 0),
  (686, .iaload, 1, 0, 0, 0),
  (687, .invokevirtual 92, 3, 20, 2, 0),
  (690, .aload_n 2, 1, 0, 0, 0),
  (691, .aload_n 0, 1, 0, 0, 0),
  (692, .iload_n 3, 1, 0, 0, 0),
  (693, .iconst (1), 1, 0, 0, 1),
  (694, .iadd, 1, 0, 0, 0),
  (695, .iaload, 1, 0, 0, 0),
  (696, .invokevirtual 95, 3, 210, 2, 0),
  (699, .if_icmp .eq (562), 3, 1261, 0, 0),
  (702, .iconst (0), 1, 0, 0, 0),
  (703, .ireturn, 1, 0, 0, 0),
  (704, .aload_n 1, 1, 0, 0, 0),
  (705, .aload_n 0, 1, 0, 0, 0),
  (706, .iload_n 3, 1, 0, 0, 0),
  (707, .iconst (1), 1, 0, 0, 1),
  (708, .iadd, 1, 0, 0, 0),
  (709, .iaload, 1, 0, 0, 0),
  (710, .invokevirtual 96, 3, 21, 2, 0),
  (713, .aload_n 2, 1, 0, 0, 0),
  (714, .aload_n 0, 1, 0, 0, 0),
  (715, .iload_n 3, 1, 0, 0, 0),
  (716, .iconst (1), 1, 0, 0, 1),
  (717, .iadd, 1, 0, 0, 0),
  (718, .iaload, 1, 0, 0, 0),
  (719, .invokevirtual 99, 3, 214, 2, 0),
  (722, .if_icmp .eq (539), 3, 1261, 0, 0),
  (725, .iconst (0), 1, 0, 0, 0),
  (726, .ireturn, 1, 0, 0, 0),
  (727, .aload_n 1, 1, 0, 0, 0),
  (728, .aload_n 0, 1, 0, 0, 0),
  (729, .iload_n 3, 1, 0, 0, 0),
  (730, .iconst (1), 1, 0, 0, 1),
  (731, .iadd, 1, 0, 0, 0),
  (732, .iaload, 1, 0, 0, 0),
  (733, .aload_n 0, 1, 0, 0, 0),
  (734, .iload_n 3, 1, 0, 0, 0),
  (735, .iconst (2), 1, 0, 0, 2),
  (736, .iadd, 1, 0, 0, 0),
  (737, .iaload, 1, 0, 0, 0),
  (738, .aload_n 0, 1, 0, 0, 0),
  (739, .iload_n 3, 1, 0, 0, 0),
  (740, .iconst (3), 1, 0, 0, 3),
  (741, .iadd, 1, 0, 0, 0),
  (742, .iaload, 1, 0, 0, 0),
  (743, .invokevirtual 100, 3, 22, 4, 0),
  (746, .aload_n 2, 1, 0, 0, 0),
  (747, .aload_n 0, 1, 0, 0, 0),
  (748, .iload_n 3, 1, 0, 0, 0),
  (749, .iconst (1), 1, 0, 0, 1),
  (750, .iadd, 1, 0, 0, 0),
  (751, .iaload, 1, 0, 0, 0),
  (752, .aload_n 0, 1, 0, 0, 0),
  (753, .iload_n 3, 1, 0, 0, 0),
  (754, .iconst (2), 1, 0, 0, 2),
  (755, .iadd, 1, 0, 0, 0),
  (756, .iaload, 1, 0, 0, 0),
  (757, .aload_n 0, 1, 0, 0, 0),
  (758, .iload_n 3, 1, 0, 0, 0),
  (759, .iconst (3), 1, 0, 0, 3),
  (760, .iadd, 1, 0, 0, 0),
  (761, .iaload, 1, 0, 0, 0),
  (762, .invokevirtual 104, 3, 217, 4, 0),
  (765, .if_icmp .eq (496), 3, 1261, 0, 0),
  (768, .iconst (0), 1, 0, 0, 0),
  (769, .ireturn, 1, 0, 0, 0),
  (770, .aload_n 1, 1, 0, 0, 0),
  (771, .aload_n 0, 1, 0, 0, 0),
  (772, .iload_n 3, 1, 0, 0, 0),
  (773, .iconst (1), 1, 0, 0, 1),
  (774, .iadd, 1, 0, 0, 0),
  (775, .iaload, 1, 0, 0, 0),
  (776, .aload_n 0, 1, 0, 0, 0),
  (777, .iload_n 3, 1, 0, 0, 0),
  (778, .iconst (2), 1, 0, 0, 2),
  (779, .iadd, 1, 0, 0, 0),
  (780, .iaload, 1, 0, 0, 0),
  (781, .aload_n 0, 1, 0, 0, 0),
  (782, .iload_n 3, 1, 0, 0, 0),
  (783, .iconst (3), 1, 0, 0, 3),
  (784, .iadd, 1, 0, 0, 0),
  (785, .iaload, 1, 0, 0, 0),
  (786, .invokevirtual 105, 3, 23, 4, 0),
  (789, .aload_n 2, 1, 0, 0, 0),
  (790, .aload_n 0, 1, 0, 0, 0),
  (791, .iload_n 3, 1, 0, 0, 0),
  (792, .iconst (1), 1, 0, 0, 1),
  (793, .iadd, 1, 0, 0, 0),
  (794, .iaload, 1, 0, 0, 0),
  (795, .aload_n 0, 1, 0, 0, 0),
  (796, .iload_n 3, 1, 0, 0, 0),
  (797, .iconst (2), 1, 0, 0, 2),
  (798, .iadd, 1, 0, 0, 0),
  (799, .iaload, 1, 0, 0, 0),
  (800, .aload_n 0, 1, 0, 0, 0),
  (801, .iload_n 3, 1, 0, 0, 0),
  (802, .iconst (3), 1, 0, 0, 3),
  (803, .iadd, 1, 0, 0, 0),
  (804, .iaload, 1, 0, 0, 0),
  (805, .invokevirtual 108, 3, 219, 4, 0),
  (808, .if_icmp .eq (453), 3, 1261, 0, 0),
  (811, .iconst (0), 1, 0, 0, 0),
  (812, .ireturn, 1, 0, 0, 0),
  (813, .aload_n 1, 1, 0, 0, 0),
  (814, .aload_n 0, 1, 0, 0, 0),
  (815, .iload_n 3, 1, 0, 0, 0),
  (816, .iconst (1), 1, 0, 0, 1),
  (817, .iadd, 1, 0, 0, 0),
  (818, .iaload, 1, 0, 0, 0),
  (819, .invokevirtual 109, 3, 25, 2, 0),
  (822, .aload_n 2, 1, 0, 0, 0),
  (823, .aload_n 0, 1, 0, 0, 0),
  (824, .iload_n 3, 1, 0, 0, 0),
  (825, .iconst (1), 1, 0, 0, 1),
  (826, .iadd, 1, 0, 0, 0),
  (827, .iaload, 1, 0, 0, 0),
  (828, .invokevirtual 112, 3, 212, 2, 0),
  (831, .if_icmp .eq (430), 3, 1261, 0, 0),
  (834, .iconst (0), 1, 0, 0, 0),
  (835, .ireturn, 1, 0, 0, 0),
  (836, .aload_n 1, 1, 0, 0, 0),
  (837, .invokevirtual 113, 3, 26, 1, 0),
  (840, .aload_n 2, 1, 0, 0, 0),
  (841, .invokevirtual 116, 3, 213, 1, 0),
  (844, .if_icmp .eq (417), 3, 1261, 0, 0),
  (847, .iconst (0), 1, 0, 0, 0),
  (848, .ireturn, 1, 0, 0, 0),
  (849, .aload_n 1, 1, 0, 0, 0),
  (850, .aload_n 0, 1, 0, 0, 0),
  (851, .iload_n 3, 1, 0, 0, 0),
  (852, .iconst (1), 1, 0, 0, 1),
  (853, .iadd, 1, 0, 0, 0),
  (854, .iaload, 1, 0, 0, 0),
  (855, .invokevirtual 117, 3, 27, 2, 0),
  (858, .aload_n 2, 1, 0, 0, 0),
  (859, .aload_n 0, 1, 0, 0, 0),
  (860, .iload_n 3, 1, 0, 0, 0),
  (861, .iconst (1), 1, 0, 0, 1),
  (862, .iadd, 1, 0, 0, 0),
  (863, .iaload, 1, 0, 0, 0),
  (864, .invokevirtual 120, 3, 224, 2, 0),
  (867, .if_icmp .eq (394), 3, 1261, 0, 0),
  (870, .iconst (0), 1, 0, 0, 0),
  (871, .ireturn, 1, 0, 0, 0),
  (872, .aload_n 1, 1, 0, 0, 0),
  (873, .aload_n 0, 1, 0, 0, 0),
  (874, .iload_n 3, 1, 0, 0, 0),
  (875, .iconst (1), 1, 0, 0, 1),
  (876, .iadd, 1, 0, 0, 0),
  (877, .iaload, 1, 0, 0, 0),
  (878, .aload_n 0, 1, 0, 0, 0),
  (879, .iload_n 3, 1, 0, 0, 0),
  (880, .iconst (2), 1, 0, 0, 2),
  (881, .iadd, 1, 0, 0, 0),
  (882, .iaload, 1, 0, 0, 0),
  (883, .invokevirtual 121, 3, 28, 3, 0),
  (886, .aload_n 2, 1, 0, 0, 0),
  (887, .aload_n 0, 1, 0, 0, 0),
  (888, .iload_n 3, 1, 0, 0, 0),
  (889, .iconst (1), 1, 0, 0, 1),
  (890, .iadd, 1, 0, 0, 0),
  (891, .iaload, 1, 0, 0, 0),
  (892, .aload_n 0, 1, 0, 0, 0),
  (893, .iload_n 3, 1, 0, 0, 0),
  (894, .iconst (2), 1, 0, 0, 2),
  (895, .iadd, 1, 0, 0, 0),
  (896, .iaload, 1, 0, 0, 0),
  (897, .invokevirtual 124, 3, 225, 3, 0),
  (900, .if_icmp .eq (361), 3, 1261, 0, 0),
  (903, .iconst (0), 1, 0, 0, 0),
  (904, .ireturn, 1, 0, 0, 0),
  (905, .aload_n 1, 1, 0, 0, 0),
  (906, .aload_n 0, 1, 0, 0, 0),
  (907, .iload_n 3, 1, 0, 0, 0),
  (908, .iconst (1), 1, 0, 0, 1),
  (909, .iadd, 1, 0, 0, 0),
  (910, .iaload, 1, 0, 0, 0),
  (911, .aload_n 0, 1, 0, 0, 0),
  (912, .iload_n 3, 1, 0, 0, 0),
  (913, .iconst (2), 1, 0, 0, 2),
  (914, .iadd, 1, 0, 0, 0),
  (915, .iaload, 1, 0, 0, 0),
  (916, .aload_n 0, 1, 0, 0, 0),
  (917, .iload_n 3, 1, 0, 0, 0),
  (918, .iconst (3), 1, 0, 0, 3),
  (919, .iadd, 1, 0, 0, 0),
  (920, .iaload, 1, 0, 0, 0),
  (921, .invokevirtual 125, 3, 30, 4, 0),
  (924, .aload_n 2, 1, 0, 0, 0),
  (925, .aload_n 0, 1, 0, 0, 0),
  (926, .iload_n 3, 1, 0, 0, 0),
  (927, .iconst (1), 1, 0, 0, 1),
  (928, .iadd, 1, 0, 0, 0),
  (929, .iaload, 1, 0, 0, 0),
  (930, .aload_n 0, 1, 0, 0, 0),
  (931, .iload_n 3, 1, 0, 0, 0),
  (932, .iconst (2), 1, 0, 0, 2),
  (933, .iadd, 1, 0, 0, 0),
  (934, .iaload, 1, 0, 0, 0),
  (935, .aload_n 0, 1, 0, 0, 0),
  (936, .iload_n 3, 1, 0, 0, 0),
  (937, .iconst (3), 1, 0, 0, 3),
  (938, .iadd, 1, 0, 0, 0),
  (939, .iaload, 1, 0, 0, 0),
  (940, .invokevirtual 128, 3, 236, 4, 0),
  (943, .if_icmp .eq (318), 3, 1261, 0, 0),
  (946, .iconst (0), 1, 0, 0, 0),
  (947, .ireturn, 1, 0, 0, 0),
  (948, .aload_n 1, 1, 0, 0, 0),
  (949, .aload_n 0, 1, 0, 0, 0),
  (950, .iload_n 3, 1, 0, 0, 0),
  (951, .iconst (1), 1, 0, 0, 1),
  (952, .iadd, 1, 0, 0, 0),
  (953, .iaload, 1, 0, 0, 0),
  (954, .aload_n 0, 1, 0, 0, 0),
  (955, .iload_n 3, 1, 0, 0, 0),
  (956, .iconst (2), 1, 0, 0, 2),
  (957, .iadd, 1, 0, 0, 0),
  (958, .iaload, 1, 0, 0, 0),
  (959, .invokevirtual 129, 3, 31, 3, 0),
  (962, .aload_n 2, 1, 0, 0, 0),
  (963, .aload_n 0, 1, 0, 0, 0),
  (964, .iload_n 3, 1, 0, 0, 0),
  (965, .iconst (1), 1, 0, 0, 1),
  (966, .iadd, 1, 0, 0, 0),
  (967, .iaload, 1, 0, 0, 0),
  (968, .aload_n 0, 1, 0, 0, 0),
  (969, .iload_n 3, 1, 0, 0, 0),
  (970, .iconst (2), 1, 0, 0, 2),
  (971, .iadd, 1, 0, 0, 0),
  (972, .iaload, 1, 0, 0, 0),
  (973, .invokevirtual 132, 3, 234, 3, 0),
  (976, .if_icmp .eq (285), 3, 1261, 0, 0),
  (979, .iconst (0), 1, 0, 0, 0),
  (980, .ireturn, 1, 0, 0, 0),
  (981, .aload_n 1, 1, 0, 0, 0),
  (982, .aload_n 0, 1, 0, 0, 0),
  (983, .iload_n 3, 1, 0, 0, 0),
  (984, .iconst (1), 1, 0, 0, 1),
  (985, .iadd, 1, 0, 0, 0),
  (986, .iaload, 1, 0, 0, 0),
  (987, .aload_n 0, 1, 0, 0, 0),
  (988, .iload_n 3, 1, 0, 0, 0),
  (989, .iconst (2), 1, 0, 0, 2),
  (990, .iadd, 1, 0, 0, 0),
  (991, .iaload, 1, 0, 0, 0),
  (992, .invokevirtual 133, 3, 32, 3, 0),
  (995, .aload_n 2, 1, 0, 0, 0),
  (996, .aload_n 0, 1, 0, 0, 0),
  (997, .iload_n 3, 1, 0, 0, 0),
  (998, .iconst (1), 1, 0, 0, 1),
  (999, .iadd, 1, 0, 0, 0),
  (1000, .iaload, 1, 0, 0, 0),
  (1001, .aload_n 0, 1, 0, 0, 0),
  (1002, .iload_n 3, 1, 0, 0, 0),
  (1003, .iconst (2), 1, 0, 0, 2),
  (1004, .iadd, 1, 0, 0, 0),
  (1005, .iaload, 1, 0, 0, 0),
  (1006, .invokevirtual 136, 3, 238, 3, 0),
  (1009, .if_icmp .eq (252), 3, 1261, 0, 0),
  (1012, .iconst (0), 1, 0, 0, 0),
  (1013, .ireturn, 1, 0, 0, 0),
  (1014, .aload_n 1, 1, 0, 0, 0),
  (1015, .aload_n 0, 1, 0, 0, 0),
  (1016, .iload_n 3, 1, 0, 0, 0),
  (1017, .iconst (1), 1, 0, 0, 1),
  (1018, .iadd, 1, 0, 0, 0),
  (1019, .iaload, 1, 0, 0, 0),
  (1020, .aload_n 0, 1, 0, 0, 0),
  (1021, .iload_n 3, 1, 0, 0, 0),
  (1022, .iconst (2), 1, 0, 0, 2),
  (1023, .iadd, 1, 0, 0, 0),
  (1024, .iaload, 1, 0, 0, 0),
  (1025, .aload_n 0, 1, 0, 0, 0),
  (1026, .iload_n 3, 1, 0, 0, 0),
  (1027, .iconst (3), 1, 0, 0, 3),
  (1028, .iadd, 1, 0, 0, 0),
  (1029, .iaload, 1, 0, 0, 0),
  (1030, .aload_n 0, 1, 0, 0, 0),
  (1031, .iload_n 3, 1, 0, 0, 0),
  (1032, .iconst (4), 1, 0, 0, 4),
  (1033, .iadd, 1, 0, 0, 0),
  (1034, .iaload, 1, 0, 0, 0),
  (1035, .aload_n 0, 1, 0, 0, 0),
  (1036, .iload_n 3, 1, 0, 0, 0),
  (1037, .iconst (5), 1, 0, 0, 5),
  (1038, .iadd, 1, 0, 0, 0),
  (1039, .iaload, 1, 0, 0, 0),
  (1040, .invokevirtual 137, 3, 33, 6, 0),
  (1043, .aload_n 2, 1, 0, 0, 0),
  (1044, .aload_n 0, 1, 0, 0, 0),
  (1045, .iload_n 3, 1, 0, 0, 0),
  (1046, .iconst (1), 1, 0, 0, 1),
  (1047, .iadd, 1, 0, 0, 0),
  (1048, .iaload, 1, 0, 0, 0),
  (1049, .aload_n 0, 1, 0, 0, 0),
  (1050, .iload_n 3, 1, 0, 0, 0),
  (1051, .iconst (2), 1, 0, 0, 2),
  (1052, .iadd, 1, 0, 0, 0),
  (1053, .iaload, 1, 0, 0, 0),
  (1054, .aload_n 0, 1, 0, 0, 0),
  (1055, .iload_n 3, 1, 0, 0, 0),
  (1056, .iconst (3), 1, 0, 0, 3),
  (1057, .iadd, 1, 0, 0, 0),
  (1058, .iaload, 1, 0, 0, 0),
  (1059, .aload_n 0, 1, 0, 0, 0),
  (1060, .iload_n 3, 1, 0, 0, 0),
  (1061, .iconst (4), 1, 0, 0, 4),
  (1062, .iadd, 1, 0, 0, 0),
  (1063, .iaload, 1, 0, 0, 0),
  (1064, .aload_n 0, 1, 0, 0, 0),
  (1065, .iload_n 3, 1, 0, 0, 0),
  (1066, .iconst (5), 1, 0, 0, 5),
  (1067, .iadd, 1, 0, 0, 0),
  (1068, .iaload, 1, 0, 0, 0),
  (1069, .invokevirtual 141, 3, 239, 6, 0),
  (1072, .if_icmp .eq (189), 3, 1261, 0, 0),
  (1075, .iconst (0), 1, 0, 0, 0),
  (1076, .ireturn, 1, 0, 0, 0),
  (1077, .aload_n 1, 1, 0, 0, 0),
  (1078, .aload_n 0, 1, 0, 0, 0),
  (1079, .iload_n 3, 1, 0, 0, 0),
  (1080, .iconst (1), 1, 0, 0, 1),
  (1081, .iadd, 1, 0, 0, 0),
  (1082, .iaload, 1, 0, 0, 0),
  (1083, .invokevirtual 142, 3, 35, 2, 0),
  (1086, .aload_n 2, 1, 0, 0, 0),
  (1087, .aload_n 0, 1, 0, 0, 0),
  (1088, .iload_n 3, 1, 0, 0, 0),
  (1089, .iconst (1), 1, 0, 0, 1),
  (1090, .iadd, 1, 0, 0, 0),
  (1091, .iaload, 1, 0, 0, 0),
  (1092, .invokevirtual 145, 3, 240, 2, 0),
  (1095, .if_icmp .eq (166), 3, 1261, 0, 0),
  (1098, .iconst (0), 1, 0, 0, 0),
  (1099, .ireturn, 1, 0, 0, 0),
  (1100, .aload_n 1, 1, 0, 0, 0),
  (1101, .aload_n 0, 1, 0, 0, 0),
  (1102, .iload_n 3, 1, 0, 0, 0),
  (1103, .iconst (1), 1, 0, 0, 1),
  (1104, .iadd, 1, 0, 0, 0),
  (1105, .iaload, 1, 0, 0, 0),
  (1106, .invokevirtual 146, 3, 38, 2, 0),
  (1109, .aload_n 2, 1, 0, 0, 0),
  (1110, .aload_n 0, 1, 0, 0, 0),
  (1111, .iload_n 3, 1, 0, 0, 0),
  (1112, .iconst (1), 1, 0, 0, 1),
  (1113, .iadd, 1, 0, 0, 0),
  (1114, .iaload, 1, 0, 0, 0),
  (1115, .invokevirtual 149, 3, 253, 2, 0),
  (1118, .if_icmp .eq (143), 3, 1261, 0, 0),
  (1121, .iconst (0), 1, 0, 0, 0),
  (1122, .ireturn, 1, 0, 0, 0),
  (1123, .aload_n 1, 1, 0, 0, 0),
  (1124, .invokevirtual 150, 3, 39, 1, 0),
  (1127, .aload_n 2, 1, 0, 0, 0),
  (1128, .invokevirtual 153, 3, 254, 1, 0),
  (1131, .if_icmp .eq (130), 3, 1261, 0, 0),
  (1134, .iconst (0), 1, 0, 0, 0),
  (1135, .ireturn, 1, 0, 0, 0),
  (1136, .aload_n 1, 1, 0, 0, 0),
  (1137, .aload_n 0, 1, 0, 0, 0),
  (1138, .iload_n 3, 1, 0, 0, 0),
  (1139, .iconst (1), 1, 0, 0, 1),
  (1140, .iadd, 1, 0, 0, 0),
  (1141, .iaload, 1, 0, 0, 0),
  (1142, .aload_n 0, 1, 0, 0, 0),
  (1143, .iload_n 3, 1, 0, 0, 0),
  (1144, .iconst (2), 1, 0, 0, 2),
  (1145, .iadd, 1, 0, 0, 0),
  (1146, .iaload, 1, 0, 0, 0),
  (1147, .invokevirtual 154, 3, 40, 3, 0),
  (1150, .aload_n 2, 1, 0, 0, 0),
  (1151, .aload_n 0, 1, 0, 0, 0),
  (1152, .iload_n 3, 1, 0, 0, 0),
  (1153, .iconst (1), 1, 0, 0, 1),
  (1154, .iadd, 1, 0, 0, 0),
  (1155, .iaload, 1, 0, 0, 0),
  (1156, .aload_n 0, 1, 0, 0, 0),
  (1157, .iload_n 3, 1, 0, 0, 0),
  (1158, .iconst (2), 1, 0, 0, 2),
  (1159, .iadd, 1, 0, 0, 0),
  (1160, .iaload, 1, 0, 0, 0),
  (1161, .invokevirtual 157, 3, 255, 3, 0),
  (1164, .if_icmp .eq (97), 3, 1261, 0, 0),
  (1167, .iconst (0), 1, 0, 0, 0),
  (1168, .ireturn, 1, 0, 0, 0),
  (1169, .aload_n 1, 1, 0, 0, 0),
  (1170, .aload_n 0, 1, 0, 0, 0),
  (1171, .iload_n 3, 1, 0, 0, 0),
  (1172, .iconst (1), 1, 0, 0, 1),
  (1173, .iadd, 1, 0, 0, 0),
  (1174, .iaload, 1, 0, 0, 0),
  (1175, .invokevirtual 158, 3, 41, 2, 0),
  (1178, .aload_n 2, 1, 0, 0, 0),
  (1179, .aload_n 0, 1, 0, 0, 0),
  (1180, .iload_n 3, 1, 0, 0, 0),
  (1181, .iconst (1), 1, 0, 0, 1),
  (1182, .iadd, 1, 0, 0, 0),
  (1183, .iaload, 1, 0, 0, 0),
  (1184, .invokevirtual 161, 3, 258, 2, 0),
  (1187, .if_icmp .eq (74), 3, 1261, 0, 0),
  (1190, .iconst (0), 1, 0, 0, 0),
  (1191, .ireturn, 1, 0, 0, 0),
  (1192, .aload_n 1, 1, 0, 0, 0),
  (1193, .aload_n 0, 1, 0, 0, 0),
  (1194, .iload_n 3, 1, 0, 0, 0),
  (1195, .iconst (1), 1, 0, 0, 1),
  (1196, .iadd, 1, 0, 0, 0),
  (1197, .iaload, 1, 0, 0, 0),
  (1198, .invokevirtual 162, 3, 42, 2, 0),
  (1201, .aload_n 2, 1, 0, 0, 0),
  (1202, .aload_n 0, 1, 0, 0, 0),
  (1203, .iload_n 3, 1, 0, 0, 0),
  (1204, .iconst (1), 1, 0, 0, 1),
  (1205, .iadd, 1, 0, 0, 0),
  (1206, .iaload, 1, 0, 0, 0),
  (1207, .invokevirtual 165, 3, 259, 2, 0),
  (1210, .if_icmp .eq (51), 3, 1261, 0, 0),
  (1213, .iconst (0), 1, 0, 0, 0),
  (1214, .ireturn, 1, 0, 0, 0),
  (1215, .aload_n 1, 1, 0, 0, 0),
  (1216, .aload_n 0, 1, 0, 0, 0),
  (1217, .iload_n 3, 1, 0, 0, 0),
  (1218, .iconst (1), 1, 0, 0, 1),
  (1219, .iadd, 1, 0, 0, 0),
  (1220, .iaload, 1, 0, 0, 0),
  (1221, .invokevirtual 166, 3, 43, 2, 0),
  (1224, .aload_n 2, 1, 0, 0, 0),
  (1225, .aload_n 0, 1, 0, 0, 0),
  (1226, .iload_n 3, 1, 0, 0, 0),
  (1227, .iconst (1), 1, 0, 0, 1),
  (1228, .iadd, 1, 0, 0, 0),
  (1229, .iaload, 1, 0, 0, 0),
  (1230, .invokevirtual 169, 3, 260, 2, 0),
  (1233, .if_icmp .eq (28), 3, 1261, 0, 0),
  (1236, .iconst (0), 1, 0, 0, 0),
  (1237, .ireturn, 1, 0, 0, 0),
  (1238, .aload_n 1, 1, 0, 0, 0),
  (1239, .aload_n 0, 1, 0, 0, 0),
  (1240, .iload_n 3, 1, 0, 0, 0),
  (1241, .iconst (1), 1, 0, 0, 1),
  (1242, .iadd, 1, 0, 0, 0),
  (1243, .iaload, 1, 0, 0, 0),
  (1244, .invokevirtual 170, 3, 44, 2, 0),
  (1247, .aload_n 2, 1, 0, 0, 0),
  (1248, .aload_n 0, 1, 0, 0, 0),
  (1249, .iload_n 3, 1, 0, 0, 0),
  (1250, .iconst (1), 1, 0, 0, 1),
  (1251, .iadd, 1, 0, 0, 0),
  (1252, .iaload, 1, 0, 0, 0),
  (1253, .invokevirtual 173, 3, 261, 2, 0),
  (1256, .if_icmp .eq (5), 3, 1261, 0, 0),
  (1259, .iconst (0), 1, 0, 0, 0),
  (1260, .ireturn, 1, 0, 0, 0),
  (1261, .iinc 3 (6), 3, 0, 0, 6),
  (1264, .goto (-1246), 3, 18, 0, 0),
  (1267, .iconst (1), 1, 0, 0, 1),
  (1268, .ireturn, 1, 0, 0, 0)]
def a_c263 : List (Nat × a_Rw) := [
  (0, .iconst (0), 1, 0, 0, 0),
  (1, .istore_n 2, 1, 0, 0, 0),
  (2, .aload_n 0, 1, 0, 0, 0),
  (3, .arraylength, 1, 0, 0, 0),
  (4, .istore_n 3, 1, 0, 0, 0),
  (5, .iload_n 2, 1, 0, 0, 0),
  (6, .iload_n 3, 1, 0, 0, 0),
  (7, .if_icmp .ge (13), 3, 20, 0, 0),
  (10, .aload_n 0, 1, 0, 0, 0),
  (11, .iload_n 2, 1, 0, 0, 0),
  (12, .iload_n 1, 1, 0, 0, 0),
  (13, .iastore, 1, 0, 0, 0),
  (14, .iinc 2 (1), 3, 0, 0, 1),
  (17, .goto (-12), 3, 5, 0, 0),
  (20, .return_, 1, 0, 0, 0)]
def a_c264 : List (Nat × a_Rw) := [
  (0, .iload_n 0, 1, 0, 0, 0),
  (1, .iload_n 1, 1, 0, 0, 0),
  (2, .if_icmp .gt (7), 3, 9, 0, 0),
  (5, .iload_n 0, 1, 0, 0, 0),
  (6, .goto (4), 3, 10, 0, 0),
  (9, .iload_n 1, 1, 0, 0, 0),
  (10, .ireturn, 1, 0, 0, 0)]
def a_c265 : List (Nat × a_Rw) := [
  (0, .iload_n 0, 1, 0, 0, 0),
  (1, .iload_n 0, 1, 0, 0, 0),
  (2, .iconst (1), 1, 0, 0, 1),
  (3, .iushr, 1, 0, 0, 0),
  (4, .ldc_w 265, 3, 0, 0, 1431655765),
  (7, .iand, 1, 0, 0, 0),
  (8, .isub, 1, 0, 0, 0),
  (9, .istore_n 0, 1, 0, 0, 0),
  (10, .iload_n 0, 1, 0, 0, 0),
  (11, .ldc_w 266, 3, 0, 0, 858993459),
  (14, .iand, 1, 0, 0, 0),
  (15, .iload_n 0, 1, 0, 0, 0),
  (16, .iconst (2), 1, 0, 0, 2),
  (17, .iushr, 1, 0, 0, 0),
  (18, .ldc_w 266, 3, 0, 0, 858993459),
  (21, .iand, 1, 0, 0, 0),
  (22, .iadd, 1, 0, 0, 0),
  (23, .istore_n 0, 1, 0, 0, 0),
  (24, .iload_n 0, 1, 0, 0, 0),
  (25, .iload_n 0, 1, 0, 0, 0),
  (26, .iconst (4), 1, 0, 0, 4),
  (27, .iushr, 1, 0, 0, 0),
  (28, .iadd, 1, 0, 0, 0),
  (29, .ldc_w 267, 3, 0, 0, 252645135),
  (32, .iand, 1, 0, 0, 0),
  (33, .istore_n 0, 1, 0, 0, 0),
  (34, .iload_n 0, 1, 0, 0, 0),
  (35, .iload_n 0, 1, 0, 0, 0),
  (36, .bipush (8), 2, 0, 0, 8),
  (38, .iushr, 1, 0, 0, 0),
  (39, .iadd, 1, 0, 0, 0),
  (40, .istore_n 0, 1, 0, 0, 0),
  (41, .iload_n 0, 1, 0, 0, 0),
  (42, .iload_n 0, 1, 0, 0, 0),
  (43, .bipush (16), 2, 0, 0, 16),
  (45, .iushr, 1, 0, 0, 0),
  (46, .iadd, 1, 0, 0, 0),
  (47, .istore_n 0, 1, 0, 0, 0),
  (48, .iload_n 0, 1, 0, 0, 0),
  (49, .bipush (63), 2, 0, 0, 63),
  (51, .iand, 1, 0, 0, 0),
  (52, .ireturn, 1, 0, 0, 0)]
def a_c266 : List (Nat × a_Rw) := [
  (0, .iload_n 0, 1, 0, 0, 0),
  (1, .iload_n 1, 1, 0, 0, 0),
  (2, .irem, 1, 0, 0, 0),
  (3, .istore_n 2, 1, 0, 0, 0),
  (4, .iload_n 0, 1, 0, 0, 0),
  (5, .iload_n 1, 1, 0, 0, 0),
  (6, .ixor, 1, 0, 0, 0),
  (7, .ifCond .ge (11), 3, 18, 0, 0),
  (10, .iload_n 2, 1, 0, 0, 0),
  (11, .ifCond .eq (7), 3, 18, 0, 0),
  (14, .iload_n 2, 1, 0, 0, 0),
  (15, .iload_n 1, 1, 0, 0, 0),
  (16, .iadd, 1, 0, 0, 0),
  (17, .ireturn, 1, 0, 0, 0),
  (18, .iload_n 2, 1, 0, 0, 0),
  (19, .ireturn, 1, 0, 0, 0)]
def a_c267 : List (Nat × a_Rw) := [
  (0, .aload_n 0, 1, 0, 0, 0),
  (1, .getfield 9, 3, 9, 0, 0),
  (4, .arraylength, 1, 0, 0, 0),
  (5, .aload_n 0, 1, 0, 0, 0),
  (6, .invokevirtual 335, 3, 268, 1, 0),
  (9, .ishr, 1, 0, 0, 0),
  (10, .ireturn, 1, 0, 0, 0)]
def a_c268 : List (Nat × a_Rw) := [
  (0, .getstatic 38, 3, 0, 0, 1),
  (3, .ifCond .eq (10), 3, 13, 0, 0),
  (6, .aload_n 0, 1, 0, 0, 0),
  (7, .getfield 15, 3, 9, 1, 0),
  (10, .goto (4), 3, 14, 0, 0),
  (13, .iconst (1), 1, 0, 0, 1),
  (14, .ireturn, 1, 0, 0, 0)]
def a_c269 : List (Nat × a_Rw) := [
  (0, .aload_n 0, 1, 0, 0, 0),
  (1, .invokevirtual 492, 3, 270, 1, 0),
  (4, .ifCond .eq (12), 3, 16, 0, 0),
  (7, .aload_n 0, 1, 0, 0, 0),
  (8, .getfield 9, 3, 9, 0, 0),
  (11, .iload_n 1, 1, 0, 0, 0),
  (12, .invokestatic 495, 3, 271, 2, 0),
  (15, .ireturn, 1, 0, 0, 0),
  (16, .aload_n 0, 1, 0, 0, 0),
  (17, .getfield 9, 3, 9, 0, 0),
  (20, .iload_n 1, 1, 0, 0, 0),
  (21, .invokestatic 498, 3, 999, 2, 0),
  (24, .ireturn, 1, 0, 0, 0)]
def a_c270 : List (Nat × a_Rw) := [
  (0, .getstatic 38, 3, 0, 0, 1),
  (3, .ifCond .eq (14), 3, 17, 0, 0),
  (6, .aload_n 0, 1, 0, 0, 0),
  (7, .getfield 15, 3, 9, 1, 0),
  (10, .ifCond .ne (7), 3, 17, 0, 0),
  (13, .iconst (1), 1, 0, 0, 1),
  (14, .goto (4), 3, 18, 0, 0),
  (17, .iconst (0), 1, 0, 0, 0),
  (18, .ireturn, 1, 0, 0, 0)]
def a_c271 : List (Nat × a_Rw) := [
  (0, .iload_n 1, 1, 0, 0, 0),
  (1, .aload_n 0, 1, 0, 0, 0),
  (2, .arraylength, 1, 0, 0, 0),
  (3, .invokestatic 9, 3, 272, 2, 0),
  (6, .aload_n 0, 1, 0, 0, 0),
  (7, .iload_n 1, 1, 0, 0, 0),
  (8, .baload, 1, 0, 0, 0),
  (9, .sipush (255), 3, 0, 0, 255),
  (12, .iand, 1, 0, 0, 0),
  (13, .i2c, 1, 0, 0, 0),
  (14, .ireturn, 1, 0, 0, 0)]
def a_c272 : List (Nat × a_Rw) := [
  (0, .iload_n 0, 1, 0, 0, 0),
  (1, .iload_n 1, 1, 0, 0, 0),
  (2, .getstatic 1053, 3, 1, 0, 0),
  (5, .invokestatic 1059, 3, 273, 3, 0),
  (8, .pop, 1, 0, 0, 0),
  (9, .return_, 1, 0, 0, 0)]
def a_c273 : List (Nat × a_Rw) := [
  (0, .iload_n 0, 1, 0, 0, 0),
  (1, .ifCond .lt (8), 3, 9, 0, 0),
  (4, .iload_n 0, 1, 0, 0, 0),
  (5, .iload_n 1, 1, 0, 0, 0),
  (6, .if_icmp .lt (10), 3, 16, 0, 0),
  (9, .aload_n 2, 1, 0, 0, 0),
  (10, .iload_n 0, 1, 0, 0, 0),
  (11, .iload_n 1, 1, 0, 0, 0),
  (12, .invokestatic 95, 3, 999, 0, 0),
  (15, .athrow, 1, 0, 0, 0),
  (16, .iload_n 0, 1, 0, 0, 0),
  (17, .ireturn, 1, 0, 0, 0)]
def a_codes : List (List (Nat × a_Rw)) := [a_c0, a_c1, a_c2, a_c3, a_c4, a_c5, a_c6, a_c7, a_c8, a_c9, a_c10, a_c11, a_c12, a_c13, a_c14, a_c15, a_c16, a_c17, a_c18, a_c19, a_c20, a_c21, a_c22, a_c23, a_c24, a_c25, a_c26, a_c27, a_c28, a_c29, a_c30, a_c31, a_c32, a_c33, a_c34, a_c35, a_c36, a_c37, a_c38, a_c39, a_c40, a_c41, a_c42, a_c43, a_c44, a_c45, a_c46, a_c47, a_c48, a_c49, a_c50, a_c51, a_c52, a_c53, a_c54, a_c55, a_c56, a_c57, a_c58, a_c59, a_c60, a_c61, a_c62, a_c63, a_c64, a_c65, a_c66, a_c67, a_c68, a_c69, a_c70, a_c71, a_c72, a_c73, a_c74, a_c75, a_c76, a_c77, a_c78, a_c79, a_c80, a_c81, a_c82, a_c83, a_c84, a_c85, a_c86, a_c87, a_c88, a_c89, a_c90, a_c91, a_c92, a_c93, a_c94, a_c95, a_c96, a_c97, a_c98, a_c99, a_c100, a_c101, a_c102, a_c103, a_c104, a_c105, a_c106, a_c107, a_c108, a_c109, a_c110, a_c111, a_c112, a_c113, a_c114, a_c115, a_c116, a_c117, a_c118, a_c119, a_c120, a_c121, a_c122, a_c123, a_c124, a_c125, a_c126, a_c127, a_c128, a_c129, a_c130, a_c131, a_c132, a_c133, a_c134, a_c135, a_c136, a_c137, a_c138, a_c139, a_c140, a_c141, a_c142, a_c143, a_c144, a_c145, a_c146, a_c147, a_c148, a_c149, a_c150, a_c151, a_c152, a_c153, a_c154, a_c155, a_c156, a_c157, a_c158, a_c159, a_c160, a_c161, a_c162, a_c163, a_c164, a_c165, a_c166, a_c167, a_c168, a_c169, a_c170, a_c171, a_c172, a_c173, a_c174, a_c175, a_c176, a_c177, a_c178, a_c179, a_c180, a_c181, a_c182, a_c183, a_c184, a_c185, a_c186, a_c187, a_c188, a_c189, a_c190, a_c191, a_c192, a_c193, a_c194, a_c195, a_c196, a_c197, a_c198, a_c199, a_c200, a_c201, a_c202, a_c203, a_c204, a_c205, a_c206, a_c207, a_c208, a_c209, a_c210, a_c211, a_c212, a_c213, a_c214, a_c215, a_c216, a_c217, a_c218, a_c219, a_c220, a_c221, a_c222, a_c223, a_c224, a_c225, a_c226, a_c227, a_c228, a_c229, a_c230, a_c231, a_c232, a_c233, a_c234, a_c235, a_c236, a_c237, a_c238, a_c239, a_c240, a_c241, a_c242, a_c243, a_c244, a_c245, a_c246, a_c247, a_c248, a_c249, a_c250, a_c251, a_c252, a_c253, a_c254, a_c255, a_c256, a_c257, a_c258, a_c259, a_c260, a_c261, a_c262, a_c263, a_c264, a_c265, a_c266, a_c267, a_c268, a_c269, a_c270, a_c271, a_c272, a_c273]
/-- field links: the class that links, its entry, the class and the field linked -/
def a_fl : List (Nat × Nat × Nat × Nat) := [(2, 9, 2, 0), (2, 15, 2, 1), (2, 19, 2, 2), (0, 258, 2, 2), (1, 9, 1, 0), (6, 63, 1, 0), (7, 43, 1, 0), (0, 164, 1, 0), (1, 41, 1, 1), (6, 66, 1, 1), (0, 272, 1, 1), (1, 44, 1, 2), (0, 275, 1, 2), (1, 77, 1, 3), (0, 168, 1, 3), (1, 80, 1, 4), (0, 171, 1, 4), (1, 15, 1, 5), (7, 52, 1, 5), (0, 112, 1, 5), (1, 19, 1, 6), (0, 116, 1, 6), (1, 22, 1, 7), (6, 102, 1, 7), (0, 119, 1, 7), (1, 25, 1, 8), (0, 122, 1, 8), (1, 28, 1, 9), (0, 125, 1, 9), (1, 31, 1, 10), (0, 128, 1, 10), (1, 37, 1, 11), (0, 254, 1, 11), (1, 162, 1, 12), (6, 114, 1, 13), (1, 165, 1, 13), (3, 11, 3, 0), (3, 18, 3, 1), (3, 26, 3, 2), (0, 267, 3, 2), (4, 9, 4, 0), (0, 281, 4, 0), (4, 15, 4, 1), (0, 284, 4, 1), (4, 18, 4, 2), (0, 287, 4, 2), (4, 41, 4, 3), (0, 278, 4, 3), (4, 44, 4, 4), (0, 243, 4, 4), (4, 25, 4, 5), (0, 249, 4, 5), (4, 47, 4, 6), (0, 252, 4, 6), (4, 21, 4, 7), (4, 35, 4, 8), (4, 38, 4, 9), (5, 9, 5, 0), (0, 187, 5, 0), (7, 9, 7, 0), (0, 310, 7, 0), (7, 15, 7, 1), (6, 125, 7, 1), (7, 19, 7, 2), (0, 226, 7, 2), (7, 22, 7, 3), (6, 142, 7, 3), (0, 229, 7, 3), (7, 31, 7, 4), (6, 132, 7, 4), (0, 214, 7, 4), (7, 34, 7, 5), (0, 206, 7, 5), (7, 37, 7, 6), (0, 211, 7, 6), (7, 40, 7, 7), (0, 217, 7, 7), (6, 27, 6, 0), (6, 31, 6, 1), (6, 35, 6, 2), (6, 38, 6, 3), (6, 41, 6, 4), (6, 44, 6, 5), (6, 53, 6, 6), (6, 57, 6, 7), (6, 12, 6, 8), (0, 304, 6, 8), (6, 18, 6, 9), (0, 300, 6, 9), (6, 21, 6, 10), (0, 10, 0, 0), (0, 20, 0, 1), (0, 26, 0, 2), (0, 30, 0, 3), (0, 34, 0, 4), (0, 38, 0, 5), (0, 232, 0, 6), (0, 45, 0, 7), (0, 52, 0, 8), (0, 59, 0, 9), (8, 1, 8, 0), (8, 13, 8, 1), (8, 17, 8, 2), (8, 20, 8, 3), (8, 23, 8, 4), (8, 91, 8, 5), (8, 26, 8, 6), (8, 101, 8, 7), (8, 105, 8, 8), (8, 108, 8, 9), (8, 250, 8, 10), (8, 30, 8, 11), (8, 33, 8, 12), (8, 36, 8, 13), (8, 39, 8, 14), (8, 42, 8, 15), (8, 269, 8, 16), (8, 45, 8, 17), (8, 302, 8, 18), (8, 311, 8, 19), (8, 308, 8, 20), (8, 305, 8, 21), (8, 48, 8, 22), (8, 391, 8, 23), (8, 51, 8, 24), (8, 54, 8, 25), (8, 57, 8, 26), (8, 377, 8, 27)]
def a_flp : List Nat := [129, 130, 131, 132, 141, 142, 143, 144, 145, 146, 147, 148, 149, 150, 151, 152, 153, 154, 155, 156, 157, 158, 159, 160, 161, 162, 163, 164, 165, 166, 167, 168, 169, 170, 171, 172, 234, 235, 236, 237, 251, 252, 253, 254, 255, 256, 257, 258, 259, 260, 261, 262, 263, 264, 265, 266, 267, 297, 298, 314, 315, 316, 317, 318, 319, 320, 321, 322, 323, 324, 325, 326, 327, 328, 329, 330, 331, 351, 352, 353, 354, 355, 356, 357, 358, 359, 360, 361, 362, 363, 387, 388, 389, 390, 391, 392, 393, 394, 395, 396, 1061, 1062, 1063, 1064, 1065, 1066, 1067, 1068, 1069, 1070, 1071, 1072, 1073, 1074, 1075, 1076, 1077, 1078, 1079, 1080, 1081, 1082, 1083, 1084, 1085, 1086, 1087, 1088]
/-- method links of calls: the class that links, its entry, the method -/
def a_mlv : List (Nat × Nat × Nat) := [(0, 16, 46), (0, 63, 105), (0, 67, 106), (0, 71, 52), (0, 75, 54), (0, 78, 56), (0, 81, 57), (0, 84, 64), (0, 87, 66), (0, 90, 67), (0, 93, 70), (0, 96, 71), (0, 99, 72), (0, 102, 80), (0, 105, 82), (0, 108, 53), (0, 131, 73), (0, 134, 85), (0, 137, 15), (0, 145, 68), (0, 149, 86), (0, 152, 87), (0, 155, 47), (0, 158, 88), (0, 161, 89), (0, 174, 49), (0, 177, 90), (0, 181, 50), (0, 184, 65), (0, 190, 24), (0, 193, 91), (0, 196, 84), (0, 199, 83), (0, 202, 29), (0, 220, 95), (0, 223, 142), (0, 235, 34), (0, 239, 109), (0, 246, 36), (0, 261, 100), (0, 264, 103), (0, 268, 107), (0, 290, 37), (0, 294, 125), (0, 297, 126), (0, 307, 92), (0, 313, 128), (0, 317, 131), (0, 321, 132), (0, 324, 135), (0, 327, 136), (0, 330, 137), (5, 15, 125), (1, 47, 97), (1, 56, 47), (1, 60, 48), (1, 63, 51), (1, 73, 98), (1, 83, 69), (1, 87, 68), (1, 90, 74), (1, 93, 49), (1, 96, 84), (1, 99, 55), (1, 102, 65), (1, 105, 78), (1, 108, 76), (1, 112, 77), (1, 116, 53), (1, 119, 58), (1, 122, 59), (1, 126, 60), (1, 130, 61), (1, 139, 63), (1, 142, 73), (1, 145, 75), (1, 148, 79), (1, 152, 62), (1, 156, 81), (1, 159, 83), (1, 168, 99), (2, 28, 101), (2, 36, 267), (2, 42, 269), (7, 48, 47), (7, 55, 55), (7, 59, 141), (3, 22, 50), (4, 50, 110), (4, 53, 111), (4, 57, 112), (4, 60, 114), (4, 64, 113), (4, 68, 117), (4, 72, 122), (4, 75, 118), (4, 79, 121), (4, 82, 123), (4, 85, 120), (4, 88, 119), (4, 93, 116), (4, 103, 267), (4, 107, 269), (6, 60, 139), (6, 69, 46), (6, 73, 51), (6, 77, 129), (6, 81, 94), (6, 84, 133), (6, 88, 134), (6, 91, 67), (6, 95, 72), (6, 98, 47), (6, 105, 57), (6, 108, 64), (6, 111, 66), (6, 122, 93), (6, 128, 140), (6, 135, 141), (6, 139, 130), (10, 13, 1), (10, 17, 146), (10, 18, 2), (10, 21, 152), (10, 22, 3), (10, 25, 156), (10, 26, 4), (10, 29, 162), (10, 30, 5), (10, 34, 163), (10, 35, 6), (10, 38, 175), (10, 39, 7), (10, 42, 177), (10, 43, 8), (10, 46, 180), (10, 47, 9), (10, 50, 182), (10, 51, 10), (10, 54, 184), (10, 55, 11), (10, 58, 186), (10, 59, 12), (10, 62, 193), (10, 63, 13), (10, 66, 196), (10, 67, 14), (10, 70, 200), (10, 71, 15), (10, 74, 201), (10, 75, 16), (10, 78, 203), (10, 79, 17), (10, 83, 204), (10, 84, 18), (10, 87, 206), (10, 88, 19), (10, 91, 208), (10, 92, 20), (10, 95, 210), (10, 96, 21), (10, 99, 214), (10, 100, 22), (10, 104, 217), (10, 105, 23), (10, 108, 219), (10, 109, 25), (10, 112, 212), (10, 113, 26), (10, 116, 213), (10, 117, 27), (10, 120, 224), (10, 121, 28), (10, 124, 225), (10, 125, 30), (10, 128, 236), (10, 129, 31), (10, 132, 234), (10, 133, 32), (10, 136, 238), (10, 137, 33), (10, 141, 239), (10, 142, 35), (10, 145, 240), (10, 146, 38), (10, 149, 253), (10, 150, 39), (10, 153, 254), (10, 154, 40), (10, 157, 255), (10, 158, 41), (10, 161, 258), (10, 162, 42), (10, 165, 259), (10, 166, 43), (10, 169, 260), (10, 170, 44), (10, 173, 261), (8, 60, 144), (8, 64, 145), (8, 72, 155), (8, 76, 158), (8, 83, 174), (8, 94, 151), (8, 97, 172), (8, 116, 171), (8, 120, 170), (8, 123, 168), (8, 126, 169), (8, 129, 173), (8, 136, 166), (8, 139, 167), (8, 142, 159), (8, 145, 160), (8, 151, 190), (8, 154, 192), (8, 157, 154), (8, 163, 189), (8, 166, 191), (8, 169, 195), (8, 172, 198), (8, 175, 199), (8, 182, 148), (8, 185, 150), (8, 188, 153), (8, 193, 157), (8, 199, 164), (8, 202, 176), (8, 205, 178), (8, 208, 181), (8, 211, 183), (8, 214, 185), (8, 217, 187), (8, 220, 194), (8, 223, 197), (8, 226, 202), (8, 229, 205), (8, 232, 207), (8, 235, 209), (8, 238, 211), (8, 241, 215), (8, 244, 216), (8, 247, 218), (8, 253, 221), (8, 256, 222), (8, 263, 220), (8, 266, 223), (8, 272, 227), (8, 275, 228), (8, 281, 230), (8, 284, 231), (8, 287, 232), (8, 290, 226), (8, 299, 237), (8, 314, 244), (8, 325, 267), (8, 330, 269), (8, 336, 247), (8, 362, 243), (8, 365, 245), (8, 368, 246), (8, 371, 250), (8, 374, 242), (8, 382, 248), (8, 385, 249), (8, 388, 251), (8, 394, 241), (8, 397, 252), (9, 335, 268), (9, 492, 270)]
def a_mlvp : List Nat := [202, 422, 442, 453, 465, 477, 485, 521, 533, 547, 563, 571, 579, 615, 627, 643, 648, 649, 657, 663, 664, 672, 680, 681, 685, 697, 698, 706, 707, 712, 725, 733, 738, 747, 833, 837, 853, 861, 981, 1001, 1019, 1028, 985, 716, 720, 751, 755, 791, 795, 814, 819, 824, 724, 206, 213, 217, 430, 437, 555, 551, 587, 221, 635, 469, 525, 603, 595, 599, 457, 489, 493, 497, 501, 513, 583, 591, 607, 505, 619, 631, 509, 1005, 1018, 1023, 779, 780, 781, 426, 866, 870, 874, 882, 878, 951, 971, 955, 967, 975, 963, 959, 899, 903, 913, 760, 765, 766, 767, 799, 803, 810, 818, 823, 828, 807, 808, 809, 771, 775, 785, 786, 418, 1146, 449, 1170, 461, 1186, 473, 1210, 481, 1215, 517, 1265, 529, 1273, 543, 1284, 559, 1292, 567, 1300, 575, 1308, 611, 1335, 623, 1347, 639, 1363, 644, 1367, 653, 1375, 659, 1379, 668, 1387, 676, 1395, 689, 1403, 693, 1419, 702, 1431, 708, 1439, 729, 1411, 734, 1415, 739, 1461, 743, 1465, 829, 1506, 841, 1499, 845, 1514, 849, 1518, 857, 1522, 989, 1593, 993, 1597, 997, 1601, 1024, 1617, 1035, 1622, 1039, 1626, 1043, 1630, 1053, 1057, 1182, 1195, 1261, 1166, 1253, 1249, 1245, 1237, 1241, 1257, 1228, 1233, 1199, 1203, 1323, 1331, 1178, 1319, 1327, 1343, 1355, 1359, 1155, 1162, 1174, 1191, 1219, 1269, 1277, 1288, 1296, 1304, 1312, 1339, 1351, 1371, 1383, 1391, 1399, 1407, 1423, 1427, 1435, 1449, 1453, 1445, 1457, 1473, 1477, 1484, 1488, 1492, 1469, 1510, 1538, 1557, 1558, 1553, 1534, 1544, 1548, 1579, 1530, 1571, 1575, 1585, 1526, 1589, 907, 917]
def a_mls : List (Nat × Nat × Nat) := [(0, 140, 265), (1, 50, 263), (1, 134, 265), (2, 32, 102), (7, 25, 263), (3, 29, 264), (3, 35, 266), (4, 99, 115), (6, 47, 263), (6, 117, 264), (8, 68, 147), (8, 79, 161), (8, 87, 149), (8, 133, 165), (8, 148, 179), (8, 160, 188), (8, 278, 229), (8, 293, 233), (8, 296, 235), (8, 413, 257), (8, 416, 256), (9, 495, 271), (9, 1059, 273), (14, 9, 272)]
def a_mlsp : List Nat := [658, 210, 537, 1009, 764, 446, 1032, 886, 759, 790, 1152, 1207, 1159, 1223, 1281, 1316, 1481, 1496, 1503, 1608, 1605, 921, 929, 924]
def a_mli : List (Nat × Nat × Nat) := [(0, 9, 45), (0, 25, 104), (0, 44, 108), (0, 51, 124), (0, 58, 127), (1, 36, 96), (3, 17, 45), (6, 11, 138), (6, 26, 45), (10, 9, 0), (10, 12, 143)]
def a_mlip : List Nat := [119, 227, 247, 293, 304, 125, 233, 310, 350, 111, 1049]
def a_pcode : List Nat := [113, 421, 452, 464, 476, 484, 520, 532, 546, 562, 570, 578, 614, 626, 642, 647, 656, 662, 671, 679, 692, 696, 705, 711, 715, 732, 737, 742, 746, 750, 832, 844, 848, 852, 856, 860, 984, 988, 992, 996, 1000, 1027, 1038, 1042, 1046, 121, 205, 216, 220, 224, 429, 433, 456, 460, 468, 472, 480, 488, 492, 496, 500, 504, 508, 516, 524, 528, 536, 550, 554, 558, 566, 574, 582, 586, 590, 594, 598, 602, 606, 610, 618, 622, 630, 634, 638, 652, 667, 675, 684, 688, 701, 728, 754, 774, 802, 836, 127, 209, 440, 512, 1004, 1008, 1011, 1022, 229, 425, 445, 1031, 249, 864, 869, 873, 877, 881, 885, 888, 902, 954, 958, 962, 966, 970, 974, 978, 295, 719, 723, 306, 758, 770, 789, 794, 798, 806, 813, 817, 822, 827, 312, 763, 778, 784, 840, 1051, 1056, 1060, 1149, 1154, 1158, 1161, 1165, 1169, 1173, 1177, 1181, 1185, 1189, 1194, 1198, 1202, 1206, 1209, 1213, 1218, 1222, 1225, 1231, 1236, 1240, 1244, 1248, 1252, 1256, 1260, 1264, 1268, 1272, 1276, 1280, 1283, 1287, 1291, 1295, 1299, 1303, 1307, 1311, 1315, 1318, 1322, 1326, 1330, 1334, 1338, 1342, 1346, 1350, 1354, 1358, 1362, 1366, 1370, 1374, 1378, 1382, 1386, 1390, 1394, 1398, 1402, 1406, 1410, 1414, 1418, 1422, 1426, 1430, 1434, 1438, 1442, 1448, 1452, 1456, 1460, 1464, 1468, 1472, 1476, 1480, 1483, 1487, 1491, 1495, 1498, 1502, 1505, 1509, 1513, 1517, 1521, 1525, 1529, 1533, 1537, 1541, 1547, 1551, 1556, 1574, 1578, 1582, 1588, 1592, 1596, 1600, 1604, 1607, 1610, 1620, 1625, 1629, 1633, 0, 212, 448, 539, 1034, 906, 910, 916, 920, 923, 926, 931]
def a_pinst : List Nat := [112, 419, 450, 462, 474, 482, 518, 530, 544, 560, 568, 576, 612, 624, 640, 645, 654, 660, 669, 677, 690, 694, 703, 709, 714, 730, 735, 740, 744, 749, 830, 842, 846, 850, 855, 858, 983, 987, 990, 994, 998, 1025, 1036, 1040, 1044, 120, 203, 214, 218, 222, 427, 431, 454, 458, 466, 470, 478, 486, 490, 494, 498, 502, 506, 514, 522, 526, 534, 548, 552, 556, 564, 572, 580, 584, 588, 592, 596, 600, 604, 608, 616, 620, 628, 632, 636, 650, 665, 673, 682, 686, 699, 726, 752, 772, 800, 834, 126, 207, 438, 510, 1002, 1007, 0, 1020, 228, 423, 443, 1029, 248, 862, 868, 872, 876, 880, 884, 0, 901, 953, 957, 961, 965, 969, 973, 977, 294, 717, 721, 305, 756, 769, 788, 792, 796, 805, 812, 815, 820, 825, 311, 761, 776, 782, 838, 1050, 1055, 1059, 1147, 0, 1157, 0, 1164, 1168, 1171, 1176, 1180, 1184, 1187, 1193, 1197, 1201, 1205, 0, 1211, 1216, 1221, 0, 1230, 1235, 1239, 1243, 1247, 1251, 1255, 1259, 1263, 1266, 1271, 1274, 1279, 0, 1285, 1290, 1293, 1298, 1301, 1306, 1309, 1314, 0, 1321, 1325, 1329, 1333, 1336, 1341, 1345, 1348, 1353, 1357, 1361, 1364, 1368, 1373, 1376, 1380, 1385, 1388, 1393, 1396, 1401, 1404, 1409, 1412, 1416, 1420, 1425, 1429, 1432, 1437, 1440, 1447, 1451, 1455, 1459, 1462, 1466, 1471, 1475, 1479, 0, 1486, 1490, 1494, 0, 1500, 0, 1507, 1512, 1515, 1519, 1523, 1528, 1532, 1536, 1540, 1546, 1550, 1555, 1573, 1577, 1581, 1587, 1591, 1594, 1598, 1602, 0, 0, 1618, 1623, 1627, 1631, 0, 0, 0, 0, 0, 904, 908, 914, 918, 0, 0, 0]
def a_psel : List Nat := [0, 420, 451, 463, 475, 483, 519, 531, 545, 561, 569, 577, 613, 625, 641, 646, 655, 661, 670, 678, 691, 695, 704, 710, 0, 731, 736, 741, 745, 1, 831, 843, 847, 851, 6, 859, 20, 21, 991, 995, 999, 1026, 1037, 1041, 1045, 0, 204, 215, 219, 223, 428, 432, 455, 459, 467, 471, 479, 487, 491, 495, 499, 503, 507, 515, 523, 527, 535, 549, 553, 557, 565, 573, 581, 585, 589, 593, 597, 601, 605, 609, 617, 621, 629, 633, 637, 651, 666, 674, 683, 687, 700, 727, 753, 773, 801, 835, 0, 208, 439, 511, 1003, 22, 0, 1021, 0, 424, 444, 1030, 0, 863, 7, 8, 9, 10, 11, 0, 12, 13, 14, 15, 16, 17, 18, 19, 0, 718, 722, 0, 757, 2, 3, 793, 797, 4, 5, 816, 821, 826, 0, 762, 777, 783, 839, 0, 23, 24, 1148, 0, 25, 0, 26, 27, 1172, 28, 29, 30, 1188, 31, 32, 33, 34, 0, 1212, 1217, 35, 0, 36, 37, 38, 39, 40, 41, 42, 43, 44, 1267, 45, 1275, 46, 0, 1286, 47, 1294, 48, 1302, 49, 1310, 50, 0, 51, 52, 53, 54, 1337, 55, 56, 1349, 57, 58, 59, 1365, 1369, 60, 1377, 1381, 61, 1389, 62, 1397, 63, 1405, 64, 1413, 1417, 1421, 65, 66, 1433, 67, 1441, 68, 69, 70, 71, 1463, 1467, 72, 73, 74, 0, 75, 76, 77, 0, 1501, 0, 1508, 78, 1516, 1520, 1524, 79, 80, 81, 82, 83, 84, 85, 86, 87, 88, 89, 90, 1595, 1599, 1603, 0, 0, 1619, 1624, 1628, 1632, 0, 0, 0, 0, 0, 905, 909, 915, 919, 0, 0, 0]
def a_pstat : List Nat := [0, 0, 0, 0, 0, 0, 0, 0, 0, 0, 0, 0, 0, 0, 0, 0, 0, 0, 0, 0, 0, 0, 0, 0, 0, 0, 0, 0, 0, 0, 0, 0, 0, 0, 0, 0, 0, 0, 0, 0, 0, 0, 0, 0, 0, 0, 0, 0, 0, 0, 0, 0, 0, 0, 0, 0, 0, 0, 0, 0, 0, 0, 0, 0, 0, 0, 0, 0, 0, 0, 0, 0, 0, 0, 0, 0, 0, 0, 0, 0, 0, 0, 0, 0, 0, 0, 0, 0, 0, 0, 0, 0, 0, 0, 0, 0, 0, 0, 0, 0, 0, 0, 1010, 0, 0, 0, 0, 0, 0, 0, 0, 0, 0, 0, 0, 887, 0, 0, 0, 0, 0, 0, 0, 0, 0, 0, 0, 0, 0, 0, 0, 0, 0, 0, 0, 0, 0, 0, 0, 0, 0, 0, 0, 0, 0, 0, 0, 1153, 0, 1160, 0, 0, 0, 0, 0, 0, 0, 0, 0, 0, 0, 1208, 0, 0, 0, 1224, 0, 0, 0, 0, 0, 0, 0, 0, 0, 0, 0, 0, 0, 1282, 0, 0, 0, 0, 0, 0, 0, 0, 1317, 0, 0, 0, 0, 0, 0, 0, 0, 0, 0, 0, 0, 0, 0, 0, 0, 0, 0, 0, 0, 0, 0, 0, 0, 0, 0, 0, 0, 0, 0, 0, 0, 0, 0, 0, 0, 0, 0, 0, 0, 1482, 0, 0, 0, 1497, 0, 1504, 0, 0, 0, 0, 0, 0, 0, 0, 0, 0, 0, 0, 0, 0, 0, 0, 0, 0, 0, 0, 1606, 1609, 0, 0, 0, 0, 0, 211, 447, 538, 1033, 0, 0, 0, 0, 922, 925, 930]
def a_pinit : List Nat := [92, 93, 94, 96, 97, 98, 99, 100, 101, 105, 91, 95, 103, 104, 106, 107]
def a_cst : List (Nat × Nat × Int32) := [(13, 265, 1431655765), (13, 266, 858993459), (13, 267, 252645135), (8, 104, 1048576)]
def a_cstp : List Nat := [540, 541, 542, 1232]
def a_cstl : List (Nat × Nat × Int32) := [(8, 178, 2), (8, 180, 5), (8, 191, 3), (8, 197, 15), (8, 112, -1), (8, 114, 20), (8, 259, 9999), (8, 261, 40), (8, 317, 97), (8, 319, 122), (8, 380, 6), (8, 321, 48), (8, 323, 57), (8, 419, 10)]
def a_cstlp : List Nat := [1150, 1151, 1190, 1214, 1226, 1227, 1443, 1444, 1542, 1543, 1570, 1583, 1584, 1621]
def a_str : List (Nat × Nat × String) := [(4, 111, "ask"), (4, 113, "prepare"), (4, 115, "commit"), (4, 117, "crash"), (4, 119, "wake"), (4, 121, "finish"), (4, 123, "recover"), (4, 125, "heal"), (4, 127, "vote"), (4, 129, "rescue"), (4, 91, "yes"), (4, 97, "no"), (2, 46, "new"), (2, 48, "ready"), (2, 50, "pre"), (2, 52, "held"), (2, 54, "done"), (2, 56, "gone"), (8, 334, "ask"), (8, 340, "prepare"), (8, 342, "commit"), (8, 344, "crash"), (8, 346, "wake"), (8, 348, "finish"), (8, 350, "recover"), (8, 352, "heal"), (8, 354, "vote"), (8, 356, "rescue"), (8, 358, "yes"), (8, 360, "no"), (8, 401, "new"), (8, 403, "ready"), (8, 405, "pre"), (8, 407, "held"), (8, 409, "done"), (8, 411, "gone")]
def a_strp : List Nat := [889, 890, 891, 892, 893, 894, 895, 896, 897, 898, 979, 980, 1012, 1013, 1014, 1015, 1016, 1017, 1552, 1559, 1560, 1561, 1562, 1563, 1564, 1565, 1566, 1567, 1568, 1569, 1611, 1612, 1613, 1614, 1615, 1616]
def a_byt : List (List Int32) := [[97, 115, 107], [112, 114, 101, 112, 97, 114, 101], [99, 111, 109, 109, 105, 116], [99, 114, 97, 115, 104], [119, 97, 107, 101], [102, 105, 110, 105, 115, 104], [114, 101, 99, 111, 118, 101, 114], [104, 101, 97, 108], [118, 111, 116, 101], [114, 101, 115, 99, 117, 101], [121, 101, 115], [110, 111], [110, 101, 119], [114, 101, 97, 100, 121], [112, 114, 101], [104, 101, 108, 100], [100, 111, 110, 101], [103, 111, 110, 101], [97, 115, 107], [112, 114, 101, 112, 97, 114, 101], [99, 111, 109, 109, 105, 116], [99, 114, 97, 115, 104], [119, 97, 107, 101], [102, 105, 110, 105, 115, 104], [114, 101, 99, 111, 118, 101, 114], [104, 101, 97, 108], [118, 111, 116, 101], [114, 101, 115, 99, 117, 101], [121, 101, 115], [110, 111], [110, 101, 119], [114, 101, 97, 100, 121], [112, 114, 101], [104, 101, 108, 100], [100, 111, 110, 101], [103, 111, 110, 101]]
def a_cll : List (Nat × Nat × Nat) := [(10, 7, 0), (0, 7, 1), (1, 34, 2), (0, 23, 3), (3, 9, 1), (0, 42, 4), (0, 49, 5), (0, 56, 6), (6, 9, 7), (6, 24, 1), (10, 10, 8)]
def a_clp : List Nat := [109, 117, 123, 225, 231, 245, 291, 302, 308, 349, 1047]
def a_pinst2 : List Nat := [110, 118, 124, 226, 246, 292, 303, 309, 1048]
def a_play : List (List Nat) := [[397, 399, 401, 403, 405, 407, 409, 411, 413, 415], [173, 175, 177, 179, 181, 183, 185, 187, 189, 191, 193, 195, 197, 199], [133, 135, 137], [238, 240, 242], [268, 270, 272, 274, 276, 278, 280, 282, 284, 286], [299], [364, 366, 368, 370, 372, 374, 376, 378, 380, 382, 384], [332, 334, 336, 338, 340, 342, 344, 346], [1089, 1091, 1093, 1095, 1097, 1099, 1101, 1103, 1105, 1107, 1109, 1111, 1113, 1115, 1117, 1119, 1121, 1123, 1125, 1127, 1129, 1131, 1133, 1135, 1137, 1139, 1141, 1143]]
def a_oi : List (Nat × Nat) := [(0, 1), (1, 3), (2, 3), (3, 3), (4, 3), (5, 3), (6, 3), (7, 3), (8, 7)]
def a_oip : List Nat := [114, 122, 128, 230, 250, 296, 307, 313, 1052]
def a_ac : List (Nat × Nat) := [(1, 67), (2, 22), (4, 29)]
def a_acp : List Nat := [434, 441, 865]
def a_sl : List (Nat × Nat × Nat) := [(9, 38, 0), (9, 1053, 1)]
def a_slp : List Nat := [911, 927]
def a_sf : List (Nat × Nat × Nat) := [(9, 9, 0), (9, 15, 1)]
def a_sfp : List Nat := [1634, 1635]
end
section
/-! THE TABLES HOLD: every row is what its bytes decode to, every link is a word of the tables -/
def a_own (i : Nat) : Nat := match a_ms[i]? with | some q => q.2.2.2.2.1 | none => 99
def a_key3 (o x : Nat) (l : List (Nat × Nat × Nat)) : Option Nat := (l.find? (fun q => Nat.beq q.1 o && Nat.beq q.2.1 x)).map (·.2.2)
def a_key4 (o x : Nat) (l : List (Nat × Nat × Nat × Nat)) : Option (Nat × Nat) := (l.find? (fun q => Nat.beq q.1 o && Nat.beq q.2.1 x)).map (·.2.2)
def a_key2 (o x : Nat) (l : List (Nat × Nat)) : Bool := l.any (fun q => Nat.beq q.1 o && Nat.beq q.2 x)
def a_keyc (o x : Nat) (l : List (Nat × Nat × Int32)) : Option Int32 := (l.find? (fun q => Nat.beq q.1 o && Nat.beq q.2.1 x)).map (·.2.2)
def a_nm (i : Nat) : String := match a_ms[i]? with | some q => q.1.name | none => ""
/-- what a row must say of its instruction -/
def a_say (i pc : Nat) (ins : Instr) (n a b : Nat) (v : Int32) : Bool := match ins with
  | .iconst k => n == 1 && Int32.ofInt k == v
  | .bipush k => n == 2 && (Int8.ofInt k).toInt32 == v
  | .sipush k => n == 3 && (Int16.ofInt k).toInt32 == v
  | .lconst k => n == 1 && Int64.ofNat (k : Nat) == v.toInt64
  | .ldc x => n == 2 && (if a = 0 then a_keyc (a_own i) x a_cst == some v else match a_str[b]? with | some q => q.1 == a_own i && q.2.1 == x | none => false)
  | .ldc_w x => n == 3 && (if a = 0 then a_keyc (a_own i) x a_cst == some v else match a_str[b]? with | some q => q.1 == a_own i && q.2.1 == x | none => false)
  | .ldc2_w x => n == 3 && a_keyc (a_own i) x a_cstl == some v
  | .iload _ | .lload _ | .aload _ | .istore _ | .astore _ => n == 2
  | .iload_n _ | .lload_n _ | .aload_n _ | .istore_n _ | .astore_n _ => n == 1
  | .iaload | .baload | .aaload | .iastore | .bastore | .aastore | .pop | .dup | .dup2 | .iadd | .isub | .imul | .idiv | .irem | .ishl | .ishr | .iushr | .iand | .ior | .ixor | .i2l | .i2b | .i2c | .lcmp | .arraylength | .ireturn | .areturn | .return_ => n == 1
  | .iinc _ k => n == 3 && Int32.ofInt k == v
  | .ifCond _ off => n == 3 && (pc : Int) + off == (a : Int)
  | .if_icmp _ off => n == 3 && (pc : Int) + off == (a : Int)
  | .goto off => n == 3 && (pc : Int) + off == (a : Int)
  | .tableswitch d _ _ os => decide (0 ≤ (pc : Int) + d) && os.toList.all (fun o => decide (0 ≤ (pc : Int) + o))
  | .lookupswitch d ps => decide (0 ≤ (pc : Int) + d) && ps.toList.all (fun o => decide (0 ≤ (pc : Int) + o.2)) && (ps.toList.zip (ps.toList.drop 1)).all (fun (x, next) => x.1 < next.1)
  | .getstatic x => n == 3 && a_key3 (a_own i) x a_sl == some a && (a == 1 || v == 1)
  | .getfield x => n == 3 && (if a = 9 then a_key3 (a_own i) x a_sf == some b else a_key4 (a_own i) x a_fl == some (a, b))
  | .putfield x => n == 3 && a_key4 (a_own i) x a_fl == some (a, b) && (!(a_T a b).2.2.2 || (a_nm i == "<init>" && a_own i == a))
  | .invokevirtual x => n == 3 && (a == 999 || a_key3 (a_own i) x a_mlv == some a)
  | .invokestatic x => n == 3 && (a == 999 || (if a = 1001 then a_key2 (a_own i) x a_ac else a_key3 (a_own i) x a_mls == some a))
  | .invokespecial x => n == 3 && (a == 999 || (if a = 1000 then a_key2 (a_own i) x a_oi else a_key3 (a_own i) x a_mli == some a))
  | .new x => n == 3 && a_key3 (a_own i) x a_cll == some a
  | .newarray t => n == 2 && (match t with | .int => a == 0 | .byte => a == 1 | .boolean => a == 2 | _ => false)
  | .anewarray x => n == 3 && a_key3 (a_own i) x a_cll == some 1
  | _ => true
def a_bytes (i : Nat) : ByteArray := match a_ms[i]? with | some q => q.2.1 | none => ⟨#[]⟩
def a_rowok (i : Nat) (r : Nat × a_Rw) : Bool := decide (decode (a_bytes i) r.1 = .ok (r.2.1, r.2.2.1)) && a_say i r.1 r.2.1 r.2.2.1 r.2.2.2.1 r.2.2.2.2.1 r.2.2.2.2.2
theorem a_all20 {α : Type} {p : α → Bool} {L : List α} (K : Nat) (hK : L.length ≤ 20 * K) (h : ∀ j, j < K → ((L.drop (20 * j)).take 20).all p = true) : ∀ x ∈ L, p x = true := by
  intro x hx
  obtain ⟨n, hn⟩ := List.getElem?_of_mem hx
  have hl : n < L.length := (List.getElem?_eq_some_iff.mp hn).1
  have h1 := List.all_eq_true.mp (h (n / 20) (by omega)) x
  refine h1 (List.mem_of_getElem? (i := n % 20) ?_)
  rw [List.getElem?_take_of_lt (by omega), List.getElem?_drop]
  rw [show 20 * (n / 20) + n % 20 = n by omega]
  exact hn
theorem a_ok0_0 : ((a_c0.drop (20 * 0)).take 20).all (a_rowok 0) = true := by decide +kernel
theorem a_ok0_1 : ((a_c0.drop (20 * 1)).take 20).all (a_rowok 0) = true := by decide +kernel
theorem a_ok0_2 : ((a_c0.drop (20 * 2)).take 20).all (a_rowok 0) = true := by decide +kernel
theorem a_ok0_3 : ((a_c0.drop (20 * 3)).take 20).all (a_rowok 0) = true := by decide +kernel
set_option maxRecDepth 100000 in
theorem a_ok0 : ∀ r ∈ a_c0, a_rowok 0 r = true := a_all20 4 (Nat.le_of_ble_eq_true rfl) (fun j hj => by
  match j, hj with
  | 0, _ => exact a_ok0_0
  | 1, _ => exact a_ok0_1
  | 2, _ => exact a_ok0_2
  | 3, _ => exact a_ok0_3
  | j + 4, h => exact absurd h (by omega))
theorem a_ok1_0 : ((a_c1.drop (20 * 0)).take 20).all (a_rowok 1) = true := by decide +kernel
theorem a_ok1_1 : ((a_c1.drop (20 * 1)).take 20).all (a_rowok 1) = true := by decide +kernel
set_option maxRecDepth 100000 in
theorem a_ok1 : ∀ r ∈ a_c1, a_rowok 1 r = true := a_all20 2 (Nat.le_of_ble_eq_true rfl) (fun j hj => by
  match j, hj with
  | 0, _ => exact a_ok1_0
  | 1, _ => exact a_ok1_1
  | j + 2, h => exact absurd h (by omega))
theorem a_ok2_0 : ((a_c2.drop (20 * 0)).take 20).all (a_rowok 2) = true := by decide +kernel
set_option maxRecDepth 100000 in
theorem a_ok2 : ∀ r ∈ a_c2, a_rowok 2 r = true := a_all20 1 (Nat.le_of_ble_eq_true rfl) (fun j hj => by
  match j, hj with
  | 0, _ => exact a_ok2_0
  | j + 1, h => exact absurd h (by omega))
theorem a_ok3_0 : ((a_c3.drop (20 * 0)).take 20).all (a_rowok 3) = true := by decide +kernel
set_option maxRecDepth 100000 in
theorem a_ok3 : ∀ r ∈ a_c3, a_rowok 3 r = true := a_all20 1 (Nat.le_of_ble_eq_true rfl) (fun j hj => by
  match j, hj with
  | 0, _ => exact a_ok3_0
  | j + 1, h => exact absurd h (by omega))
theorem a_ok4_0 : ((a_c4.drop (20 * 0)).take 20).all (a_rowok 4) = true := by decide +kernel
set_option maxRecDepth 100000 in
theorem a_ok4 : ∀ r ∈ a_c4, a_rowok 4 r = true := a_all20 1 (Nat.le_of_ble_eq_true rfl) (fun j hj => by
  match j, hj with
  | 0, _ => exact a_ok4_0
  | j + 1, h => exact absurd h (by omega))
theorem a_ok5_0 : ((a_c5.drop (20 * 0)).take 20).all (a_rowok 5) = true := by decide +kernel
set_option maxRecDepth 100000 in
theorem a_ok5 : ∀ r ∈ a_c5, a_rowok 5 r = true := a_all20 1 (Nat.le_of_ble_eq_true rfl) (fun j hj => by
  match j, hj with
  | 0, _ => exact a_ok5_0
  | j + 1, h => exact absurd h (by omega))
theorem a_ok6_0 : ((a_c6.drop (20 * 0)).take 20).all (a_rowok 6) = true := by decide +kernel
set_option maxRecDepth 100000 in
theorem a_ok6 : ∀ r ∈ a_c6, a_rowok 6 r = true := a_all20 1 (Nat.le_of_ble_eq_true rfl) (fun j hj => by
  match j, hj with
  | 0, _ => exact a_ok6_0
  | j + 1, h => exact absurd h (by omega))
theorem a_ok7_0 : ((a_c7.drop (20 * 0)).take 20).all (a_rowok 7) = true := by decide +kernel
set_option maxRecDepth 100000 in
theorem a_ok7 : ∀ r ∈ a_c7, a_rowok 7 r = true := a_all20 1 (Nat.le_of_ble_eq_true rfl) (fun j hj => by
  match j, hj with
  | 0, _ => exact a_ok7_0
  | j + 1, h => exact absurd h (by omega))
theorem a_ok8_0 : ((a_c8.drop (20 * 0)).take 20).all (a_rowok 8) = true := by decide +kernel
set_option maxRecDepth 100000 in
theorem a_ok8 : ∀ r ∈ a_c8, a_rowok 8 r = true := a_all20 1 (Nat.le_of_ble_eq_true rfl) (fun j hj => by
  match j, hj with
  | 0, _ => exact a_ok8_0
  | j + 1, h => exact absurd h (by omega))
theorem a_ok9_0 : ((a_c9.drop (20 * 0)).take 20).all (a_rowok 9) = true := by decide +kernel
set_option maxRecDepth 100000 in
theorem a_ok9 : ∀ r ∈ a_c9, a_rowok 9 r = true := a_all20 1 (Nat.le_of_ble_eq_true rfl) (fun j hj => by
  match j, hj with
  | 0, _ => exact a_ok9_0
  | j + 1, h => exact absurd h (by omega))
theorem a_ok10_0 : ((a_c10.drop (20 * 0)).take 20).all (a_rowok 10) = true := by decide +kernel
set_option maxRecDepth 100000 in
theorem a_ok10 : ∀ r ∈ a_c10, a_rowok 10 r = true := a_all20 1 (Nat.le_of_ble_eq_true rfl) (fun j hj => by
  match j, hj with
  | 0, _ => exact a_ok10_0
  | j + 1, h => exact absurd h (by omega))
theorem a_ok11_0 : ((a_c11.drop (20 * 0)).take 20).all (a_rowok 11) = true := by decide +kernel
set_option maxRecDepth 100000 in
theorem a_ok11 : ∀ r ∈ a_c11, a_rowok 11 r = true := a_all20 1 (Nat.le_of_ble_eq_true rfl) (fun j hj => by
  match j, hj with
  | 0, _ => exact a_ok11_0
  | j + 1, h => exact absurd h (by omega))
theorem a_ok12_0 : ((a_c12.drop (20 * 0)).take 20).all (a_rowok 12) = true := by decide +kernel
set_option maxRecDepth 100000 in
theorem a_ok12 : ∀ r ∈ a_c12, a_rowok 12 r = true := a_all20 1 (Nat.le_of_ble_eq_true rfl) (fun j hj => by
  match j, hj with
  | 0, _ => exact a_ok12_0
  | j + 1, h => exact absurd h (by omega))
theorem a_ok13_0 : ((a_c13.drop (20 * 0)).take 20).all (a_rowok 13) = true := by decide +kernel
set_option maxRecDepth 100000 in
theorem a_ok13 : ∀ r ∈ a_c13, a_rowok 13 r = true := a_all20 1 (Nat.le_of_ble_eq_true rfl) (fun j hj => by
  match j, hj with
  | 0, _ => exact a_ok13_0
  | j + 1, h => exact absurd h (by omega))
theorem a_ok14_0 : ((a_c14.drop (20 * 0)).take 20).all (a_rowok 14) = true := by decide +kernel
theorem a_ok14_1 : ((a_c14.drop (20 * 1)).take 20).all (a_rowok 14) = true := by decide +kernel
theorem a_ok14_2 : ((a_c14.drop (20 * 2)).take 20).all (a_rowok 14) = true := by decide +kernel
set_option maxRecDepth 100000 in
theorem a_ok14 : ∀ r ∈ a_c14, a_rowok 14 r = true := a_all20 3 (Nat.le_of_ble_eq_true rfl) (fun j hj => by
  match j, hj with
  | 0, _ => exact a_ok14_0
  | 1, _ => exact a_ok14_1
  | 2, _ => exact a_ok14_2
  | j + 3, h => exact absurd h (by omega))
theorem a_ok15_0 : ((a_c15.drop (20 * 0)).take 20).all (a_rowok 15) = true := by decide +kernel
theorem a_ok15_1 : ((a_c15.drop (20 * 1)).take 20).all (a_rowok 15) = true := by decide +kernel
set_option maxRecDepth 100000 in
theorem a_ok15 : ∀ r ∈ a_c15, a_rowok 15 r = true := a_all20 2 (Nat.le_of_ble_eq_true rfl) (fun j hj => by
  match j, hj with
  | 0, _ => exact a_ok15_0
  | 1, _ => exact a_ok15_1
  | j + 2, h => exact absurd h (by omega))
theorem a_ok16_0 : ((a_c16.drop (20 * 0)).take 20).all (a_rowok 16) = true := by decide +kernel
theorem a_ok16_1 : ((a_c16.drop (20 * 1)).take 20).all (a_rowok 16) = true := by decide +kernel
set_option maxRecDepth 100000 in
theorem a_ok16 : ∀ r ∈ a_c16, a_rowok 16 r = true := a_all20 2 (Nat.le_of_ble_eq_true rfl) (fun j hj => by
  match j, hj with
  | 0, _ => exact a_ok16_0
  | 1, _ => exact a_ok16_1
  | j + 2, h => exact absurd h (by omega))
theorem a_ok17_0 : ((a_c17.drop (20 * 0)).take 20).all (a_rowok 17) = true := by decide +kernel
set_option maxRecDepth 100000 in
theorem a_ok17 : ∀ r ∈ a_c17, a_rowok 17 r = true := a_all20 1 (Nat.le_of_ble_eq_true rfl) (fun j hj => by
  match j, hj with
  | 0, _ => exact a_ok17_0
  | j + 1, h => exact absurd h (by omega))
theorem a_ok18_0 : ((a_c18.drop (20 * 0)).take 20).all (a_rowok 18) = true := by decide +kernel
set_option maxRecDepth 100000 in
theorem a_ok18 : ∀ r ∈ a_c18, a_rowok 18 r = true := a_all20 1 (Nat.le_of_ble_eq_true rfl) (fun j hj => by
  match j, hj with
  | 0, _ => exact a_ok18_0
  | j + 1, h => exact absurd h (by omega))
theorem a_ok19_0 : ((a_c19.drop (20 * 0)).take 20).all (a_rowok 19) = true := by decide +kernel
theorem a_ok19_1 : ((a_c19.drop (20 * 1)).take 20).all (a_rowok 19) = true := by decide +kernel
set_option maxRecDepth 100000 in
theorem a_ok19 : ∀ r ∈ a_c19, a_rowok 19 r = true := a_all20 2 (Nat.le_of_ble_eq_true rfl) (fun j hj => by
  match j, hj with
  | 0, _ => exact a_ok19_0
  | 1, _ => exact a_ok19_1
  | j + 2, h => exact absurd h (by omega))
theorem a_ok20_0 : ((a_c20.drop (20 * 0)).take 20).all (a_rowok 20) = true := by decide +kernel
theorem a_ok20_1 : ((a_c20.drop (20 * 1)).take 20).all (a_rowok 20) = true := by decide +kernel
theorem a_ok20_2 : ((a_c20.drop (20 * 2)).take 20).all (a_rowok 20) = true := by decide +kernel
set_option maxRecDepth 100000 in
theorem a_ok20 : ∀ r ∈ a_c20, a_rowok 20 r = true := a_all20 3 (Nat.le_of_ble_eq_true rfl) (fun j hj => by
  match j, hj with
  | 0, _ => exact a_ok20_0
  | 1, _ => exact a_ok20_1
  | 2, _ => exact a_ok20_2
  | j + 3, h => exact absurd h (by omega))
theorem a_ok21_0 : ((a_c21.drop (20 * 0)).take 20).all (a_rowok 21) = true := by decide +kernel
theorem a_ok21_1 : ((a_c21.drop (20 * 1)).take 20).all (a_rowok 21) = true := by decide +kernel
theorem a_ok21_2 : ((a_c21.drop (20 * 2)).take 20).all (a_rowok 21) = true := by decide +kernel
set_option maxRecDepth 100000 in
theorem a_ok21 : ∀ r ∈ a_c21, a_rowok 21 r = true := a_all20 3 (Nat.le_of_ble_eq_true rfl) (fun j hj => by
  match j, hj with
  | 0, _ => exact a_ok21_0
  | 1, _ => exact a_ok21_1
  | 2, _ => exact a_ok21_2
  | j + 3, h => exact absurd h (by omega))
theorem a_ok22_0 : ((a_c22.drop (20 * 0)).take 20).all (a_rowok 22) = true := by decide +kernel
theorem a_ok22_1 : ((a_c22.drop (20 * 1)).take 20).all (a_rowok 22) = true := by decide +kernel
theorem a_ok22_2 : ((a_c22.drop (20 * 2)).take 20).all (a_rowok 22) = true := by decide +kernel
set_option maxRecDepth 100000 in
theorem a_ok22 : ∀ r ∈ a_c22, a_rowok 22 r = true := a_all20 3 (Nat.le_of_ble_eq_true rfl) (fun j hj => by
  match j, hj with
  | 0, _ => exact a_ok22_0
  | 1, _ => exact a_ok22_1
  | 2, _ => exact a_ok22_2
  | j + 3, h => exact absurd h (by omega))
theorem a_ok23_0 : ((a_c23.drop (20 * 0)).take 20).all (a_rowok 23) = true := by decide +kernel
theorem a_ok23_1 : ((a_c23.drop (20 * 1)).take 20).all (a_rowok 23) = true := by decide +kernel
theorem a_ok23_2 : ((a_c23.drop (20 * 2)).take 20).all (a_rowok 23) = true := by decide +kernel
set_option maxRecDepth 100000 in
theorem a_ok23 : ∀ r ∈ a_c23, a_rowok 23 r = true := a_all20 3 (Nat.le_of_ble_eq_true rfl) (fun j hj => by
  match j, hj with
  | 0, _ => exact a_ok23_0
  | 1, _ => exact a_ok23_1
  | 2, _ => exact a_ok23_2
  | j + 3, h => exact absurd h (by omega))
theorem a_ok24_0 : ((a_c24.drop (20 * 0)).take 20).all (a_rowok 24) = true := by decide +kernel
theorem a_ok24_1 : ((a_c24.drop (20 * 1)).take 20).all (a_rowok 24) = true := by decide +kernel
theorem a_ok24_2 : ((a_c24.drop (20 * 2)).take 20).all (a_rowok 24) = true := by decide +kernel
theorem a_ok24_3 : ((a_c24.drop (20 * 3)).take 20).all (a_rowok 24) = true := by decide +kernel
set_option maxRecDepth 100000 in
theorem a_ok24 : ∀ r ∈ a_c24, a_rowok 24 r = true := a_all20 4 (Nat.le_of_ble_eq_true rfl) (fun j hj => by
  match j, hj with
  | 0, _ => exact a_ok24_0
  | 1, _ => exact a_ok24_1
  | 2, _ => exact a_ok24_2
  | 3, _ => exact a_ok24_3
  | j + 4, h => exact absurd h (by omega))
theorem a_ok25_0 : ((a_c25.drop (20 * 0)).take 20).all (a_rowok 25) = true := by decide +kernel
set_option maxRecDepth 100000 in
theorem a_ok25 : ∀ r ∈ a_c25, a_rowok 25 r = true := a_all20 1 (Nat.le_of_ble_eq_true rfl) (fun j hj => by
  match j, hj with
  | 0, _ => exact a_ok25_0
  | j + 1, h => exact absurd h (by omega))
theorem a_ok26_0 : ((a_c26.drop (20 * 0)).take 20).all (a_rowok 26) = true := by decide +kernel
theorem a_ok26_1 : ((a_c26.drop (20 * 1)).take 20).all (a_rowok 26) = true := by decide +kernel
set_option maxRecDepth 100000 in
theorem a_ok26 : ∀ r ∈ a_c26, a_rowok 26 r = true := a_all20 2 (Nat.le_of_ble_eq_true rfl) (fun j hj => by
  match j, hj with
  | 0, _ => exact a_ok26_0
  | 1, _ => exact a_ok26_1
  | j + 2, h => exact absurd h (by omega))
theorem a_ok27_0 : ((a_c27.drop (20 * 0)).take 20).all (a_rowok 27) = true := by decide +kernel
theorem a_ok27_1 : ((a_c27.drop (20 * 1)).take 20).all (a_rowok 27) = true := by decide +kernel
set_option maxRecDepth 100000 in
theorem a_ok27 : ∀ r ∈ a_c27, a_rowok 27 r = true := a_all20 2 (Nat.le_of_ble_eq_true rfl) (fun j hj => by
  match j, hj with
  | 0, _ => exact a_ok27_0
  | 1, _ => exact a_ok27_1
  | j + 2, h => exact absurd h (by omega))
theorem a_ok28_0 : ((a_c28.drop (20 * 0)).take 20).all (a_rowok 28) = true := by decide +kernel
theorem a_ok28_1 : ((a_c28.drop (20 * 1)).take 20).all (a_rowok 28) = true := by decide +kernel
set_option maxRecDepth 100000 in
theorem a_ok28 : ∀ r ∈ a_c28, a_rowok 28 r = true := a_all20 2 (Nat.le_of_ble_eq_true rfl) (fun j hj => by
  match j, hj with
  | 0, _ => exact a_ok28_0
  | 1, _ => exact a_ok28_1
  | j + 2, h => exact absurd h (by omega))
theorem a_ok29_0 : ((a_c29.drop (20 * 0)).take 20).all (a_rowok 29) = true := by decide +kernel
theorem a_ok29_1 : ((a_c29.drop (20 * 1)).take 20).all (a_rowok 29) = true := by decide +kernel
theorem a_ok29_2 : ((a_c29.drop (20 * 2)).take 20).all (a_rowok 29) = true := by decide +kernel
set_option maxRecDepth 100000 in
theorem a_ok29 : ∀ r ∈ a_c29, a_rowok 29 r = true := a_all20 3 (Nat.le_of_ble_eq_true rfl) (fun j hj => by
  match j, hj with
  | 0, _ => exact a_ok29_0
  | 1, _ => exact a_ok29_1
  | 2, _ => exact a_ok29_2
  | j + 3, h => exact absurd h (by omega))
theorem a_ok30_0 : ((a_c30.drop (20 * 0)).take 20).all (a_rowok 30) = true := by decide +kernel
theorem a_ok30_1 : ((a_c30.drop (20 * 1)).take 20).all (a_rowok 30) = true := by decide +kernel
set_option maxRecDepth 100000 in
theorem a_ok30 : ∀ r ∈ a_c30, a_rowok 30 r = true := a_all20 2 (Nat.le_of_ble_eq_true rfl) (fun j hj => by
  match j, hj with
  | 0, _ => exact a_ok30_0
  | 1, _ => exact a_ok30_1
  | j + 2, h => exact absurd h (by omega))
theorem a_ok31_0 : ((a_c31.drop (20 * 0)).take 20).all (a_rowok 31) = true := by decide +kernel
theorem a_ok31_1 : ((a_c31.drop (20 * 1)).take 20).all (a_rowok 31) = true := by decide +kernel
set_option maxRecDepth 100000 in
theorem a_ok31 : ∀ r ∈ a_c31, a_rowok 31 r = true := a_all20 2 (Nat.le_of_ble_eq_true rfl) (fun j hj => by
  match j, hj with
  | 0, _ => exact a_ok31_0
  | 1, _ => exact a_ok31_1
  | j + 2, h => exact absurd h (by omega))
theorem a_ok32_0 : ((a_c32.drop (20 * 0)).take 20).all (a_rowok 32) = true := by decide +kernel
theorem a_ok32_1 : ((a_c32.drop (20 * 1)).take 20).all (a_rowok 32) = true := by decide +kernel
set_option maxRecDepth 100000 in
theorem a_ok32 : ∀ r ∈ a_c32, a_rowok 32 r = true := a_all20 2 (Nat.le_of_ble_eq_true rfl) (fun j hj => by
  match j, hj with
  | 0, _ => exact a_ok32_0
  | 1, _ => exact a_ok32_1
  | j + 2, h => exact absurd h (by omega))
theorem a_ok33_0 : ((a_c33.drop (20 * 0)).take 20).all (a_rowok 33) = true := by decide +kernel
theorem a_ok33_1 : ((a_c33.drop (20 * 1)).take 20).all (a_rowok 33) = true := by decide +kernel
set_option maxRecDepth 100000 in
theorem a_ok33 : ∀ r ∈ a_c33, a_rowok 33 r = true := a_all20 2 (Nat.le_of_ble_eq_true rfl) (fun j hj => by
  match j, hj with
  | 0, _ => exact a_ok33_0
  | 1, _ => exact a_ok33_1
  | j + 2, h => exact absurd h (by omega))
theorem a_ok34_0 : ((a_c34.drop (20 * 0)).take 20).all (a_rowok 34) = true := by decide +kernel
theorem a_ok34_1 : ((a_c34.drop (20 * 1)).take 20).all (a_rowok 34) = true := by decide +kernel
set_option maxRecDepth 100000 in
theorem a_ok34 : ∀ r ∈ a_c34, a_rowok 34 r = true := a_all20 2 (Nat.le_of_ble_eq_true rfl) (fun j hj => by
  match j, hj with
  | 0, _ => exact a_ok34_0
  | 1, _ => exact a_ok34_1
  | j + 2, h => exact absurd h (by omega))
theorem a_ok35_0 : ((a_c35.drop (20 * 0)).take 20).all (a_rowok 35) = true := by decide +kernel
theorem a_ok35_1 : ((a_c35.drop (20 * 1)).take 20).all (a_rowok 35) = true := by decide +kernel
theorem a_ok35_2 : ((a_c35.drop (20 * 2)).take 20).all (a_rowok 35) = true := by decide +kernel
set_option maxRecDepth 100000 in
theorem a_ok35 : ∀ r ∈ a_c35, a_rowok 35 r = true := a_all20 3 (Nat.le_of_ble_eq_true rfl) (fun j hj => by
  match j, hj with
  | 0, _ => exact a_ok35_0
  | 1, _ => exact a_ok35_1
  | 2, _ => exact a_ok35_2
  | j + 3, h => exact absurd h (by omega))
theorem a_ok36_0 : ((a_c36.drop (20 * 0)).take 20).all (a_rowok 36) = true := by decide +kernel
theorem a_ok36_1 : ((a_c36.drop (20 * 1)).take 20).all (a_rowok 36) = true := by decide +kernel
set_option maxRecDepth 100000 in
theorem a_ok36 : ∀ r ∈ a_c36, a_rowok 36 r = true := a_all20 2 (Nat.le_of_ble_eq_true rfl) (fun j hj => by
  match j, hj with
  | 0, _ => exact a_ok36_0
  | 1, _ => exact a_ok36_1
  | j + 2, h => exact absurd h (by omega))
theorem a_ok37_0 : ((a_c37.drop (20 * 0)).take 20).all (a_rowok 37) = true := by decide +kernel
theorem a_ok37_1 : ((a_c37.drop (20 * 1)).take 20).all (a_rowok 37) = true := by decide +kernel
theorem a_ok37_2 : ((a_c37.drop (20 * 2)).take 20).all (a_rowok 37) = true := by decide +kernel
set_option maxRecDepth 100000 in
theorem a_ok37 : ∀ r ∈ a_c37, a_rowok 37 r = true := a_all20 3 (Nat.le_of_ble_eq_true rfl) (fun j hj => by
  match j, hj with
  | 0, _ => exact a_ok37_0
  | 1, _ => exact a_ok37_1
  | 2, _ => exact a_ok37_2
  | j + 3, h => exact absurd h (by omega))
theorem a_ok38_0 : ((a_c38.drop (20 * 0)).take 20).all (a_rowok 38) = true := by decide +kernel
set_option maxRecDepth 100000 in
theorem a_ok38 : ∀ r ∈ a_c38, a_rowok 38 r = true := a_all20 1 (Nat.le_of_ble_eq_true rfl) (fun j hj => by
  match j, hj with
  | 0, _ => exact a_ok38_0
  | j + 1, h => exact absurd h (by omega))
theorem a_ok39_0 : ((a_c39.drop (20 * 0)).take 20).all (a_rowok 39) = true := by decide +kernel
set_option maxRecDepth 100000 in
theorem a_ok39 : ∀ r ∈ a_c39, a_rowok 39 r = true := a_all20 1 (Nat.le_of_ble_eq_true rfl) (fun j hj => by
  match j, hj with
  | 0, _ => exact a_ok39_0
  | j + 1, h => exact absurd h (by omega))
theorem a_ok40_0 : ((a_c40.drop (20 * 0)).take 20).all (a_rowok 40) = true := by decide +kernel
theorem a_ok40_1 : ((a_c40.drop (20 * 1)).take 20).all (a_rowok 40) = true := by decide +kernel
set_option maxRecDepth 100000 in
theorem a_ok40 : ∀ r ∈ a_c40, a_rowok 40 r = true := a_all20 2 (Nat.le_of_ble_eq_true rfl) (fun j hj => by
  match j, hj with
  | 0, _ => exact a_ok40_0
  | 1, _ => exact a_ok40_1
  | j + 2, h => exact absurd h (by omega))
theorem a_ok41_0 : ((a_c41.drop (20 * 0)).take 20).all (a_rowok 41) = true := by decide +kernel
set_option maxRecDepth 100000 in
theorem a_ok41 : ∀ r ∈ a_c41, a_rowok 41 r = true := a_all20 1 (Nat.le_of_ble_eq_true rfl) (fun j hj => by
  match j, hj with
  | 0, _ => exact a_ok41_0
  | j + 1, h => exact absurd h (by omega))
theorem a_ok42_0 : ((a_c42.drop (20 * 0)).take 20).all (a_rowok 42) = true := by decide +kernel
theorem a_ok42_1 : ((a_c42.drop (20 * 1)).take 20).all (a_rowok 42) = true := by decide +kernel
set_option maxRecDepth 100000 in
theorem a_ok42 : ∀ r ∈ a_c42, a_rowok 42 r = true := a_all20 2 (Nat.le_of_ble_eq_true rfl) (fun j hj => by
  match j, hj with
  | 0, _ => exact a_ok42_0
  | 1, _ => exact a_ok42_1
  | j + 2, h => exact absurd h (by omega))
theorem a_ok43_0 : ((a_c43.drop (20 * 0)).take 20).all (a_rowok 43) = true := by decide +kernel
theorem a_ok43_1 : ((a_c43.drop (20 * 1)).take 20).all (a_rowok 43) = true := by decide +kernel
set_option maxRecDepth 100000 in
theorem a_ok43 : ∀ r ∈ a_c43, a_rowok 43 r = true := a_all20 2 (Nat.le_of_ble_eq_true rfl) (fun j hj => by
  match j, hj with
  | 0, _ => exact a_ok43_0
  | 1, _ => exact a_ok43_1
  | j + 2, h => exact absurd h (by omega))
theorem a_ok44_0 : ((a_c44.drop (20 * 0)).take 20).all (a_rowok 44) = true := by decide +kernel
theorem a_ok44_1 : ((a_c44.drop (20 * 1)).take 20).all (a_rowok 44) = true := by decide +kernel
set_option maxRecDepth 100000 in
theorem a_ok44 : ∀ r ∈ a_c44, a_rowok 44 r = true := a_all20 2 (Nat.le_of_ble_eq_true rfl) (fun j hj => by
  match j, hj with
  | 0, _ => exact a_ok44_0
  | 1, _ => exact a_ok44_1
  | j + 2, h => exact absurd h (by omega))
theorem a_ok45_0 : ((a_c45.drop (20 * 0)).take 20).all (a_rowok 45) = true := by decide +kernel
theorem a_ok45_1 : ((a_c45.drop (20 * 1)).take 20).all (a_rowok 45) = true := by decide +kernel
set_option maxRecDepth 100000 in
theorem a_ok45 : ∀ r ∈ a_c45, a_rowok 45 r = true := a_all20 2 (Nat.le_of_ble_eq_true rfl) (fun j hj => by
  match j, hj with
  | 0, _ => exact a_ok45_0
  | 1, _ => exact a_ok45_1
  | j + 2, h => exact absurd h (by omega))
theorem a_ok46_0 : ((a_c46.drop (20 * 0)).take 20).all (a_rowok 46) = true := by decide +kernel
theorem a_ok46_1 : ((a_c46.drop (20 * 1)).take 20).all (a_rowok 46) = true := by decide +kernel
set_option maxRecDepth 100000 in
theorem a_ok46 : ∀ r ∈ a_c46, a_rowok 46 r = true := a_all20 2 (Nat.le_of_ble_eq_true rfl) (fun j hj => by
  match j, hj with
  | 0, _ => exact a_ok46_0
  | 1, _ => exact a_ok46_1
  | j + 2, h => exact absurd h (by omega))
theorem a_ok47_0 : ((a_c47.drop (20 * 0)).take 20).all (a_rowok 47) = true := by decide +kernel
set_option maxRecDepth 100000 in
theorem a_ok47 : ∀ r ∈ a_c47, a_rowok 47 r = true := a_all20 1 (Nat.le_of_ble_eq_true rfl) (fun j hj => by
  match j, hj with
  | 0, _ => exact a_ok47_0
  | j + 1, h => exact absurd h (by omega))
theorem a_ok48_0 : ((a_c48.drop (20 * 0)).take 20).all (a_rowok 48) = true := by decide +kernel
set_option maxRecDepth 100000 in
theorem a_ok48 : ∀ r ∈ a_c48, a_rowok 48 r = true := a_all20 1 (Nat.le_of_ble_eq_true rfl) (fun j hj => by
  match j, hj with
  | 0, _ => exact a_ok48_0
  | j + 1, h => exact absurd h (by omega))
theorem a_ok49_0 : ((a_c49.drop (20 * 0)).take 20).all (a_rowok 49) = true := by decide +kernel
theorem a_ok49_1 : ((a_c49.drop (20 * 1)).take 20).all (a_rowok 49) = true := by decide +kernel
set_option maxRecDepth 100000 in
theorem a_ok49 : ∀ r ∈ a_c49, a_rowok 49 r = true := a_all20 2 (Nat.le_of_ble_eq_true rfl) (fun j hj => by
  match j, hj with
  | 0, _ => exact a_ok49_0
  | 1, _ => exact a_ok49_1
  | j + 2, h => exact absurd h (by omega))
theorem a_ok50_0 : ((a_c50.drop (20 * 0)).take 20).all (a_rowok 50) = true := by decide +kernel
theorem a_ok50_1 : ((a_c50.drop (20 * 1)).take 20).all (a_rowok 50) = true := by decide +kernel
theorem a_ok50_2 : ((a_c50.drop (20 * 2)).take 20).all (a_rowok 50) = true := by decide +kernel
set_option maxRecDepth 100000 in
theorem a_ok50 : ∀ r ∈ a_c50, a_rowok 50 r = true := a_all20 3 (Nat.le_of_ble_eq_true rfl) (fun j hj => by
  match j, hj with
  | 0, _ => exact a_ok50_0
  | 1, _ => exact a_ok50_1
  | 2, _ => exact a_ok50_2
  | j + 3, h => exact absurd h (by omega))
theorem a_ok51_0 : ((a_c51.drop (20 * 0)).take 20).all (a_rowok 51) = true := by decide +kernel
theorem a_ok51_1 : ((a_c51.drop (20 * 1)).take 20).all (a_rowok 51) = true := by decide +kernel
set_option maxRecDepth 100000 in
theorem a_ok51 : ∀ r ∈ a_c51, a_rowok 51 r = true := a_all20 2 (Nat.le_of_ble_eq_true rfl) (fun j hj => by
  match j, hj with
  | 0, _ => exact a_ok51_0
  | 1, _ => exact a_ok51_1
  | j + 2, h => exact absurd h (by omega))
theorem a_ok52_0 : ((a_c52.drop (20 * 0)).take 20).all (a_rowok 52) = true := by decide +kernel
theorem a_ok52_1 : ((a_c52.drop (20 * 1)).take 20).all (a_rowok 52) = true := by decide +kernel
set_option maxRecDepth 100000 in
theorem a_ok52 : ∀ r ∈ a_c52, a_rowok 52 r = true := a_all20 2 (Nat.le_of_ble_eq_true rfl) (fun j hj => by
  match j, hj with
  | 0, _ => exact a_ok52_0
  | 1, _ => exact a_ok52_1
  | j + 2, h => exact absurd h (by omega))
theorem a_ok53_0 : ((a_c53.drop (20 * 0)).take 20).all (a_rowok 53) = true := by decide +kernel
set_option maxRecDepth 100000 in
theorem a_ok53 : ∀ r ∈ a_c53, a_rowok 53 r = true := a_all20 1 (Nat.le_of_ble_eq_true rfl) (fun j hj => by
  match j, hj with
  | 0, _ => exact a_ok53_0
  | j + 1, h => exact absurd h (by omega))
theorem a_ok54_0 : ((a_c54.drop (20 * 0)).take 20).all (a_rowok 54) = true := by decide +kernel
theorem a_ok54_1 : ((a_c54.drop (20 * 1)).take 20).all (a_rowok 54) = true := by decide +kernel
set_option maxRecDepth 100000 in
theorem a_ok54 : ∀ r ∈ a_c54, a_rowok 54 r = true := a_all20 2 (Nat.le_of_ble_eq_true rfl) (fun j hj => by
  match j, hj with
  | 0, _ => exact a_ok54_0
  | 1, _ => exact a_ok54_1
  | j + 2, h => exact absurd h (by omega))
theorem a_ok55_0 : ((a_c55.drop (20 * 0)).take 20).all (a_rowok 55) = true := by decide +kernel
theorem a_ok55_1 : ((a_c55.drop (20 * 1)).take 20).all (a_rowok 55) = true := by decide +kernel
set_option maxRecDepth 100000 in
theorem a_ok55 : ∀ r ∈ a_c55, a_rowok 55 r = true := a_all20 2 (Nat.le_of_ble_eq_true rfl) (fun j hj => by
  match j, hj with
  | 0, _ => exact a_ok55_0
  | 1, _ => exact a_ok55_1
  | j + 2, h => exact absurd h (by omega))
theorem a_ok56_0 : ((a_c56.drop (20 * 0)).take 20).all (a_rowok 56) = true := by decide +kernel
theorem a_ok56_1 : ((a_c56.drop (20 * 1)).take 20).all (a_rowok 56) = true := by decide +kernel
theorem a_ok56_2 : ((a_c56.drop (20 * 2)).take 20).all (a_rowok 56) = true := by decide +kernel
set_option maxRecDepth 100000 in
theorem a_ok56 : ∀ r ∈ a_c56, a_rowok 56 r = true := a_all20 3 (Nat.le_of_ble_eq_true rfl) (fun j hj => by
  match j, hj with
  | 0, _ => exact a_ok56_0
  | 1, _ => exact a_ok56_1
  | 2, _ => exact a_ok56_2
  | j + 3, h => exact absurd h (by omega))
theorem a_ok57_0 : ((a_c57.drop (20 * 0)).take 20).all (a_rowok 57) = true := by decide +kernel
theorem a_ok57_1 : ((a_c57.drop (20 * 1)).take 20).all (a_rowok 57) = true := by decide +kernel
theorem a_ok57_2 : ((a_c57.drop (20 * 2)).take 20).all (a_rowok 57) = true := by decide +kernel
set_option maxRecDepth 100000 in
theorem a_ok57 : ∀ r ∈ a_c57, a_rowok 57 r = true := a_all20 3 (Nat.le_of_ble_eq_true rfl) (fun j hj => by
  match j, hj with
  | 0, _ => exact a_ok57_0
  | 1, _ => exact a_ok57_1
  | 2, _ => exact a_ok57_2
  | j + 3, h => exact absurd h (by omega))
theorem a_ok58_0 : ((a_c58.drop (20 * 0)).take 20).all (a_rowok 58) = true := by decide +kernel
set_option maxRecDepth 100000 in
theorem a_ok58 : ∀ r ∈ a_c58, a_rowok 58 r = true := a_all20 1 (Nat.le_of_ble_eq_true rfl) (fun j hj => by
  match j, hj with
  | 0, _ => exact a_ok58_0
  | j + 1, h => exact absurd h (by omega))
theorem a_ok59_0 : ((a_c59.drop (20 * 0)).take 20).all (a_rowok 59) = true := by decide +kernel
set_option maxRecDepth 100000 in
theorem a_ok59 : ∀ r ∈ a_c59, a_rowok 59 r = true := a_all20 1 (Nat.le_of_ble_eq_true rfl) (fun j hj => by
  match j, hj with
  | 0, _ => exact a_ok59_0
  | j + 1, h => exact absurd h (by omega))
theorem a_ok60_0 : ((a_c60.drop (20 * 0)).take 20).all (a_rowok 60) = true := by decide +kernel
set_option maxRecDepth 100000 in
theorem a_ok60 : ∀ r ∈ a_c60, a_rowok 60 r = true := a_all20 1 (Nat.le_of_ble_eq_true rfl) (fun j hj => by
  match j, hj with
  | 0, _ => exact a_ok60_0
  | j + 1, h => exact absurd h (by omega))
theorem a_ok61_0 : ((a_c61.drop (20 * 0)).take 20).all (a_rowok 61) = true := by decide +kernel
theorem a_ok61_1 : ((a_c61.drop (20 * 1)).take 20).all (a_rowok 61) = true := by decide +kernel
theorem a_ok61_2 : ((a_c61.drop (20 * 2)).take 20).all (a_rowok 61) = true := by decide +kernel
theorem a_ok61_3 : ((a_c61.drop (20 * 3)).take 20).all (a_rowok 61) = true := by decide +kernel
set_option maxRecDepth 100000 in
theorem a_ok61 : ∀ r ∈ a_c61, a_rowok 61 r = true := a_all20 4 (Nat.le_of_ble_eq_true rfl) (fun j hj => by
  match j, hj with
  | 0, _ => exact a_ok61_0
  | 1, _ => exact a_ok61_1
  | 2, _ => exact a_ok61_2
  | 3, _ => exact a_ok61_3
  | j + 4, h => exact absurd h (by omega))
theorem a_ok62_0 : ((a_c62.drop (20 * 0)).take 20).all (a_rowok 62) = true := by decide +kernel
theorem a_ok62_1 : ((a_c62.drop (20 * 1)).take 20).all (a_rowok 62) = true := by decide +kernel
set_option maxRecDepth 100000 in
theorem a_ok62 : ∀ r ∈ a_c62, a_rowok 62 r = true := a_all20 2 (Nat.le_of_ble_eq_true rfl) (fun j hj => by
  match j, hj with
  | 0, _ => exact a_ok62_0
  | 1, _ => exact a_ok62_1
  | j + 2, h => exact absurd h (by omega))
theorem a_ok63_0 : ((a_c63.drop (20 * 0)).take 20).all (a_rowok 63) = true := by decide +kernel
theorem a_ok63_1 : ((a_c63.drop (20 * 1)).take 20).all (a_rowok 63) = true := by decide +kernel
theorem a_ok63_2 : ((a_c63.drop (20 * 2)).take 20).all (a_rowok 63) = true := by decide +kernel
set_option maxRecDepth 100000 in
theorem a_ok63 : ∀ r ∈ a_c63, a_rowok 63 r = true := a_all20 3 (Nat.le_of_ble_eq_true rfl) (fun j hj => by
  match j, hj with
  | 0, _ => exact a_ok63_0
  | 1, _ => exact a_ok63_1
  | 2, _ => exact a_ok63_2
  | j + 3, h => exact absurd h (by omega))
theorem a_ok64_0 : ((a_c64.drop (20 * 0)).take 20).all (a_rowok 64) = true := by decide +kernel
theorem a_ok64_1 : ((a_c64.drop (20 * 1)).take 20).all (a_rowok 64) = true := by decide +kernel
theorem a_ok64_2 : ((a_c64.drop (20 * 2)).take 20).all (a_rowok 64) = true := by decide +kernel
set_option maxRecDepth 100000 in
theorem a_ok64 : ∀ r ∈ a_c64, a_rowok 64 r = true := a_all20 3 (Nat.le_of_ble_eq_true rfl) (fun j hj => by
  match j, hj with
  | 0, _ => exact a_ok64_0
  | 1, _ => exact a_ok64_1
  | 2, _ => exact a_ok64_2
  | j + 3, h => exact absurd h (by omega))
theorem a_ok65_0 : ((a_c65.drop (20 * 0)).take 20).all (a_rowok 65) = true := by decide +kernel
theorem a_ok65_1 : ((a_c65.drop (20 * 1)).take 20).all (a_rowok 65) = true := by decide +kernel
set_option maxRecDepth 100000 in
theorem a_ok65 : ∀ r ∈ a_c65, a_rowok 65 r = true := a_all20 2 (Nat.le_of_ble_eq_true rfl) (fun j hj => by
  match j, hj with
  | 0, _ => exact a_ok65_0
  | 1, _ => exact a_ok65_1
  | j + 2, h => exact absurd h (by omega))
theorem a_ok66_0 : ((a_c66.drop (20 * 0)).take 20).all (a_rowok 66) = true := by decide +kernel
theorem a_ok66_1 : ((a_c66.drop (20 * 1)).take 20).all (a_rowok 66) = true := by decide +kernel
set_option maxRecDepth 100000 in
theorem a_ok66 : ∀ r ∈ a_c66, a_rowok 66 r = true := a_all20 2 (Nat.le_of_ble_eq_true rfl) (fun j hj => by
  match j, hj with
  | 0, _ => exact a_ok66_0
  | 1, _ => exact a_ok66_1
  | j + 2, h => exact absurd h (by omega))
theorem a_ok67_0 : ((a_c67.drop (20 * 0)).take 20).all (a_rowok 67) = true := by decide +kernel
set_option maxRecDepth 100000 in
theorem a_ok67 : ∀ r ∈ a_c67, a_rowok 67 r = true := a_all20 1 (Nat.le_of_ble_eq_true rfl) (fun j hj => by
  match j, hj with
  | 0, _ => exact a_ok67_0
  | j + 1, h => exact absurd h (by omega))
theorem a_ok68_0 : ((a_c68.drop (20 * 0)).take 20).all (a_rowok 68) = true := by decide +kernel
set_option maxRecDepth 100000 in
theorem a_ok68 : ∀ r ∈ a_c68, a_rowok 68 r = true := a_all20 1 (Nat.le_of_ble_eq_true rfl) (fun j hj => by
  match j, hj with
  | 0, _ => exact a_ok68_0
  | j + 1, h => exact absurd h (by omega))
theorem a_ok69_0 : ((a_c69.drop (20 * 0)).take 20).all (a_rowok 69) = true := by decide +kernel
theorem a_ok69_1 : ((a_c69.drop (20 * 1)).take 20).all (a_rowok 69) = true := by decide +kernel
set_option maxRecDepth 100000 in
theorem a_ok69 : ∀ r ∈ a_c69, a_rowok 69 r = true := a_all20 2 (Nat.le_of_ble_eq_true rfl) (fun j hj => by
  match j, hj with
  | 0, _ => exact a_ok69_0
  | 1, _ => exact a_ok69_1
  | j + 2, h => exact absurd h (by omega))
theorem a_ok70_0 : ((a_c70.drop (20 * 0)).take 20).all (a_rowok 70) = true := by decide +kernel
theorem a_ok70_1 : ((a_c70.drop (20 * 1)).take 20).all (a_rowok 70) = true := by decide +kernel
set_option maxRecDepth 100000 in
theorem a_ok70 : ∀ r ∈ a_c70, a_rowok 70 r = true := a_all20 2 (Nat.le_of_ble_eq_true rfl) (fun j hj => by
  match j, hj with
  | 0, _ => exact a_ok70_0
  | 1, _ => exact a_ok70_1
  | j + 2, h => exact absurd h (by omega))
theorem a_ok71_0 : ((a_c71.drop (20 * 0)).take 20).all (a_rowok 71) = true := by decide +kernel
theorem a_ok71_1 : ((a_c71.drop (20 * 1)).take 20).all (a_rowok 71) = true := by decide +kernel
theorem a_ok71_2 : ((a_c71.drop (20 * 2)).take 20).all (a_rowok 71) = true := by decide +kernel
theorem a_ok71_3 : ((a_c71.drop (20 * 3)).take 20).all (a_rowok 71) = true := by decide +kernel
set_option maxRecDepth 100000 in
theorem a_ok71 : ∀ r ∈ a_c71, a_rowok 71 r = true := a_all20 4 (Nat.le_of_ble_eq_true rfl) (fun j hj => by
  match j, hj with
  | 0, _ => exact a_ok71_0
  | 1, _ => exact a_ok71_1
  | 2, _ => exact a_ok71_2
  | 3, _ => exact a_ok71_3
  | j + 4, h => exact absurd h (by omega))
theorem a_ok72_0 : ((a_c72.drop (20 * 0)).take 20).all (a_rowok 72) = true := by decide +kernel
theorem a_ok72_1 : ((a_c72.drop (20 * 1)).take 20).all (a_rowok 72) = true := by decide +kernel
theorem a_ok72_2 : ((a_c72.drop (20 * 2)).take 20).all (a_rowok 72) = true := by decide +kernel
set_option maxRecDepth 100000 in
theorem a_ok72 : ∀ r ∈ a_c72, a_rowok 72 r = true := a_all20 3 (Nat.le_of_ble_eq_true rfl) (fun j hj => by
  match j, hj with
  | 0, _ => exact a_ok72_0
  | 1, _ => exact a_ok72_1
  | 2, _ => exact a_ok72_2
  | j + 3, h => exact absurd h (by omega))
theorem a_ok73_0 : ((a_c73.drop (20 * 0)).take 20).all (a_rowok 73) = true := by decide +kernel
set_option maxRecDepth 100000 in
theorem a_ok73 : ∀ r ∈ a_c73, a_rowok 73 r = true := a_all20 1 (Nat.le_of_ble_eq_true rfl) (fun j hj => by
  match j, hj with
  | 0, _ => exact a_ok73_0
  | j + 1, h => exact absurd h (by omega))
theorem a_ok74_0 : ((a_c74.drop (20 * 0)).take 20).all (a_rowok 74) = true := by decide +kernel
theorem a_ok74_1 : ((a_c74.drop (20 * 1)).take 20).all (a_rowok 74) = true := by decide +kernel
set_option maxRecDepth 100000 in
theorem a_ok74 : ∀ r ∈ a_c74, a_rowok 74 r = true := a_all20 2 (Nat.le_of_ble_eq_true rfl) (fun j hj => by
  match j, hj with
  | 0, _ => exact a_ok74_0
  | 1, _ => exact a_ok74_1
  | j + 2, h => exact absurd h (by omega))
theorem a_ok75_0 : ((a_c75.drop (20 * 0)).take 20).all (a_rowok 75) = true := by decide +kernel
set_option maxRecDepth 100000 in
theorem a_ok75 : ∀ r ∈ a_c75, a_rowok 75 r = true := a_all20 1 (Nat.le_of_ble_eq_true rfl) (fun j hj => by
  match j, hj with
  | 0, _ => exact a_ok75_0
  | j + 1, h => exact absurd h (by omega))
theorem a_ok76_0 : ((a_c76.drop (20 * 0)).take 20).all (a_rowok 76) = true := by decide +kernel
set_option maxRecDepth 100000 in
theorem a_ok76 : ∀ r ∈ a_c76, a_rowok 76 r = true := a_all20 1 (Nat.le_of_ble_eq_true rfl) (fun j hj => by
  match j, hj with
  | 0, _ => exact a_ok76_0
  | j + 1, h => exact absurd h (by omega))
theorem a_ok77_0 : ((a_c77.drop (20 * 0)).take 20).all (a_rowok 77) = true := by decide +kernel
theorem a_ok77_1 : ((a_c77.drop (20 * 1)).take 20).all (a_rowok 77) = true := by decide +kernel
theorem a_ok77_2 : ((a_c77.drop (20 * 2)).take 20).all (a_rowok 77) = true := by decide +kernel
theorem a_ok77_3 : ((a_c77.drop (20 * 3)).take 20).all (a_rowok 77) = true := by decide +kernel
set_option maxRecDepth 100000 in
theorem a_ok77 : ∀ r ∈ a_c77, a_rowok 77 r = true := a_all20 4 (Nat.le_of_ble_eq_true rfl) (fun j hj => by
  match j, hj with
  | 0, _ => exact a_ok77_0
  | 1, _ => exact a_ok77_1
  | 2, _ => exact a_ok77_2
  | 3, _ => exact a_ok77_3
  | j + 4, h => exact absurd h (by omega))
theorem a_ok78_0 : ((a_c78.drop (20 * 0)).take 20).all (a_rowok 78) = true := by decide +kernel
set_option maxRecDepth 100000 in
theorem a_ok78 : ∀ r ∈ a_c78, a_rowok 78 r = true := a_all20 1 (Nat.le_of_ble_eq_true rfl) (fun j hj => by
  match j, hj with
  | 0, _ => exact a_ok78_0
  | j + 1, h => exact absurd h (by omega))
theorem a_ok79_0 : ((a_c79.drop (20 * 0)).take 20).all (a_rowok 79) = true := by decide +kernel
theorem a_ok79_1 : ((a_c79.drop (20 * 1)).take 20).all (a_rowok 79) = true := by decide +kernel
theorem a_ok79_2 : ((a_c79.drop (20 * 2)).take 20).all (a_rowok 79) = true := by decide +kernel
set_option maxRecDepth 100000 in
theorem a_ok79 : ∀ r ∈ a_c79, a_rowok 79 r = true := a_all20 3 (Nat.le_of_ble_eq_true rfl) (fun j hj => by
  match j, hj with
  | 0, _ => exact a_ok79_0
  | 1, _ => exact a_ok79_1
  | 2, _ => exact a_ok79_2
  | j + 3, h => exact absurd h (by omega))
theorem a_ok80_0 : ((a_c80.drop (20 * 0)).take 20).all (a_rowok 80) = true := by decide +kernel
theorem a_ok80_1 : ((a_c80.drop (20 * 1)).take 20).all (a_rowok 80) = true := by decide +kernel
theorem a_ok80_2 : ((a_c80.drop (20 * 2)).take 20).all (a_rowok 80) = true := by decide +kernel
theorem a_ok80_3 : ((a_c80.drop (20 * 3)).take 20).all (a_rowok 80) = true := by decide +kernel
set_option maxRecDepth 100000 in
theorem a_ok80 : ∀ r ∈ a_c80, a_rowok 80 r = true := a_all20 4 (Nat.le_of_ble_eq_true rfl) (fun j hj => by
  match j, hj with
  | 0, _ => exact a_ok80_0
  | 1, _ => exact a_ok80_1
  | 2, _ => exact a_ok80_2
  | 3, _ => exact a_ok80_3
  | j + 4, h => exact absurd h (by omega))
theorem a_ok81_0 : ((a_c81.drop (20 * 0)).take 20).all (a_rowok 81) = true := by decide +kernel
theorem a_ok81_1 : ((a_c81.drop (20 * 1)).take 20).all (a_rowok 81) = true := by decide +kernel
theorem a_ok81_2 : ((a_c81.drop (20 * 2)).take 20).all (a_rowok 81) = true := by decide +kernel
set_option maxRecDepth 100000 in
theorem a_ok81 : ∀ r ∈ a_c81, a_rowok 81 r = true := a_all20 3 (Nat.le_of_ble_eq_true rfl) (fun j hj => by
  match j, hj with
  | 0, _ => exact a_ok81_0
  | 1, _ => exact a_ok81_1
  | 2, _ => exact a_ok81_2
  | j + 3, h => exact absurd h (by omega))
theorem a_ok82_0 : ((a_c82.drop (20 * 0)).take 20).all (a_rowok 82) = true := by decide +kernel
theorem a_ok82_1 : ((a_c82.drop (20 * 1)).take 20).all (a_rowok 82) = true := by decide +kernel
theorem a_ok82_2 : ((a_c82.drop (20 * 2)).take 20).all (a_rowok 82) = true := by decide +kernel
theorem a_ok82_3 : ((a_c82.drop (20 * 3)).take 20).all (a_rowok 82) = true := by decide +kernel
theorem a_ok82_4 : ((a_c82.drop (20 * 4)).take 20).all (a_rowok 82) = true := by decide +kernel
set_option maxRecDepth 100000 in
theorem a_ok82 : ∀ r ∈ a_c82, a_rowok 82 r = true := a_all20 5 (Nat.le_of_ble_eq_true rfl) (fun j hj => by
  match j, hj with
  | 0, _ => exact a_ok82_0
  | 1, _ => exact a_ok82_1
  | 2, _ => exact a_ok82_2
  | 3, _ => exact a_ok82_3
  | 4, _ => exact a_ok82_4
  | j + 5, h => exact absurd h (by omega))
theorem a_ok83_0 : ((a_c83.drop (20 * 0)).take 20).all (a_rowok 83) = true := by decide +kernel
set_option maxRecDepth 100000 in
theorem a_ok83 : ∀ r ∈ a_c83, a_rowok 83 r = true := a_all20 1 (Nat.le_of_ble_eq_true rfl) (fun j hj => by
  match j, hj with
  | 0, _ => exact a_ok83_0
  | j + 1, h => exact absurd h (by omega))
theorem a_ok84_0 : ((a_c84.drop (20 * 0)).take 20).all (a_rowok 84) = true := by decide +kernel
theorem a_ok84_1 : ((a_c84.drop (20 * 1)).take 20).all (a_rowok 84) = true := by decide +kernel
set_option maxRecDepth 100000 in
theorem a_ok84 : ∀ r ∈ a_c84, a_rowok 84 r = true := a_all20 2 (Nat.le_of_ble_eq_true rfl) (fun j hj => by
  match j, hj with
  | 0, _ => exact a_ok84_0
  | 1, _ => exact a_ok84_1
  | j + 2, h => exact absurd h (by omega))
theorem a_ok85_0 : ((a_c85.drop (20 * 0)).take 20).all (a_rowok 85) = true := by decide +kernel
set_option maxRecDepth 100000 in
theorem a_ok85 : ∀ r ∈ a_c85, a_rowok 85 r = true := a_all20 1 (Nat.le_of_ble_eq_true rfl) (fun j hj => by
  match j, hj with
  | 0, _ => exact a_ok85_0
  | j + 1, h => exact absurd h (by omega))
theorem a_ok86_0 : ((a_c86.drop (20 * 0)).take 20).all (a_rowok 86) = true := by decide +kernel
theorem a_ok86_1 : ((a_c86.drop (20 * 1)).take 20).all (a_rowok 86) = true := by decide +kernel
set_option maxRecDepth 100000 in
theorem a_ok86 : ∀ r ∈ a_c86, a_rowok 86 r = true := a_all20 2 (Nat.le_of_ble_eq_true rfl) (fun j hj => by
  match j, hj with
  | 0, _ => exact a_ok86_0
  | 1, _ => exact a_ok86_1
  | j + 2, h => exact absurd h (by omega))
theorem a_ok87_0 : ((a_c87.drop (20 * 0)).take 20).all (a_rowok 87) = true := by decide +kernel
set_option maxRecDepth 100000 in
theorem a_ok87 : ∀ r ∈ a_c87, a_rowok 87 r = true := a_all20 1 (Nat.le_of_ble_eq_true rfl) (fun j hj => by
  match j, hj with
  | 0, _ => exact a_ok87_0
  | j + 1, h => exact absurd h (by omega))
theorem a_ok88_0 : ((a_c88.drop (20 * 0)).take 20).all (a_rowok 88) = true := by decide +kernel
set_option maxRecDepth 100000 in
theorem a_ok88 : ∀ r ∈ a_c88, a_rowok 88 r = true := a_all20 1 (Nat.le_of_ble_eq_true rfl) (fun j hj => by
  match j, hj with
  | 0, _ => exact a_ok88_0
  | j + 1, h => exact absurd h (by omega))
theorem a_ok89_0 : ((a_c89.drop (20 * 0)).take 20).all (a_rowok 89) = true := by decide +kernel
set_option maxRecDepth 100000 in
theorem a_ok89 : ∀ r ∈ a_c89, a_rowok 89 r = true := a_all20 1 (Nat.le_of_ble_eq_true rfl) (fun j hj => by
  match j, hj with
  | 0, _ => exact a_ok89_0
  | j + 1, h => exact absurd h (by omega))
theorem a_ok90_0 : ((a_c90.drop (20 * 0)).take 20).all (a_rowok 90) = true := by decide +kernel
theorem a_ok90_1 : ((a_c90.drop (20 * 1)).take 20).all (a_rowok 90) = true := by decide +kernel
set_option maxRecDepth 100000 in
theorem a_ok90 : ∀ r ∈ a_c90, a_rowok 90 r = true := a_all20 2 (Nat.le_of_ble_eq_true rfl) (fun j hj => by
  match j, hj with
  | 0, _ => exact a_ok90_0
  | 1, _ => exact a_ok90_1
  | j + 2, h => exact absurd h (by omega))
theorem a_ok91_0 : ((a_c91.drop (20 * 0)).take 20).all (a_rowok 91) = true := by decide +kernel
theorem a_ok91_1 : ((a_c91.drop (20 * 1)).take 20).all (a_rowok 91) = true := by decide +kernel
set_option maxRecDepth 100000 in
theorem a_ok91 : ∀ r ∈ a_c91, a_rowok 91 r = true := a_all20 2 (Nat.le_of_ble_eq_true rfl) (fun j hj => by
  match j, hj with
  | 0, _ => exact a_ok91_0
  | 1, _ => exact a_ok91_1
  | j + 2, h => exact absurd h (by omega))
theorem a_ok92_0 : ((a_c92.drop (20 * 0)).take 20).all (a_rowok 92) = true := by decide +kernel
theorem a_ok92_1 : ((a_c92.drop (20 * 1)).take 20).all (a_rowok 92) = true := by decide +kernel
theorem a_ok92_2 : ((a_c92.drop (20 * 2)).take 20).all (a_rowok 92) = true := by decide +kernel
set_option maxRecDepth 100000 in
theorem a_ok92 : ∀ r ∈ a_c92, a_rowok 92 r = true := a_all20 3 (Nat.le_of_ble_eq_true rfl) (fun j hj => by
  match j, hj with
  | 0, _ => exact a_ok92_0
  | 1, _ => exact a_ok92_1
  | 2, _ => exact a_ok92_2
  | j + 3, h => exact absurd h (by omega))
theorem a_ok93_0 : ((a_c93.drop (20 * 0)).take 20).all (a_rowok 93) = true := by decide +kernel
theorem a_ok93_1 : ((a_c93.drop (20 * 1)).take 20).all (a_rowok 93) = true := by decide +kernel
set_option maxRecDepth 100000 in
theorem a_ok93 : ∀ r ∈ a_c93, a_rowok 93 r = true := a_all20 2 (Nat.le_of_ble_eq_true rfl) (fun j hj => by
  match j, hj with
  | 0, _ => exact a_ok93_0
  | 1, _ => exact a_ok93_1
  | j + 2, h => exact absurd h (by omega))
theorem a_ok94_0 : ((a_c94.drop (20 * 0)).take 20).all (a_rowok 94) = true := by decide +kernel
theorem a_ok94_1 : ((a_c94.drop (20 * 1)).take 20).all (a_rowok 94) = true := by decide +kernel
theorem a_ok94_2 : ((a_c94.drop (20 * 2)).take 20).all (a_rowok 94) = true := by decide +kernel
theorem a_ok94_3 : ((a_c94.drop (20 * 3)).take 20).all (a_rowok 94) = true := by decide +kernel
set_option maxRecDepth 100000 in
theorem a_ok94 : ∀ r ∈ a_c94, a_rowok 94 r = true := a_all20 4 (Nat.le_of_ble_eq_true rfl) (fun j hj => by
  match j, hj with
  | 0, _ => exact a_ok94_0
  | 1, _ => exact a_ok94_1
  | 2, _ => exact a_ok94_2
  | 3, _ => exact a_ok94_3
  | j + 4, h => exact absurd h (by omega))
theorem a_ok95_0 : ((a_c95.drop (20 * 0)).take 20).all (a_rowok 95) = true := by decide +kernel
theorem a_ok95_1 : ((a_c95.drop (20 * 1)).take 20).all (a_rowok 95) = true := by decide +kernel
theorem a_ok95_2 : ((a_c95.drop (20 * 2)).take 20).all (a_rowok 95) = true := by decide +kernel
set_option maxRecDepth 100000 in
theorem a_ok95 : ∀ r ∈ a_c95, a_rowok 95 r = true := a_all20 3 (Nat.le_of_ble_eq_true rfl) (fun j hj => by
  match j, hj with
  | 0, _ => exact a_ok95_0
  | 1, _ => exact a_ok95_1
  | 2, _ => exact a_ok95_2
  | j + 3, h => exact absurd h (by omega))
theorem a_ok96_0 : ((a_c96.drop (20 * 0)).take 20).all (a_rowok 96) = true := by decide +kernel
set_option maxRecDepth 100000 in
theorem a_ok96 : ∀ r ∈ a_c96, a_rowok 96 r = true := a_all20 1 (Nat.le_of_ble_eq_true rfl) (fun j hj => by
  match j, hj with
  | 0, _ => exact a_ok96_0
  | j + 1, h => exact absurd h (by omega))
theorem a_ok97_0 : ((a_c97.drop (20 * 0)).take 20).all (a_rowok 97) = true := by decide +kernel
set_option maxRecDepth 100000 in
theorem a_ok97 : ∀ r ∈ a_c97, a_rowok 97 r = true := a_all20 1 (Nat.le_of_ble_eq_true rfl) (fun j hj => by
  match j, hj with
  | 0, _ => exact a_ok97_0
  | j + 1, h => exact absurd h (by omega))
theorem a_ok98_0 : ((a_c98.drop (20 * 0)).take 20).all (a_rowok 98) = true := by decide +kernel
set_option maxRecDepth 100000 in
theorem a_ok98 : ∀ r ∈ a_c98, a_rowok 98 r = true := a_all20 1 (Nat.le_of_ble_eq_true rfl) (fun j hj => by
  match j, hj with
  | 0, _ => exact a_ok98_0
  | j + 1, h => exact absurd h (by omega))
theorem a_ok99_0 : ((a_c99.drop (20 * 0)).take 20).all (a_rowok 99) = true := by decide +kernel
theorem a_ok99_1 : ((a_c99.drop (20 * 1)).take 20).all (a_rowok 99) = true := by decide +kernel
set_option maxRecDepth 100000 in
theorem a_ok99 : ∀ r ∈ a_c99, a_rowok 99 r = true := a_all20 2 (Nat.le_of_ble_eq_true rfl) (fun j hj => by
  match j, hj with
  | 0, _ => exact a_ok99_0
  | 1, _ => exact a_ok99_1
  | j + 2, h => exact absurd h (by omega))
theorem a_ok100_0 : ((a_c100.drop (20 * 0)).take 20).all (a_rowok 100) = true := by decide +kernel
set_option maxRecDepth 100000 in
theorem a_ok100 : ∀ r ∈ a_c100, a_rowok 100 r = true := a_all20 1 (Nat.le_of_ble_eq_true rfl) (fun j hj => by
  match j, hj with
  | 0, _ => exact a_ok100_0
  | j + 1, h => exact absurd h (by omega))
theorem a_ok101_0 : ((a_c101.drop (20 * 0)).take 20).all (a_rowok 101) = true := by decide +kernel
set_option maxRecDepth 100000 in
theorem a_ok101 : ∀ r ∈ a_c101, a_rowok 101 r = true := a_all20 1 (Nat.le_of_ble_eq_true rfl) (fun j hj => by
  match j, hj with
  | 0, _ => exact a_ok101_0
  | j + 1, h => exact absurd h (by omega))
theorem a_ok102_0 : ((a_c102.drop (20 * 0)).take 20).all (a_rowok 102) = true := by decide +kernel
set_option maxRecDepth 100000 in
theorem a_ok102 : ∀ r ∈ a_c102, a_rowok 102 r = true := a_all20 1 (Nat.le_of_ble_eq_true rfl) (fun j hj => by
  match j, hj with
  | 0, _ => exact a_ok102_0
  | j + 1, h => exact absurd h (by omega))
theorem a_ok103_0 : ((a_c103.drop (20 * 0)).take 20).all (a_rowok 103) = true := by decide +kernel
theorem a_ok103_1 : ((a_c103.drop (20 * 1)).take 20).all (a_rowok 103) = true := by decide +kernel
theorem a_ok103_2 : ((a_c103.drop (20 * 2)).take 20).all (a_rowok 103) = true := by decide +kernel
theorem a_ok103_3 : ((a_c103.drop (20 * 3)).take 20).all (a_rowok 103) = true := by decide +kernel
set_option maxRecDepth 100000 in
theorem a_ok103 : ∀ r ∈ a_c103, a_rowok 103 r = true := a_all20 4 (Nat.le_of_ble_eq_true rfl) (fun j hj => by
  match j, hj with
  | 0, _ => exact a_ok103_0
  | 1, _ => exact a_ok103_1
  | 2, _ => exact a_ok103_2
  | 3, _ => exact a_ok103_3
  | j + 4, h => exact absurd h (by omega))
theorem a_ok104_0 : ((a_c104.drop (20 * 0)).take 20).all (a_rowok 104) = true := by decide +kernel
theorem a_ok104_1 : ((a_c104.drop (20 * 1)).take 20).all (a_rowok 104) = true := by decide +kernel
set_option maxRecDepth 100000 in
theorem a_ok104 : ∀ r ∈ a_c104, a_rowok 104 r = true := a_all20 2 (Nat.le_of_ble_eq_true rfl) (fun j hj => by
  match j, hj with
  | 0, _ => exact a_ok104_0
  | 1, _ => exact a_ok104_1
  | j + 2, h => exact absurd h (by omega))
theorem a_ok105_0 : ((a_c105.drop (20 * 0)).take 20).all (a_rowok 105) = true := by decide +kernel
set_option maxRecDepth 100000 in
theorem a_ok105 : ∀ r ∈ a_c105, a_rowok 105 r = true := a_all20 1 (Nat.le_of_ble_eq_true rfl) (fun j hj => by
  match j, hj with
  | 0, _ => exact a_ok105_0
  | j + 1, h => exact absurd h (by omega))
theorem a_ok106_0 : ((a_c106.drop (20 * 0)).take 20).all (a_rowok 106) = true := by decide +kernel
set_option maxRecDepth 100000 in
theorem a_ok106 : ∀ r ∈ a_c106, a_rowok 106 r = true := a_all20 1 (Nat.le_of_ble_eq_true rfl) (fun j hj => by
  match j, hj with
  | 0, _ => exact a_ok106_0
  | j + 1, h => exact absurd h (by omega))
theorem a_ok107_0 : ((a_c107.drop (20 * 0)).take 20).all (a_rowok 107) = true := by decide +kernel
theorem a_ok107_1 : ((a_c107.drop (20 * 1)).take 20).all (a_rowok 107) = true := by decide +kernel
set_option maxRecDepth 100000 in
theorem a_ok107 : ∀ r ∈ a_c107, a_rowok 107 r = true := a_all20 2 (Nat.le_of_ble_eq_true rfl) (fun j hj => by
  match j, hj with
  | 0, _ => exact a_ok107_0
  | 1, _ => exact a_ok107_1
  | j + 2, h => exact absurd h (by omega))
theorem a_ok108_0 : ((a_c108.drop (20 * 0)).take 20).all (a_rowok 108) = true := by decide +kernel
theorem a_ok108_1 : ((a_c108.drop (20 * 1)).take 20).all (a_rowok 108) = true := by decide +kernel
set_option maxRecDepth 100000 in
theorem a_ok108 : ∀ r ∈ a_c108, a_rowok 108 r = true := a_all20 2 (Nat.le_of_ble_eq_true rfl) (fun j hj => by
  match j, hj with
  | 0, _ => exact a_ok108_0
  | 1, _ => exact a_ok108_1
  | j + 2, h => exact absurd h (by omega))
theorem a_ok109_0 : ((a_c109.drop (20 * 0)).take 20).all (a_rowok 109) = true := by decide +kernel
theorem a_ok109_1 : ((a_c109.drop (20 * 1)).take 20).all (a_rowok 109) = true := by decide +kernel
theorem a_ok109_2 : ((a_c109.drop (20 * 2)).take 20).all (a_rowok 109) = true := by decide +kernel
set_option maxRecDepth 100000 in
theorem a_ok109 : ∀ r ∈ a_c109, a_rowok 109 r = true := a_all20 3 (Nat.le_of_ble_eq_true rfl) (fun j hj => by
  match j, hj with
  | 0, _ => exact a_ok109_0
  | 1, _ => exact a_ok109_1
  | 2, _ => exact a_ok109_2
  | j + 3, h => exact absurd h (by omega))
theorem a_ok110_0 : ((a_c110.drop (20 * 0)).take 20).all (a_rowok 110) = true := by decide +kernel
theorem a_ok110_1 : ((a_c110.drop (20 * 1)).take 20).all (a_rowok 110) = true := by decide +kernel
theorem a_ok110_2 : ((a_c110.drop (20 * 2)).take 20).all (a_rowok 110) = true := by decide +kernel
theorem a_ok110_3 : ((a_c110.drop (20 * 3)).take 20).all (a_rowok 110) = true := by decide +kernel
set_option maxRecDepth 100000 in
theorem a_ok110 : ∀ r ∈ a_c110, a_rowok 110 r = true := a_all20 4 (Nat.le_of_ble_eq_true rfl) (fun j hj => by
  match j, hj with
  | 0, _ => exact a_ok110_0
  | 1, _ => exact a_ok110_1
  | 2, _ => exact a_ok110_2
  | 3, _ => exact a_ok110_3
  | j + 4, h => exact absurd h (by omega))
theorem a_ok111_0 : ((a_c111.drop (20 * 0)).take 20).all (a_rowok 111) = true := by decide +kernel
theorem a_ok111_1 : ((a_c111.drop (20 * 1)).take 20).all (a_rowok 111) = true := by decide +kernel
set_option maxRecDepth 100000 in
theorem a_ok111 : ∀ r ∈ a_c111, a_rowok 111 r = true := a_all20 2 (Nat.le_of_ble_eq_true rfl) (fun j hj => by
  match j, hj with
  | 0, _ => exact a_ok111_0
  | 1, _ => exact a_ok111_1
  | j + 2, h => exact absurd h (by omega))
theorem a_ok112_0 : ((a_c112.drop (20 * 0)).take 20).all (a_rowok 112) = true := by decide +kernel
set_option maxRecDepth 100000 in
theorem a_ok112 : ∀ r ∈ a_c112, a_rowok 112 r = true := a_all20 1 (Nat.le_of_ble_eq_true rfl) (fun j hj => by
  match j, hj with
  | 0, _ => exact a_ok112_0
  | j + 1, h => exact absurd h (by omega))
theorem a_ok113_0 : ((a_c113.drop (20 * 0)).take 20).all (a_rowok 113) = true := by decide +kernel
set_option maxRecDepth 100000 in
theorem a_ok113 : ∀ r ∈ a_c113, a_rowok 113 r = true := a_all20 1 (Nat.le_of_ble_eq_true rfl) (fun j hj => by
  match j, hj with
  | 0, _ => exact a_ok113_0
  | j + 1, h => exact absurd h (by omega))
theorem a_ok114_0 : ((a_c114.drop (20 * 0)).take 20).all (a_rowok 114) = true := by decide +kernel
set_option maxRecDepth 100000 in
theorem a_ok114 : ∀ r ∈ a_c114, a_rowok 114 r = true := a_all20 1 (Nat.le_of_ble_eq_true rfl) (fun j hj => by
  match j, hj with
  | 0, _ => exact a_ok114_0
  | j + 1, h => exact absurd h (by omega))
theorem a_ok115_0 : ((a_c115.drop (20 * 0)).take 20).all (a_rowok 115) = true := by decide +kernel
theorem a_ok115_1 : ((a_c115.drop (20 * 1)).take 20).all (a_rowok 115) = true := by decide +kernel
set_option maxRecDepth 100000 in
theorem a_ok115 : ∀ r ∈ a_c115, a_rowok 115 r = true := a_all20 2 (Nat.le_of_ble_eq_true rfl) (fun j hj => by
  match j, hj with
  | 0, _ => exact a_ok115_0
  | 1, _ => exact a_ok115_1
  | j + 2, h => exact absurd h (by omega))
theorem a_ok116_0 : ((a_c116.drop (20 * 0)).take 20).all (a_rowok 116) = true := by decide +kernel
theorem a_ok116_1 : ((a_c116.drop (20 * 1)).take 20).all (a_rowok 116) = true := by decide +kernel
set_option maxRecDepth 100000 in
theorem a_ok116 : ∀ r ∈ a_c116, a_rowok 116 r = true := a_all20 2 (Nat.le_of_ble_eq_true rfl) (fun j hj => by
  match j, hj with
  | 0, _ => exact a_ok116_0
  | 1, _ => exact a_ok116_1
  | j + 2, h => exact absurd h (by omega))
theorem a_ok117_0 : ((a_c117.drop (20 * 0)).take 20).all (a_rowok 117) = true := by decide +kernel
theorem a_ok117_1 : ((a_c117.drop (20 * 1)).take 20).all (a_rowok 117) = true := by decide +kernel
set_option maxRecDepth 100000 in
theorem a_ok117 : ∀ r ∈ a_c117, a_rowok 117 r = true := a_all20 2 (Nat.le_of_ble_eq_true rfl) (fun j hj => by
  match j, hj with
  | 0, _ => exact a_ok117_0
  | 1, _ => exact a_ok117_1
  | j + 2, h => exact absurd h (by omega))
theorem a_ok118_0 : ((a_c118.drop (20 * 0)).take 20).all (a_rowok 118) = true := by decide +kernel
theorem a_ok118_1 : ((a_c118.drop (20 * 1)).take 20).all (a_rowok 118) = true := by decide +kernel
set_option maxRecDepth 100000 in
theorem a_ok118 : ∀ r ∈ a_c118, a_rowok 118 r = true := a_all20 2 (Nat.le_of_ble_eq_true rfl) (fun j hj => by
  match j, hj with
  | 0, _ => exact a_ok118_0
  | 1, _ => exact a_ok118_1
  | j + 2, h => exact absurd h (by omega))
theorem a_ok119_0 : ((a_c119.drop (20 * 0)).take 20).all (a_rowok 119) = true := by decide +kernel
set_option maxRecDepth 100000 in
theorem a_ok119 : ∀ r ∈ a_c119, a_rowok 119 r = true := a_all20 1 (Nat.le_of_ble_eq_true rfl) (fun j hj => by
  match j, hj with
  | 0, _ => exact a_ok119_0
  | j + 1, h => exact absurd h (by omega))
theorem a_ok120_0 : ((a_c120.drop (20 * 0)).take 20).all (a_rowok 120) = true := by decide +kernel
set_option maxRecDepth 100000 in
theorem a_ok120 : ∀ r ∈ a_c120, a_rowok 120 r = true := a_all20 1 (Nat.le_of_ble_eq_true rfl) (fun j hj => by
  match j, hj with
  | 0, _ => exact a_ok120_0
  | j + 1, h => exact absurd h (by omega))
theorem a_ok121_0 : ((a_c121.drop (20 * 0)).take 20).all (a_rowok 121) = true := by decide +kernel
theorem a_ok121_1 : ((a_c121.drop (20 * 1)).take 20).all (a_rowok 121) = true := by decide +kernel
set_option maxRecDepth 100000 in
theorem a_ok121 : ∀ r ∈ a_c121, a_rowok 121 r = true := a_all20 2 (Nat.le_of_ble_eq_true rfl) (fun j hj => by
  match j, hj with
  | 0, _ => exact a_ok121_0
  | 1, _ => exact a_ok121_1
  | j + 2, h => exact absurd h (by omega))
theorem a_ok122_0 : ((a_c122.drop (20 * 0)).take 20).all (a_rowok 122) = true := by decide +kernel
set_option maxRecDepth 100000 in
theorem a_ok122 : ∀ r ∈ a_c122, a_rowok 122 r = true := a_all20 1 (Nat.le_of_ble_eq_true rfl) (fun j hj => by
  match j, hj with
  | 0, _ => exact a_ok122_0
  | j + 1, h => exact absurd h (by omega))
theorem a_ok123_0 : ((a_c123.drop (20 * 0)).take 20).all (a_rowok 123) = true := by decide +kernel
theorem a_ok123_1 : ((a_c123.drop (20 * 1)).take 20).all (a_rowok 123) = true := by decide +kernel
theorem a_ok123_2 : ((a_c123.drop (20 * 2)).take 20).all (a_rowok 123) = true := by decide +kernel
set_option maxRecDepth 100000 in
theorem a_ok123 : ∀ r ∈ a_c123, a_rowok 123 r = true := a_all20 3 (Nat.le_of_ble_eq_true rfl) (fun j hj => by
  match j, hj with
  | 0, _ => exact a_ok123_0
  | 1, _ => exact a_ok123_1
  | 2, _ => exact a_ok123_2
  | j + 3, h => exact absurd h (by omega))
theorem a_ok124_0 : ((a_c124.drop (20 * 0)).take 20).all (a_rowok 124) = true := by decide +kernel
set_option maxRecDepth 100000 in
theorem a_ok124 : ∀ r ∈ a_c124, a_rowok 124 r = true := a_all20 1 (Nat.le_of_ble_eq_true rfl) (fun j hj => by
  match j, hj with
  | 0, _ => exact a_ok124_0
  | j + 1, h => exact absurd h (by omega))
theorem a_ok125_0 : ((a_c125.drop (20 * 0)).take 20).all (a_rowok 125) = true := by decide +kernel
theorem a_ok125_1 : ((a_c125.drop (20 * 1)).take 20).all (a_rowok 125) = true := by decide +kernel
set_option maxRecDepth 100000 in
theorem a_ok125 : ∀ r ∈ a_c125, a_rowok 125 r = true := a_all20 2 (Nat.le_of_ble_eq_true rfl) (fun j hj => by
  match j, hj with
  | 0, _ => exact a_ok125_0
  | 1, _ => exact a_ok125_1
  | j + 2, h => exact absurd h (by omega))
theorem a_ok126_0 : ((a_c126.drop (20 * 0)).take 20).all (a_rowok 126) = true := by decide +kernel
set_option maxRecDepth 100000 in
theorem a_ok126 : ∀ r ∈ a_c126, a_rowok 126 r = true := a_all20 1 (Nat.le_of_ble_eq_true rfl) (fun j hj => by
  match j, hj with
  | 0, _ => exact a_ok126_0
  | j + 1, h => exact absurd h (by omega))
theorem a_ok127_0 : ((a_c127.drop (20 * 0)).take 20).all (a_rowok 127) = true := by decide +kernel
theorem a_ok127_1 : ((a_c127.drop (20 * 1)).take 20).all (a_rowok 127) = true := by decide +kernel
theorem a_ok127_2 : ((a_c127.drop (20 * 2)).take 20).all (a_rowok 127) = true := by decide +kernel
set_option maxRecDepth 100000 in
theorem a_ok127 : ∀ r ∈ a_c127, a_rowok 127 r = true := a_all20 3 (Nat.le_of_ble_eq_true rfl) (fun j hj => by
  match j, hj with
  | 0, _ => exact a_ok127_0
  | 1, _ => exact a_ok127_1
  | 2, _ => exact a_ok127_2
  | j + 3, h => exact absurd h (by omega))
theorem a_ok128_0 : ((a_c128.drop (20 * 0)).take 20).all (a_rowok 128) = true := by decide +kernel
theorem a_ok128_1 : ((a_c128.drop (20 * 1)).take 20).all (a_rowok 128) = true := by decide +kernel
set_option maxRecDepth 100000 in
theorem a_ok128 : ∀ r ∈ a_c128, a_rowok 128 r = true := a_all20 2 (Nat.le_of_ble_eq_true rfl) (fun j hj => by
  match j, hj with
  | 0, _ => exact a_ok128_0
  | 1, _ => exact a_ok128_1
  | j + 2, h => exact absurd h (by omega))
theorem a_ok129_0 : ((a_c129.drop (20 * 0)).take 20).all (a_rowok 129) = true := by decide +kernel
theorem a_ok129_1 : ((a_c129.drop (20 * 1)).take 20).all (a_rowok 129) = true := by decide +kernel
theorem a_ok129_2 : ((a_c129.drop (20 * 2)).take 20).all (a_rowok 129) = true := by decide +kernel
theorem a_ok129_3 : ((a_c129.drop (20 * 3)).take 20).all (a_rowok 129) = true := by decide +kernel
theorem a_ok129_4 : ((a_c129.drop (20 * 4)).take 20).all (a_rowok 129) = true := by decide +kernel
theorem a_ok129_5 : ((a_c129.drop (20 * 5)).take 20).all (a_rowok 129) = true := by decide +kernel
theorem a_ok129_6 : ((a_c129.drop (20 * 6)).take 20).all (a_rowok 129) = true := by decide +kernel
set_option maxRecDepth 100000 in
theorem a_ok129 : ∀ r ∈ a_c129, a_rowok 129 r = true := a_all20 7 (Nat.le_of_ble_eq_true rfl) (fun j hj => by
  match j, hj with
  | 0, _ => exact a_ok129_0
  | 1, _ => exact a_ok129_1
  | 2, _ => exact a_ok129_2
  | 3, _ => exact a_ok129_3
  | 4, _ => exact a_ok129_4
  | 5, _ => exact a_ok129_5
  | 6, _ => exact a_ok129_6
  | j + 7, h => exact absurd h (by omega))
theorem a_ok130_0 : ((a_c130.drop (20 * 0)).take 20).all (a_rowok 130) = true := by decide +kernel
theorem a_ok130_1 : ((a_c130.drop (20 * 1)).take 20).all (a_rowok 130) = true := by decide +kernel
theorem a_ok130_2 : ((a_c130.drop (20 * 2)).take 20).all (a_rowok 130) = true := by decide +kernel
set_option maxRecDepth 100000 in
theorem a_ok130 : ∀ r ∈ a_c130, a_rowok 130 r = true := a_all20 3 (Nat.le_of_ble_eq_true rfl) (fun j hj => by
  match j, hj with
  | 0, _ => exact a_ok130_0
  | 1, _ => exact a_ok130_1
  | 2, _ => exact a_ok130_2
  | j + 3, h => exact absurd h (by omega))
theorem a_ok131_0 : ((a_c131.drop (20 * 0)).take 20).all (a_rowok 131) = true := by decide +kernel
set_option maxRecDepth 100000 in
theorem a_ok131 : ∀ r ∈ a_c131, a_rowok 131 r = true := a_all20 1 (Nat.le_of_ble_eq_true rfl) (fun j hj => by
  match j, hj with
  | 0, _ => exact a_ok131_0
  | j + 1, h => exact absurd h (by omega))
theorem a_ok132_0 : ((a_c132.drop (20 * 0)).take 20).all (a_rowok 132) = true := by decide +kernel
theorem a_ok132_1 : ((a_c132.drop (20 * 1)).take 20).all (a_rowok 132) = true := by decide +kernel
theorem a_ok132_2 : ((a_c132.drop (20 * 2)).take 20).all (a_rowok 132) = true := by decide +kernel
set_option maxRecDepth 100000 in
theorem a_ok132 : ∀ r ∈ a_c132, a_rowok 132 r = true := a_all20 3 (Nat.le_of_ble_eq_true rfl) (fun j hj => by
  match j, hj with
  | 0, _ => exact a_ok132_0
  | 1, _ => exact a_ok132_1
  | 2, _ => exact a_ok132_2
  | j + 3, h => exact absurd h (by omega))
theorem a_ok133_0 : ((a_c133.drop (20 * 0)).take 20).all (a_rowok 133) = true := by decide +kernel
set_option maxRecDepth 100000 in
theorem a_ok133 : ∀ r ∈ a_c133, a_rowok 133 r = true := a_all20 1 (Nat.le_of_ble_eq_true rfl) (fun j hj => by
  match j, hj with
  | 0, _ => exact a_ok133_0
  | j + 1, h => exact absurd h (by omega))
theorem a_ok134_0 : ((a_c134.drop (20 * 0)).take 20).all (a_rowok 134) = true := by decide +kernel
set_option maxRecDepth 100000 in
theorem a_ok134 : ∀ r ∈ a_c134, a_rowok 134 r = true := a_all20 1 (Nat.le_of_ble_eq_true rfl) (fun j hj => by
  match j, hj with
  | 0, _ => exact a_ok134_0
  | j + 1, h => exact absurd h (by omega))
theorem a_ok135_0 : ((a_c135.drop (20 * 0)).take 20).all (a_rowok 135) = true := by decide +kernel
theorem a_ok135_1 : ((a_c135.drop (20 * 1)).take 20).all (a_rowok 135) = true := by decide +kernel
set_option maxRecDepth 100000 in
theorem a_ok135 : ∀ r ∈ a_c135, a_rowok 135 r = true := a_all20 2 (Nat.le_of_ble_eq_true rfl) (fun j hj => by
  match j, hj with
  | 0, _ => exact a_ok135_0
  | 1, _ => exact a_ok135_1
  | j + 2, h => exact absurd h (by omega))
theorem a_ok136_0 : ((a_c136.drop (20 * 0)).take 20).all (a_rowok 136) = true := by decide +kernel
theorem a_ok136_1 : ((a_c136.drop (20 * 1)).take 20).all (a_rowok 136) = true := by decide +kernel
theorem a_ok136_2 : ((a_c136.drop (20 * 2)).take 20).all (a_rowok 136) = true := by decide +kernel
set_option maxRecDepth 100000 in
theorem a_ok136 : ∀ r ∈ a_c136, a_rowok 136 r = true := a_all20 3 (Nat.le_of_ble_eq_true rfl) (fun j hj => by
  match j, hj with
  | 0, _ => exact a_ok136_0
  | 1, _ => exact a_ok136_1
  | 2, _ => exact a_ok136_2
  | j + 3, h => exact absurd h (by omega))
theorem a_ok137_0 : ((a_c137.drop (20 * 0)).take 20).all (a_rowok 137) = true := by decide +kernel
theorem a_ok137_1 : ((a_c137.drop (20 * 1)).take 20).all (a_rowok 137) = true := by decide +kernel
theorem a_ok137_2 : ((a_c137.drop (20 * 2)).take 20).all (a_rowok 137) = true := by decide +kernel
set_option maxRecDepth 100000 in
theorem a_ok137 : ∀ r ∈ a_c137, a_rowok 137 r = true := a_all20 3 (Nat.le_of_ble_eq_true rfl) (fun j hj => by
  match j, hj with
  | 0, _ => exact a_ok137_0
  | 1, _ => exact a_ok137_1
  | 2, _ => exact a_ok137_2
  | j + 3, h => exact absurd h (by omega))
theorem a_ok138_0 : ((a_c138.drop (20 * 0)).take 20).all (a_rowok 138) = true := by decide +kernel
set_option maxRecDepth 100000 in
theorem a_ok138 : ∀ r ∈ a_c138, a_rowok 138 r = true := a_all20 1 (Nat.le_of_ble_eq_true rfl) (fun j hj => by
  match j, hj with
  | 0, _ => exact a_ok138_0
  | j + 1, h => exact absurd h (by omega))
theorem a_ok139_0 : ((a_c139.drop (20 * 0)).take 20).all (a_rowok 139) = true := by decide +kernel
theorem a_ok139_1 : ((a_c139.drop (20 * 1)).take 20).all (a_rowok 139) = true := by decide +kernel
set_option maxRecDepth 100000 in
theorem a_ok139 : ∀ r ∈ a_c139, a_rowok 139 r = true := a_all20 2 (Nat.le_of_ble_eq_true rfl) (fun j hj => by
  match j, hj with
  | 0, _ => exact a_ok139_0
  | 1, _ => exact a_ok139_1
  | j + 2, h => exact absurd h (by omega))
theorem a_ok140_0 : ((a_c140.drop (20 * 0)).take 20).all (a_rowok 140) = true := by decide +kernel
theorem a_ok140_1 : ((a_c140.drop (20 * 1)).take 20).all (a_rowok 140) = true := by decide +kernel
theorem a_ok140_2 : ((a_c140.drop (20 * 2)).take 20).all (a_rowok 140) = true := by decide +kernel
set_option maxRecDepth 100000 in
theorem a_ok140 : ∀ r ∈ a_c140, a_rowok 140 r = true := a_all20 3 (Nat.le_of_ble_eq_true rfl) (fun j hj => by
  match j, hj with
  | 0, _ => exact a_ok140_0
  | 1, _ => exact a_ok140_1
  | 2, _ => exact a_ok140_2
  | j + 3, h => exact absurd h (by omega))
theorem a_ok141_0 : ((a_c141.drop (20 * 0)).take 20).all (a_rowok 141) = true := by decide +kernel
set_option maxRecDepth 100000 in
theorem a_ok141 : ∀ r ∈ a_c141, a_rowok 141 r = true := a_all20 1 (Nat.le_of_ble_eq_true rfl) (fun j hj => by
  match j, hj with
  | 0, _ => exact a_ok141_0
  | j + 1, h => exact absurd h (by omega))
theorem a_ok142_0 : ((a_c142.drop (20 * 0)).take 20).all (a_rowok 142) = true := by decide +kernel
set_option maxRecDepth 100000 in
theorem a_ok142 : ∀ r ∈ a_c142, a_rowok 142 r = true := a_all20 1 (Nat.le_of_ble_eq_true rfl) (fun j hj => by
  match j, hj with
  | 0, _ => exact a_ok142_0
  | j + 1, h => exact absurd h (by omega))
theorem a_ok143_0 : ((a_c143.drop (20 * 0)).take 20).all (a_rowok 143) = true := by decide +kernel
theorem a_ok143_1 : ((a_c143.drop (20 * 1)).take 20).all (a_rowok 143) = true := by decide +kernel
theorem a_ok143_2 : ((a_c143.drop (20 * 2)).take 20).all (a_rowok 143) = true := by decide +kernel
theorem a_ok143_3 : ((a_c143.drop (20 * 3)).take 20).all (a_rowok 143) = true := by decide +kernel
set_option maxRecDepth 100000 in
theorem a_ok143 : ∀ r ∈ a_c143, a_rowok 143 r = true := a_all20 4 (Nat.le_of_ble_eq_true rfl) (fun j hj => by
  match j, hj with
  | 0, _ => exact a_ok143_0
  | 1, _ => exact a_ok143_1
  | 2, _ => exact a_ok143_2
  | 3, _ => exact a_ok143_3
  | j + 4, h => exact absurd h (by omega))
theorem a_ok144_0 : ((a_c144.drop (20 * 0)).take 20).all (a_rowok 144) = true := by decide +kernel
theorem a_ok144_1 : ((a_c144.drop (20 * 1)).take 20).all (a_rowok 144) = true := by decide +kernel
theorem a_ok144_2 : ((a_c144.drop (20 * 2)).take 20).all (a_rowok 144) = true := by decide +kernel
theorem a_ok144_3 : ((a_c144.drop (20 * 3)).take 20).all (a_rowok 144) = true := by decide +kernel
set_option maxRecDepth 100000 in
theorem a_ok144 : ∀ r ∈ a_c144, a_rowok 144 r = true := a_all20 4 (Nat.le_of_ble_eq_true rfl) (fun j hj => by
  match j, hj with
  | 0, _ => exact a_ok144_0
  | 1, _ => exact a_ok144_1
  | 2, _ => exact a_ok144_2
  | 3, _ => exact a_ok144_3
  | j + 4, h => exact absurd h (by omega))
theorem a_ok145_0 : ((a_c145.drop (20 * 0)).take 20).all (a_rowok 145) = true := by decide +kernel
set_option maxRecDepth 100000 in
theorem a_ok145 : ∀ r ∈ a_c145, a_rowok 145 r = true := a_all20 1 (Nat.le_of_ble_eq_true rfl) (fun j hj => by
  match j, hj with
  | 0, _ => exact a_ok145_0
  | j + 1, h => exact absurd h (by omega))
theorem a_ok146_0 : ((a_c146.drop (20 * 0)).take 20).all (a_rowok 146) = true := by decide +kernel
theorem a_ok146_1 : ((a_c146.drop (20 * 1)).take 20).all (a_rowok 146) = true := by decide +kernel
set_option maxRecDepth 100000 in
theorem a_ok146 : ∀ r ∈ a_c146, a_rowok 146 r = true := a_all20 2 (Nat.le_of_ble_eq_true rfl) (fun j hj => by
  match j, hj with
  | 0, _ => exact a_ok146_0
  | 1, _ => exact a_ok146_1
  | j + 2, h => exact absurd h (by omega))
theorem a_ok147_0 : ((a_c147.drop (20 * 0)).take 20).all (a_rowok 147) = true := by decide +kernel
set_option maxRecDepth 100000 in
theorem a_ok147 : ∀ r ∈ a_c147, a_rowok 147 r = true := a_all20 1 (Nat.le_of_ble_eq_true rfl) (fun j hj => by
  match j, hj with
  | 0, _ => exact a_ok147_0
  | j + 1, h => exact absurd h (by omega))
theorem a_ok148_0 : ((a_c148.drop (20 * 0)).take 20).all (a_rowok 148) = true := by decide +kernel
set_option maxRecDepth 100000 in
theorem a_ok148 : ∀ r ∈ a_c148, a_rowok 148 r = true := a_all20 1 (Nat.le_of_ble_eq_true rfl) (fun j hj => by
  match j, hj with
  | 0, _ => exact a_ok148_0
  | j + 1, h => exact absurd h (by omega))
theorem a_ok149_0 : ((a_c149.drop (20 * 0)).take 20).all (a_rowok 149) = true := by decide +kernel
set_option maxRecDepth 100000 in
theorem a_ok149 : ∀ r ∈ a_c149, a_rowok 149 r = true := a_all20 1 (Nat.le_of_ble_eq_true rfl) (fun j hj => by
  match j, hj with
  | 0, _ => exact a_ok149_0
  | j + 1, h => exact absurd h (by omega))
theorem a_ok150_0 : ((a_c150.drop (20 * 0)).take 20).all (a_rowok 150) = true := by decide +kernel
set_option maxRecDepth 100000 in
theorem a_ok150 : ∀ r ∈ a_c150, a_rowok 150 r = true := a_all20 1 (Nat.le_of_ble_eq_true rfl) (fun j hj => by
  match j, hj with
  | 0, _ => exact a_ok150_0
  | j + 1, h => exact absurd h (by omega))
theorem a_ok151_0 : ((a_c151.drop (20 * 0)).take 20).all (a_rowok 151) = true := by decide +kernel
theorem a_ok151_1 : ((a_c151.drop (20 * 1)).take 20).all (a_rowok 151) = true := by decide +kernel
theorem a_ok151_2 : ((a_c151.drop (20 * 2)).take 20).all (a_rowok 151) = true := by decide +kernel
set_option maxRecDepth 100000 in
theorem a_ok151 : ∀ r ∈ a_c151, a_rowok 151 r = true := a_all20 3 (Nat.le_of_ble_eq_true rfl) (fun j hj => by
  match j, hj with
  | 0, _ => exact a_ok151_0
  | 1, _ => exact a_ok151_1
  | 2, _ => exact a_ok151_2
  | j + 3, h => exact absurd h (by omega))
theorem a_ok152_0 : ((a_c152.drop (20 * 0)).take 20).all (a_rowok 152) = true := by decide +kernel
set_option maxRecDepth 100000 in
theorem a_ok152 : ∀ r ∈ a_c152, a_rowok 152 r = true := a_all20 1 (Nat.le_of_ble_eq_true rfl) (fun j hj => by
  match j, hj with
  | 0, _ => exact a_ok152_0
  | j + 1, h => exact absurd h (by omega))
theorem a_ok153_0 : ((a_c153.drop (20 * 0)).take 20).all (a_rowok 153) = true := by decide +kernel
theorem a_ok153_1 : ((a_c153.drop (20 * 1)).take 20).all (a_rowok 153) = true := by decide +kernel
set_option maxRecDepth 100000 in
theorem a_ok153 : ∀ r ∈ a_c153, a_rowok 153 r = true := a_all20 2 (Nat.le_of_ble_eq_true rfl) (fun j hj => by
  match j, hj with
  | 0, _ => exact a_ok153_0
  | 1, _ => exact a_ok153_1
  | j + 2, h => exact absurd h (by omega))
theorem a_ok154_0 : ((a_c154.drop (20 * 0)).take 20).all (a_rowok 154) = true := by decide +kernel
set_option maxRecDepth 100000 in
theorem a_ok154 : ∀ r ∈ a_c154, a_rowok 154 r = true := a_all20 1 (Nat.le_of_ble_eq_true rfl) (fun j hj => by
  match j, hj with
  | 0, _ => exact a_ok154_0
  | j + 1, h => exact absurd h (by omega))
theorem a_ok155_0 : ((a_c155.drop (20 * 0)).take 20).all (a_rowok 155) = true := by decide +kernel
set_option maxRecDepth 100000 in
theorem a_ok155 : ∀ r ∈ a_c155, a_rowok 155 r = true := a_all20 1 (Nat.le_of_ble_eq_true rfl) (fun j hj => by
  match j, hj with
  | 0, _ => exact a_ok155_0
  | j + 1, h => exact absurd h (by omega))
theorem a_ok156_0 : ((a_c156.drop (20 * 0)).take 20).all (a_rowok 156) = true := by decide +kernel
theorem a_ok156_1 : ((a_c156.drop (20 * 1)).take 20).all (a_rowok 156) = true := by decide +kernel
theorem a_ok156_2 : ((a_c156.drop (20 * 2)).take 20).all (a_rowok 156) = true := by decide +kernel
set_option maxRecDepth 100000 in
theorem a_ok156 : ∀ r ∈ a_c156, a_rowok 156 r = true := a_all20 3 (Nat.le_of_ble_eq_true rfl) (fun j hj => by
  match j, hj with
  | 0, _ => exact a_ok156_0
  | 1, _ => exact a_ok156_1
  | 2, _ => exact a_ok156_2
  | j + 3, h => exact absurd h (by omega))
theorem a_ok157_0 : ((a_c157.drop (20 * 0)).take 20).all (a_rowok 157) = true := by decide +kernel
set_option maxRecDepth 100000 in
theorem a_ok157 : ∀ r ∈ a_c157, a_rowok 157 r = true := a_all20 1 (Nat.le_of_ble_eq_true rfl) (fun j hj => by
  match j, hj with
  | 0, _ => exact a_ok157_0
  | j + 1, h => exact absurd h (by omega))
theorem a_ok158_0 : ((a_c158.drop (20 * 0)).take 20).all (a_rowok 158) = true := by decide +kernel
theorem a_ok158_1 : ((a_c158.drop (20 * 1)).take 20).all (a_rowok 158) = true := by decide +kernel
set_option maxRecDepth 100000 in
theorem a_ok158 : ∀ r ∈ a_c158, a_rowok 158 r = true := a_all20 2 (Nat.le_of_ble_eq_true rfl) (fun j hj => by
  match j, hj with
  | 0, _ => exact a_ok158_0
  | 1, _ => exact a_ok158_1
  | j + 2, h => exact absurd h (by omega))
theorem a_ok159_0 : ((a_c159.drop (20 * 0)).take 20).all (a_rowok 159) = true := by decide +kernel
set_option maxRecDepth 100000 in
theorem a_ok159 : ∀ r ∈ a_c159, a_rowok 159 r = true := a_all20 1 (Nat.le_of_ble_eq_true rfl) (fun j hj => by
  match j, hj with
  | 0, _ => exact a_ok159_0
  | j + 1, h => exact absurd h (by omega))
theorem a_ok160_0 : ((a_c160.drop (20 * 0)).take 20).all (a_rowok 160) = true := by decide +kernel
theorem a_ok160_1 : ((a_c160.drop (20 * 1)).take 20).all (a_rowok 160) = true := by decide +kernel
set_option maxRecDepth 100000 in
theorem a_ok160 : ∀ r ∈ a_c160, a_rowok 160 r = true := a_all20 2 (Nat.le_of_ble_eq_true rfl) (fun j hj => by
  match j, hj with
  | 0, _ => exact a_ok160_0
  | 1, _ => exact a_ok160_1
  | j + 2, h => exact absurd h (by omega))
theorem a_ok161_0 : ((a_c161.drop (20 * 0)).take 20).all (a_rowok 161) = true := by decide +kernel
set_option maxRecDepth 100000 in
theorem a_ok161 : ∀ r ∈ a_c161, a_rowok 161 r = true := a_all20 1 (Nat.le_of_ble_eq_true rfl) (fun j hj => by
  match j, hj with
  | 0, _ => exact a_ok161_0
  | j + 1, h => exact absurd h (by omega))
theorem a_ok162_0 : ((a_c162.drop (20 * 0)).take 20).all (a_rowok 162) = true := by decide +kernel
theorem a_ok162_1 : ((a_c162.drop (20 * 1)).take 20).all (a_rowok 162) = true := by decide +kernel
theorem a_ok162_2 : ((a_c162.drop (20 * 2)).take 20).all (a_rowok 162) = true := by decide +kernel
set_option maxRecDepth 100000 in
theorem a_ok162 : ∀ r ∈ a_c162, a_rowok 162 r = true := a_all20 3 (Nat.le_of_ble_eq_true rfl) (fun j hj => by
  match j, hj with
  | 0, _ => exact a_ok162_0
  | 1, _ => exact a_ok162_1
  | 2, _ => exact a_ok162_2
  | j + 3, h => exact absurd h (by omega))
theorem a_ok163_0 : ((a_c163.drop (20 * 0)).take 20).all (a_rowok 163) = true := by decide +kernel
set_option maxRecDepth 100000 in
theorem a_ok163 : ∀ r ∈ a_c163, a_rowok 163 r = true := a_all20 1 (Nat.le_of_ble_eq_true rfl) (fun j hj => by
  match j, hj with
  | 0, _ => exact a_ok163_0
  | j + 1, h => exact absurd h (by omega))
theorem a_ok164_0 : ((a_c164.drop (20 * 0)).take 20).all (a_rowok 164) = true := by decide +kernel
theorem a_ok164_1 : ((a_c164.drop (20 * 1)).take 20).all (a_rowok 164) = true := by decide +kernel
theorem a_ok164_2 : ((a_c164.drop (20 * 2)).take 20).all (a_rowok 164) = true := by decide +kernel
theorem a_ok164_3 : ((a_c164.drop (20 * 3)).take 20).all (a_rowok 164) = true := by decide +kernel
theorem a_ok164_4 : ((a_c164.drop (20 * 4)).take 20).all (a_rowok 164) = true := by decide +kernel
theorem a_ok164_5 : ((a_c164.drop (20 * 5)).take 20).all (a_rowok 164) = true := by decide +kernel
set_option maxRecDepth 100000 in
theorem a_ok164 : ∀ r ∈ a_c164, a_rowok 164 r = true := a_all20 6 (Nat.le_of_ble_eq_true rfl) (fun j hj => by
  match j, hj with
  | 0, _ => exact a_ok164_0
  | 1, _ => exact a_ok164_1
  | 2, _ => exact a_ok164_2
  | 3, _ => exact a_ok164_3
  | 4, _ => exact a_ok164_4
  | 5, _ => exact a_ok164_5
  | j + 6, h => exact absurd h (by omega))
theorem a_ok165_0 : ((a_c165.drop (20 * 0)).take 20).all (a_rowok 165) = true := by decide +kernel
set_option maxRecDepth 100000 in
theorem a_ok165 : ∀ r ∈ a_c165, a_rowok 165 r = true := a_all20 1 (Nat.le_of_ble_eq_true rfl) (fun j hj => by
  match j, hj with
  | 0, _ => exact a_ok165_0
  | j + 1, h => exact absurd h (by omega))
theorem a_ok166_0 : ((a_c166.drop (20 * 0)).take 20).all (a_rowok 166) = true := by decide +kernel
set_option maxRecDepth 100000 in
theorem a_ok166 : ∀ r ∈ a_c166, a_rowok 166 r = true := a_all20 1 (Nat.le_of_ble_eq_true rfl) (fun j hj => by
  match j, hj with
  | 0, _ => exact a_ok166_0
  | j + 1, h => exact absurd h (by omega))
theorem a_ok167_0 : ((a_c167.drop (20 * 0)).take 20).all (a_rowok 167) = true := by decide +kernel
theorem a_ok167_1 : ((a_c167.drop (20 * 1)).take 20).all (a_rowok 167) = true := by decide +kernel
set_option maxRecDepth 100000 in
theorem a_ok167 : ∀ r ∈ a_c167, a_rowok 167 r = true := a_all20 2 (Nat.le_of_ble_eq_true rfl) (fun j hj => by
  match j, hj with
  | 0, _ => exact a_ok167_0
  | 1, _ => exact a_ok167_1
  | j + 2, h => exact absurd h (by omega))
theorem a_ok168_0 : ((a_c168.drop (20 * 0)).take 20).all (a_rowok 168) = true := by decide +kernel
theorem a_ok168_1 : ((a_c168.drop (20 * 1)).take 20).all (a_rowok 168) = true := by decide +kernel
theorem a_ok168_2 : ((a_c168.drop (20 * 2)).take 20).all (a_rowok 168) = true := by decide +kernel
theorem a_ok168_3 : ((a_c168.drop (20 * 3)).take 20).all (a_rowok 168) = true := by decide +kernel
theorem a_ok168_4 : ((a_c168.drop (20 * 4)).take 20).all (a_rowok 168) = true := by decide +kernel
set_option maxRecDepth 100000 in
theorem a_ok168 : ∀ r ∈ a_c168, a_rowok 168 r = true := a_all20 5 (Nat.le_of_ble_eq_true rfl) (fun j hj => by
  match j, hj with
  | 0, _ => exact a_ok168_0
  | 1, _ => exact a_ok168_1
  | 2, _ => exact a_ok168_2
  | 3, _ => exact a_ok168_3
  | 4, _ => exact a_ok168_4
  | j + 5, h => exact absurd h (by omega))
theorem a_ok169_0 : ((a_c169.drop (20 * 0)).take 20).all (a_rowok 169) = true := by decide +kernel
theorem a_ok169_1 : ((a_c169.drop (20 * 1)).take 20).all (a_rowok 169) = true := by decide +kernel
set_option maxRecDepth 100000 in
theorem a_ok169 : ∀ r ∈ a_c169, a_rowok 169 r = true := a_all20 2 (Nat.le_of_ble_eq_true rfl) (fun j hj => by
  match j, hj with
  | 0, _ => exact a_ok169_0
  | 1, _ => exact a_ok169_1
  | j + 2, h => exact absurd h (by omega))
theorem a_ok170_0 : ((a_c170.drop (20 * 0)).take 20).all (a_rowok 170) = true := by decide +kernel
set_option maxRecDepth 100000 in
theorem a_ok170 : ∀ r ∈ a_c170, a_rowok 170 r = true := a_all20 1 (Nat.le_of_ble_eq_true rfl) (fun j hj => by
  match j, hj with
  | 0, _ => exact a_ok170_0
  | j + 1, h => exact absurd h (by omega))
theorem a_ok171_0 : ((a_c171.drop (20 * 0)).take 20).all (a_rowok 171) = true := by decide +kernel
theorem a_ok171_1 : ((a_c171.drop (20 * 1)).take 20).all (a_rowok 171) = true := by decide +kernel
theorem a_ok171_2 : ((a_c171.drop (20 * 2)).take 20).all (a_rowok 171) = true := by decide +kernel
set_option maxRecDepth 100000 in
theorem a_ok171 : ∀ r ∈ a_c171, a_rowok 171 r = true := a_all20 3 (Nat.le_of_ble_eq_true rfl) (fun j hj => by
  match j, hj with
  | 0, _ => exact a_ok171_0
  | 1, _ => exact a_ok171_1
  | 2, _ => exact a_ok171_2
  | j + 3, h => exact absurd h (by omega))
theorem a_ok172_0 : ((a_c172.drop (20 * 0)).take 20).all (a_rowok 172) = true := by decide +kernel
set_option maxRecDepth 100000 in
theorem a_ok172 : ∀ r ∈ a_c172, a_rowok 172 r = true := a_all20 1 (Nat.le_of_ble_eq_true rfl) (fun j hj => by
  match j, hj with
  | 0, _ => exact a_ok172_0
  | j + 1, h => exact absurd h (by omega))
theorem a_ok173_0 : ((a_c173.drop (20 * 0)).take 20).all (a_rowok 173) = true := by decide +kernel
set_option maxRecDepth 100000 in
theorem a_ok173 : ∀ r ∈ a_c173, a_rowok 173 r = true := a_all20 1 (Nat.le_of_ble_eq_true rfl) (fun j hj => by
  match j, hj with
  | 0, _ => exact a_ok173_0
  | j + 1, h => exact absurd h (by omega))
theorem a_ok174_0 : ((a_c174.drop (20 * 0)).take 20).all (a_rowok 174) = true := by decide +kernel
set_option maxRecDepth 100000 in
theorem a_ok174 : ∀ r ∈ a_c174, a_rowok 174 r = true := a_all20 1 (Nat.le_of_ble_eq_true rfl) (fun j hj => by
  match j, hj with
  | 0, _ => exact a_ok174_0
  | j + 1, h => exact absurd h (by omega))
theorem a_ok175_0 : ((a_c175.drop (20 * 0)).take 20).all (a_rowok 175) = true := by decide +kernel
set_option maxRecDepth 100000 in
theorem a_ok175 : ∀ r ∈ a_c175, a_rowok 175 r = true := a_all20 1 (Nat.le_of_ble_eq_true rfl) (fun j hj => by
  match j, hj with
  | 0, _ => exact a_ok175_0
  | j + 1, h => exact absurd h (by omega))
theorem a_ok176_0 : ((a_c176.drop (20 * 0)).take 20).all (a_rowok 176) = true := by decide +kernel
theorem a_ok176_1 : ((a_c176.drop (20 * 1)).take 20).all (a_rowok 176) = true := by decide +kernel
theorem a_ok176_2 : ((a_c176.drop (20 * 2)).take 20).all (a_rowok 176) = true := by decide +kernel
theorem a_ok176_3 : ((a_c176.drop (20 * 3)).take 20).all (a_rowok 176) = true := by decide +kernel
theorem a_ok176_4 : ((a_c176.drop (20 * 4)).take 20).all (a_rowok 176) = true := by decide +kernel
set_option maxRecDepth 100000 in
theorem a_ok176 : ∀ r ∈ a_c176, a_rowok 176 r = true := a_all20 5 (Nat.le_of_ble_eq_true rfl) (fun j hj => by
  match j, hj with
  | 0, _ => exact a_ok176_0
  | 1, _ => exact a_ok176_1
  | 2, _ => exact a_ok176_2
  | 3, _ => exact a_ok176_3
  | 4, _ => exact a_ok176_4
  | j + 5, h => exact absurd h (by omega))
theorem a_ok177_0 : ((a_c177.drop (20 * 0)).take 20).all (a_rowok 177) = true := by decide +kernel
set_option maxRecDepth 100000 in
theorem a_ok177 : ∀ r ∈ a_c177, a_rowok 177 r = true := a_all20 1 (Nat.le_of_ble_eq_true rfl) (fun j hj => by
  match j, hj with
  | 0, _ => exact a_ok177_0
  | j + 1, h => exact absurd h (by omega))
theorem a_ok178_0 : ((a_c178.drop (20 * 0)).take 20).all (a_rowok 178) = true := by decide +kernel
theorem a_ok178_1 : ((a_c178.drop (20 * 1)).take 20).all (a_rowok 178) = true := by decide +kernel
theorem a_ok178_2 : ((a_c178.drop (20 * 2)).take 20).all (a_rowok 178) = true := by decide +kernel
theorem a_ok178_3 : ((a_c178.drop (20 * 3)).take 20).all (a_rowok 178) = true := by decide +kernel
set_option maxRecDepth 100000 in
theorem a_ok178 : ∀ r ∈ a_c178, a_rowok 178 r = true := a_all20 4 (Nat.le_of_ble_eq_true rfl) (fun j hj => by
  match j, hj with
  | 0, _ => exact a_ok178_0
  | 1, _ => exact a_ok178_1
  | 2, _ => exact a_ok178_2
  | 3, _ => exact a_ok178_3
  | j + 4, h => exact absurd h (by omega))
theorem a_ok179_0 : ((a_c179.drop (20 * 0)).take 20).all (a_rowok 179) = true := by decide +kernel
set_option maxRecDepth 100000 in
theorem a_ok179 : ∀ r ∈ a_c179, a_rowok 179 r = true := a_all20 1 (Nat.le_of_ble_eq_true rfl) (fun j hj => by
  match j, hj with
  | 0, _ => exact a_ok179_0
  | j + 1, h => exact absurd h (by omega))
theorem a_ok180_0 : ((a_c180.drop (20 * 0)).take 20).all (a_rowok 180) = true := by decide +kernel
set_option maxRecDepth 100000 in
theorem a_ok180 : ∀ r ∈ a_c180, a_rowok 180 r = true := a_all20 1 (Nat.le_of_ble_eq_true rfl) (fun j hj => by
  match j, hj with
  | 0, _ => exact a_ok180_0
  | j + 1, h => exact absurd h (by omega))
theorem a_ok181_0 : ((a_c181.drop (20 * 0)).take 20).all (a_rowok 181) = true := by decide +kernel
theorem a_ok181_1 : ((a_c181.drop (20 * 1)).take 20).all (a_rowok 181) = true := by decide +kernel
set_option maxRecDepth 100000 in
theorem a_ok181 : ∀ r ∈ a_c181, a_rowok 181 r = true := a_all20 2 (Nat.le_of_ble_eq_true rfl) (fun j hj => by
  match j, hj with
  | 0, _ => exact a_ok181_0
  | 1, _ => exact a_ok181_1
  | j + 2, h => exact absurd h (by omega))
theorem a_ok182_0 : ((a_c182.drop (20 * 0)).take 20).all (a_rowok 182) = true := by decide +kernel
set_option maxRecDepth 100000 in
theorem a_ok182 : ∀ r ∈ a_c182, a_rowok 182 r = true := a_all20 1 (Nat.le_of_ble_eq_true rfl) (fun j hj => by
  match j, hj with
  | 0, _ => exact a_ok182_0
  | j + 1, h => exact absurd h (by omega))
theorem a_ok183_0 : ((a_c183.drop (20 * 0)).take 20).all (a_rowok 183) = true := by decide +kernel
theorem a_ok183_1 : ((a_c183.drop (20 * 1)).take 20).all (a_rowok 183) = true := by decide +kernel
set_option maxRecDepth 100000 in
theorem a_ok183 : ∀ r ∈ a_c183, a_rowok 183 r = true := a_all20 2 (Nat.le_of_ble_eq_true rfl) (fun j hj => by
  match j, hj with
  | 0, _ => exact a_ok183_0
  | 1, _ => exact a_ok183_1
  | j + 2, h => exact absurd h (by omega))
theorem a_ok184_0 : ((a_c184.drop (20 * 0)).take 20).all (a_rowok 184) = true := by decide +kernel
set_option maxRecDepth 100000 in
theorem a_ok184 : ∀ r ∈ a_c184, a_rowok 184 r = true := a_all20 1 (Nat.le_of_ble_eq_true rfl) (fun j hj => by
  match j, hj with
  | 0, _ => exact a_ok184_0
  | j + 1, h => exact absurd h (by omega))
theorem a_ok185_0 : ((a_c185.drop (20 * 0)).take 20).all (a_rowok 185) = true := by decide +kernel
theorem a_ok185_1 : ((a_c185.drop (20 * 1)).take 20).all (a_rowok 185) = true := by decide +kernel
theorem a_ok185_2 : ((a_c185.drop (20 * 2)).take 20).all (a_rowok 185) = true := by decide +kernel
theorem a_ok185_3 : ((a_c185.drop (20 * 3)).take 20).all (a_rowok 185) = true := by decide +kernel
set_option maxRecDepth 100000 in
theorem a_ok185 : ∀ r ∈ a_c185, a_rowok 185 r = true := a_all20 4 (Nat.le_of_ble_eq_true rfl) (fun j hj => by
  match j, hj with
  | 0, _ => exact a_ok185_0
  | 1, _ => exact a_ok185_1
  | 2, _ => exact a_ok185_2
  | 3, _ => exact a_ok185_3
  | j + 4, h => exact absurd h (by omega))
theorem a_ok186_0 : ((a_c186.drop (20 * 0)).take 20).all (a_rowok 186) = true := by decide +kernel
set_option maxRecDepth 100000 in
theorem a_ok186 : ∀ r ∈ a_c186, a_rowok 186 r = true := a_all20 1 (Nat.le_of_ble_eq_true rfl) (fun j hj => by
  match j, hj with
  | 0, _ => exact a_ok186_0
  | j + 1, h => exact absurd h (by omega))
theorem a_ok187_0 : ((a_c187.drop (20 * 0)).take 20).all (a_rowok 187) = true := by decide +kernel
theorem a_ok187_1 : ((a_c187.drop (20 * 1)).take 20).all (a_rowok 187) = true := by decide +kernel
theorem a_ok187_2 : ((a_c187.drop (20 * 2)).take 20).all (a_rowok 187) = true := by decide +kernel
set_option maxRecDepth 100000 in
theorem a_ok187 : ∀ r ∈ a_c187, a_rowok 187 r = true := a_all20 3 (Nat.le_of_ble_eq_true rfl) (fun j hj => by
  match j, hj with
  | 0, _ => exact a_ok187_0
  | 1, _ => exact a_ok187_1
  | 2, _ => exact a_ok187_2
  | j + 3, h => exact absurd h (by omega))
theorem a_ok188_0 : ((a_c188.drop (20 * 0)).take 20).all (a_rowok 188) = true := by decide +kernel
set_option maxRecDepth 100000 in
theorem a_ok188 : ∀ r ∈ a_c188, a_rowok 188 r = true := a_all20 1 (Nat.le_of_ble_eq_true rfl) (fun j hj => by
  match j, hj with
  | 0, _ => exact a_ok188_0
  | j + 1, h => exact absurd h (by omega))
theorem a_ok189_0 : ((a_c189.drop (20 * 0)).take 20).all (a_rowok 189) = true := by decide +kernel
theorem a_ok189_1 : ((a_c189.drop (20 * 1)).take 20).all (a_rowok 189) = true := by decide +kernel
theorem a_ok189_2 : ((a_c189.drop (20 * 2)).take 20).all (a_rowok 189) = true := by decide +kernel
theorem a_ok189_3 : ((a_c189.drop (20 * 3)).take 20).all (a_rowok 189) = true := by decide +kernel
theorem a_ok189_4 : ((a_c189.drop (20 * 4)).take 20).all (a_rowok 189) = true := by decide +kernel
theorem a_ok189_5 : ((a_c189.drop (20 * 5)).take 20).all (a_rowok 189) = true := by decide +kernel
set_option maxRecDepth 100000 in
theorem a_ok189 : ∀ r ∈ a_c189, a_rowok 189 r = true := a_all20 6 (Nat.le_of_ble_eq_true rfl) (fun j hj => by
  match j, hj with
  | 0, _ => exact a_ok189_0
  | 1, _ => exact a_ok189_1
  | 2, _ => exact a_ok189_2
  | 3, _ => exact a_ok189_3
  | 4, _ => exact a_ok189_4
  | 5, _ => exact a_ok189_5
  | j + 6, h => exact absurd h (by omega))
theorem a_ok190_0 : ((a_c190.drop (20 * 0)).take 20).all (a_rowok 190) = true := by decide +kernel
set_option maxRecDepth 100000 in
theorem a_ok190 : ∀ r ∈ a_c190, a_rowok 190 r = true := a_all20 1 (Nat.le_of_ble_eq_true rfl) (fun j hj => by
  match j, hj with
  | 0, _ => exact a_ok190_0
  | j + 1, h => exact absurd h (by omega))
theorem a_ok191_0 : ((a_c191.drop (20 * 0)).take 20).all (a_rowok 191) = true := by decide +kernel
theorem a_ok191_1 : ((a_c191.drop (20 * 1)).take 20).all (a_rowok 191) = true := by decide +kernel
theorem a_ok191_2 : ((a_c191.drop (20 * 2)).take 20).all (a_rowok 191) = true := by decide +kernel
theorem a_ok191_3 : ((a_c191.drop (20 * 3)).take 20).all (a_rowok 191) = true := by decide +kernel
theorem a_ok191_4 : ((a_c191.drop (20 * 4)).take 20).all (a_rowok 191) = true := by decide +kernel
theorem a_ok191_5 : ((a_c191.drop (20 * 5)).take 20).all (a_rowok 191) = true := by decide +kernel
set_option maxRecDepth 100000 in
theorem a_ok191 : ∀ r ∈ a_c191, a_rowok 191 r = true := a_all20 6 (Nat.le_of_ble_eq_true rfl) (fun j hj => by
  match j, hj with
  | 0, _ => exact a_ok191_0
  | 1, _ => exact a_ok191_1
  | 2, _ => exact a_ok191_2
  | 3, _ => exact a_ok191_3
  | 4, _ => exact a_ok191_4
  | 5, _ => exact a_ok191_5
  | j + 6, h => exact absurd h (by omega))
theorem a_ok192_0 : ((a_c192.drop (20 * 0)).take 20).all (a_rowok 192) = true := by decide +kernel
theorem a_ok192_1 : ((a_c192.drop (20 * 1)).take 20).all (a_rowok 192) = true := by decide +kernel
set_option maxRecDepth 100000 in
theorem a_ok192 : ∀ r ∈ a_c192, a_rowok 192 r = true := a_all20 2 (Nat.le_of_ble_eq_true rfl) (fun j hj => by
  match j, hj with
  | 0, _ => exact a_ok192_0
  | 1, _ => exact a_ok192_1
  | j + 2, h => exact absurd h (by omega))
theorem a_ok193_0 : ((a_c193.drop (20 * 0)).take 20).all (a_rowok 193) = true := by decide +kernel
set_option maxRecDepth 100000 in
theorem a_ok193 : ∀ r ∈ a_c193, a_rowok 193 r = true := a_all20 1 (Nat.le_of_ble_eq_true rfl) (fun j hj => by
  match j, hj with
  | 0, _ => exact a_ok193_0
  | j + 1, h => exact absurd h (by omega))
theorem a_ok194_0 : ((a_c194.drop (20 * 0)).take 20).all (a_rowok 194) = true := by decide +kernel
theorem a_ok194_1 : ((a_c194.drop (20 * 1)).take 20).all (a_rowok 194) = true := by decide +kernel
theorem a_ok194_2 : ((a_c194.drop (20 * 2)).take 20).all (a_rowok 194) = true := by decide +kernel
theorem a_ok194_3 : ((a_c194.drop (20 * 3)).take 20).all (a_rowok 194) = true := by decide +kernel
theorem a_ok194_4 : ((a_c194.drop (20 * 4)).take 20).all (a_rowok 194) = true := by decide +kernel
set_option maxRecDepth 100000 in
theorem a_ok194 : ∀ r ∈ a_c194, a_rowok 194 r = true := a_all20 5 (Nat.le_of_ble_eq_true rfl) (fun j hj => by
  match j, hj with
  | 0, _ => exact a_ok194_0
  | 1, _ => exact a_ok194_1
  | 2, _ => exact a_ok194_2
  | 3, _ => exact a_ok194_3
  | 4, _ => exact a_ok194_4
  | j + 5, h => exact absurd h (by omega))
theorem a_ok195_0 : ((a_c195.drop (20 * 0)).take 20).all (a_rowok 195) = true := by decide +kernel
theorem a_ok195_1 : ((a_c195.drop (20 * 1)).take 20).all (a_rowok 195) = true := by decide +kernel
theorem a_ok195_2 : ((a_c195.drop (20 * 2)).take 20).all (a_rowok 195) = true := by decide +kernel
set_option maxRecDepth 100000 in
theorem a_ok195 : ∀ r ∈ a_c195, a_rowok 195 r = true := a_all20 3 (Nat.le_of_ble_eq_true rfl) (fun j hj => by
  match j, hj with
  | 0, _ => exact a_ok195_0
  | 1, _ => exact a_ok195_1
  | 2, _ => exact a_ok195_2
  | j + 3, h => exact absurd h (by omega))
theorem a_ok196_0 : ((a_c196.drop (20 * 0)).take 20).all (a_rowok 196) = true := by decide +kernel
set_option maxRecDepth 100000 in
theorem a_ok196 : ∀ r ∈ a_c196, a_rowok 196 r = true := a_all20 1 (Nat.le_of_ble_eq_true rfl) (fun j hj => by
  match j, hj with
  | 0, _ => exact a_ok196_0
  | j + 1, h => exact absurd h (by omega))
theorem a_ok197_0 : ((a_c197.drop (20 * 0)).take 20).all (a_rowok 197) = true := by decide +kernel
theorem a_ok197_1 : ((a_c197.drop (20 * 1)).take 20).all (a_rowok 197) = true := by decide +kernel
theorem a_ok197_2 : ((a_c197.drop (20 * 2)).take 20).all (a_rowok 197) = true := by decide +kernel
theorem a_ok197_3 : ((a_c197.drop (20 * 3)).take 20).all (a_rowok 197) = true := by decide +kernel
theorem a_ok197_4 : ((a_c197.drop (20 * 4)).take 20).all (a_rowok 197) = true := by decide +kernel
set_option maxRecDepth 100000 in
theorem a_ok197 : ∀ r ∈ a_c197, a_rowok 197 r = true := a_all20 5 (Nat.le_of_ble_eq_true rfl) (fun j hj => by
  match j, hj with
  | 0, _ => exact a_ok197_0
  | 1, _ => exact a_ok197_1
  | 2, _ => exact a_ok197_2
  | 3, _ => exact a_ok197_3
  | 4, _ => exact a_ok197_4
  | j + 5, h => exact absurd h (by omega))
theorem a_ok198_0 : ((a_c198.drop (20 * 0)).take 20).all (a_rowok 198) = true := by decide +kernel
theorem a_ok198_1 : ((a_c198.drop (20 * 1)).take 20).all (a_rowok 198) = true := by decide +kernel
set_option maxRecDepth 100000 in
theorem a_ok198 : ∀ r ∈ a_c198, a_rowok 198 r = true := a_all20 2 (Nat.le_of_ble_eq_true rfl) (fun j hj => by
  match j, hj with
  | 0, _ => exact a_ok198_0
  | 1, _ => exact a_ok198_1
  | j + 2, h => exact absurd h (by omega))
theorem a_ok199_0 : ((a_c199.drop (20 * 0)).take 20).all (a_rowok 199) = true := by decide +kernel
set_option maxRecDepth 100000 in
theorem a_ok199 : ∀ r ∈ a_c199, a_rowok 199 r = true := a_all20 1 (Nat.le_of_ble_eq_true rfl) (fun j hj => by
  match j, hj with
  | 0, _ => exact a_ok199_0
  | j + 1, h => exact absurd h (by omega))
theorem a_ok200_0 : ((a_c200.drop (20 * 0)).take 20).all (a_rowok 200) = true := by decide +kernel
set_option maxRecDepth 100000 in
theorem a_ok200 : ∀ r ∈ a_c200, a_rowok 200 r = true := a_all20 1 (Nat.le_of_ble_eq_true rfl) (fun j hj => by
  match j, hj with
  | 0, _ => exact a_ok200_0
  | j + 1, h => exact absurd h (by omega))
theorem a_ok201_0 : ((a_c201.drop (20 * 0)).take 20).all (a_rowok 201) = true := by decide +kernel
theorem a_ok201_1 : ((a_c201.drop (20 * 1)).take 20).all (a_rowok 201) = true := by decide +kernel
set_option maxRecDepth 100000 in
theorem a_ok201 : ∀ r ∈ a_c201, a_rowok 201 r = true := a_all20 2 (Nat.le_of_ble_eq_true rfl) (fun j hj => by
  match j, hj with
  | 0, _ => exact a_ok201_0
  | 1, _ => exact a_ok201_1
  | j + 2, h => exact absurd h (by omega))
theorem a_ok202_0 : ((a_c202.drop (20 * 0)).take 20).all (a_rowok 202) = true := by decide +kernel
set_option maxRecDepth 100000 in
theorem a_ok202 : ∀ r ∈ a_c202, a_rowok 202 r = true := a_all20 1 (Nat.le_of_ble_eq_true rfl) (fun j hj => by
  match j, hj with
  | 0, _ => exact a_ok202_0
  | j + 1, h => exact absurd h (by omega))
theorem a_ok203_0 : ((a_c203.drop (20 * 0)).take 20).all (a_rowok 203) = true := by decide +kernel
theorem a_ok203_1 : ((a_c203.drop (20 * 1)).take 20).all (a_rowok 203) = true := by decide +kernel
theorem a_ok203_2 : ((a_c203.drop (20 * 2)).take 20).all (a_rowok 203) = true := by decide +kernel
set_option maxRecDepth 100000 in
theorem a_ok203 : ∀ r ∈ a_c203, a_rowok 203 r = true := a_all20 3 (Nat.le_of_ble_eq_true rfl) (fun j hj => by
  match j, hj with
  | 0, _ => exact a_ok203_0
  | 1, _ => exact a_ok203_1
  | 2, _ => exact a_ok203_2
  | j + 3, h => exact absurd h (by omega))
theorem a_ok204_0 : ((a_c204.drop (20 * 0)).take 20).all (a_rowok 204) = true := by decide +kernel
theorem a_ok204_1 : ((a_c204.drop (20 * 1)).take 20).all (a_rowok 204) = true := by decide +kernel
set_option maxRecDepth 100000 in
theorem a_ok204 : ∀ r ∈ a_c204, a_rowok 204 r = true := a_all20 2 (Nat.le_of_ble_eq_true rfl) (fun j hj => by
  match j, hj with
  | 0, _ => exact a_ok204_0
  | 1, _ => exact a_ok204_1
  | j + 2, h => exact absurd h (by omega))
theorem a_ok205_0 : ((a_c205.drop (20 * 0)).take 20).all (a_rowok 205) = true := by decide +kernel
set_option maxRecDepth 100000 in
theorem a_ok205 : ∀ r ∈ a_c205, a_rowok 205 r = true := a_all20 1 (Nat.le_of_ble_eq_true rfl) (fun j hj => by
  match j, hj with
  | 0, _ => exact a_ok205_0
  | j + 1, h => exact absurd h (by omega))
theorem a_ok206_0 : ((a_c206.drop (20 * 0)).take 20).all (a_rowok 206) = true := by decide +kernel
set_option maxRecDepth 100000 in
theorem a_ok206 : ∀ r ∈ a_c206, a_rowok 206 r = true := a_all20 1 (Nat.le_of_ble_eq_true rfl) (fun j hj => by
  match j, hj with
  | 0, _ => exact a_ok206_0
  | j + 1, h => exact absurd h (by omega))
theorem a_ok207_0 : ((a_c207.drop (20 * 0)).take 20).all (a_rowok 207) = true := by decide +kernel
set_option maxRecDepth 100000 in
theorem a_ok207 : ∀ r ∈ a_c207, a_rowok 207 r = true := a_all20 1 (Nat.le_of_ble_eq_true rfl) (fun j hj => by
  match j, hj with
  | 0, _ => exact a_ok207_0
  | j + 1, h => exact absurd h (by omega))
theorem a_ok208_0 : ((a_c208.drop (20 * 0)).take 20).all (a_rowok 208) = true := by decide +kernel
theorem a_ok208_1 : ((a_c208.drop (20 * 1)).take 20).all (a_rowok 208) = true := by decide +kernel
theorem a_ok208_2 : ((a_c208.drop (20 * 2)).take 20).all (a_rowok 208) = true := by decide +kernel
set_option maxRecDepth 100000 in
theorem a_ok208 : ∀ r ∈ a_c208, a_rowok 208 r = true := a_all20 3 (Nat.le_of_ble_eq_true rfl) (fun j hj => by
  match j, hj with
  | 0, _ => exact a_ok208_0
  | 1, _ => exact a_ok208_1
  | 2, _ => exact a_ok208_2
  | j + 3, h => exact absurd h (by omega))
theorem a_ok209_0 : ((a_c209.drop (20 * 0)).take 20).all (a_rowok 209) = true := by decide +kernel
theorem a_ok209_1 : ((a_c209.drop (20 * 1)).take 20).all (a_rowok 209) = true := by decide +kernel
set_option maxRecDepth 100000 in
theorem a_ok209 : ∀ r ∈ a_c209, a_rowok 209 r = true := a_all20 2 (Nat.le_of_ble_eq_true rfl) (fun j hj => by
  match j, hj with
  | 0, _ => exact a_ok209_0
  | 1, _ => exact a_ok209_1
  | j + 2, h => exact absurd h (by omega))
theorem a_ok210_0 : ((a_c210.drop (20 * 0)).take 20).all (a_rowok 210) = true := by decide +kernel
theorem a_ok210_1 : ((a_c210.drop (20 * 1)).take 20).all (a_rowok 210) = true := by decide +kernel
theorem a_ok210_2 : ((a_c210.drop (20 * 2)).take 20).all (a_rowok 210) = true := by decide +kernel
set_option maxRecDepth 100000 in
theorem a_ok210 : ∀ r ∈ a_c210, a_rowok 210 r = true := a_all20 3 (Nat.le_of_ble_eq_true rfl) (fun j hj => by
  match j, hj with
  | 0, _ => exact a_ok210_0
  | 1, _ => exact a_ok210_1
  | 2, _ => exact a_ok210_2
  | j + 3, h => exact absurd h (by omega))
theorem a_ok211_0 : ((a_c211.drop (20 * 0)).take 20).all (a_rowok 211) = true := by decide +kernel
theorem a_ok211_1 : ((a_c211.drop (20 * 1)).take 20).all (a_rowok 211) = true := by decide +kernel
set_option maxRecDepth 100000 in
theorem a_ok211 : ∀ r ∈ a_c211, a_rowok 211 r = true := a_all20 2 (Nat.le_of_ble_eq_true rfl) (fun j hj => by
  match j, hj with
  | 0, _ => exact a_ok211_0
  | 1, _ => exact a_ok211_1
  | j + 2, h => exact absurd h (by omega))
theorem a_ok212_0 : ((a_c212.drop (20 * 0)).take 20).all (a_rowok 212) = true := by decide +kernel
set_option maxRecDepth 100000 in
theorem a_ok212 : ∀ r ∈ a_c212, a_rowok 212 r = true := a_all20 1 (Nat.le_of_ble_eq_true rfl) (fun j hj => by
  match j, hj with
  | 0, _ => exact a_ok212_0
  | j + 1, h => exact absurd h (by omega))
theorem a_ok213_0 : ((a_c213.drop (20 * 0)).take 20).all (a_rowok 213) = true := by decide +kernel
theorem a_ok213_1 : ((a_c213.drop (20 * 1)).take 20).all (a_rowok 213) = true := by decide +kernel
set_option maxRecDepth 100000 in
theorem a_ok213 : ∀ r ∈ a_c213, a_rowok 213 r = true := a_all20 2 (Nat.le_of_ble_eq_true rfl) (fun j hj => by
  match j, hj with
  | 0, _ => exact a_ok213_0
  | 1, _ => exact a_ok213_1
  | j + 2, h => exact absurd h (by omega))
theorem a_ok214_0 : ((a_c214.drop (20 * 0)).take 20).all (a_rowok 214) = true := by decide +kernel
theorem a_ok214_1 : ((a_c214.drop (20 * 1)).take 20).all (a_rowok 214) = true := by decide +kernel
theorem a_ok214_2 : ((a_c214.drop (20 * 2)).take 20).all (a_rowok 214) = true := by decide +kernel
set_option maxRecDepth 100000 in
theorem a_ok214 : ∀ r ∈ a_c214, a_rowok 214 r = true := a_all20 3 (Nat.le_of_ble_eq_true rfl) (fun j hj => by
  match j, hj with
  | 0, _ => exact a_ok214_0
  | 1, _ => exact a_ok214_1
  | 2, _ => exact a_ok214_2
  | j + 3, h => exact absurd h (by omega))
theorem a_ok215_0 : ((a_c215.drop (20 * 0)).take 20).all (a_rowok 215) = true := by decide +kernel
set_option maxRecDepth 100000 in
theorem a_ok215 : ∀ r ∈ a_c215, a_rowok 215 r = true := a_all20 1 (Nat.le_of_ble_eq_true rfl) (fun j hj => by
  match j, hj with
  | 0, _ => exact a_ok215_0
  | j + 1, h => exact absurd h (by omega))
theorem a_ok216_0 : ((a_c216.drop (20 * 0)).take 20).all (a_rowok 216) = true := by decide +kernel
theorem a_ok216_1 : ((a_c216.drop (20 * 1)).take 20).all (a_rowok 216) = true := by decide +kernel
set_option maxRecDepth 100000 in
theorem a_ok216 : ∀ r ∈ a_c216, a_rowok 216 r = true := a_all20 2 (Nat.le_of_ble_eq_true rfl) (fun j hj => by
  match j, hj with
  | 0, _ => exact a_ok216_0
  | 1, _ => exact a_ok216_1
  | j + 2, h => exact absurd h (by omega))
theorem a_ok217_0 : ((a_c217.drop (20 * 0)).take 20).all (a_rowok 217) = true := by decide +kernel
theorem a_ok217_1 : ((a_c217.drop (20 * 1)).take 20).all (a_rowok 217) = true := by decide +kernel
theorem a_ok217_2 : ((a_c217.drop (20 * 2)).take 20).all (a_rowok 217) = true := by decide +kernel
set_option maxRecDepth 100000 in
theorem a_ok217 : ∀ r ∈ a_c217, a_rowok 217 r = true := a_all20 3 (Nat.le_of_ble_eq_true rfl) (fun j hj => by
  match j, hj with
  | 0, _ => exact a_ok217_0
  | 1, _ => exact a_ok217_1
  | 2, _ => exact a_ok217_2
  | j + 3, h => exact absurd h (by omega))
theorem a_ok218_0 : ((a_c218.drop (20 * 0)).take 20).all (a_rowok 218) = true := by decide +kernel
set_option maxRecDepth 100000 in
theorem a_ok218 : ∀ r ∈ a_c218, a_rowok 218 r = true := a_all20 1 (Nat.le_of_ble_eq_true rfl) (fun j hj => by
  match j, hj with
  | 0, _ => exact a_ok218_0
  | j + 1, h => exact absurd h (by omega))
theorem a_ok219_0 : ((a_c219.drop (20 * 0)).take 20).all (a_rowok 219) = true := by decide +kernel
theorem a_ok219_1 : ((a_c219.drop (20 * 1)).take 20).all (a_rowok 219) = true := by decide +kernel
theorem a_ok219_2 : ((a_c219.drop (20 * 2)).take 20).all (a_rowok 219) = true := by decide +kernel
theorem a_ok219_3 : ((a_c219.drop (20 * 3)).take 20).all (a_rowok 219) = true := by decide +kernel
set_option maxRecDepth 100000 in
theorem a_ok219 : ∀ r ∈ a_c219, a_rowok 219 r = true := a_all20 4 (Nat.le_of_ble_eq_true rfl) (fun j hj => by
  match j, hj with
  | 0, _ => exact a_ok219_0
  | 1, _ => exact a_ok219_1
  | 2, _ => exact a_ok219_2
  | 3, _ => exact a_ok219_3
  | j + 4, h => exact absurd h (by omega))
theorem a_ok220_0 : ((a_c220.drop (20 * 0)).take 20).all (a_rowok 220) = true := by decide +kernel
theorem a_ok220_1 : ((a_c220.drop (20 * 1)).take 20).all (a_rowok 220) = true := by decide +kernel
theorem a_ok220_2 : ((a_c220.drop (20 * 2)).take 20).all (a_rowok 220) = true := by decide +kernel
theorem a_ok220_3 : ((a_c220.drop (20 * 3)).take 20).all (a_rowok 220) = true := by decide +kernel
set_option maxRecDepth 100000 in
theorem a_ok220 : ∀ r ∈ a_c220, a_rowok 220 r = true := a_all20 4 (Nat.le_of_ble_eq_true rfl) (fun j hj => by
  match j, hj with
  | 0, _ => exact a_ok220_0
  | 1, _ => exact a_ok220_1
  | 2, _ => exact a_ok220_2
  | 3, _ => exact a_ok220_3
  | j + 4, h => exact absurd h (by omega))
theorem a_ok221_0 : ((a_c221.drop (20 * 0)).take 20).all (a_rowok 221) = true := by decide +kernel
set_option maxRecDepth 100000 in
theorem a_ok221 : ∀ r ∈ a_c221, a_rowok 221 r = true := a_all20 1 (Nat.le_of_ble_eq_true rfl) (fun j hj => by
  match j, hj with
  | 0, _ => exact a_ok221_0
  | j + 1, h => exact absurd h (by omega))
theorem a_ok222_0 : ((a_c222.drop (20 * 0)).take 20).all (a_rowok 222) = true := by decide +kernel
set_option maxRecDepth 100000 in
theorem a_ok222 : ∀ r ∈ a_c222, a_rowok 222 r = true := a_all20 1 (Nat.le_of_ble_eq_true rfl) (fun j hj => by
  match j, hj with
  | 0, _ => exact a_ok222_0
  | j + 1, h => exact absurd h (by omega))
theorem a_ok223_0 : ((a_c223.drop (20 * 0)).take 20).all (a_rowok 223) = true := by decide +kernel
theorem a_ok223_1 : ((a_c223.drop (20 * 1)).take 20).all (a_rowok 223) = true := by decide +kernel
set_option maxRecDepth 100000 in
theorem a_ok223 : ∀ r ∈ a_c223, a_rowok 223 r = true := a_all20 2 (Nat.le_of_ble_eq_true rfl) (fun j hj => by
  match j, hj with
  | 0, _ => exact a_ok223_0
  | 1, _ => exact a_ok223_1
  | j + 2, h => exact absurd h (by omega))
theorem a_ok224_0 : ((a_c224.drop (20 * 0)).take 20).all (a_rowok 224) = true := by decide +kernel
theorem a_ok224_1 : ((a_c224.drop (20 * 1)).take 20).all (a_rowok 224) = true := by decide +kernel
set_option maxRecDepth 100000 in
theorem a_ok224 : ∀ r ∈ a_c224, a_rowok 224 r = true := a_all20 2 (Nat.le_of_ble_eq_true rfl) (fun j hj => by
  match j, hj with
  | 0, _ => exact a_ok224_0
  | 1, _ => exact a_ok224_1
  | j + 2, h => exact absurd h (by omega))
theorem a_ok225_0 : ((a_c225.drop (20 * 0)).take 20).all (a_rowok 225) = true := by decide +kernel
theorem a_ok225_1 : ((a_c225.drop (20 * 1)).take 20).all (a_rowok 225) = true := by decide +kernel
theorem a_ok225_2 : ((a_c225.drop (20 * 2)).take 20).all (a_rowok 225) = true := by decide +kernel
theorem a_ok225_3 : ((a_c225.drop (20 * 3)).take 20).all (a_rowok 225) = true := by decide +kernel
theorem a_ok225_4 : ((a_c225.drop (20 * 4)).take 20).all (a_rowok 225) = true := by decide +kernel
theorem a_ok225_5 : ((a_c225.drop (20 * 5)).take 20).all (a_rowok 225) = true := by decide +kernel
set_option maxRecDepth 100000 in
theorem a_ok225 : ∀ r ∈ a_c225, a_rowok 225 r = true := a_all20 6 (Nat.le_of_ble_eq_true rfl) (fun j hj => by
  match j, hj with
  | 0, _ => exact a_ok225_0
  | 1, _ => exact a_ok225_1
  | 2, _ => exact a_ok225_2
  | 3, _ => exact a_ok225_3
  | 4, _ => exact a_ok225_4
  | 5, _ => exact a_ok225_5
  | j + 6, h => exact absurd h (by omega))
theorem a_ok226_0 : ((a_c226.drop (20 * 0)).take 20).all (a_rowok 226) = true := by decide +kernel
theorem a_ok226_1 : ((a_c226.drop (20 * 1)).take 20).all (a_rowok 226) = true := by decide +kernel
theorem a_ok226_2 : ((a_c226.drop (20 * 2)).take 20).all (a_rowok 226) = true := by decide +kernel
theorem a_ok226_3 : ((a_c226.drop (20 * 3)).take 20).all (a_rowok 226) = true := by decide +kernel
theorem a_ok226_4 : ((a_c226.drop (20 * 4)).take 20).all (a_rowok 226) = true := by decide +kernel
theorem a_ok226_5 : ((a_c226.drop (20 * 5)).take 20).all (a_rowok 226) = true := by decide +kernel
theorem a_ok226_6 : ((a_c226.drop (20 * 6)).take 20).all (a_rowok 226) = true := by decide +kernel
set_option maxRecDepth 100000 in
theorem a_ok226 : ∀ r ∈ a_c226, a_rowok 226 r = true := a_all20 7 (Nat.le_of_ble_eq_true rfl) (fun j hj => by
  match j, hj with
  | 0, _ => exact a_ok226_0
  | 1, _ => exact a_ok226_1
  | 2, _ => exact a_ok226_2
  | 3, _ => exact a_ok226_3
  | 4, _ => exact a_ok226_4
  | 5, _ => exact a_ok226_5
  | 6, _ => exact a_ok226_6
  | j + 7, h => exact absurd h (by omega))
theorem a_ok227_0 : ((a_c227.drop (20 * 0)).take 20).all (a_rowok 227) = true := by decide +kernel
theorem a_ok227_1 : ((a_c227.drop (20 * 1)).take 20).all (a_rowok 227) = true := by decide +kernel
theorem a_ok227_2 : ((a_c227.drop (20 * 2)).take 20).all (a_rowok 227) = true := by decide +kernel
set_option maxRecDepth 100000 in
theorem a_ok227 : ∀ r ∈ a_c227, a_rowok 227 r = true := a_all20 3 (Nat.le_of_ble_eq_true rfl) (fun j hj => by
  match j, hj with
  | 0, _ => exact a_ok227_0
  | 1, _ => exact a_ok227_1
  | 2, _ => exact a_ok227_2
  | j + 3, h => exact absurd h (by omega))
theorem a_ok228_0 : ((a_c228.drop (20 * 0)).take 20).all (a_rowok 228) = true := by decide +kernel
theorem a_ok228_1 : ((a_c228.drop (20 * 1)).take 20).all (a_rowok 228) = true := by decide +kernel
theorem a_ok228_2 : ((a_c228.drop (20 * 2)).take 20).all (a_rowok 228) = true := by decide +kernel
set_option maxRecDepth 100000 in
theorem a_ok228 : ∀ r ∈ a_c228, a_rowok 228 r = true := a_all20 3 (Nat.le_of_ble_eq_true rfl) (fun j hj => by
  match j, hj with
  | 0, _ => exact a_ok228_0
  | 1, _ => exact a_ok228_1
  | 2, _ => exact a_ok228_2
  | j + 3, h => exact absurd h (by omega))
theorem a_ok229_0 : ((a_c229.drop (20 * 0)).take 20).all (a_rowok 229) = true := by decide +kernel
set_option maxRecDepth 100000 in
theorem a_ok229 : ∀ r ∈ a_c229, a_rowok 229 r = true := a_all20 1 (Nat.le_of_ble_eq_true rfl) (fun j hj => by
  match j, hj with
  | 0, _ => exact a_ok229_0
  | j + 1, h => exact absurd h (by omega))
theorem a_ok230_0 : ((a_c230.drop (20 * 0)).take 20).all (a_rowok 230) = true := by decide +kernel
theorem a_ok230_1 : ((a_c230.drop (20 * 1)).take 20).all (a_rowok 230) = true := by decide +kernel
theorem a_ok230_2 : ((a_c230.drop (20 * 2)).take 20).all (a_rowok 230) = true := by decide +kernel
theorem a_ok230_3 : ((a_c230.drop (20 * 3)).take 20).all (a_rowok 230) = true := by decide +kernel
theorem a_ok230_4 : ((a_c230.drop (20 * 4)).take 20).all (a_rowok 230) = true := by decide +kernel
set_option maxRecDepth 100000 in
theorem a_ok230 : ∀ r ∈ a_c230, a_rowok 230 r = true := a_all20 5 (Nat.le_of_ble_eq_true rfl) (fun j hj => by
  match j, hj with
  | 0, _ => exact a_ok230_0
  | 1, _ => exact a_ok230_1
  | 2, _ => exact a_ok230_2
  | 3, _ => exact a_ok230_3
  | 4, _ => exact a_ok230_4
  | j + 5, h => exact absurd h (by omega))
theorem a_ok231_0 : ((a_c231.drop (20 * 0)).take 20).all (a_rowok 231) = true := by decide +kernel
theorem a_ok231_1 : ((a_c231.drop (20 * 1)).take 20).all (a_rowok 231) = true := by decide +kernel
theorem a_ok231_2 : ((a_c231.drop (20 * 2)).take 20).all (a_rowok 231) = true := by decide +kernel
theorem a_ok231_3 : ((a_c231.drop (20 * 3)).take 20).all (a_rowok 231) = true := by decide +kernel
set_option maxRecDepth 100000 in
theorem a_ok231 : ∀ r ∈ a_c231, a_rowok 231 r = true := a_all20 4 (Nat.le_of_ble_eq_true rfl) (fun j hj => by
  match j, hj with
  | 0, _ => exact a_ok231_0
  | 1, _ => exact a_ok231_1
  | 2, _ => exact a_ok231_2
  | 3, _ => exact a_ok231_3
  | j + 4, h => exact absurd h (by omega))
theorem a_ok232_0 : ((a_c232.drop (20 * 0)).take 20).all (a_rowok 232) = true := by decide +kernel
theorem a_ok232_1 : ((a_c232.drop (20 * 1)).take 20).all (a_rowok 232) = true := by decide +kernel
theorem a_ok232_2 : ((a_c232.drop (20 * 2)).take 20).all (a_rowok 232) = true := by decide +kernel
theorem a_ok232_3 : ((a_c232.drop (20 * 3)).take 20).all (a_rowok 232) = true := by decide +kernel
set_option maxRecDepth 100000 in
theorem a_ok232 : ∀ r ∈ a_c232, a_rowok 232 r = true := a_all20 4 (Nat.le_of_ble_eq_true rfl) (fun j hj => by
  match j, hj with
  | 0, _ => exact a_ok232_0
  | 1, _ => exact a_ok232_1
  | 2, _ => exact a_ok232_2
  | 3, _ => exact a_ok232_3
  | j + 4, h => exact absurd h (by omega))
theorem a_ok233_0 : ((a_c233.drop (20 * 0)).take 20).all (a_rowok 233) = true := by decide +kernel
theorem a_ok233_1 : ((a_c233.drop (20 * 1)).take 20).all (a_rowok 233) = true := by decide +kernel
theorem a_ok233_2 : ((a_c233.drop (20 * 2)).take 20).all (a_rowok 233) = true := by decide +kernel
set_option maxRecDepth 100000 in
theorem a_ok233 : ∀ r ∈ a_c233, a_rowok 233 r = true := a_all20 3 (Nat.le_of_ble_eq_true rfl) (fun j hj => by
  match j, hj with
  | 0, _ => exact a_ok233_0
  | 1, _ => exact a_ok233_1
  | 2, _ => exact a_ok233_2
  | j + 3, h => exact absurd h (by omega))
theorem a_ok234_0 : ((a_c234.drop (20 * 0)).take 20).all (a_rowok 234) = true := by decide +kernel
theorem a_ok234_1 : ((a_c234.drop (20 * 1)).take 20).all (a_rowok 234) = true := by decide +kernel
theorem a_ok234_2 : ((a_c234.drop (20 * 2)).take 20).all (a_rowok 234) = true := by decide +kernel
theorem a_ok234_3 : ((a_c234.drop (20 * 3)).take 20).all (a_rowok 234) = true := by decide +kernel
theorem a_ok234_4 : ((a_c234.drop (20 * 4)).take 20).all (a_rowok 234) = true := by decide +kernel
set_option maxRecDepth 100000 in
theorem a_ok234 : ∀ r ∈ a_c234, a_rowok 234 r = true := a_all20 5 (Nat.le_of_ble_eq_true rfl) (fun j hj => by
  match j, hj with
  | 0, _ => exact a_ok234_0
  | 1, _ => exact a_ok234_1
  | 2, _ => exact a_ok234_2
  | 3, _ => exact a_ok234_3
  | 4, _ => exact a_ok234_4
  | j + 5, h => exact absurd h (by omega))
theorem a_ok235_0 : ((a_c235.drop (20 * 0)).take 20).all (a_rowok 235) = true := by decide +kernel
set_option maxRecDepth 100000 in
theorem a_ok235 : ∀ r ∈ a_c235, a_rowok 235 r = true := a_all20 1 (Nat.le_of_ble_eq_true rfl) (fun j hj => by
  match j, hj with
  | 0, _ => exact a_ok235_0
  | j + 1, h => exact absurd h (by omega))
theorem a_ok236_0 : ((a_c236.drop (20 * 0)).take 20).all (a_rowok 236) = true := by decide +kernel
theorem a_ok236_1 : ((a_c236.drop (20 * 1)).take 20).all (a_rowok 236) = true := by decide +kernel
theorem a_ok236_2 : ((a_c236.drop (20 * 2)).take 20).all (a_rowok 236) = true := by decide +kernel
set_option maxRecDepth 100000 in
theorem a_ok236 : ∀ r ∈ a_c236, a_rowok 236 r = true := a_all20 3 (Nat.le_of_ble_eq_true rfl) (fun j hj => by
  match j, hj with
  | 0, _ => exact a_ok236_0
  | 1, _ => exact a_ok236_1
  | 2, _ => exact a_ok236_2
  | j + 3, h => exact absurd h (by omega))
theorem a_ok237_0 : ((a_c237.drop (20 * 0)).take 20).all (a_rowok 237) = true := by decide +kernel
theorem a_ok237_1 : ((a_c237.drop (20 * 1)).take 20).all (a_rowok 237) = true := by decide +kernel
theorem a_ok237_2 : ((a_c237.drop (20 * 2)).take 20).all (a_rowok 237) = true := by decide +kernel
set_option maxRecDepth 100000 in
theorem a_ok237 : ∀ r ∈ a_c237, a_rowok 237 r = true := a_all20 3 (Nat.le_of_ble_eq_true rfl) (fun j hj => by
  match j, hj with
  | 0, _ => exact a_ok237_0
  | 1, _ => exact a_ok237_1
  | 2, _ => exact a_ok237_2
  | j + 3, h => exact absurd h (by omega))
theorem a_ok238_0 : ((a_c238.drop (20 * 0)).take 20).all (a_rowok 238) = true := by decide +kernel
theorem a_ok238_1 : ((a_c238.drop (20 * 1)).take 20).all (a_rowok 238) = true := by decide +kernel
theorem a_ok238_2 : ((a_c238.drop (20 * 2)).take 20).all (a_rowok 238) = true := by decide +kernel
theorem a_ok238_3 : ((a_c238.drop (20 * 3)).take 20).all (a_rowok 238) = true := by decide +kernel
set_option maxRecDepth 100000 in
theorem a_ok238 : ∀ r ∈ a_c238, a_rowok 238 r = true := a_all20 4 (Nat.le_of_ble_eq_true rfl) (fun j hj => by
  match j, hj with
  | 0, _ => exact a_ok238_0
  | 1, _ => exact a_ok238_1
  | 2, _ => exact a_ok238_2
  | 3, _ => exact a_ok238_3
  | j + 4, h => exact absurd h (by omega))
theorem a_ok239_0 : ((a_c239.drop (20 * 0)).take 20).all (a_rowok 239) = true := by decide +kernel
theorem a_ok239_1 : ((a_c239.drop (20 * 1)).take 20).all (a_rowok 239) = true := by decide +kernel
theorem a_ok239_2 : ((a_c239.drop (20 * 2)).take 20).all (a_rowok 239) = true := by decide +kernel
theorem a_ok239_3 : ((a_c239.drop (20 * 3)).take 20).all (a_rowok 239) = true := by decide +kernel
set_option maxRecDepth 100000 in
theorem a_ok239 : ∀ r ∈ a_c239, a_rowok 239 r = true := a_all20 4 (Nat.le_of_ble_eq_true rfl) (fun j hj => by
  match j, hj with
  | 0, _ => exact a_ok239_0
  | 1, _ => exact a_ok239_1
  | 2, _ => exact a_ok239_2
  | 3, _ => exact a_ok239_3
  | j + 4, h => exact absurd h (by omega))
theorem a_ok240_0 : ((a_c240.drop (20 * 0)).take 20).all (a_rowok 240) = true := by decide +kernel
theorem a_ok240_1 : ((a_c240.drop (20 * 1)).take 20).all (a_rowok 240) = true := by decide +kernel
theorem a_ok240_2 : ((a_c240.drop (20 * 2)).take 20).all (a_rowok 240) = true := by decide +kernel
theorem a_ok240_3 : ((a_c240.drop (20 * 3)).take 20).all (a_rowok 240) = true := by decide +kernel
theorem a_ok240_4 : ((a_c240.drop (20 * 4)).take 20).all (a_rowok 240) = true := by decide +kernel
set_option maxRecDepth 100000 in
theorem a_ok240 : ∀ r ∈ a_c240, a_rowok 240 r = true := a_all20 5 (Nat.le_of_ble_eq_true rfl) (fun j hj => by
  match j, hj with
  | 0, _ => exact a_ok240_0
  | 1, _ => exact a_ok240_1
  | 2, _ => exact a_ok240_2
  | 3, _ => exact a_ok240_3
  | 4, _ => exact a_ok240_4
  | j + 5, h => exact absurd h (by omega))
theorem a_ok241_0 : ((a_c241.drop (20 * 0)).take 20).all (a_rowok 241) = true := by decide +kernel
theorem a_ok241_1 : ((a_c241.drop (20 * 1)).take 20).all (a_rowok 241) = true := by decide +kernel
theorem a_ok241_2 : ((a_c241.drop (20 * 2)).take 20).all (a_rowok 241) = true := by decide +kernel
theorem a_ok241_3 : ((a_c241.drop (20 * 3)).take 20).all (a_rowok 241) = true := by decide +kernel
theorem a_ok241_4 : ((a_c241.drop (20 * 4)).take 20).all (a_rowok 241) = true := by decide +kernel
theorem a_ok241_5 : ((a_c241.drop (20 * 5)).take 20).all (a_rowok 241) = true := by decide +kernel
set_option maxRecDepth 100000 in
theorem a_ok241 : ∀ r ∈ a_c241, a_rowok 241 r = true := a_all20 6 (Nat.le_of_ble_eq_true rfl) (fun j hj => by
  match j, hj with
  | 0, _ => exact a_ok241_0
  | 1, _ => exact a_ok241_1
  | 2, _ => exact a_ok241_2
  | 3, _ => exact a_ok241_3
  | 4, _ => exact a_ok241_4
  | 5, _ => exact a_ok241_5
  | j + 6, h => exact absurd h (by omega))
theorem a_ok242_0 : ((a_c242.drop (20 * 0)).take 20).all (a_rowok 242) = true := by decide +kernel
theorem a_ok242_1 : ((a_c242.drop (20 * 1)).take 20).all (a_rowok 242) = true := by decide +kernel
theorem a_ok242_2 : ((a_c242.drop (20 * 2)).take 20).all (a_rowok 242) = true := by decide +kernel
set_option maxRecDepth 100000 in
theorem a_ok242 : ∀ r ∈ a_c242, a_rowok 242 r = true := a_all20 3 (Nat.le_of_ble_eq_true rfl) (fun j hj => by
  match j, hj with
  | 0, _ => exact a_ok242_0
  | 1, _ => exact a_ok242_1
  | 2, _ => exact a_ok242_2
  | j + 3, h => exact absurd h (by omega))
theorem a_ok243_0 : ((a_c243.drop (20 * 0)).take 20).all (a_rowok 243) = true := by decide +kernel
set_option maxRecDepth 100000 in
theorem a_ok243 : ∀ r ∈ a_c243, a_rowok 243 r = true := a_all20 1 (Nat.le_of_ble_eq_true rfl) (fun j hj => by
  match j, hj with
  | 0, _ => exact a_ok243_0
  | j + 1, h => exact absurd h (by omega))
theorem a_ok244_0 : ((a_c244.drop (20 * 0)).take 20).all (a_rowok 244) = true := by decide +kernel
set_option maxRecDepth 100000 in
theorem a_ok244 : ∀ r ∈ a_c244, a_rowok 244 r = true := a_all20 1 (Nat.le_of_ble_eq_true rfl) (fun j hj => by
  match j, hj with
  | 0, _ => exact a_ok244_0
  | j + 1, h => exact absurd h (by omega))
theorem a_ok245_0 : ((a_c245.drop (20 * 0)).take 20).all (a_rowok 245) = true := by decide +kernel
set_option maxRecDepth 100000 in
theorem a_ok245 : ∀ r ∈ a_c245, a_rowok 245 r = true := a_all20 1 (Nat.le_of_ble_eq_true rfl) (fun j hj => by
  match j, hj with
  | 0, _ => exact a_ok245_0
  | j + 1, h => exact absurd h (by omega))
theorem a_ok246_0 : ((a_c246.drop (20 * 0)).take 20).all (a_rowok 246) = true := by decide +kernel
theorem a_ok246_1 : ((a_c246.drop (20 * 1)).take 20).all (a_rowok 246) = true := by decide +kernel
theorem a_ok246_2 : ((a_c246.drop (20 * 2)).take 20).all (a_rowok 246) = true := by decide +kernel
theorem a_ok246_3 : ((a_c246.drop (20 * 3)).take 20).all (a_rowok 246) = true := by decide +kernel
theorem a_ok246_4 : ((a_c246.drop (20 * 4)).take 20).all (a_rowok 246) = true := by decide +kernel
set_option maxRecDepth 100000 in
theorem a_ok246 : ∀ r ∈ a_c246, a_rowok 246 r = true := a_all20 5 (Nat.le_of_ble_eq_true rfl) (fun j hj => by
  match j, hj with
  | 0, _ => exact a_ok246_0
  | 1, _ => exact a_ok246_1
  | 2, _ => exact a_ok246_2
  | 3, _ => exact a_ok246_3
  | 4, _ => exact a_ok246_4
  | j + 5, h => exact absurd h (by omega))
theorem a_ok247_0 : ((a_c247.drop (20 * 0)).take 20).all (a_rowok 247) = true := by decide +kernel
theorem a_ok247_1 : ((a_c247.drop (20 * 1)).take 20).all (a_rowok 247) = true := by decide +kernel
set_option maxRecDepth 100000 in
theorem a_ok247 : ∀ r ∈ a_c247, a_rowok 247 r = true := a_all20 2 (Nat.le_of_ble_eq_true rfl) (fun j hj => by
  match j, hj with
  | 0, _ => exact a_ok247_0
  | 1, _ => exact a_ok247_1
  | j + 2, h => exact absurd h (by omega))
theorem a_ok248_0 : ((a_c248.drop (20 * 0)).take 20).all (a_rowok 248) = true := by decide +kernel
theorem a_ok248_1 : ((a_c248.drop (20 * 1)).take 20).all (a_rowok 248) = true := by decide +kernel
set_option maxRecDepth 100000 in
theorem a_ok248 : ∀ r ∈ a_c248, a_rowok 248 r = true := a_all20 2 (Nat.le_of_ble_eq_true rfl) (fun j hj => by
  match j, hj with
  | 0, _ => exact a_ok248_0
  | 1, _ => exact a_ok248_1
  | j + 2, h => exact absurd h (by omega))
theorem a_ok249_0 : ((a_c249.drop (20 * 0)).take 20).all (a_rowok 249) = true := by decide +kernel
theorem a_ok249_1 : ((a_c249.drop (20 * 1)).take 20).all (a_rowok 249) = true := by decide +kernel
set_option maxRecDepth 100000 in
theorem a_ok249 : ∀ r ∈ a_c249, a_rowok 249 r = true := a_all20 2 (Nat.le_of_ble_eq_true rfl) (fun j hj => by
  match j, hj with
  | 0, _ => exact a_ok249_0
  | 1, _ => exact a_ok249_1
  | j + 2, h => exact absurd h (by omega))
theorem a_ok250_0 : ((a_c250.drop (20 * 0)).take 20).all (a_rowok 250) = true := by decide +kernel
set_option maxRecDepth 100000 in
theorem a_ok250 : ∀ r ∈ a_c250, a_rowok 250 r = true := a_all20 1 (Nat.le_of_ble_eq_true rfl) (fun j hj => by
  match j, hj with
  | 0, _ => exact a_ok250_0
  | j + 1, h => exact absurd h (by omega))
theorem a_ok251_0 : ((a_c251.drop (20 * 0)).take 20).all (a_rowok 251) = true := by decide +kernel
set_option maxRecDepth 100000 in
theorem a_ok251 : ∀ r ∈ a_c251, a_rowok 251 r = true := a_all20 1 (Nat.le_of_ble_eq_true rfl) (fun j hj => by
  match j, hj with
  | 0, _ => exact a_ok251_0
  | j + 1, h => exact absurd h (by omega))
theorem a_ok252_0 : ((a_c252.drop (20 * 0)).take 20).all (a_rowok 252) = true := by decide +kernel
theorem a_ok252_1 : ((a_c252.drop (20 * 1)).take 20).all (a_rowok 252) = true := by decide +kernel
theorem a_ok252_2 : ((a_c252.drop (20 * 2)).take 20).all (a_rowok 252) = true := by decide +kernel
set_option maxRecDepth 100000 in
theorem a_ok252 : ∀ r ∈ a_c252, a_rowok 252 r = true := a_all20 3 (Nat.le_of_ble_eq_true rfl) (fun j hj => by
  match j, hj with
  | 0, _ => exact a_ok252_0
  | 1, _ => exact a_ok252_1
  | 2, _ => exact a_ok252_2
  | j + 3, h => exact absurd h (by omega))
theorem a_ok253_0 : ((a_c253.drop (20 * 0)).take 20).all (a_rowok 253) = true := by decide +kernel
theorem a_ok253_1 : ((a_c253.drop (20 * 1)).take 20).all (a_rowok 253) = true := by decide +kernel
set_option maxRecDepth 100000 in
theorem a_ok253 : ∀ r ∈ a_c253, a_rowok 253 r = true := a_all20 2 (Nat.le_of_ble_eq_true rfl) (fun j hj => by
  match j, hj with
  | 0, _ => exact a_ok253_0
  | 1, _ => exact a_ok253_1
  | j + 2, h => exact absurd h (by omega))
theorem a_ok254_0 : ((a_c254.drop (20 * 0)).take 20).all (a_rowok 254) = true := by decide +kernel
set_option maxRecDepth 100000 in
theorem a_ok254 : ∀ r ∈ a_c254, a_rowok 254 r = true := a_all20 1 (Nat.le_of_ble_eq_true rfl) (fun j hj => by
  match j, hj with
  | 0, _ => exact a_ok254_0
  | j + 1, h => exact absurd h (by omega))
theorem a_ok255_0 : ((a_c255.drop (20 * 0)).take 20).all (a_rowok 255) = true := by decide +kernel
theorem a_ok255_1 : ((a_c255.drop (20 * 1)).take 20).all (a_rowok 255) = true := by decide +kernel
theorem a_ok255_2 : ((a_c255.drop (20 * 2)).take 20).all (a_rowok 255) = true := by decide +kernel
theorem a_ok255_3 : ((a_c255.drop (20 * 3)).take 20).all (a_rowok 255) = true := by decide +kernel
theorem a_ok255_4 : ((a_c255.drop (20 * 4)).take 20).all (a_rowok 255) = true := by decide +kernel
set_option maxRecDepth 100000 in
theorem a_ok255 : ∀ r ∈ a_c255, a_rowok 255 r = true := a_all20 5 (Nat.le_of_ble_eq_true rfl) (fun j hj => by
  match j, hj with
  | 0, _ => exact a_ok255_0
  | 1, _ => exact a_ok255_1
  | 2, _ => exact a_ok255_2
  | 3, _ => exact a_ok255_3
  | 4, _ => exact a_ok255_4
  | j + 5, h => exact absurd h (by omega))
theorem a_ok256_0 : ((a_c256.drop (20 * 0)).take 20).all (a_rowok 256) = true := by decide +kernel
set_option maxRecDepth 100000 in
theorem a_ok256 : ∀ r ∈ a_c256, a_rowok 256 r = true := a_all20 1 (Nat.le_of_ble_eq_true rfl) (fun j hj => by
  match j, hj with
  | 0, _ => exact a_ok256_0
  | j + 1, h => exact absurd h (by omega))
theorem a_ok257_0 : ((a_c257.drop (20 * 0)).take 20).all (a_rowok 257) = true := by decide +kernel
theorem a_ok257_1 : ((a_c257.drop (20 * 1)).take 20).all (a_rowok 257) = true := by decide +kernel
set_option maxRecDepth 100000 in
theorem a_ok257 : ∀ r ∈ a_c257, a_rowok 257 r = true := a_all20 2 (Nat.le_of_ble_eq_true rfl) (fun j hj => by
  match j, hj with
  | 0, _ => exact a_ok257_0
  | 1, _ => exact a_ok257_1
  | j + 2, h => exact absurd h (by omega))
theorem a_ok258_0 : ((a_c258.drop (20 * 0)).take 20).all (a_rowok 258) = true := by decide +kernel
theorem a_ok258_1 : ((a_c258.drop (20 * 1)).take 20).all (a_rowok 258) = true := by decide +kernel
set_option maxRecDepth 100000 in
theorem a_ok258 : ∀ r ∈ a_c258, a_rowok 258 r = true := a_all20 2 (Nat.le_of_ble_eq_true rfl) (fun j hj => by
  match j, hj with
  | 0, _ => exact a_ok258_0
  | 1, _ => exact a_ok258_1
  | j + 2, h => exact absurd h (by omega))
theorem a_ok259_0 : ((a_c259.drop (20 * 0)).take 20).all (a_rowok 259) = true := by decide +kernel
theorem a_ok259_1 : ((a_c259.drop (20 * 1)).take 20).all (a_rowok 259) = true := by decide +kernel
set_option maxRecDepth 100000 in
theorem a_ok259 : ∀ r ∈ a_c259, a_rowok 259 r = true := a_all20 2 (Nat.le_of_ble_eq_true rfl) (fun j hj => by
  match j, hj with
  | 0, _ => exact a_ok259_0
  | 1, _ => exact a_ok259_1
  | j + 2, h => exact absurd h (by omega))
theorem a_ok260_0 : ((a_c260.drop (20 * 0)).take 20).all (a_rowok 260) = true := by decide +kernel
theorem a_ok260_1 : ((a_c260.drop (20 * 1)).take 20).all (a_rowok 260) = true := by decide +kernel
set_option maxRecDepth 100000 in
theorem a_ok260 : ∀ r ∈ a_c260, a_rowok 260 r = true := a_all20 2 (Nat.le_of_ble_eq_true rfl) (fun j hj => by
  match j, hj with
  | 0, _ => exact a_ok260_0
  | 1, _ => exact a_ok260_1
  | j + 2, h => exact absurd h (by omega))
theorem a_ok261_0 : ((a_c261.drop (20 * 0)).take 20).all (a_rowok 261) = true := by decide +kernel
theorem a_ok261_1 : ((a_c261.drop (20 * 1)).take 20).all (a_rowok 261) = true := by decide +kernel
theorem a_ok261_2 : ((a_c261.drop (20 * 2)).take 20).all (a_rowok 261) = true := by decide +kernel
set_option maxRecDepth 100000 in
theorem a_ok261 : ∀ r ∈ a_c261, a_rowok 261 r = true := a_all20 3 (Nat.le_of_ble_eq_true rfl) (fun j hj => by
  match j, hj with
  | 0, _ => exact a_ok261_0
  | 1, _ => exact a_ok261_1
  | 2, _ => exact a_ok261_2
  | j + 3, h => exact absurd h (by omega))
theorem a_ok262_0 : ((a_c262.drop (20 * 0)).take 20).all (a_rowok 262) = true := by decide +kernel
theorem a_ok262_1 : ((a_c262.drop (20 * 1)).take 20).all (a_rowok 262) = true := by decide +kernel
theorem a_ok262_2 : ((a_c262.drop (20 * 2)).take 20).all (a_rowok 262) = true := by decide +kernel
theorem a_ok262_3 : ((a_c262.drop (20 * 3)).take 20).all (a_rowok 262) = true := by decide +kernel
theorem a_ok262_4 : ((a_c262.drop (20 * 4)).take 20).all (a_rowok 262) = true := by decide +kernel
theorem a_ok262_5 : ((a_c262.drop (20 * 5)).take 20).all (a_rowok 262) = true := by decide +kernel
theorem a_ok262_6 : ((a_c262.drop (20 * 6)).take 20).all (a_rowok 262) = true := by decide +kernel
theorem a_ok262_7 : ((a_c262.drop (20 * 7)).take 20).all (a_rowok 262) = true := by decide +kernel
theorem a_ok262_8 : ((a_c262.drop (20 * 8)).take 20).all (a_rowok 262) = true := by decide +kernel
theorem a_ok262_9 : ((a_c262.drop (20 * 9)).take 20).all (a_rowok 262) = true := by decide +kernel
theorem a_ok262_10 : ((a_c262.drop (20 * 10)).take 20).all (a_rowok 262) = true := by decide +kernel
theorem a_ok262_11 : ((a_c262.drop (20 * 11)).take 20).all (a_rowok 262) = true := by decide +kernel
theorem a_ok262_12 : ((a_c262.drop (20 * 12)).take 20).all (a_rowok 262) = true := by decide +kernel
theorem a_ok262_13 : ((a_c262.drop (20 * 13)).take 20).all (a_rowok 262) = true := by decide +kernel
theorem a_ok262_14 : ((a_c262.drop (20 * 14)).take 20).all (a_rowok 262) = true := by decide +kernel
theorem a_ok262_15 : ((a_c262.drop (20 * 15)).take 20).all (a_rowok 262) = true := by decide +kernel
theorem a_ok262_16 : ((a_c262.drop (20 * 16)).take 20).all (a_rowok 262) = true := by decide +kernel
theorem a_ok262_17 : ((a_c262.drop (20 * 17)).take 20).all (a_rowok 262) = true := by decide +kernel
theorem a_ok262_18 : ((a_c262.drop (20 * 18)).take 20).all (a_rowok 262) = true := by decide +kernel
theorem a_ok262_19 : ((a_c262.drop (20 * 19)).take 20).all (a_rowok 262) = true := by decide +kernel
theorem a_ok262_20 : ((a_c262.drop (20 * 20)).take 20).all (a_rowok 262) = true := by decide +kernel
theorem a_ok262_21 : ((a_c262.drop (20 * 21)).take 20).all (a_rowok 262) = true := by decide +kernel
theorem a_ok262_22 : ((a_c262.drop (20 * 22)).take 20).all (a_rowok 262) = true := by decide +kernel
theorem a_ok262_23 : ((a_c262.drop (20 * 23)).take 20).all (a_rowok 262) = true := by decide +kernel
theorem a_ok262_24 : ((a_c262.drop (20 * 24)).take 20).all (a_rowok 262) = true := by decide +kernel
theorem a_ok262_25 : ((a_c262.drop (20 * 25)).take 20).all (a_rowok 262) = true := by decide +kernel
theorem a_ok262_26 : ((a_c262.drop (20 * 26)).take 20).all (a_rowok 262) = true := by decide +kernel
theorem a_ok262_27 : ((a_c262.drop (20 * 27)).take 20).all (a_rowok 262) = true := by decide +kernel
theorem a_ok262_28 : ((a_c262.drop (20 * 28)).take 20).all (a_rowok 262) = true := by decide +kernel
theorem a_ok262_29 : ((a_c262.drop (20 * 29)).take 20).all (a_rowok 262) = true := by decide +kernel
theorem a_ok262_30 : ((a_c262.drop (20 * 30)).take 20).all (a_rowok 262) = true := by decide +kernel
theorem a_ok262_31 : ((a_c262.drop (20 * 31)).take 20).all (a_rowok 262) = true := by decide +kernel
theorem a_ok262_32 : ((a_c262.drop (20 * 32)).take 20).all (a_rowok 262) = true := by decide +kernel
theorem a_ok262_33 : ((a_c262.drop (20 * 33)).take 20).all (a_rowok 262) = true := by decide +kernel
theorem a_ok262_34 : ((a_c262.drop (20 * 34)).take 20).all (a_rowok 262) = true := by decide +kernel
theorem a_ok262_35 : ((a_c262.drop (20 * 35)).take 20).all (a_rowok 262) = true := by decide +kernel
theorem a_ok262_36 : ((a_c262.drop (20 * 36)).take 20).all (a_rowok 262) = true := by decide +kernel
theorem a_ok262_37 : ((a_c262.drop (20 * 37)).take 20).all (a_rowok 262) = true := by decide +kernel
theorem a_ok262_38 : ((a_c262.drop (20 * 38)).take 20).all (a_rowok 262) = true := by decide +kernel
theorem a_ok262_39 : ((a_c262.drop (20 * 39)).take 20).all (a_rowok 262) = true := by decide +kernel
theorem a_ok262_40 : ((a_c262.drop (20 * 40)).take 20).all (a_rowok 262) = true := by decide +kernel
theorem a_ok262_41 : ((a_c262.drop (20 * 41)).take 20).all (a_rowok 262) = true := by decide +kernel
theorem a_ok262_42 : ((a_c262.drop (20 * 42)).take 20).all (a_rowok 262) = true := by decide +kernel
set_option maxRecDepth 100000 in
theorem a_ok262 : ∀ r ∈ a_c262, a_rowok 262 r = true := a_all20 43 (Nat.le_of_ble_eq_true rfl) (fun j hj => by
  match j, hj with
  | 0, _ => exact a_ok262_0
  | 1, _ => exact a_ok262_1
  | 2, _ => exact a_ok262_2
  | 3, _ => exact a_ok262_3
  | 4, _ => exact a_ok262_4
  | 5, _ => exact a_ok262_5
  | 6, _ => exact a_ok262_6
  | 7, _ => exact a_ok262_7
  | 8, _ => exact a_ok262_8
  | 9, _ => exact a_ok262_9
  | 10, _ => exact a_ok262_10
  | 11, _ => exact a_ok262_11
  | 12, _ => exact a_ok262_12
  | 13, _ => exact a_ok262_13
  | 14, _ => exact a_ok262_14
  | 15, _ => exact a_ok262_15
  | 16, _ => exact a_ok262_16
  | 17, _ => exact a_ok262_17
  | 18, _ => exact a_ok262_18
  | 19, _ => exact a_ok262_19
  | 20, _ => exact a_ok262_20
  | 21, _ => exact a_ok262_21
  | 22, _ => exact a_ok262_22
  | 23, _ => exact a_ok262_23
  | 24, _ => exact a_ok262_24
  | 25, _ => exact a_ok262_25
  | 26, _ => exact a_ok262_26
  | 27, _ => exact a_ok262_27
  | 28, _ => exact a_ok262_28
  | 29, _ => exact a_ok262_29
  | 30, _ => exact a_ok262_30
  | 31, _ => exact a_ok262_31
  | 32, _ => exact a_ok262_32
  | 33, _ => exact a_ok262_33
  | 34, _ => exact a_ok262_34
  | 35, _ => exact a_ok262_35
  | 36, _ => exact a_ok262_36
  | 37, _ => exact a_ok262_37
  | 38, _ => exact a_ok262_38
  | 39, _ => exact a_ok262_39
  | 40, _ => exact a_ok262_40
  | 41, _ => exact a_ok262_41
  | 42, _ => exact a_ok262_42
  | j + 43, h => exact absurd h (by omega))
theorem a_ok263_0 : ((a_c263.drop (20 * 0)).take 20).all (a_rowok 263) = true := by decide +kernel
set_option maxRecDepth 100000 in
theorem a_ok263 : ∀ r ∈ a_c263, a_rowok 263 r = true := a_all20 1 (Nat.le_of_ble_eq_true rfl) (fun j hj => by
  match j, hj with
  | 0, _ => exact a_ok263_0
  | j + 1, h => exact absurd h (by omega))
theorem a_ok264_0 : ((a_c264.drop (20 * 0)).take 20).all (a_rowok 264) = true := by decide +kernel
set_option maxRecDepth 100000 in
theorem a_ok264 : ∀ r ∈ a_c264, a_rowok 264 r = true := a_all20 1 (Nat.le_of_ble_eq_true rfl) (fun j hj => by
  match j, hj with
  | 0, _ => exact a_ok264_0
  | j + 1, h => exact absurd h (by omega))
theorem a_ok265_0 : ((a_c265.drop (20 * 0)).take 20).all (a_rowok 265) = true := by decide +kernel
theorem a_ok265_1 : ((a_c265.drop (20 * 1)).take 20).all (a_rowok 265) = true := by decide +kernel
theorem a_ok265_2 : ((a_c265.drop (20 * 2)).take 20).all (a_rowok 265) = true := by decide +kernel
set_option maxRecDepth 100000 in
theorem a_ok265 : ∀ r ∈ a_c265, a_rowok 265 r = true := a_all20 3 (Nat.le_of_ble_eq_true rfl) (fun j hj => by
  match j, hj with
  | 0, _ => exact a_ok265_0
  | 1, _ => exact a_ok265_1
  | 2, _ => exact a_ok265_2
  | j + 3, h => exact absurd h (by omega))
theorem a_ok266_0 : ((a_c266.drop (20 * 0)).take 20).all (a_rowok 266) = true := by decide +kernel
set_option maxRecDepth 100000 in
theorem a_ok266 : ∀ r ∈ a_c266, a_rowok 266 r = true := a_all20 1 (Nat.le_of_ble_eq_true rfl) (fun j hj => by
  match j, hj with
  | 0, _ => exact a_ok266_0
  | j + 1, h => exact absurd h (by omega))
theorem a_ok267_0 : ((a_c267.drop (20 * 0)).take 20).all (a_rowok 267) = true := by decide +kernel
set_option maxRecDepth 100000 in
theorem a_ok267 : ∀ r ∈ a_c267, a_rowok 267 r = true := a_all20 1 (Nat.le_of_ble_eq_true rfl) (fun j hj => by
  match j, hj with
  | 0, _ => exact a_ok267_0
  | j + 1, h => exact absurd h (by omega))
theorem a_ok268_0 : ((a_c268.drop (20 * 0)).take 20).all (a_rowok 268) = true := by decide +kernel
set_option maxRecDepth 100000 in
theorem a_ok268 : ∀ r ∈ a_c268, a_rowok 268 r = true := a_all20 1 (Nat.le_of_ble_eq_true rfl) (fun j hj => by
  match j, hj with
  | 0, _ => exact a_ok268_0
  | j + 1, h => exact absurd h (by omega))
theorem a_ok269_0 : ((a_c269.drop (20 * 0)).take 20).all (a_rowok 269) = true := by decide +kernel
set_option maxRecDepth 100000 in
theorem a_ok269 : ∀ r ∈ a_c269, a_rowok 269 r = true := a_all20 1 (Nat.le_of_ble_eq_true rfl) (fun j hj => by
  match j, hj with
  | 0, _ => exact a_ok269_0
  | j + 1, h => exact absurd h (by omega))
theorem a_ok270_0 : ((a_c270.drop (20 * 0)).take 20).all (a_rowok 270) = true := by decide +kernel
set_option maxRecDepth 100000 in
theorem a_ok270 : ∀ r ∈ a_c270, a_rowok 270 r = true := a_all20 1 (Nat.le_of_ble_eq_true rfl) (fun j hj => by
  match j, hj with
  | 0, _ => exact a_ok270_0
  | j + 1, h => exact absurd h (by omega))
theorem a_ok271_0 : ((a_c271.drop (20 * 0)).take 20).all (a_rowok 271) = true := by decide +kernel
set_option maxRecDepth 100000 in
theorem a_ok271 : ∀ r ∈ a_c271, a_rowok 271 r = true := a_all20 1 (Nat.le_of_ble_eq_true rfl) (fun j hj => by
  match j, hj with
  | 0, _ => exact a_ok271_0
  | j + 1, h => exact absurd h (by omega))
theorem a_ok272_0 : ((a_c272.drop (20 * 0)).take 20).all (a_rowok 272) = true := by decide +kernel
set_option maxRecDepth 100000 in
theorem a_ok272 : ∀ r ∈ a_c272, a_rowok 272 r = true := a_all20 1 (Nat.le_of_ble_eq_true rfl) (fun j hj => by
  match j, hj with
  | 0, _ => exact a_ok272_0
  | j + 1, h => exact absurd h (by omega))
theorem a_ok273_0 : ((a_c273.drop (20 * 0)).take 20).all (a_rowok 273) = true := by decide +kernel
set_option maxRecDepth 100000 in
theorem a_ok273 : ∀ r ∈ a_c273, a_rowok 273 r = true := a_all20 1 (Nat.le_of_ble_eq_true rfl) (fun j hj => by
  match j, hj with
  | 0, _ => exact a_ok273_0
  | j + 1, h => exact absurd h (by omega))
theorem a_codes_len : a_codes.length = 274 := by decide +kernel
set_option maxRecDepth 100000 in
theorem a_allok : ∀ (i : Nat) (L : List (Nat × a_Rw)), a_codes[i]? = some L → ∀ r ∈ L, a_rowok i r = true := by
  intro i L h
  match i, h with
  | 0, h => cases h; exact a_ok0
  | 1, h => cases h; exact a_ok1
  | 2, h => cases h; exact a_ok2
  | 3, h => cases h; exact a_ok3
  | 4, h => cases h; exact a_ok4
  | 5, h => cases h; exact a_ok5
  | 6, h => cases h; exact a_ok6
  | 7, h => cases h; exact a_ok7
  | 8, h => cases h; exact a_ok8
  | 9, h => cases h; exact a_ok9
  | 10, h => cases h; exact a_ok10
  | 11, h => cases h; exact a_ok11
  | 12, h => cases h; exact a_ok12
  | 13, h => cases h; exact a_ok13
  | 14, h => cases h; exact a_ok14
  | 15, h => cases h; exact a_ok15
  | 16, h => cases h; exact a_ok16
  | 17, h => cases h; exact a_ok17
  | 18, h => cases h; exact a_ok18
  | 19, h => cases h; exact a_ok19
  | 20, h => cases h; exact a_ok20
  | 21, h => cases h; exact a_ok21
  | 22, h => cases h; exact a_ok22
  | 23, h => cases h; exact a_ok23
  | 24, h => cases h; exact a_ok24
  | 25, h => cases h; exact a_ok25
  | 26, h => cases h; exact a_ok26
  | 27, h => cases h; exact a_ok27
  | 28, h => cases h; exact a_ok28
  | 29, h => cases h; exact a_ok29
  | 30, h => cases h; exact a_ok30
  | 31, h => cases h; exact a_ok31
  | 32, h => cases h; exact a_ok32
  | 33, h => cases h; exact a_ok33
  | 34, h => cases h; exact a_ok34
  | 35, h => cases h; exact a_ok35
  | 36, h => cases h; exact a_ok36
  | 37, h => cases h; exact a_ok37
  | 38, h => cases h; exact a_ok38
  | 39, h => cases h; exact a_ok39
  | 40, h => cases h; exact a_ok40
  | 41, h => cases h; exact a_ok41
  | 42, h => cases h; exact a_ok42
  | 43, h => cases h; exact a_ok43
  | 44, h => cases h; exact a_ok44
  | 45, h => cases h; exact a_ok45
  | 46, h => cases h; exact a_ok46
  | 47, h => cases h; exact a_ok47
  | 48, h => cases h; exact a_ok48
  | 49, h => cases h; exact a_ok49
  | 50, h => cases h; exact a_ok50
  | 51, h => cases h; exact a_ok51
  | 52, h => cases h; exact a_ok52
  | 53, h => cases h; exact a_ok53
  | 54, h => cases h; exact a_ok54
  | 55, h => cases h; exact a_ok55
  | 56, h => cases h; exact a_ok56
  | 57, h => cases h; exact a_ok57
  | 58, h => cases h; exact a_ok58
  | 59, h => cases h; exact a_ok59
  | 60, h => cases h; exact a_ok60
  | 61, h => cases h; exact a_ok61
  | 62, h => cases h; exact a_ok62
  | 63, h => cases h; exact a_ok63
  | 64, h => cases h; exact a_ok64
  | 65, h => cases h; exact a_ok65
  | 66, h => cases h; exact a_ok66
  | 67, h => cases h; exact a_ok67
  | 68, h => cases h; exact a_ok68
  | 69, h => cases h; exact a_ok69
  | 70, h => cases h; exact a_ok70
  | 71, h => cases h; exact a_ok71
  | 72, h => cases h; exact a_ok72
  | 73, h => cases h; exact a_ok73
  | 74, h => cases h; exact a_ok74
  | 75, h => cases h; exact a_ok75
  | 76, h => cases h; exact a_ok76
  | 77, h => cases h; exact a_ok77
  | 78, h => cases h; exact a_ok78
  | 79, h => cases h; exact a_ok79
  | 80, h => cases h; exact a_ok80
  | 81, h => cases h; exact a_ok81
  | 82, h => cases h; exact a_ok82
  | 83, h => cases h; exact a_ok83
  | 84, h => cases h; exact a_ok84
  | 85, h => cases h; exact a_ok85
  | 86, h => cases h; exact a_ok86
  | 87, h => cases h; exact a_ok87
  | 88, h => cases h; exact a_ok88
  | 89, h => cases h; exact a_ok89
  | 90, h => cases h; exact a_ok90
  | 91, h => cases h; exact a_ok91
  | 92, h => cases h; exact a_ok92
  | 93, h => cases h; exact a_ok93
  | 94, h => cases h; exact a_ok94
  | 95, h => cases h; exact a_ok95
  | 96, h => cases h; exact a_ok96
  | 97, h => cases h; exact a_ok97
  | 98, h => cases h; exact a_ok98
  | 99, h => cases h; exact a_ok99
  | 100, h => cases h; exact a_ok100
  | 101, h => cases h; exact a_ok101
  | 102, h => cases h; exact a_ok102
  | 103, h => cases h; exact a_ok103
  | 104, h => cases h; exact a_ok104
  | 105, h => cases h; exact a_ok105
  | 106, h => cases h; exact a_ok106
  | 107, h => cases h; exact a_ok107
  | 108, h => cases h; exact a_ok108
  | 109, h => cases h; exact a_ok109
  | 110, h => cases h; exact a_ok110
  | 111, h => cases h; exact a_ok111
  | 112, h => cases h; exact a_ok112
  | 113, h => cases h; exact a_ok113
  | 114, h => cases h; exact a_ok114
  | 115, h => cases h; exact a_ok115
  | 116, h => cases h; exact a_ok116
  | 117, h => cases h; exact a_ok117
  | 118, h => cases h; exact a_ok118
  | 119, h => cases h; exact a_ok119
  | 120, h => cases h; exact a_ok120
  | 121, h => cases h; exact a_ok121
  | 122, h => cases h; exact a_ok122
  | 123, h => cases h; exact a_ok123
  | 124, h => cases h; exact a_ok124
  | 125, h => cases h; exact a_ok125
  | 126, h => cases h; exact a_ok126
  | 127, h => cases h; exact a_ok127
  | 128, h => cases h; exact a_ok128
  | 129, h => cases h; exact a_ok129
  | 130, h => cases h; exact a_ok130
  | 131, h => cases h; exact a_ok131
  | 132, h => cases h; exact a_ok132
  | 133, h => cases h; exact a_ok133
  | 134, h => cases h; exact a_ok134
  | 135, h => cases h; exact a_ok135
  | 136, h => cases h; exact a_ok136
  | 137, h => cases h; exact a_ok137
  | 138, h => cases h; exact a_ok138
  | 139, h => cases h; exact a_ok139
  | 140, h => cases h; exact a_ok140
  | 141, h => cases h; exact a_ok141
  | 142, h => cases h; exact a_ok142
  | 143, h => cases h; exact a_ok143
  | 144, h => cases h; exact a_ok144
  | 145, h => cases h; exact a_ok145
  | 146, h => cases h; exact a_ok146
  | 147, h => cases h; exact a_ok147
  | 148, h => cases h; exact a_ok148
  | 149, h => cases h; exact a_ok149
  | 150, h => cases h; exact a_ok150
  | 151, h => cases h; exact a_ok151
  | 152, h => cases h; exact a_ok152
  | 153, h => cases h; exact a_ok153
  | 154, h => cases h; exact a_ok154
  | 155, h => cases h; exact a_ok155
  | 156, h => cases h; exact a_ok156
  | 157, h => cases h; exact a_ok157
  | 158, h => cases h; exact a_ok158
  | 159, h => cases h; exact a_ok159
  | 160, h => cases h; exact a_ok160
  | 161, h => cases h; exact a_ok161
  | 162, h => cases h; exact a_ok162
  | 163, h => cases h; exact a_ok163
  | 164, h => cases h; exact a_ok164
  | 165, h => cases h; exact a_ok165
  | 166, h => cases h; exact a_ok166
  | 167, h => cases h; exact a_ok167
  | 168, h => cases h; exact a_ok168
  | 169, h => cases h; exact a_ok169
  | 170, h => cases h; exact a_ok170
  | 171, h => cases h; exact a_ok171
  | 172, h => cases h; exact a_ok172
  | 173, h => cases h; exact a_ok173
  | 174, h => cases h; exact a_ok174
  | 175, h => cases h; exact a_ok175
  | 176, h => cases h; exact a_ok176
  | 177, h => cases h; exact a_ok177
  | 178, h => cases h; exact a_ok178
  | 179, h => cases h; exact a_ok179
  | 180, h => cases h; exact a_ok180
  | 181, h => cases h; exact a_ok181
  | 182, h => cases h; exact a_ok182
  | 183, h => cases h; exact a_ok183
  | 184, h => cases h; exact a_ok184
  | 185, h => cases h; exact a_ok185
  | 186, h => cases h; exact a_ok186
  | 187, h => cases h; exact a_ok187
  | 188, h => cases h; exact a_ok188
  | 189, h => cases h; exact a_ok189
  | 190, h => cases h; exact a_ok190
  | 191, h => cases h; exact a_ok191
  | 192, h => cases h; exact a_ok192
  | 193, h => cases h; exact a_ok193
  | 194, h => cases h; exact a_ok194
  | 195, h => cases h; exact a_ok195
  | 196, h => cases h; exact a_ok196
  | 197, h => cases h; exact a_ok197
  | 198, h => cases h; exact a_ok198
  | 199, h => cases h; exact a_ok199
  | 200, h => cases h; exact a_ok200
  | 201, h => cases h; exact a_ok201
  | 202, h => cases h; exact a_ok202
  | 203, h => cases h; exact a_ok203
  | 204, h => cases h; exact a_ok204
  | 205, h => cases h; exact a_ok205
  | 206, h => cases h; exact a_ok206
  | 207, h => cases h; exact a_ok207
  | 208, h => cases h; exact a_ok208
  | 209, h => cases h; exact a_ok209
  | 210, h => cases h; exact a_ok210
  | 211, h => cases h; exact a_ok211
  | 212, h => cases h; exact a_ok212
  | 213, h => cases h; exact a_ok213
  | 214, h => cases h; exact a_ok214
  | 215, h => cases h; exact a_ok215
  | 216, h => cases h; exact a_ok216
  | 217, h => cases h; exact a_ok217
  | 218, h => cases h; exact a_ok218
  | 219, h => cases h; exact a_ok219
  | 220, h => cases h; exact a_ok220
  | 221, h => cases h; exact a_ok221
  | 222, h => cases h; exact a_ok222
  | 223, h => cases h; exact a_ok223
  | 224, h => cases h; exact a_ok224
  | 225, h => cases h; exact a_ok225
  | 226, h => cases h; exact a_ok226
  | 227, h => cases h; exact a_ok227
  | 228, h => cases h; exact a_ok228
  | 229, h => cases h; exact a_ok229
  | 230, h => cases h; exact a_ok230
  | 231, h => cases h; exact a_ok231
  | 232, h => cases h; exact a_ok232
  | 233, h => cases h; exact a_ok233
  | 234, h => cases h; exact a_ok234
  | 235, h => cases h; exact a_ok235
  | 236, h => cases h; exact a_ok236
  | 237, h => cases h; exact a_ok237
  | 238, h => cases h; exact a_ok238
  | 239, h => cases h; exact a_ok239
  | 240, h => cases h; exact a_ok240
  | 241, h => cases h; exact a_ok241
  | 242, h => cases h; exact a_ok242
  | 243, h => cases h; exact a_ok243
  | 244, h => cases h; exact a_ok244
  | 245, h => cases h; exact a_ok245
  | 246, h => cases h; exact a_ok246
  | 247, h => cases h; exact a_ok247
  | 248, h => cases h; exact a_ok248
  | 249, h => cases h; exact a_ok249
  | 250, h => cases h; exact a_ok250
  | 251, h => cases h; exact a_ok251
  | 252, h => cases h; exact a_ok252
  | 253, h => cases h; exact a_ok253
  | 254, h => cases h; exact a_ok254
  | 255, h => cases h; exact a_ok255
  | 256, h => cases h; exact a_ok256
  | 257, h => cases h; exact a_ok257
  | 258, h => cases h; exact a_ok258
  | 259, h => cases h; exact a_ok259
  | 260, h => cases h; exact a_ok260
  | 261, h => cases h; exact a_ok261
  | 262, h => cases h; exact a_ok262
  | 263, h => cases h; exact a_ok263
  | 264, h => cases h; exact a_ok264
  | 265, h => cases h; exact a_ok265
  | 266, h => cases h; exact a_ok266
  | 267, h => cases h; exact a_ok267
  | 268, h => cases h; exact a_ok268
  | 269, h => cases h; exact a_ok269
  | 270, h => cases h; exact a_ok270
  | 271, h => cases h; exact a_ok271
  | 272, h => cases h; exact a_ok272
  | 273, h => cases h; exact a_ok273
  | i + 274, h => exact absurd (List.getElem?_eq_some_iff.mp h).1 (by rw [a_codes_len]; omega)
end
section
/-! THE ABSTRACT MACHINE: objects are numbers in the order in which they were made; what lies in them is two functions; its steps are defined here, its truth over the machine is proved in the parts behind -/
abbrev a_Hp : Type := List (Nat × Nat) × (Nat → Nat → Option Nat) × (Nat → Nat → Int32) × Nat × (Nat → Int32)
abbrev a_Lc : Type := List (Option Value)
abbrev a_Rs : Type := (Nat × a_Lc × List Value × a_Hp) ⊕ ((Nat × Nat × List Value × List Value) ⊕ Option Value)
def a_CB : Nat := 1000000
def a_up {α : Type} (f : Nat → Nat → α) (o k : Nat) (v : α) : Nat → Nat → α := fun a c => if a = o then (if c = k then v else f a c) else f a c
def a_row {α : Type} (f : Nat → Nat → α) (o : Nat) (g : Nat → α) : Nat → Nat → α := fun a => if a = o then g else f a
def a_nx (pc : Nat) (lc : a_Lc) (st : List Value) (h : a_Hp) : Option a_Rs := some (.inl (pc, lc, st, h))
def a_in (i : Int32) (n : Nat) : Bool := !(decide (i < 0) || decide (n ≤ i.toNatClampNeg))
def a_cmp (c : Jvm.ClassFile.Cond) (x y : Int32) : Bool := match c with
  | .eq => decide (x = y) | .ne => decide (¬ x = y) | .lt => decide (x < y) | .ge => decide (y ≤ x) | .gt => decide (y < x) | .le => decide (x ≤ y)
def a_ins (i pc : Nat) : Option a_Rw := ((a_codes[i]?).getD []).lookup pc
def a_maxL (i : Nat) : Nat := match a_ms[i]? with | some q => q.2.2.1 | none => 0
def a_ret (i : Nat) : Option FieldType := match a_ms[i]? with | some q => q.2.2.2.1 | none => none
def a_FR (i : Nat) : Nat := match a_ms[i]? with | some q => q.2.2.2.2.2.1 | none => 0
def a_LO (i : Nat) : Nat := match a_ms[i]? with | some q => q.2.2.2.2.2.2 | none => 0
def a_y (i : Nat) : MethodName := match a_ms[i]? with | some q => q.1 | none => ⟨"", "", ""⟩
/-- the places of locals that the arguments take -/
def a_slots : List Value → a_Lc
  | [] => []
  | v :: l => if v.category = 2 then some v :: none :: a_slots l else some v :: a_slots l
def a_ent (j : Nat) (as : List Value) : a_Lc := a_slots as ++ List.replicate (a_maxL j - (a_slots as).length) none
def a_op2 (f : Int32 → Int32 → Int32) (pc : Nat) (lc : a_Lc) (st : List Value) (h : a_Hp) : Option a_Rs := match st with
  | .int y :: .int x :: r => a_nx pc lc (.int (f x y) :: r) h
  | _ => none
def a_opd (f : Int32 → Int32 → Int32) (pc : Nat) (lc : a_Lc) (st : List Value) (h : a_Hp) : Option a_Rs := match st with
  | .int y :: .int x :: r => if y = 0 then none else a_nx pc lc (.int (f x y) :: r) h
  | _ => none
def a_ldi (k pc : Nat) (lc : a_Lc) (st : List Value) (h : a_Hp) : Option a_Rs := match lc[k]? with
  | some (some (.int x)) => a_nx pc lc (.int x :: st) h
  | _ => none
def a_ldl (k pc : Nat) (lc : a_Lc) (st : List Value) (h : a_Hp) : Option a_Rs := match lc[k]? with
  | some (some (.long x)) => a_nx pc lc (.long x :: st) h
  | _ => none
def a_lda (k pc : Nat) (lc : a_Lc) (st : List Value) (h : a_Hp) : Option a_Rs := match lc[k]? with
  | some (some (.ref x)) => a_nx pc lc (.ref x :: st) h
  | _ => none
/-- a local may be stored at k: no long lies ahead of it -/
def a_free (k : Nat) (lc : a_Lc) : Bool := decide (k < lc.length) && (match k with
  | 0 => true
  | j + 1 => match lc[j]? with | some (some (.long _)) => false | some (some (.double _)) => false | _ => true)
def a_sti (k pc : Nat) (lc : a_Lc) (st : List Value) (h : a_Hp) : Option a_Rs := match st with
  | .int x :: r => if a_free k lc = true then a_nx pc (lc.set k (some (.int x))) r h else none
  | _ => none
def a_sta (k pc : Nat) (lc : a_Lc) (st : List Value) (h : a_Hp) : Option a_Rs := match st with
  | .ref x :: r => if a_free k lc = true then a_nx pc (lc.set k (some (.ref x))) r h else none
  | _ => none
def a_rv (r : Option Nat) : Value := match r with | some q => .ref q | none => .null
/-- what a field of an object holds -/
def a_fv (c k : Nat) (h : a_Hp) (o : Nat) : Value := if a_fk c k = 1 then a_rv (h.2.1 o k) else .int (h.2.2.1 o k)
def a_getf (c k pc : Nat) (lc : a_Lc) (st : List Value) (h : a_Hp) : Option a_Rs := match st with
  | .ref o :: r =>
    if c = 9 then (if o % 2 = 0 ∧ a_CB ≤ o ∧ (o - a_CB) / 2 < 36 then (if k = 0 then a_nx pc lc (.ref (o + 1) :: r) h else a_nx pc lc (.int 0 :: r) h) else none)
    else if o < a_CB ∧ h.1[o]? = some (10 + c, a_fn c) ∧ k < a_fn c ∧ c < 9 then a_nx pc lc (a_fv c k h o :: r) h else none
  | _ => none
def a_putf (c k pc : Nat) (lc : a_Lc) (st : List Value) (h : a_Hp) : Option a_Rs := match st with
  | .int x :: .ref o :: r => if o < a_CB ∧ h.1[o]? = some (10 + c, a_fn c) ∧ k < a_fn c ∧ c < 9 ∧ (a_fk c k = 0 ∨ (a_fk c k = 2 ∧ (x = 0 ∨ x = 1))) then a_nx pc lc r (h.1, h.2.1, a_up h.2.2.1 o k x, h.2.2.2) else none
  | .ref v :: .ref o :: r => if o < a_CB ∧ h.1[o]? = some (10 + c, a_fn c) ∧ k < a_fn c ∧ c < 9 ∧ a_fk c k = 1 ∧ v < a_CB ∧ v < h.1.length then a_nx pc lc r (h.1, a_up h.2.1 o k (some v), h.2.2.1, h.2.2.2) else none
  | _ => none
def a_ld (t pc : Nat) (lc : a_Lc) (st : List Value) (h : a_Hp) : Option a_Rs := match st with
  | .int i :: .ref o :: r => match h.1[o]? with
    | some (k, n) => if o < a_CB ∧ a_in i n = true ∧ (k = t ∨ (t = 1 ∧ k = 2)) then (if t = 3 then a_nx pc lc (a_rv (h.2.1 o i.toNatClampNeg) :: r) h else a_nx pc lc (.int (h.2.2.1 o i.toNatClampNeg) :: r) h) else none
    | none =>
      if t = 0 ∧ o = a_CB + 1000 ∧ a_in i h.2.2.2.1 = true then a_nx pc lc (.int (h.2.2.2.2 i.toNatClampNeg) :: r) h
      else if t = 1 ∧ o % 2 = 1 ∧ a_CB ≤ o ∧ (o - a_CB) / 2 < 36 ∧ a_in i (a_byt.getD ((o - a_CB) / 2) []).length = true then a_nx pc lc (.int ((a_byt.getD ((o - a_CB) / 2) []).getD i.toNatClampNeg 0) :: r) h
      else none
  | _ => none
/-- what is kept of a number that is stored in an array of a kind -/
def a_nar (k : Nat) (x : Int32) : Int32 := if k = 1 then vp_nar .byte x else if k = 2 then vp_nar .boolean x else x
def a_stx (t pc : Nat) (lc : a_Lc) (st : List Value) (h : a_Hp) : Option a_Rs := match st with
  | .int x :: .int i :: .ref o :: r => match h.1[o]? with
    | some (k, n) => if o < a_CB ∧ a_in i n = true ∧ (k = t ∨ (t = 1 ∧ k = 2)) ∧ t < 2 then a_nx pc lc r (h.1, h.2.1, a_up h.2.2.1 o i.toNatClampNeg (a_nar k x), h.2.2.2) else none
    | none => none
  | .ref v :: .int i :: .ref o :: r => match h.1[o]? with
    | some (k, n) => if o < a_CB ∧ a_in i n = true ∧ k = 3 ∧ t = 3 ∧ v < a_CB ∧ h.1[v]? = some (11, a_fn 1) then a_nx pc lc r (h.1, a_up h.2.1 o i.toNatClampNeg (some v), h.2.2.1, h.2.2.2) else none
    | none => none
  | _ => none
def a_push (k n : Nat) (h : a_Hp) : a_Hp := (h.1 ++ [(k, n)], a_row h.2.1 h.1.length (fun _ => none), a_row h.2.2.1 h.1.length (fun _ => 0), h.2.2.2)
def a_newo (c pc : Nat) (lc : a_Lc) (st : List Value) (h : a_Hp) : Option a_Rs := if h.1.length < a_CB ∧ c < 9 then a_nx pc lc (.ref h.1.length :: st) (a_push (10 + c) (a_fn c) h) else none
def a_newa (k pc : Nat) (lc : a_Lc) (st : List Value) (h : a_Hp) : Option a_Rs := match st with
  | .int n :: r => if h.1.length < a_CB ∧ ¬ n < 0 ∧ n.toNatClampNeg ≤ 100000 ∧ k < 4 then a_nx pc lc (.ref h.1.length :: r) (a_push k n.toNatClampNeg h) else none
  | _ => none
def a_alen (pc : Nat) (lc : a_Lc) (st : List Value) (h : a_Hp) : Option a_Rs := match st with
  | .ref o :: r => match h.1[o]? with
    | some (k, n) => if o < a_CB ∧ k < 4 then a_nx pc lc (.int (Int32.ofNat n) :: r) h else none
    | none =>
      if o = a_CB + 1000 then a_nx pc lc (.int (Int32.ofNat h.2.2.2.1) :: r) h
      else if o % 2 = 1 ∧ a_CB ≤ o ∧ (o - a_CB) / 2 < 36 then a_nx pc lc (.int (Int32.ofNat (a_byt.getD ((o - a_CB) / 2) []).length) :: r) h
      else none
  | _ => none
def a_cpy (pc : Nat) (lc : a_Lc) (st : List Value) (h : a_Hp) : Option a_Rs := match st with
  | .int n :: .int dp :: .ref d :: .int sp :: .ref q :: r => match h.1[q]?, h.1[d]? with
    | some (k0, n0), some (k1, n1) => if q < a_CB ∧ d < a_CB ∧ k0 = k1 ∧ k0 < 2 ∧ ¬ sp < 0 ∧ ¬ dp < 0 ∧ ¬ n < 0 ∧ sp.toNatClampNeg + n.toNatClampNeg ≤ n0 ∧ dp.toNatClampNeg + n.toNatClampNeg ≤ n1 ∧ (r.map (fun v => v.category)).sum ≤ 8 then
        a_nx pc lc r (h.1, h.2.1, a_row h.2.2.1 d (va_cpy (h.2.2.1 q) (h.2.2.1 d) sp.toNatClampNeg dp.toNatClampNeg n.toNatClampNeg), h.2.2.2) else none
    | _, _ => none
  | _ => none
def a_call (k b pc : Nat) (st : List Value) : Option a_Rs := if b ≤ st.length ∧ ((st.drop b).map (fun v => v.category)).sum ≤ 8 ∧ (a_slots (st.take b).reverse).length ≤ a_maxL k then some (.inr (.inl (k, pc, (st.take b).reverse, st.drop b))) else none
/-- whether a receiver is of the class of the method -/
def a_rcv (j b : Nat) (st : List Value) (h : a_Hp) : Bool := match st[b - 1]? with
  | some (.ref o) => (decide (o < a_CB ∧ a_own j < 9 ∧ h.1[o]? = some (10 + a_own j, a_fn (a_own j)))) || decide (a_own j = 9 ∧ o % 2 = 0 ∧ a_CB ≤ o ∧ (o - a_CB) / 2 < 36)
  | _ => false
def a_fits (ty : FieldType) : Bool := match ty with | .object _ => true | .array _ => true | _ => false
def a_step (i : Nat) (rw : a_Rw) (pc : Nat) (lc : a_Lc) (st : List Value) (h : a_Hp) : Option a_Rs := match rw with
  | (ins, n, a, b, v) => match ins with
    | .iconst _ => a_nx (pc + n) lc (.int v :: st) h
    | .bipush _ => a_nx (pc + n) lc (.int v :: st) h
    | .sipush _ => a_nx (pc + n) lc (.int v :: st) h
    | .lconst _ => a_nx (pc + n) lc (.long v.toInt64 :: st) h
    | .ldc _ => if a = 0 then a_nx (pc + n) lc (.int v :: st) h else a_nx (pc + n) lc (.ref (a_CB + 2 * b) :: st) h
    | .ldc_w _ => if a = 0 then a_nx (pc + n) lc (.int v :: st) h else a_nx (pc + n) lc (.ref (a_CB + 2 * b) :: st) h
    | .ldc2_w _ => a_nx (pc + n) lc (.long v.toInt64 :: st) h
    | .iload k => a_ldi k (pc + n) lc st h
    | .iload_n k => a_ldi k (pc + n) lc st h
    | .lload k => a_ldl k (pc + n) lc st h
    | .lload_n k => a_ldl k (pc + n) lc st h
    | .aload k => a_lda k (pc + n) lc st h
    | .aload_n k => a_lda k (pc + n) lc st h
    | .istore k => a_sti k (pc + n) lc st h
    | .istore_n k => a_sti k (pc + n) lc st h
    | .astore k => a_sta k (pc + n) lc st h
    | .astore_n k => a_sta k (pc + n) lc st h
    | .iinc k _ => match lc[k]? with | some (some (.int x)) => if a_free k lc = true then a_nx (pc + n) (lc.set k (some (.int (x + v)))) st h else none | _ => none
    | .iadd => a_op2 (fun x y => x + y) (pc + n) lc st h
    | .isub => a_op2 (fun x y => x - y) (pc + n) lc st h
    | .imul => a_op2 (fun x y => x * y) (pc + n) lc st h
    | .iand => a_op2 (fun x y => x &&& y) (pc + n) lc st h
    | .ior => a_op2 (fun x y => x ||| y) (pc + n) lc st h
    | .ixor => a_op2 (fun x y => x ^^^ y) (pc + n) lc st h
    | .ishl => a_op2 (fun x y => x <<< (y &&& 31)) (pc + n) lc st h
    | .ishr => a_op2 (fun x y => x >>> (y &&& 31)) (pc + n) lc st h
    | .iushr => a_op2 (fun x y => (x.toUInt32 >>> (y.toUInt32 &&& Int32.toUInt32 31)).toInt32) (pc + n) lc st h
    | .idiv => a_opd (fun x y => x / y) (pc + n) lc st h
    | .irem => a_opd (fun x y => x - x / y * y) (pc + n) lc st h
    | .i2l => match st with | .int x :: r => a_nx (pc + n) lc (.long x.toInt64 :: r) h | _ => none
    | .i2b => match st with | .int x :: r => a_nx (pc + n) lc (.int x.toInt8.toInt32 :: r) h | _ => none
    | .i2c => match st with | .int x :: r => a_nx (pc + n) lc (.int (x.toUInt32 % 65536).toInt32 :: r) h | _ => none
    | .lcmp => match st with | .long y :: .long x :: r => a_nx (pc + n) lc (.int (lg_cmp x y) :: r) h | _ => none
    | .pop => match st with | x :: r => if x.category = 1 then a_nx (pc + n) lc r h else none | _ => none
    | .dup => match st with | x :: r => if x.category = 1 then a_nx (pc + n) lc (x :: x :: r) h else none | _ => none
    | .dup2 => match st with | x :: y :: r => if x.category = 1 ∧ y.category = 1 then a_nx (pc + n) lc (x :: y :: x :: y :: r) h else none | _ => none
    | .ifCond c _ => match st with | .int x :: r => a_nx (if a_cmp c x 0 = true then a else pc + n) lc r h | _ => none
    | .if_icmp c _ => match st with | .int y :: .int x :: r => a_nx (if a_cmp c x y = true then a else pc + n) lc r h | _ => none
    | .goto _ => a_nx a lc st h
    | .tableswitch d lo hi os => match st with
      | .int x :: r => if x.toInt < lo ∨ hi < x.toInt then a_nx ((pc : Int) + d).toNat lc r h else (match os[(x.toInt - lo).toNat]? with | some off => a_nx ((pc : Int) + off).toNat lc r h | none => none)
      | _ => none
    | .lookupswitch d ps => match st with
      | .int x :: r => a_nx ((pc : Int) + Op.lookupswitch.offset ps.toList d x.toInt).toNat lc r h
      | _ => none
    | .getfield _ => a_getf a b (pc + n) lc st h
    | .putfield _ => a_putf a b (pc + n) lc st h
    | .getstatic _ => if a = 0 then a_nx (pc + n) lc (.int 1 :: st) h else a_nx (pc + n) lc (.retAddr 0 :: st) h
    | .iaload => a_ld 0 (pc + n) lc st h
    | .baload => a_ld 1 (pc + n) lc st h
    | .aaload => a_ld 3 (pc + n) lc st h
    | .iastore => a_stx 0 (pc + n) lc st h
    | .bastore => a_stx 1 (pc + n) lc st h
    | .aastore => a_stx 3 (pc + n) lc st h
    | .new _ => a_newo a (pc + n) lc st h
    | .newarray _ => a_newa a (pc + n) lc st h
    | .anewarray _ => a_newa 3 (pc + n) lc st h
    | .arraylength => a_alen (pc + n) lc st h
    | .invokevirtual _ => if a < 274 ∧ 0 < b ∧ a_rcv a b st h = true then a_call a b (pc + n) st else none
    | .invokestatic _ => if a = 1001 then a_cpy (pc + n) lc st h else if a < 274 then a_call a b (pc + n) st else none
    | .invokespecial _ => if a = 1000 then (match st with | .ref _ :: r => if (r.map (fun v => v.category)).sum ≤ 8 then a_nx (pc + n) lc r h else none | _ => none)
        else if a < 274 ∧ 0 < b ∧ a_rcv a b st h = true then a_call a b (pc + n) st else none
    | .ireturn => match st, a_ret i with | [.int x], some ty => if narrow ty (.int x) = .int x then some (.inr (.inr (some (.int x)))) else none | _, _ => none
    | .areturn => match st, a_ret i with | [.ref x], some ty => if a_fits ty = true then some (.inr (.inr (some (.ref x)))) else none | _, _ => none
    | .return_ => match st, a_ret i with | [], none => some (.inr (.inr none)) | _, _ => none
    | _ => none
/-- one method on the abstract machine, by a fuel -/
def a_ex : Nat → Nat → Nat → a_Lc → List Value → a_Hp → Option (Option Value × a_Hp)
  | 0, _, _, _, _, _ => none
  | f + 1, i, pc, lc, st, h => match a_ins i pc with
    | none => none
    | some rw => match a_step i rw pc lc st h with
      | none => none
      | some (.inl (pc', lc', st', h')) => a_ex f i pc' lc' st' h'
      | some (.inr (.inl (j, pc', as, r))) => (match a_ex f j 0 (a_ent j as) [] h with
        | none => none
        | some (v, h') => a_ex f i pc' lc (v.toList ++ r) h')
      | some (.inr (.inr v)) => some (v, h)
end
section
/-! THE WORLD OF THE ABSTRACT MACHINE ON THE MACHINE'S HEAP: objects lie one behind the other from an address on -/
abbrev a_G : Type := Nat × (Nat → Nat) × va_G × (ClassId × ClassId × ClassId × ClassId)
def a_ad (G : a_G) (i : Nat) : Nat := if i < a_CB then G.1 + i else G.2.1 (i - a_CB)
/-- a static of the JDK's that is only carried: a reference or null -/
def a_fmt (G : a_G) : Value := if G.2.1 1002 = 0 then .null else .ref (G.2.1 1001)
def a_cv (G : a_G) (v : Value) : Value := match v with | .ref i => .ref (a_ad G i) | .retAddr _ => a_fmt G | w => w
theorem a_cv_int (G : a_G) (x : Int32) : a_cv G (.int x) = .int x := rfl
theorem a_cv_long (G : a_G) (x : Int64) : a_cv G (.long x) = .long x := rfl
theorem a_cv_ref (G : a_G) (x : Nat) : a_cv G (.ref x) = .ref (a_ad G x) := rfl
theorem a_fmt_cat (G : a_G) : (a_fmt G).category = 1 := by
  unfold a_fmt
  split <;> rfl
theorem a_cv_cat (G : a_G) (v : Value) : (a_cv G v).category = v.category := by
  cases v <;> first | rfl | exact a_fmt_cat G
theorem a_ad_dyn (G : a_G) {i : Nat} (h : i < a_CB) : a_ad G i = G.1 + i := by simp [a_ad, h]
theorem a_cat (G : a_G) (st : List Value) : ((st.map (a_cv G)).map fun v => v.category).sum = (st.map fun v => v.category).sum := by
  rw [List.map_map]
  congr 1
  exact List.map_congr_left (fun v _ => a_cv_cat G v)
def a_tys (G : a_G) : List (ClassId × FieldType) := [(G.2.2.2.1, .int), (G.2.2.2.2.1, .byte), (G.2.2.2.2.2.1, .boolean), (G.2.2.2.2.2.2, .object "PreCommitHall$Hall")]
def a_tyk (k : Nat) : FieldType := match k with | 0 => .int | 1 => .byte | 2 => .boolean | _ => .object "PreCommitHall$Hall"
def a_cell (G : a_G) (h : a_Hp) (i : Nat) : va_E := match h.1[i]? with
  | some (k, n) => if k = 0 then .inl (G.2.2.2.1, n, .inl (h.2.2.1 i)) else if k = 1 then .inl (G.2.2.2.2.1, n, .inl (h.2.2.1 i)) else if k = 2 then .inl (G.2.2.2.2.2.1, n, .inl (h.2.2.1 i))
      else if k = 3 then .inl (G.2.2.2.2.2.2, n, .inr (.inr (.inr (.inr (fun j => (h.2.1 i j).map (a_ad G)))))) else .inr (k - 10, (List.range n).map (fun j => a_cv G (a_fv (k - 10) j h i)))
  | none => .inr (0, [])
def a_wl (G : a_G) (h : a_Hp) : va_W := (List.range h.1.length).map (fun i => (G.1 + i, a_cell G h i))
def a_okH (h : a_Hp) : Prop := h.1.length ≤ a_CB ∧ (∀ (o k n : Nat), h.1[o]? = some (k, n) → (k < 4 ∨ (10 ≤ k ∧ k < 19 ∧ n = a_fn (k - 10))) ∧ (k = 1 → ∀ j, fits .byte (.int (h.2.2.1 o j)) = true))
def a_HR (G : a_G) (h : a_Hp) (H : Heap) : Prop := H.size = G.1 + h.1.length ∧ va_P G.2.2.1 a_cl (a_wl G h) H ∧ a_okH h
theorem a_wl_get (G : a_G) (h : a_Hp) {o : Nat} (ho : o < h.1.length) : (a_wl G h)[o]? = some (G.1 + o, a_cell G h o) := by
  simp [a_wl, ho]
theorem a_wl_len (G : a_G) (h : a_Hp) : (a_wl G h).length = h.1.length := by simp [a_wl]
theorem a_wl_D (G : a_G) (h : a_Hp) : va_D (fun q => G.1 ≤ q) (a_wl G h) := by
  have key : ∀ (k : Nat) (q : Nat × va_E), (a_wl G h)[k]? = some q → q.1 = G.1 + k := by
    intro k q hk
    have hl := (List.getElem?_eq_some_iff.mp hk).1
    rw [a_wl_len] at hl
    rw [a_wl_get G h hl] at hk
    cases hk
    rfl
  refine ⟨fun i j x y hi hj hxy => ?_, fun k q hk => ?_⟩
  · rw [key i x hi, key j y hj] at hxy
    omega
  · show G.1 ≤ q.1
    rw [key k q hk]
    omega
/-- one object changed -/
theorem a_wl_set (G : a_G) (h h' : a_Hp) {o : Nat} (ho : o < h.1.length) (h1 : h'.1 = h.1) {e : va_E} (he : a_cell G h' o = e) (hr : ∀ j, j ≠ o → a_cell G h' j = a_cell G h j) : (a_wl G h).set o (G.1 + o, e) = a_wl G h' := by
  apply List.ext_getElem?
  intro j
  by_cases hj : j = o
  · subst hj
    rw [List.getElem?_set_self (by rw [a_wl_len]; exact ho), a_wl_get G h' (by rw [h1]; exact ho), he]
  · rw [List.getElem?_set_ne (Ne.symm hj)]
    by_cases hl : j < h.1.length
    · rw [a_wl_get G h hl, a_wl_get G h' (by rw [h1]; exact hl), hr j hj]
    · rw [List.getElem?_eq_none (by rw [a_wl_len]; omega), List.getElem?_eq_none (by rw [a_wl_len, h1]; omega)]
/-- one object made -/
theorem a_wl_push (G : a_G) (h h' : a_Hp) (q : Nat × Nat) (h1 : h'.1 = h.1 ++ [q]) {e : va_E} (he : a_cell G h' h.1.length = e) (hr : ∀ j, j < h.1.length → a_cell G h' j = a_cell G h j) : a_wl G h ++ [(G.1 + h.1.length, e)] = a_wl G h' := by
  apply List.ext_getElem?
  intro j
  have hl' : h'.1.length = h.1.length + 1 := by rw [h1]; simp
  by_cases hl : j < h.1.length
  · rw [List.getElem?_append_left (by rw [a_wl_len]; exact hl), a_wl_get G h hl, a_wl_get G h' (by omega), hr j hl]
  · rw [List.getElem?_append_right (by rw [a_wl_len]; omega), a_wl_len]
    by_cases hj : j = h.1.length
    · subst hj
      rw [Nat.sub_self, a_wl_get G h' (by omega), he]
      rfl
    · rw [List.getElem?_eq_none (by simp; omega), List.getElem?_eq_none (by rw [a_wl_len]; omega)]
theorem a_mapset {α : Type} (n k : Nat) (f f' : Nat → α) (v : α) (hk : f' k = v) (hr : ∀ j, j ≠ k → f' j = f j) : ((List.range n).map f).set k v = (List.range n).map f' := by
  apply List.ext_getElem?
  intro j
  by_cases hj : j = k
  · subst hj
    by_cases hl : j < n
    · rw [List.getElem?_set_self (by simp; exact hl)]
      simp [hl, hk]
    · rw [List.getElem?_eq_none (by simp; omega), List.getElem?_eq_none (by simp; omega)]
  · rw [List.getElem?_set_ne (Ne.symm hj)]
    by_cases hl : j < n
    · simp [hl, hr j hj]
    · rw [List.getElem?_eq_none (by simp; omega), List.getElem?_eq_none (by simp; omega)]
/-- locals: what is known of them -/
def a_LR (G : a_G) (lc : a_Lc) (ls : Array Slot) (n : Nat) : Prop := lc.length = n ∧ ls.size = n ∧ lv_wf ls ∧ ∀ (j : Nat) (v : Value), lc[j]? = some (some v) → ls[j]? = some (.val (a_cv G v))
def a_lvl (G : a_G) (lc : a_Lc) : List (Nat × Value) := (List.range lc.length).filterMap (fun j => match lc[j]? with | some (some v) => some (j, a_cv G v) | _ => none)
theorem a_lvl_mem {G : a_G} {lc : a_Lc} {q : Nat × Value} : q ∈ a_lvl G lc ↔ ∃ v, lc[q.1]? = some (some v) ∧ q.2 = a_cv G v := by
  constructor
  · intro hq
    obtain ⟨j, -, hj⟩ := List.mem_filterMap.mp hq
    cases e : lc[j]? with
    | none => rw [e] at hj; cases hj
    | some w =>
      cases w with
      | none => rw [e] at hj; cases hj
      | some v => rw [e] at hj; cases hj; exact ⟨v, e, rfl⟩
  · rintro ⟨v, h1, h2⟩
    refine List.mem_filterMap.mpr ⟨q.1, List.mem_range.mpr (List.getElem?_eq_some_iff.mp h1).1, ?_⟩
    rw [h1]
    show some (q.1, a_cv G v) = some q
    rw [← h2]
theorem a_LR_has {G : a_G} {lc : a_Lc} {ls : Array Slot} {n : Nat} (h : a_LR G lc ls n) : lv_has ls n (a_lvl G lc) := by
  refine ⟨h.2.1, h.2.2.1, fun q hq => ?_⟩
  obtain ⟨v, h1, h2⟩ := a_lvl_mem.mp hq
  rw [h2]
  exact h.2.2.2 q.1 v h1
theorem a_LR_set {G : a_G} {lc : a_Lc} {ls' : Array Slot} {n k : Nat} {x : Value} {L : List (Nat × Value)} (hn : lc.length = n) (hL : ∀ q, q ∈ a_lvl G lc → q ∈ L) (hf : a_free k lc = true)
    (h' : lv_has ls' n ((k, a_cv G x) :: L.filter (fun q => !(q.1 == k) && !(q.1 + 1 == k && q.2.category == 2)))) : a_LR G (lc.set k (some x)) ls' n := by
  obtain ⟨h1, h2, h3⟩ := h'
  simp only [a_free, Bool.and_eq_true, decide_eq_true_eq] at hf
  refine ⟨by rw [List.length_set]; exact hn, h1, h2, fun j v hj => ?_⟩
  by_cases hjk : j = k
  · subst hjk
    rw [List.getElem?_set_self hf.1] at hj
    cases hj
    exact h3 (j, a_cv G x) List.mem_cons_self
  · rw [List.getElem?_set_ne (Ne.symm hjk)] at hj
    refine h3 (j, a_cv G v) (List.mem_cons_of_mem _ (List.mem_filter.mpr ⟨hL _ (a_lvl_mem.mpr ⟨v, hj, rfl⟩), ?_⟩))
    simp only [Bool.and_eq_true, Bool.not_eq_true', beq_eq_false_iff_ne, ne_eq, Bool.and_eq_false_imp, beq_iff_eq]
    refine ⟨hjk, fun e => ?_⟩
    subst e
    have hf2 := hf.2
    dsimp only at hf2
    rw [hj] at hf2
    rw [a_cv_cat]
    cases v <;> first | (simp at hf2; done) | (simp [Value.category]; done)
/-- what never changes: the classes, the String constants, the script, the statics -/
def a_strk (G : a_G) (k : Nat) (U : State) : Prop := va_O "java/lang/String" (G.2.1 (2 * k)) (fun q => G.1 ≤ q) U U.heap ∧ va_OF "java/lang/String" "coder" "B" (.int 0) (G.2.1 (2 * k)) (fun q => G.1 ≤ q) U U.heap ∧
  va_OF "java/lang/String" "value" "[B" (.ref (G.2.1 (2 * k + 1))) (G.2.1 (2 * k)) (fun q => G.1 ≤ q) U U.heap ∧ va_T .byte (G.2.1 (2 * k + 1)) (a_byt.getD k []).length (fun j => .int ((a_byt.getD k []).getD j 0)) (fun q => G.1 ≤ q) U U.heap ∧
  ∃ q, a_str[k]? = some q ∧ vk_R (a_cn q.1) q.2.1 q.2.2 (G.2.1 (2 * k)) U
def a_K (G : a_G) (sc : Nat × (Nat → Int32)) (U : State) : Prop := G.1 ≤ U.heap.size ∧ va_K G.2.2.1 a_cl (a_tys G) U ∧ (∀ k, k < 36 → a_strk G k U) ∧ va_X (G.2.1 1000) sc.1 sc.2 U U.heap ∧ G.2.1 1000 < G.1 ∧
  va_Z "java/lang/String" "COMPACT_STRINGS" "Z" (.int 1) (fun q => G.1 ≤ q) U U.heap ∧ va_Z "jdk/internal/util/Preconditions" "SIOOBE_FORMATTER" "Ljava/util/function/BiFunction;" (a_fmt G) (fun q => G.1 ≤ q) U U.heap ∧
  va_AO "PreCommitHall$Hall" U ∧ va_Nw (.methodLinkNest "PreCommitHall" 51 ⟨"PreCommitHall$Draws", "<init>", "()V"⟩ "PreCommitHall") U
/-- the constants stay true at another state of the same run -/
theorem a_K_moved {G : a_G} {sc : Nat × (Nat → Int32)} {s U : State} (hW : s.WarmedH U.vm) (hz : G.1 ≤ U.heap.size) (hq : ∀ a, a < s.heap.size → ¬ G.1 ≤ a → U.heap[a]? = s.heap[a]?) (h : a_K G sc s) : a_K G sc U := by
  obtain ⟨h0, h1, h2, h3, h4, h5, h6, h7, h8⟩ := h
  have hvm := hW.alike
  refine ⟨hz, va_K.moved hvm h1, fun k hk => ?_, va_X.moved hvm (h3.kept (hq _ (by obtain ⟨scr, g, -⟩ := h3; exact (Array.getElem?_eq_some_iff.mp g).1) (by omega))), h4, va_Z.moved hvm (h5.kept hq), va_Z.moved hvm (h6.kept hq), va_AO.moved hvm h7, va_Nw.warmM hW h8⟩
  obtain ⟨g1, g2, g3, g4, q, g5, g6⟩ := h2 k hk
  exact ⟨va_O.moved hvm (g1.kept hq), va_OF.moved hvm (g2.kept hq), va_OF.moved hvm (g3.kept hq), va_T.moved hvm (g4.kept hq), q, g5, g6.warm hW⟩
end
section
/-! THE LINKS ARE WORDS OF THE TABLES: each family in one walk along them -/
def a_sub : List Cond → List Cond → Bool
  | [], _ => true
  | _ :: _, [] => false
  | a :: l, b :: t => if a = b then a_sub l t else a_sub (a :: l) t
theorem a_sub_mem : ∀ (t l : List Cond), a_sub l t = true → ∀ w ∈ l, w ∈ t
  | _, [], _, _, h => absurd h List.not_mem_nil
  | [], _ :: _, h, _, _ => by simp [a_sub] at h
  | b :: t, a :: l, h, w, hw => by
    unfold a_sub at h
    split at h
    · rename_i e
      rcases List.mem_cons.mp hw with rfl | hw
      · exact e ▸ List.mem_cons_self
      · exact List.mem_cons_of_mem _ (a_sub_mem t l h w hw)
    · exact List.mem_cons_of_mem _ (a_sub_mem t (a :: l) h w hw)
abbrev a_W : List Cond := lw_tbl.filter goodWord
def a_good (L : List Cond) : Bool := L.all goodWord
theorem a_inW {L : List Cond} (h : a_sub L lw_tbl = true) (g : a_good L = true) : ∀ w ∈ L, w ∈ a_W := fun w hw => List.mem_filter.mpr ⟨a_sub_mem _ _ h w hw, List.all_eq_true.mp g w hw⟩
def a_ws (i : Nat) : List Cond := Cond.code (a_y i) (a_bytes i) (a_maxL i) (a_ret i) :: a_W
theorem a_find {α : Type} {p : α → Bool} {l : List α} {x : α} (h : l.find? p = some x) : x ∈ l ∧ p x = true := ⟨List.mem_of_find?_eq_some h, List.find?_some h⟩
theorem a_key3_mem {o x a : Nat} {l : List (Nat × Nat × Nat)} (h : a_key3 o x l = some a) : (o, x, a) ∈ l := by
  unfold a_key3 at h
  cases e : l.find? (fun q => Nat.beq q.1 o && Nat.beq q.2.1 x) with
  | none => rw [e] at h; cases h
  | some q =>
    rw [e] at h
    obtain ⟨h1, h2⟩ := a_find e
    simp only [Bool.and_eq_true, Nat.beq_eq] at h2
    obtain ⟨q1, q2, q3⟩ := q
    cases h
    obtain ⟨rfl, rfl⟩ := h2
    exact h1
theorem a_key4_mem {o x a b : Nat} {l : List (Nat × Nat × Nat × Nat)} (h : a_key4 o x l = some (a, b)) : (o, x, a, b) ∈ l := by
  unfold a_key4 at h
  cases e : l.find? (fun q => Nat.beq q.1 o && Nat.beq q.2.1 x) with
  | none => rw [e] at h; cases h
  | some q =>
    rw [e] at h
    obtain ⟨h1, h2⟩ := a_find e
    simp only [Bool.and_eq_true, Nat.beq_eq] at h2
    obtain ⟨q1, q2, q3, q4⟩ := q
    cases h
    obtain ⟨rfl, rfl⟩ := h2
    exact h1
theorem a_keyc_mem {o x : Nat} {a : Int32} {l : List (Nat × Nat × Int32)} (h : a_keyc o x l = some a) : (o, x, a) ∈ l := by
  unfold a_keyc at h
  cases e : l.find? (fun q => Nat.beq q.1 o && Nat.beq q.2.1 x) with
  | none => rw [e] at h; cases h
  | some q =>
    rw [e] at h
    obtain ⟨h1, h2⟩ := a_find e
    simp only [Bool.and_eq_true, Nat.beq_eq] at h2
    obtain ⟨q1, q2, q3⟩ := q
    cases h
    obtain ⟨rfl, rfl⟩ := h2
    exact h1
theorem a_key2_mem {o x : Nat} {l : List (Nat × Nat)} (h : a_key2 o x l = true) : (o, x) ∈ l := by
  unfold a_key2 at h
  obtain ⟨q, h1, h2⟩ := List.any_eq_true.mp h
  simp only [Bool.and_eq_true, Nat.beq_eq] at h2
  obtain ⟨q1, q2⟩ := q
  obtain ⟨rfl, rfl⟩ := h2
  exact h1
def a_s_fl : List (Nat × Nat × Nat × Nat) := [(2, 9, 2, 0), (2, 15, 2, 1), (2, 19, 2, 2), (0, 258, 2, 2), (1, 9, 1, 0), (6, 63, 1, 0), (7, 43, 1, 0), (0, 164, 1, 0), (1, 41, 1, 1), (6, 66, 1, 1), (0, 272, 1, 1), (1, 44, 1, 2), (0, 275, 1, 2), (1, 77, 1, 3), (0, 168, 1, 3), (1, 80, 1, 4), (0, 171, 1, 4), (1, 15, 1, 5), (7, 52, 1, 5), (0, 112, 1, 5), (1, 19, 1, 6), (0, 116, 1, 6), (1, 22, 1, 7), (6, 102, 1, 7), (0, 119, 1, 7), (1, 25, 1, 8), (0, 122, 1, 8), (1, 28, 1, 9), (0, 125, 1, 9), (1, 31, 1, 10), (0, 128, 1, 10), (1, 37, 1, 11), (0, 254, 1, 11), (1, 162, 1, 12), (6, 114, 1, 13), (1, 165, 1, 13), (3, 11, 3, 0), (3, 18, 3, 1), (3, 26, 3, 2), (0, 267, 3, 2), (4, 9, 4, 0), (0, 281, 4, 0), (4, 15, 4, 1), (0, 284, 4, 1), (4, 18, 4, 2), (0, 287, 4, 2), (4, 41, 4, 3), (0, 278, 4, 3), (4, 44, 4, 4), (0, 243, 4, 4), (4, 25, 4, 5), (0, 249, 4, 5), (4, 47, 4, 6), (0, 252, 4, 6), (4, 21, 4, 7), (4, 35, 4, 8), (4, 38, 4, 9), (5, 9, 5, 0), (0, 187, 5, 0), (7, 9, 7, 0), (0, 310, 7, 0), (7, 15, 7, 1), (6, 125, 7, 1), (7, 19, 7, 2), (0, 226, 7, 2), (7, 22, 7, 3), (6, 142, 7, 3), (0, 229, 7, 3), (7, 31, 7, 4), (6, 132, 7, 4), (0, 214, 7, 4), (7, 34, 7, 5), (0, 206, 7, 5), (7, 37, 7, 6), (0, 211, 7, 6), (7, 40, 7, 7), (0, 217, 7, 7), (6, 27, 6, 0), (6, 31, 6, 1), (6, 35, 6, 2), (6, 38, 6, 3), (6, 41, 6, 4), (6, 44, 6, 5), (6, 53, 6, 6), (6, 57, 6, 7), (6, 12, 6, 8), (0, 304, 6, 8), (6, 18, 6, 9), (0, 300, 6, 9), (6, 21, 6, 10), (0, 10, 0, 0), (0, 20, 0, 1), (0, 26, 0, 2), (0, 30, 0, 3), (0, 34, 0, 4), (0, 38, 0, 5), (0, 232, 0, 6), (0, 45, 0, 7), (0, 52, 0, 8), (0, 59, 0, 9), (8, 1, 8, 0), (8, 13, 8, 1), (8, 17, 8, 2), (8, 20, 8, 3), (8, 23, 8, 4), (8, 91, 8, 5), (8, 26, 8, 6), (8, 101, 8, 7), (8, 105, 8, 8), (8, 108, 8, 9), (8, 250, 8, 10), (8, 30, 8, 11), (8, 33, 8, 12), (8, 36, 8, 13), (8, 39, 8, 14), (8, 42, 8, 15), (8, 269, 8, 16), (8, 45, 8, 17), (8, 302, 8, 18), (8, 311, 8, 19), (8, 308, 8, 20), (8, 305, 8, 21), (8, 48, 8, 22), (8, 391, 8, 23), (8, 51, 8, 24), (8, 54, 8, 25), (8, 57, 8, 26), (8, 377, 8, 27)]
def a_w_fl (q : Nat × Nat × Nat × Nat) : Cond := .fieldLink (a_cn q.1) q.2.1 (a_T q.2.2.1 q.2.2.2).1 (a_T q.2.2.1 q.2.2.2).2.1 (a_T q.2.2.1 q.2.2.2).2.2.1
theorem a_h_fl : a_sub (a_s_fl.map a_w_fl) lw_tbl = true := by decide +kernel
theorem a_g_fl : a_good (a_s_fl.map a_w_fl) = true := by decide +kernel
theorem a_i_fl {q : Nat × Nat × Nat × Nat} (h : q ∈ a_s_fl) : a_w_fl q ∈ a_W := a_inW a_h_fl a_g_fl _ (List.mem_map.mpr ⟨q, h, rfl⟩)
theorem a_e_fl : ∀ q ∈ a_fl, q ∈ a_s_fl := by decide +kernel
def a_s_mlv : List (Nat × Nat × Nat) := [(0, 16, 46), (1, 47, 97), (1, 56, 47), (1, 60, 48), (1, 93, 49), (10, 13, 1), (0, 63, 105), (3, 22, 50), (1, 63, 51), (1, 73, 98), (0, 67, 106), (10, 18, 2), (0, 71, 52), (1, 116, 53), (10, 22, 3), (0, 75, 54), (1, 99, 55), (10, 26, 4), (0, 78, 56), (10, 30, 5), (0, 81, 57), (1, 119, 58), (1, 122, 59), (1, 126, 60), (1, 130, 61), (1, 152, 62), (1, 168, 99), (1, 139, 63), (10, 35, 6), (0, 84, 64), (1, 102, 65), (10, 39, 7), (0, 87, 66), (10, 43, 8), (0, 90, 67), (1, 87, 68), (1, 83, 69), (10, 47, 9), (0, 93, 70), (10, 51, 10), (0, 96, 71), (10, 55, 11), (0, 99, 72), (1, 142, 73), (1, 90, 74), (1, 145, 75), (1, 108, 76), (1, 112, 77), (1, 105, 78), (1, 148, 79), (10, 59, 12), (0, 102, 80), (1, 156, 81), (10, 63, 13), (0, 105, 82), (1, 159, 83), (1, 96, 84), (10, 67, 14), (0, 108, 53), (10, 71, 15), (0, 131, 73), (0, 134, 85), (10, 75, 16), (0, 137, 15), (10, 79, 17), (0, 145, 68), (0, 149, 86), (10, 84, 18), (0, 152, 87), (10, 88, 19), (0, 155, 47), (0, 158, 88), (0, 161, 89), (10, 92, 20), (10, 96, 21), (0, 174, 49), (0, 177, 90), (10, 100, 22), (0, 181, 50), (0, 184, 65), (10, 105, 23), (0, 190, 24), (0, 294, 125), (0, 297, 126), (5, 15, 125), (0, 193, 91), (10, 109, 25), (0, 196, 84), (10, 113, 26), (0, 199, 83), (10, 117, 27), (10, 121, 28), (0, 202, 29), (0, 307, 92), (0, 313, 128), (6, 60, 139), (6, 69, 46), (6, 73, 51), (6, 77, 129), (6, 122, 93), (6, 128, 140), (7, 48, 47), (7, 55, 55), (7, 59, 141), (6, 135, 141), (6, 139, 130), (0, 317, 131), (0, 321, 132), (6, 81, 94), (6, 84, 133), (6, 105, 57), (6, 108, 64), (6, 111, 66), (6, 88, 134), (0, 324, 135), (6, 91, 67), (0, 327, 136), (6, 95, 72), (0, 330, 137), (6, 98, 47), (10, 125, 30), (0, 220, 95), (0, 223, 142), (10, 129, 31), (10, 133, 32), (10, 137, 33), (0, 235, 34), (10, 142, 35), (0, 239, 109), (4, 50, 110), (4, 53, 111), (4, 57, 112), (4, 64, 113), (4, 60, 114), (4, 93, 116), (4, 103, 267), (9, 335, 268), (4, 107, 269), (9, 492, 270), (4, 68, 117), (4, 75, 118), (4, 88, 119), (4, 85, 120), (4, 79, 121), (4, 72, 122), (4, 82, 123), (0, 246, 36), (0, 290, 37), (10, 146, 38), (10, 150, 39), (10, 154, 40), (0, 261, 100), (2, 28, 101), (2, 36, 267), (0, 264, 103), (2, 42, 269), (10, 158, 41), (0, 268, 107), (10, 162, 42), (10, 166, 43), (10, 170, 44), (8, 60, 144), (8, 64, 145), (10, 17, 146), (8, 182, 148), (8, 185, 150), (8, 94, 151), (10, 21, 152), (8, 188, 153), (8, 157, 154), (8, 72, 155), (10, 25, 156), (8, 193, 157), (8, 76, 158), (8, 142, 159), (8, 145, 160), (10, 29, 162), (10, 34, 163), (8, 199, 164), (8, 136, 166), (8, 139, 167), (8, 123, 168), (8, 126, 169), (8, 120, 170), (8, 116, 171), (8, 97, 172), (8, 129, 173), (8, 83, 174), (10, 38, 175), (8, 202, 176), (10, 42, 177), (8, 205, 178), (10, 46, 180), (8, 208, 181), (10, 50, 182), (8, 211, 183), (10, 54, 184), (8, 214, 185), (10, 58, 186), (8, 217, 187), (8, 163, 189), (8, 151, 190), (8, 166, 191), (8, 154, 192), (10, 62, 193), (8, 220, 194), (8, 169, 195), (10, 66, 196), (8, 223, 197), (8, 172, 198), (8, 175, 199), (10, 70, 200), (10, 74, 201), (8, 226, 202), (10, 78, 203), (10, 83, 204), (8, 229, 205), (10, 87, 206), (8, 232, 207), (10, 91, 208), (8, 235, 209), (10, 95, 210), (8, 238, 211), (10, 112, 212), (10, 116, 213), (10, 99, 214), (8, 241, 215), (8, 244, 216), (10, 104, 217), (8, 247, 218), (10, 108, 219), (8, 263, 220), (8, 253, 221), (8, 256, 222), (8, 266, 223), (10, 120, 224), (10, 124, 225), (8, 290, 226), (8, 272, 227), (8, 275, 228), (8, 281, 230), (8, 284, 231), (8, 287, 232), (10, 132, 234), (10, 128, 236), (8, 299, 237), (10, 136, 238), (10, 141, 239), (10, 145, 240), (8, 394, 241), (8, 374, 242), (8, 362, 243), (8, 314, 244), (8, 365, 245), (8, 368, 246), (8, 336, 247), (8, 325, 267), (8, 330, 269), (8, 382, 248), (8, 385, 249), (8, 371, 250), (8, 388, 251), (8, 397, 252), (10, 149, 253), (10, 153, 254), (10, 157, 255), (10, 161, 258), (10, 165, 259), (10, 169, 260), (10, 173, 261)]
def a_w_mlv (q : Nat × Nat × Nat) : Cond := .methodLink (a_cn q.1) q.2.1 (a_y q.2.2)
theorem a_h_mlv : a_sub (a_s_mlv.map a_w_mlv) lw_tbl = true := by decide +kernel
theorem a_g_mlv : a_good (a_s_mlv.map a_w_mlv) = true := by decide +kernel
theorem a_i_mlv {q : Nat × Nat × Nat} (h : q ∈ a_s_mlv) : a_w_mlv q ∈ a_W := a_inW a_h_mlv a_g_mlv _ (List.mem_map.mpr ⟨q, h, rfl⟩)
theorem a_e_mlv : ∀ q ∈ a_mlv, q ∈ a_s_mlv := by decide +kernel
def a_s_mls : List (Nat × Nat × Nat) := [(1, 50, 263), (3, 29, 264), (1, 134, 265), (0, 140, 265), (6, 47, 263), (7, 25, 263), (6, 117, 264), (4, 99, 115), (9, 495, 271), (14, 9, 272), (9, 1059, 273), (2, 32, 102), (3, 35, 266), (8, 68, 147), (8, 87, 149), (8, 79, 161), (8, 133, 165), (8, 148, 179), (8, 160, 188), (8, 278, 229), (8, 293, 233), (8, 296, 235), (8, 416, 256), (8, 413, 257)]
def a_w_mls (q : Nat × Nat × Nat) : Cond := .methodLink (a_cn q.1) q.2.1 (a_y q.2.2)
theorem a_h_mls : a_sub (a_s_mls.map a_w_mls) lw_tbl = true := by decide +kernel
theorem a_g_mls : a_good (a_s_mls.map a_w_mls) = true := by decide +kernel
theorem a_i_mls {q : Nat × Nat × Nat} (h : q ∈ a_s_mls) : a_w_mls q ∈ a_W := a_inW a_h_mls a_g_mls _ (List.mem_map.mpr ⟨q, h, rfl⟩)
theorem a_e_mls : ∀ q ∈ a_mls, q ∈ a_s_mls := by decide +kernel
def a_s_mli : List (Nat × Nat × Nat) := [(10, 9, 0), (0, 9, 45), (1, 36, 96), (0, 25, 104), (3, 17, 45), (0, 44, 108), (0, 58, 127), (6, 11, 138), (6, 26, 45), (10, 12, 143)]
def a_w_mli (q : Nat × Nat × Nat) : Cond := .methodLink (a_cn q.1) q.2.1 (a_y q.2.2)
theorem a_h_mli : a_sub (a_s_mli.map a_w_mli) lw_tbl = true := by decide +kernel
theorem a_g_mli : a_good (a_s_mli.map a_w_mli) = true := by decide +kernel
theorem a_i_mli {q : Nat × Nat × Nat} (h : q ∈ a_s_mli) : a_w_mli q ∈ a_W := a_inW a_h_mli a_g_mli _ (List.mem_map.mpr ⟨q, h, rfl⟩)
theorem a_e_mli : ∀ q ∈ a_mli, q = (0, 51, 124) ∨ q ∈ a_s_mli := by decide +kernel
def a_s_oi : List (Nat × Nat) := [(0, 1), (1, 3), (2, 3), (3, 3), (4, 3), (5, 3), (6, 3), (7, 3), (8, 7)]
def a_w_oi (q : Nat × Nat) : Cond := .methodLink (a_cn q.1) q.2 Lib.objectInit
theorem a_h_oi : a_sub (a_s_oi.map a_w_oi) lw_tbl = true := by decide +kernel
theorem a_g_oi : a_good (a_s_oi.map a_w_oi) = true := by decide +kernel
theorem a_i_oi {q : Nat × Nat} (h : q ∈ a_s_oi) : a_w_oi q ∈ a_W := a_inW a_h_oi a_g_oi _ (List.mem_map.mpr ⟨q, h, rfl⟩)
theorem a_e_oi : ∀ q ∈ a_oi, q ∈ a_s_oi := by decide +kernel
def a_s_ac : List (Nat × Nat) := [(1, 67), (2, 22), (4, 29)]
def a_w_ac (q : Nat × Nat) : Cond := .methodLink (a_cn q.1) q.2 arraycopyName
theorem a_h_ac : a_sub (a_s_ac.map a_w_ac) lw_tbl = true := by decide +kernel
theorem a_g_ac : a_good (a_s_ac.map a_w_ac) = true := by decide +kernel
theorem a_i_ac {q : Nat × Nat} (h : q ∈ a_s_ac) : a_w_ac q ∈ a_W := a_inW a_h_ac a_g_ac _ (List.mem_map.mpr ⟨q, h, rfl⟩)
theorem a_e_ac : ∀ q ∈ a_ac, q ∈ a_s_ac := by decide +kernel
def a_s_cst : List (Nat × Nat × Int32) := [(13, 265, 1431655765), (13, 266, 858993459), (13, 267, 252645135), (8, 104, 1048576)]
def a_w_cst (q : Nat × Nat × Int32) : Cond := .constant (a_cn q.1) q.2.1 q.2.2
theorem a_h_cst : a_sub (a_s_cst.map a_w_cst) lw_tbl = true := by decide +kernel
theorem a_g_cst : a_good (a_s_cst.map a_w_cst) = true := by decide +kernel
theorem a_i_cst {q : Nat × Nat × Int32} (h : q ∈ a_s_cst) : a_w_cst q ∈ a_W := a_inW a_h_cst a_g_cst _ (List.mem_map.mpr ⟨q, h, rfl⟩)
theorem a_e_cst : ∀ q ∈ a_cst, q ∈ a_s_cst := by decide +kernel
def a_s_cstl : List (Nat × Nat × Int32) := [(8, 178, 2), (8, 180, 5), (8, 191, 3), (8, 197, 15), (8, 112, -1), (8, 114, 20), (8, 259, 9999), (8, 261, 40), (8, 317, 97), (8, 319, 122), (8, 380, 6), (8, 321, 48), (8, 323, 57), (8, 419, 10)]
def a_w_cstl (q : Nat × Nat × Int32) : Cond := .constantLong (a_cn q.1) q.2.1 q.2.2.toInt64
theorem a_h_cstl : a_sub (a_s_cstl.map a_w_cstl) lw_tbl = true := by decide +kernel
theorem a_g_cstl : a_good (a_s_cstl.map a_w_cstl) = true := by decide +kernel
theorem a_i_cstl {q : Nat × Nat × Int32} (h : q ∈ a_s_cstl) : a_w_cstl q ∈ a_W := a_inW a_h_cstl a_g_cstl _ (List.mem_map.mpr ⟨q, h, rfl⟩)
theorem a_e_cstl : ∀ q ∈ a_cstl, q ∈ a_s_cstl := by decide +kernel
def a_s_cll : List (Nat × Nat × Nat) := [(10, 7, 0), (0, 7, 1), (1, 34, 2), (0, 23, 3), (3, 9, 1), (0, 42, 4), (0, 49, 5), (0, 56, 6), (6, 9, 7), (6, 24, 1), (10, 10, 8)]
def a_w_cll (q : Nat × Nat × Nat) : Cond := .classLink (a_cn q.1) q.2.1 (a_cn q.2.2)
theorem a_h_cll : a_sub (a_s_cll.map a_w_cll) lw_tbl = true := by decide +kernel
theorem a_g_cll : a_good (a_s_cll.map a_w_cll) = true := by decide +kernel
theorem a_i_cll {q : Nat × Nat × Nat} (h : q ∈ a_s_cll) : a_w_cll q ∈ a_W := a_inW a_h_cll a_g_cll _ (List.mem_map.mpr ⟨q, h, rfl⟩)
theorem a_e_cll : ∀ q ∈ a_cll, q ∈ a_s_cll := by decide +kernel
def a_s_sl : List (Nat × Nat × Nat) := [(9, 38, 0), (9, 1053, 1)]
def a_w_sl (q : Nat × Nat × Nat) : Cond := if q.2.2 = 0 then .fieldLink (a_cn q.1) q.2.1 "java/lang/String" "COMPACT_STRINGS" "Z" else .fieldLink (a_cn q.1) q.2.1 "jdk/internal/util/Preconditions" "SIOOBE_FORMATTER" "Ljava/util/function/BiFunction;"
theorem a_h_sl : a_sub (a_s_sl.map a_w_sl) lw_tbl = true := by decide +kernel
theorem a_g_sl : a_good (a_s_sl.map a_w_sl) = true := by decide +kernel
theorem a_i_sl {q : Nat × Nat × Nat} (h : q ∈ a_s_sl) : a_w_sl q ∈ a_W := a_inW a_h_sl a_g_sl _ (List.mem_map.mpr ⟨q, h, rfl⟩)
theorem a_e_sl : ∀ q ∈ a_sl, q ∈ a_s_sl := by decide +kernel
def a_s_sf : List (Nat × Nat × Nat) := [(9, 9, 0), (9, 15, 1)]
def a_w_sf (q : Nat × Nat × Nat) : Cond := if q.2.2 = 0 then .fieldLink (a_cn q.1) q.2.1 "java/lang/String" "value" "[B" else .fieldLink (a_cn q.1) q.2.1 "java/lang/String" "coder" "B"
theorem a_h_sf : a_sub (a_s_sf.map a_w_sf) lw_tbl = true := by decide +kernel
theorem a_g_sf : a_good (a_s_sf.map a_w_sf) = true := by decide +kernel
theorem a_i_sf {q : Nat × Nat × Nat} (h : q ∈ a_s_sf) : a_w_sf q ∈ a_W := a_inW a_h_sf a_g_sf _ (List.mem_map.mpr ⟨q, h, rfl⟩)
theorem a_e_sf : ∀ q ∈ a_sf, q ∈ a_s_sf := by decide +kernel
def a_w_code (q : Nat) : Cond := .code (a_y q) (a_bytes q) (a_maxL q) (a_ret q)
def a_s_code0 : List Nat := [0, 45, 96, 46, 97, 263, 47, 48, 49, 104, 108, 124, 127, 138, 1, 105]
theorem a_h_code0 : a_sub (a_s_code0.map a_w_code) (lw_tbl.drop 113) = true := by decide +kernel
theorem a_g_code0 : a_good (a_s_code0.map a_w_code) = true := by decide +kernel
def a_s_code1 : List Nat := [50, 51, 98, 106, 264, 2, 52, 53, 3, 54, 55, 4, 56, 5, 57, 58]
theorem a_h_code1 : a_sub (a_s_code1.map a_w_code) (lw_tbl.drop 429) = true := by decide +kernel
theorem a_g_code1 : a_good (a_s_code1.map a_w_code) = true := by decide +kernel
def a_s_code2 : List Nat := [59, 60, 61, 62, 99, 63, 6, 64, 65, 7, 66, 265, 8, 67, 68, 69]
theorem a_h_code2 : a_sub (a_s_code2.map a_w_code) (lw_tbl.drop 496) = true := by decide +kernel
theorem a_g_code2 : a_good (a_s_code2.map a_w_code) = true := by decide +kernel
def a_s_code3 : List Nat := [9, 70, 10, 71, 11, 72, 73, 74, 75, 76, 77, 78, 79, 12, 80, 81]
theorem a_h_code3 : a_sub (a_s_code3.map a_w_code) (lw_tbl.drop 562) = true := by decide +kernel
theorem a_g_code3 : a_good (a_s_code3.map a_w_code) = true := by decide +kernel
def a_s_code4 : List Nat := [13, 82, 83, 84, 14, 15, 85, 16, 17, 86, 18, 87, 19, 88, 89, 20]
theorem a_h_code4 : a_sub (a_s_code4.map a_w_code) (lw_tbl.drop 626) = true := by decide +kernel
theorem a_g_code4 : a_good (a_s_code4.map a_w_code) = true := by decide +kernel
def a_s_code5 : List Nat := [21, 90, 22, 23, 24, 125, 126, 91, 25, 26, 27, 28, 29, 92, 128, 139]
theorem a_h_code5 : a_sub (a_s_code5.map a_w_code) (lw_tbl.drop 696) = true := by decide +kernel
theorem a_g_code5 : a_good (a_s_code5.map a_w_code) = true := by decide +kernel
def a_s_code6 : List Nat := [129, 93, 140, 141, 130, 131, 132, 94, 133, 134, 135, 136, 137, 30, 95, 142]
theorem a_h_code6 : a_sub (a_s_code6.map a_w_code) (lw_tbl.drop 770) = true := by decide +kernel
theorem a_g_code6 : a_good (a_s_code6.map a_w_code) = true := by decide +kernel
def a_s_code7 : List Nat := [31, 32, 33, 34, 35, 109, 110, 111, 112, 113, 114, 115, 116, 267, 268, 269]
theorem a_h_code7 : a_sub (a_s_code7.map a_w_code) (lw_tbl.drop 844) = true := by decide +kernel
theorem a_g_code7 : a_good (a_s_code7.map a_w_code) = true := by decide +kernel
def a_s_code8 : List Nat := [270, 271, 272, 273, 117, 118, 119, 120, 121, 122, 123, 36, 37, 38, 39, 40]
theorem a_h_code8 : a_sub (a_s_code8.map a_w_code) (lw_tbl.drop 920) = true := by decide +kernel
theorem a_g_code8 : a_good (a_s_code8.map a_w_code) = true := by decide +kernel
def a_s_code9 : List Nat := [100, 101, 102, 103, 41, 107, 266, 42, 43, 44, 143, 144, 145, 146, 147, 148]
theorem a_h_code9 : a_sub (a_s_code9.map a_w_code) (lw_tbl.drop 1004) = true := by decide +kernel
theorem a_g_code9 : a_good (a_s_code9.map a_w_code) = true := by decide +kernel
def a_s_code10 : List Nat := [149, 150, 151, 152, 153, 154, 155, 156, 157, 158, 159, 160, 161, 162, 163, 164]
theorem a_h_code10 : a_sub (a_s_code10.map a_w_code) (lw_tbl.drop 1161) = true := by decide +kernel
theorem a_g_code10 : a_good (a_s_code10.map a_w_code) = true := by decide +kernel
def a_s_code11 : List Nat := [165, 166, 167, 168, 169, 170, 171, 172, 173, 174, 175, 176, 177, 178, 179, 180]
theorem a_h_code11 : a_sub (a_s_code11.map a_w_code) (lw_tbl.drop 1225) = true := by decide +kernel
theorem a_g_code11 : a_good (a_s_code11.map a_w_code) = true := by decide +kernel
def a_s_code12 : List Nat := [181, 182, 183, 184, 185, 186, 187, 188, 189, 190, 191, 192, 193, 194, 195, 196]
theorem a_h_code12 : a_sub (a_s_code12.map a_w_code) (lw_tbl.drop 1291) = true := by decide +kernel
theorem a_g_code12 : a_good (a_s_code12.map a_w_code) = true := by decide +kernel
def a_s_code13 : List Nat := [197, 198, 199, 200, 201, 202, 203, 204, 205, 206, 207, 208, 209, 210, 211, 212]
theorem a_h_code13 : a_sub (a_s_code13.map a_w_code) (lw_tbl.drop 1354) = true := by decide +kernel
theorem a_g_code13 : a_good (a_s_code13.map a_w_code) = true := by decide +kernel
def a_s_code14 : List Nat := [213, 214, 215, 216, 217, 218, 219, 220, 221, 222, 223, 224, 225, 226, 227, 228]
theorem a_h_code14 : a_sub (a_s_code14.map a_w_code) (lw_tbl.drop 1418) = true := by decide +kernel
theorem a_g_code14 : a_good (a_s_code14.map a_w_code) = true := by decide +kernel
def a_s_code15 : List Nat := [229, 230, 231, 232, 233, 234, 235, 236, 237, 238, 239, 240, 241, 242, 243, 244]
theorem a_h_code15 : a_sub (a_s_code15.map a_w_code) (lw_tbl.drop 1483) = true := by decide +kernel
theorem a_g_code15 : a_good (a_s_code15.map a_w_code) = true := by decide +kernel
def a_s_code16 : List Nat := [245, 246, 247, 248, 249, 250, 251, 252, 253, 254, 255, 256, 257, 258, 259, 260]
theorem a_h_code16 : a_sub (a_s_code16.map a_w_code) (lw_tbl.drop 1547) = true := by decide +kernel
theorem a_g_code16 : a_good (a_s_code16.map a_w_code) = true := by decide +kernel
def a_s_code17 : List Nat := [261]
theorem a_h_code17 : a_sub (a_s_code17.map a_w_code) (lw_tbl.drop 1633) = true := by decide +kernel
theorem a_g_code17 : a_good (a_s_code17.map a_w_code) = true := by decide +kernel
theorem a_inWd {L : List Cond} {n : Nat} (h : a_sub L (lw_tbl.drop n) = true) (g : a_good L = true) : ∀ w ∈ L, w ∈ a_W := fun w hw => List.mem_filter.mpr ⟨List.mem_of_mem_drop (a_sub_mem _ _ h w hw), List.all_eq_true.mp g w hw⟩
def a_s_code : List Nat := a_s_code0 ++ a_s_code1 ++ a_s_code2 ++ a_s_code3 ++ a_s_code4 ++ a_s_code5 ++ a_s_code6 ++ a_s_code7 ++ a_s_code8 ++ a_s_code9 ++ a_s_code10 ++ a_s_code11 ++ a_s_code12 ++ a_s_code13 ++ a_s_code14 ++ a_s_code15 ++ a_s_code16 ++ a_s_code17
theorem a_i_code {q : Nat} (h : q ∈ a_s_code) : a_w_code q ∈ a_W := by
  unfold a_s_code at h
  simp only [List.mem_append] at h
  rcases h with (((((((((((((((((h | h) | h) | h) | h) | h) | h) | h) | h) | h) | h) | h) | h) | h) | h) | h) | h) | h)
  · exact a_inWd a_h_code0 a_g_code0 _ (List.mem_map.mpr ⟨q, h, rfl⟩)
  · exact a_inWd a_h_code1 a_g_code1 _ (List.mem_map.mpr ⟨q, h, rfl⟩)
  · exact a_inWd a_h_code2 a_g_code2 _ (List.mem_map.mpr ⟨q, h, rfl⟩)
  · exact a_inWd a_h_code3 a_g_code3 _ (List.mem_map.mpr ⟨q, h, rfl⟩)
  · exact a_inWd a_h_code4 a_g_code4 _ (List.mem_map.mpr ⟨q, h, rfl⟩)
  · exact a_inWd a_h_code5 a_g_code5 _ (List.mem_map.mpr ⟨q, h, rfl⟩)
  · exact a_inWd a_h_code6 a_g_code6 _ (List.mem_map.mpr ⟨q, h, rfl⟩)
  · exact a_inWd a_h_code7 a_g_code7 _ (List.mem_map.mpr ⟨q, h, rfl⟩)
  · exact a_inWd a_h_code8 a_g_code8 _ (List.mem_map.mpr ⟨q, h, rfl⟩)
  · exact a_inWd a_h_code9 a_g_code9 _ (List.mem_map.mpr ⟨q, h, rfl⟩)
  · exact a_inWd a_h_code10 a_g_code10 _ (List.mem_map.mpr ⟨q, h, rfl⟩)
  · exact a_inWd a_h_code11 a_g_code11 _ (List.mem_map.mpr ⟨q, h, rfl⟩)
  · exact a_inWd a_h_code12 a_g_code12 _ (List.mem_map.mpr ⟨q, h, rfl⟩)
  · exact a_inWd a_h_code13 a_g_code13 _ (List.mem_map.mpr ⟨q, h, rfl⟩)
  · exact a_inWd a_h_code14 a_g_code14 _ (List.mem_map.mpr ⟨q, h, rfl⟩)
  · exact a_inWd a_h_code15 a_g_code15 _ (List.mem_map.mpr ⟨q, h, rfl⟩)
  · exact a_inWd a_h_code16 a_g_code16 _ (List.mem_map.mpr ⟨q, h, rfl⟩)
  · exact a_inWd a_h_code17 a_g_code17 _ (List.mem_map.mpr ⟨q, h, rfl⟩)
theorem a_e_code : ∀ j, j < 274 → j ≠ 262 → j ∈ a_s_code := by decide +kernel
def a_s_inst : List (Nat) := [0, 45, 96, 46, 97, 47, 48, 49, 104, 108, 124, 127, 138, 1, 105, 50, 51, 98, 106, 2, 52, 53, 3, 54, 55, 4, 56, 5, 57, 58, 59, 60, 61, 62, 99, 63, 6, 64, 65, 7, 66, 8, 67, 68, 69, 9, 70, 10, 71, 11, 72, 73, 74, 75, 76, 77, 78, 79, 12, 80, 81, 13, 82, 83, 84, 14, 15, 85, 16, 17, 86, 18, 87, 19, 88, 89, 20, 21, 90, 22, 23, 24, 125, 126, 91, 25, 26, 27, 28, 29, 92, 128, 139, 129, 93, 140, 141, 130, 131, 132, 94, 133, 134, 135, 136, 137, 30, 95, 142, 31, 32, 33, 34, 35, 109, 110, 111, 112, 113, 114, 116, 267, 268, 269, 270, 117, 118, 119, 120, 121, 122, 123, 36, 37, 38, 39, 40, 100, 101, 103, 41, 107, 42, 43, 44, 143, 144, 145, 146, 148, 150, 151, 152, 153, 154, 155, 156, 157, 158, 159, 160, 162, 163, 164, 166, 167, 168, 169, 170, 171, 172, 173, 174, 175, 176, 177, 178, 180, 181, 182, 183, 184, 185, 186, 187, 189, 190, 191, 192, 193, 194, 195, 196, 197, 198, 199, 200, 201, 202, 203, 204, 205, 206, 207, 208, 209, 210, 211, 212, 213, 214, 215, 216, 217, 218, 219, 220, 221, 222, 223, 224, 225, 226, 227, 228, 230, 231, 232, 234, 236, 237, 238, 239, 240, 241, 242, 243, 244, 245, 246, 247, 248, 249, 250, 251, 252, 253, 254, 255, 258, 259, 260, 261]
def a_w_inst (q : Nat) : Cond := .instanceMethod (a_y q)
theorem a_h_inst : a_sub (a_s_inst.map a_w_inst) lw_tbl = true := by decide +kernel
theorem a_g_inst : a_good (a_s_inst.map a_w_inst) = true := by decide +kernel
theorem a_i_inst {q : Nat} (h : q ∈ a_s_inst) : a_w_inst q ∈ a_W := a_inW a_h_inst a_g_inst _ (List.mem_map.mpr ⟨q, h, rfl⟩)
def a_s_sel : List (Nat) := [24, 29, 129, 130, 133, 134, 34, 110, 111, 112, 113, 114, 116, 117, 118, 119, 120, 121, 122, 123, 36, 37, 101, 144, 145, 148, 150, 151, 153, 154, 155, 157, 158, 159, 160, 164, 166, 167, 168, 169, 170, 171, 172, 173, 174, 176, 178, 181, 183, 185, 187, 189, 190, 191, 192, 194, 195, 197, 198, 199, 202, 205, 207, 209, 211, 215, 216, 218, 220, 221, 222, 223, 226, 227, 228, 230, 231, 232, 237, 241, 242, 243, 244, 245, 246, 247, 248, 249, 250, 251, 252, 46, 97, 47, 48, 49, 1, 105, 50, 51, 98, 106, 2, 52, 53, 3, 54, 55, 4, 56, 5, 57, 58, 59, 60, 61, 62, 99, 63, 6, 64, 65, 7, 66, 8, 67, 68, 69, 9, 70, 10, 71, 11, 72, 73, 74, 75, 76, 77, 78, 79, 12, 80, 81, 13, 82, 83, 84, 14, 15, 85, 16, 17, 86, 18, 87, 19, 88, 89, 20, 21, 90, 22, 23, 125, 126, 91, 25, 26, 27, 28, 92, 128, 139, 93, 140, 141, 131, 132, 94, 135, 136, 137, 30, 95, 142, 31, 32, 33, 35, 109, 267, 268, 269, 270, 38, 39, 40, 100, 103, 41, 107, 42, 43, 44, 146, 152, 156, 162, 163, 175, 177, 180, 182, 184, 186, 193, 196, 200, 201, 203, 204, 206, 208, 210, 212, 213, 214, 217, 219, 224, 225, 234, 236, 238, 239, 240, 253, 254, 255, 258, 259, 260, 261]
def a_w_sel (q : Nat) : Cond := .selects (a_y q).cls (a_y q) (a_y q)
theorem a_h_sel : a_sub (a_s_sel.map a_w_sel) lw_tbl = true := by decide +kernel
theorem a_g_sel : a_good (a_s_sel.map a_w_sel) = true := by decide +kernel
theorem a_i_sel {q : Nat} (h : q ∈ a_s_sel) : a_w_sel q ∈ a_W := a_inW a_h_sel a_g_sel _ (List.mem_map.mpr ⟨q, h, rfl⟩)
def a_s_stat : List (Nat) := [263, 264, 265, 115, 271, 272, 273, 102, 266, 147, 149, 161, 165, 179, 188, 229, 233, 235, 256, 257]
def a_w_stat (q : Nat) : Cond := .static (a_y q)
theorem a_h_stat : a_sub (a_s_stat.map a_w_stat) lw_tbl = true := by decide +kernel
theorem a_g_stat : a_good (a_s_stat.map a_w_stat) = true := by decide +kernel
theorem a_i_stat {q : Nat} (h : q ∈ a_s_stat) : a_w_stat q ∈ a_W := a_inW a_h_stat a_g_stat _ (List.mem_map.mpr ⟨q, h, rfl⟩)
def a_s_init : List (Nat) := [10, 0, 1, 2, 11, 3, 4, 5, 6, 7, 8, 12, 13, 9, 14, 15]
def a_w_init (q : Nat) : Cond := .initialized (a_cn q)
theorem a_h_init : a_sub (a_s_init.map a_w_init) lw_tbl = true := by decide +kernel
theorem a_g_init : a_good (a_s_init.map a_w_init) = true := by decide +kernel
theorem a_i_init {q : Nat} (h : q ∈ a_s_init) : a_w_init q ∈ a_W := a_inW a_h_init a_g_init _ (List.mem_map.mpr ⟨q, h, rfl⟩)
theorem a_e_init : ∀ j, j < 16 → j ∈ a_s_init := by decide +kernel
theorem a_e_mlv2 : ∀ q ∈ a_mlv, q.2.2 ∈ a_s_inst ∧ q.2.2 ∈ a_s_sel ∧ q.2.2 < 274 ∧ q.2.2 ≠ 262 := by decide +kernel
theorem a_e_mls2 : ∀ q ∈ a_mls, q.2.2 ∈ a_s_stat ∧ q.2.2 < 274 ∧ q.2.2 ≠ 262 := by decide +kernel
theorem a_e_mli2 : ∀ q ∈ a_mli, q.2.2 ∈ a_s_inst ∧ q.2.2 < 274 ∧ q.2.2 ≠ 262 ∧ (a_y q.2.2).name = "<init>" ∧ a_ret q.2.2 = none := by decide +kernel
def a_s_inst2 : List (Nat) := [0, 1, 2, 3, 4, 5, 6, 7, 8]
def a_w_inst2 (q : Nat) : Cond := .instantiable (a_cn q) (a_fn q)
theorem a_h_inst2 : a_sub (a_s_inst2.map a_w_inst2) lw_tbl = true := by decide +kernel
theorem a_g_inst2 : a_good (a_s_inst2.map a_w_inst2) = true := by decide +kernel
theorem a_i_inst2 {q : Nat} (h : q ∈ a_s_inst2) : a_w_inst2 q ∈ a_W := a_inW a_h_inst2 a_g_inst2 _ (List.mem_map.mpr ⟨q, h, rfl⟩)
theorem a_e_inst2 : ∀ j, j < 9 → j ∈ a_s_inst2 := by decide +kernel
def a_s_lay : List (Nat × Nat) := [(2, 0), (2, 1), (2, 2), (1, 0), (1, 1), (1, 2), (1, 3), (1, 4), (1, 5), (1, 6), (1, 7), (1, 8), (1, 9), (1, 10), (1, 11), (1, 12), (1, 13), (3, 0), (3, 1), (3, 2), (4, 0), (4, 1), (4, 2), (4, 3), (4, 4), (4, 5), (4, 6), (4, 7), (4, 8), (4, 9), (5, 0), (7, 0), (7, 1), (7, 2), (7, 3), (7, 4), (7, 5), (7, 6), (7, 7), (6, 0), (6, 1), (6, 2), (6, 3), (6, 4), (6, 5), (6, 6), (6, 7), (6, 8), (6, 9), (6, 10), (0, 0), (0, 1), (0, 2), (0, 3), (0, 4), (0, 5), (0, 6), (0, 7), (0, 8), (0, 9), (8, 0), (8, 1), (8, 2), (8, 3), (8, 4), (8, 5), (8, 6), (8, 7), (8, 8), (8, 9), (8, 10), (8, 11), (8, 12), (8, 13), (8, 14), (8, 15), (8, 16), (8, 17), (8, 18), (8, 19), (8, 20), (8, 21), (8, 22), (8, 23), (8, 24), (8, 25), (8, 26), (8, 27)]
def a_w_lay (q : Nat × Nat) : Cond := u_lay (a_cn q.1) (a_T q.1) q.2
theorem a_h_lay : a_sub (a_s_lay.map a_w_lay) lw_tbl = true := by decide +kernel
theorem a_g_lay : a_good (a_s_lay.map a_w_lay) = true := by decide +kernel
theorem a_i_lay {q : Nat × Nat} (h : q ∈ a_s_lay) : a_w_lay q ∈ a_W := a_inW a_h_lay a_g_lay _ (List.mem_map.mpr ⟨q, h, rfl⟩)
theorem a_e_lay : ∀ c, c < 9 → ∀ k, k < a_fn c → (c, k) ∈ a_s_lay := by decide +kernel
theorem a_lays {c : Nat} (hc : c < 9) : ∀ w ∈ u_ws (a_cn c) (a_T c) (a_fn c), w ∈ a_W := by
  intro w hw
  obtain ⟨k, hk, rfl⟩ := List.mem_map.mp hw
  exact a_i_lay (a_e_lay c hc k (List.mem_range.mp hk))
theorem a_x_arrI : (.arrayClass .int : Cond) ∈ a_W := a_inW (L := [.arrayClass .int]) (by decide +kernel) (by decide +kernel) _ List.mem_cons_self
theorem a_x_arrZ : (.arrayClass .boolean : Cond) ∈ a_W := a_inW (L := [.arrayClass .boolean]) (by decide +kernel) (by decide +kernel) _ List.mem_cons_self
theorem a_x_arrB : (.arrayClass .byte : Cond) ∈ a_W := a_inW (L := [.arrayClass .byte]) (by decide +kernel) (by decide +kernel) _ List.mem_cons_self
theorem a_x_objI : (.instanceMethod Lib.objectInit : Cond) ∈ a_W := a_inW (L := [.instanceMethod Lib.objectInit]) (by decide +kernel) (by decide +kernel) _ List.mem_cons_self
theorem a_x_objC : (.code Lib.objectInit ⟨#[0xb1]⟩ 1 none : Cond) ∈ a_W := a_inW (L := [.code Lib.objectInit ⟨#[0xb1]⟩ 1 none]) (by decide +kernel) (by decide +kernel) _ List.mem_cons_self
theorem a_x_acN : (.native arraycopyName : Cond) ∈ a_W := a_inW (L := [.native arraycopyName]) (by decide +kernel) (by decide +kernel) _ List.mem_cons_self
theorem a_x_acS : (.static arraycopyName : Cond) ∈ a_W := a_inW (L := [.static arraycopyName]) (by decide +kernel) (by decide +kernel) _ List.mem_cons_self
theorem a_x_iniSys : (.initialized "java/lang/System" : Cond) ∈ a_W := a_inW (L := [.initialized "java/lang/System"]) (by decide +kernel) (by decide +kernel) _ List.mem_cons_self
theorem a_nm0 : ∀ x, x < 10 → ∀ y, y < 10 → x ≠ y → (a_T0 x).2.1 ≠ (a_T0 y).2.1 := by decide +kernel
theorem a_tyo0 : ∀ k, k < 10 → parseFieldDescriptor (a_T0 k).2.2.1 = some (a_ty0 k) := by decide +kernel
theorem a_nm1 : ∀ x, x < 14 → ∀ y, y < 14 → x ≠ y → (a_T1 x).2.1 ≠ (a_T1 y).2.1 := by decide +kernel
theorem a_tyo1 : ∀ k, k < 14 → parseFieldDescriptor (a_T1 k).2.2.1 = some (a_ty1 k) := by decide +kernel
theorem a_nm2 : ∀ x, x < 3 → ∀ y, y < 3 → x ≠ y → (a_T2 x).2.1 ≠ (a_T2 y).2.1 := by decide +kernel
theorem a_tyo2 : ∀ k, k < 3 → parseFieldDescriptor (a_T2 k).2.2.1 = some (a_ty2 k) := by decide +kernel
theorem a_nm3 : ∀ x, x < 3 → ∀ y, y < 3 → x ≠ y → (a_T3 x).2.1 ≠ (a_T3 y).2.1 := by decide +kernel
theorem a_tyo3 : ∀ k, k < 3 → parseFieldDescriptor (a_T3 k).2.2.1 = some (a_ty3 k) := by decide +kernel
theorem a_nm4 : ∀ x, x < 10 → ∀ y, y < 10 → x ≠ y → (a_T4 x).2.1 ≠ (a_T4 y).2.1 := by decide +kernel
theorem a_tyo4 : ∀ k, k < 10 → parseFieldDescriptor (a_T4 k).2.2.1 = some (a_ty4 k) := by decide +kernel
theorem a_nm5 : ∀ x, x < 1 → ∀ y, y < 1 → x ≠ y → (a_T5 x).2.1 ≠ (a_T5 y).2.1 := by decide +kernel
theorem a_tyo5 : ∀ k, k < 1 → parseFieldDescriptor (a_T5 k).2.2.1 = some (a_ty5 k) := by decide +kernel
theorem a_nm6 : ∀ x, x < 11 → ∀ y, y < 11 → x ≠ y → (a_T6 x).2.1 ≠ (a_T6 y).2.1 := by decide +kernel
theorem a_tyo6 : ∀ k, k < 11 → parseFieldDescriptor (a_T6 k).2.2.1 = some (a_ty6 k) := by decide +kernel
theorem a_nm7 : ∀ x, x < 8 → ∀ y, y < 8 → x ≠ y → (a_T7 x).2.1 ≠ (a_T7 y).2.1 := by decide +kernel
theorem a_tyo7 : ∀ k, k < 8 → parseFieldDescriptor (a_T7 k).2.2.1 = some (a_ty7 k) := by decide +kernel
theorem a_nm8 : ∀ x, x < 28 → ∀ y, y < 28 → x ≠ y → (a_T8 x).2.1 ≠ (a_T8 y).2.1 := by decide +kernel
theorem a_tyo8 : ∀ k, k < 28 → parseFieldDescriptor (a_T8 k).2.2.1 = some (a_ty8 k) := by decide +kernel
theorem a_nmm : ∀ c, c < 9 → ∀ x, x < a_fn c → ∀ y, y < a_fn c → x ≠ y → (a_T c x).2.1 ≠ (a_T c y).2.1 := by
  intro c hc
  match c, hc with
  | 0, _ => exact a_nm0
  | 1, _ => exact a_nm1
  | 2, _ => exact a_nm2
  | 3, _ => exact a_nm3
  | 4, _ => exact a_nm4
  | 5, _ => exact a_nm5
  | 6, _ => exact a_nm6
  | 7, _ => exact a_nm7
  | 8, _ => exact a_nm8
  | c + 9, h => exact absurd h (by omega)
theorem a_tyo : ∀ c, c < 9 → ∀ k, k < a_fn c → parseFieldDescriptor (a_T c k).2.2.1 = some (a_ty c k) := by
  intro c hc
  match c, hc with
  | 0, _ => exact a_tyo0
  | 1, _ => exact a_tyo1
  | 2, _ => exact a_tyo2
  | 3, _ => exact a_tyo3
  | 4, _ => exact a_tyo4
  | 5, _ => exact a_tyo5
  | 6, _ => exact a_tyo6
  | 7, _ => exact a_tyo7
  | 8, _ => exact a_tyo8
  | c + 9, h => exact absurd h (by omega)
theorem a_cls : ∀ c, c < 9 → a_cl[c]? = some (a_cn c, a_T c, a_fn c) := by
  intro c hc
  match c, hc with
  | 0, _ => rfl
  | 1, _ => rfl
  | 2, _ => rfl
  | 3, _ => rfl
  | 4, _ => rfl
  | 5, _ => rfl
  | 6, _ => rfl
  | 7, _ => rfl
  | 8, _ => rfl
  | c + 9, h => exact absurd h (by omega)
theorem a_ycls : ∀ j, j < 274 → (a_y j).cls = a_cn (a_own j) ∧ a_own j < 16 ∧ plainFor (a_y j) = true ∧ (a_y j).cls ≠ "java/lang/invoke/MethodHandle" ∧ (a_y j).cls ≠ "java/lang/invoke/VarHandle" := by decide +kernel
def a_na (j : Nat) : Option Nat := (parseMethodDescriptor (a_y j).desc).map (fun d => d.parameters.length)
theorem a_selfT : ∀ c, c < 9 → ∀ k, k < a_fn c → (a_T c k).1 = a_cn c := by decide +kernel
theorem a_kinds : ∀ c, c < 9 → ∀ k, k < a_fn c → (a_fk c k = 0 ∧ a_ty c k = .int) ∨ (a_fk c k = 2 ∧ a_ty c k = .boolean) ∨ (a_fk c k = 1 ∧ a_fits (a_ty c k) = true) := by decide +kernel
end
section
/-! ONE STEP OF THE ABSTRACT MACHINE IS A STEP OF THE MACHINE -/
def a_hs (h : a_Hp) : Nat := (h.1.map (fun q => q.2)).sum
def a_Cx (p : Program) (R : Room) (s : State) (m : MethodId) (args : Array Value) (meth : Method) (c : Code) (G : a_G) (sc : Nat × (Nat → Int32)) (i : Nat) : Prop :=
  p.tables.exec = Jvm.exec ∧ c.code = a_bytes i ∧ c.maxLocals = a_maxL i ∧ s.vm.findClass (a_cn (a_own i)) = some m.cls ∧ (∀ w ∈ a_W, w.before args s = true) ∧ a_K G sc s ∧ (a_nm i = "<init>" → meth.name = "<init>") ∧ i < 274 ∧ a_FR i ≤ R.frames ∧ a_LO i ≤ R.locals
def a_WW (p : Program) (l : Launch) (e : Env) (R : Room) (s : State) (m : MethodId) (args : Array Value) (below : List Frame) (meth : Method) (c : Code) (Q : State → Prop) (G : a_G) (n0 s0 : Nat) (h : a_Hp) (H : Heap) (locs : List Loc) (pc : Nat) (ls : Array Slot) (st : List Value) : Prop :=
  W p l e R s m args below meth c H locs (h.1.length - n0) (a_hs h - s0) Q (F0 m pc ls (st.map (a_cv G)))
section AST
variable {p : Program} {l : Launch} {e : Env} {R : Room} {s : State} {m : MethodId} {args : Array Value} {below : List Frame} {meth : Method} {c : Code} {Q : State → Prop} {G : a_G} {n0 s0 : Nat} {h : a_Hp} {H : Heap} {locs : List Loc} {pc : Nat} {ls : Array Slot} {st : List Value} {sc : Nat × (Nat → Int32)} {i : Nat} {lc lc' : a_Lc} {pc' : Nat} {st' : List Value} {h' : a_Hp}
/-- what a step goes on with -/
def a_KK (p : Program) (l : Launch) (e : Env) (R : Room) (s : State) (m : MethodId) (args : Array Value) (below : List Frame) (meth : Method) (c : Code) (Q : State → Prop) (G : a_G) (n0 s0 : Nat) (i : Nat) (r : Nat × a_Lc × List Value × a_Hp) : Prop :=
  ∀ (H' : Heap) (locs' : List Loc) (ls' : Array Slot), a_HR G r.2.2.2 H' → va_S (fun q => G.1 ≤ q) s.heap H' locs' → a_LR G r.2.1 ls' (a_maxL i) → a_WW p l e R s m args below meth c Q G n0 s0 r.2.2.2 H' locs' r.1 ls' r.2.2.1
theorem a_nx_inv {r : Nat × a_Lc × List Value × a_Hp} {pc : Nat} {lc : a_Lc} {st : List Value} {h : a_Hp} (hs : a_nx pc lc st h = some (.inl r)) : r = (pc, lc, st, h) := by
  cases hs; rfl
theorem a_s_const (C : a_Cx p R s m args meth c G sc i) {ins : Instr} {n : Nat} {v : Int32} (hd : decode (a_bytes i) pc = .ok (ins, n)) (hv : (∃ k, ins = .iconst k ∧ n = 1 ∧ Int32.ofInt k = v) ∨ (∃ k, ins = .bipush k ∧ n = 2 ∧ (Int8.ofInt k).toInt32 = v) ∨ (∃ k, ins = .sipush k ∧ n = 3 ∧ (Int16.ofInt k).toInt32 = v))
    (HR : a_HR G h H) (HS : va_S (fun q => G.1 ≤ q) s.heap H locs) (HL : a_LR G lc ls (a_maxL i)) (kk : a_KK p l e R s m args below meth c Q G n0 s0 i (pc + n, lc, .int v :: st, h)) : a_WW p l e R s m args below meth c Q G n0 s0 h H locs pc ls st := by
  obtain ⟨hx, hb, -⟩ := C
  rcases hv with ⟨k, rfl, rfl, hk⟩ | ⟨k, rfl, rfl, hk⟩ | ⟨k, rfl, rfl, hk⟩
  · exact lv_iconst hx hb hd hk (kk H locs ls HR HS HL)
  · exact lv_bipush hx hb hd hk (kk H locs ls HR HS HL)
  · exact lv_sipush hx hb hd hk (kk H locs ls HR HS HL)
theorem a_s_lconst (C : a_Cx p R s m args meth c G sc i) {k : Fin 2} {v : Int64} (hd : decode (a_bytes i) pc = .ok (.lconst k, 1)) (hv : Int64.ofNat (k : Nat) = v)
    (HR : a_HR G h H) (HS : va_S (fun q => G.1 ≤ q) s.heap H locs) (HL : a_LR G lc ls (a_maxL i)) (kk : a_KK p l e R s m args below meth c Q G n0 s0 i (pc + 1, lc, .long v :: st, h)) : a_WW p l e R s m args below meth c Q G n0 s0 h H locs pc ls st := by
  obtain ⟨hx, hb, -⟩ := C
  exact lv_lconst hx hb hd hv (kk H locs ls HR HS HL)
theorem a_s_ldc2 (C : a_Cx p R s m args meth c G sc i) {x : Nat} {v : Int32} (hd : decode (a_bytes i) pc = .ok (.ldc2_w x, 3)) (hv : a_keyc (a_own i) x a_cstl = some v)
    (HR : a_HR G h H) (HS : va_S (fun q => G.1 ≤ q) s.heap H locs) (HL : a_LR G lc ls (a_maxL i)) (kk : a_KK p l e R s m args below meth c Q G n0 s0 i (pc + 3, lc, .long v.toInt64 :: st, h)) : a_WW p l e R s m args below meth c Q G n0 s0 h H locs pc ls st := by
  obtain ⟨hx, hb, -, hown, hts, -⟩ := C
  exact lv_ldc2 hx hb hown (hts _ (a_i_cstl (a_e_cstl _ (a_keyc_mem hv)))) hd (kk H locs ls HR HS HL)
theorem a_s_ldc (C : a_Cx p R s m args meth c G sc i) {x : Nat} {v : Int32} (hd : decode (a_bytes i) pc = .ok (.ldc x, 2)) (hv : a_keyc (a_own i) x a_cst = some v)
    (HR : a_HR G h H) (HS : va_S (fun q => G.1 ≤ q) s.heap H locs) (HL : a_LR G lc ls (a_maxL i)) (kk : a_KK p l e R s m args below meth c Q G n0 s0 i (pc + 2, lc, .int v :: st, h)) : a_WW p l e R s m args below meth c Q G n0 s0 h H locs pc ls st := by
  obtain ⟨hx, hb, -, hown, hts, -⟩ := C
  exact lv_ldc hx hb hown (hts _ (a_i_cst (a_e_cst _ (a_keyc_mem hv)))) hd (kk H locs ls HR HS HL)
theorem a_s_ldcw (C : a_Cx p R s m args meth c G sc i) {x : Nat} {v : Int32} (hd : decode (a_bytes i) pc = .ok (.ldc_w x, 3)) (hv : a_keyc (a_own i) x a_cst = some v)
    (HR : a_HR G h H) (HS : va_S (fun q => G.1 ≤ q) s.heap H locs) (HL : a_LR G lc ls (a_maxL i)) (kk : a_KK p l e R s m args below meth c Q G n0 s0 i (pc + 3, lc, .int v :: st, h)) : a_WW p l e R s m args below meth c Q G n0 s0 h H locs pc ls st := by
  obtain ⟨hx, hb, -, hown, hts, -⟩ := C
  exact lv_ldcw hx hb hown (hts _ (a_i_cst (a_e_cst _ (a_keyc_mem hv)))) hd (kk H locs ls HR HS HL)
theorem a_ad_str (G : a_G) (b : Nat) : a_ad G (a_CB + b) = G.2.1 b := by
  have h : ¬ a_CB + b < a_CB := by omega
  simp [a_ad, h, Nat.add_sub_cancel_left]
theorem a_strlen : a_str.length = 36 := by decide +kernel
theorem a_s_ldcS (C : a_Cx p R s m args meth c G sc i) {x n b : Nat} {ins : Instr} {q : Nat × Nat × String} (hi : (ins = .ldc x ∧ n = 2) ∨ (ins = .ldc_w x ∧ n = 3)) (hd : decode (a_bytes i) pc = .ok (ins, n)) (hq : a_str[b]? = some q) (h1 : q.1 = a_own i) (h2 : q.2.1 = x)
    (HR : a_HR G h H) (HS : va_S (fun q => G.1 ≤ q) s.heap H locs) (HL : a_LR G lc ls (a_maxL i)) (kk : a_KK p l e R s m args below meth c Q G n0 s0 i (pc + n, lc, .ref (a_CB + 2 * b) :: st, h)) : a_WW p l e R s m args below meth c Q G n0 s0 h H locs pc ls st := by
  obtain ⟨hx, hb, -, hown, hts, hK, -⟩ := C
  have hb36 : b < 36 := by have := (List.getElem?_eq_some_iff.mp hq).1; rw [a_strlen] at this; exact this
  obtain ⟨-, -, -, -, q', hq', hr⟩ := hK.2.2.1 b hb36
  cases hq.symm.trans hq'
  subst h2
  rw [h1] at hr
  have e1 : a_cv G (.ref (a_CB + 2 * b)) = .ref (G.2.1 (2 * b)) := by rw [a_cv_ref, a_ad_str]
  rcases hi with ⟨rfl, rfl⟩ | ⟨rfl, rfl⟩
  · refine va_ldcS hx hb hown hr hd ?_
    have k1 := kk H locs ls HR HS HL
    unfold a_WW at k1
    dsimp only at k1
    rw [List.map_cons, e1] at k1
    exact k1
  · intro T hT X
    have k1 := kk H locs ls HR HS HL
    unfold a_WW at k1
    dsimp only at k1
    rw [List.map_cons, e1] at k1
    obtain ⟨t, a1, b1⟩ := k1 T hT X
    exact ⟨t, X.ldcStringW hx hown (text := q.2.2) (a := G.2.1 (2 * b)) hr.1 hr.2 (g := F0 m pc ls (st.map (a_cv G))) rfl (by rw [hb]; exact hd) t a1, b1⟩
theorem a_s_ldi (C : a_Cx p R s m args meth c G sc i) {ins : Instr} {n k : Nat} {r : Nat × a_Lc × List Value × a_Hp} (hi : (ins = .iload k ∧ n = 2) ∨ (∃ f : Fin 4, ins = .iload_n f ∧ (f : Nat) = k ∧ n = 1)) (hd : decode (a_bytes i) pc = .ok (ins, n)) (hs : a_ldi k (pc + n) lc st h = some (.inl r))
    (HR : a_HR G h H) (HS : va_S (fun q => G.1 ≤ q) s.heap H locs) (HL : a_LR G lc ls (a_maxL i)) (kk : a_KK p l e R s m args below meth c Q G n0 s0 i r) : a_WW p l e R s m args below meth c Q G n0 s0 h H locs pc ls st := by
  obtain ⟨hx, hb, -⟩ := C
  unfold a_ldi at hs
  split at hs
  · rename_i x hx0
    have hl := HL.2.2.2 k _ hx0
    obtain rfl := a_nx_inv hs
    rcases hi with ⟨rfl, rfl⟩ | ⟨f, rfl, rfl, rfl⟩
    · exact lv_iload hx hb hd hl (kk H locs ls HR HS HL)
    · exact lv_iload_n hx hb hd rfl hl (kk H locs ls HR HS HL)
  · cases hs
theorem a_s_ldl (C : a_Cx p R s m args meth c G sc i) {ins : Instr} {n k : Nat} {r : Nat × a_Lc × List Value × a_Hp} (hi : (ins = .lload k ∧ n = 2) ∨ (∃ f : Fin 4, ins = .lload_n f ∧ (f : Nat) = k ∧ n = 1)) (hd : decode (a_bytes i) pc = .ok (ins, n)) (hs : a_ldl k (pc + n) lc st h = some (.inl r))
    (HR : a_HR G h H) (HS : va_S (fun q => G.1 ≤ q) s.heap H locs) (HL : a_LR G lc ls (a_maxL i)) (kk : a_KK p l e R s m args below meth c Q G n0 s0 i r) : a_WW p l e R s m args below meth c Q G n0 s0 h H locs pc ls st := by
  obtain ⟨hx, hb, -⟩ := C
  unfold a_ldl at hs
  split at hs
  · rename_i x hx0
    have hl := HL.2.2.2 k _ hx0
    obtain rfl := a_nx_inv hs
    rcases hi with ⟨rfl, rfl⟩ | ⟨f, rfl, rfl, rfl⟩
    · exact lv_lload hx hb hd hl (kk H locs ls HR HS HL)
    · exact lv_lload_n hx hb hd rfl hl (kk H locs ls HR HS HL)
  · cases hs
theorem a_s_lda (C : a_Cx p R s m args meth c G sc i) {ins : Instr} {n k : Nat} {r : Nat × a_Lc × List Value × a_Hp} (hi : (ins = .aload k ∧ n = 2) ∨ (∃ f : Fin 4, ins = .aload_n f ∧ (f : Nat) = k ∧ n = 1)) (hd : decode (a_bytes i) pc = .ok (ins, n)) (hs : a_lda k (pc + n) lc st h = some (.inl r))
    (HR : a_HR G h H) (HS : va_S (fun q => G.1 ≤ q) s.heap H locs) (HL : a_LR G lc ls (a_maxL i)) (kk : a_KK p l e R s m args below meth c Q G n0 s0 i r) : a_WW p l e R s m args below meth c Q G n0 s0 h H locs pc ls st := by
  obtain ⟨hx, hb, -⟩ := C
  unfold a_lda at hs
  split at hs
  · rename_i x hx0
    have hl := HL.2.2.2 k _ hx0
    obtain rfl := a_nx_inv hs
    rcases hi with ⟨rfl, rfl⟩ | ⟨f, rfl, rfl, rfl⟩
    · exact lv_aload hx hb hd hl (kk H locs ls HR HS HL)
    · exact lv_aload_n hx hb hd rfl hl (kk H locs ls HR HS HL)
  · cases hs
theorem a_free_lt {k : Nat} (hf : a_free k lc = true) : k < lc.length := by
  simp only [a_free, Bool.and_eq_true, decide_eq_true_eq] at hf
  exact hf.1
theorem a_s_sti (C : a_Cx p R s m args meth c G sc i) {ins : Instr} {n k : Nat} {r : Nat × a_Lc × List Value × a_Hp} (hi : (ins = .istore k ∧ n = 2) ∨ (∃ f : Fin 4, ins = .istore_n f ∧ (f : Nat) = k ∧ n = 1)) (hd : decode (a_bytes i) pc = .ok (ins, n)) (hs : a_sti k (pc + n) lc st h = some (.inl r))
    (HR : a_HR G h H) (HS : va_S (fun q => G.1 ≤ q) s.heap H locs) (HL : a_LR G lc ls (a_maxL i)) (kk : a_KK p l e R s m args below meth c Q G n0 s0 i r) : a_WW p l e R s m args below meth c Q G n0 s0 h H locs pc ls st := by
  obtain ⟨hx, hb, -⟩ := C
  unfold a_sti at hs
  split at hs
  · split at hs
    · rename_i hf
      obtain rfl := a_nx_inv hs
      have hk : k < a_maxL i := by rw [← HL.1]; exact a_free_lt hf
      rcases hi with ⟨rfl, rfl⟩ | ⟨f, rfl, rfl, rfl⟩
      · exact lv_istore hx hb hd (a_LR_has HL) hk rfl (fun ls' h' => kk H locs ls' HR HS (a_LR_set HL.1 (fun _ q => q) hf h'))
      · exact lv_istore_n hx hb hd rfl (a_LR_has HL) hk rfl (fun ls' h' => kk H locs ls' HR HS (a_LR_set HL.1 (fun _ q => q) hf h'))
    · cases hs
  · cases hs
theorem a_s_sta (C : a_Cx p R s m args meth c G sc i) {ins : Instr} {n k : Nat} {r : Nat × a_Lc × List Value × a_Hp} (hi : (ins = .astore k ∧ n = 2) ∨ (∃ f : Fin 4, ins = .astore_n f ∧ (f : Nat) = k ∧ n = 1)) (hd : decode (a_bytes i) pc = .ok (ins, n)) (hs : a_sta k (pc + n) lc st h = some (.inl r))
    (HR : a_HR G h H) (HS : va_S (fun q => G.1 ≤ q) s.heap H locs) (HL : a_LR G lc ls (a_maxL i)) (kk : a_KK p l e R s m args below meth c Q G n0 s0 i r) : a_WW p l e R s m args below meth c Q G n0 s0 h H locs pc ls st := by
  obtain ⟨hx, hb, -⟩ := C
  unfold a_sta at hs
  split at hs
  · split at hs
    · rename_i hf
      obtain rfl := a_nx_inv hs
      have hk : k < a_maxL i := by rw [← HL.1]; exact a_free_lt hf
      rcases hi with ⟨rfl, rfl⟩ | ⟨f, rfl, rfl, rfl⟩
      · exact lv_astore hx hb hd (a_LR_has HL) hk rfl (fun ls' h' => kk H locs ls' HR HS (a_LR_set HL.1 (fun _ q => q) hf h'))
      · exact lv_astore_n hx hb hd rfl (a_LR_has HL) hk rfl (fun ls' h' => kk H locs ls' HR HS (a_LR_set HL.1 (fun _ q => q) hf h'))
    · cases hs
  · cases hs
theorem a_s_iinc (C : a_Cx p R s m args meth c G sc i) {k : Nat} {z : Int} {x v : Int32} (hd : decode (a_bytes i) pc = .ok (.iinc k z, 3)) (hv : Int32.ofInt z = v) (hx0 : lc[k]? = some (some (.int x))) (hf : a_free k lc = true)
    (HR : a_HR G h H) (HS : va_S (fun q => G.1 ≤ q) s.heap H locs) (HL : a_LR G lc ls (a_maxL i)) (kk : a_KK p l e R s m args below meth c Q G n0 s0 i (pc + 3, lc.set k (some (.int (x + v))), st, h)) : a_WW p l e R s m args below meth c Q G n0 s0 h H locs pc ls st := by
  obtain ⟨hx, hb, -⟩ := C
  have hk : k < a_maxL i := by rw [← HL.1]; exact a_free_lt hf
  have h0 := a_LR_has HL
  have h1 : lv_has ls (a_maxL i) ((k, .int x) :: a_lvl G lc) := ⟨h0.1, h0.2.1, fun q hq => by
    rcases List.mem_cons.mp hq with rfl | hq
    · exact HL.2.2.2 k _ hx0
    · exact h0.2.2 q hq⟩
  exact lv_iinc (k := 0) hx hb hd h1 rfl (by rw [hv]) hk rfl (fun ls' h' => kk H locs ls' HR HS (a_LR_set HL.1 (fun _ q => List.mem_cons_of_mem _ q) hf h'))
end AST
end
section
section AHP
variable {p : Program} {l : Launch} {e : Env} {R : Room} {s : State} {m : MethodId} {args : Array Value} {below : List Frame} {meth : Method} {c : Code} {Q : State → Prop} {G : a_G} {n0 s0 : Nat} {h : a_Hp} {H : Heap} {locs : List Loc} {pc : Nat} {ls : Array Slot} {st : List Value} {sc : Nat × (Nat → Int32)} {i : Nat} {lc lc' : a_Lc} {pc' : Nat} {st' : List Value} {h' : a_Hp}
theorem a_cell_obj (G : a_G) {h : a_Hp} {o c n : Nat} (ho : h.1[o]? = some (10 + c, n)) : a_cell G h o = .inr (c, (List.range n).map (fun j => a_cv G (a_fv c j h o))) := by
  unfold a_cell
  rw [ho]
  dsimp only
  rw [if_neg (by omega), if_neg (by omega), if_neg (by omega), if_neg (by omega)]
  rw [show 10 + c - 10 = c by omega]
def a_cid (G : a_G) (k : Nat) : ClassId := if k = 0 then G.2.2.2.1 else if k = 1 then G.2.2.2.2.1 else if k = 2 then G.2.2.2.2.2.1 else G.2.2.2.2.2.2
theorem a_cell_num (G : a_G) {h : a_Hp} {o k n : Nat} (ho : h.1[o]? = some (k, n)) (hk : k < 3) : a_cell G h o = .inl (a_cid G k, n, .inl (h.2.2.1 o)) := by
  unfold a_cell a_cid
  rw [ho]
  dsimp only
  rcases (show k = 0 ∨ k = 1 ∨ k = 2 by omega) with rfl | rfl | rfl <;> rfl
theorem a_cell_arr (G : a_G) {h : a_Hp} {o n : Nat} (ho : h.1[o]? = some (3, n)) : a_cell G h o = .inl (G.2.2.2.2.2.2, n, .inr (.inr (.inr (.inr (fun j => (h.2.1 o j).map (a_ad G)))))) := by
  unfold a_cell
  rw [ho]
  rfl
theorem a_tys_at (G : a_G) {k : Nat} (hk : k < 3) : (a_tys G)[k]? = some (a_cid G k, a_tyk k) := by
  rcases (show k = 0 ∨ k = 1 ∨ k = 2 by omega) with rfl | rfl | rfl <;> rfl
theorem a_lt {h : a_Hp} {o : Nat} {q : Nat × Nat} (ho : h.1[o]? = some q) : o < h.1.length := (List.getElem?_eq_some_iff.mp ho).1
theorem a_rv_rf (G : a_G) (r : Option Nat) : va_rf (r.map (a_ad G)) = a_cv G (a_rv r) := by cases r <;> rfl
theorem a_evn {o : Nat} (h1 : o % 2 = 0) (h2 : a_CB ≤ o) (h3 : (o - a_CB) / 2 < 36) : ∃ k, k < 36 ∧ o = a_CB + 2 * k := by
  refine ⟨(o - a_CB) / 2, h3, ?_⟩
  simp only [a_CB] at h2 ⊢
  omega
theorem a_odn {o : Nat} (h1 : o % 2 = 1) (h2 : a_CB ≤ o) (h3 : (o - a_CB) / 2 < 36) : (o - a_CB) / 2 < 36 ∧ o = a_CB + (2 * ((o - a_CB) / 2) + 1) := by
  refine ⟨h3, ?_⟩
  simp only [a_CB] at h2 ⊢
  omega
theorem a_in_vp {x : Int32} {n : Nat} (h : a_in x n = true) : vp_in x n := by
  simp only [a_in, Bool.not_eq_true', Bool.or_eq_false_iff, decide_eq_false_iff_not] at h
  exact fun q => q.elim h.1 h.2
theorem a_s_getf (C : a_Cx p R s m args meth c G sc i) {x a b : Nat} {r : Nat × a_Lc × List Value × a_Hp} (hd : decode (a_bytes i) pc = .ok (.getfield x, 3)) (hq : (if a = 9 then a_key3 (a_own i) x a_sf = some b else a_key4 (a_own i) x a_fl = some (a, b))) (hs : a_getf a b (pc + 3) lc st h = some (.inl r))
    (HR : a_HR G h H) (HS : va_S (fun q => G.1 ≤ q) s.heap H locs) (HL : a_LR G lc ls (a_maxL i)) (kk : a_KK p l e R s m args below meth c Q G n0 s0 i r) : a_WW p l e R s m args below meth c Q G n0 s0 h H locs pc ls st := by
  obtain ⟨hx, hb, -, hown, hts, hK, -⟩ := C
  unfold a_getf at hs
  split at hs
  · rename_i o rest
    by_cases ha : a = 9
    · rw [if_pos ha] at hs hq
      split at hs
      · rename_i hc
        obtain ⟨h1, h2, h3⟩ := hc
        obtain ⟨k, hk36, hk⟩ := a_evn h1 h2 h3
        subst hk
        obtain ⟨-, g2, g3, -, -⟩ := hK.2.2.1 k hk36
        have hw := a_i_sf (a_e_sf _ (a_key3_mem hq))
        have e1 : ∀ y : Nat, a_cv G (.ref (a_CB + y)) = .ref (G.2.1 y) := fun y => by rw [a_cv_ref, a_ad_str]
        split at hs
        · rename_i hb0
          subst hb0
          obtain rfl := a_nx_inv hs
          have k1 := kk H locs ls HR HS HL
          unfold a_WW at k1 ⊢
          dsimp only at k1
          rw [List.map_cons, Nat.add_assoc, e1] at k1
          rw [List.map_cons, e1]
          exact vk_getf hx hb g3 HS hown (hts _ hw) (fun _ q => q) hd k1
        · rename_i hb0
          obtain rfl := a_nx_inv hs
          have k1 := kk H locs ls HR HS HL
          unfold a_WW at k1 ⊢
          rw [List.map_cons, e1]
          have hw' : Cond.fieldLink (a_cn (a_own i)) x "java/lang/String" "coder" "B" ∈ a_W := by
            have := hw
            unfold a_w_sf at this
            dsimp only at this
            rw [if_neg hb0] at this
            exact this
          exact vk_getf hx hb g2 HS hown (hts _ hw') (fun _ q => q) hd k1
      · cases hs
    · rw [if_neg ha] at hs hq
      split at hs
      · rename_i hc
        obtain ⟨h1, h2, h3, h4⟩ := hc
        obtain rfl := a_nx_inv hs
        have k1 := kk H locs ls HR HS HL
        unfold a_WW at k1 ⊢
        dsimp only at k1
        rw [List.map_cons] at k1
        rw [List.map_cons, a_cv_ref, a_ad_dyn G h1]
        have hw := a_i_fl (a_e_fl _ (a_key4_mem hq))
        refine va_get (own := a_cn (a_own i)) (ref := (a_T a b).1) hx hb hts (a_lays h4) hown hK.2.1 HR.2.1 o (a_wl_get G h (a_lt h2) |>.trans (by rw [a_cell_obj G h2])) (a_cls a h4) b h3 (hts _ hw) (fun _ q => q) (v := a_cv G (a_fv a b h o)) ?_ hd k1
        rw [List.getElem?_map, List.getElem?_range h3]
        rfl
      · cases hs
  · cases hs
theorem a_okH_up {h : a_Hp} {o k : Nat} {x : Int32} (hok : a_okH h) (hb : ∀ n, h.1[o]? = some (1, n) → fits .byte (.int x) = true) : a_okH (h.1, h.2.1, a_up h.2.2.1 o k x, h.2.2.2) := by
  refine ⟨hok.1, fun o' k' n' ho' => ⟨(hok.2 o' k' n' ho').1, fun h1 j => ?_⟩⟩
  show fits .byte (.int (a_up h.2.2.1 o k x o' j)) = true
  unfold a_up
  split
  · rename_i e1
    split
    · subst e1; subst h1
      exact hb n' ho'
    · exact (hok.2 o' k' n' ho').2 h1 j
  · exact (hok.2 o' k' n' ho').2 h1 j
theorem a_okH_up1 {h : a_Hp} {o k : Nat} {x : Option Nat} (hok : a_okH h) : a_okH (h.1, a_up h.2.1 o k x, h.2.2.1, h.2.2.2) := hok
theorem a_s_putf (C : a_Cx p R s m args meth c G sc i) {x a b : Nat} {r : Nat × a_Lc × List Value × a_Hp} (hd : decode (a_bytes i) pc = .ok (.putfield x, 3)) (hq : a_key4 (a_own i) x a_fl = some (a, b)) (hfi : (a_T a b).2.2.2 = false ∨ (a_nm i = "<init>" ∧ a_own i = a)) (hs : a_putf a b (pc + 3) lc st h = some (.inl r))
    (HR : a_HR G h H) (HS : va_S (fun q => G.1 ≤ q) s.heap H locs) (HL : a_LR G lc ls (a_maxL i)) (kk : a_KK p l e R s m args below meth c Q G n0 s0 i r) : a_WW p l e R s m args below meth c Q G n0 s0 h H locs pc ls st := by
  obtain ⟨hx, hb, -, hown, hts, hK, hnm, -⟩ := C
  have hw := a_i_fl (a_e_fl _ (a_key4_mem hq))
  have core : ∀ (o : Nat) (rest : List Value) (v : Value) (h' : a_Hp), o < a_CB → h.1[o]? = some (10 + a, a_fn a) → b < a_fn a → a < 9 → h'.1 = h.1 → a_okH h' → a_cv G (a_fv a b h' o) = a_cv G v → (∀ j, j ≠ b → a_fv a j h' o = a_fv a j h o) → (∀ j, j ≠ o → a_cell G h' j = a_cell G h j) →
      narrow (a_ty a b) (a_cv G v) = a_cv G v → fits (a_ty a b) (a_cv G v) = true → a_hs h' = a_hs h → a_KK p l e R s m args below meth c Q G n0 s0 i (pc + 3, lc, rest, h') → a_WW p l e R s m args below meth c Q G n0 s0 h H locs pc ls (v :: .ref o :: rest) := by
    intro o rest v h' h1 h2 h3 h4 e1 e2 e3 e4 e5 e6 e7 e8 k0
    have h2' : h'.1[o]? = some (10 + a, a_fn a) := by rw [e1]; exact h2
    have hset : (a_wl G h).set o (G.1 + o, .inr (a, ((List.range (a_fn a)).map (fun j => a_cv G (a_fv a j h o))).set b (a_cv G v))) = a_wl G h' := by
      refine a_wl_set G h h' (a_lt h2) e1 ?_ e5
      rw [a_cell_obj G h2', a_mapset (a_fn a) b _ (fun j => a_cv G (a_fv a j h' o)) (a_cv G v) e3 (fun j hj => by rw [e4 j hj])]
    have hk : ∀ (H1 : Heap) (locs1 : List Loc), H1.size = H.size → va_P G.2.2.1 a_cl ((a_wl G h).set o (G.1 + o, .inr (a, ((List.range (a_fn a)).map (fun j => a_cv G (a_fv a j h o))).set b (a_cv G v)))) H1 → va_S (fun q => G.1 ≤ q) s.heap H1 locs1 → W p l e R s m args below meth c H1 locs1 (h.1.length - n0) (a_hs h - s0) Q (F0 m (pc + 3) ls (rest.map (a_cv G))) := by
      intro H1 locs1 z hP hS1
      rw [hset] at hP
      have k1 := k0 H1 locs1 ls ⟨by rw [z, HR.1]; show _ = G.1 + h'.1.length; rw [e1], hP, e2⟩ hS1 HL
      unfold a_WW at k1
      dsimp only at k1
      rw [e1, e8] at k1
      exact k1
    have hsz : ∀ (H1 : Heap), va_P G.2.2.1 a_cl ((a_wl G h).set o (G.1 + o, .inr (a, ((List.range (a_fn a)).map (fun j => a_cv G (a_fv a j h o))).set b (a_cv G v)))) H1 → True := fun _ _ => trivial
    unfold a_WW
    rw [List.map_cons, List.map_cons, a_cv_ref, a_ad_dyn G h1]
    have hl : b < ((List.range (a_fn a)).map (fun j => a_cv G (a_fv a j h o))).length := by simp; exact h3
    obtain ⟨r0, q1, cell, q2, q3, q4, q5⟩ := HR.2.1 o _ (a_wl_get G h (a_lt h2) |>.trans (by rw [a_cell_obj G h2]))
    have hr0 : r0 = (a_cn a, a_T a, a_fn a) := Option.some.inj (q1.symm.trans (a_cls a h4))
    subst hr0
    have hKc := hK.2.1.1 a _ (a_cls a h4)
    obtain ⟨hSl, hfc, kC, hkC, hkind⟩ := hKc
    obtain ⟨cf, kf, fi, f, hi, hsl⟩ := hSl b h3
    have hap := va_apart (own := a_cn (a_own i)) hts (a_lays h4) (a_ty a) (a_tyo a h4) (a_nmm a h4) hK.2.1 (a_cls a h4)
    have hlays := u_lays hts (a_lays h4) h3
    have hst := (u_facts hfc hkC hlays hi).1
    have hP' : ∀ H1 : Heap, H1[G.1 + o]? = some (cell.setSlot f.slot (a_cv G v)) → (∀ q, q ≠ G.1 + o → H1[q]? = H[q]?) → va_P G.2.2.1 a_cl ((a_wl G h).set o (G.1 + o, .inr (a, ((List.range (a_fn a)).map (fun j => a_cv G (a_fv a j h o))).set b (a_cv G v)))) H1 := by
      intro H1 e1 e3
      rw [hsl] at e1
      exact HR.2.1.set (a_wl_D G h) (a_wl_get G h (a_lt h2)) ⟨_, a_cls a h4, t_OB.to (V := updV (vp_V ((List.range (a_fn a)).map (fun j => a_cv G (a_fv a j h o)))) b (a_cv G v)) ⟨_, e1, q3, q4, t_set q5 hap h3 _⟩ (fun j _ => vp_updV_set hl _ j)⟩ e3
    by_cases hfin : (a_T a b).2.2.2 = true
    · rcases hfi with hf0 | ⟨hf1, hf2⟩
      · rw [hfin] at hf0; cases hf0
      · have hlay := hts _ (a_lays h4 _ (u_in_lay h3))
        unfold u_lay at hlay
        rw [if_pos hfin] at hlay
        have hcf : m.cls = cf := by
          obtain ⟨_, _, c', _, _, _, -, -, hf', -, -, -, hown2, -⟩ := Cond.laysFinal_spec hlay
          have e1 : c' = cf := by have := hi.symm.trans hf'; simp at this; exact this.1.symm
          rw [a_selfT a h4 b h3, ← hf2] at hown2
          rw [← e1]; exact Option.some.inj (hown.symm.trans hown2)
        have h6 := u_fits hfc hkC hkind (Or.inr hlay) hi (a_tyo a h4 b h3) e6 e7
        refine W.putFinK hx hb hown (hts _ hw) hi hst hcf (hnm hf1) (by rw [q3]; exact h6) q2 q4 (by rw [hsl]; exact k2_hasslot (q5 b h3)) rfl rfl hd fun H1 e1 e2 e3 => ?_
        exact hk H1 _ e2 (hP' H1 e1 e3) (HS.put e2 e3 (by show G.1 ≤ _; omega))
    · have hfin' : (a_T a b).2.2.2 = false := by simpa using hfin
      have hlay := hts _ (a_lays h4 _ (u_in_lay h3))
      unfold u_lay at hlay
      rw [if_neg hfin] at hlay
      have h6 := u_store hfc hkC hkind hlay hi (a_tyo a h4 b h3) e6 e7
      refine W.putK hx hb (f := f) ⟨hown, hts _ hw, ⟨_, _, _, hi⟩, hst⟩ (by rw [q3]; exact h6) q2 q4 (by rw [hsl]; exact k2_hasslot (q5 b h3)) rfl rfl hd fun H1 e1 e2 e3 => ?_
      exact hk H1 _ e2 (hP' H1 e1 e3) (HS.put e2 e3 (by show G.1 ≤ _; omega))
  have cellne : ∀ (h' : a_Hp), h'.1 = h.1 → ∀ o, (∀ j, j ≠ o → h'.2.1 j = h.2.1 j ∧ h'.2.2.1 j = h.2.2.1 j) → ∀ j, j ≠ o → a_cell G h' j = a_cell G h j := by
    intro h' e1 o hj j hne
    obtain ⟨g1, g2⟩ := hj j hne
    unfold a_cell
    rw [e1, g1, g2]
    unfold a_fv
    rw [g1, g2]
  unfold a_putf at hs
  split at hs
  · rename_i y o rest
    split at hs
    · rename_i hc
      obtain ⟨h1, h2, h3, h4, h5⟩ := hc
      obtain rfl := a_nx_inv hs
      have hne1 : a_fk a b ≠ 1 := by omega
      refine core o rest (.int y) (h.1, h.2.1, a_up h.2.2.1 o b y, h.2.2.2) h1 h2 h3 h4 rfl (a_okH_up HR.2.2 (fun n hn => by rw [h2] at hn; simp at hn; omega)) ?_ ?_ (cellne (h.1, h.2.1, a_up h.2.2.1 o b y, h.2.2.2) rfl o (fun j hj => ⟨rfl, by show a_up h.2.2.1 o b y j = _; funext k; simp [a_up, hj]⟩)) ?_ ?_ rfl kk
      · simp [a_fv, hne1, a_up]
      · intro j hj
        simp [a_fv, a_up, hj]
      · rcases a_kinds a h4 b h3 with ⟨g1, g2⟩ | ⟨g1, g2⟩ | ⟨g1, g2⟩
        · rw [g2]; rfl
        · rw [g2]
          rcases h5 with h5 | ⟨-, rfl | rfl⟩
          · omega
          · rfl
          · rfl
        · omega
      · rcases a_kinds a h4 b h3 with ⟨g1, g2⟩ | ⟨g1, g2⟩ | ⟨g1, g2⟩
        · rw [g2]; rfl
        · rw [g2]
          rcases h5 with h5 | ⟨-, rfl | rfl⟩
          · omega
          · rfl
          · rfl
        · omega
    · cases hs
  · rename_i v o rest
    split at hs
    · rename_i hc
      obtain ⟨h1, h2, h3, h4, h5, h6, h7⟩ := hc
      obtain rfl := a_nx_inv hs
      have hty : a_fits (a_ty a b) = true := by
        rcases a_kinds a h4 b h3 with ⟨g1, g2⟩ | ⟨g1, g2⟩ | ⟨g1, g2⟩
        · omega
        · omega
        · exact g2
      refine core o rest (.ref v) (h.1, a_up h.2.1 o b (some v), h.2.2.1, h.2.2.2) h1 h2 h3 h4 rfl (a_okH_up1 HR.2.2) ?_ ?_ (cellne (h.1, a_up h.2.1 o b (some v), h.2.2.1, h.2.2.2) rfl o (fun j hj => ⟨by show a_up h.2.1 o b (some v) j = _; funext k; simp [a_up, hj], rfl⟩)) ?_ ?_ rfl kk
      · simp [a_fv, h5, a_up, a_rv]
      · intro j hj
        simp [a_fv, a_up, hj]
      · unfold a_fits at hty
        split at hty
        · rename_i e; rw [e]; rfl
        · rename_i e; rw [e]; rfl
        · cases hty
      · unfold a_fits at hty
        split at hty
        · rename_i e; rw [e]; rfl
        · rename_i e; rw [e]; rfl
        · cases hty
    · cases hs
  · cases hs
end AHP
end
section
section AAR
variable {p : Program} {l : Launch} {e : Env} {R : Room} {s : State} {m : MethodId} {args : Array Value} {below : List Frame} {meth : Method} {c : Code} {Q : State → Prop} {G : a_G} {n0 s0 : Nat} {h : a_Hp} {H : Heap} {locs : List Loc} {pc : Nat} {ls : Array Slot} {st : List Value} {sc : Nat × (Nat → Int32)} {i : Nat} {lc lc' : a_Lc} {pc' : Nat} {st' : List Value} {h' : a_Hp}
theorem a_none_ge {h : a_Hp} {o : Nat} (ho : h.1[o]? = none) : h.1.length ≤ o := List.getElem?_eq_none_iff.mp ho
theorem a_s_ld (C : a_Cx p R s m args meth c G sc i) {t : Nat} {ins : Instr} {r : Nat × a_Lc × List Value × a_Hp} (hi : (ins = .iaload ∧ t = 0) ∨ (ins = .baload ∧ t = 1) ∨ (ins = .aaload ∧ t = 3)) (hd : decode (a_bytes i) pc = .ok (ins, 1)) (hs : a_ld t (pc + 1) lc st h = some (.inl r)) (hsc : h.2.2.2 = sc)
    (HR : a_HR G h H) (HS : va_S (fun q => G.1 ≤ q) s.heap H locs) (HL : a_LR G lc ls (a_maxL i)) (kk : a_KK p l e R s m args below meth c Q G n0 s0 i r) : a_WW p l e R s m args below meth c Q G n0 s0 h H locs pc ls st := by
  obtain ⟨hx, hb, -, hown, hts, hK, -⟩ := C
  unfold a_ld at hs
  split at hs
  · rename_i j o rest
    split at hs
    · rename_i k n ho
      split at hs
      · rename_i hc
        obtain ⟨h1, h2, h3⟩ := hc
        have hin := a_in_vp h2
        have hg := a_wl_get G h (a_lt ho)
        split at hs
        · rename_i ht3
          subst ht3
          obtain rfl := a_nx_inv hs
          have k1 := kk H locs ls HR HS HL
          unfold a_WW at k1 ⊢
          rcases hi with ⟨rfl, e1⟩ | ⟨rfl, e1⟩ | ⟨rfl, -⟩
          · omega
          · omega
          · have hk3 : k = 3 := by omega
            subst hk3
            rw [a_cell_arr G ho] at hg
            rw [List.map_cons, List.map_cons, a_cv_ref, a_ad_dyn G h1, a_cv_int]
            refine va_aldq hx hb hK.2.1 HR.2.1 o 3 hg rfl hin hd ?_
            rw [a_rv_rf]
            exact k1
        · rename_i ht3
          obtain rfl := a_nx_inv hs
          have k1 := kk H locs ls HR HS HL
          unfold a_WW at k1 ⊢
          rw [List.map_cons, List.map_cons, a_cv_ref, a_ad_dyn G h1, a_cv_int]
          rcases hi with ⟨rfl, e1⟩ | ⟨rfl, e1⟩ | ⟨rfl, e1⟩
          · have hk0 : k = 0 := by omega
            subst hk0
            rw [a_cell_num G ho (by omega)] at hg
            exact va_iald hx hb hK.2.1 HR.2.1 o 0 hg rfl hin hd k1
          · have hk12 : k = 1 ∨ k = 2 := by omega
            rcases hk12 with rfl | rfl
            · rw [a_cell_num G ho (by omega)] at hg
              exact va_bald hx hb hK.2.1 HR.2.1 o 1 hg rfl hin hd k1
            · rw [a_cell_num G ho (by omega)] at hg
              exact va_zald hx hb hK.2.1 HR.2.1 o 2 hg rfl hin hd k1
          · omega
      · cases hs
    · rename_i ho
      split at hs
      · rename_i hc
        obtain ⟨rfl, rfl, h3⟩ := hc
        obtain rfl := a_nx_inv hs
        have k1 := kk H locs ls HR HS HL
        unfold a_WW at k1 ⊢
        rw [List.map_cons, List.map_cons, a_cv_ref, a_ad_str, a_cv_int]
        rcases hi with ⟨rfl, -⟩ | ⟨-, e1⟩ | ⟨-, e1⟩
        · rw [hsc] at h3 k1
          have hlt := hK.2.2.2.2.1
          exact va_sld hx hb hK.2.2.2.1 (Nat.lt_of_lt_of_le hlt hK.1) (by omega) HS (a_in_vp h3) hd k1
        · omega
        · omega
      · split at hs
        · rename_i hc
          obtain ⟨rfl, h1, h2, h3, h4⟩ := hc
          obtain ⟨hk36, ek⟩ := a_odn h1 h2 h3
          obtain rfl := a_nx_inv hs
          have k1 := kk H locs ls HR HS HL
          generalize hkk : (o - a_CB) / 2 = k at *
          subst ek
          unfold a_WW at k1 ⊢
          rw [List.map_cons, List.map_cons, a_cv_ref, a_ad_str, a_cv_int]
          obtain ⟨-, -, -, g4, -⟩ := hK.2.2.1 k hk36
          rcases hi with ⟨-, e1⟩ | ⟨rfl, -⟩ | ⟨-, e1⟩
          · omega
          · exact va_tb hx hb g4 HS (a_in_vp h4) rfl hd k1
          · omega
        · cases hs
  · cases hs
theorem a_cellne {h h' : a_Hp} (e1 : h'.1 = h.1) (o : Nat) (hj : ∀ j, j ≠ o → h'.2.1 j = h.2.1 j ∧ h'.2.2.1 j = h.2.2.1 j) : ∀ j, j ≠ o → a_cell G h' j = a_cell G h j := by
  intro j hne
  obtain ⟨g1, g2⟩ := hj j hne
  unfold a_cell
  rw [e1, g1, g2]
  unfold a_fv
  rw [g1, g2]
theorem a_up_ne {α : Type} {f : Nat → Nat → α} {o k j : Nat} {v : α} (hj : j ≠ o) : a_up f o k v j = f j := by
  funext q
  simp [a_up, hj]
theorem a_up_upd (f : Nat → Nat → Int32) (o k : Nat) (v : Int32) : a_up f o k v o = upd (f o) k v := by
  funext q
  simp [a_up, upd]
theorem a_row_ne {α : Type} {f : Nat → Nat → α} {o j : Nat} {g : Nat → α} (hj : j ≠ o) : a_row f o g j = f j := by
  simp [a_row, hj]
theorem a_row_eq {α : Type} {f : Nat → Nat → α} {o : Nat} {g : Nat → α} : a_row f o g o = g := by
  simp [a_row]
theorem a_s_stx (C : a_Cx p R s m args meth c G sc i) {t : Nat} {ins : Instr} {r : Nat × a_Lc × List Value × a_Hp} (hi : (ins = .iastore ∧ t = 0) ∨ (ins = .bastore ∧ t = 1) ∨ (ins = .aastore ∧ t = 3)) (hd : decode (a_bytes i) pc = .ok (ins, 1)) (hs : a_stx t (pc + 1) lc st h = some (.inl r))
    (HR : a_HR G h H) (HS : va_S (fun q => G.1 ≤ q) s.heap H locs) (HL : a_LR G lc ls (a_maxL i)) (kk : a_KK p l e R s m args below meth c Q G n0 s0 i r) : a_WW p l e R s m args below meth c Q G n0 s0 h H locs pc ls st := by
  obtain ⟨hx, hb, -, hown, hts, hK, -⟩ := C
  unfold a_stx at hs
  split at hs
  · rename_i x j o rest
    split at hs
    · rename_i k n ho
      split at hs
      · rename_i hc
        obtain ⟨h1, h2, h3, h4⟩ := hc
        have hin := a_in_vp h2
        have hk3 : k < 3 := by omega
        have hg := a_wl_get G h (a_lt ho)
        rw [a_cell_num G ho hk3] at hg
        obtain rfl := a_nx_inv hs
        generalize hz : a_nar k x = z at *
        have hset : (a_wl G h).set o (G.1 + o, .inl (a_cid G k, n, .inl (upd (h.2.2.1 o) j.toNatClampNeg z))) = a_wl G (h.1, h.2.1, a_up h.2.2.1 o j.toNatClampNeg z, h.2.2.2) := by
          refine a_wl_set G h (h.1, h.2.1, a_up h.2.2.1 o j.toNatClampNeg z, h.2.2.2) (a_lt ho) rfl ?_ (a_cellne (G := G) (h := h) (h' := (h.1, h.2.1, a_up h.2.2.1 o j.toNatClampNeg z, h.2.2.2)) rfl o (fun q hq => ⟨rfl, a_up_ne hq⟩))
          rw [a_cell_num G (show (h.1, h.2.1, a_up h.2.2.1 o j.toNatClampNeg z, h.2.2.2).1[o]? = some (k, n) from ho) hk3]
          show Sum.inl (a_cid G k, n, Sum.inl (a_up h.2.2.1 o j.toNatClampNeg z o)) = _
          rw [a_up_upd]
        have hok : a_okH (h.1, h.2.1, a_up h.2.2.1 o j.toNatClampNeg z, h.2.2.2) := by
          refine a_okH_up HR.2.2 (fun n' hn' => ?_)
          rw [ho] at hn'
          cases hn'
          rw [← hz]
          show fits .byte (.int (a_nar 1 x)) = true
          unfold a_nar
          rw [if_pos rfl, vp_nar_byte]
          exact pk_fb x
        have go : ∀ (H1 : Heap), H1[G.1 + o]? = some (vp_cell (a_cid G k) (n, .inl (upd (h.2.2.1 o) j.toNatClampNeg z))) → H1.size = H.size → (∀ q, q ≠ G.1 + o → H1[q]? = H[q]?) → W p l e R s m args below meth c H1 (locs ++ [⟨G.1 + o, j.toNatClampNeg⟩]) (h.1.length - n0) (a_hs h - s0) Q (F0 m (pc + 1) ls (rest.map (a_cv G))) := by
          intro H1 e1 z1 oq
          refine kk H1 _ ls ⟨?_, ?_, hok⟩ (HS.put z1 oq (by show G.1 ≤ _; omega)) HL
          · rw [z1, HR.1]
          · rw [← hset]
            exact HR.2.1.set (a_wl_D G h) hg e1 oq
        unfold a_WW
        rw [List.map_cons, List.map_cons, List.map_cons, a_cv_ref, a_ad_dyn G h1, a_cv_int, a_cv_int]
        have hK2 := fun (q : Nat) (hq : q < 3) => hK.2.1.2 q _ (a_tys_at G hq)
        rcases hi with ⟨rfl, e1⟩ | ⟨rfl, e1⟩ | ⟨rfl, e1⟩
        · have hk0 : k = 0 := by omega
          subst hk0
          have hz' : z = x := by rw [← hz]; rfl
          refine W.iast hx hb (HR.2.1 o _ hg) ((hK2 0 (by omega)).1 n (fun q => .int (h.2.2.1 o q))) (fun q => by cases q) (by show ¬ (j < 0 ∨ (arrV _ _ _).slots.size ≤ _); rw [arrV_size]; exact hin) rfl rfl hd fun H1 e z1 oq => go H1 ?_ z1 oq
          rw [e]
          rw [vp_cell_i, vp_cell_i, arrV_store, hz']
          congr 2
          funext q
          by_cases hq : q = j.toNatClampNeg
          · subst hq
            simp [updV, upd]
          · simp [updV, upd, hq]
        · have hk12 : k = 1 ∨ k = 2 := by omega
          rcases hk12 with rfl | rfl
          · have hz' : z = vp_nar .byte x := by rw [← hz]; rfl
            refine W.bast hx hb (HR.2.1 o _ hg) ((hK2 1 (by omega)).1 n (fun q => .int (h.2.2.1 o q))) (fun q => by cases q) (by show ¬ (j < 0 ∨ (arrV _ _ _).slots.size ≤ _); rw [arrV_size]; exact hin) rfl rfl hd fun H1 e z1 oq => go H1 ?_ z1 oq
            rw [e]
            rw [vp_cell_i, vp_cell_i, arrV_store, hz']
            congr 2
            funext q
            by_cases hq : q = j.toNatClampNeg
            · subst hq
              simp [updV, upd, vp_nar]
              try rfl
            · simp [updV, upd, hq]
          · have hz' : z = vp_nar .boolean x := by rw [← hz]; rfl
            refine W.zast hx hb (HR.2.1 o _ hg) ((hK2 2 (by omega)).1 n (fun q => .int (h.2.2.1 o q))) (fun q => by cases q) (by show ¬ (j < 0 ∨ (arrV _ _ _).slots.size ≤ _); rw [arrV_size]; exact hin) rfl rfl hd fun H1 e z1 oq => go H1 ?_ z1 oq
            rw [e]
            rw [vp_cell_i, vp_cell_i, arrV_store, hz']
            congr 2
            funext q
            by_cases hq : q = j.toNatClampNeg
            · subst hq
              simp [updV, upd, vp_nar]
              try rfl
            · simp [updV, upd, hq]
        · omega
      · cases hs
    · cases hs
  · rename_i v j o rest
    split at hs
    · rename_i k n ho
      split at hs
      · rename_i hc
        obtain ⟨h1, h2, rfl, h4, h5, h6⟩ := hc
        have hin := a_in_vp h2
        have hg := a_wl_get G h (a_lt ho)
        rw [a_cell_arr G ho] at hg
        have hgv := a_wl_get G h (a_lt h6)
        rw [show (11 : Nat) = 10 + 1 from rfl] at h6
        rw [a_cell_obj G h6] at hgv
        obtain rfl := a_nx_inv hs
        have hset : (a_wl G h).set o (G.1 + o, .inl (G.2.2.2.2.2.2, n, .inr (.inr (.inr (.inr (va_up (fun q => (h.2.1 o q).map (a_ad G)) j.toNatClampNeg (some (G.1 + v)))))))) = a_wl G (h.1, a_up h.2.1 o j.toNatClampNeg (some v), h.2.2.1, h.2.2.2) := by
          refine a_wl_set G h (h.1, a_up h.2.1 o j.toNatClampNeg (some v), h.2.2.1, h.2.2.2) (a_lt ho) rfl ?_ (a_cellne (G := G) (h := h) (h' := (h.1, a_up h.2.1 o j.toNatClampNeg (some v), h.2.2.1, h.2.2.2)) rfl o (fun q hq => ⟨a_up_ne hq, rfl⟩))
          rw [a_cell_arr G (show (h.1, a_up h.2.1 o j.toNatClampNeg (some v), h.2.2.1, h.2.2.2).1[o]? = some (3, n) from ho)]
          congr 7
          funext q
          show (a_up h.2.1 o j.toNatClampNeg (some v) o q).map (a_ad G) = _
          unfold a_up va_up
          rw [if_pos rfl]
          by_cases hq : q = j.toNatClampNeg
          · rw [if_pos hq, if_pos hq]
            show some (a_ad G v) = _
            rw [a_ad_dyn G h5]
          · rw [if_neg hq, if_neg hq]
        unfold a_WW
        rw [List.map_cons, List.map_cons, List.map_cons, a_cv_ref, a_ad_dyn G h5, a_cv_ref, a_ad_dyn G h1, a_cv_int]
        rcases hi with ⟨-, e1⟩ | ⟨-, e1⟩ | ⟨rfl, -⟩
        · omega
        · omega
        · have hlt : j.toNatClampNeg < n := Nat.not_le.mp fun q => hin (Or.inr q)
          have h0 : ¬ j < 0 := fun q => hin (Or.inl q)
          obtain ⟨r', hr', cellV, g1, g2, g3, -⟩ := HR.2.1 v _ hgv
          have hcls := (hK.2.1.1 1 _ (a_cls 1 (by omega))).2
          obtain ⟨kA, comp, k1, k2, k3, -⟩ := (hK.2.1.2 3 _ (rfl : (a_tys G)[3]? = some (G.2.2.2.2.2.2, .object "PreCommitHall$Hall"))).2
          have hcomp : comp = G.2.2.1.1 1 := Option.some.inj (k3.symm.trans hcls.1)
          subst hcomp
          obtain ⟨kC, hkC, -⟩ := hcls.2
          refine W.aast hx hb (HR.2.1 o _ hg) (fun q h => by cases h) (fun h => by cases h) k1 k2 rfl hkC ⟨h0, by show _ < (arrV _ _ _).slots.size; rw [arrV_size]; exact hlt⟩ g1 (fun q h => by rw [g3] at h; cases h) (by rw [g2]; exact hkC) (by rw [g2]; exact va_assign hcls) rfl rfl hd fun H1 e z1 oq => ?_
          refine kk H1 _ ls ⟨?_, ?_, a_okH_up1 HR.2.2⟩ (HS.put z1 oq (by show G.1 ≤ _; omega)) HL
          · rw [z1, HR.1]
          · rw [← hset]
            refine HR.2.1.set (a_wl_D G h) hg ?_ oq
            show H1[G.1 + o]? = some (vp_cell _ _)
            rw [e]
            rw [vp_cell_q, vp_cell_q, arrV_store]
            congr 2
            funext q
            by_cases hq : q = j.toNatClampNeg
            · subst hq
              simp [updV, va_up, va_rf]
            · simp [updV, va_up, hq]
      · cases hs
    · cases hs
  · cases hs
theorem a_hs_push (h : a_Hp) (k n : Nat) : a_hs (a_push k n h) = a_hs h + n := by
  simp [a_hs, a_push]
theorem a_push_len (h : a_Hp) (k n : Nat) : (a_push k n h).1.length = h.1.length + 1 := by simp [a_push]
theorem a_push_okH {k n : Nat} (hok : a_okH h) (hl : h.1.length < a_CB) (hk : k < 4 ∨ (10 ≤ k ∧ k < 19 ∧ n = a_fn (k - 10))) : a_okH (a_push k n h) := by
  refine ⟨by rw [a_push_len]; omega, fun o k' n' ho => ?_⟩
  by_cases hlt : o < h.1.length
  · have ho' : h.1[o]? = some (k', n') := by
      rw [← ho]
      show _ = (h.1 ++ [(k, n)])[o]?
      rw [List.getElem?_append_left hlt]
    refine ⟨(hok.2 o k' n' ho').1, fun e1 j => ?_⟩
    show fits .byte (.int (a_row h.2.2.1 h.1.length (fun _ => 0) o j)) = true
    rw [a_row_ne (by omega)]
    exact (hok.2 o k' n' ho').2 e1 j
  · have ho' : (h.1 ++ [(k, n)])[o]? = some (k', n') := ho
    rw [List.getElem?_append_right (by omega)] at ho'
    have hz := (List.getElem?_eq_some_iff.mp ho').1
    simp at hz
    have he : o = h.1.length := by omega
    subst he
    rw [Nat.sub_self] at ho'
    cases ho'
    refine ⟨hk, fun e1 j => ?_⟩
    show fits .byte (.int (a_row h.2.2.1 h.1.length (fun _ => 0) h.1.length j)) = true
    rw [a_row_eq]
    rfl
theorem a_push_at (h : a_Hp) (k n : Nat) : (a_push k n h).1[h.1.length]? = some (k, n) := by simp [a_push]
theorem a_push_cells (G : a_G) (h : a_Hp) (k n : Nat) : ∀ j, j < h.1.length → a_cell G (a_push k n h) j = a_cell G h j := by
  intro j hj
  have e1 : (a_push k n h).1[j]? = h.1[j]? := List.getElem?_append_left hj
  have e2 : (a_push k n h).2.1 j = h.2.1 j := a_row_ne (by omega)
  have e3 : (a_push k n h).2.2.1 j = h.2.2.1 j := a_row_ne (by omega)
  unfold a_cell
  rw [e1, e2, e3]
  unfold a_fv
  rw [e2, e3]
theorem a_HR_push {k n : Nat} {H1 : Heap} (HR : a_HR G h H) (hl : h.1.length < a_CB) (hk : k < 4 ∨ (10 ≤ k ∧ k < 19 ∧ n = a_fn (k - 10))) (z1 : H1.size = H.size + 1) (o1 : ∀ q, q < H.size → H1[q]? = H[q]?) (hc : va_at G.2.2.1 a_cl (H.size, a_cell G (a_push k n h) h.1.length) H1) : a_HR G (a_push k n h) H1 := by
  refine ⟨by rw [z1, HR.1, a_push_len]; omega, ?_, a_push_okH HR.2.2 hl hk⟩
  rw [← a_wl_push G h (a_push k n h) (k, n) rfl rfl (a_push_cells G h k n)]
  refine (HR.2.1.kept (fun q x hx => o1 x.1 ((HR.2.1 q x hx).lt))).app (fun q x hx => ?_)
  have hz : q < 1 := (List.getElem?_eq_some_iff.mp hx).1
  rw [show q = 0 by omega] at hx
  cases hx
  rw [← HR.1]
  exact hc
theorem a_S_push {H1 : Heap} (HS : va_S (fun q => G.1 ≤ q) s.heap H locs) (z1 : H1.size = H.size + 1) (o1 : ∀ q, q < H.size → H1[q]? = H[q]?) : va_S (fun q => G.1 ≤ q) s.heap H1 locs :=
  ⟨Nat.le_trans HS.1 (by omega), fun x h1 h2 => (o1 x (Nat.lt_of_lt_of_le h1 HS.1)).trans (HS.2.1 x h1 h2), HS.2.2⟩
theorem a_s_newo (C : a_Cx p R s m args meth c G sc i) {x a : Nat} {r : Nat × a_Lc × List Value × a_Hp} (hd : decode (a_bytes i) pc = .ok (.new x, 3)) (hq : a_key3 (a_own i) x a_cll = some a) (hs : a_newo a (pc + 3) lc st h = some (.inl r)) (hN : n0 ≤ h.1.length ∧ s0 ≤ a_hs h) (hR : r.2.2.2.1.length - n0 ≤ R.cells ∧ a_hs r.2.2.2 - s0 ≤ R.slots)
    (HR : a_HR G h H) (HS : va_S (fun q => G.1 ≤ q) s.heap H locs) (HL : a_LR G lc ls (a_maxL i)) (kk : a_KK p l e R s m args below meth c Q G n0 s0 i r) : a_WW p l e R s m args below meth c Q G n0 s0 h H locs pc ls st := by
  obtain ⟨hx, hb, -, hown, hts, hK, -⟩ := C
  unfold a_newo at hs
  split at hs
  · rename_i hc
    obtain ⟨h1, h2⟩ := hc
    obtain rfl := a_nx_inv hs
    dsimp only at hR
    rw [a_push_len, a_hs_push] at hR
    have hcl : (Cond.classLink (a_cn (a_own i)) x (a_cn a)).before args s = true := hts _ (a_i_cll (a_e_cll _ (a_key3_mem hq)))
    have hin2 : (Cond.instantiable (a_cn a) (a_fn a)).before args s = true := hts _ (a_i_inst2 (a_e_inst2 a h2))
    have hini : (Cond.initialized (a_cn a)).before args s = true := hts _ (a_i_init (a_e_init a (by omega)))
    have hKc := hK.2.1.1 a _ (a_cls a h2)
    unfold a_WW
    refine W.newcK (n := a_fn a) (C := a_cn a) hx hb hown hcl hin2 hini rfl hd (by omega) (by omega) hKc.2.1 rfl fun H1 kC hkC e1 z1 o1 => ?_
    have k1 := kk H1 locs ls (a_HR_push HR h1 (Or.inr ⟨by omega, by omega, by rw [show 10 + a - 10 = a by omega]⟩) z1 o1 ?_) (a_S_push HS z1 o1) HL
    · unfold a_WW at k1
      dsimp only at k1
      rw [a_push_len, a_hs_push, List.map_cons, a_cv_ref, a_ad_dyn G h1, ← HR.1] at k1
      refine W.widen (by omega) (by omega) k1
    · rw [a_cell_obj G (a_push_at h (10 + a) (a_fn a))]
      refine ⟨_, a_cls a h2, (u_born (a_ty a) hts (a_lays h2) hKc hkC e1 (a_tyo a h2)).to (fun j hj => ?_)⟩
      have hj' : j < a_fn a := hj
      show defaultValue (a_ty a j) = ((List.range (a_fn a)).map _).getD j .null
      rw [List.getD_eq_getElem?_getD, List.getElem?_map, List.getElem?_range hj']
      show _ = a_cv G (a_fv a j (a_push (10 + a) (a_fn a) h) h.1.length)
      unfold a_fv
      rw [show (a_push (10 + a) (a_fn a) h).2.1 h.1.length = fun _ => none from a_row_eq, show (a_push (10 + a) (a_fn a) h).2.2.1 h.1.length = fun _ => 0 from a_row_eq]
      rcases a_kinds a h2 j hj' with ⟨g1, g2⟩ | ⟨g1, g2⟩ | ⟨g1, g2⟩
      · rw [g1, g2]; rfl
      · rw [g1, g2]; rfl
      · rw [if_pos g1]
        unfold a_fits at g2
        split at g2
        · rename_i e; rw [e]; rfl
        · rename_i e; rw [e]; rfl
        · cases g2
  · cases hs
theorem a_s_newa (C : a_Cx p R s m args meth c G sc i) {t : ArrayType} {a : Nat} {r : Nat × a_Lc × List Value × a_Hp} (hd : decode (a_bytes i) pc = .ok (.newarray t, 2)) (hq : (t = .int ∧ a = 0) ∨ (t = .byte ∧ a = 1) ∨ (t = .boolean ∧ a = 2)) (hs : a_newa a (pc + 2) lc st h = some (.inl r)) (hN : n0 ≤ h.1.length ∧ s0 ≤ a_hs h) (hR : r.2.2.2.1.length - n0 ≤ R.cells ∧ a_hs r.2.2.2 - s0 ≤ R.slots)
    (HR : a_HR G h H) (HS : va_S (fun q => G.1 ≤ q) s.heap H locs) (HL : a_LR G lc ls (a_maxL i)) (kk : a_KK p l e R s m args below meth c Q G n0 s0 i r) : a_WW p l e R s m args below meth c Q G n0 s0 h H locs pc ls st := by
  obtain ⟨hx, hb, -, hown, hts, hK, -⟩ := C
  unfold a_newa at hs
  split at hs
  · rename_i n rest
    split at hs
    · rename_i hc
      obtain ⟨h1, h2, h3, h4⟩ := hc
      obtain rfl := a_nx_inv hs
      dsimp only at hR
      rw [a_push_len, a_hs_push] at hR
      have ha3 : a < 3 := by omega
      have hty : newarray.typeOf t = a_tyk a := by rcases hq with ⟨rfl, rfl⟩ | ⟨rfl, rfl⟩ | ⟨rfl, rfl⟩ <;> rfl
      have harr : (Cond.arrayClass (newarray.typeOf t)).before args s = true := by
        rcases hq with ⟨rfl, rfl⟩ | ⟨rfl, rfl⟩ | ⟨rfl, rfl⟩
        · exact hts _ a_x_arrI
        · exact hts _ a_x_arrB
        · exact hts _ a_x_arrZ
      have hbytes : n.toNatClampNeg * componentBytes (newarray.typeOf t) ≤ 536870912 := by
        have : componentBytes (newarray.typeOf t) ≤ 4 := by rcases hq with ⟨rfl, -⟩ | ⟨rfl, -⟩ | ⟨rfl, -⟩ <;> decide
        calc n.toNatClampNeg * componentBytes (newarray.typeOf t) ≤ 100000 * 4 := Nat.mul_le_mul h3 this
          _ ≤ 536870912 := by decide
      unfold a_WW
      rw [List.map_cons, a_cv_int]
      refine va_newaK (g := F0 m pc ls (.int n :: rest.map (a_cv G))) hx hb harr rfl hd rfl h2 rfl hbytes (by omega) (by omega) rfl fun H1 cA e1 z1 o1 hAr hNm => ?_
      have hcA : cA = a_cid G a := by
        have g := (hK.2.1.2 a _ (a_tys_at G ha3)).2
        rw [hty] at hNm
        rcases (show a = 0 ∨ a = 1 ∨ a = 2 by omega) with rfl | rfl | rfl
        · exact Option.some.inj (hNm.symm.trans g)
        · exact Option.some.inj (hNm.symm.trans g)
        · exact Option.some.inj (hNm.symm.trans g)
      subst hcA
      have k1 := kk H1 locs ls (a_HR_push HR h1 (Or.inl (by omega)) z1 o1 ?_) (a_S_push HS z1 o1) HL
      · unfold a_WW at k1
        dsimp only at k1
        rw [a_push_len, a_hs_push, List.map_cons, a_cv_ref, a_ad_dyn G h1, ← HR.1] at k1
        exact W.widen (by omega) (by omega) k1
      · rw [a_cell_num G (a_push_at h a n.toNatClampNeg) ha3]
        show H1[H.size]? = some (vp_cell _ _)
        rw [e1, vp_cell_i]
        congr 2
        funext j
        show defaultValue (newarray.typeOf t) = .int ((a_push a n.toNatClampNeg h).2.2.1 h.1.length j)
        rw [show (a_push a n.toNatClampNeg h).2.2.1 h.1.length = fun _ => 0 from a_row_eq, hty]
        rcases (show a = 0 ∨ a = 1 ∨ a = 2 by omega) with rfl | rfl | rfl <;> rfl
    · cases hs
  · cases hs
theorem a_s_newq (C : a_Cx p R s m args meth c G sc i) {x : Nat} {r : Nat × a_Lc × List Value × a_Hp} (hd : decode (a_bytes i) pc = .ok (.anewarray x, 3)) (hq : a_key3 (a_own i) x a_cll = some 1) (hs : a_newa 3 (pc + 3) lc st h = some (.inl r)) (hN : n0 ≤ h.1.length ∧ s0 ≤ a_hs h) (hR : r.2.2.2.1.length - n0 ≤ R.cells ∧ a_hs r.2.2.2 - s0 ≤ R.slots)
    (HR : a_HR G h H) (HS : va_S (fun q => G.1 ≤ q) s.heap H locs) (HL : a_LR G lc ls (a_maxL i)) (kk : a_KK p l e R s m args below meth c Q G n0 s0 i r) : a_WW p l e R s m args below meth c Q G n0 s0 h H locs pc ls st := by
  obtain ⟨hx, hb, -, hown, hts, hK, -⟩ := C
  unfold a_newa at hs
  split at hs
  · rename_i n rest
    split at hs
    · rename_i hc
      obtain ⟨h1, h2, h3, h4⟩ := hc
      obtain rfl := a_nx_inv hs
      dsimp only at hR
      rw [a_push_len, a_hs_push] at hR
      have hcl := hts _ (a_i_cll (a_e_cll _ (a_key3_mem hq)))
      have hover := hK.2.2.2.2.2.2.2.1
      unfold a_WW
      rw [List.map_cons, a_cv_int]
      refine W.anew (g := F0 m pc ls (.int n :: rest.map (a_cv G))) hx hb hown hcl (va_AO.use hover) rfl hd rfl h2 (by omega) (by omega) (by omega) fun cA kA comp f1 f2 f3 f4 => ?_
      generalize hH1 : H.push ({ cls := cA, slots := Array.replicate n.toNatClampNeg .null, vm := .none } : Cell) = H1
      have z1 : H1.size = H.size + 1 := by rw [← hH1, Array.size_push]
      have e1 : H1[H.size]? = some (arrV cA n.toNatClampNeg (fun _ => .null)) := by rw [← hH1, Array.getElem?_push_size, ← arrV_new]
      have o1 : ∀ q : Nat, q < H.size → H1[q]? = H[q]? := fun q hq => by rw [← hH1, Array.getElem?_push, if_neg (Nat.ne_of_lt hq)]
      have hcA : cA = G.2.2.2.2.2.2 := by
        obtain ⟨kA', comp', g1, g2, g3, g4⟩ := (hK.2.1.2 3 _ (rfl : (a_tys G)[3]? = some (G.2.2.2.2.2.2, .object "PreCommitHall$Hall"))).2
        exact Option.some.inj (f1.symm.trans g4)
      subst hcA
      have k1 := kk H1 locs ls (a_HR_push HR h1 (Or.inl (by omega)) z1 o1 ?_) (a_S_push HS z1 o1) HL
      · unfold a_WW at k1
        dsimp only at k1
        rw [a_push_len, a_hs_push, List.map_cons, a_cv_ref, a_ad_dyn G h1, ← HR.1] at k1
        exact W.widen (by omega) (by omega) k1
      · rw [a_cell_arr G (a_push_at h 3 n.toNatClampNeg)]
        show H1[H.size]? = some (vp_cell _ _)
        rw [e1, vp_cell_q]
        congr 2
        funext j
        show Value.null = va_rf (((a_push 3 n.toNatClampNeg h).2.1 h.1.length j).map (a_ad G))
        rw [show (a_push 3 n.toNatClampNeg h).2.1 h.1.length = fun _ => none from a_row_eq]
        rfl
    · cases hs
  · cases hs
end AAR
end
section
section ARS
variable {p : Program} {l : Launch} {e : Env} {R : Room} {s : State} {m : MethodId} {args : Array Value} {below : List Frame} {meth : Method} {c : Code} {Q : State → Prop} {G : a_G} {n0 s0 : Nat} {h : a_Hp} {H : Heap} {locs : List Loc} {pc : Nat} {ls : Array Slot} {st : List Value} {sc : Nat × (Nat → Int32)} {i : Nat} {lc lc' : a_Lc} {pc' : Nat} {st' : List Value} {h' : a_Hp}
theorem a_s_alen (C : a_Cx p R s m args meth c G sc i) {r : Nat × a_Lc × List Value × a_Hp} (hd : decode (a_bytes i) pc = .ok (.arraylength, 1)) (hs : a_alen (pc + 1) lc st h = some (.inl r)) (hsc : h.2.2.2 = sc)
    (HR : a_HR G h H) (HS : va_S (fun q => G.1 ≤ q) s.heap H locs) (HL : a_LR G lc ls (a_maxL i)) (kk : a_KK p l e R s m args below meth c Q G n0 s0 i r) : a_WW p l e R s m args below meth c Q G n0 s0 h H locs pc ls st := by
  obtain ⟨hx, hb, -, hown, hts, hK, -⟩ := C
  unfold a_alen at hs
  split at hs
  · rename_i o rest
    split at hs
    · rename_i k n ho
      split at hs
      · rename_i hc
        obtain ⟨h1, h2⟩ := hc
        obtain rfl := a_nx_inv hs
        have k1 := kk H locs ls HR HS HL
        unfold a_WW at k1 ⊢
        rw [List.map_cons, a_cv_ref, a_ad_dyn G h1]
        have hg := a_wl_get G h (a_lt ho)
        by_cases hk3 : k < 3
        · rw [a_cell_num G ho hk3] at hg
          exact va_alen (x := (n, .inl (h.2.2.1 o))) hx hb hK.2.1 HR.2.1 o k hg (a_tys_at G hk3) rfl hd k1
        · have hk : k = 3 := by omega
          subst hk
          rw [a_cell_arr G ho] at hg
          exact va_alen (x := (n, .inr (.inr (.inr (.inr (fun j => (h.2.1 o j).map (a_ad G))))))) hx hb hK.2.1 HR.2.1 o 3 hg (rfl : (a_tys G)[3]? = some (G.2.2.2.2.2.2, .object "PreCommitHall$Hall")) rfl hd k1
      · cases hs
    · rename_i ho
      split at hs
      · rename_i hc
        subst hc
        obtain rfl := a_nx_inv hs
        have k1 := kk H locs ls HR HS HL
        unfold a_WW at k1 ⊢
        rw [List.map_cons, a_cv_ref, a_ad_str]
        rw [hsc] at k1
        have hlt := hK.2.2.2.2.1
        exact va_slen hx hb hK.2.2.2.1 (Nat.lt_of_lt_of_le hlt hK.1) (by omega) HS hd k1
      · split at hs
        · rename_i hc
          obtain ⟨h1, h2, h3⟩ := hc
          obtain ⟨hk36, ek⟩ := a_odn h1 h2 h3
          obtain rfl := a_nx_inv hs
          have k1 := kk H locs ls HR HS HL
          generalize hkk : (o - a_CB) / 2 = k at *
          subst ek
          unfold a_WW at k1 ⊢
          rw [List.map_cons, a_cv_ref, a_ad_str]
          obtain ⟨-, -, -, g4, -⟩ := hK.2.2.1 k hk36
          exact va_tlen hx hb g4 HS rfl hd k1
        · cases hs
  · cases hs
theorem a_s_cpy (C : a_Cx p R s m args meth c G sc i) {x : Nat} {r : Nat × a_Lc × List Value × a_Hp} (hd : decode (a_bytes i) pc = .ok (.invokestatic x, 3)) (hq : a_key2 (a_own i) x a_ac = true) (hs : a_cpy (pc + 3) lc st h = some (.inl r)) (hfr : 1 ≤ R.frames ∧ 26 ≤ R.locals)
    (HR : a_HR G h H) (HS : va_S (fun q => G.1 ≤ q) s.heap H locs) (HL : a_LR G lc ls (a_maxL i)) (kk : a_KK p l e R s m args below meth c Q G n0 s0 i r) : a_WW p l e R s m args below meth c Q G n0 s0 h H locs pc ls st := by
  obtain ⟨hx, hb, hml, hown, hts, hK, -⟩ := C
  unfold a_cpy at hs
  split at hs
  · rename_i n dp d sp q rest
    split at hs
    · rename_i k0 nn0 k1 nn1 ho0 ho1
      split at hs
      · rename_i hc
        obtain ⟨g1, g2, rfl, g3, h1, h2, h3, h4, h5, h6⟩ := hc
        obtain rfl := a_nx_inv hs
        have hk3 : k0 < 3 := by omega
        have ha0 := a_wl_get G h (a_lt ho0)
        have ha1 := a_wl_get G h (a_lt ho1)
        rw [a_cell_num G ho0 hk3] at ha0
        rw [a_cell_num G ho1 hk3] at ha1
        have ht := a_tys_at G hk3
        generalize hf : h.2.2.1 q = f at *
        generalize hg : h.2.2.1 d = g at *
        have hprim : refKind (a_tyk k0) = false := by rcases (show k0 = 0 ∨ k0 = 1 by omega) with rfl | rfl <;> rfl
        have hfit : ∀ j, fits (a_tyk k0) (.int (f j)) = true := by
          intro j
          rcases (show k0 = 0 ∨ k0 = 1 by omega) with rfl | rfl
          · rfl
          · rw [← hf]; exact (HR.2.2.2 q 1 nn0 ho0).2 rfl j
        have hset : (a_wl G h).set d (G.1 + d, .inl (a_cid G k0, nn1, .inl (va_cpy f g sp.toNatClampNeg dp.toNatClampNeg n.toNatClampNeg))) = a_wl G (h.1, h.2.1, a_row h.2.2.1 d (va_cpy f g sp.toNatClampNeg dp.toNatClampNeg n.toNatClampNeg), h.2.2.2) := by
          refine a_wl_set G h (h.1, h.2.1, a_row h.2.2.1 d (va_cpy f g sp.toNatClampNeg dp.toNatClampNeg n.toNatClampNeg), h.2.2.2) (a_lt ho1) rfl ?_ (a_cellne (G := G) (h := h) (h' := (h.1, h.2.1, a_row h.2.2.1 d (va_cpy f g sp.toNatClampNeg dp.toNatClampNeg n.toNatClampNeg), h.2.2.2)) rfl d (fun j hj => ⟨rfl, a_row_ne hj⟩))
          rw [a_cell_num G (show (h.1, h.2.1, a_row h.2.2.1 d (va_cpy f g sp.toNatClampNeg dp.toNatClampNeg n.toNatClampNeg), h.2.2.2).1[d]? = some (k0, nn1) from ho1) hk3]
          show Sum.inl (a_cid G k0, nn1, Sum.inl (a_row h.2.2.1 d (va_cpy f g sp.toNatClampNeg dp.toNatClampNeg n.toNatClampNeg) d)) = _
          rw [a_row_eq]
        have hok : a_okH (h.1, h.2.1, a_row h.2.2.1 d (va_cpy f g sp.toNatClampNeg dp.toNatClampNeg n.toNatClampNeg), h.2.2.2) := by
          refine ⟨HR.2.2.1, fun o' k' n' ho' => ⟨(HR.2.2.2 o' k' n' ho').1, fun e1 j => ?_⟩⟩
          show fits .byte (.int (a_row h.2.2.1 d (va_cpy f g sp.toNatClampNeg dp.toNatClampNeg n.toNatClampNeg) o' j)) = true
          by_cases hod : o' = d
          · subst hod
            have ho'' : h.1[o']? = some (k', n') := ho'
            rw [ho1] at ho''
            cases ho''
            subst e1
            rw [a_row_eq]
            unfold va_cpy
            split
            · exact hfit _
            · rw [← hg]; exact (HR.2.2.2 o' 1 nn1 ho1).2 rfl j
          · rw [a_row_ne hod]
            exact (HR.2.2.2 o' k' n' ho').2 e1 j
        unfold a_WW
        rw [List.map_cons, List.map_cons, List.map_cons, List.map_cons, List.map_cons, a_cv_int, a_cv_int, a_cv_int, a_cv_ref, a_cv_ref, a_ad_dyn G g1, a_ad_dyn G g2]
        have nn : ∀ z : Int32, ¬ z < 0 → z.toInt = (z.toNatClampNeg : Int) := by
          intro z hz
          have hz0 : (0 : Int) ≤ z.toInt := by
            have := Int32.not_lt.mp hz
            simpa using Int32.le_iff_toInt_le.mp this
          show z.toInt = ((z.toInt.toNat : Nat) : Int)
          omega
        intro T hT X
        have hc0 : H[G.1 + q]? = some (vp_cell (a_cid G k0) (nn0, .inl f)) := HR.2.1 q _ ha0
        have hc1 : H[G.1 + d]? = some (vp_cell (a_cid G k0) (nn1, .inl g)) := HR.2.1 d _ ha1
        obtain ⟨-, kk0, hkk0, cm0, hkkk0⟩ := (hK.2.1.2 k0 _ ht).1 nn0 (fun j => .int (f j))
        obtain ⟨-, kk1, hkk1, cm1, hkkk1⟩ := (hK.2.1.2 k0 _ ht).1 nn1 (fun j => .int (g j))
        obtain ⟨vm', X', step⟩ := X.arraycopy hx hown (hts _ (a_i_ac (a_e_ac _ (a_key2_mem hq)))) (hts _ a_x_acN) (hts _ a_x_acS) (hts _ a_x_iniSys) (src := G.1 + q) (dst := G.1 + d) (cs := vp_cell (a_cid G k0) (nn0, .inl f)) (cd := vp_cell (a_cid G k0) (nn1, .inl g)) (srcPos := sp) (destPos := dp) (n := n) (by rw [hT]; exact hc0) (by rw [hT]; exact hc1)
          (fun _ h => by cases h) (fun _ h => by cases h) (fun h => by cases h) (fun h => by cases h) hkk0 hkk1 hkkk0 hkkk1 (by simp [hprim]) h1 h2 h3
          (by rw [nn sp h1, nn n h3]; show ¬ _ > ((arrV (a_cid G k0) nn0 (fun j => .int (f j))).slots.size : Int); rw [arrV_size]; omega)
          (by rw [nn dp h2, nn n h3]; show ¬ _ > ((arrV (a_cid G k0) nn1 (fun j => .int (g j))).slots.size : Int); rw [arrV_size]; omega)
          (fun vm₁ _ j hj => by
            have ee : (vp_cell (a_cid G k0) (nn0, .inl f)).slots.getD (sp.toNatClampNeg + j) .null = .int (f (sp.toNatClampNeg + j)) := by
              show (arrV (a_cid G k0) nn0 (fun j => .int (f j))).slots.getD _ _ = _
              rw [Array.getD_eq_getD_getElem?, arrV_read _ _ (by omega)]
              rfl
            refine ⟨?_, ?_⟩
            · rw [ee]
              exact hfit _
            · rw [ee]
              exact trivial)
          (g := F0 m pc ls (.int n :: .int dp :: .ref (G.1 + d) :: .int sp :: .ref (G.1 + q) :: rest.map (a_cv G))) rfl (by rw [hml]; exact HL.2.1) (rest := rest.map (a_cv G)) rfl (by rw [hb]; exact hd) hfr.1 (by rw [a_cat]; show 2 * 0 + _ + (7 + 11) ≤ _; omega)
        have e1 : copied (vp_cell (a_cid G k0) (nn0, .inl f)) (vp_cell (a_cid G k0) (nn1, .inl g)) sp dp n = vp_cell (a_cid G k0) (nn1, .inl (va_cpy f g sp.toNatClampNeg dp.toNatClampNeg n.toNatClampNeg)) := va_copied (fun z => .int z) (a_cid G k0) (a_cid G k0) f g h4
        rw [e1] at X' step
        have hl : G.1 + d < H.size := (Array.getElem?_eq_some_iff.mp hc1).1
        have hheap : ((T.setVm vm').setCell (G.1 + d) (vp_cell (a_cid G k0) (nn1, .inl (va_cpy f g sp.toNatClampNeg dp.toNatClampNeg n.toNatClampNeg)))).heap = H.setIfInBounds (G.1 + d) (vp_cell (a_cid G k0) (nn1, .inl (va_cpy f g sp.toNatClampNeg dp.toNatClampNeg n.toNatClampNeg))) := by rw [← hT]; rfl
        have oq : ∀ z : Nat, z ≠ G.1 + d → (H.setIfInBounds (G.1 + d) (vp_cell (a_cid G k0) (nn1, .inl (va_cpy f g sp.toNatClampNeg dp.toNatClampNeg n.toNatClampNeg))))[z]? = H[z]? := fun z hz => by simp [Array.getElem?_setIfInBounds, Ne.symm hz]
        have k1 := fun (L : List Loc) (hL : ∀ z ∈ L, z.base = G.1 + d) => kk (H.setIfInBounds (G.1 + d) (vp_cell (a_cid G k0) (nn1, .inl (va_cpy f g sp.toNatClampNeg dp.toNatClampNeg n.toNatClampNeg)))) (locs ++ L) ls ⟨by rw [Array.size_setIfInBounds, HR.1], by rw [← hset]; exact HR.2.1.set (a_wl_D G h) ha1 (show (H.setIfInBounds (G.1 + d) _)[G.1 + d]? = some _ by simp [Array.getElem?_setIfInBounds, hl]) oq, hok⟩
          ⟨by simp; exact HS.1, fun z g1 g2 => by
            rw [oq z (fun e => g2 (by rw [e]; show G.1 ≤ _; omega))]
            exact HS.2.1 z g1 g2, fun z hz => by
            rcases List.mem_append.mp hz with h | h
            · exact HS.2.2 z h
            · show G.1 ≤ z.base
              rw [hL z h]
              omega⟩ HL
        obtain ⟨t, a1, b1⟩ := k1 _ (fun z hz => by
          obtain ⟨w, -, hw⟩ := List.mem_map.mp hz
          rw [← hw]) _ hheap X'
        exact ⟨t, step t a1, b1⟩
      · cases hs
    · cases hs
  · cases hs
theorem a_s_op2 (C : a_Cx p R s m args meth c G sc i) {ins : Instr} {f : Int32 → Int32 → Int32} {r : Nat × a_Lc × List Value × a_Hp} (hi : (ins = .iadd ∧ f = fun (x y : Int32) => x + y) ∨ (ins = .isub ∧ f = fun (x y : Int32) => x - y) ∨ (ins = .imul ∧ f = fun (x y : Int32) => x * y) ∨ (ins = .iand ∧ f = fun (x y : Int32) => x &&& y) ∨ (ins = .ior ∧ f = fun (x y : Int32) => x ||| y) ∨ (ins = .ixor ∧ f = fun (x y : Int32) => x ^^^ y) ∨ (ins = .ishl ∧ f = fun (x y : Int32) => x <<< (y &&& 31)) ∨ (ins = .ishr ∧ f = fun (x y : Int32) => x >>> (y &&& 31)) ∨ (ins = .iushr ∧ f = fun (x y : Int32) => (x.toUInt32 >>> (y.toUInt32 &&& Int32.toUInt32 31)).toInt32))
    (hd : decode (a_bytes i) pc = .ok (ins, 1)) (hs : a_op2 f (pc + 1) lc st h = some (.inl r))
    (HR : a_HR G h H) (HS : va_S (fun q => G.1 ≤ q) s.heap H locs) (HL : a_LR G lc ls (a_maxL i)) (kk : a_KK p l e R s m args below meth c Q G n0 s0 i r) : a_WW p l e R s m args below meth c Q G n0 s0 h H locs pc ls st := by
  obtain ⟨hx, hb, -⟩ := C
  unfold a_op2 at hs
  split at hs
  · obtain rfl := a_nx_inv hs
    have k1 := kk H locs ls HR HS HL
    rcases hi with ⟨rfl, rfl⟩ | ⟨rfl, rfl⟩ | ⟨rfl, rfl⟩ | ⟨rfl, rfl⟩ | ⟨rfl, rfl⟩ | ⟨rfl, rfl⟩ | ⟨rfl, rfl⟩ | ⟨rfl, rfl⟩ | ⟨rfl, rfl⟩
    · exact lv_iadd hx hb hd k1
    · exact lv_isub hx hb hd k1
    · exact lv_imul hx hb hd k1
    · exact lv_iand hx hb hd k1
    · exact lv_ior hx hb hd k1
    · exact lv_ixor hx hb hd k1
    · exact lv_ishl hx hb hd k1
    · exact lv_ishr hx hb hd k1
    · exact lv_iushr hx hb hd rfl k1
  · cases hs
theorem a_s_opd (C : a_Cx p R s m args meth c G sc i) {ins : Instr} {f : Int32 → Int32 → Int32} {r : Nat × a_Lc × List Value × a_Hp} (hi : (ins = .idiv ∧ f = fun (x y : Int32) => x / y) ∨ (ins = .irem ∧ f = fun (x y : Int32) => x - x / y * y))
    (hd : decode (a_bytes i) pc = .ok (ins, 1)) (hs : a_opd f (pc + 1) lc st h = some (.inl r))
    (HR : a_HR G h H) (HS : va_S (fun q => G.1 ≤ q) s.heap H locs) (HL : a_LR G lc ls (a_maxL i)) (kk : a_KK p l e R s m args below meth c Q G n0 s0 i r) : a_WW p l e R s m args below meth c Q G n0 s0 h H locs pc ls st := by
  obtain ⟨hx, hb, -⟩ := C
  unfold a_opd at hs
  split at hs
  · split at hs
    · cases hs
    · rename_i hy
      obtain rfl := a_nx_inv hs
      have k1 := kk H locs ls HR HS HL
      rcases hi with ⟨rfl, rfl⟩ | ⟨rfl, rfl⟩
      · exact lv_idiv hx hb hd hy k1
      · exact lv_irem hx hb hd hy k1
  · cases hs
theorem a_s_if (C : a_Cx p R s m args meth c G sc i) {cc : Jvm.ClassFile.Cond} {off : Int} {a : Nat} {x : Int32} (hd : decode (a_bytes i) pc = .ok (.ifCond cc off, 3)) (ha : (pc : Int) + off = (a : Int))
    (HR : a_HR G h H) (HS : va_S (fun q => G.1 ≤ q) s.heap H locs) (HL : a_LR G lc ls (a_maxL i)) (kk : a_KK p l e R s m args below meth c Q G n0 s0 i (if a_cmp cc x 0 = true then a else pc + 3, lc, st, h)) : a_WW p l e R s m args below meth c Q G n0 s0 h H locs pc ls (.int x :: st) := by
  obtain ⟨hx, hb, -⟩ := C
  have k1 := kk H locs ls HR HS HL
  unfold a_WW at k1 ⊢
  dsimp only at k1
  rw [List.map_cons, a_cv_int]
  cases cc with
  | eq => exact lv_if_eq hx hb hd ha (fun q => by rw [if_pos (by simp [a_cmp]; exact q)] at k1; exact k1) (fun q => by rw [if_neg (by simp [a_cmp]; exact q)] at k1; exact k1)
  | ne => exact lv_if_ne hx hb hd ha (fun q => by rw [if_pos (by simp [a_cmp]; exact q)] at k1; exact k1) (fun q => by rw [if_neg (by simp [a_cmp]; exact q)] at k1; exact k1)
  | lt => exact lv_if_lt hx hb hd ha (fun q => by rw [if_pos (by simp [a_cmp]; exact q)] at k1; exact k1) (fun q => by rw [if_neg (by simpa [a_cmp] using q)] at k1; exact k1)
  | ge => exact lv_if_ge hx hb hd ha (fun q => by rw [if_pos (by simp [a_cmp]; exact q)] at k1; exact k1) (fun q => by rw [if_neg (by simpa [a_cmp] using q)] at k1; exact k1)
  | gt => exact lv_if_gt hx hb hd ha (fun q => by rw [if_pos (by simp [a_cmp]; exact q)] at k1; exact k1) (fun q => by rw [if_neg (by simpa [a_cmp] using q)] at k1; exact k1)
  | le => exact lv_if_le hx hb hd ha (fun q => by rw [if_pos (by simp [a_cmp]; exact q)] at k1; exact k1) (fun q => by rw [if_neg (by simpa [a_cmp] using q)] at k1; exact k1)
theorem a_s_icmp (C : a_Cx p R s m args meth c G sc i) {cc : Jvm.ClassFile.Cond} {off : Int} {a : Nat} {x y : Int32} (hd : decode (a_bytes i) pc = .ok (.if_icmp cc off, 3)) (ha : (pc : Int) + off = (a : Int))
    (HR : a_HR G h H) (HS : va_S (fun q => G.1 ≤ q) s.heap H locs) (HL : a_LR G lc ls (a_maxL i)) (kk : a_KK p l e R s m args below meth c Q G n0 s0 i (if a_cmp cc x y = true then a else pc + 3, lc, st, h)) : a_WW p l e R s m args below meth c Q G n0 s0 h H locs pc ls (.int y :: .int x :: st) := by
  obtain ⟨hx, hb, -⟩ := C
  have k1 := kk H locs ls HR HS HL
  unfold a_WW at k1 ⊢
  dsimp only at k1
  rw [List.map_cons, List.map_cons, a_cv_int, a_cv_int]
  cases cc with
  | eq => exact lv_icmp_eq hx hb hd ha (fun q => by rw [if_pos (by simp [a_cmp]; exact q)] at k1; exact k1) (fun q => by rw [if_neg (by simp [a_cmp]; exact q)] at k1; exact k1)
  | ne => exact lv_icmp_ne hx hb hd ha (fun q => by rw [if_pos (by simp [a_cmp]; exact q)] at k1; exact k1) (fun q => by rw [if_neg (by simp [a_cmp]; exact q)] at k1; exact k1)
  | lt => exact lv_icmp_lt hx hb hd ha (fun q => by rw [if_pos (by simp [a_cmp]; exact q)] at k1; exact k1) (fun q => by rw [if_neg (by simpa [a_cmp] using q)] at k1; exact k1)
  | ge => exact lv_icmp_ge hx hb hd ha (fun q => by rw [if_pos (by simp [a_cmp]; exact q)] at k1; exact k1) (fun q => by rw [if_neg (by simpa [a_cmp] using q)] at k1; exact k1)
  | gt => exact lv_icmp_gt hx hb hd ha (fun q => by rw [if_pos (by simp [a_cmp]; exact q)] at k1; exact k1) (fun q => by rw [if_neg (by simpa [a_cmp] using q)] at k1; exact k1)
  | le => exact lv_icmp_le hx hb hd ha (fun q => by rw [if_pos (by simp [a_cmp]; exact q)] at k1; exact k1) (fun q => by rw [if_neg (by simpa [a_cmp] using q)] at k1; exact k1)
end ARS
end
section
/-! THE ABSTRACT MACHINE IS TRUE OVER THE MACHINE -/
def a_nal : List Nat := a_ms.map (fun q => ((parseMethodDescriptor q.1.desc).map (fun d => d.parameters.length)).getD 99)
def a_callok (i : Nat) (r : Nat × a_Rw) : Bool := match r.2 with
  | (ins, _, a, b, _) => match ins with
    | .invokevirtual _ => a == 999 || (decide (a_FR a + 1 ≤ a_FR i) && decide (19 + a_maxL a + a_LO a ≤ a_LO i) && a_nal.getD a 0 + 1 == b)
    | .invokestatic _ => a == 999 || (if a = 1001 then decide (1 ≤ a_FR i) && decide (26 ≤ a_LO i) else decide (a_FR a + 1 ≤ a_FR i) && decide (19 + a_maxL a + a_LO a ≤ a_LO i) && a_nal.getD a 0 == b)
    | .invokespecial _ => a == 999 || (if a = 1000 then decide (1 ≤ a_FR i) && decide (20 ≤ a_LO i) else decide (a_FR a + 1 ≤ a_FR i) && decide (19 + a_maxL a + a_LO a ≤ a_LO i) && a_nal.getD a 0 + 1 == b)
    | _ => true
theorem a_callok_all : (List.range 274).all (fun i => (a_codes.getD i []).all (a_callok i)) = true := by decide +kernel
theorem a_nal_all : ∀ j, j < 274 → (parseMethodDescriptor (a_y j).desc).map (fun d => d.parameters.length) = some (a_nal.getD j 0) := by decide +kernel
theorem a_nmy : ∀ j, j < 274 → a_nm j = (a_y j).name := by decide +kernel
section ASO
variable {p : Program} {l : Launch} {e : Env} {R : Room} {s : State} {m : MethodId} {args : Array Value} {below : List Frame} {meth : Method} {c : Code} {Q : State → Prop} {G : a_G} {n0 s0 : Nat} {h : a_Hp} {H : Heap} {locs : List Loc} {pc : Nat} {ls : Array Slot} {st : List Value} {sc : Nat × (Nat → Int32)} {i : Nat} {lc lc' : a_Lc} {pc' : Nat} {st' : List Value} {h' : a_Hp}
theorem a_ofW {y : MethodName} {ws ws' : List Cond} {rm : Room} {Pc : Array Value → State → Prop} {Qc : Array Value → State → Outcome → State → Prop} {mc ms : Nat} {free : Addr → Prop} {cc : ByteArray} {maxL : Nat} {ret : Option FieldType}
    (hy : plainFor y = true) (hw : ws = Cond.code y cc maxL ret :: ws')
    (body : ∀ p e s m args below meth c s₁, BodyLoose p l y (headSpec ws rm) cc maxL ret e s m args below meth c s₁ → c.maxLocals = maxL → Pc args s →
      W p l e (headSpec ws rm).room s m args below meth c s.heap [] 0 0 (MQ below Qc args s mc ms free) (entryFrame m args maxL)) : Met l y ws rm Pc Qc mc ms free := by
  refine MetFree.of_bodySF (code := cc) (maxLocals := maxL) (ret := ret) hy ?_ ?_
  · intro args s m h hn
    obtain ⟨meth, c, h1, h2, h3, h4, h5, h6, -, -⟩ := Cond.code_spec hn (atoms_spec (ws := ws) h _ (by rw [hw]; exact List.mem_cons_self))
    exact ⟨meth, c, h1, h2, h3, h4, h5, h6⟩
  · intro p e s m args below meth c s₁ B hml hP _
    have hh0 : s₁.heap = s.heap := by rw [B.state]; rfl
    obtain ⟨t, a1, o, b1, b2, b3⟩ := body p e s m args below meth c s₁ B hml hP s₁ hh0 (Stand.of_body B)
    exact ⟨t, o, a1, b1, b2, ⟨b3.1, b3.2⟩⟩
def a_Met (l : Launch) (G : a_G) (sc : Nat × (Nat → Int32)) (i : Nat) (as : List Value) (h : a_Hp) (v : Option Value) (h' : a_Hp) : Prop :=
  Met l (a_y i) (a_ws i) { frames := a_FR i, cells := h'.1.length - h.1.length, slots := a_hs h' - a_hs h, locals := a_LO i } (va_Pc (as.map (a_cv G)) (fun U => a_K G sc U ∧ a_HR G h U.heap))
    (fun _ st o t => o = .returned (v.map (a_cv G)) ∧ a_HR G h' t.heap ∧ ∀ q : Nat, q < G.1 → t.heap[q]? = st.heap[q]?) (h'.1.length - h.1.length) (a_hs h' - a_hs h) (fun q => G.1 ≤ q)
/-- a method's end -/
def a_End (i pc : Nat) (v : Option Value) : Prop := match v with
  | none => decode (a_bytes i) pc = .ok (.return_, 1) ∧ a_ret i = none
  | some (.int x) => decode (a_bytes i) pc = .ok (.ireturn, 1) ∧ ∃ ty, a_ret i = some ty ∧ narrow ty (.int x) = .int x
  | some (.ref _) => decode (a_bytes i) pc = .ok (.areturn, 1) ∧ ∃ ty, a_ret i = some ty ∧ a_fits ty = true
  | _ => False
/-- monotony of one step -/
def a_Mo (h h' : a_Hp) : Prop := h.1.length ≤ h'.1.length ∧ a_hs h ≤ a_hs h' ∧ h'.2.2.2 = h.2.2.2
theorem a_Mo.rf : a_Mo h h := ⟨Nat.le_refl _, Nat.le_refl _, rfl⟩
theorem a_Mo.push (k n : Nat) : a_Mo h (a_push k n h) := ⟨by rw [a_push_len]; omega, by rw [a_hs_push]; omega, rfl⟩
theorem a_Mo.tr {h1 : a_Hp} (x : a_Mo h h1) (y : a_Mo h1 h') : a_Mo h h' := ⟨Nat.le_trans x.1 y.1, Nat.le_trans x.2.1 y.2.1, y.2.2.trans x.2.2⟩
theorem a_Mo_nx {r : Nat × a_Lc × List Value × a_Hp} (h0 : a_Mo h h') (hs : a_nx pc lc st h' = some (.inl r)) : a_Mo h r.2.2.2 := by
  obtain rfl := a_nx_inv hs
  exact h0
theorem a_Mo_up {r : Nat × a_Lc × List Value × a_Hp} {x : Nat → Nat → Option Nat} {y : Nat → Nat → Int32} (hs : a_nx pc lc st (h.1, x, y, h.2.2.2) = some (.inl r)) : a_Mo h r.2.2.2 := by
  obtain rfl := a_nx_inv hs
  exact ⟨Nat.le_refl _, Nat.le_refl _, rfl⟩
end ASO
theorem a_no1 {x : a_Rs} (h : (none : Option a_Rs) = some x) : False := by cases h
theorem a_no2 {x : (Nat × Nat × List Value × List Value) ⊕ Option Value} {y : Nat × a_Lc × List Value × a_Hp} (h : (some (Sum.inr x) : Option a_Rs) = some (Sum.inl y)) : False := by cases h
theorem a_step_mo {i : Nat} {rw' : a_Rw} {pc : Nat} {lc : a_Lc} {st : List Value} {h : a_Hp} {r : Nat × a_Lc × List Value × a_Hp} (hs : a_step i rw' pc lc st h = some (.inl r)) : a_Mo h r.2.2.2 := by
  obtain ⟨ins, n, a, b, v⟩ := rw'
  cases ins <;> first
    | (cases hs; done)
    | exact a_Mo_nx a_Mo.rf hs
    | (simp only [a_step, a_ldi, a_ldl, a_lda, a_sti, a_sta, a_op2, a_opd, a_getf, a_putf, a_ld, a_stx, a_newo, a_newa, a_alen, a_cpy, a_call] at hs
       repeat (first | exact a_Mo_nx a_Mo.rf hs | exact a_Mo_nx (a_Mo.push _ _) hs | exact a_Mo_up hs | exact (a_no1 hs).elim | exact (a_no2 hs).elim | split at hs))

theorem a_ex_mo : ∀ (f : Nat) {i pc : Nat} {lc : a_Lc} {st : List Value} {h : a_Hp} {v : Option Value} {h' : a_Hp}, a_ex f i pc lc st h = some (v, h') → a_Mo h h' := by
  intro f
  induction f with
  | zero => intro i pc lc st h v h' hs; cases hs
  | succ f ih =>
    intro i pc lc st h v h' hs
    unfold a_ex at hs
    split at hs
    · cases hs
    · split at hs
      · cases hs
      · rename_i r1 r2 r3 r4 r5
        exact (a_step_mo r5).tr (ih hs)
      · split at hs
        · cases hs
        · rename_i e1
          exact (ih e1).tr (ih hs)
      · cases hs
        exact a_Mo.rf
end
section
section ASW
variable {p : Program} {l : Launch} {e : Env} {R : Room} {s : State} {m : MethodId} {args : Array Value} {below : List Frame} {meth : Method} {c : Code} {Q : State → Prop} {G : a_G} {n0 s0 : Nat} {h : a_Hp} {H : Heap} {locs : List Loc} {pc : Nat} {ls : Array Slot} {st : List Value} {sc : Nat × (Nat → Int32)} {i : Nat} {lc lc' : a_Lc} {pc' : Nat} {st' : List Value} {h' : a_Hp}
theorem a_s_tsw (C : a_Cx p R s m args meth c G sc i) {d lo hi : Int} {os : Array Int} {n : Nat} {x : Int32} {r : Nat × a_Lc × List Value × a_Hp} (hd : decode (a_bytes i) pc = .ok (.tableswitch d lo hi os, n)) (h1 : 0 ≤ (pc : Int) + d) (h2 : os.toList.all (fun o => decide (0 ≤ (pc : Int) + o)) = true)
    (hs : (if x.toInt < lo ∨ hi < x.toInt then a_nx ((pc : Int) + d).toNat lc st h else (match os[(x.toInt - lo).toNat]? with | some off => a_nx ((pc : Int) + off).toNat lc st h | none => none)) = some (.inl r))
    (HR : a_HR G h H) (HS : va_S (fun q => G.1 ≤ q) s.heap H locs) (HL : a_LR G lc ls (a_maxL i)) (kk : a_KK p l e R s m args below meth c Q G n0 s0 i r) : a_WW p l e R s m args below meth c Q G n0 s0 h H locs pc ls (.int x :: st) := by
  obtain ⟨hx, hb, -⟩ := C
  unfold a_WW
  rw [List.map_cons, a_cv_int]
  split at hs
  · rename_i q
    obtain rfl := a_nx_inv hs
    exact lv_tableOut hx hb hd q (by omega) (kk H locs ls HR HS HL)
  · rename_i q
    split at hs
    · rename_i off ho
      obtain rfl := a_nx_inv hs
      have h3 : 0 ≤ (pc : Int) + off := by
        have := List.all_eq_true.mp h2 off (Array.mem_toList_iff.mpr (Array.mem_of_getElem? ho))
        simpa using this
      exact lv_tableIn hx hb hd (by omega) (by omega) ho (by omega) (kk H locs ls HR HS HL)
    · exact (a_no1 hs).elim
theorem a_lsw_nonneg {d z pc : Int} (h1 : 0 ≤ pc + d) : ∀ (ps : List (Int × Int)), ps.all (fun o => decide (0 ≤ pc + o.2)) = true → 0 ≤ pc + Op.lookupswitch.offset ps d z
  | [], _ => h1
  | (k, o) :: r, h2 => by
    simp only [List.all_cons, Bool.and_eq_true, decide_eq_true_eq] at h2
    unfold Op.lookupswitch.offset
    split
    · exact h2.1
    · exact a_lsw_nonneg h1 r h2.2
theorem a_s_obj (C : a_Cx p R s m args meth c G sc i) {x o : Nat} (hd : decode (a_bytes i) pc = .ok (.invokespecial x, 3)) (hq : a_key2 (a_own i) x a_oi = true) (hr : (st.map fun v => v.category).sum ≤ 8) (hfr : 1 ≤ R.frames ∧ 20 ≤ R.locals)
    (HR : a_HR G h H) (HS : va_S (fun q => G.1 ≤ q) s.heap H locs) (HL : a_LR G lc ls (a_maxL i)) (kk : a_KK p l e R s m args below meth c Q G n0 s0 i (pc + 3, lc, st, h)) : a_WW p l e R s m args below meth c Q G n0 s0 h H locs pc ls (.ref o :: st) := by
  obtain ⟨hx, hb, hml, hown, hts, -⟩ := C
  unfold a_WW
  rw [List.map_cons, a_cv_ref]
  refine W.objInit hx hb hown (hts _ (a_i_oi (a_e_oi _ (a_key2_mem hq)))) (hts _ a_x_objI) (hts _ a_x_objC) rfl (by show ls.size = _; rw [hml]; exact HL.2.1) rfl hd hfr.1 ?_ (kk H locs ls HR HS HL)
  rw [a_cat]
  show 2 * 0 + _ + 12 ≤ _
  omega
theorem a_s_gets (C : a_Cx p R s m args meth c G sc i) {x a : Nat} {r : Nat × a_Lc × List Value × a_Hp} (hd : decode (a_bytes i) pc = .ok (.getstatic x, 3)) (hq : a_key3 (a_own i) x a_sl = some a) (hs : (if a = 0 then a_nx (pc + 3) lc (.int 1 :: st) h else a_nx (pc + 3) lc (.retAddr 0 :: st) h) = some (.inl r))
    (HR : a_HR G h H) (HS : va_S (fun q => G.1 ≤ q) s.heap H locs) (HL : a_LR G lc ls (a_maxL i)) (kk : a_KK p l e R s m args below meth c Q G n0 s0 i r) : a_WW p l e R s m args below meth c Q G n0 s0 h H locs pc ls st := by
  obtain ⟨hx, hb, hml, hown, hts, hK, -⟩ := C
  have hw := a_i_sl (a_e_sl _ (a_key3_mem hq))
  unfold a_w_sl at hw
  dsimp only at hw
  split at hs
  · rename_i ha
    rw [if_pos ha] at hw
    obtain rfl := a_nx_inv hs
    exact va_gets hx hb hK.2.2.2.2.2.1 HS hown (hts _ hw) (fun _ q => q) hd (kk H locs ls HR HS HL)
  · rename_i ha
    rw [if_neg ha] at hw
    obtain rfl := a_nx_inv hs
    have k1 := kk H locs ls HR HS HL
    unfold a_WW at k1 ⊢
    dsimp only at k1
    rw [List.map_cons, show a_cv G (.retAddr 0) = a_fmt G from rfl] at k1
    exact va_gets hx hb hK.2.2.2.2.2.2.1 HS hown (hts _ hw) (fun _ q => q) hd k1
set_option maxHeartbeats 4000000 in
theorem a_stepW (C : a_Cx p R s m args meth c G sc i) {rw' : a_Rw} {r : Nat × a_Lc × List Value × a_Hp} (hro : a_rowok i (pc, rw') = true) (hco : a_callok i (pc, rw') = true) (hs : a_step i rw' pc lc st h = some (.inl r)) (hsc : h.2.2.2 = sc) (hN : n0 ≤ h.1.length ∧ s0 ≤ a_hs h) (hR : r.2.2.2.1.length - n0 ≤ R.cells ∧ a_hs r.2.2.2 - s0 ≤ R.slots)
    (HR : a_HR G h H) (HS : va_S (fun q => G.1 ≤ q) s.heap H locs) (HL : a_LR G lc ls (a_maxL i)) (kk : a_KK p l e R s m args below meth c Q G n0 s0 i r) : a_WW p l e R s m args below meth c Q G n0 s0 h H locs pc ls st := by
  obtain ⟨ins, n, a, b, v⟩ := rw'
  simp only [a_rowok, Bool.and_eq_true, decide_eq_true_eq] at hro
  obtain ⟨hd, hy⟩ := hro
  have hFR := C.2.2.2.2.2.2.2.2
  cases ins
  case iconst k =>
    simp only [a_say, Bool.and_eq_true, beq_iff_eq] at hy
    obtain rfl := a_nx_inv hs
    exact a_s_const C hd (Or.inl ⟨k, rfl, hy.1, hy.2⟩) HR HS HL kk
  case bipush k =>
    simp only [a_say, Bool.and_eq_true, beq_iff_eq] at hy
    obtain rfl := a_nx_inv hs
    exact a_s_const C hd (Or.inr (Or.inl ⟨k, rfl, hy.1, hy.2⟩)) HR HS HL kk
  case sipush k =>
    simp only [a_say, Bool.and_eq_true, beq_iff_eq] at hy
    obtain rfl := a_nx_inv hs
    exact a_s_const C hd (Or.inr (Or.inr ⟨k, rfl, hy.1, hy.2⟩)) HR HS HL kk
  case lconst k =>
    simp only [a_say, Bool.and_eq_true, beq_iff_eq] at hy
    obtain rfl := a_nx_inv hs
    obtain ⟨rfl, h2⟩ := hy
    exact a_s_lconst C hd h2 HR HS HL kk
  case ldc x =>
    simp only [a_say, Bool.and_eq_true, beq_iff_eq] at hy
    obtain ⟨rfl, h2⟩ := hy
    simp only [a_step] at hs
    split at hs
    · rename_i ha
      rw [if_pos ha] at h2
      obtain rfl := a_nx_inv hs
      exact a_s_ldc C hd (by simpa using h2) HR HS HL kk
    · rename_i ha
      rw [if_neg ha] at h2
      obtain rfl := a_nx_inv hs
      split at h2
      · rename_i q hq
        simp only [Bool.and_eq_true, beq_iff_eq] at h2
        exact a_s_ldcS C (Or.inl ⟨rfl, rfl⟩) hd hq h2.1 h2.2 HR HS HL kk
      · cases h2
  case ldc_w x =>
    simp only [a_say, Bool.and_eq_true, beq_iff_eq] at hy
    obtain ⟨rfl, h2⟩ := hy
    simp only [a_step] at hs
    split at hs
    · rename_i ha
      rw [if_pos ha] at h2
      obtain rfl := a_nx_inv hs
      exact a_s_ldcw C hd (by simpa using h2) HR HS HL kk
    · rename_i ha
      rw [if_neg ha] at h2
      obtain rfl := a_nx_inv hs
      split at h2
      · rename_i q hq
        simp only [Bool.and_eq_true, beq_iff_eq] at h2
        exact a_s_ldcS C (Or.inr ⟨rfl, rfl⟩) hd hq h2.1 h2.2 HR HS HL kk
      · cases h2
  case ldc2_w x =>
    simp only [a_say, Bool.and_eq_true, beq_iff_eq] at hy
    obtain ⟨rfl, h2⟩ := hy
    obtain rfl := a_nx_inv hs
    exact a_s_ldc2 C hd h2 HR HS HL kk
  case iload k => simp only [a_say, beq_iff_eq] at hy; exact a_s_ldi C (Or.inl ⟨rfl, hy⟩) hd hs HR HS HL kk
  case iload_n k => simp only [a_say, beq_iff_eq] at hy; exact a_s_ldi C (Or.inr ⟨k, rfl, rfl, hy⟩) hd hs HR HS HL kk
  case lload k => simp only [a_say, beq_iff_eq] at hy; exact a_s_ldl C (Or.inl ⟨rfl, hy⟩) hd hs HR HS HL kk
  case lload_n k => simp only [a_say, beq_iff_eq] at hy; exact a_s_ldl C (Or.inr ⟨k, rfl, rfl, hy⟩) hd hs HR HS HL kk
  case aload k => simp only [a_say, beq_iff_eq] at hy; exact a_s_lda C (Or.inl ⟨rfl, hy⟩) hd hs HR HS HL kk
  case aload_n k => simp only [a_say, beq_iff_eq] at hy; exact a_s_lda C (Or.inr ⟨k, rfl, rfl, hy⟩) hd hs HR HS HL kk
  case istore k => simp only [a_say, beq_iff_eq] at hy; exact a_s_sti C (Or.inl ⟨rfl, hy⟩) hd hs HR HS HL kk
  case istore_n k => simp only [a_say, beq_iff_eq] at hy; exact a_s_sti C (Or.inr ⟨k, rfl, rfl, hy⟩) hd hs HR HS HL kk
  case astore k => simp only [a_say, beq_iff_eq] at hy; exact a_s_sta C (Or.inl ⟨rfl, hy⟩) hd hs HR HS HL kk
  case astore_n k => simp only [a_say, beq_iff_eq] at hy; exact a_s_sta C (Or.inr ⟨k, rfl, rfl, hy⟩) hd hs HR HS HL kk
  case iinc k z =>
    simp only [a_say, Bool.and_eq_true, beq_iff_eq] at hy
    obtain ⟨rfl, h2⟩ := hy
    simp only [a_step] at hs
    split at hs
    · rename_i x hx
      split at hs
      · rename_i hf
        obtain rfl := a_nx_inv hs
        exact a_s_iinc C hd h2 hx hf HR HS HL kk
      · exact (a_no1 hs).elim
    · exact (a_no1 hs).elim
  case iadd => simp only [a_say, beq_iff_eq] at hy; subst hy; exact a_s_op2 C (Or.inl ⟨rfl, rfl⟩) hd hs HR HS HL kk
  case isub => simp only [a_say, beq_iff_eq] at hy; subst hy; exact a_s_op2 C (Or.inr (Or.inl ⟨rfl, rfl⟩)) hd hs HR HS HL kk
  case imul => simp only [a_say, beq_iff_eq] at hy; subst hy; exact a_s_op2 C (Or.inr (Or.inr (Or.inl ⟨rfl, rfl⟩))) hd hs HR HS HL kk
  case iand => simp only [a_say, beq_iff_eq] at hy; subst hy; exact a_s_op2 C (Or.inr (Or.inr (Or.inr (Or.inl ⟨rfl, rfl⟩)))) hd hs HR HS HL kk
  case ior => simp only [a_say, beq_iff_eq] at hy; subst hy; exact a_s_op2 C (Or.inr (Or.inr (Or.inr (Or.inr (Or.inl ⟨rfl, rfl⟩))))) hd hs HR HS HL kk
  case ixor => simp only [a_say, beq_iff_eq] at hy; subst hy; exact a_s_op2 C (Or.inr (Or.inr (Or.inr (Or.inr (Or.inr (Or.inl ⟨rfl, rfl⟩)))))) hd hs HR HS HL kk
  case ishl => simp only [a_say, beq_iff_eq] at hy; subst hy; exact a_s_op2 C (Or.inr (Or.inr (Or.inr (Or.inr (Or.inr (Or.inr (Or.inl ⟨rfl, rfl⟩))))))) hd hs HR HS HL kk
  case ishr => simp only [a_say, beq_iff_eq] at hy; subst hy; exact a_s_op2 C (Or.inr (Or.inr (Or.inr (Or.inr (Or.inr (Or.inr (Or.inr (Or.inl ⟨rfl, rfl⟩)))))))) hd hs HR HS HL kk
  case iushr => simp only [a_say, beq_iff_eq] at hy; subst hy; exact a_s_op2 C (Or.inr (Or.inr (Or.inr (Or.inr (Or.inr (Or.inr (Or.inr (Or.inr ⟨rfl, rfl⟩)))))))) hd hs HR HS HL kk
  case idiv => simp only [a_say, beq_iff_eq] at hy; subst hy; exact a_s_opd C (Or.inl ⟨rfl, rfl⟩) hd hs HR HS HL kk
  case irem => simp only [a_say, beq_iff_eq] at hy; subst hy; exact a_s_opd C (Or.inr ⟨rfl, rfl⟩) hd hs HR HS HL kk
  case i2l =>
    simp only [a_say, beq_iff_eq] at hy; subst hy
    simp only [a_step] at hs
    split at hs
    · obtain rfl := a_nx_inv hs
      exact lv_i2l C.1 C.2.1 hd rfl (kk H locs ls HR HS HL)
    · exact (a_no1 hs).elim
  case i2b =>
    simp only [a_say, beq_iff_eq] at hy; subst hy
    simp only [a_step] at hs
    split at hs
    · obtain rfl := a_nx_inv hs
      exact lv_i2b C.1 C.2.1 hd rfl (kk H locs ls HR HS HL)
    · exact (a_no1 hs).elim
  case i2c =>
    simp only [a_say, beq_iff_eq] at hy; subst hy
    simp only [a_step] at hs
    split at hs
    · obtain rfl := a_nx_inv hs
      exact lv_i2c C.1 C.2.1 hd rfl (kk H locs ls HR HS HL)
    · exact (a_no1 hs).elim
  case lcmp =>
    simp only [a_say, beq_iff_eq] at hy; subst hy
    simp only [a_step] at hs
    split at hs
    · obtain rfl := a_nx_inv hs
      exact W.lcmp C.1 C.2.1 hd (kk H locs ls HR HS HL)
    · exact (a_no1 hs).elim
  case pop =>
    simp only [a_say, beq_iff_eq] at hy; subst hy
    simp only [a_step] at hs
    split at hs
    · split at hs
      · rename_i hc
        obtain rfl := a_nx_inv hs
        exact lv_pop C.1 C.2.1 hd (by rw [a_cv_cat]; exact hc) (kk H locs ls HR HS HL)
      · exact (a_no1 hs).elim
    · exact (a_no1 hs).elim
  case dup =>
    simp only [a_say, beq_iff_eq] at hy; subst hy
    simp only [a_step] at hs
    split at hs
    · split at hs
      · rename_i hc
        obtain rfl := a_nx_inv hs
        exact lv_dup C.1 C.2.1 hd (by rw [a_cv_cat]; exact hc) (kk H locs ls HR HS HL)
      · exact (a_no1 hs).elim
    · exact (a_no1 hs).elim
  case dup2 =>
    simp only [a_say, beq_iff_eq] at hy; subst hy
    simp only [a_step] at hs
    split at hs
    · split at hs
      · rename_i hc
        obtain rfl := a_nx_inv hs
        exact lv_dup2_11 C.1 C.2.1 hd (by rw [a_cv_cat]; exact hc.1) (by rw [a_cv_cat]; exact hc.2) (kk H locs ls HR HS HL)
      · exact (a_no1 hs).elim
    · exact (a_no1 hs).elim
  case ifCond cc off =>
    simp only [a_say, Bool.and_eq_true, beq_iff_eq] at hy
    obtain ⟨rfl, h2⟩ := hy
    simp only [a_step] at hs
    split at hs
    · obtain rfl := a_nx_inv hs
      exact a_s_if C hd h2 HR HS HL kk
    · exact (a_no1 hs).elim
  case if_icmp cc off =>
    simp only [a_say, Bool.and_eq_true, beq_iff_eq] at hy
    obtain ⟨rfl, h2⟩ := hy
    simp only [a_step] at hs
    split at hs
    · obtain rfl := a_nx_inv hs
      exact a_s_icmp C hd h2 HR HS HL kk
    · exact (a_no1 hs).elim
  case goto off =>
    simp only [a_say, Bool.and_eq_true, beq_iff_eq] at hy
    obtain ⟨rfl, h2⟩ := hy
    obtain rfl := a_nx_inv hs
    exact lv_goto C.1 C.2.1 hd h2 (kk H locs ls HR HS HL)
  case tableswitch d lo hi os =>
    simp only [a_say, Bool.and_eq_true, decide_eq_true_eq] at hy
    simp only [a_step] at hs
    split at hs
    · exact a_s_tsw C hd hy.1 hy.2 hs HR HS HL kk
    · exact (a_no1 hs).elim
  case lookupswitch d ps =>
    simp only [a_say, Bool.and_eq_true, decide_eq_true_eq] at hy
    simp only [a_step] at hs
    split at hs
    · rename_i x _
      have hz := a_lsw_nonneg (z := x.toInt) hy.1.1 _ hy.1.2
      obtain rfl := a_nx_inv hs
      exact lv_lookup C.1 C.2.1 hd hy.2 rfl (by omega) (kk H locs ls HR HS HL)
    · exact (a_no1 hs).elim
  case getstatic x =>
    simp only [a_say, Bool.and_eq_true, beq_iff_eq] at hy
    obtain ⟨⟨rfl, h2⟩, -⟩ := hy
    exact a_s_gets C hd h2 hs HR HS HL kk
  case getfield x =>
    simp only [a_say, Bool.and_eq_true, beq_iff_eq] at hy
    obtain ⟨rfl, h2⟩ := hy
    refine a_s_getf C hd ?_ hs HR HS HL kk
    split at h2
    · rename_i ha; rw [if_pos ha]; simpa using h2
    · rename_i ha; rw [if_neg ha]; simpa using h2
  case putfield x =>
    simp only [a_say, Bool.and_eq_true, beq_iff_eq, Bool.or_eq_true, Bool.not_eq_true'] at hy
    obtain ⟨⟨rfl, h2⟩, h3⟩ := hy
    exact a_s_putf C hd h2 h3 hs HR HS HL kk
  case iaload => simp only [a_say, beq_iff_eq] at hy; subst hy; exact a_s_ld C (Or.inl ⟨rfl, rfl⟩) hd hs hsc HR HS HL kk
  case baload => simp only [a_say, beq_iff_eq] at hy; subst hy; exact a_s_ld C (Or.inr (Or.inl ⟨rfl, rfl⟩)) hd hs hsc HR HS HL kk
  case aaload => simp only [a_say, beq_iff_eq] at hy; subst hy; exact a_s_ld C (Or.inr (Or.inr ⟨rfl, rfl⟩)) hd hs hsc HR HS HL kk
  case iastore => simp only [a_say, beq_iff_eq] at hy; subst hy; exact a_s_stx C (Or.inl ⟨rfl, rfl⟩) hd hs HR HS HL kk
  case bastore => simp only [a_say, beq_iff_eq] at hy; subst hy; exact a_s_stx C (Or.inr (Or.inl ⟨rfl, rfl⟩)) hd hs HR HS HL kk
  case aastore => simp only [a_say, beq_iff_eq] at hy; subst hy; exact a_s_stx C (Or.inr (Or.inr ⟨rfl, rfl⟩)) hd hs HR HS HL kk
  case new x =>
    simp only [a_say, Bool.and_eq_true, beq_iff_eq] at hy
    obtain ⟨rfl, h2⟩ := hy
    exact a_s_newo C hd h2 hs hN hR HR HS HL kk
  case newarray t =>
    simp only [a_say, Bool.and_eq_true, beq_iff_eq] at hy
    obtain ⟨rfl, h2⟩ := hy
    refine a_s_newa C hd ?_ hs hN hR HR HS HL kk
    cases t <;> simp_all
  case anewarray x =>
    simp only [a_say, Bool.and_eq_true, beq_iff_eq] at hy
    obtain ⟨rfl, h2⟩ := hy
    exact a_s_newq C hd h2 hs hN hR HR HS HL kk
  case arraylength => simp only [a_say, beq_iff_eq] at hy; subst hy; exact a_s_alen C hd hs hsc HR HS HL kk
  case invokestatic x =>
    simp only [a_say, Bool.and_eq_true, beq_iff_eq] at hy
    obtain ⟨rfl, h2⟩ := hy
    simp only [a_step] at hs
    split at hs
    · rename_i ha
      subst ha
      have h3 : a_key2 (a_own i) x a_ac = true := by simpa using h2
      have h4 : 1 ≤ a_FR i ∧ 26 ≤ a_LO i := by simpa [a_callok] using hco
      exact a_s_cpy C hd h3 hs ⟨by omega, by omega⟩ HR HS HL kk
    · split at hs
      · simp only [a_call] at hs
        split at hs
        · exact (a_no2 hs).elim
        · exact (a_no1 hs).elim
      · exact (a_no1 hs).elim
  case invokespecial x =>
    simp only [a_say, Bool.and_eq_true, beq_iff_eq] at hy
    obtain ⟨rfl, h2⟩ := hy
    simp only [a_step] at hs
    split at hs
    · rename_i ha
      subst ha
      have h3 : a_key2 (a_own i) x a_oi = true := by simpa using h2
      have h4 : 1 ≤ a_FR i ∧ 20 ≤ a_LO i := by simpa [a_callok] using hco
      split at hs
      · split at hs
        · rename_i hr
          obtain rfl := a_nx_inv hs
          exact a_s_obj C hd h3 hr ⟨by omega, by omega⟩ HR HS HL kk
        · exact (a_no1 hs).elim
      · exact (a_no1 hs).elim
    · split at hs
      · simp only [a_call] at hs
        split at hs
        · exact (a_no2 hs).elim
        · exact (a_no1 hs).elim
      · exact (a_no1 hs).elim
  case invokevirtual x =>
    simp only [a_step] at hs
    split at hs
    · simp only [a_call] at hs
      split at hs
      · exact (a_no2 hs).elim
      · exact (a_no1 hs).elim
    · exact (a_no1 hs).elim
  case ireturn =>
    simp only [a_step] at hs
    split at hs
    · split at hs
      · exact (a_no2 hs).elim
      · exact (a_no1 hs).elim
    · exact (a_no1 hs).elim
  case areturn =>
    simp only [a_step] at hs
    split at hs
    · split at hs
      · exact (a_no2 hs).elim
      · exact (a_no1 hs).elim
    · exact (a_no1 hs).elim
  case return_ =>
    simp only [a_step] at hs
    split at hs
    · exact (a_no2 hs).elim
    · exact (a_no1 hs).elim
  all_goals exact (a_no1 hs).elim
end ASW
end
section
section ACO
variable {p : Program} {l : Launch} {e : Env} {R : Room} {s : State} {m : MethodId} {args : Array Value} {below : List Frame} {meth : Method} {c : Code} {Q : State → Prop} {G : a_G} {n0 s0 : Nat} {h : a_Hp} {H : Heap} {locs : List Loc} {pc : Nat} {ls : Array Slot} {st : List Value} {sc : Nat × (Nat → Int32)} {i : Nat} {lc lc' : a_Lc} {pc' : Nat} {st' : List Value} {h' : a_Hp}
theorem a_goodW : ∀ w ∈ a_W, (w.onTables && w.keeps) = true ∨ ∃ ty, w = .arrayClass ty := fun w hw => good_of_word (List.mem_filter.mp hw).2
theorem a_codeW {j : Nat} (h1 : j < 274) (h2 : j ≠ 262) : Cond.code (a_y j) (a_bytes j) (a_maxL j) (a_ret j) ∈ a_W := a_i_code (a_e_code j h1 h2)
theorem a_goodIn {j : Nat} (h1 : j < 274) (h2 : j ≠ 262) : GoodIn a_W (a_ws j) := by
  intro w hw
  rcases List.mem_cons.mp hw with rfl | hw
  · exact ⟨a_codeW h1 h2, a_goodW _ (a_codeW h1 h2)⟩
  · exact ⟨hw, a_goodW _ hw⟩
theorem a_K_same {u U : State} (hv : U.vm = u.vm) (hh : U.heap = u.heap) (h : a_K G sc u) : a_K G sc U := by
  obtain ⟨h0, h1, h2, h3, h4, h5, h6, h7, h8⟩ := h
  have hvm : u.vm.Alike U.vm := by rw [hv]; exact Vm.Alike.refl _
  refine ⟨by rw [hh]; exact h0, va_K.moved hvm h1, fun k hk => ?_, by rw [hh]; exact va_X.moved hvm h3, h4, by rw [hh]; exact va_Z.moved hvm h5, by rw [hh]; exact va_Z.moved hvm h6, va_AO.moved hvm h7, va_Nw.same rfl hv.symm h8⟩
  obtain ⟨g1, g2, g3, g4, q, g5, g6⟩ := h2 k hk
  exact ⟨by rw [hh]; exact va_O.moved hvm g1, by rw [hh]; exact va_OF.moved hvm g2, by rw [hh]; exact va_OF.moved hvm g3, by rw [hh]; exact va_T.moved hvm g4, q, g5, g6.same hv⟩
theorem a_blind (as : List Value) : FrameBlind (va_Pc (as.map (a_cv G)) (fun U => a_K G sc U ∧ a_HR G h U.heap)) := fun _ U _ _ q => ⟨q.1, a_K_same (u := U) rfl rfl q.2.1, q.2.2⟩
theorem a_pre (hK : a_K G sc s) (HR : a_HR G h H) (HS : va_S (fun q => G.1 ≤ q) s.heap H locs) (as : List Value) : ∀ U : State, U.heap = H → s.WarmedH U.vm → va_Pc (as.map (a_cv G)) (fun U => a_K G sc U ∧ a_HR G h U.heap) (as.map (a_cv G)).toArray U := by
  intro U hU hW
  refine ⟨rfl, a_K_moved hW ?_ ?_ hK, by rw [hU]; exact HR⟩
  · rw [hU, HR.1]; omega
  · intro a h1 h2
    rw [hU]
    exact HS.2.1 a h1 h2
theorem a_no3 {x : Nat × a_Lc × List Value × a_Hp} {y : (Nat × Nat × List Value × List Value) ⊕ Option Value} (h : (some (Sum.inl x) : Option a_Rs) = some (Sum.inr y)) : False := by cases h
theorem a_no4 {x : Option Value} {y : Nat × Nat × List Value × List Value} (h : (some (Sum.inr (Sum.inr x)) : Option a_Rs) = some (Sum.inr (Sum.inl y))) : False := by cases h
theorem a_no5 {x : Option Value} {y : Nat × Nat × List Value × List Value} (h : (some (Sum.inr (Sum.inl y)) : Option a_Rs) = some (Sum.inr (Sum.inr x))) : False := by cases h
/-- behind a call -/
theorem a_after {v : Option Value} {rest : List Value}
    (hr : va_Run p l e R s m args below meth c H locs (h.1.length - n0) (a_hs h - s0) (h'.1.length - h.1.length) (a_hs h' - a_hs h) (F0 m pc ls st') (rest.map (a_cv G)) (fun (st : State) (o : Outcome) (t : State) => o = .returned (v.map (a_cv G)) ∧ a_HR G h' t.heap ∧ ∀ q : Nat, q < G.1 → t.heap[q]? = st.heap[q]?) (fun q => G.1 ≤ q))
    (hm : a_Mo h h') (hN : n0 ≤ h.1.length ∧ s0 ≤ a_hs h) (HR : a_HR G h H) (HS : va_S (fun q => G.1 ≤ q) s.heap H locs) (HL : a_LR G lc ls (a_maxL i))
    (kk : a_KK p l e R s m args below meth c Q G n0 s0 i (pc + 3, lc, v.toList ++ rest, h')) :
    W p l e R s m args below meth c H locs (h.1.length - n0) (a_hs h - s0) Q (F0 m pc ls st') := by
  intro T hT X
  obtain ⟨v', st₀, t, T', L, e0, X', hL, e1, e2, ⟨ev, hHR, hold⟩, st⟩ := hr T hT X
  cases ev
  have k1 := kk T'.heap (locs ++ L) ls (by rw [e1]; exact hHR) ?_ HL
  · unfold a_WW at k1
    dsimp only at k1
    have c1 : h.1.length - n0 + (h'.1.length - h.1.length) = h'.1.length - n0 := by have := hm.1; omega
    have c2 : a_hs h - s0 + (a_hs h' - a_hs h) = a_hs h' - s0 := by have := hm.2.1; omega
    rw [c1, c2] at X'
    obtain ⟨t2, a1, b1⟩ := k1 T' rfl X'
    refine ⟨t2, st t2 ?_, b1⟩
    have e3 : ((v.toList ++ rest).map (a_cv G)) = (v.map (a_cv G)).toList ++ rest.map (a_cv G) := by cases v <;> rfl
    rw [e3] at a1
    exact a1
  · refine ⟨?_, ?_, ?_⟩
    · have h1 := HS.1
      rw [HR.1] at h1
      rw [e1, hHR.1]
      exact Nat.le_trans h1 (Nat.add_le_add_left hm.1 _)
    · intro q h1 h2
      rw [e1, hold q (by have : ¬ G.1 ≤ q := h2; omega), e0]
      exact HS.2.1 q h1 h2
    · intro q hq
      rcases List.mem_append.mp hq with h1 | h1
      · exact HS.2.2 q h1
      · exact hL q h1
theorem a_rcv_split {b : Nat} (hb : 0 < b) (hl : b ≤ st.length) {o : Nat} (ho : st[b - 1]? = some (.ref o)) : ∃ As : List Value, (st.take b).reverse = .ref o :: As ∧ As.length = b - 1 ∧ st = As.reverse ++ .ref o :: st.drop b := by
  have e1 : st.take b = st.take (b - 1) ++ [.ref o] := by
    have h1 := List.take_add_one (l := st) (i := b - 1)
    rw [ho, show b - 1 + 1 = b by omega] at h1
    exact h1
  refine ⟨(st.take (b - 1)).reverse, ?_, ?_, ?_⟩
  · rw [e1]; simp
  · simp; omega
  · rw [List.reverse_reverse]
    have := List.take_append_drop b st
    rw [e1] at this
    rw [List.append_assoc] at this
    exact this.symm
/-- a receiver's cell -/
theorem a_recv (hK : a_K G sc s) (HR : a_HR G h H) (HS : va_S (fun q => G.1 ≤ q) s.heap H locs) {j o b : Nat} (ho : st[b - 1]? = some (.ref o)) (hr : a_rcv j b st h = true) : ∃ cell : Cell, H[a_ad G o]? = some cell ∧ cell.vm.isStatics = false ∧ s.vm.findClass (a_cn (a_own j)) = some cell.cls := by
  unfold a_rcv at hr
  rw [ho] at hr
  simp only [Bool.or_eq_true, decide_eq_true_eq] at hr
  rcases hr with ⟨h1, h2, h3⟩ | ⟨h1, h2, h3, h4⟩
  · have hg := a_wl_get G h (a_lt h3)
    rw [a_cell_obj G h3] at hg
    rw [a_ad_dyn G h1]
    exact va_recv hK.2.1 HR.2.1 (a_cls _ h2) hg
  · obtain ⟨k, hk36, rfl⟩ := a_evn h2 h3 h4
    rw [a_ad_str, h1]
    obtain ⟨g1, -⟩ := hK.2.2.1 k hk36
    obtain ⟨cell, q1, q2, q3, -⟩ := g1.kept HS.2.1
    exact ⟨cell, q1, q2, q3⟩
theorem a_sm (G : a_G) (as : List Value) : (as.map (a_cv G)).reverse = as.reverse.map (a_cv G) := List.map_reverse.symm
set_option maxHeartbeats 4000000 in
theorem a_callW (C : a_Cx p R s m args meth c G sc i) {rw' : a_Rw} {j : Nat} {as rest : List Value} {v : Option Value} (hro : a_rowok i (pc, rw') = true) (hco : a_callok i (pc, rw') = true) (hs : a_step i rw' pc lc st h = some (.inr (.inl (j, pc', as, rest)))) (hN : n0 ≤ h.1.length ∧ s0 ≤ a_hs h) (hR : h'.1.length - n0 ≤ R.cells ∧ a_hs h' - s0 ≤ R.slots) (hm : a_Mo h h')
    (hM : a_Met l G sc j as h v h')
    (HR : a_HR G h H) (HS : va_S (fun q => G.1 ≤ q) s.heap H locs) (HL : a_LR G lc ls (a_maxL i)) (kk : a_KK p l e R s m args below meth c Q G n0 s0 i (pc', lc, v.toList ++ rest, h')) : a_WW p l e R s m args below meth c Q G n0 s0 h H locs pc ls st := by
  obtain ⟨ins, n, a, b, vv⟩ := rw'
  simp only [a_rowok, Bool.and_eq_true, decide_eq_true_eq] at hro
  obtain ⟨hd, hy⟩ := hro
  obtain ⟨hx, hb, hml, hown, hts, hK, hnm, hi274, hF, hLo⟩ := C
  have hS : CallFix p m c (a_bytes i) (a_maxL i) s args a_W (a_cn (a_own i)) := ⟨hx, hb, hml, hown, hts⟩
  have hsz : ls.size = a_maxL i := HL.2.1
  have hcells : h.1.length - n0 + (h'.1.length - h.1.length) ≤ R.cells ∧ a_hs h - s0 + (a_hs h' - a_hs h) ≤ R.slots := by
    have q1 := hm.1
    have q2 := hm.2.1
    omega
  have inv : ∀ {k b' pc1 : Nat} {st1 : List Value}, a_call k b' pc1 st1 = some (.inr (.inl (j, pc', as, rest))) → b' ≤ st1.length ∧ (rest.map fun v => v.category).sum ≤ 8 ∧ j = k ∧ pc' = pc1 ∧ as = (st1.take b').reverse ∧ rest = st1.drop b' := by
    intro k b' pc1 st1 q
    unfold a_call at q
    split at q
    · rename_i hc
      cases q
      exact ⟨hc.1, hc.2.1, rfl, rfl, rfl, rfl⟩
    · cases q
  cases ins
  case invokevirtual x =>
    simp only [a_say, Bool.and_eq_true, beq_iff_eq, Bool.or_eq_true] at hy
    obtain ⟨rfl, hy2⟩ := hy
    simp only [a_step] at hs
    split at hs
    · rename_i hc
      obtain ⟨ha, hb0, hrc⟩ := hc
      obtain ⟨hl, hcat, rfl, rfl, rfl, rfl⟩ := inv hs
      have hmem := a_key3_mem (hy2.resolve_left (by omega))
      obtain ⟨e1, e2, -, e4⟩ := a_e_mlv2 _ hmem
      have hlink := hts _ (a_i_mlv (a_e_mlv _ hmem))
      simp only [a_callok, Bool.or_eq_true, Bool.and_eq_true, decide_eq_true_eq, beq_iff_eq] at hco
      obtain ⟨⟨c1, c2⟩, c3⟩ := hco.resolve_left (by omega)
      have hyc := a_ycls j ha
      obtain ⟨o, ho⟩ : ∃ o, st[b - 1]? = some (.ref o) := by
        unfold a_rcv at hrc
        split at hrc
        · rename_i o q; exact ⟨o, q⟩
        · cases hrc
      obtain ⟨As, g1, g2, g3⟩ := a_rcv_split hb0 hl ho
      have hrecv := a_recv hK HR HS ho hrc
      unfold a_WW
      rw [g1] at hM
      have hini : Cond.initialized (a_cn (a_own j)) ∈ a_W := a_i_init (a_e_init _ hyc.2.1)
      have hG : GoodIn a_W (wsV (a_cn (a_own i)) x (a_y j).cls (a_y j) (a_ws j)) := by
        intro w hw
        unfold wsV at hw
        rcases List.mem_append.mp hw with hw | hw
        · have hin : w ∈ a_W := by
            simp only [List.mem_cons, List.not_mem_nil, or_false] at hw
            rcases hw with rfl | rfl | rfl | rfl
            · exact a_i_mlv (a_e_mlv _ hmem)
            · exact a_i_inst e1
            · exact a_i_sel e2
            · rw [hyc.1]; exact hini
          exact ⟨hin, a_goodW _ hin⟩
        · exact a_goodIn ha e4 w hw
      refine a_after (l := l) (va_runV (As := As.map (a_cv G)) (b := a_ad G o) hS hM (cwV (a_nal.getD j 0) hts hG rfl rfl rfl ⟨rfl, hyc.2.2.2.1, hyc.2.2.2.2, a_nal_all j ha⟩ ⟨by show a_FR j + 1 ≤ _; omega, by show 8 + (a_maxL j + 11) + a_LO j ≤ _; omega⟩) ⟨a_blind (.ref o :: As), by rw [hyc.1]; exact hrecv, a_pre hK HR HS (.ref o :: As)⟩ rfl (by rw [List.length_map, g2]; omega) hsz ?_ (lv_room (by rw [a_cat]; exact hcat)) hd hcells) hm hN HR HS HL kk
      show st.map (a_cv G) = _
      conv => lhs; rw [g3]
      rw [List.map_append, List.map_cons, a_sm]
      rfl
    · cases hs
  case invokestatic x =>
    simp only [a_say, Bool.and_eq_true, beq_iff_eq, Bool.or_eq_true] at hy
    obtain ⟨rfl, hy2⟩ := hy
    simp only [a_step] at hs
    split at hs
    · unfold a_cpy at hs
      repeat (first | (exact (a_no1 hs).elim) | (exact (a_no3 hs).elim) | split at hs)
    · rename_i ha1
      split at hs
      · rename_i ha
        obtain ⟨hl, hcat, rfl, rfl, rfl, rfl⟩ := inv hs
        rw [if_neg ha1] at hy2
        have hmem := a_key3_mem (by simpa using hy2.resolve_left (by omega))
        obtain ⟨e1, -, e4⟩ := a_e_mls2 _ hmem
        simp only [a_callok, Bool.or_eq_true, beq_iff_eq] at hco
        have hco2 := hco.resolve_left (by omega)
        rw [if_neg ha1] at hco2
        simp only [Bool.and_eq_true, decide_eq_true_eq, beq_iff_eq] at hco2
        obtain ⟨⟨c1, c2⟩, c3⟩ := hco2
        have hyc := a_ycls j ha
        unfold a_WW
        have hini : Cond.initialized (a_cn (a_own j)) ∈ a_W := a_i_init (a_e_init _ hyc.2.1)
        have hG : GoodIn a_W (va_wsS (a_cn (a_own i)) x (a_y j) (a_ws j)) := by
          intro w hw
          unfold va_wsS at hw
          rcases List.mem_append.mp hw with hw | hw
          · have hin : w ∈ a_W := by
              simp only [List.mem_cons, List.not_mem_nil, or_false] at hw
              rcases hw with rfl | rfl | rfl
              · exact a_i_mls (a_e_mls _ hmem)
              · exact a_i_stat e1
              · rw [hyc.1]; exact hini
            exact ⟨hin, a_goodW _ hin⟩
          · exact a_goodIn ha e4 w hw
        refine a_after (l := l) (va_runS (As := ((st.take b).reverse).map (a_cv G)) hS hM (va_cwS (a_nal.getD j 0) hts hG rfl rfl rfl ⟨hyc.2.2.2.1, hyc.2.2.2.2, a_nal_all j ha⟩ ⟨by show a_FR j + 1 ≤ _; omega, by show 8 + (a_maxL j + 11) + a_LO j ≤ _; omega⟩) ⟨a_blind _, a_pre hK HR HS _⟩ rfl (by rw [List.length_map, List.length_reverse, List.length_take]; omega) hsz ?_ (lv_room (by rw [a_cat]; exact hcat)) hd hcells) hm hN HR HS HL kk
        show st.map (a_cv G) = _
        rw [a_sm, List.reverse_reverse, ← List.map_append, List.take_append_drop]
      · cases hs
  case invokespecial x =>
    simp only [a_say, Bool.and_eq_true, beq_iff_eq, Bool.or_eq_true] at hy
    obtain ⟨rfl, hy2⟩ := hy
    simp only [a_step] at hs
    split at hs
    · repeat (first | (exact (a_no1 hs).elim) | (exact (a_no3 hs).elim) | split at hs)
    · rename_i ha1
      split at hs
      · rename_i hc
        obtain ⟨ha, hb0, hrc⟩ := hc
        obtain ⟨hl, hcat, rfl, rfl, rfl, rfl⟩ := inv hs
        rw [if_neg ha1] at hy2
        have hmem := a_key3_mem (by simpa using hy2.resolve_left (by omega))
        obtain ⟨e1, -, e4, e5, e6⟩ := a_e_mli2 _ hmem
        simp only [a_callok, Bool.or_eq_true, beq_iff_eq] at hco
        have hco2 := hco.resolve_left (by omega)
        rw [if_neg ha1] at hco2
        simp only [Bool.and_eq_true, decide_eq_true_eq, beq_iff_eq] at hco2
        obtain ⟨⟨c1, c2⟩, c3⟩ := hco2
        have hyc := a_ycls j ha
        obtain ⟨o, ho⟩ : ∃ o, st[b - 1]? = some (.ref o) := by
          unfold a_rcv at hrc
          split at hrc
          · rename_i o q; exact ⟨o, q⟩
          · cases hrc
        obtain ⟨As, g1, g2, g3⟩ := a_rcv_split hb0 hl ho
        unfold a_WW
        rw [g1] at hM
        have hini := hts _ (a_i_init (a_e_init _ hyc.2.1))
        have hw0 : a_ws j = Cond.code (a_y j) (a_bytes j) (a_maxL j) none :: a_W := by unfold a_ws; rw [e6]
        have hstk : st.map (a_cv G) = (As.map (a_cv G)).reverse ++ .ref (a_ad G o) :: (st.drop b).map (a_cv G) := by
          conv => lhs; rw [g3]
          rw [List.map_append, List.map_cons, a_sm]
          rfl
        rcases a_e_mli _ hmem with hn | hsm
        · simp only [Prod.mk.injEq] at hn
          obtain ⟨n1, rfl, rfl⟩ := hn
          have hnest := hK.2.2.2.2.2.2.2.2
          refine a_after (l := l) (va_runIN (host := "PreCommitHall") (index := 51) (As := As.map (a_cv G)) (b := a_ad G o) hS hM ⟨va_cnB (a_nal.getD _ 0) hts (a_goodIn ha e4) hw0 rfl rfl (by rw [n1]; exact hnest) (by rw [hyc.1]; exact hini) ⟨hyc.2.2.2.1, hyc.2.2.2.2, a_nal_all _ ha⟩ ⟨by dsimp only; omega, by dsimp only; omega⟩, e5, hts _ (a_i_inst e1)⟩ ⟨a_blind (.ref o :: As), a_pre hK HR HS (.ref o :: As)⟩ rfl (by rw [List.length_map, g2]; omega) hsz hstk (lv_room (by rw [a_cat]; exact hcat)) hd hcells) hm hN HR HS HL kk
        · refine a_after (l := l) (va_runI (As := As.map (a_cv G)) (b := a_ad G o) hS hM (cwI (a_nal.getD j 0) hts (a_goodIn ha e4) hw0 rfl rfl (by rw [hyc.1]; exact hini) (hts _ (a_i_mli hsm)) (hts _ (a_i_inst e1)) e5 ⟨hyc.2.2.2.1, hyc.2.2.2.2, a_nal_all j ha⟩ ⟨by show a_FR j + 1 ≤ _; omega, by show 8 + (a_maxL j + 11) + a_LO j ≤ _; omega⟩) ⟨a_blind (.ref o :: As), a_pre hK HR HS (.ref o :: As)⟩ rfl (by rw [List.length_map, g2]; omega) hsz hstk (lv_room (by rw [a_cat]; exact hcat)) hd hcells) hm hN HR HS HL kk
      · cases hs
  case ireturn =>
    simp only [a_step] at hs
    repeat (first | (exact (a_no1 hs).elim) | (exact (a_no4 hs).elim) | split at hs)
  case areturn =>
    simp only [a_step] at hs
    repeat (first | (exact (a_no1 hs).elim) | (exact (a_no4 hs).elim) | split at hs)
  case return_ =>
    simp only [a_step] at hs
    repeat (first | (exact (a_no1 hs).elim) | (exact (a_no4 hs).elim) | split at hs)
  all_goals first
    | (exact (a_no1 hs).elim)
    | (exact (a_no3 hs).elim)
    | (simp only [a_step, a_ldi, a_ldl, a_lda, a_sti, a_sta, a_op2, a_opd, a_getf, a_putf, a_ld, a_stx, a_newo, a_newa, a_alen] at hs
       repeat (first | (exact (a_no1 hs).elim) | (exact (a_no3 hs).elim) | split at hs))
/-- a return: what it says -/
theorem a_retW {rw' : a_Rw} {v : Option Value} (hro : a_rowok i (pc, rw') = true) (hs : a_step i rw' pc lc st h = some (.inr (.inr v))) : a_End i pc v ∧ st = v.toList := by
  obtain ⟨ins, n, a, b, vv⟩ := rw'
  simp only [a_rowok, Bool.and_eq_true, decide_eq_true_eq] at hro
  obtain ⟨hd, hy⟩ := hro
  cases ins
  case ireturn =>
    simp only [a_say, beq_iff_eq] at hy; subst hy
    simp only [a_step] at hs
    split at hs
    · rename_i x ty hr
      split at hs
      · rename_i hn
        cases hs
        exact ⟨⟨hd, ty, hr, hn⟩, rfl⟩
      · cases hs
    · cases hs
  case areturn =>
    simp only [a_say, beq_iff_eq] at hy; subst hy
    simp only [a_step] at hs
    split at hs
    · rename_i x ty hr
      split at hs
      · rename_i hn
        cases hs
        exact ⟨⟨hd, ty, hr, hn⟩, rfl⟩
      · cases hs
    · cases hs
  case return_ =>
    simp only [a_say, beq_iff_eq] at hy; subst hy
    simp only [a_step] at hs
    split at hs
    · rename_i hr
      cases hs
      exact ⟨⟨hd, hr⟩, rfl⟩
    · cases hs
  case invokevirtual x =>
    simp only [a_step, a_call] at hs
    repeat (first | (exact (a_no1 hs).elim) | (exact (a_no5 hs).elim) | split at hs)
  case invokespecial x =>
    simp only [a_step, a_call] at hs
    repeat (first | (exact (a_no1 hs).elim) | (exact (a_no3 hs).elim) | (exact (a_no5 hs).elim) | split at hs)
  case invokestatic x =>
    simp only [a_step, a_call, a_cpy] at hs
    repeat (first | (exact (a_no1 hs).elim) | (exact (a_no3 hs).elim) | (exact (a_no5 hs).elim) | split at hs)
  all_goals first
    | (exact (a_no1 hs).elim)
    | (exact (a_no3 hs).elim)
    | (simp only [a_step, a_ldi, a_ldl, a_lda, a_sti, a_sta, a_op2, a_opd, a_getf, a_putf, a_ld, a_stx, a_newo, a_newa, a_alen] at hs
       repeat (first | (exact (a_no1 hs).elim) | (exact (a_no3 hs).elim) | split at hs))
end ACO
end
section
section AMA
variable {p : Program} {l : Launch} {e : Env} {R : Room} {s : State} {m : MethodId} {args : Array Value} {below : List Frame} {meth : Method} {c : Code} {Q : State → Prop} {G : a_G} {n0 s0 : Nat} {h : a_Hp} {H : Heap} {locs : List Loc} {pc : Nat} {ls : Array Slot} {st : List Value} {sc : Nat × (Nat → Int32)} {i : Nat} {lc lc' : a_Lc} {pc' : Nat} {st' : List Value} {h' : a_Hp}
theorem a_lookup {α : Type} {k : Nat} {x : α} : ∀ {L : List (Nat × α)}, L.lookup k = some x → (k, x) ∈ L
  | [], h => by cases h
  | (a, b) :: L, h => by
    rw [List.lookup_cons] at h
    split at h
    · rename_i e
      have e' : k = a := by simpa using e
      subst e'
      cases h
      exact List.mem_cons_self
    · exact List.mem_cons_of_mem _ (a_lookup h)
theorem a_ins_ok {i pc : Nat} {rw' : a_Rw} (h : a_ins i pc = some rw') : a_rowok i (pc, rw') = true ∧ a_callok i (pc, rw') = true ∧ i < 274 := by
  unfold a_ins at h
  have h1 := a_lookup h
  cases e : a_codes[i]? with
  | none => rw [e] at h1; cases h1
  | some L =>
    rw [e] at h1
    have hi : i < 274 := by
      have := (List.getElem?_eq_some_iff.mp e).1
      rw [a_codes_len] at this
      exact this
    refine ⟨a_allok i L e _ h1, ?_, hi⟩
    have h2 := List.all_eq_true.mp a_callok_all i (List.mem_range.mpr hi)
    rw [List.getD_eq_getElem?_getD, e] at h2
    exact List.all_eq_true.mp h2 _ h1
theorem a_slots_len (G : a_G) : ∀ as : List Value, (lg_sl (as.map (a_cv G))).length = (a_slots as).length
  | [] => rfl
  | v :: as => by
    have ih := a_slots_len G as
    unfold lg_sl at ih ⊢
    rw [List.map_cons, List.flatMap_cons, List.length_append, ih, a_cv_cat]
    show _ = (if v.category = 2 then some v :: none :: a_slots as else some v :: a_slots as).length
    split
    · simp; omega
    · simp; omega
theorem a_args (G : a_G) : ∀ (as : List Value) (off k : Nat) (v : Value), (a_slots as)[k]? = some (some v) → (off + k, a_cv G v) ∈ lv_args off (as.map (a_cv G))
  | [], _, _, _, h => by simp [a_slots] at h
  | w :: as, off, k, v, h => by
    rw [List.map_cons]
    unfold lv_args
    rw [a_cv_cat]
    unfold a_slots at h
    split at h
    · rename_i hc
      rw [if_pos hc]
      match k with
      | 0 => simp at h; subst h; exact List.mem_cons_self
      | 1 => simp at h
      | k + 2 =>
        have h1 : (a_slots as)[k]? = some (some v) := by simpa using h
        have := a_args G as (off + 2) k v h1
        rw [show off + (k + 2) = off + 2 + k by omega]
        exact List.mem_cons_of_mem _ this
    · rename_i hc
      rw [if_neg hc]
      match k with
      | 0 => simp at h; subst h; exact List.mem_cons_self
      | k + 1 =>
        have h1 : (a_slots as)[k]? = some (some v) := by simpa using h
        have := a_args G as (off + 1) k v h1
        rw [show off + (k + 1) = off + 1 + k by omega]
        exact List.mem_cons_of_mem _ this
theorem a_entLR (G : a_G) {j : Nat} {as : List Value} (hl : (a_slots as).length ≤ a_maxL j) : a_LR G (a_ent j as) ((lg_sl (as.map (a_cv G)) ++ List.replicate (a_maxL j - (lg_sl (as.map (a_cv G))).length) Slot.unset).toArray) (a_maxL j) := by
  have hv := lv_entry (as.map (a_cv G)) (n := a_maxL j) (by rw [a_slots_len]; exact hl)
  refine ⟨?_, hv.1, hv.2.1, fun k v hk => ?_⟩
  · unfold a_ent
    rw [List.length_append, List.length_replicate]
    omega
  · refine hv.2.2 (k, a_cv G v) ?_
    unfold a_ent at hk
    by_cases hlt : k < (a_slots as).length
    · rw [List.getElem?_append_left hlt] at hk
      have := a_args G as 0 k v hk
      rw [Nat.zero_add] at this
      exact this
    · rw [List.getElem?_append_right (by omega)] at hk
      have h2 := List.mem_of_getElem? hk
      rw [List.mem_replicate] at h2
      cases h2.2
/-- frames -/
def a_A (l : Launch) (G : a_G) (sc : Nat × (Nat → Int32)) (f : Nat) : Prop :=
  ∀ {p : Program} {e : Env} {R : Room} {s : State} {m : MethodId} {args : Array Value} {below : List Frame} {meth : Method} {c : Code} {Q : State → Prop} {n0 s0 i pc : Nat} {lc : a_Lc} {st : List Value} {h : a_Hp} {v : Option Value} {h' : a_Hp} {H : Heap} {locs : List Loc} {ls : Array Slot},
    a_Cx p R s m args meth c G sc i → a_ex f i pc lc st h = some (v, h') → h.2.2.2 = sc → n0 ≤ h.1.length ∧ s0 ≤ a_hs h → h'.1.length - n0 ≤ R.cells ∧ a_hs h' - s0 ≤ R.slots → a_HR G h H → va_S (fun q => G.1 ≤ q) s.heap H locs → a_LR G lc ls (a_maxL i) →
    (∀ (H' : Heap) (locs' : List Loc) (ls' : Array Slot) (pc' : Nat), a_HR G h' H' → va_S (fun q => G.1 ≤ q) s.heap H' locs' → a_End i pc' v → a_WW p l e R s m args below meth c Q G n0 s0 h' H' locs' pc' ls' v.toList) →
    a_WW p l e R s m args below meth c Q G n0 s0 h H locs pc ls st
def a_B (l : Launch) (G : a_G) (sc : Nat × (Nat → Int32)) (f : Nat) : Prop :=
  ∀ {j : Nat} {as : List Value} {h : a_Hp} {v : Option Value} {h' : a_Hp}, j < 274 → j ≠ 262 → (a_slots as).length ≤ a_maxL j → h.2.2.2 = sc → a_ex f j 0 (a_ent j as) [] h = some (v, h') → a_Met l G sc j as h v h'
theorem a_AB {f : Nat} (hA : a_A l G sc f) : a_B l G sc f := by
  intro j as h v h' hj hne hl hsc hex
  have hyc := a_ycls j hj
  refine a_ofW (cc := a_bytes j) (maxL := a_maxL j) (ret := a_ret j) hyc.2.2.1 rfl ?_
  intro p e s m args below meth c s₁ B hml hP
  obtain ⟨rfl, hK, HR⟩ := hP
  have hown : s.vm.findClass (a_y j).cls = some m.cls := findClass_of_methodNamed B.named
  rw [hyc.1] at hown
  have hts : ∀ w ∈ a_ws j, w.before (as.map (a_cv G)).toArray s = true := atoms_spec (ws := a_ws j) B.pre
  have hnm : meth.name = a_nm j := by rw [a_nmy j hj]; exact (name_of_methodNamed B.named B.method).1
  have C : a_Cx p (headSpec (a_ws j) { frames := a_FR j, cells := h'.1.length - h.1.length, slots := a_hs h' - a_hs h, locals := a_LO j }).room s m (as.map (a_cv G)).toArray meth c G sc j :=
    ⟨B.exec, B.bytes, hml, hown, fun w hw => hts w (List.mem_cons_of_mem _ hw), hK, fun q => hnm.trans q, hj, Nat.le_refl _, Nat.le_refl _⟩
  rw [lg_entry_eq]
  have k1 := hA (p := p) (e := e) (below := below) (Q := MQ below (fun (_ : Array Value) (st : State) (o : Outcome) (t : State) => o = .returned (v.map (a_cv G)) ∧ a_HR G h' t.heap ∧ ∀ q : Nat, q < G.1 → t.heap[q]? = st.heap[q]?) (as.map (a_cv G)).toArray s (h'.1.length - h.1.length) (a_hs h' - a_hs h) (fun q => G.1 ≤ q)) (n0 := h.1.length) (s0 := a_hs h) C hex hsc ⟨Nat.le_refl _, Nat.le_refl _⟩ ⟨Nat.le_refl _, Nat.le_refl _⟩ HR (va_S.rf (A := fun q => G.1 ≤ q)) (a_entLR G hl) ?_
  · unfold a_WW at k1
    rw [Nat.sub_self, Nat.sub_self] at k1
    exact k1
  · intro H' locs' ls' pc' HR' HS' hE
    have hq : ∀ t : State, t.heap = H' → s.WarmedH t.vm → (Outcome.returned (v.map (a_cv G)) = .returned (v.map (a_cv G)) ∧ a_HR G h' t.heap ∧ ∀ q : Nat, q < G.1 → t.heap[q]? = s.heap[q]?) := by
      intro t ht _
      refine ⟨rfl, by rw [ht]; exact HR', fun q hq => ?_⟩
      rw [ht]
      exact HS'.2.1 q (Nat.lt_of_lt_of_le hq hK.1) (by show ¬ G.1 ≤ q; omega)
    unfold a_WW
    match v, hE with
    | none, hE => exact W.vret B.exec B.bytes (B.returns.trans hE.2) hq (fun q hq => HS'.2.2 q hq) hE.1 (hlocks := B.notSynchronized)
    | some (.int x), ⟨g1, ty, g2, g3⟩ => exact W.zret (ty := ty) B.exec B.bytes (B.returns.trans g2) g3 hq (fun q hq => HS'.2.2 q hq) g1 (hlocks := B.notSynchronized)
    | some (.ref x), ⟨g1, ty, g2, g3⟩ =>
      refine W.aret (rt := ty) B.exec B.bytes (B.returns.trans g2) ?_ (Or.inr ⟨_, rfl⟩) hq (fun q hq => HS'.2.2 q hq) g1 (hlocks := B.notSynchronized)
      unfold a_fits at g3
      split at g3
      · exact Or.inl ⟨_, rfl⟩
      · exact Or.inr ⟨_, rfl⟩
      · cases g3
theorem a_callee {i pc : Nat} {rw' : a_Rw} {j pc' : Nat} {as rest : List Value} (hro : a_rowok i (pc, rw') = true) (hs : a_step i rw' pc lc st h = some (.inr (.inl (j, pc', as, rest)))) : j < 274 ∧ j ≠ 262 ∧ (a_slots as).length ≤ a_maxL j := by
  obtain ⟨ins, n, a, b, vv⟩ := rw'
  simp only [a_rowok, Bool.and_eq_true, decide_eq_true_eq] at hro
  obtain ⟨hd, hy⟩ := hro
  have inv : ∀ {k b' pc1 : Nat} {st1 : List Value}, a_call k b' pc1 st1 = some (.inr (.inl (j, pc', as, rest))) → j = k ∧ (a_slots as).length ≤ a_maxL j := by
    intro k b' pc1 st1 q
    unfold a_call at q
    split at q
    · rename_i hc
      cases q
      exact ⟨rfl, hc.2.2⟩
    · cases q
  cases ins
  case invokevirtual x =>
    simp only [a_say, Bool.and_eq_true, beq_iff_eq, Bool.or_eq_true] at hy
    obtain ⟨rfl, hy2⟩ := hy
    simp only [a_step] at hs
    split at hs
    · rename_i hc
      obtain ⟨rfl, h2⟩ := inv hs
      have hmem := a_key3_mem (hy2.resolve_left (by omega))
      exact ⟨hc.1, (a_e_mlv2 _ hmem).2.2.2, h2⟩
    · cases hs
  case invokestatic x =>
    simp only [a_say, Bool.and_eq_true, beq_iff_eq, Bool.or_eq_true] at hy
    obtain ⟨rfl, hy2⟩ := hy
    simp only [a_step] at hs
    split at hs
    · unfold a_cpy at hs
      repeat (first | (exact (a_no1 hs).elim) | (exact (a_no3 hs).elim) | split at hs)
    · rename_i ha1
      split at hs
      · rename_i hc
        obtain ⟨rfl, h2⟩ := inv hs
        rw [if_neg ha1] at hy2
        have hmem := a_key3_mem (by simpa using hy2.resolve_left (by omega))
        exact ⟨hc, (a_e_mls2 _ hmem).2.2, h2⟩
      · cases hs
  case invokespecial x =>
    simp only [a_say, Bool.and_eq_true, beq_iff_eq, Bool.or_eq_true] at hy
    obtain ⟨rfl, hy2⟩ := hy
    simp only [a_step] at hs
    split at hs
    · repeat (first | (exact (a_no1 hs).elim) | (exact (a_no3 hs).elim) | split at hs)
    · rename_i ha1
      split at hs
      · rename_i hc
        obtain ⟨rfl, h2⟩ := inv hs
        rw [if_neg ha1] at hy2
        have hmem := a_key3_mem (by simpa using hy2.resolve_left (by omega))
        exact ⟨hc.1, (a_e_mli2 _ hmem).2.2.1, h2⟩
      · cases hs
  case ireturn =>
    simp only [a_step] at hs
    repeat (first | (exact (a_no1 hs).elim) | (exact (a_no4 hs).elim) | split at hs)
  case areturn =>
    simp only [a_step] at hs
    repeat (first | (exact (a_no1 hs).elim) | (exact (a_no4 hs).elim) | split at hs)
  case return_ =>
    simp only [a_step] at hs
    repeat (first | (exact (a_no1 hs).elim) | (exact (a_no4 hs).elim) | split at hs)
  all_goals first
    | (exact (a_no1 hs).elim)
    | (exact (a_no3 hs).elim)
    | (simp only [a_step, a_ldi, a_ldl, a_lda, a_sti, a_sta, a_op2, a_opd, a_getf, a_putf, a_ld, a_stx, a_newo, a_newa, a_alen] at hs
       repeat (first | (exact (a_no1 hs).elim) | (exact (a_no3 hs).elim) | split at hs))
/-- every run of the abstract machine is a run of the machine -/
theorem a_main (l : Launch) (G : a_G) (sc : Nat × (Nat → Int32)) : ∀ f, a_A l G sc f := by
  intro f
  induction f with
  | zero => intro p e R s m args below meth c Q n0 s0 i pc lc st h v h' H locs ls C hex; cases hex
  | succ f ih =>
    intro p e R s m args below meth c Q n0 s0 i pc lc st h v h' H locs ls C hex hsc hN hR HR HS HL kret
    unfold a_ex at hex
    split at hex
    · cases hex
    · rename_i rw' hi
      obtain ⟨hro, hco, -⟩ := a_ins_ok hi
      split at hex
      · cases hex
      · rename_i pc' lc' st' h1 hs
        have m1 := a_step_mo hs
        have m2 := a_ex_mo f hex
        refine a_stepW C hro hco hs hsc hN ⟨by have := m2.1; dsimp only; omega, by have := m2.2.1; dsimp only; omega⟩ HR HS HL ?_
        intro H1 locs1 ls1 HR1 HS1 HL1
        exact ih C hex (m1.2.2.trans hsc) ⟨Nat.le_trans hN.1 m1.1, Nat.le_trans hN.2 m1.2.1⟩ hR HR1 HS1 HL1 kret
      · rename_i j pc' as rest hs
        split at hex
        · cases hex
        · rename_i v1 h1 e1
          have m1 := a_ex_mo f e1
          have m2 := a_ex_mo f hex
          obtain ⟨c1, c2, c3⟩ := a_callee hro hs
          refine a_callW C hro hco hs hN ⟨by have := m2.1; omega, by have := m2.2.1; omega⟩ m1 (a_AB ih c1 c2 c3 hsc e1) HR HS HL ?_
          intro H1 locs1 ls1 HR1 HS1 HL1
          exact ih C hex (m1.2.2.trans hsc) ⟨Nat.le_trans hN.1 m1.1, Nat.le_trans hN.2 m1.2.1⟩ hR HR1 HS1 HL1 kret
      · rename_i v1 hs
        cases hex
        obtain ⟨g1, g2⟩ := a_retW hro hs
        rw [g2]
        exact kret H locs ls pc HR HS g1
end AMA
end
section
/-! THE CLAIM OUT OF ONE WALK OF THE LAW'S BODY. Your part is whole_start (and what it stands on); all else here is the same for every law, but numbers. -/
def R_law : String := "PreCommitHallLaw"
def lw_P (b : Addr) (xs : List Int32) (args : Array Value) (s : State) : Prop := args = #[.ref b] ∧ s.IntsAt b xs ∧ xs.length ≤ 3072 ∧ (Jvm.Cond.and given_1 narrow_1).before args s = true
def lw_Q (_ : Array Value) (s : State) (o : Outcome) (t : State) : Prop := o = .returned (some (.int 1)) ∧ Framed s o t [] 600000 7302250
def lw_Z (below : List Frame) (a : Array Value) (s : State) : State → Prop := fun t => ∃ o, t.status = .running ∧ Ended t below o ∧ lw_Q a s o t
/-- the law's own end, with 1 on the stack, nothing written that was there before, its room as the claim has it -/
theorem lw_ret {p : Program} {l : Launch} {e : Env} {s : State} {m : MethodId} {below : List Frame} {meth : Method} {c : Code} {b : Nat} (hx : p.tables.exec = Jvm.exec) (hb : c.code = code) (hr : meth.sig.returnType = ret) (hlocks : meth.locks = false) {pc : Nat} {H : Heap} {ls : Array Slot} (hdg : decode code pc = .ok (.ireturn, 1)) : W p l e room_1 s m #[Value.ref b] below meth c H [] 600000 7302250 (lw_Z below #[Value.ref b] s) (F0 m pc ls [.int 1]) := by
  intro T hT X
  obtain ⟨fs, hret, hrun, hended, hW, hframe⟩ := X.leave (v := some (.int 1)) (hlocks := hlocks) (fun h => by rw [hr] at h; cases h)
  have hmeth' : T.vm.method? m = some meth := X.method'
  refine ⟨T.setFrames fs, ?_, .returned (some (.int 1)), hrun, hended, rfl, ⟨_, rfl⟩, hW, hframe⟩
  jvm_step X.here [X.here.top, hx, hb, hdg, hmeth', hr, ret, narrow_b1]
  (try refine ⟨rfl, ?_⟩); (try refine ⟨rfl, ?_⟩)
  first | (intro acts; rw [hret _ acts rfl rfl rfl]) | rw [hret _ _ rfl rfl rfl]
  exact Steps.refl _
/-- what holds at the law's entry: the machine, the code, the tables' words (any of lw_tbl by 'hts w (by decide +kernel)'), the script of L ints xs at the cell b, what the Statement gives of the start (any of its parts by flat_of_before) -/
def lw_At (p : Program) (s : State) (m : MethodId) (meth : Method) (c : Code) (b L : Nat) (xs : Nat → Int32) : Prop :=
  p.tables.exec = Jvm.exec ∧ c.code = code ∧ meth.sig.returnType = ret ∧ c.maxLocals = 4 ∧ s.vm.findClass R_law = some m.cls ∧ (∀ w ∈ lw_tbl, w.before #[Value.ref b] s = true) ∧ va_X b L xs s s.heap ∧ b < s.heap.size ∧ meth.locks = false ∧ (Jvm.Cond.and given_1 narrow_1).before #[Value.ref b] s = true

def a_tm (k : Nat) : Term := match a_str[k]? with | some q => .string (a_cn q.1) q.2.1 | none => .string "" 0
def a_nwl (k : Nat) : List Cond := [.exactly (a_tm k) "java/lang/String", .eq (.field (a_tm k) "java/lang/String" "coder" "B") (.int 0), .arrayOf (.field (a_tm k) "java/lang/String" "value" "[B") .byte, .eq (.length (.field (a_tm k) "java/lang/String" "value" "[B")) (.int (Int32.ofNat (a_byt.getD k []).length))] ++
  (List.range (a_byt.getD k []).length).map (fun j => .eq (.elem (.field (a_tm k) "java/lang/String" "value" "[B") (.int (Int32.ofNat j))) (.int ((a_byt.getD k []).getD j 0)))
def a_flat : List Cond := flatC (Jvm.Cond.and given_1 narrow_1)
theorem a_nwl_in : a_sub ((List.range 36).flatMap a_nwl) a_flat = true := by decide +kernel
theorem a_sref_in : a_sub (a_str.map (fun q => (Cond.stringRef (a_cn q.1) q.2.1 q.2.2))) lw_tbl = true := by decide +kernel
theorem a_x1 : a_sub [Cond.laysStatic "java/lang/String" "COMPACT_STRINGS" "Z"] lw_tbl = true := by decide +kernel
theorem a_x2 : a_sub [Cond.laysStatic "jdk/internal/util/Preconditions" "SIOOBE_FORMATTER" "Ljava/util/function/BiFunction;"] lw_tbl = true := by decide +kernel
theorem a_x3 : a_sub [Cond.initialized "java/lang/String", Cond.initialized "jdk/internal/util/Preconditions"] lw_tbl = true := by decide +kernel
theorem a_x4 : a_sub [Cond.arrayOver (.object "PreCommitHall$Hall")] lw_tbl = true := by decide +kernel
theorem a_x5 : a_sub [Cond.methodLinkNest "PreCommitHall" 51 ⟨"PreCommitHall$Draws", "<init>", "()V"⟩ "PreCommitHall"] lw_tbl = true := by decide +kernel
theorem a_x6 : a_sub [Cond.eq (.static "java/lang/String" "COMPACT_STRINGS" "Z") (.int 1), Cond.isRef (.static "jdk/internal/util/Preconditions" "SIOOBE_FORMATTER" "Ljava/util/function/BiFunction;")] a_flat = true := by decide +kernel
theorem a_law_bytes : a_bytes 262 = code := by rfl
def a_h0 (L : Nat) (xs : Nat → Int32) : a_Hp := ([], fun _ _ => none, fun _ _ => 0, L, xs)
theorem a_bytlen : ∀ k, k < 36 → (a_byt.getD k []).length < 2 ^ 31 := by decide +kernel
/-- the law's start out of a run of the abstract machine -/
theorem a_start {p : Program} {e : Env} {s : State} {m : MethodId} {below : List Frame} {meth : Method} {c : Code} (l : Launch) {b L : Nat} {xs : Nat → Int32} (C0 : lw_At p s m meth c b L xs) {f : Nat} {h' : a_Hp}
    (hrun : a_ex f 262 0 (a_ent 262 [.ref (a_CB + 1000)]) [] (a_h0 L xs) = some (some (.int 1), h')) (hc1 : h'.1.length ≤ 600000) (hc2 : a_hs h' ≤ 7302250) :
    W p l e room_1 s m #[Value.ref b] below meth c s.heap [] 0 0 (lw_Z below #[Value.ref b] s) (entryFrame m ([Value.ref b] : List Value).toArray 4) := by
  obtain ⟨hx, hb, hr, hml, hown, hts, hX, hbl, hlocks, hgv⟩ := id C0
  have hfl := flat_of_before _ hgv
  have hA : ∀ a : Nat, a < s.heap.size → ¬ s.heap.size ≤ a := fun a h => by omega
  -- the classes
  have h0 : ∀ k : Nat, ∃ q : ClassId × (Nat → Nat), k < 9 → u_Kn s (a_cn k) (a_T k) (a_fn k) q.1 q.2 := by
    intro k
    by_cases hk : k < 9
    · obtain ⟨cC, iS, g⟩ := u_known (C := a_cn k) (T := a_T k) (N := a_fn k) (n := a_fn k) hts (fun w hw => (List.mem_filter.mp (a_lays hk w hw)).1) (hts _ (List.mem_filter.mp (a_i_inst2 (a_e_inst2 k hk))).1)
      exact ⟨(cC, iS), fun _ => g⟩
    · exact ⟨(0, fun _ => 0), fun h => absurd h hk⟩
  obtain ⟨dd, hdd⟩ := Classical.axiomOfChoice h0
  -- the arrays' classes
  have harr : ∀ ty : FieldType, (Cond.arrayClass ty) ∈ a_W → ∃ cA : ClassId, ArrOfT s cA ty ∧ s.vm.findClass ("[" ++ ty.toString) = some cA := by
    intro ty hw
    obtain ⟨cA, kA, comp, h1, h2, h3⟩ := Cond.arrayClass_spec (hts _ (List.mem_filter.mp hw).1)
    exact ⟨cA, fun n z => ⟨fun k h => (by cases h), kA, h2, comp, h3⟩, h1⟩
  obtain ⟨cI, hI1, hI2⟩ := harr .int a_x_arrI
  obtain ⟨cB, hB1, hB2⟩ := harr .byte a_x_arrB
  obtain ⟨cZ, hZ1, hZ2⟩ := harr .boolean a_x_arrZ
  have hover : (Cond.arrayOver (.object "PreCommitHall$Hall")).before #[Value.ref b] s = true := hts _ (a_sub_mem _ _ a_x4 _ List.mem_cons_self)
  obtain ⟨comp, cH, kH, hH1, -, hH3, hH4, hH5⟩ := Cond.arrayOver_spec hover
  -- the String constants
  have hstr : ∀ k : Nat, ∃ q : Nat × Nat, k < 36 → (a_tm k).eval #[Value.ref b] s none [] s = some (.ref q.1) ∧ va_O "java/lang/String" q.1 (fun a => s.heap.size ≤ a) s s.heap ∧ va_OF "java/lang/String" "coder" "B" (.int 0) q.1 (fun a => s.heap.size ≤ a) s s.heap ∧ va_OF "java/lang/String" "value" "[B" (.ref q.2) q.1 (fun a => s.heap.size ≤ a) s s.heap ∧ va_T .byte q.2 (a_byt.getD k []).length (fun j => .int ((a_byt.getD k []).getD j 0)) (fun a => s.heap.size ≤ a) s s.heap := by
    intro k
    by_cases hk : k < 36
    · have hin : ∀ w ∈ a_nwl k, w.before #[Value.ref b] s = true := fun w hw => hfl w (a_sub_mem _ _ a_nwl_in w (List.mem_flatMap.mpr ⟨k, List.mem_range.mpr hk, hw⟩))
      have hex : (Cond.exactly (a_tm k) "java/lang/String").before #[Value.ref b] s = true := hin _ (by simp [a_nwl])
      have hco : (Cond.eq (.field (a_tm k) "java/lang/String" "coder" "B") (.int 0)).before #[Value.ref b] s = true := hin _ (by simp [a_nwl])
      have har : (Cond.arrayOf (.field (a_tm k) "java/lang/String" "value" "[B") .byte).before #[Value.ref b] s = true := hin _ (by simp [a_nwl])
      have hle : (Cond.eq (.length (.field (a_tm k) "java/lang/String" "value" "[B")) (.int (Int32.ofNat (a_byt.getD k []).length))).before #[Value.ref b] s = true := hin _ (by simp [a_nwl])
      have hel : ∀ j : Nat, j < (a_byt.getD k []).length → (Cond.eq (.elem (.field (a_tm k) "java/lang/String" "value" "[B") (.int (Int32.ofNat j))) (.int ((a_byt.getD k []).getD j 0))).before #[Value.ref b] s = true := fun j hj => hin _ (List.mem_append_right _ (List.mem_map.mpr ⟨j, List.mem_range.mpr hj, rfl⟩))
      obtain ⟨a, c', cA, kA, q1, q2, q3, q4, q5, q6, -⟩ := Cond.exactly_spec (args := #[Value.ref b]) (first := s) (o := none) (s := s) (idx := []) (t := a_tm k) (cls := "java/lang/String") hex
      obtain ⟨t, ht, hT⟩ := va_Tof (f := fun j => .int ((a_byt.getD k []).getD j 0)) (A := fun a => s.heap.size ≤ a) (a_bytlen k hk) har (va_eqt hle) (fun j hj => va_eqt (hel j hj)) hA
      exact ⟨(a, t), fun _ => ⟨q1, ⟨cA, q3, q5, by rw [q6]; exact q2, hA a (Array.getElem?_eq_some_iff.mp q3).1⟩, vk_OFof q1 (va_eqt hco) hA, vk_OFof q1 ht hA, hT⟩⟩
    · exact ⟨(0, 0), fun h => absurd h hk⟩
  obtain ⟨ad, had⟩ := Classical.axiomOfChoice hstr
  -- the statics
  have hcs : va_Z "java/lang/String" "COMPACT_STRINGS" "Z" (.int 1) (fun a => s.heap.size ≤ a) s s.heap := va_Zof (hts _ (a_sub_mem _ _ a_x1 _ List.mem_cons_self)) (hts _ (a_sub_mem _ _ a_x3 _ List.mem_cons_self)) (va_eqi (hfl _ (a_sub_mem _ _ a_x6 _ List.mem_cons_self))) hA
  have hfm0 := va_Zqof (hts _ (a_sub_mem _ _ a_x2 _ List.mem_cons_self)) (hts _ (a_sub_mem _ _ a_x3 _ (List.mem_cons_of_mem _ List.mem_cons_self))) (hfl _ (a_sub_mem _ _ a_x6 _ (List.mem_cons_of_mem _ List.mem_cons_self))) hA
  obtain ⟨ft, ff, hfm⟩ : ∃ ft ff : Nat, va_Z "jdk/internal/util/Preconditions" "SIOOBE_FORMATTER" "Ljava/util/function/BiFunction;" (if ff = 0 then .null else .ref ft) (fun a => s.heap.size ≤ a) s s.heap := by
    rcases hfm0 with h | ⟨t, h⟩
    · exact ⟨0, 0, h⟩
    · exact ⟨t, 1, h⟩
  -- the world
  obtain ⟨ga, hga⟩ : ∃ ga : Nat → Nat, ga = fun n => if n = 1000 then b else if n = 1001 then ft else if n = 1002 then ff else if n % 2 = 0 then (ad (n / 2)).1 else (ad (n / 2)).2 := ⟨_, rfl⟩
  obtain ⟨G, hG⟩ : ∃ G : a_G, G = (s.heap.size, ga, (fun k => (dd k).1, fun k => (dd k).2), cI, cB, cZ, cH) := ⟨_, rfl⟩
  have g1000 : ga 1000 = b := by rw [hga]; rfl
  have gfm : a_fmt G = (if ff = 0 then .null else .ref ft) := by rw [hG, hga]; rfl
  have hK : a_K G (L, xs) s := by
    refine ⟨by rw [hG]; exact Nat.le_refl _, ⟨fun k q hq => ?_, fun k q hq => ?_⟩, fun k hk => ?_, ?_, ?_, ?_, ?_, va_AO.of hover, va_Nw.of rfl (hts _ (a_sub_mem _ _ a_x5 _ List.mem_cons_self))⟩
    · have hk : k < 9 := (List.getElem?_eq_some_iff.mp hq).1
      cases (a_cls k hk).symm.trans hq
      rw [hG]
      exact hdd k hk
    · rw [hG] at hq
      match k, hq with
      | 0, hq => cases hq; exact ⟨hI1, hI2⟩
      | 1, hq => cases hq; exact ⟨hB1, hB2⟩
      | 2, hq => cases hq; exact ⟨hZ1, hZ2⟩
      | 3, hq => cases hq; exact ⟨fun n z => ⟨fun k h => (by cases h), kH, hH3, comp, hH4⟩, kH, comp, hH3, hH4, hH1, hH5⟩
      | k + 4, hq => simp [a_tys] at hq
    · obtain ⟨e1, e2, e3, e4, e5⟩ := had k hk
      have g1 : G.2.1 (2 * k) = (ad k).1 := by
        rw [hG, hga]
        dsimp only
        rw [if_neg (by omega), if_neg (by omega), if_neg (by omega), if_pos (by omega), show 2 * k / 2 = k by omega]
      have g2 : G.2.1 (2 * k + 1) = (ad k).2 := by
        rw [hG, hga]
        dsimp only
        rw [if_neg (by omega), if_neg (by omega), if_neg (by omega), if_neg (by omega), show (2 * k + 1) / 2 = k by omega]
      unfold a_strk
      rw [g1, g2, hG]
      obtain ⟨q, hq⟩ : ∃ q, a_str[k]? = some q := ⟨_, List.getElem?_eq_getElem (by rw [a_strlen]; exact hk)⟩
      refine ⟨e2, e3, e4, e5, q, hq, ?_⟩
      have e1' : (Term.string (a_cn q.1) q.2.1).eval #[Value.ref b] s none [] s = some (.ref (ad k).1) := by
        unfold a_tm at e1
        rw [hq] at e1
        exact e1
      exact vk_R.of (A := #[Value.ref b]) (hts _ (a_sub_mem _ _ a_sref_in _ (List.mem_map.mpr ⟨q, List.mem_of_getElem? hq, rfl⟩))) e1'
    · rw [hG]; show va_X (ga 1000) L xs s s.heap; rw [g1000]; exact hX
    · rw [hG]; show ga 1000 < s.heap.size; rw [g1000]; exact hbl
    · rw [hG]; exact hcs
    · rw [gfm, hG]; exact hfm
  have C : a_Cx p room_1 s m #[Value.ref b] meth c G (L, xs) 262 := ⟨hx, by rw [a_law_bytes]; exact hb, hml, hown, fun w hw => hts w (List.mem_filter.mp hw).1, hK, fun q => absurd q (by decide +kernel), by omega, by show a_FR 262 ≤ 13; decide +kernel, by show a_LO 262 ≤ 518; decide +kernel⟩
  have e1 : ([Value.ref b] : List Value) = ([.ref (a_CB + 1000)] : List Value).map (a_cv G) := by
    rw [List.map_cons, a_cv_ref, a_ad_str, hG]
    show _ = [Value.ref (ga 1000)]
    rw [g1000]
  rw [lg_entry_eq]
  have k1 := a_main l G (L, xs) f (p := p) (e := e) (below := below) (Q := lw_Z below #[Value.ref b] s) (n0 := 0) (s0 := 0) C hrun rfl ⟨Nat.zero_le _, Nat.zero_le _⟩ ⟨hc1, hc2⟩ (H := s.heap) (locs := []) ⟨by rw [hG]; rfl, fun k q hq => by simp [a_wl, a_h0] at hq, Nat.zero_le _, fun o k n ho => by simp [a_h0] at ho⟩ va_S.rf (a_entLR G (j := 262) (as := [.ref (a_CB + 1000)]) (by decide +kernel)) ?_
  · rw [← e1] at k1
    exact k1
  · intro H' locs' ls' pc' HR' HS' hE
    obtain ⟨g1, -⟩ := hE
    unfold a_WW
    refine va_forget (fun q hq => by have := HS'.2.2 q hq; rw [hG] at this; exact this) ?_
    refine W.widen (k := 600000) (n := 7302250) (by show h'.1.length - 0 ≤ _; omega) (by omega) ?_
    rw [a_law_bytes] at g1
    exact lw_ret hx hb hr hlocks g1
end
section
theorem a_lawrun : ∀ (L : Nat) (xs : Nat → Int32), L ≤ 3072 → ∃ (f : Nat) (h' : a_Hp), a_ex f 262 0 (a_ent 262 [.ref (a_CB + 1000)]) [] (a_h0 L xs) = some (some (.int 1), h') ∧ h'.1.length ≤ 600000 ∧ a_hs h' ≤ 7302250 := sorry
theorem whole_start {p : Program} {e : Env} {s : State} {m : MethodId} {below : List Frame} {meth : Method} {c : Code} (l : Launch) (hflags : l.flags = flags0) {b L : Nat} {xs : Nat → Int32} (hL : L ≤ 3072) (C0 : lw_At p s m meth c b L xs) : W p l e room_1 s m #[Value.ref b] below meth c s.heap [] 0 0 (lw_Z below #[Value.ref b] s) (entryFrame m ([Value.ref b] : List Value).toArray 4) := by
  obtain ⟨f, h', h1, h2, h3⟩ := a_lawrun L xs hL
  exact a_start l C0 h1 h2 h3
set_option maxHeartbeats 4000000 in
theorem lw_walk (l : Launch) (hflags : l.flags = flags0) (b : Addr) (xs : List Int32) : MetFree l x (headSpec (Jvm.Cond.code x code maxLocals ret :: tables_1) room_1) (lw_P b xs) (fun _ _ _ _ _ => True) lw_Q := by
  refine MetFree.of_bodyS (code := code) (maxLocals := maxLocals) (ret := ret) (by decide) ?_ ?_
  · intro args s m h hn
    obtain ⟨meth, c, h1, h2, h3, h4, h5, h6, -, -⟩ := Cond.code_spec hn (atoms_spec (ws := Jvm.Cond.code x code maxLocals ret :: tables_1) h _ List.mem_cons_self)
    exact ⟨meth, c, h1, h2, h3, h4, h5, h6⟩
  · intro p e s m args below meth c s₁ B hml0 hP _
    obtain ⟨rfl, hx, hbd, hgv⟩ := hP
    obtain ⟨scr, harrAt, hlist, hof, hsmall⟩ := hx
    obtain ⟨hcb, hkn, -, -⟩ := State.arrayAt?_spec harrAt
    have hown : s.vm.findClass R_law = some m.cls := findClass_of_methodNamed B.named
    have hts0 : ∀ c ∈ (Jvm.Cond.code x code maxLocals ret :: tables_1), c.before #[Value.ref b] s = true := atoms_spec (ws := Jvm.Cond.code x code maxLocals ret :: tables_1) B.pre
    have hts : ∀ w ∈ lw_tbl, w.before #[Value.ref b] s = true := k2_hts_sels lw_privs (fun w hw => hts0 w (List.mem_cons_of_mem _ hw)) lw_privs_ok
    have hml : c.maxLocals = 4 := B.maxLocals_eq (hts0 _ List.mem_cons_self)
    have X₀ : Stand p l e room_1 s m #[Value.ref b] below meth c s₁ [] 0 0 := Stand.of_body B
    have hh0 : s₁.heap = s.heap := by rw [B.state]; rfl
    have hsz : scr.slots.size = xs.length := by rw [← Array.length_toList, hlist, List.length_map]
    have hval : ∀ j : Nat, j < xs.length → scr.slots[j]? = some (.int (xs.getD j 0)) := fun j hj => by
      rw [← Array.getElem?_toList, hlist]
      simp [hj]
    have hbl : b < s.heap.size := (Array.getElem?_eq_some_iff.mp hcb).1
    have hX : va_X b xs.length (fun j => xs.getD j 0) s s.heap := ⟨scr, hcb, hof, hkn, hsz, hval⟩
    have K : W p l e room_1 s m #[Value.ref b] below meth c s₁.heap [] 0 0 (lw_Z below #[Value.ref b] s) (entryFrame m ([Value.ref b] : List Value).toArray 4) := by
      rw [hh0]
      exact whole_start l hflags hbd ⟨B.exec, B.bytes, B.returns, hml, hown, hts, hX, hbl, B.notSynchronized, hgv⟩
    obtain ⟨t, a1, o, b1, b2, b3⟩ := K s₁ rfl X₀
    exact ⟨t, o, a1, b1, b2, b3⟩
theorem lw_pre_spec {args : Array Value} {s : State} (h : (Jvm.Cond.and given_1 narrow_1).before args s = true) (hr : rest_1_c.before args s = true) : ∃ (b : Addr) (xs : List Int32), lw_P b xs args s := by
  have hs := flat_of_before _ h
  have hq := flat_of_before _ hr
  have hc : (Cond.count 1).before args s = true := hs _ (by decide +kernel)
  have harr : (Cond.arrayOf (.arg 0) .int).before args s = true := hs _ (by decide +kernel)
  have hle : (Cond.le (.length (.arg 0)) (.int 3072)).before args s = true := hs _ (by decide +kernel)
  have hlen : (Cond.isInt (.length (.arg 0))).before args s = true := hq _ (by decide +kernel)
  have hall : (Cond.all (.arg 0) (.isInt (.elem (.arg 0) (.index 0)))).before args s = true := hq _ (by decide +kernel)
  obtain ⟨b, xs, hb, hx⟩ := State.ints_of_pre rfl harr hlen hall
  have hsm : xs.length < 2 ^ 31 := hx.choose_spec.2.2.2
  have hev : (Term.length (.arg 0)).eval args s none [] s = some (.int xs.length.toInt32) := hx.length_eval hb
  have hv := Cond.le_ints hev (show (Term.int 3072).eval args s none [] s = some (.int 3072) from rfl)
  have hd : xs.length.toInt32 ≤ 3072 := by
    simpa [Cond.before, Cond.holds, hv] using hle
  have hN : xs.length ≤ 3072 := (Int32.ofNat_le_ofNat hsm (by decide)).mp (show Int32.ofNat xs.length ≤ Int32.ofNat 3072 from hd)
  exact ⟨b, xs, Cond.one_arg hc (show args[0]? = some (.ref b) from hb), hx, hN, h⟩
theorem lw_comes (l : Launch) (hflags : l.flags = flags0) : Comes l x (Jvm.Cond.code x code maxLocals ret :: tables_1) room_1 (fun tb e args s => Calls_1 tb e args s ∧ rest_1 tb e args s ∧ Pre_1 tb e args s)
    (fun _ _ args s o t => lw_Q args s o t) := by
  intro p e ha hc hk s m args below hf hfit hheap happ hpre
  obtain ⟨b, xs, hP⟩ := lw_pre_spec hpre.2.2 hpre.2.1
  obtain ⟨k, o, h1, h2, h3, hQ⟩ := lw_walk l hflags b xs p e ha hc hk s m args below hf ((Spec.applies_iff_loose hf).mp happ).1 hP trivial
  exact ⟨k, o, h1, h2, h3, hQ⟩
theorem lw_frame {s t : State} {o : Outcome} {args : Array Value} (h : Framed s o t [] 600000 7302250) :
    Framed s o t (fieldLocs frame_1_writes args s ++ arrayLocs frame_1_arrays args s ++ staticLocs frame_1_statics s) 600000 7302250 := h
theorem lw_limb (L : Cond) (hL : ∀ (args : Array Value) (s t : State), L.after args s (.returned (some (.int 1))) t = true) :
    ArmFor flags0 classFile x code maxLocals ret World_1 tables_1 room_1 Calls_1 rest_1 Pre_1
      (fun tb e a s o t => postC L tb e a s o t ∧ Framed s o t (fieldLocs frame_1_writes a s ++ arrayLocs frame_1_arrays a s ++ staticLocs frame_1_statics s) 600000 7302250) := by
  intro l hflags _ _ p e ha hc hk s m args below hf hfit hheap happ hpre
  obtain ⟨k, o, h1, h2, h3, rfl, hF⟩ := lw_comes l hflags p e ha hc hk s m args below hf hfit hheap happ hpre
  exact ⟨k, _, h1, h2, h3, hL args s _, lw_frame hF⟩
theorem i_vc : Claimed_1_1 ∧ Claimed_1_2 := ⟨lw_limb limb_1_1 (fun args s t => by simp [limb_1_1, Cond.after, Cond.holds, Cond.value]), lw_limb limb_1_2 (fun args s t => Cond.after_iff.mpr (by
  first | (rw [show limb_1_2 = Cond.eq .result (.int 1) from rfl, Cond.eq_ints (x := 1) (y := 1) rfl rfl]; simp; done) | (simp [limb_1_2, Cond.value, Term.eval]; done)))⟩
end
