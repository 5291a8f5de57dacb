-- ===== PART A: goes FIRST, ahead of the names: the tables' words, and 'selects' of the private methods out of them =====
/-- a private method of a class that the tables say can be made, by its rows of tables_1 -/
def lw_okq (q : MethodName × Nat) : Prop := (q.1.cls ≠ "java/lang/invoke/MethodHandle" ∧ q.1.cls ≠ "java/lang/invoke/VarHandle") ∧ Cond.instantiable q.1.cls q.2 ∈ tables_1 ∧ Cond.privateMethod q.1 ∈ tables_1 ∧ Cond.instanceMethod q.1 ∈ tables_1
theorem lw_p0 : lw_okq (⟨"RavenSupper$World", "begin", "(I)V"⟩, 11) := ⟨⟨by decide +kernel, by decide +kernel⟩, List.mem_of_getElem? (i := 26) (by decide +kernel), List.mem_of_getElem? (i := 92) (by decide +kernel), List.mem_of_getElem? (i := 93) (by decide +kernel)⟩
theorem lw_p1 : lw_okq (⟨"RavenSupper$World", "measureFar", "()V"⟩, 11) := ⟨⟨by decide +kernel, by decide +kernel⟩, List.mem_of_getElem? (i := 26) (by decide +kernel), List.mem_of_getElem? (i := 108) (by decide +kernel), List.mem_of_getElem? (i := 109) (by decide +kernel)⟩
theorem lw_p2 : lw_okq (⟨"RavenSupper$World", "measureFrom", "(I)V"⟩, 11) := ⟨⟨by decide +kernel, by decide +kernel⟩, List.mem_of_getElem? (i := 26) (by decide +kernel), List.mem_of_getElem? (i := 112) (by decide +kernel), List.mem_of_getElem? (i := 113) (by decide +kernel)⟩
theorem lw_p3 : lw_okq (⟨"RavenSupper", "counted", "(I)I"⟩, 8) := ⟨⟨by decide +kernel, by decide +kernel⟩, List.mem_of_getElem? (i := 18) (by decide +kernel), List.mem_of_getElem? (i := 271) (by decide +kernel), List.mem_of_getElem? (i := 272) (by decide +kernel)⟩
theorem lw_p4 : lw_okq (⟨"RavenSupper$Text", "nextToken", "()I"⟩, 5) := ⟨⟨by decide +kernel, by decide +kernel⟩, List.mem_of_getElem? (i := 163) (by decide +kernel), List.mem_of_getElem? (i := 345) (by decide +kernel), List.mem_of_getElem? (i := 346) (by decide +kernel)⟩
theorem lw_p5 : lw_okq (⟨"RavenSupper$Text", "wordNumber", "()I"⟩, 5) := ⟨⟨by decide +kernel, by decide +kernel⟩, List.mem_of_getElem? (i := 163) (by decide +kernel), List.mem_of_getElem? (i := 355) (by decide +kernel), List.mem_of_getElem? (i := 356) (by decide +kernel)⟩
theorem lw_p6 : lw_okq (⟨"RavenSupper$Text", "wordIs", "(Ljava/lang/String;)Z"⟩, 5) := ⟨⟨by decide +kernel, by decide +kernel⟩, List.mem_of_getElem? (i := 163) (by decide +kernel), List.mem_of_getElem? (i := 360) (by decide +kernel), List.mem_of_getElem? (i := 361) (by decide +kernel)⟩
theorem lw_p7 : lw_okq (⟨"RavenSupper$Text", "readNumbers", "(I)Z"⟩, 5) := ⟨⟨by decide +kernel, by decide +kernel⟩, List.mem_of_getElem? (i := 163) (by decide +kernel), List.mem_of_getElem? (i := 416) (by decide +kernel), List.mem_of_getElem? (i := 417) (by decide +kernel)⟩
theorem lw_p8 : lw_okq (⟨"RavenSupper$Text", "numberRead", "()I"⟩, 5) := ⟨⟨by decide +kernel, by decide +kernel⟩, List.mem_of_getElem? (i := 163) (by decide +kernel), List.mem_of_getElem? (i := 423) (by decide +kernel), List.mem_of_getElem? (i := 424) (by decide +kernel)⟩
theorem lw_p9 : lw_okq (⟨"RavenSupper$Text", "tellItem", "(LRavenSupper$World;I)I"⟩, 5) := ⟨⟨by decide +kernel, by decide +kernel⟩, List.mem_of_getElem? (i := 163) (by decide +kernel), List.mem_of_getElem? (i := 427) (by decide +kernel), List.mem_of_getElem? (i := 428) (by decide +kernel)⟩
theorem lw_p10 : lw_okq (⟨"RavenSupper$World", "keepTonight", "()V"⟩, 11) := ⟨⟨by decide +kernel, by decide +kernel⟩, List.mem_of_getElem? (i := 26) (by decide +kernel), List.mem_of_getElem? (i := 498) (by decide +kernel), List.mem_of_getElem? (i := 499) (by decide +kernel)⟩
theorem lw_p11 : lw_okq (⟨"RavenSupper$World", "believe", "(III)V"⟩, 11) := ⟨⟨by decide +kernel, by decide +kernel⟩, List.mem_of_getElem? (i := 26) (by decide +kernel), List.mem_of_getElem? (i := 502) (by decide +kernel), List.mem_of_getElem? (i := 503) (by decide +kernel)⟩
theorem lw_p12 : lw_okq (⟨"RavenSupper", "refusedWith", "(II)I"⟩, 8) := ⟨⟨by decide +kernel, by decide +kernel⟩, List.mem_of_getElem? (i := 18) (by decide +kernel), List.mem_of_getElem? (i := 567) (by decide +kernel), List.mem_of_getElem? (i := 568) (by decide +kernel)⟩
theorem lw_p13 : lw_okq (⟨"RavenSupper$Flights", "openPlaces", "(LRavenSupper$World;I)V"⟩, 5) := ⟨⟨by decide +kernel, by decide +kernel⟩, List.mem_of_getElem? (i := 187) (by decide +kernel), List.mem_of_getElem? (i := 593) (by decide +kernel), List.mem_of_getElem? (i := 594) (by decide +kernel)⟩
theorem lw_p14 : lw_okq (⟨"RavenSupper$Flights", "bestPair", "()I"⟩, 5) := ⟨⟨by decide +kernel, by decide +kernel⟩, List.mem_of_getElem? (i := 187) (by decide +kernel), List.mem_of_getElem? (i := 602) (by decide +kernel), List.mem_of_getElem? (i := 603) (by decide +kernel)⟩
theorem lw_p15 : lw_okq (⟨"RavenSupper$Flights", "isOpen", "(II)Z"⟩, 5) := ⟨⟨by decide +kernel, by decide +kernel⟩, List.mem_of_getElem? (i := 187) (by decide +kernel), List.mem_of_getElem? (i := 606) (by decide +kernel), List.mem_of_getElem? (i := 607) (by decide +kernel)⟩
def lw_privs_1 : List (MethodName × Nat) := [(⟨"RavenSupper$World", "begin", "(I)V"⟩, 11), (⟨"RavenSupper$World", "measureFar", "()V"⟩, 11), (⟨"RavenSupper$World", "measureFrom", "(I)V"⟩, 11), (⟨"RavenSupper", "counted", "(I)I"⟩, 8), (⟨"RavenSupper$Text", "nextToken", "()I"⟩, 5), (⟨"RavenSupper$Text", "wordNumber", "()I"⟩, 5), (⟨"RavenSupper$Text", "wordIs", "(Ljava/lang/String;)Z"⟩, 5), (⟨"RavenSupper$Text", "readNumbers", "(I)Z"⟩, 5), (⟨"RavenSupper$Text", "numberRead", "()I"⟩, 5), (⟨"RavenSupper$Text", "tellItem", "(LRavenSupper$World;I)I"⟩, 5), (⟨"RavenSupper$World", "keepTonight", "()V"⟩, 11), (⟨"RavenSupper$World", "believe", "(III)V"⟩, 11), (⟨"RavenSupper", "refusedWith", "(II)I"⟩, 8), (⟨"RavenSupper$Flights", "openPlaces", "(LRavenSupper$World;I)V"⟩, 5), (⟨"RavenSupper$Flights", "bestPair", "()I"⟩, 5), (⟨"RavenSupper$Flights", "isOpen", "(II)Z"⟩, 5)]
theorem lw_r1 : ∀ q ∈ lw_privs_1, lw_okq q := List.forall_mem_cons.mpr ⟨lw_p0, List.forall_mem_cons.mpr ⟨lw_p1, List.forall_mem_cons.mpr ⟨lw_p2, List.forall_mem_cons.mpr ⟨lw_p3, List.forall_mem_cons.mpr ⟨lw_p4, List.forall_mem_cons.mpr ⟨lw_p5, List.forall_mem_cons.mpr ⟨lw_p6, List.forall_mem_cons.mpr ⟨lw_p7, List.forall_mem_cons.mpr ⟨lw_p8, List.forall_mem_cons.mpr ⟨lw_p9, List.forall_mem_cons.mpr ⟨lw_p10, List.forall_mem_cons.mpr ⟨lw_p11, List.forall_mem_cons.mpr ⟨lw_p12, List.forall_mem_cons.mpr ⟨lw_p13, List.forall_mem_cons.mpr ⟨lw_p14, List.forall_mem_cons.mpr ⟨lw_p15, fun _ h => absurd h List.not_mem_nil⟩⟩⟩⟩⟩⟩⟩⟩⟩⟩⟩⟩⟩⟩⟩⟩
theorem lw_p16 : lw_okq (⟨"RavenSupper$Flights", "gainBeside", "(II)I"⟩, 5) := ⟨⟨by decide +kernel, by decide +kernel⟩, List.mem_of_getElem? (i := 187) (by decide +kernel), List.mem_of_getElem? (i := 629) (by decide +kernel), List.mem_of_getElem? (i := 630) (by decide +kernel)⟩
theorem lw_p17 : lw_okq (⟨"RavenSupper$Flights", "endPlan", "(LRavenSupper$World;II)Z"⟩, 5) := ⟨⟨by decide +kernel, by decide +kernel⟩, List.mem_of_getElem? (i := 187) (by decide +kernel), List.mem_of_getElem? (i := 644) (by decide +kernel), List.mem_of_getElem? (i := 645) (by decide +kernel)⟩
theorem lw_p18 : lw_okq (⟨"RavenSupper$Flights", "goAhead", "(LRavenSupper$World;II)V"⟩, 5) := ⟨⟨by decide +kernel, by decide +kernel⟩, List.mem_of_getElem? (i := 187) (by decide +kernel), List.mem_of_getElem? (i := 661) (by decide +kernel), List.mem_of_getElem? (i := 662) (by decide +kernel)⟩
theorem lw_p19 : lw_okq (⟨"RavenSupper$Rounds", "seesAll", "()Z"⟩, 5) := ⟨⟨by decide +kernel, by decide +kernel⟩, List.mem_of_getElem? (i := 212) (by decide +kernel), List.mem_of_getElem? (i := 693) (by decide +kernel), List.mem_of_getElem? (i := 694) (by decide +kernel)⟩
theorem lw_p20 : lw_okq (⟨"RavenSupper$Rounds", "seenFrom", "(II)I"⟩, 5) := ⟨⟨by decide +kernel, by decide +kernel⟩, List.mem_of_getElem? (i := 212) (by decide +kernel), List.mem_of_getElem? (i := 697) (by decide +kernel), List.mem_of_getElem? (i := 698) (by decide +kernel)⟩
theorem lw_p21 : lw_okq (⟨"RavenSupper$Rounds", "mayGoOn", "(I)Z"⟩, 5) := ⟨⟨by decide +kernel, by decide +kernel⟩, List.mem_of_getElem? (i := 212) (by decide +kernel), List.mem_of_getElem? (i := 703) (by decide +kernel), List.mem_of_getElem? (i := 704) (by decide +kernel)⟩
theorem lw_p22 : lw_okq (⟨"RavenSupper$Caws", "mayLie", "(I)Z"⟩, 4) := ⟨⟨by decide +kernel, by decide +kernel⟩, List.mem_of_getElem? (i := 34) (by decide +kernel), List.mem_of_getElem? (i := 742) (by decide +kernel), List.mem_of_getElem? (i := 743) (by decide +kernel)⟩
theorem lw_p23 : lw_okq (⟨"RavenSupperModel", "bad", "()I"⟩, 17) := ⟨⟨by decide +kernel, by decide +kernel⟩, List.mem_of_getElem? (i := 805) (by decide +kernel), List.mem_of_getElem? (i := 873) (by decide +kernel), List.mem_of_getElem? (i := 874) (by decide +kernel)⟩
theorem lw_p24 : lw_okq (⟨"RavenSupperModel", "full", "()I"⟩, 17) := ⟨⟨by decide +kernel, by decide +kernel⟩, List.mem_of_getElem? (i := 805) (by decide +kernel), List.mem_of_getElem? (i := 927) (by decide +kernel), List.mem_of_getElem? (i := 928) (by decide +kernel)⟩
theorem lw_p25 : lw_okq (⟨"RavenSupperModel", "reads", "()I"⟩, 17) := ⟨⟨by decide +kernel, by decide +kernel⟩, List.mem_of_getElem? (i := 805) (by decide +kernel), List.mem_of_getElem? (i := 939) (by decide +kernel), List.mem_of_getElem? (i := 940) (by decide +kernel)⟩
theorem lw_p26 : lw_okq (⟨"RavenSupperModel", "token", "()V"⟩, 17) := ⟨⟨by decide +kernel, by decide +kernel⟩, List.mem_of_getElem? (i := 805) (by decide +kernel), List.mem_of_getElem? (i := 943) (by decide +kernel), List.mem_of_getElem? (i := 944) (by decide +kernel)⟩
theorem lw_p27 : lw_okq (⟨"RavenSupperModel", "byteAt", "(I)I"⟩, 17) := ⟨⟨by decide +kernel, by decide +kernel⟩, List.mem_of_getElem? (i := 805) (by decide +kernel), List.mem_of_getElem? (i := 947) (by decide +kernel), List.mem_of_getElem? (i := 948) (by decide +kernel)⟩
theorem lw_p28 : lw_okq (⟨"RavenSupperModel", "item", "()I"⟩, 17) := ⟨⟨by decide +kernel, by decide +kernel⟩, List.mem_of_getElem? (i := 805) (by decide +kernel), List.mem_of_getElem? (i := 954) (by decide +kernel), List.mem_of_getElem? (i := 955) (by decide +kernel)⟩
theorem lw_p29 : lw_okq (⟨"RavenSupperModel", "readsNumbers", "(I)Z"⟩, 17) := ⟨⟨by decide +kernel, by decide +kernel⟩, List.mem_of_getElem? (i := 805) (by decide +kernel), List.mem_of_getElem? (i := 966) (by decide +kernel), List.mem_of_getElem? (i := 967) (by decide +kernel)⟩
theorem lw_p30 : lw_okq (⟨"RavenSupperModel", "does", "(I)Z"⟩, 17) := ⟨⟨by decide +kernel, by decide +kernel⟩, List.mem_of_getElem? (i := 805) (by decide +kernel), List.mem_of_getElem? (i := 970) (by decide +kernel), List.mem_of_getElem? (i := 971) (by decide +kernel)⟩
theorem lw_p31 : lw_okq (⟨"RavenSupperModel", "reached", "(I)I"⟩, 17) := ⟨⟨by decide +kernel, by decide +kernel⟩, List.mem_of_getElem? (i := 805) (by decide +kernel), List.mem_of_getElem? (i := 981) (by decide +kernel), List.mem_of_getElem? (i := 982) (by decide +kernel)⟩
def lw_privs_2 : List (MethodName × Nat) := [(⟨"RavenSupper$Flights", "gainBeside", "(II)I"⟩, 5), (⟨"RavenSupper$Flights", "endPlan", "(LRavenSupper$World;II)Z"⟩, 5), (⟨"RavenSupper$Flights", "goAhead", "(LRavenSupper$World;II)V"⟩, 5), (⟨"RavenSupper$Rounds", "seesAll", "()Z"⟩, 5), (⟨"RavenSupper$Rounds", "seenFrom", "(II)I"⟩, 5), (⟨"RavenSupper$Rounds", "mayGoOn", "(I)Z"⟩, 5), (⟨"RavenSupper$Caws", "mayLie", "(I)Z"⟩, 4), (⟨"RavenSupperModel", "bad", "()I"⟩, 17), (⟨"RavenSupperModel", "full", "()I"⟩, 17), (⟨"RavenSupperModel", "reads", "()I"⟩, 17), (⟨"RavenSupperModel", "token", "()V"⟩, 17), (⟨"RavenSupperModel", "byteAt", "(I)I"⟩, 17), (⟨"RavenSupperModel", "item", "()I"⟩, 17), (⟨"RavenSupperModel", "readsNumbers", "(I)Z"⟩, 17), (⟨"RavenSupperModel", "does", "(I)Z"⟩, 17), (⟨"RavenSupperModel", "reached", "(I)I"⟩, 17)]
theorem lw_r2 : ∀ q ∈ lw_privs_2, lw_okq q := List.forall_mem_cons.mpr ⟨lw_p16, List.forall_mem_cons.mpr ⟨lw_p17, List.forall_mem_cons.mpr ⟨lw_p18, List.forall_mem_cons.mpr ⟨lw_p19, List.forall_mem_cons.mpr ⟨lw_p20, List.forall_mem_cons.mpr ⟨lw_p21, List.forall_mem_cons.mpr ⟨lw_p22, List.forall_mem_cons.mpr ⟨lw_p23, List.forall_mem_cons.mpr ⟨lw_p24, List.forall_mem_cons.mpr ⟨lw_p25, List.forall_mem_cons.mpr ⟨lw_p26, List.forall_mem_cons.mpr ⟨lw_p27, List.forall_mem_cons.mpr ⟨lw_p28, List.forall_mem_cons.mpr ⟨lw_p29, List.forall_mem_cons.mpr ⟨lw_p30, List.forall_mem_cons.mpr ⟨lw_p31, fun _ h => absurd h List.not_mem_nil⟩⟩⟩⟩⟩⟩⟩⟩⟩⟩⟩⟩⟩⟩⟩⟩
theorem lw_p32 : lw_okq (⟨"RavenSupperModel", "findFar", "()V"⟩, 17) := ⟨⟨by decide +kernel, by decide +kernel⟩, List.mem_of_getElem? (i := 805) (by decide +kernel), List.mem_of_getElem? (i := 985) (by decide +kernel), List.mem_of_getElem? (i := 986) (by decide +kernel)⟩
theorem lw_p33 : lw_okq (⟨"RavenSupperModel", "isReached", "(II)Z"⟩, 17) := ⟨⟨by decide +kernel, by decide +kernel⟩, List.mem_of_getElem? (i := 805) (by decide +kernel), List.mem_of_getElem? (i := 989) (by decide +kernel), List.mem_of_getElem? (i := 990) (by decide +kernel)⟩
theorem lw_p34 : lw_okq (⟨"RavenSupperModel", "no", "()I"⟩, 17) := ⟨⟨by decide +kernel, by decide +kernel⟩, List.mem_of_getElem? (i := 805) (by decide +kernel), List.mem_of_getElem? (i := 996) (by decide +kernel), List.mem_of_getElem? (i := 997) (by decide +kernel)⟩
theorem lw_p35 : lw_okq (⟨"RavenSupperModel", "sureOf", "(III)I"⟩, 17) := ⟨⟨by decide +kernel, by decide +kernel⟩, List.mem_of_getElem? (i := 805) (by decide +kernel), List.mem_of_getElem? (i := 1000) (by decide +kernel), List.mem_of_getElem? (i := 1001) (by decide +kernel)⟩
theorem lw_p36 : lw_okq (⟨"RavenSupperModel", "plain", "(II)I"⟩, 17) := ⟨⟨by decide +kernel, by decide +kernel⟩, List.mem_of_getElem? (i := 805) (by decide +kernel), List.mem_of_getElem? (i := 1004) (by decide +kernel), List.mem_of_getElem? (i := 1005) (by decide +kernel)⟩
theorem lw_p37 : lw_okq (⟨"RavenSupperModel", "notes", "()V"⟩, 17) := ⟨⟨by decide +kernel, by decide +kernel⟩, List.mem_of_getElem? (i := 805) (by decide +kernel), List.mem_of_getElem? (i := 1015) (by decide +kernel), List.mem_of_getElem? (i := 1016) (by decide +kernel)⟩
theorem lw_p38 : lw_okq (⟨"RavenSupperModel", "dayOf", "(II)I"⟩, 17) := ⟨⟨by decide +kernel, by decide +kernel⟩, List.mem_of_getElem? (i := 805) (by decide +kernel), List.mem_of_getElem? (i := 1025) (by decide +kernel), List.mem_of_getElem? (i := 1026) (by decide +kernel)⟩
theorem lw_p39 : lw_okq (⟨"RavenSupperModel", "badAs", "(I)I"⟩, 17) := ⟨⟨by decide +kernel, by decide +kernel⟩, List.mem_of_getElem? (i := 805) (by decide +kernel), List.mem_of_getElem? (i := 1061) (by decide +kernel), List.mem_of_getElem? (i := 1062) (by decide +kernel)⟩
theorem lw_p40 : lw_okq (⟨"RavenSupperModel", "worthOf", "(II)I"⟩, 17) := ⟨⟨by decide +kernel, by decide +kernel⟩, List.mem_of_getElem? (i := 805) (by decide +kernel), List.mem_of_getElem? (i := 1066) (by decide +kernel), List.mem_of_getElem? (i := 1067) (by decide +kernel)⟩
theorem lw_p41 : lw_okq (⟨"RavenSupperModel", "areLands", "(I)Z"⟩, 17) := ⟨⟨by decide +kernel, by decide +kernel⟩, List.mem_of_getElem? (i := 805) (by decide +kernel), List.mem_of_getElem? (i := 1074) (by decide +kernel), List.mem_of_getElem? (i := 1075) (by decide +kernel)⟩
theorem lw_p42 : lw_okq (⟨"RavenSupperModel", "finds", "(I)V"⟩, 17) := ⟨⟨by decide +kernel, by decide +kernel⟩, List.mem_of_getElem? (i := 805) (by decide +kernel), List.mem_of_getElem? (i := 1078) (by decide +kernel), List.mem_of_getElem? (i := 1079) (by decide +kernel)⟩
theorem lw_p43 : lw_okq (⟨"RavenSupperModel", "choice", "(III)I"⟩, 17) := ⟨⟨by decide +kernel, by decide +kernel⟩, List.mem_of_getElem? (i := 805) (by decide +kernel), List.mem_of_getElem? (i := 1082) (by decide +kernel), List.mem_of_getElem? (i := 1083) (by decide +kernel)⟩
theorem lw_p44 : lw_okq (⟨"RavenSupperModel", "mayFly", "(III)Z"⟩, 17) := ⟨⟨by decide +kernel, by decide +kernel⟩, List.mem_of_getElem? (i := 805) (by decide +kernel), List.mem_of_getElem? (i := 1099) (by decide +kernel), List.mem_of_getElem? (i := 1100) (by decide +kernel)⟩
theorem lw_p45 : lw_okq (⟨"RavenSupperModel", "flies", "(I)V"⟩, 17) := ⟨⟨by decide +kernel, by decide +kernel⟩, List.mem_of_getElem? (i := 805) (by decide +kernel), List.mem_of_getElem? (i := 1103) (by decide +kernel), List.mem_of_getElem? (i := 1104) (by decide +kernel)⟩
theorem lw_p46 : lw_okq (⟨"RavenSupperModel", "tells", "(II)V"⟩, 17) := ⟨⟨by decide +kernel, by decide +kernel⟩, List.mem_of_getElem? (i := 805) (by decide +kernel), List.mem_of_getElem? (i := 1107) (by decide +kernel), List.mem_of_getElem? (i := 1108) (by decide +kernel)⟩
theorem lw_p47 : lw_okq (⟨"RavenSupperModel", "holds", "(I)Z"⟩, 17) := ⟨⟨by decide +kernel, by decide +kernel⟩, List.mem_of_getElem? (i := 805) (by decide +kernel), List.mem_of_getElem? (i := 1147) (by decide +kernel), List.mem_of_getElem? (i := 1148) (by decide +kernel)⟩
def lw_privs_3 : List (MethodName × Nat) := [(⟨"RavenSupperModel", "findFar", "()V"⟩, 17), (⟨"RavenSupperModel", "isReached", "(II)Z"⟩, 17), (⟨"RavenSupperModel", "no", "()I"⟩, 17), (⟨"RavenSupperModel", "sureOf", "(III)I"⟩, 17), (⟨"RavenSupperModel", "plain", "(II)I"⟩, 17), (⟨"RavenSupperModel", "notes", "()V"⟩, 17), (⟨"RavenSupperModel", "dayOf", "(II)I"⟩, 17), (⟨"RavenSupperModel", "badAs", "(I)I"⟩, 17), (⟨"RavenSupperModel", "worthOf", "(II)I"⟩, 17), (⟨"RavenSupperModel", "areLands", "(I)Z"⟩, 17), (⟨"RavenSupperModel", "finds", "(I)V"⟩, 17), (⟨"RavenSupperModel", "choice", "(III)I"⟩, 17), (⟨"RavenSupperModel", "mayFly", "(III)Z"⟩, 17), (⟨"RavenSupperModel", "flies", "(I)V"⟩, 17), (⟨"RavenSupperModel", "tells", "(II)V"⟩, 17), (⟨"RavenSupperModel", "holds", "(I)Z"⟩, 17)]
theorem lw_r3 : ∀ q ∈ lw_privs_3, lw_okq q := List.forall_mem_cons.mpr ⟨lw_p32, List.forall_mem_cons.mpr ⟨lw_p33, List.forall_mem_cons.mpr ⟨lw_p34, List.forall_mem_cons.mpr ⟨lw_p35, List.forall_mem_cons.mpr ⟨lw_p36, List.forall_mem_cons.mpr ⟨lw_p37, List.forall_mem_cons.mpr ⟨lw_p38, List.forall_mem_cons.mpr ⟨lw_p39, List.forall_mem_cons.mpr ⟨lw_p40, List.forall_mem_cons.mpr ⟨lw_p41, List.forall_mem_cons.mpr ⟨lw_p42, List.forall_mem_cons.mpr ⟨lw_p43, List.forall_mem_cons.mpr ⟨lw_p44, List.forall_mem_cons.mpr ⟨lw_p45, List.forall_mem_cons.mpr ⟨lw_p46, List.forall_mem_cons.mpr ⟨lw_p47, fun _ h => absurd h List.not_mem_nil⟩⟩⟩⟩⟩⟩⟩⟩⟩⟩⟩⟩⟩⟩⟩⟩
theorem lw_p48 : lw_okq (⟨"RavenSupperModel", "counted", "(I)I"⟩, 17) := ⟨⟨by decide +kernel, by decide +kernel⟩, List.mem_of_getElem? (i := 805) (by decide +kernel), List.mem_of_getElem? (i := 1181) (by decide +kernel), List.mem_of_getElem? (i := 1182) (by decide +kernel)⟩
theorem lw_p49 : lw_okq (⟨"RavenSupperModel", "ways", "()I"⟩, 17) := ⟨⟨by decide +kernel, by decide +kernel⟩, List.mem_of_getElem? (i := 805) (by decide +kernel), List.mem_of_getElem? (i := 1185) (by decide +kernel), List.mem_of_getElem? (i := 1186) (by decide +kernel)⟩
def lw_privs_4 : List (MethodName × Nat) := [(⟨"RavenSupperModel", "counted", "(I)I"⟩, 17), (⟨"RavenSupperModel", "ways", "()I"⟩, 17)]
theorem lw_r4 : ∀ q ∈ lw_privs_4, lw_okq q := List.forall_mem_cons.mpr ⟨lw_p48, List.forall_mem_cons.mpr ⟨lw_p49, fun _ h => absurd h List.not_mem_nil⟩⟩
def lw_privs : List (MethodName × Nat) := lw_privs_1 ++ (lw_privs_2 ++ (lw_privs_3 ++ (lw_privs_4)))
def lw_tbl : List Cond := k2_sels lw_privs ++ tables_1
theorem lw_privs_ok : ∀ q ∈ lw_privs, lw_okq q := by
  show ∀ q ∈ lw_privs_1 ++ (lw_privs_2 ++ (lw_privs_3 ++ (lw_privs_4))), lw_okq q
  exact List.forall_mem_append.mpr ⟨lw_r1, List.forall_mem_append.mpr ⟨lw_r2, List.forall_mem_append.mpr ⟨lw_r3, lw_r4⟩⟩⟩
def RX0 : String := "RavenSupper$Caws"
def TX0 : u_T := fun k => match k with
  | 0 => ("RavenSupper$Caws", "number", "I", false)
  | 1 => ("RavenSupper$Caws", "crow", "[I", true)
  | 2 => ("RavenSupper$Caws", "land", "[I", true)
  | _ => ("RavenSupper$Caws", "war", "[Z", true)
def tyX0 : Nat → FieldType := fun k => match k with
  | 0 => .int
  | 1 => .array .int
  | 2 => .array .int
  | _ => .array .boolean
abbrev wsX00 : List Cond := u_ws RX0 TX0 4
theorem nmX0 : ∀ a, a < 4 → ∀ b, b < 4 → a ≠ b → (TX0 a).2.1 ≠ (TX0 b).2.1 := by decide +kernel
theorem tyX0_ok : ∀ k, k < 4 → parseFieldDescriptor (TX0 k).2.2.1 = some (tyX0 k) := by decide +kernel
abbrev cX0_init : ByteArray := prog_2_method_1_code
def yX0_init : MethodName := ⟨RX0, "<init>", "()V"⟩
abbrev cX0_add : ByteArray := prog_2_method_2_code
def yX0_add : MethodName := ⟨RX0, "add", "(IIZ)V"⟩
abbrev cX0_liarSets : ByteArray := prog_2_method_3_code
def yX0_liarSets : MethodName := ⟨RX0, "liarSets", "()I"⟩
abbrev cX0_sureLiars : ByteArray := prog_2_method_4_code
def yX0_sureLiars : MethodName := ⟨RX0, "sureLiars", "()I"⟩
abbrev cX0_mayLie : ByteArray := prog_2_method_5_code
def yX0_mayLie : MethodName := ⟨RX0, "mayLie", "(I)Z"⟩
abbrev cX0_copyFrom : ByteArray := prog_2_method_6_code
def yX0_copyFrom : MethodName := ⟨RX0, "copyFrom", "(LRavenSupper$Caws;)V"⟩
def RX1 : String := "RavenSupper$Evening"
def TX1 : u_T := fun k => match k with
  | 0 => ("RavenSupper$Evening", "day", "I", false)
  | 1 => ("RavenSupper$Evening", "belief", "[I", true)
  | 2 => ("RavenSupper$Evening", "land", "[I", true)
  | 3 => ("RavenSupper$Evening", "kind", "[I", true)
  | _ => ("RavenSupper$Evening", "war", "[Z", true)
def tyX1 : Nat → FieldType := fun k => match k with
  | 0 => .int
  | 1 => .array .int
  | 2 => .array .int
  | 3 => .array .int
  | _ => .array .boolean
abbrev wsX10 : List Cond := u_ws RX1 TX1 5
theorem nmX1 : ∀ a, a < 5 → ∀ b, b < 5 → a ≠ b → (TX1 a).2.1 ≠ (TX1 b).2.1 := by decide +kernel
theorem tyX1_ok : ∀ k, k < 5 → parseFieldDescriptor (TX1 k).2.2.1 = some (tyX1 k) := by decide +kernel
abbrev cX1_init : ByteArray := prog_3_method_1_code
def yX1_init : MethodName := ⟨RX1, "<init>", "()V"⟩
abbrev cX1_begin : ByteArray := prog_3_method_2_code
def yX1_begin : MethodName := ⟨RX1, "begin", "()V"⟩
abbrev cX1_hear : ByteArray := prog_3_method_3_code
def yX1_hear : MethodName := ⟨RX1, "hear", "(IIIZ)V"⟩
abbrev cX1_hearNothing : ByteArray := prog_3_method_4_code
def yX1_hearNothing : MethodName := ⟨RX1, "hearNothing", "()V"⟩
abbrev cX1_copyFrom : ByteArray := prog_3_method_5_code
def yX1_copyFrom : MethodName := ⟨RX1, "copyFrom", "(LRavenSupper$Evening;)V"⟩
def RX2 : String := "RavenSupper$Flights"
def TX2 : u_T := fun k => match k with
  | 0 => ("RavenSupper$Flights", "open", "[I", true)
  | 1 => ("RavenSupper$Flights", "gain", "[[I", true)
  | 2 => ("RavenSupper$Flights", "ahead", "[I", true)
  | 3 => ("RavenSupper$Flights", "planPairs", "[I", true)
  | _ => ("RavenSupper$Flights", "planDoubt", "I", false)
def tyX2 : Nat → FieldType := fun k => match k with
  | 0 => .array .int
  | 1 => .array (.array .int)
  | 2 => .array .int
  | 3 => .array .int
  | _ => .int
abbrev wsX20 : List Cond := u_ws RX2 TX2 5
theorem nmX2 : ∀ a, a < 5 → ∀ b, b < 5 → a ≠ b → (TX2 a).2.1 ≠ (TX2 b).2.1 := by decide +kernel
theorem tyX2_ok : ∀ k, k < 5 → parseFieldDescriptor (TX2 k).2.2.1 = some (tyX2 k) := by decide +kernel
abbrev cX2_init : ByteArray := prog_4_method_1_code
def yX2_init : MethodName := ⟨RX2, "<init>", "()V"⟩
abbrev cX2_pairOfMostWorth : ByteArray := prog_4_method_2_code
def yX2_pairOfMostWorth : MethodName := ⟨RX2, "pairOfMostWorth", "(LRavenSupper$World;I)I"⟩
abbrev cX2_pairGain : ByteArray := prog_4_method_3_code
def yX2_pairGain : MethodName := ⟨RX2, "pairGain", "(I)I"⟩
abbrev cX2_thirdGain : ByteArray := prog_4_method_4_code
def yX2_thirdGain : MethodName := ⟨RX2, "thirdGain", "(I)I"⟩
abbrev cX2_gainBeside : ByteArray := prog_4_method_5_code
def yX2_gainBeside : MethodName := ⟨RX2, "gainBeside", "(II)I"⟩
abbrev cX2_openPlaces : ByteArray := prog_4_method_6_code
def yX2_openPlaces : MethodName := ⟨RX2, "openPlaces", "(LRavenSupper$World;I)V"⟩
abbrev cX2_bestPair : ByteArray := prog_4_method_7_code
def yX2_bestPair : MethodName := ⟨RX2, "bestPair", "()I"⟩
abbrev cX2_isOpen : ByteArray := prog_4_method_8_code
def yX2_isOpen : MethodName := ⟨RX2, "isOpen", "(II)Z"⟩
abbrev cX2_isPlace : ByteArray := prog_4_method_9_code
def yX2_isPlace : MethodName := ⟨RX2, "isPlace", "(I)Z"⟩
abbrev cX2_areApart : ByteArray := prog_4_method_10_code
def yX2_areApart : MethodName := ⟨RX2, "areApart", "(II)Z"⟩
abbrev cX2_lookAhead : ByteArray := prog_4_method_11_code
def yX2_lookAhead : MethodName := ⟨RX2, "lookAhead", "(LRavenSupper$World;II)V"⟩
abbrev cX2_goAhead : ByteArray := prog_4_method_12_code
def yX2_goAhead : MethodName := ⟨RX2, "goAhead", "(LRavenSupper$World;II)V"⟩
abbrev cX2_endPlan : ByteArray := prog_4_method_13_code
def yX2_endPlan : MethodName := ⟨RX2, "endPlan", "(LRavenSupper$World;II)Z"⟩
abbrev cX2_behindVisit : ByteArray := prog_4_method_14_code
def yX2_behindVisit : MethodName := ⟨RX2, "behindVisit", "(LRavenSupper$World;III)I"⟩
def RX3 : String := "RavenSupper$Odds"
def TX3 : u_T := fun k => match k with
  | _ => ("", "", "", false)
def tyX3 : Nat → FieldType := fun k => match k with
  | _ => .int
abbrev wsX30 : List Cond := u_ws RX3 TX3 0
theorem nmX3 : ∀ a, a < 0 → ∀ b, b < 0 → a ≠ b → (TX3 a).2.1 ≠ (TX3 b).2.1 := by decide +kernel
theorem tyX3_ok : ∀ k, k < 0 → parseFieldDescriptor (TX3 k).2.2.1 = some (tyX3 k) := by decide +kernel
abbrev cX3_dayLater : ByteArray := prog_5_method_2_code
def yX3_dayLater : MethodName := ⟨RX3, "dayLater", "(III)I"⟩
abbrev cX3_doubt : ByteArray := prog_5_method_3_code
def yX3_doubt : MethodName := ⟨RX3, "doubt", "(I)I"⟩
abbrev cX3_toldWar : ByteArray := prog_5_method_4_code
def yX3_toldWar : MethodName := ⟨RX3, "toldWar", "(II)I"⟩
abbrev cX3_behindTiding : ByteArray := prog_5_method_5_code
def yX3_behindTiding : MethodName := ⟨RX3, "behindTiding", "(IIZ)I"⟩
abbrev cX3_likelierWar : ByteArray := prog_5_method_6_code
def yX3_likelierWar : MethodName := ⟨RX3, "likelierWar", "(I)Z"⟩
abbrev cX3_flightWorth : ByteArray := prog_5_method_7_code
def yX3_flightWorth : MethodName := ⟨RX3, "flightWorth", "(II)I"⟩
abbrev cX3_sureness : ByteArray := prog_5_method_8_code
def yX3_sureness : MethodName := ⟨RX3, "sureness", "(II)I"⟩
abbrev cX3_less : ByteArray := prog_5_method_9_code
def yX3_less : MethodName := ⟨RX3, "less", "(II)I"⟩
abbrev cX3_lateness : ByteArray := prog_5_method_10_code
def yX3_lateness : MethodName := ⟨RX3, "lateness", "(I)I"⟩
abbrev cX3_makesWar : ByteArray := prog_5_method_11_code
def yX3_makesWar : MethodName := ⟨RX3, "makesWar", "(III)Z"⟩
def RX4 : String := "RavenSupper$Rounds"
def TX4 : u_T := fun k => match k with
  | 0 => ("RavenSupper$Rounds", "row", "[I", true)
  | 1 => ("RavenSupper$Rounds", "days", "I", false)
  | 2 => ("RavenSupper$Rounds", "reached", "I", false)
  | 3 => ("RavenSupper$Rounds", "told", "I", false)
  | _ => ("RavenSupper$Rounds", "window", "I", false)
def tyX4 : Nat → FieldType := fun k => match k with
  | 0 => .array .int
  | 1 => .int
  | 2 => .int
  | 3 => .int
  | _ => .int
abbrev wsX40 : List Cond := u_ws RX4 TX4 5
theorem nmX4 : ∀ a, a < 5 → ∀ b, b < 5 → a ≠ b → (TX4 a).2.1 ≠ (TX4 b).2.1 := by decide +kernel
theorem tyX4_ok : ∀ k, k < 5 → parseFieldDescriptor (TX4 k).2.2.1 = some (tyX4 k) := by decide +kernel
abbrev cX4_init : ByteArray := prog_6_method_1_code
def yX4_init : MethodName := ⟨RX4, "<init>", "()V"⟩
abbrev cX4_find : ByteArray := prog_6_method_2_code
def yX4_find : MethodName := ⟨RX4, "find", "(LRavenSupper$World;III)Z"⟩
abbrev cX4_fill : ByteArray := prog_6_method_3_code
def yX4_fill : MethodName := ⟨RX4, "fill", "(LRavenSupper$Rounds;I)Z"⟩
abbrev cX4_mayGoOn : ByteArray := prog_6_method_4_code
def yX4_mayGoOn : MethodName := ⟨RX4, "mayGoOn", "(I)Z"⟩
abbrev cX4_seesAll : ByteArray := prog_6_method_5_code
def yX4_seesAll : MethodName := ⟨RX4, "seesAll", "()Z"⟩
abbrev cX4_seenFrom : ByteArray := prog_6_method_6_code
def yX4_seenFrom : MethodName := ⟨RX4, "seenFrom", "(II)I"⟩
def RX5 : String := "RavenSupper$Text"
def TX5 : u_T := fun k => match k with
  | 0 => ("RavenSupper$Text", "bytes", "[C", true)
  | 1 => ("RavenSupper$Text", "length", "I", false)
  | 2 => ("RavenSupper$Text", "start", "I", false)
  | 3 => ("RavenSupper$Text", "behind", "I", false)
  | _ => ("RavenSupper$Text", "numbers", "[I", true)
def tyX5 : Nat → FieldType := fun k => match k with
  | 0 => .array .char
  | 1 => .int
  | 2 => .int
  | 3 => .int
  | _ => .array .int
abbrev wsX50 : List Cond := u_ws RX5 TX5 5
theorem nmX5 : ∀ a, a < 5 → ∀ b, b < 5 → a ≠ b → (TX5 a).2.1 ≠ (TX5 b).2.1 := by decide +kernel
theorem tyX5_ok : ∀ k, k < 5 → parseFieldDescriptor (TX5 k).2.2.1 = some (tyX5 k) := by decide +kernel
abbrev cX5_init : ByteArray := prog_7_method_1_code
def yX5_init : MethodName := ⟨RX5, "<init>", "()V"⟩
abbrev cX5_add : ByteArray := prog_7_method_2_code
def yX5_add : MethodName := ⟨RX5, "add", "(I)I"⟩
abbrev cX5_drop : ByteArray := prog_7_method_3_code
def yX5_drop : MethodName := ⟨RX5, "drop", "()I"⟩
abbrev cX5_tellTo : ByteArray := prog_7_method_4_code
def yX5_tellTo : MethodName := ⟨RX5, "tellTo", "(LRavenSupper$World;)I"⟩
abbrev cX5_readNumbers : ByteArray := prog_7_method_5_code
def yX5_readNumbers : MethodName := ⟨RX5, "readNumbers", "(I)Z"⟩
abbrev cX5_numbersOf : ByteArray := prog_7_method_6_code
def yX5_numbersOf : MethodName := ⟨RX5, "numbersOf", "(I)I"⟩
abbrev cX5_tellItem : ByteArray := prog_7_method_7_code
def yX5_tellItem : MethodName := ⟨RX5, "tellItem", "(LRavenSupper$World;I)I"⟩
abbrev cX5_nextToken : ByteArray := prog_7_method_8_code
def yX5_nextToken : MethodName := ⟨RX5, "nextToken", "()I"⟩
abbrev cX5_isLetter : ByteArray := prog_7_method_9_code
def yX5_isLetter : MethodName := ⟨RX5, "isLetter", "(C)Z"⟩
abbrev cX5_isFigure : ByteArray := prog_7_method_10_code
def yX5_isFigure : MethodName := ⟨RX5, "isFigure", "(C)Z"⟩
abbrev cX5_numberRead : ByteArray := prog_7_method_11_code
def yX5_numberRead : MethodName := ⟨RX5, "numberRead", "()I"⟩
abbrev cX5_wordNumber : ByteArray := prog_7_method_12_code
def yX5_wordNumber : MethodName := ⟨RX5, "wordNumber", "()I"⟩
abbrev cX5_wordIs : ByteArray := prog_7_method_13_code
def yX5_wordIs : MethodName := ⟨RX5, "wordIs", "(Ljava/lang/String;)Z"⟩
def RX6 : String := "RavenSupper$World"
def TX6 : u_T := fun k => match k with
  | 0 => ("RavenSupper$World", "lands", "I", false)
  | 1 => ("RavenSupper$World", "up", "[I", true)
  | 2 => ("RavenSupper$World", "down", "[I", true)
  | 3 => ("RavenSupper$World", "ways", "[[I", true)
  | 4 => ("RavenSupper$World", "far", "[I", true)
  | 5 => ("RavenSupper$World", "reaches", "[I", true)
  | 6 => ("RavenSupper$World", "forgets", "[I", true)
  | 7 => ("RavenSupper$World", "caws", "LRavenSupper$Caws;", true)
  | 8 => ("RavenSupper$World", "tonight", "LRavenSupper$Evening;", true)
  | 9 => ("RavenSupper$World", "past", "[LRavenSupper$Evening;", true)
  | _ => ("RavenSupper$World", "pasts", "I", false)
def tyX6 : Nat → FieldType := fun k => match k with
  | 0 => .int
  | 1 => .array .int
  | 2 => .array .int
  | 3 => .array (.array .int)
  | 4 => .array .int
  | 5 => .array .int
  | 6 => .array .int
  | 7 => .object "RavenSupper$Caws"
  | 8 => .object "RavenSupper$Evening"
  | 9 => .array (.object "RavenSupper$Evening")
  | _ => .int
abbrev wsX60 : List Cond := u_ws RX6 TX6 11
theorem nmX6 : ∀ a, a < 11 → ∀ b, b < 11 → a ≠ b → (TX6 a).2.1 ≠ (TX6 b).2.1 := by decide +kernel
theorem tyX6_ok : ∀ k, k < 11 → parseFieldDescriptor (TX6 k).2.2.1 = some (tyX6 k) := by decide +kernel
abbrev cX6_init : ByteArray := prog_8_method_1_code
def yX6_init : MethodName := ⟨RX6, "<init>", "()V"⟩
abbrev cX6_begin : ByteArray := prog_8_method_2_code
def yX6_begin : MethodName := ⟨RX6, "begin", "(I)V"⟩
abbrev cX6_setLands : ByteArray := prog_8_method_3_code
def yX6_setLands : MethodName := ⟨RX6, "setLands", "(I)I"⟩
abbrev cX6_setBelief : ByteArray := prog_8_method_4_code
def yX6_setBelief : MethodName := ⟨RX6, "setBelief", "(II)I"⟩
abbrev cX6_setChange : ByteArray := prog_8_method_5_code
def yX6_setChange : MethodName := ⟨RX6, "setChange", "(III)I"⟩
abbrev cX6_setWay : ByteArray := prog_8_method_6_code
def yX6_setWay : MethodName := ⟨RX6, "setWay", "(III)I"⟩
abbrev cX6_setBird : ByteArray := prog_8_method_7_code
def yX6_setBird : MethodName := ⟨RX6, "setBird", "(III)I"⟩
abbrev cX6_hearCaw : ByteArray := prog_8_method_8_code
def yX6_hearCaw : MethodName := ⟨RX6, "hearCaw", "(IIZ)I"⟩
abbrev cX6_dropCaws : ByteArray := prog_8_method_9_code
def yX6_dropCaws : MethodName := ⟨RX6, "dropCaws", "()I"⟩
abbrev cX6_copyFrom : ByteArray := prog_8_method_10_code
def yX6_copyFrom : MethodName := ⟨RX6, "copyFrom", "(LRavenSupper$World;)V"⟩
abbrev cX6_isLand : ByteArray := prog_8_method_11_code
def yX6_isLand : MethodName := ⟨RX6, "isLand", "(I)Z"⟩
abbrev cX6_areLands : ByteArray := prog_8_method_12_code
def yX6_areLands : MethodName := ⟨RX6, "areLands", "(I)Z"⟩
abbrev cX6_isPair : ByteArray := prog_8_method_13_code
def yX6_isPair : MethodName := ⟨RX6, "isPair", "(II)Z"⟩
abbrev cX6_wayCount : ByteArray := prog_8_method_14_code
def yX6_wayCount : MethodName := ⟨RX6, "wayCount", "()I"⟩
abbrev cX6_measureFar : ByteArray := prog_8_method_15_code
def yX6_measureFar : MethodName := ⟨RX6, "measureFar", "()V"⟩
abbrev cX6_measureFrom : ByteArray := prog_8_method_16_code
def yX6_measureFrom : MethodName := ⟨RX6, "measureFrom", "(I)V"⟩
abbrev cX6_isReached : ByteArray := prog_8_method_17_code
def yX6_isReached : MethodName := ⟨RX6, "isReached", "(II)Z"⟩
abbrev cX6_reachedLands : ByteArray := prog_8_method_18_code
def yX6_reachedLands : MethodName := ⟨RX6, "reachedLands", "(I)I"⟩
abbrev cX6_plainSureness : ByteArray := prog_8_method_19_code
def yX6_plainSureness : MethodName := ⟨RX6, "plainSureness", "(II)I"⟩
abbrev cX6_sureness : ByteArray := prog_8_method_20_code
def yX6_sureness : MethodName := ⟨RX6, "sureness", "(III)I"⟩
abbrev cX6_flightWorth : ByteArray := prog_8_method_21_code
def yX6_flightWorth : MethodName := ⟨RX6, "flightWorth", "(II)I"⟩
abbrev cX6_daysLater : ByteArray := prog_8_method_22_code
def yX6_daysLater : MethodName := ⟨RX6, "daysLater", "(III)I"⟩
abbrev cX6_doubtTomorrow : ByteArray := prog_8_method_23_code
def yX6_doubtTomorrow : MethodName := ⟨RX6, "doubtTomorrow", "(II)I"⟩
abbrev cX6_passEvening : ByteArray := prog_8_method_24_code
def yX6_passEvening : MethodName := ⟨RX6, "passEvening", "()I"⟩
abbrev cX6_believe : ByteArray := prog_8_method_25_code
def yX6_believe : MethodName := ⟨RX6, "believe", "(III)V"⟩
abbrev cX6_keepTonight : ByteArray := prog_8_method_26_code
def yX6_keepTonight : MethodName := ⟨RX6, "keepTonight", "()V"⟩
abbrev cX6_takeBackEvening : ByteArray := prog_8_method_27_code
def yX6_takeBackEvening : MethodName := ⟨RX6, "takeBackEvening", "()I"⟩
abbrev cX6_warMornings : ByteArray := prog_8_method_28_code
def yX6_warMornings : MethodName := ⟨RX6, "warMornings", "(II)I"⟩
abbrev cX6_digestFrom : ByteArray := prog_8_method_29_code
def yX6_digestFrom : MethodName := ⟨RX6, "digestFrom", "(J)J"⟩
def RX7 : String := "RavenSupper"
def TX7 : u_T := fun k => match k with
  | 0 => ("RavenSupper", "now", "LRavenSupper$World;", true)
  | 1 => ("RavenSupper", "spare", "LRavenSupper$World;", true)
  | 2 => ("RavenSupper", "images", "[LRavenSupper$World;", true)
  | 3 => ("RavenSupper", "kept", "[Z", true)
  | 4 => ("RavenSupper", "text", "LRavenSupper$Text;", true)
  | 5 => ("RavenSupper", "flights", "LRavenSupper$Flights;", true)
  | 6 => ("RavenSupper", "rounds", "LRavenSupper$Rounds;", true)
  | _ => ("RavenSupper", "refused", "[I", true)
def tyX7 : Nat → FieldType := fun k => match k with
  | 0 => .object "RavenSupper$World"
  | 1 => .object "RavenSupper$World"
  | 2 => .array (.object "RavenSupper$World")
  | 3 => .array .boolean
  | 4 => .object "RavenSupper$Text"
  | 5 => .object "RavenSupper$Flights"
  | 6 => .object "RavenSupper$Rounds"
  | _ => .array .int
abbrev wsX70 : List Cond := u_ws RX7 TX7 8
theorem nmX7 : ∀ a, a < 8 → ∀ b, b < 8 → a ≠ b → (TX7 a).2.1 ≠ (TX7 b).2.1 := by decide +kernel
theorem tyX7_ok : ∀ k, k < 8 → parseFieldDescriptor (TX7 k).2.2.1 = some (tyX7 k) := by decide +kernel
abbrev cX7_init : ByteArray := prog_1_method_1_code
def yX7_init : MethodName := ⟨RX7, "<init>", "()V"⟩
abbrev cX7_world : ByteArray := prog_1_method_2_code
def yX7_world : MethodName := ⟨RX7, "world", "(I)I"⟩
abbrev cX7_belief : ByteArray := prog_1_method_3_code
def yX7_belief : MethodName := ⟨RX7, "belief", "(II)I"⟩
abbrev cX7_change : ByteArray := prog_1_method_4_code
def yX7_change : MethodName := ⟨RX7, "change", "(III)I"⟩
abbrev cX7_way : ByteArray := prog_1_method_5_code
def yX7_way : MethodName := ⟨RX7, "way", "(III)I"⟩
abbrev cX7_bird : ByteArray := prog_1_method_6_code
def yX7_bird : MethodName := ⟨RX7, "bird", "(III)I"⟩
abbrev cX7_type : ByteArray := prog_1_method_7_code
def yX7_type : MethodName := ⟨RX7, "type", "(I)I"⟩
abbrev cX7_clear : ByteArray := prog_1_method_8_code
def yX7_clear : MethodName := ⟨RX7, "clear", "()I"⟩
abbrev cX7_read : ByteArray := prog_1_method_9_code
def yX7_read : MethodName := ⟨RX7, "read", "()I"⟩
abbrev cX7_tell : ByteArray := prog_1_method_10_code
def yX7_tell : MethodName := ⟨RX7, "tell", "(IIIZ)I"⟩
abbrev cX7_evening : ByteArray := prog_1_method_11_code
def yX7_evening : MethodName := ⟨RX7, "evening", "()I"⟩
abbrev cX7_undo : ByteArray := prog_1_method_12_code
def yX7_undo : MethodName := ⟨RX7, "undo", "()I"⟩
abbrev cX7_of : ByteArray := prog_1_method_13_code
def yX7_of : MethodName := ⟨RX7, "of", "(II)I"⟩
abbrev cX7_about : ByteArray := prog_1_method_14_code
def yX7_about : MethodName := ⟨RX7, "about", "(II)I"⟩
abbrev cX7_hours : ByteArray := prog_1_method_15_code
def yX7_hours : MethodName := ⟨RX7, "hours", "(II)I"⟩
abbrev cX7_sure : ByteArray := prog_1_method_16_code
def yX7_sure : MethodName := ⟨RX7, "sure", "(IIII)I"⟩
abbrev cX7_ahead : ByteArray := prog_1_method_17_code
def yX7_ahead : MethodName := ⟨RX7, "ahead", "(II)I"⟩
abbrev cX7_worth : ByteArray := prog_1_method_18_code
def yX7_worth : MethodName := ⟨RX7, "worth", "(II)I"⟩
abbrev cX7_send : ByteArray := prog_1_method_19_code
def yX7_send : MethodName := ⟨RX7, "send", "(II)I"⟩
abbrev cX7_third : ByteArray := prog_1_method_20_code
def yX7_third : MethodName := ⟨RX7, "third", "(I)I"⟩
abbrev cX7_plan : ByteArray := prog_1_method_21_code
def yX7_plan : MethodName := ⟨RX7, "plan", "(III)I"⟩
abbrev cX7_noon : ByteArray := prog_1_method_22_code
def yX7_noon : MethodName := ⟨RX7, "noon", "(II)I"⟩
abbrev cX7_mixed : ByteArray := prog_1_method_23_code
def yX7_mixed : MethodName := ⟨RX7, "mixed", "(IIII)I"⟩
abbrev cX7_round : ByteArray := prog_1_method_24_code
def yX7_round : MethodName := ⟨RX7, "round", "(IIII)I"⟩
abbrev cX7_crow : ByteArray := prog_1_method_25_code
def yX7_crow : MethodName := ⟨RX7, "crow", "(IIZ)I"⟩
abbrev cX7_hush : ByteArray := prog_1_method_26_code
def yX7_hush : MethodName := ⟨RX7, "hush", "()I"⟩
abbrev cX7_liars : ByteArray := prog_1_method_27_code
def yX7_liars : MethodName := ⟨RX7, "liars", "(I)I"⟩
abbrev cX7_leftOut : ByteArray := prog_1_method_28_code
def yX7_leftOut : MethodName := ⟨RX7, "leftOut", "(IIII)I"⟩
abbrev cX7_mornings : ByteArray := prog_1_method_29_code
def yX7_mornings : MethodName := ⟨RX7, "mornings", "(II)I"⟩
abbrev cX7_image : ByteArray := prog_1_method_30_code
def yX7_image : MethodName := ⟨RX7, "image", "(I)I"⟩
abbrev cX7_from : ByteArray := prog_1_method_31_code
def yX7_from : MethodName := ⟨RX7, "from", "(I)I"⟩
abbrev cX7_status : ByteArray := prog_1_method_32_code
def yX7_status : MethodName := ⟨RX7, "status", "(I)I"⟩
abbrev cX7_count : ByteArray := prog_1_method_33_code
def yX7_count : MethodName := ⟨RX7, "count", "(I)I"⟩
abbrev cX7_digest : ByteArray := prog_1_method_34_code
def yX7_digest : MethodName := ⟨RX7, "digest", "()J"⟩
abbrev cX7_counted : ByteArray := prog_1_method_35_code
def yX7_counted : MethodName := ⟨RX7, "counted", "(I)I"⟩
abbrev cX7_refusedWith : ByteArray := prog_1_method_36_code
def yX7_refusedWith : MethodName := ⟨RX7, "refusedWith", "(II)I"⟩
abbrev cX7_within : ByteArray := prog_1_method_37_code
def yX7_within : MethodName := ⟨RX7, "within", "(III)Z"⟩
abbrev cX7_isBird : ByteArray := prog_1_method_38_code
def yX7_isBird : MethodName := ⟨RX7, "isBird", "(I)Z"⟩
abbrev cX7_isStake : ByteArray := prog_1_method_39_code
def yX7_isStake : MethodName := ⟨RX7, "isStake", "(I)Z"⟩
abbrev cX7_hasBit : ByteArray := prog_1_method_40_code
def yX7_hasBit : MethodName := ⟨RX7, "hasBit", "(II)Z"⟩
abbrev cX7_oneIf : ByteArray := prog_1_method_41_code
def yX7_oneIf : MethodName := ⟨RX7, "oneIf", "(Z)I"⟩
def RX8 : String := "RavenSupperModel"
def TX8 : u_T := fun k => match k with
  | 0 => ("RavenSupperModel", "now", "[I", true)
  | 1 => ("RavenSupperModel", "draft", "[I", true)
  | 2 => ("RavenSupperModel", "images", "[I", true)
  | 3 => ("RavenSupperModel", "kept", "[Z", true)
  | 4 => ("RavenSupperModel", "refused", "[I", true)
  | 5 => ("RavenSupperModel", "text", "[I", true)
  | 6 => ("RavenSupperModel", "typed", "I", false)
  | 7 => ("RavenSupperModel", "tried", "[I", true)
  | 8 => ("RavenSupperModel", "far", "[I", true)
  | 9 => ("RavenSupperModel", "at", "I", false)
  | 10 => ("RavenSupperModel", "start", "I", false)
  | 11 => ("RavenSupperModel", "size", "I", false)
  | 12 => ("RavenSupperModel", "sort", "I", false)
  | 13 => ("RavenSupperModel", "told", "[I", true)
  | 14 => ("RavenSupperModel", "refusedItem", "I", false)
  | 15 => ("RavenSupperModel", "bestTwo", "I", false)
  | _ => ("RavenSupperModel", "mostTwo", "I", false)
def tyX8 : Nat → FieldType := fun k => match k with
  | 0 => .array .int
  | 1 => .array .int
  | 2 => .array .int
  | 3 => .array .boolean
  | 4 => .array .int
  | 5 => .array .int
  | 6 => .int
  | 7 => .array .int
  | 8 => .array .int
  | 9 => .int
  | 10 => .int
  | 11 => .int
  | 12 => .int
  | 13 => .array .int
  | 14 => .int
  | 15 => .int
  | _ => .int
abbrev wsX80 : List Cond := u_ws RX8 TX8 17
theorem nmX8 : ∀ a, a < 17 → ∀ b, b < 17 → a ≠ b → (TX8 a).2.1 ≠ (TX8 b).2.1 := by decide +kernel
theorem tyX8_ok : ∀ k, k < 17 → parseFieldDescriptor (TX8 k).2.2.1 = some (tyX8 k) := by decide +kernel
abbrev cX8_init : ByteArray := prog_10_method_1_code
def yX8_init : MethodName := ⟨RX8, "<init>", "()V"⟩
abbrev cX8_in : ByteArray := prog_10_method_3_code
def yX8_in : MethodName := ⟨RX8, "in", "(III)Z"⟩
abbrev cX8_has : ByteArray := prog_10_method_4_code
def yX8_has : MethodName := ⟨RX8, "has", "(II)Z"⟩
abbrev cX8_most : ByteArray := prog_10_method_5_code
def yX8_most : MethodName := ⟨RX8, "most", "(II)I"⟩
abbrev cX8_bad : ByteArray := prog_10_method_6_code
def yX8_bad : MethodName := ⟨RX8, "bad", "()I"⟩
abbrev cX8_badAs : ByteArray := prog_10_method_7_code
def yX8_badAs : MethodName := ⟨RX8, "badAs", "(I)I"⟩
abbrev cX8_no : ByteArray := prog_10_method_8_code
def yX8_no : MethodName := ⟨RX8, "no", "()I"⟩
abbrev cX8_full : ByteArray := prog_10_method_9_code
def yX8_full : MethodName := ⟨RX8, "full", "()I"⟩
abbrev cX8_copies : ByteArray := prog_10_method_10_code
def yX8_copies : MethodName := ⟨RX8, "copies", "([II[II)V"⟩
abbrev cX8_anew : ByteArray := prog_10_method_11_code
def yX8_anew : MethodName := ⟨RX8, "anew", "([II)V"⟩
abbrev cX8_isLand : ByteArray := prog_10_method_12_code
def yX8_isLand : MethodName := ⟨RX8, "isLand", "([II)Z"⟩
abbrev cX8_isPart : ByteArray := prog_10_method_13_code
def yX8_isPart : MethodName := ⟨RX8, "isPart", "(I)Z"⟩
abbrev cX8_isBird : ByteArray := prog_10_method_14_code
def yX8_isBird : MethodName := ⟨RX8, "isBird", "(I)Z"⟩
abbrev cX8_areTwo : ByteArray := prog_10_method_15_code
def yX8_areTwo : MethodName := ⟨RX8, "areTwo", "([III)Z"⟩
abbrev cX8_mayBird : ByteArray := prog_10_method_16_code
def yX8_mayBird : MethodName := ⟨RX8, "mayBird", "(III)Z"⟩
abbrev cX8_setBelief : ByteArray := prog_10_method_17_code
def yX8_setBelief : MethodName := ⟨RX8, "setBelief", "([III)V"⟩
abbrev cX8_setChange : ByteArray := prog_10_method_18_code
def yX8_setChange : MethodName := ⟨RX8, "setChange", "([IIII)V"⟩
abbrev cX8_silent : ByteArray := prog_10_method_19_code
def yX8_silent : MethodName := ⟨RX8, "silent", "([I)V"⟩
abbrev cX8_setWay : ByteArray := prog_10_method_20_code
def yX8_setWay : MethodName := ⟨RX8, "setWay", "([IIII)V"⟩
abbrev cX8_setBird : ByteArray := prog_10_method_21_code
def yX8_setBird : MethodName := ⟨RX8, "setBird", "([IIII)V"⟩
abbrev cX8_world : ByteArray := prog_10_method_22_code
def yX8_world : MethodName := ⟨RX8, "world", "(I)I"⟩
abbrev cX8_belief : ByteArray := prog_10_method_23_code
def yX8_belief : MethodName := ⟨RX8, "belief", "(II)I"⟩
abbrev cX8_change : ByteArray := prog_10_method_24_code
def yX8_change : MethodName := ⟨RX8, "change", "(III)I"⟩
abbrev cX8_way : ByteArray := prog_10_method_25_code
def yX8_way : MethodName := ⟨RX8, "way", "(III)I"⟩
abbrev cX8_bird : ByteArray := prog_10_method_26_code
def yX8_bird : MethodName := ⟨RX8, "bird", "(III)I"⟩
abbrev cX8_type : ByteArray := prog_10_method_27_code
def yX8_type : MethodName := ⟨RX8, "type", "(I)I"⟩
abbrev cX8_clear : ByteArray := prog_10_method_28_code
def yX8_clear : MethodName := ⟨RX8, "clear", "()I"⟩
abbrev cX8_byteAt : ByteArray := prog_10_method_29_code
def yX8_byteAt : MethodName := ⟨RX8, "byteAt", "(I)I"⟩
abbrev cX8_sortOf : ByteArray := prog_10_method_30_code
def yX8_sortOf : MethodName := ⟨RX8, "sortOf", "(I)I"⟩
abbrev cX8_token : ByteArray := prog_10_method_31_code
def yX8_token : MethodName := ⟨RX8, "token", "()V"⟩
abbrev cX8_name : ByteArray := prog_10_method_32_code
def yX8_name : MethodName := ⟨RX8, "name", "(IIIIII)J"⟩
abbrev cX8_item : ByteArray := prog_10_method_33_code
def yX8_item : MethodName := ⟨RX8, "item", "()I"⟩
abbrev cX8_numbers : ByteArray := prog_10_method_34_code
def yX8_numbers : MethodName := ⟨RX8, "numbers", "(I)I"⟩
abbrev cX8_readsNumbers : ByteArray := prog_10_method_35_code
def yX8_readsNumbers : MethodName := ⟨RX8, "readsNumbers", "(I)Z"⟩
abbrev cX8_does : ByteArray := prog_10_method_36_code
def yX8_does : MethodName := ⟨RX8, "does", "(I)Z"⟩
abbrev cX8_reads : ByteArray := prog_10_method_37_code
def yX8_reads : MethodName := ⟨RX8, "reads", "()I"⟩
abbrev cX8_read : ByteArray := prog_10_method_38_code
def yX8_read : MethodName := ⟨RX8, "read", "()I"⟩
abbrev cX8_findFar : ByteArray := prog_10_method_39_code
def yX8_findFar : MethodName := ⟨RX8, "findFar", "()V"⟩
abbrev cX8_isReached : ByteArray := prog_10_method_40_code
def yX8_isReached : MethodName := ⟨RX8, "isReached", "(II)Z"⟩
abbrev cX8_reached : ByteArray := prog_10_method_41_code
def yX8_reached : MethodName := ⟨RX8, "reached", "(I)I"⟩
abbrev cX8_plain : ByteArray := prog_10_method_42_code
def yX8_plain : MethodName := ⟨RX8, "plain", "(II)I"⟩
abbrev cX8_sureOf : ByteArray := prog_10_method_43_code
def yX8_sureOf : MethodName := ⟨RX8, "sureOf", "(III)I"⟩
abbrev cX8_lateOf : ByteArray := prog_10_method_44_code
def yX8_lateOf : MethodName := ⟨RX8, "lateOf", "(I)I"⟩
abbrev cX8_heard : ByteArray := prog_10_method_45_code
def yX8_heard : MethodName := ⟨RX8, "heard", "(II)I"⟩
abbrev cX8_dayOf : ByteArray := prog_10_method_46_code
def yX8_dayOf : MethodName := ⟨RX8, "dayOf", "(II)I"⟩
abbrev cX8_tell : ByteArray := prog_10_method_47_code
def yX8_tell : MethodName := ⟨RX8, "tell", "(IIIZ)I"⟩
abbrev cX8_notes : ByteArray := prog_10_method_48_code
def yX8_notes : MethodName := ⟨RX8, "notes", "()V"⟩
abbrev cX8_evening : ByteArray := prog_10_method_49_code
def yX8_evening : MethodName := ⟨RX8, "evening", "()I"⟩
abbrev cX8_undo : ByteArray := prog_10_method_50_code
def yX8_undo : MethodName := ⟨RX8, "undo", "()I"⟩
abbrev cX8_doubt : ByteArray := prog_10_method_51_code
def yX8_doubt : MethodName := ⟨RX8, "doubt", "(I)I"⟩
abbrev cX8_of : ByteArray := prog_10_method_52_code
def yX8_of : MethodName := ⟨RX8, "of", "(II)I"⟩
abbrev cX8_about : ByteArray := prog_10_method_53_code
def yX8_about : MethodName := ⟨RX8, "about", "(II)I"⟩
abbrev cX8_hours : ByteArray := prog_10_method_54_code
def yX8_hours : MethodName := ⟨RX8, "hours", "(II)I"⟩
abbrev cX8_sure : ByteArray := prog_10_method_55_code
def yX8_sure : MethodName := ⟨RX8, "sure", "(IIII)I"⟩
abbrev cX8_ahead : ByteArray := prog_10_method_56_code
def yX8_ahead : MethodName := ⟨RX8, "ahead", "(II)I"⟩
abbrev cX8_worthOf : ByteArray := prog_10_method_57_code
def yX8_worthOf : MethodName := ⟨RX8, "worthOf", "(II)I"⟩
abbrev cX8_worth : ByteArray := prog_10_method_58_code
def yX8_worth : MethodName := ⟨RX8, "worth", "(II)I"⟩
abbrev cX8_choice : ByteArray := prog_10_method_59_code
def yX8_choice : MethodName := ⟨RX8, "choice", "(III)I"⟩
abbrev cX8_areApart : ByteArray := prog_10_method_60_code
def yX8_areApart : MethodName := ⟨RX8, "areApart", "(II)Z"⟩
abbrev cX8_areLands : ByteArray := prog_10_method_61_code
def yX8_areLands : MethodName := ⟨RX8, "areLands", "(I)Z"⟩
abbrev cX8_finds : ByteArray := prog_10_method_62_code
def yX8_finds : MethodName := ⟨RX8, "finds", "(I)V"⟩
abbrev cX8_send : ByteArray := prog_10_method_63_code
def yX8_send : MethodName := ⟨RX8, "send", "(II)I"⟩
abbrev cX8_third : ByteArray := prog_10_method_64_code
def yX8_third : MethodName := ⟨RX8, "third", "(I)I"⟩
abbrev cX8_tells : ByteArray := prog_10_method_65_code
def yX8_tells : MethodName := ⟨RX8, "tells", "(II)V"⟩
abbrev cX8_flies : ByteArray := prog_10_method_66_code
def yX8_flies : MethodName := ⟨RX8, "flies", "(I)V"⟩
abbrev cX8_mayFly : ByteArray := prog_10_method_67_code
def yX8_mayFly : MethodName := ⟨RX8, "mayFly", "(III)Z"⟩
abbrev cX8_plan : ByteArray := prog_10_method_68_code
def yX8_plan : MethodName := ⟨RX8, "plan", "(III)I"⟩
abbrev cX8_isGain : ByteArray := prog_10_method_69_code
def yX8_isGain : MethodName := ⟨RX8, "isGain", "(I)Z"⟩
abbrev cX8_makesWar : ByteArray := prog_10_method_70_code
def yX8_makesWar : MethodName := ⟨RX8, "makesWar", "(III)Z"⟩
abbrev cX8_noon : ByteArray := prog_10_method_71_code
def yX8_noon : MethodName := ⟨RX8, "noon", "(II)I"⟩
abbrev cX8_mixed : ByteArray := prog_10_method_72_code
def yX8_mixed : MethodName := ⟨RX8, "mixed", "(IIII)I"⟩
abbrev cX8_power : ByteArray := prog_10_method_73_code
def yX8_power : MethodName := ⟨RX8, "power", "(II)I"⟩
abbrev cX8_sees : ByteArray := prog_10_method_74_code
def yX8_sees : MethodName := ⟨RX8, "sees", "(IIII)Z"⟩
abbrev cX8_round : ByteArray := prog_10_method_75_code
def yX8_round : MethodName := ⟨RX8, "round", "(IIII)I"⟩
abbrev cX8_crow : ByteArray := prog_10_method_76_code
def yX8_crow : MethodName := ⟨RX8, "crow", "(IIZ)I"⟩
abbrev cX8_hush : ByteArray := prog_10_method_77_code
def yX8_hush : MethodName := ⟨RX8, "hush", "()I"⟩
abbrev cX8_holds : ByteArray := prog_10_method_78_code
def yX8_holds : MethodName := ⟨RX8, "holds", "(I)Z"⟩
abbrev cX8_liars : ByteArray := prog_10_method_79_code
def yX8_liars : MethodName := ⟨RX8, "liars", "(I)I"⟩
abbrev cX8_leftOut : ByteArray := prog_10_method_80_code
def yX8_leftOut : MethodName := ⟨RX8, "leftOut", "(IIII)I"⟩
abbrev cX8_mornings : ByteArray := prog_10_method_81_code
def yX8_mornings : MethodName := ⟨RX8, "mornings", "(II)I"⟩
abbrev cX8_image : ByteArray := prog_10_method_82_code
def yX8_image : MethodName := ⟨RX8, "image", "(I)I"⟩
abbrev cX8_from : ByteArray := prog_10_method_83_code
def yX8_from : MethodName := ⟨RX8, "from", "(I)I"⟩
abbrev cX8_status : ByteArray := prog_10_method_84_code
def yX8_status : MethodName := ⟨RX8, "status", "(I)I"⟩
abbrev cX8_ways : ByteArray := prog_10_method_85_code
def yX8_ways : MethodName := ⟨RX8, "ways", "()I"⟩
abbrev cX8_counted : ByteArray := prog_10_method_86_code
def yX8_counted : MethodName := ⟨RX8, "counted", "(I)I"⟩
abbrev cX8_count : ByteArray := prog_10_method_87_code
def yX8_count : MethodName := ⟨RX8, "count", "(I)I"⟩
abbrev cX8_digest : ByteArray := prog_10_method_88_code
def yX8_digest : MethodName := ⟨RX8, "digest", "()J"⟩
def RJ6 : String := "java/lang/Integer"
def TJ6 : u_T := fun k => match k with
  | _ => ("", "", "", false)
def tyJ6 : Nat → FieldType := fun k => match k with
  | _ => .int
abbrev wsJ60 : List Cond := u_ws RJ6 TJ6 0
theorem nmJ6 : ∀ a, a < 0 → ∀ b, b < 0 → a ≠ b → (TJ6 a).2.1 ≠ (TJ6 b).2.1 := by decide +kernel
theorem tyJ6_ok : ∀ k, k < 0 → parseFieldDescriptor (TJ6 k).2.2.1 = some (tyJ6 k) := by decide +kernel
abbrev cJ6_bitCount_0f7a4 : ByteArray := prog_11_method_49_code
def yJ6_bitCount_0f7a4 : MethodName := ⟨RJ6, "bitCount", "(I)I"⟩
def RJ9 : String := "java/lang/Math"
def TJ9 : u_T := fun k => match k with
  | _ => ("", "", "", false)
def tyJ9 : Nat → FieldType := fun k => match k with
  | _ => .int
abbrev wsJ90 : List Cond := u_ws RJ9 TJ9 0
theorem nmJ9 : ∀ a, a < 0 → ∀ b, b < 0 → a ≠ b → (TJ9 a).2.1 ≠ (TJ9 b).2.1 := by decide +kernel
theorem tyJ9_ok : ∀ k, k < 0 → parseFieldDescriptor (TJ9 k).2.2.1 = some (tyJ9 k) := by decide +kernel
abbrev cJ9_max_7cf53 : ByteArray := prog_12_method_65_code
def yJ9_max_7cf53 : MethodName := ⟨RJ9, "max", "(II)I"⟩
abbrev cJ9_min_7cf53 : ByteArray := prog_12_method_69_code
def yJ9_min_7cf53 : MethodName := ⟨RJ9, "min", "(II)I"⟩
def RJ0 : String := "java/lang/String"
def TJ0 : u_T := fun k => match k with
  | _ => ("", "", "", false)
def tyJ0 : Nat → FieldType := fun k => match k with
  | _ => .int
abbrev wsJ00 : List Cond := u_ws RJ0 TJ0 0
theorem nmJ0 : ∀ a, a < 0 → ∀ b, b < 0 → a ≠ b → (TJ0 a).2.1 ≠ (TJ0 b).2.1 := by decide +kernel
theorem tyJ0_ok : ∀ k, k < 0 → parseFieldDescriptor (TJ0 k).2.2.1 = some (tyJ0 k) := by decide +kernel
abbrev cJ0_length_8abf5 : ByteArray := prog_13_method_54_code
def yJ0_length_8abf5 : MethodName := ⟨RJ0, "length", "()I"⟩
abbrev cJ0_charAt_5068e : ByteArray := prog_13_method_56_code
def yJ0_charAt_5068e : MethodName := ⟨RJ0, "charAt", "(I)C"⟩
abbrev cJ0_coder_7d493 : ByteArray := prog_13_method_152_code
def yJ0_coder_7d493 : MethodName := ⟨RJ0, "coder", "()B"⟩
abbrev cJ0_isLatin1_aae02 : ByteArray := prog_13_method_154_code
def yJ0_isLatin1_aae02 : MethodName := ⟨RJ0, "isLatin1", "()Z"⟩
abbrev cJ0_checkIndex_df160 : ByteArray := prog_13_method_155_code
def yJ0_checkIndex_df160 : MethodName := ⟨RJ0, "checkIndex", "(II)V"⟩
def RJ1 : String := "java/lang/StringLatin1"
def TJ1 : u_T := fun k => match k with
  | _ => ("", "", "", false)
def tyJ1 : Nat → FieldType := fun k => match k with
  | _ => .int
abbrev wsJ10 : List Cond := u_ws RJ1 TJ1 0
theorem nmJ1 : ∀ a, a < 0 → ∀ b, b < 0 → a ≠ b → (TJ1 a).2.1 ≠ (TJ1 b).2.1 := by decide +kernel
theorem tyJ1_ok : ∀ k, k < 0 → parseFieldDescriptor (TJ1 k).2.2.1 = some (tyJ1 k) := by decide +kernel
abbrev cJ1_charAt_3b067 : ByteArray := prog_14_method_2_code
def yJ1_charAt_3b067 : MethodName := ⟨RJ1, "charAt", "([BI)C"⟩
def RJ2 : String := "java/lang/StringUTF16"
def TJ2 : u_T := fun k => match k with
  | _ => ("", "", "", false)
def tyJ2 : Nat → FieldType := fun k => match k with
  | _ => .int
abbrev wsJ20 : List Cond := u_ws RJ2 TJ2 0
theorem nmJ2 : ∀ a, a < 0 → ∀ b, b < 0 → a ≠ b → (TJ2 a).2.1 ≠ (TJ2 b).2.1 := by decide +kernel
theorem tyJ2_ok : ∀ k, k < 0 → parseFieldDescriptor (TJ2 k).2.2.1 = some (tyJ2 k) := by decide +kernel
abbrev cJ2_getChar_3b067 : ByteArray := prog_15_method_5_code
def yJ2_getChar_3b067 : MethodName := ⟨RJ2, "getChar", "([BI)C"⟩
abbrev cJ2_length_9d52b : ByteArray := prog_15_method_6_code
def yJ2_length_9d52b : MethodName := ⟨RJ2, "length", "([B)I"⟩
abbrev cJ2_charAt_3b067 : ByteArray := prog_15_method_83_code
def yJ2_charAt_3b067 : MethodName := ⟨RJ2, "charAt", "([BI)C"⟩
abbrev cJ2_checkIndex_2214a : ByteArray := prog_15_method_91_code
def yJ2_checkIndex_2214a : MethodName := ⟨RJ2, "checkIndex", "(I[B)V"⟩
def RJ10 : String := "java/lang/System"
def TJ10 : u_T := fun k => match k with
  | _ => ("", "", "", false)
def tyJ10 : Nat → FieldType := fun k => match k with
  | _ => .int
abbrev wsJ100 : List Cond := u_ws RJ10 TJ10 0
theorem nmJ10 : ∀ a, a < 0 → ∀ b, b < 0 → a ≠ b → (TJ10 a).2.1 ≠ (TJ10 b).2.1 := by decide +kernel
theorem tyJ10_ok : ∀ k, k < 0 → parseFieldDescriptor (TJ10 k).2.2.1 = some (tyJ10 k) := by decide +kernel
def RJ3 : String := "jdk/internal/util/Preconditions"
def TJ3 : u_T := fun k => match k with
  | _ => ("", "", "", false)
def tyJ3 : Nat → FieldType := fun k => match k with
  | _ => .int
abbrev wsJ30 : List Cond := u_ws RJ3 TJ3 0
theorem nmJ3 : ∀ a, a < 0 → ∀ b, b < 0 → a ≠ b → (TJ3 a).2.1 ≠ (TJ3 b).2.1 := by decide +kernel
theorem tyJ3_ok : ∀ k, k < 0 → parseFieldDescriptor (TJ3 k).2.2.1 = some (tyJ3 k) := by decide +kernel
abbrev cJ3_checkIndex_8e157 : ByteArray := prog_17_method_11_code
def yJ3_checkIndex_8e157 : MethodName := ⟨RJ3, "checkIndex", "(IILjava/util/function/BiFunction;)I"⟩
def RL : String := "RavenSupperLaw"
abbrev cL_law : ByteArray := code
def yL_law : MethodName := ⟨RL, "law", "([I)Z"⟩
abbrev vwCl : List vw_C := [(RX0, TX0, 4), (RX1, TX1, 5), (RX2, TX2, 5), (RX4, TX4, 5), (RX5, TX5, 5), (RX6, TX6, 11), (RX7, TX7, 8), (RX8, TX8, 17)]
