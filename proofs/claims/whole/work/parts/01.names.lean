-- ===== PART A: goes FIRST, ahead of the names: the tables' words, and 'selects' of the private methods out of them =====
/-- a private method of a class that the tables say can be made, by its rows of tables_1 -/
def lw_okq (q : MethodName × Nat) : Prop := (q.1.cls ≠ "java/lang/invoke/MethodHandle" ∧ q.1.cls ≠ "java/lang/invoke/VarHandle") ∧ Cond.instantiable q.1.cls q.2 ∈ tables_1 ∧ Cond.privateMethod q.1 ∈ tables_1 ∧ Cond.instanceMethod q.1 ∈ tables_1
theorem lw_p0 : lw_okq (⟨"NailThreads$Text", "goesOn", "(ILNailThreads$Board;)Z"⟩, 4) := ⟨⟨by decide +kernel, by decide +kernel⟩, List.mem_of_getElem? (i := 26) (by decide +kernel), List.mem_of_getElem? (i := 227) (by decide +kernel), List.mem_of_getElem? (i := 228) (by decide +kernel)⟩
theorem lw_p1 : lw_okq (⟨"NailThreads$Text", "beginsThread", "(ILNailThreads$Board;)Z"⟩, 4) := ⟨⟨by decide +kernel, by decide +kernel⟩, List.mem_of_getElem? (i := 26) (by decide +kernel), List.mem_of_getElem? (i := 231) (by decide +kernel), List.mem_of_getElem? (i := 232) (by decide +kernel)⟩
theorem lw_p2 : lw_okq (⟨"NailThreads$Text", "windsOn", "(ILNailThreads$Board;)Z"⟩, 4) := ⟨⟨by decide +kernel, by decide +kernel⟩, List.mem_of_getElem? (i := 26) (by decide +kernel), List.mem_of_getElem? (i := 247) (by decide +kernel), List.mem_of_getElem? (i := 248) (by decide +kernel)⟩
theorem lw_p3 : lw_okq (⟨"NailThreads$Board", "crossed", "(IIII)I"⟩, 7) := ⟨⟨by decide +kernel, by decide +kernel⟩, List.mem_of_getElem? (i := 46) (by decide +kernel), List.mem_of_getElem? (i := 273) (by decide +kernel), List.mem_of_getElem? (i := 274) (by decide +kernel)⟩
theorem lw_p4 : lw_okq (⟨"NailThreads$Board", "placeAt", "(I)I"⟩, 7) := ⟨⟨by decide +kernel, by decide +kernel⟩, List.mem_of_getElem? (i := 46) (by decide +kernel), List.mem_of_getElem? (i := 356) (by decide +kernel), List.mem_of_getElem? (i := 357) (by decide +kernel)⟩
theorem lw_p5 : lw_okq (⟨"NailThreads$Board", "crossesOneOf", "(JI)Z"⟩, 7) := ⟨⟨by decide +kernel, by decide +kernel⟩, List.mem_of_getElem? (i := 46) (by decide +kernel), List.mem_of_getElem? (i := 380) (by decide +kernel), List.mem_of_getElem? (i := 381) (by decide +kernel)⟩
theorem lw_p6 : lw_okq (⟨"NailThreads$Web", "draw", "(LNailThreads$Board;)V"⟩, 1) := ⟨⟨by decide +kernel, by decide +kernel⟩, List.mem_of_getElem? (i := 128) (by decide +kernel), List.mem_of_getElem? (i := 473) (by decide +kernel), List.mem_of_getElem? (i := 474) (by decide +kernel)⟩
theorem lw_p7 : lw_okq (⟨"NailThreads$Web", "join", "(II)V"⟩, 1) := ⟨⟨by decide +kernel, by decide +kernel⟩, List.mem_of_getElem? (i := 128) (by decide +kernel), List.mem_of_getElem? (i := 480) (by decide +kernel), List.mem_of_getElem? (i := 481) (by decide +kernel)⟩
theorem lw_p8 : lw_okq (⟨"NailThreads$Web", "areJoined", "(II)Z"⟩, 1) := ⟨⟨by decide +kernel, by decide +kernel⟩, List.mem_of_getElem? (i := 128) (by decide +kernel), List.mem_of_getElem? (i := 485) (by decide +kernel), List.mem_of_getElem? (i := 486) (by decide +kernel)⟩
theorem lw_p9 : lw_okq (⟨"NailThreads$Web", "crossedUpwards", "(II)I"⟩, 1) := ⟨⟨by decide +kernel, by decide +kernel⟩, List.mem_of_getElem? (i := 128) (by decide +kernel), List.mem_of_getElem? (i := 489) (by decide +kernel), List.mem_of_getElem? (i := 490) (by decide +kernel)⟩
theorem lw_p10 : lw_okq (⟨"NailThreads$Web", "groupOf", "(I)I"⟩, 1) := ⟨⟨by decide +kernel, by decide +kernel⟩, List.mem_of_getElem? (i := 128) (by decide +kernel), List.mem_of_getElem? (i := 507) (by decide +kernel), List.mem_of_getElem? (i := 508) (by decide +kernel)⟩
theorem lw_p11 : lw_okq (⟨"NailThreads$Web", "oddNails", "(I)I"⟩, 1) := ⟨⟨by decide +kernel, by decide +kernel⟩, List.mem_of_getElem? (i := 128) (by decide +kernel), List.mem_of_getElem? (i := 511) (by decide +kernel), List.mem_of_getElem? (i := 512) (by decide +kernel)⟩
theorem lw_p12 : lw_okq (⟨"NailThreads$Seen", "fits", "(II)Z"⟩, 4) := ⟨⟨by decide +kernel, by decide +kernel⟩, List.mem_of_getElem? (i := 109) (by decide +kernel), List.mem_of_getElem? (i := 618) (by decide +kernel), List.mem_of_getElem? (i := 619) (by decide +kernel)⟩
theorem lw_p13 : lw_okq (⟨"NailThreads$Rests", "isAtRest", "(I)Z"⟩, 2) := ⟨⟨by decide +kernel, by decide +kernel⟩, List.mem_of_getElem? (i := 138) (by decide +kernel), List.mem_of_getElem? (i := 665) (by decide +kernel), List.mem_of_getElem? (i := 666) (by decide +kernel)⟩
theorem lw_p14 : lw_okq (⟨"NailThreads$Chances", "countBetween", "(LNailThreads$Board;)V"⟩, 1) := ⟨⟨by decide +kernel, by decide +kernel⟩, List.mem_of_getElem? (i := 151) (by decide +kernel), List.mem_of_getElem? (i := 681) (by decide +kernel), List.mem_of_getElem? (i := 682) (by decide +kernel)⟩
theorem lw_p15 : lw_okq (⟨"NailThreads$Chances", "crossingsAmong", "(I)I"⟩, 1) := ⟨⟨by decide +kernel, by decide +kernel⟩, List.mem_of_getElem? (i := 151) (by decide +kernel), List.mem_of_getElem? (i := 685) (by decide +kernel), List.mem_of_getElem? (i := 686) (by decide +kernel)⟩
def lw_privs_1 : List (MethodName × Nat) := [(⟨"NailThreads$Text", "goesOn", "(ILNailThreads$Board;)Z"⟩, 4), (⟨"NailThreads$Text", "beginsThread", "(ILNailThreads$Board;)Z"⟩, 4), (⟨"NailThreads$Text", "windsOn", "(ILNailThreads$Board;)Z"⟩, 4), (⟨"NailThreads$Board", "crossed", "(IIII)I"⟩, 7), (⟨"NailThreads$Board", "placeAt", "(I)I"⟩, 7), (⟨"NailThreads$Board", "crossesOneOf", "(JI)Z"⟩, 7), (⟨"NailThreads$Web", "draw", "(LNailThreads$Board;)V"⟩, 1), (⟨"NailThreads$Web", "join", "(II)V"⟩, 1), (⟨"NailThreads$Web", "areJoined", "(II)Z"⟩, 1), (⟨"NailThreads$Web", "crossedUpwards", "(II)I"⟩, 1), (⟨"NailThreads$Web", "groupOf", "(I)I"⟩, 1), (⟨"NailThreads$Web", "oddNails", "(I)I"⟩, 1), (⟨"NailThreads$Seen", "fits", "(II)Z"⟩, 4), (⟨"NailThreads$Rests", "isAtRest", "(I)Z"⟩, 2), (⟨"NailThreads$Chances", "countBetween", "(LNailThreads$Board;)V"⟩, 1), (⟨"NailThreads$Chances", "crossingsAmong", "(I)I"⟩, 1)]
theorem lw_r1 : ∀ q ∈ lw_privs_1, lw_okq q := List.forall_mem_cons.mpr ⟨lw_p0, List.forall_mem_cons.mpr ⟨lw_p1, List.forall_mem_cons.mpr ⟨lw_p2, List.forall_mem_cons.mpr ⟨lw_p3, List.forall_mem_cons.mpr ⟨lw_p4, List.forall_mem_cons.mpr ⟨lw_p5, List.forall_mem_cons.mpr ⟨lw_p6, List.forall_mem_cons.mpr ⟨lw_p7, List.forall_mem_cons.mpr ⟨lw_p8, List.forall_mem_cons.mpr ⟨lw_p9, List.forall_mem_cons.mpr ⟨lw_p10, List.forall_mem_cons.mpr ⟨lw_p11, List.forall_mem_cons.mpr ⟨lw_p12, List.forall_mem_cons.mpr ⟨lw_p13, List.forall_mem_cons.mpr ⟨lw_p14, List.forall_mem_cons.mpr ⟨lw_p15, fun _ h => absurd h List.not_mem_nil⟩⟩⟩⟩⟩⟩⟩⟩⟩⟩⟩⟩⟩⟩⟩⟩
theorem lw_p16 : lw_okq (⟨"NailThreadsModel", "readText", "()I"⟩, 20) := ⟨⟨by decide +kernel, by decide +kernel⟩, List.mem_of_getElem? (i := 751) (by decide +kernel), List.mem_of_getElem? (i := 834) (by decide +kernel), List.mem_of_getElem? (i := 835) (by decide +kernel)⟩
theorem lw_p17 : lw_okq (⟨"NailThreadsModel", "clearLevel", "(I)V"⟩, 20) := ⟨⟨by decide +kernel, by decide +kernel⟩, List.mem_of_getElem? (i := 751) (by decide +kernel), List.mem_of_getElem? (i := 838) (by decide +kernel), List.mem_of_getElem? (i := 839) (by decide +kernel)⟩
theorem lw_p18 : lw_okq (⟨"NailThreadsModel", "readParts", "()I"⟩, 20) := ⟨⟨by decide +kernel, by decide +kernel⟩, List.mem_of_getElem? (i := 751) (by decide +kernel), List.mem_of_getElem? (i := 842) (by decide +kernel), List.mem_of_getElem? (i := 843) (by decide +kernel)⟩
theorem lw_p19 : lw_okq (⟨"NailThreadsModel", "mayLay", "(II)Z"⟩, 20) := ⟨⟨by decide +kernel, by decide +kernel⟩, List.mem_of_getElem? (i := 751) (by decide +kernel), List.mem_of_getElem? (i := 850) (by decide +kernel), List.mem_of_getElem? (i := 851) (by decide +kernel)⟩
theorem lw_p20 : lw_okq (⟨"NailThreadsModel", "mayWind", "(III)Z"⟩, 20) := ⟨⟨by decide +kernel, by decide +kernel⟩, List.mem_of_getElem? (i := 751) (by decide +kernel), List.mem_of_getElem? (i := 854) (by decide +kernel), List.mem_of_getElem? (i := 855) (by decide +kernel)⟩
theorem lw_p21 : lw_okq (⟨"NailThreadsModel", "stretchesOf", "(II)I"⟩, 20) := ⟨⟨by decide +kernel, by decide +kernel⟩, List.mem_of_getElem? (i := 751) (by decide +kernel), List.mem_of_getElem? (i := 862) (by decide +kernel), List.mem_of_getElem? (i := 863) (by decide +kernel)⟩
theorem lw_p22 : lw_okq (⟨"NailThreadsModel", "many", "(I)I"⟩, 20) := ⟨⟨by decide +kernel, by decide +kernel⟩, List.mem_of_getElem? (i := 751) (by decide +kernel), List.mem_of_getElem? (i := 866) (by decide +kernel), List.mem_of_getElem? (i := 867) (by decide +kernel)⟩
theorem lw_p23 : lw_okq (⟨"NailThreadsModel", "laid", "(II)I"⟩, 20) := ⟨⟨by decide +kernel, by decide +kernel⟩, List.mem_of_getElem? (i := 751) (by decide +kernel), List.mem_of_getElem? (i := 870) (by decide +kernel), List.mem_of_getElem? (i := 871) (by decide +kernel)⟩
theorem lw_p24 : lw_okq (⟨"NailThreadsModel", "kindOf", "(II)I"⟩, 20) := ⟨⟨by decide +kernel, by decide +kernel⟩, List.mem_of_getElem? (i := 751) (by decide +kernel), List.mem_of_getElem? (i := 877) (by decide +kernel), List.mem_of_getElem? (i := 878) (by decide +kernel)⟩
theorem lw_p25 : lw_okq (⟨"NailThreadsModel", "crossedBy", "(IIII)I"⟩, 20) := ⟨⟨by decide +kernel, by decide +kernel⟩, List.mem_of_getElem? (i := 751) (by decide +kernel), List.mem_of_getElem? (i := 884) (by decide +kernel), List.mem_of_getElem? (i := 885) (by decide +kernel)⟩
theorem lw_p26 : lw_okq (⟨"NailThreadsModel", "longOf", "(II)I"⟩, 20) := ⟨⟨by decide +kernel, by decide +kernel⟩, List.mem_of_getElem? (i := 751) (by decide +kernel), List.mem_of_getElem? (i := 900) (by decide +kernel), List.mem_of_getElem? (i := 901) (by decide +kernel)⟩
theorem lw_p27 : lw_okq (⟨"NailThreadsModel", "windOn", "(III)I"⟩, 20) := ⟨⟨by decide +kernel, by decide +kernel⟩, List.mem_of_getElem? (i := 751) (by decide +kernel), List.mem_of_getElem? (i := 907) (by decide +kernel), List.mem_of_getElem? (i := 908) (by decide +kernel)⟩
theorem lw_p28 : lw_okq (⟨"NailThreadsModel", "isThread", "(I)Z"⟩, 20) := ⟨⟨by decide +kernel, by decide +kernel⟩, List.mem_of_getElem? (i := 751) (by decide +kernel), List.mem_of_getElem? (i := 922) (by decide +kernel), List.mem_of_getElem? (i := 923) (by decide +kernel)⟩
theorem lw_p29 : lw_okq (⟨"NailThreadsModel", "mayGo", "(I)I"⟩, 20) := ⟨⟨by decide +kernel, by decide +kernel⟩, List.mem_of_getElem? (i := 751) (by decide +kernel), List.mem_of_getElem? (i := 926) (by decide +kernel), List.mem_of_getElem? (i := 927) (by decide +kernel)⟩
theorem lw_p30 : lw_okq (⟨"NailThreadsModel", "canUnwind", "(II)Z"⟩, 20) := ⟨⟨by decide +kernel, by decide +kernel⟩, List.mem_of_getElem? (i := 751) (by decide +kernel), List.mem_of_getElem? (i := 930) (by decide +kernel), List.mem_of_getElem? (i := 931) (by decide +kernel)⟩
theorem lw_p31 : lw_okq (⟨"NailThreadsModel", "lastOf", "(II)I"⟩, 20) := ⟨⟨by decide +kernel, by decide +kernel⟩, List.mem_of_getElem? (i := 751) (by decide +kernel), List.mem_of_getElem? (i := 934) (by decide +kernel), List.mem_of_getElem? (i := 935) (by decide +kernel)⟩
def lw_privs_2 : List (MethodName × Nat) := [(⟨"NailThreadsModel", "readText", "()I"⟩, 20), (⟨"NailThreadsModel", "clearLevel", "(I)V"⟩, 20), (⟨"NailThreadsModel", "readParts", "()I"⟩, 20), (⟨"NailThreadsModel", "mayLay", "(II)Z"⟩, 20), (⟨"NailThreadsModel", "mayWind", "(III)Z"⟩, 20), (⟨"NailThreadsModel", "stretchesOf", "(II)I"⟩, 20), (⟨"NailThreadsModel", "many", "(I)I"⟩, 20), (⟨"NailThreadsModel", "laid", "(II)I"⟩, 20), (⟨"NailThreadsModel", "kindOf", "(II)I"⟩, 20), (⟨"NailThreadsModel", "crossedBy", "(IIII)I"⟩, 20), (⟨"NailThreadsModel", "longOf", "(II)I"⟩, 20), (⟨"NailThreadsModel", "windOn", "(III)I"⟩, 20), (⟨"NailThreadsModel", "isThread", "(I)Z"⟩, 20), (⟨"NailThreadsModel", "mayGo", "(I)I"⟩, 20), (⟨"NailThreadsModel", "canUnwind", "(II)Z"⟩, 20), (⟨"NailThreadsModel", "lastOf", "(II)I"⟩, 20)]
theorem lw_r2 : ∀ q ∈ lw_privs_2, lw_okq q := List.forall_mem_cons.mpr ⟨lw_p16, List.forall_mem_cons.mpr ⟨lw_p17, List.forall_mem_cons.mpr ⟨lw_p18, List.forall_mem_cons.mpr ⟨lw_p19, List.forall_mem_cons.mpr ⟨lw_p20, List.forall_mem_cons.mpr ⟨lw_p21, List.forall_mem_cons.mpr ⟨lw_p22, List.forall_mem_cons.mpr ⟨lw_p23, List.forall_mem_cons.mpr ⟨lw_p24, List.forall_mem_cons.mpr ⟨lw_p25, List.forall_mem_cons.mpr ⟨lw_p26, List.forall_mem_cons.mpr ⟨lw_p27, List.forall_mem_cons.mpr ⟨lw_p28, List.forall_mem_cons.mpr ⟨lw_p29, List.forall_mem_cons.mpr ⟨lw_p30, List.forall_mem_cons.mpr ⟨lw_p31, fun _ h => absurd h List.not_mem_nil⟩⟩⟩⟩⟩⟩⟩⟩⟩⟩⟩⟩⟩⟩⟩⟩
theorem lw_p32 : lw_okq (⟨"NailThreadsModel", "overOf", "(II)I"⟩, 20) := ⟨⟨by decide +kernel, by decide +kernel⟩, List.mem_of_getElem? (i := 751) (by decide +kernel), List.mem_of_getElem? (i := 941) (by decide +kernel), List.mem_of_getElem? (i := 942) (by decide +kernel)⟩
theorem lw_p33 : lw_okq (⟨"NailThreadsModel", "aboveOf", "(I)I"⟩, 20) := ⟨⟨by decide +kernel, by decide +kernel⟩, List.mem_of_getElem? (i := 751) (by decide +kernel), List.mem_of_getElem? (i := 952) (by decide +kernel), List.mem_of_getElem? (i := 953) (by decide +kernel)⟩
theorem lw_p34 : lw_okq (⟨"NailThreadsModel", "keepAct", "()V"⟩, 20) := ⟨⟨by decide +kernel, by decide +kernel⟩, List.mem_of_getElem? (i := 751) (by decide +kernel), List.mem_of_getElem? (i := 960) (by decide +kernel), List.mem_of_getElem? (i := 961) (by decide +kernel)⟩
theorem lw_p35 : lw_okq (⟨"NailThreadsModel", "unwindOn", "(II)V"⟩, 20) := ⟨⟨by decide +kernel, by decide +kernel⟩, List.mem_of_getElem? (i := 751) (by decide +kernel), List.mem_of_getElem? (i := 968) (by decide +kernel), List.mem_of_getElem? (i := 969) (by decide +kernel)⟩
theorem lw_p36 : lw_okq (⟨"NailThreadsModel", "takeOff", "(II)V"⟩, 20) := ⟨⟨by decide +kernel, by decide +kernel⟩, List.mem_of_getElem? (i := 751) (by decide +kernel), List.mem_of_getElem? (i := 972) (by decide +kernel), List.mem_of_getElem? (i := 973) (by decide +kernel)⟩
theorem lw_p37 : lw_okq (⟨"NailThreadsModel", "cutOn", "(II)I"⟩, 20) := ⟨⟨by decide +kernel, by decide +kernel⟩, List.mem_of_getElem? (i := 751) (by decide +kernel), List.mem_of_getElem? (i := 980) (by decide +kernel), List.mem_of_getElem? (i := 981) (by decide +kernel)⟩
theorem lw_p38 : lw_okq (⟨"NailThreadsModel", "renameOn", "(IZ)V"⟩, 20) := ⟨⟨by decide +kernel, by decide +kernel⟩, List.mem_of_getElem? (i := 751) (by decide +kernel), List.mem_of_getElem? (i := 988) (by decide +kernel), List.mem_of_getElem? (i := 989) (by decide +kernel)⟩
theorem lw_p39 : lw_okq (⟨"NailThreadsModel", "crossesOfTwo", "(III)I"⟩, 20) := ⟨⟨by decide +kernel, by decide +kernel⟩, List.mem_of_getElem? (i := 751) (by decide +kernel), List.mem_of_getElem? (i := 1007) (by decide +kernel), List.mem_of_getElem? (i := 1008) (by decide +kernel)⟩
theorem lw_p40 : lw_okq (⟨"NailThreadsModel", "crossesOf", "(II)I"⟩, 20) := ⟨⟨by decide +kernel, by decide +kernel⟩, List.mem_of_getElem? (i := 751) (by decide +kernel), List.mem_of_getElem? (i := 1011) (by decide +kernel), List.mem_of_getElem? (i := 1012) (by decide +kernel)⟩
theorem lw_p41 : lw_okq (⟨"NailThreadsModel", "partsOn", "(I)I"⟩, 20) := ⟨⟨by decide +kernel, by decide +kernel⟩, List.mem_of_getElem? (i := 751) (by decide +kernel), List.mem_of_getElem? (i := 1022) (by decide +kernel), List.mem_of_getElem? (i := 1023) (by decide +kernel)⟩
theorem lw_p42 : lw_okq (⟨"NailThreadsModel", "findLines", "(I)V"⟩, 20) := ⟨⟨by decide +kernel, by decide +kernel⟩, List.mem_of_getElem? (i := 751) (by decide +kernel), List.mem_of_getElem? (i := 1026) (by decide +kernel), List.mem_of_getElem? (i := 1027) (by decide +kernel)⟩
theorem lw_p43 : lw_okq (⟨"NailThreadsModel", "linesAt", "(I)I"⟩, 20) := ⟨⟨by decide +kernel, by decide +kernel⟩, List.mem_of_getElem? (i := 751) (by decide +kernel), List.mem_of_getElem? (i := 1034) (by decide +kernel), List.mem_of_getElem? (i := 1035) (by decide +kernel)⟩
theorem lw_p44 : lw_okq (⟨"NailThreadsModel", "partOf", "(I)I"⟩, 20) := ⟨⟨by decide +kernel, by decide +kernel⟩, List.mem_of_getElem? (i := 751) (by decide +kernel), List.mem_of_getElem? (i := 1038) (by decide +kernel), List.mem_of_getElem? (i := 1039) (by decide +kernel)⟩
theorem lw_p45 : lw_okq (⟨"NailThreadsModel", "layTrial", "()V"⟩, 20) := ⟨⟨by decide +kernel, by decide +kernel⟩, List.mem_of_getElem? (i := 751) (by decide +kernel), List.mem_of_getElem? (i := 1052) (by decide +kernel), List.mem_of_getElem? (i := 1053) (by decide +kernel)⟩
theorem lw_p46 : lw_okq (⟨"NailThreadsModel", "tryThing", "(III)Z"⟩, 20) := ⟨⟨by decide +kernel, by decide +kernel⟩, List.mem_of_getElem? (i := 751) (by decide +kernel), List.mem_of_getElem? (i := 1065) (by decide +kernel), List.mem_of_getElem? (i := 1066) (by decide +kernel)⟩
theorem lw_p47 : lw_okq (⟨"NailThreadsModel", "isRest", "(IIII)Z"⟩, 20) := ⟨⟨by decide +kernel, by decide +kernel⟩, List.mem_of_getElem? (i := 751) (by decide +kernel), List.mem_of_getElem? (i := 1098) (by decide +kernel), List.mem_of_getElem? (i := 1099) (by decide +kernel)⟩
def lw_privs_3 : List (MethodName × Nat) := [(⟨"NailThreadsModel", "overOf", "(II)I"⟩, 20), (⟨"NailThreadsModel", "aboveOf", "(I)I"⟩, 20), (⟨"NailThreadsModel", "keepAct", "()V"⟩, 20), (⟨"NailThreadsModel", "unwindOn", "(II)V"⟩, 20), (⟨"NailThreadsModel", "takeOff", "(II)V"⟩, 20), (⟨"NailThreadsModel", "cutOn", "(II)I"⟩, 20), (⟨"NailThreadsModel", "renameOn", "(IZ)V"⟩, 20), (⟨"NailThreadsModel", "crossesOfTwo", "(III)I"⟩, 20), (⟨"NailThreadsModel", "crossesOf", "(II)I"⟩, 20), (⟨"NailThreadsModel", "partsOn", "(I)I"⟩, 20), (⟨"NailThreadsModel", "findLines", "(I)V"⟩, 20), (⟨"NailThreadsModel", "linesAt", "(I)I"⟩, 20), (⟨"NailThreadsModel", "partOf", "(I)I"⟩, 20), (⟨"NailThreadsModel", "layTrial", "()V"⟩, 20), (⟨"NailThreadsModel", "tryThing", "(III)Z"⟩, 20), (⟨"NailThreadsModel", "isRest", "(IIII)Z"⟩, 20)]
theorem lw_r3 : ∀ q ∈ lw_privs_3, lw_okq q := List.forall_mem_cons.mpr ⟨lw_p32, List.forall_mem_cons.mpr ⟨lw_p33, List.forall_mem_cons.mpr ⟨lw_p34, List.forall_mem_cons.mpr ⟨lw_p35, List.forall_mem_cons.mpr ⟨lw_p36, List.forall_mem_cons.mpr ⟨lw_p37, List.forall_mem_cons.mpr ⟨lw_p38, List.forall_mem_cons.mpr ⟨lw_p39, List.forall_mem_cons.mpr ⟨lw_p40, List.forall_mem_cons.mpr ⟨lw_p41, List.forall_mem_cons.mpr ⟨lw_p42, List.forall_mem_cons.mpr ⟨lw_p43, List.forall_mem_cons.mpr ⟨lw_p44, List.forall_mem_cons.mpr ⟨lw_p45, List.forall_mem_cons.mpr ⟨lw_p46, List.forall_mem_cons.mpr ⟨lw_p47, fun _ h => absurd h List.not_mem_nil⟩⟩⟩⟩⟩⟩⟩⟩⟩⟩⟩⟩⟩⟩⟩⟩
theorem lw_p48 : lw_okq (⟨"NailThreadsModel", "gain", "(IIIII)I"⟩, 20) := ⟨⟨by decide +kernel, by decide +kernel⟩, List.mem_of_getElem? (i := 751) (by decide +kernel), List.mem_of_getElem? (i := 1102) (by decide +kernel), List.mem_of_getElem? (i := 1103) (by decide +kernel)⟩
theorem lw_p49 : lw_okq (⟨"NailThreadsModel", "choose", "(II)V"⟩, 20) := ⟨⟨by decide +kernel, by decide +kernel⟩, List.mem_of_getElem? (i := 751) (by decide +kernel), List.mem_of_getElem? (i := 1106) (by decide +kernel), List.mem_of_getElem? (i := 1107) (by decide +kernel)⟩
theorem lw_p50 : lw_okq (⟨"NailThreadsModel", "usedNails", "()I"⟩, 20) := ⟨⟨by decide +kernel, by decide +kernel⟩, List.mem_of_getElem? (i := 751) (by decide +kernel), List.mem_of_getElem? (i := 1140) (by decide +kernel), List.mem_of_getElem? (i := 1141) (by decide +kernel)⟩
def lw_privs_4 : List (MethodName × Nat) := [(⟨"NailThreadsModel", "gain", "(IIIII)I"⟩, 20), (⟨"NailThreadsModel", "choose", "(II)V"⟩, 20), (⟨"NailThreadsModel", "usedNails", "()I"⟩, 20)]
theorem lw_r4 : ∀ q ∈ lw_privs_4, lw_okq q := List.forall_mem_cons.mpr ⟨lw_p48, List.forall_mem_cons.mpr ⟨lw_p49, List.forall_mem_cons.mpr ⟨lw_p50, fun _ h => absurd h List.not_mem_nil⟩⟩⟩
def lw_privs : List (MethodName × Nat) := lw_privs_1 ++ (lw_privs_2 ++ (lw_privs_3 ++ (lw_privs_4)))
def lw_tbl : List Cond := k2_sels lw_privs ++ tables_1
theorem lw_privs_ok : ∀ q ∈ lw_privs, lw_okq q := by
  show ∀ q ∈ lw_privs_1 ++ (lw_privs_2 ++ (lw_privs_3 ++ (lw_privs_4))), lw_okq q
  exact List.forall_mem_append.mpr ⟨lw_r1, List.forall_mem_append.mpr ⟨lw_r2, List.forall_mem_append.mpr ⟨lw_r3, lw_r4⟩⟩⟩

def RX0 : String := "NailThreads$Board"
def TX0 : u_T := fun k => match k with
  | 0 => ("NailThreads$Board", "kinds", "[I", true)
  | 1 => ("NailThreads$Board", "nails", "[I", true)
  | 2 => ("NailThreads$Board", "counts", "[I", true)
  | 3 => ("NailThreads$Board", "lying", "[I", true)
  | 4 => ("NailThreads$Board", "threads", "I", false)
  | 5 => ("NailThreads$Board", "size", "I", false)
  | _ => ("NailThreads$Board", "crosses", "I", false)
def tyX0 : Nat → FieldType := fun k => match k with
  | 0 => .array .int
  | 1 => .array .int
  | 2 => .array .int
  | 3 => .array .int
  | 4 => .int
  | 5 => .int
  | _ => .int
abbrev wsX00 : List Cond := u_ws RX0 TX0 7
theorem nmX0 : ∀ a, a < 7 → ∀ b, b < 7 → a ≠ b → (TX0 a).2.1 ≠ (TX0 b).2.1 := by decide +kernel
theorem tyX0_ok : ∀ k, k < 7 → parseFieldDescriptor (TX0 k).2.2.1 = some (tyX0 k) := by decide +kernel
abbrev cX0_init : ByteArray := prog_2_method_1_code
def yX0_init : MethodName := ⟨RX0, "<init>", "()V"⟩
abbrev cX0_clear : ByteArray := prog_2_method_2_code
def yX0_clear : MethodName := ⟨RX0, "clear", "()V"⟩
abbrev cX0_becomeLike : ByteArray := prog_2_method_3_code
def yX0_becomeLike : MethodName := ⟨RX0, "becomeLike", "(LNailThreads$Board;)V"⟩
abbrev cX0_tie : ByteArray := prog_2_method_4_code
def yX0_tie : MethodName := ⟨RX0, "tie", "(II)Z"⟩
abbrev cX0_threads : ByteArray := prog_2_method_5_code
def yX0_threads : MethodName := ⟨RX0, "threads", "()I"⟩
abbrev cX0_size : ByteArray := prog_2_method_6_code
def yX0_size : MethodName := ⟨RX0, "size", "()I"⟩
abbrev cX0_hasThread : ByteArray := prog_2_method_7_code
def yX0_hasThread : MethodName := ⟨RX0, "hasThread", "(I)Z"⟩
abbrev cX0_hasStretch : ByteArray := prog_2_method_8_code
def yX0_hasStretch : MethodName := ⟨RX0, "hasStretch", "(I)Z"⟩
abbrev cX0_nailOf : ByteArray := prog_2_method_9_code
def yX0_nailOf : MethodName := ⟨RX0, "nailOf", "(I)I"⟩
abbrev cX0_kindOf : ByteArray := prog_2_method_10_code
def yX0_kindOf : MethodName := ⟨RX0, "kindOf", "(I)I"⟩
abbrev cX0_stretchesOf : ByteArray := prog_2_method_11_code
def yX0_stretchesOf : MethodName := ⟨RX0, "stretchesOf", "(I)I"⟩
abbrev cX0_threadAt : ByteArray := prog_2_method_12_code
def yX0_threadAt : MethodName := ⟨RX0, "threadAt", "(I)I"⟩
abbrev cX0_fromAt : ByteArray := prog_2_method_13_code
def yX0_fromAt : MethodName := ⟨RX0, "fromAt", "(I)I"⟩
abbrev cX0_toAt : ByteArray := prog_2_method_14_code
def yX0_toAt : MethodName := ⟨RX0, "toAt", "(I)I"⟩
abbrev cX0_placeAt : ByteArray := prog_2_method_15_code
def yX0_placeAt : MethodName := ⟨RX0, "placeAt", "(I)I"⟩
abbrev cX0_packed : ByteArray := prog_2_method_16_code
def yX0_packed : MethodName := ⟨RX0, "packed", "(IIII)I"⟩
abbrev cX0_lengthOf : ByteArray := prog_2_method_17_code
def yX0_lengthOf : MethodName := ⟨RX0, "lengthOf", "(I)I"⟩
abbrev cX0_lengthOfAll : ByteArray := prog_2_method_18_code
def yX0_lengthOfAll : MethodName := ⟨RX0, "lengthOfAll", "()I"⟩
abbrev cX0_endNails : ByteArray := prog_2_method_19_code
def yX0_endNails : MethodName := ⟨RX0, "endNails", "()I"⟩
abbrev cX0_mayWind : ByteArray := prog_2_method_20_code
def yX0_mayWind : MethodName := ⟨RX0, "mayWind", "(II)Z"⟩
abbrev cX0_openNails : ByteArray := prog_2_method_21_code
def yX0_openNails : MethodName := ⟨RX0, "openNails", "(I)I"⟩
abbrev cX0_bestNail : ByteArray := prog_2_method_22_code
def yX0_bestNail : MethodName := ⟨RX0, "bestNail", "(I)I"⟩
abbrev cX0_crossed : ByteArray := prog_2_method_23_code
def yX0_crossed : MethodName := ⟨RX0, "crossed", "(IIII)I"⟩
abbrev cX0_crossedBetween : ByteArray := prog_2_method_24_code
def yX0_crossedBetween : MethodName := ⟨RX0, "crossedBetween", "(II)I"⟩
abbrev cX0_crossingFrom : ByteArray := prog_2_method_25_code
def yX0_crossingFrom : MethodName := ⟨RX0, "crossingFrom", "(II)I"⟩
abbrev cX0_aboveOf : ByteArray := prog_2_method_26_code
def yX0_aboveOf : MethodName := ⟨RX0, "aboveOf", "(I)I"⟩
abbrev cX0_crossesOneOf : ByteArray := prog_2_method_27_code
def yX0_crossesOneOf : MethodName := ⟨RX0, "crossesOneOf", "(JI)Z"⟩
abbrev cX0_crossingsOf : ByteArray := prog_2_method_28_code
def yX0_crossingsOf : MethodName := ⟨RX0, "crossingsOf", "(II)I"⟩
abbrev cX0_allCrossings : ByteArray := prog_2_method_29_code
def yX0_allCrossings : MethodName := ⟨RX0, "allCrossings", "()I"⟩
abbrev cX0_lastOf : ByteArray := prog_2_method_30_code
def yX0_lastOf : MethodName := ⟨RX0, "lastOf", "(I)I"⟩
abbrev cX0_worthOf : ByteArray := prog_2_method_31_code
def yX0_worthOf : MethodName := ⟨RX0, "worthOf", "(I)I"⟩
abbrev cX0_windOn : ByteArray := prog_2_method_32_code
def yX0_windOn : MethodName := ⟨RX0, "windOn", "(II)I"⟩
abbrev cX0_windStar : ByteArray := prog_2_method_33_code
def yX0_windStar : MethodName := ⟨RX0, "windStar", "(III)I"⟩
abbrev cX0_mayUnwind : ByteArray := prog_2_method_34_code
def yX0_mayUnwind : MethodName := ⟨RX0, "mayUnwind", "(I)Z"⟩
abbrev cX0_unwindLast : ByteArray := prog_2_method_35_code
def yX0_unwindLast : MethodName := ⟨RX0, "unwindLast", "(I)I"⟩
abbrev cX0_mayCut : ByteArray := prog_2_method_36_code
def yX0_mayCut : MethodName := ⟨RX0, "mayCut", "(I)Z"⟩
abbrev cX0_cutOff : ByteArray := prog_2_method_37_code
def yX0_cutOff : MethodName := ⟨RX0, "cutOff", "(I)I"⟩
abbrev cX0_turnByOne : ByteArray := prog_2_method_38_code
def yX0_turnByOne : MethodName := ⟨RX0, "turnByOne", "()V"⟩
abbrev cX0_turnOver : ByteArray := prog_2_method_39_code
def yX0_turnOver : MethodName := ⟨RX0, "turnOver", "()V"⟩
def RX1 : String := "NailThreads$Chances"
def TX1 : u_T := fun k => match k with
  | _ => ("NailThreads$Chances", "between", "[I", true)
def tyX1 : Nat → FieldType := fun k => match k with
  | _ => .array .int
abbrev wsX10 : List Cond := u_ws RX1 TX1 1
theorem nmX1 : ∀ a, a < 1 → ∀ b, b < 1 → a ≠ b → (TX1 a).2.1 ≠ (TX1 b).2.1 := by decide +kernel
theorem tyX1_ok : ∀ k, k < 1 → parseFieldDescriptor (TX1 k).2.2.1 = some (tyX1 k) := by decide +kernel
abbrev cX1_init : ByteArray := prog_3_method_1_code
def yX1_init : MethodName := ⟨RX1, "<init>", "()V"⟩
abbrev cX1_toldFraction : ByteArray := prog_3_method_2_code
def yX1_toldFraction : MethodName := ⟨RX1, "toldFraction", "(IIZ)I"⟩
abbrev cX1_commonDivisor : ByteArray := prog_3_method_3_code
def yX1_commonDivisor : MethodName := ⟨RX1, "commonDivisor", "(II)I"⟩
abbrev cX1_twiceShare : ByteArray := prog_3_method_4_code
def yX1_twiceShare : MethodName := ⟨RX1, "twiceShare", "(LNailThreads$Board;I)I"⟩
abbrev cX1_allWeight : ByteArray := prog_3_method_5_code
def yX1_allWeight : MethodName := ⟨RX1, "allWeight", "(LNailThreads$Board;)I"⟩
abbrev cX1_weightOfSnaps : ByteArray := prog_3_method_6_code
def yX1_weightOfSnaps : MethodName := ⟨RX1, "weightOfSnaps", "(LNailThreads$Board;II)I"⟩
abbrev cX1_countBetween : ByteArray := prog_3_method_7_code
def yX1_countBetween : MethodName := ⟨RX1, "countBetween", "(LNailThreads$Board;)V"⟩
abbrev cX1_crossingsAmong : ByteArray := prog_3_method_8_code
def yX1_crossingsAmong : MethodName := ⟨RX1, "crossingsAmong", "(I)I"⟩
abbrev cX1_weightOf : ByteArray := prog_3_method_9_code
def yX1_weightOf : MethodName := ⟨RX1, "weightOf", "(LNailThreads$Board;II)I"⟩
abbrev cX1_drawnFrom : ByteArray := prog_3_method_10_code
def yX1_drawnFrom : MethodName := ⟨RX1, "drawnFrom", "(J)J"⟩
abbrev cX1_liveYear : ByteArray := prog_3_method_11_code
def yX1_liveYear : MethodName := ⟨RX1, "liveYear", "(LNailThreads$Board;J)V"⟩
def RX2 : String := "NailThreads$Doings"
def TX2 : u_T := fun k => match k with
  | _ => ("", "", "", false)
def tyX2 : Nat → FieldType := fun k => match k with
  | _ => .int
abbrev wsX20 : List Cond := u_ws RX2 TX2 0
theorem nmX2 : ∀ a, a < 0 → ∀ b, b < 0 → a ≠ b → (TX2 a).2.1 ≠ (TX2 b).2.1 := by decide +kernel
theorem tyX2_ok : ∀ k, k < 0 → parseFieldDescriptor (TX2 k).2.2.1 = some (tyX2 k) := by decide +kernel
abbrev cX2_isTooLong : ByteArray := prog_4_method_2_code
def yX2_isTooLong : MethodName := ⟨RX2, "isTooLong", "(IJ)Z"⟩
abbrev cX2_firstWrong : ByteArray := prog_4_method_3_code
def yX2_firstWrong : MethodName := ⟨RX2, "firstWrong", "(IJLNailThreads$Board;LNailThreads$Web;)I"⟩
abbrev cX2_powerAt : ByteArray := prog_4_method_4_code
def yX2_powerAt : MethodName := ⟨RX2, "powerAt", "(I)J"⟩
abbrev cX2_comesTrue : ByteArray := prog_4_method_5_code
def yX2_comesTrue : MethodName := ⟨RX2, "comesTrue", "(ILNailThreads$Board;LNailThreads$Web;)Z"⟩
abbrev cX2_winds : ByteArray := prog_4_method_6_code
def yX2_winds : MethodName := ⟨RX2, "winds", "(LNailThreads$Board;II)Z"⟩
abbrev cX2_unwinds : ByteArray := prog_4_method_7_code
def yX2_unwinds : MethodName := ⟨RX2, "unwinds", "(LNailThreads$Board;I)Z"⟩
abbrev cX2_cuts : ByteArray := prog_4_method_8_code
def yX2_cuts : MethodName := ⟨RX2, "cuts", "(LNailThreads$Board;I)Z"⟩
abbrev cX2_turns : ByteArray := prog_4_method_9_code
def yX2_turns : MethodName := ⟨RX2, "turns", "(LNailThreads$Board;)Z"⟩
abbrev cX2_turnsOver : ByteArray := prog_4_method_10_code
def yX2_turnsOver : MethodName := ⟨RX2, "turnsOver", "(LNailThreads$Board;)Z"⟩
abbrev cX2_doCross : ByteArray := prog_4_method_11_code
def yX2_doCross : MethodName := ⟨RX2, "doCross", "(LNailThreads$Board;III)Z"⟩
def RX3 : String := "NailThreads$History"
def TX3 : u_T := fun k => match k with
  | 0 => ("NailThreads$History", "boards", "[LNailThreads$Board;", true)
  | 1 => ("NailThreads$History", "first", "I", false)
  | _ => ("NailThreads$History", "size", "I", false)
def tyX3 : Nat → FieldType := fun k => match k with
  | 0 => .array (.object "NailThreads$Board")
  | 1 => .int
  | _ => .int
abbrev wsX30 : List Cond := u_ws RX3 TX3 3
theorem nmX3 : ∀ a, a < 3 → ∀ b, b < 3 → a ≠ b → (TX3 a).2.1 ≠ (TX3 b).2.1 := by decide +kernel
theorem tyX3_ok : ∀ k, k < 3 → parseFieldDescriptor (TX3 k).2.2.1 = some (tyX3 k) := by decide +kernel
abbrev cX3_init : ByteArray := prog_5_method_1_code
def yX3_init : MethodName := ⟨RX3, "<init>", "()V"⟩
abbrev cX3_size : ByteArray := prog_5_method_2_code
def yX3_size : MethodName := ⟨RX3, "size", "()I"⟩
abbrev cX3_clear : ByteArray := prog_5_method_3_code
def yX3_clear : MethodName := ⟨RX3, "clear", "()V"⟩
abbrev cX3_add : ByteArray := prog_5_method_4_code
def yX3_add : MethodName := ⟨RX3, "add", "(LNailThreads$Board;)V"⟩
abbrev cX3_takeBack : ByteArray := prog_5_method_5_code
def yX3_takeBack : MethodName := ⟨RX3, "takeBack", "(LNailThreads$Board;)Z"⟩
def RX4 : String := "NailThreads$Rests"
def TX4 : u_T := fun k => match k with
  | 0 => ("NailThreads$Rests", "ofOne", "[I", true)
  | _ => ("NailThreads$Rests", "ofOther", "[I", true)
def tyX4 : Nat → FieldType := fun k => match k with
  | 0 => .array .int
  | _ => .array .int
abbrev wsX40 : List Cond := u_ws RX4 TX4 2
theorem nmX4 : ∀ a, a < 2 → ∀ b, b < 2 → a ≠ b → (TX4 a).2.1 ≠ (TX4 b).2.1 := by decide +kernel
theorem tyX4_ok : ∀ k, k < 2 → parseFieldDescriptor (TX4 k).2.2.1 = some (tyX4 k) := by decide +kernel
abbrev cX4_init : ByteArray := prog_6_method_1_code
def yX4_init : MethodName := ⟨RX4, "<init>", "()V"⟩
abbrev cX4_tryAll : ByteArray := prog_6_method_2_code
def yX4_tryAll : MethodName := ⟨RX4, "tryAll", "(LNailThreads$Board;LNailThreads$Board;II)V"⟩
abbrev cX4_isAtRest : ByteArray := prog_6_method_3_code
def yX4_isAtRest : MethodName := ⟨RX4, "isAtRest", "(I)Z"⟩
abbrev cX4_howMany : ByteArray := prog_6_method_4_code
def yX4_howMany : MethodName := ⟨RX4, "howMany", "()I"⟩
abbrev cX4_firstPair : ByteArray := prog_6_method_5_code
def yX4_firstPair : MethodName := ⟨RX4, "firstPair", "()I"⟩
def RX5 : String := "NailThreads$Ring"
def TX5 : u_T := fun k => match k with
  | _ => ("", "", "", false)
def tyX5 : Nat → FieldType := fun k => match k with
  | _ => .int
abbrev wsX50 : List Cond := u_ws RX5 TX5 0
theorem nmX5 : ∀ a, a < 0 → ∀ b, b < 0 → a ≠ b → (TX5 a).2.1 ≠ (TX5 b).2.1 := by decide +kernel
theorem tyX5_ok : ∀ k, k < 0 → parseFieldDescriptor (TX5 k).2.2.1 = some (tyX5 k) := by decide +kernel
abbrev cX5_stepsOn : ByteArray := prog_7_method_2_code
def yX5_stepsOn : MethodName := ⟨RX5, "stepsOn", "(II)I"⟩
abbrev cX5_apart : ByteArray := prog_7_method_3_code
def yX5_apart : MethodName := ⟨RX5, "apart", "(II)I"⟩
abbrev cX5_lengthBetween : ByteArray := prog_7_method_4_code
def yX5_lengthBetween : MethodName := ⟨RX5, "lengthBetween", "(II)I"⟩
abbrev cX5_doCross : ByteArray := prog_7_method_5_code
def yX5_doCross : MethodName := ⟨RX5, "doCross", "(IIII)Z"⟩
def RX6 : String := "NailThreads$Seen"
def TX6 : u_T := fun k => match k with
  | 0 => ("NailThreads$Seen", "times", "[I", true)
  | 1 => ("NailThreads$Seen", "nails", "[I", true)
  | 2 => ("NailThreads$Seen", "was", "[I", true)
  | _ => ("NailThreads$Seen", "size", "I", false)
def tyX6 : Nat → FieldType := fun k => match k with
  | 0 => .array .int
  | 1 => .array .int
  | 2 => .array .int
  | _ => .int
abbrev wsX60 : List Cond := u_ws RX6 TX6 4
theorem nmX6 : ∀ a, a < 4 → ∀ b, b < 4 → a ≠ b → (TX6 a).2.1 ≠ (TX6 b).2.1 := by decide +kernel
theorem tyX6_ok : ∀ k, k < 4 → parseFieldDescriptor (TX6 k).2.2.1 = some (tyX6 k) := by decide +kernel
abbrev cX6_init : ByteArray := prog_8_method_1_code
def yX6_init : MethodName := ⟨RX6, "<init>", "()V"⟩
abbrev cX6_size : ByteArray := prog_8_method_2_code
def yX6_size : MethodName := ⟨RX6, "size", "()I"⟩
abbrev cX6_clear : ByteArray := prog_8_method_3_code
def yX6_clear : MethodName := ⟨RX6, "clear", "()V"⟩
abbrev cX6_add : ByteArray := prog_8_method_4_code
def yX6_add : MethodName := ⟨RX6, "add", "(III)Z"⟩
abbrev cX6_fits : ByteArray := prog_8_method_5_code
def yX6_fits : MethodName := ⟨RX6, "fits", "(II)Z"⟩
abbrev cX6_howMany : ByteArray := prog_8_method_6_code
def yX6_howMany : MethodName := ⟨RX6, "howMany", "()I"⟩
abbrev cX6_firstStar : ByteArray := prog_8_method_7_code
def yX6_firstStar : MethodName := ⟨RX6, "firstStar", "()I"⟩
def RX7 : String := "NailThreads$Shelf"
def TX7 : u_T := fun k => match k with
  | 0 => ("NailThreads$Shelf", "boards", "[LNailThreads$Board;", true)
  | _ => ("NailThreads$Shelf", "isKept", "[Z", true)
def tyX7 : Nat → FieldType := fun k => match k with
  | 0 => .array (.object "NailThreads$Board")
  | _ => .array .boolean
abbrev wsX70 : List Cond := u_ws RX7 TX7 2
theorem nmX7 : ∀ a, a < 2 → ∀ b, b < 2 → a ≠ b → (TX7 a).2.1 ≠ (TX7 b).2.1 := by decide +kernel
theorem tyX7_ok : ∀ k, k < 2 → parseFieldDescriptor (TX7 k).2.2.1 = some (tyX7 k) := by decide +kernel
abbrev cX7_init : ByteArray := prog_9_method_1_code
def yX7_init : MethodName := ⟨RX7, "<init>", "()V"⟩
abbrev cX7_clear : ByteArray := prog_9_method_2_code
def yX7_clear : MethodName := ⟨RX7, "clear", "()V"⟩
abbrev cX7_put : ByteArray := prog_9_method_3_code
def yX7_put : MethodName := ⟨RX7, "put", "(ILNailThreads$Board;)V"⟩
abbrev cX7_giveBack : ByteArray := prog_9_method_4_code
def yX7_giveBack : MethodName := ⟨RX7, "giveBack", "(ILNailThreads$Board;)Z"⟩
def RX8 : String := "NailThreads$Text"
def TX8 : u_T := fun k => match k with
  | 0 => ("NailThreads$Text", "letters", "[I", true)
  | 1 => ("NailThreads$Text", "length", "I", false)
  | 2 => ("NailThreads$Text", "place", "I", false)
  | _ => ("NailThreads$Text", "kind", "I", false)
def tyX8 : Nat → FieldType := fun k => match k with
  | 0 => .array .int
  | 1 => .int
  | 2 => .int
  | _ => .int
abbrev wsX80 : List Cond := u_ws RX8 TX8 4
theorem nmX8 : ∀ a, a < 4 → ∀ b, b < 4 → a ≠ b → (TX8 a).2.1 ≠ (TX8 b).2.1 := by decide +kernel
theorem tyX8_ok : ∀ k, k < 4 → parseFieldDescriptor (TX8 k).2.2.1 = some (tyX8 k) := by decide +kernel
abbrev cX8_init : ByteArray := prog_10_method_1_code
def yX8_init : MethodName := ⟨RX8, "<init>", "()V"⟩
abbrev cX8_length : ByteArray := prog_10_method_2_code
def yX8_length : MethodName := ⟨RX8, "length", "()I"⟩
abbrev cX8_clear : ByteArray := prog_10_method_3_code
def yX8_clear : MethodName := ⟨RX8, "clear", "()V"⟩
abbrev cX8_add : ByteArray := prog_10_method_4_code
def yX8_add : MethodName := ⟨RX8, "add", "(I)Z"⟩
abbrev cX8_readOnto : ByteArray := prog_10_method_5_code
def yX8_readOnto : MethodName := ⟨RX8, "readOnto", "(LNailThreads$Board;)I"⟩
abbrev cX8_goesOn : ByteArray := prog_10_method_6_code
def yX8_goesOn : MethodName := ⟨RX8, "goesOn", "(ILNailThreads$Board;)Z"⟩
abbrev cX8_beginsThread : ByteArray := prog_10_method_7_code
def yX8_beginsThread : MethodName := ⟨RX8, "beginsThread", "(ILNailThreads$Board;)Z"⟩
abbrev cX8_windsOn : ByteArray := prog_10_method_8_code
def yX8_windsOn : MethodName := ⟨RX8, "windsOn", "(ILNailThreads$Board;)Z"⟩
abbrev cX8_isNail : ByteArray := prog_10_method_9_code
def yX8_isNail : MethodName := ⟨RX8, "isNail", "(I)Z"⟩
def RX9 : String := "NailThreads$Web"
def TX9 : u_T := fun k => match k with
  | _ => ("NailThreads$Web", "joined", "[I", true)
def tyX9 : Nat → FieldType := fun k => match k with
  | _ => .array .int
abbrev wsX90 : List Cond := u_ws RX9 TX9 1
theorem nmX9 : ∀ a, a < 1 → ∀ b, b < 1 → a ≠ b → (TX9 a).2.1 ≠ (TX9 b).2.1 := by decide +kernel
theorem tyX9_ok : ∀ k, k < 1 → parseFieldDescriptor (TX9 k).2.2.1 = some (tyX9 k) := by decide +kernel
abbrev cX9_init : ByteArray := prog_11_method_1_code
def yX9_init : MethodName := ⟨RX9, "<init>", "()V"⟩
abbrev cX9_draw : ByteArray := prog_11_method_2_code
def yX9_draw : MethodName := ⟨RX9, "draw", "(LNailThreads$Board;)V"⟩
abbrev cX9_join : ByteArray := prog_11_method_3_code
def yX9_join : MethodName := ⟨RX9, "join", "(II)V"⟩
abbrev cX9_areJoined : ByteArray := prog_11_method_4_code
def yX9_areJoined : MethodName := ⟨RX9, "areJoined", "(II)Z"⟩
abbrev cX9_partsOf : ByteArray := prog_11_method_5_code
def yX9_partsOf : MethodName := ⟨RX9, "partsOf", "(LNailThreads$Board;)I"⟩
abbrev cX9_crossedUpwards : ByteArray := prog_11_method_6_code
def yX9_crossedUpwards : MethodName := ⟨RX9, "crossedUpwards", "(II)I"⟩
abbrev cX9_strokesOf : ByteArray := prog_11_method_7_code
def yX9_strokesOf : MethodName := ⟨RX9, "strokesOf", "(LNailThreads$Board;)I"⟩
abbrev cX9_groupOf : ByteArray := prog_11_method_8_code
def yX9_groupOf : MethodName := ⟨RX9, "groupOf", "(I)I"⟩
abbrev cX9_oddNails : ByteArray := prog_11_method_9_code
def yX9_oddNails : MethodName := ⟨RX9, "oddNails", "(I)I"⟩
def RX10 : String := "NailThreads"
def TX10 : u_T := fun k => match k with
  | 0 => ("NailThreads", "text", "LNailThreads$Text;", true)
  | 1 => ("NailThreads", "now", "LNailThreads$Board;", true)
  | 2 => ("NailThreads", "trial", "LNailThreads$Board;", true)
  | 3 => ("NailThreads", "acts", "LNailThreads$History;", true)
  | 4 => ("NailThreads", "shelf", "LNailThreads$Shelf;", true)
  | 5 => ("NailThreads", "seen", "LNailThreads$Seen;", true)
  | 6 => ("NailThreads", "web", "LNailThreads$Web;", true)
  | 7 => ("NailThreads", "pairs", "LNailThreads$Rests;", true)
  | 8 => ("NailThreads", "chances", "LNailThreads$Chances;", true)
  | _ => ("NailThreads", "theSeed", "J", false)
def tyX10 : Nat → FieldType := fun k => match k with
  | 0 => .object "NailThreads$Text"
  | 1 => .object "NailThreads$Board"
  | 2 => .object "NailThreads$Board"
  | 3 => .object "NailThreads$History"
  | 4 => .object "NailThreads$Shelf"
  | 5 => .object "NailThreads$Seen"
  | 6 => .object "NailThreads$Web"
  | 7 => .object "NailThreads$Rests"
  | 8 => .object "NailThreads$Chances"
  | _ => .long
abbrev wsX100 : List Cond := u_ws RX10 TX10 10
theorem nmX10 : ∀ a, a < 10 → ∀ b, b < 10 → a ≠ b → (TX10 a).2.1 ≠ (TX10 b).2.1 := by decide +kernel
theorem tyX10_ok : ∀ k, k < 10 → parseFieldDescriptor (TX10 k).2.2.1 = some (tyX10 k) := by decide +kernel
abbrev cX10_init : ByteArray := prog_1_method_1_code
def yX10_init : MethodName := ⟨RX10, "<init>", "()V"⟩
abbrev cX10_write : ByteArray := prog_1_method_2_code
def yX10_write : MethodName := ⟨RX10, "write", "(I)I"⟩
abbrev cX10_wipe : ByteArray := prog_1_method_3_code
def yX10_wipe : MethodName := ⟨RX10, "wipe", "()I"⟩
abbrev cX10_fault : ByteArray := prog_1_method_4_code
def yX10_fault : MethodName := ⟨RX10, "fault", "()I"⟩
abbrev cX10_board : ByteArray := prog_1_method_5_code
def yX10_board : MethodName := ⟨RX10, "board", "()I"⟩
abbrev cX10_thread : ByteArray := prog_1_method_6_code
def yX10_thread : MethodName := ⟨RX10, "thread", "(II)I"⟩
abbrev cX10_stretch : ByteArray := prog_1_method_7_code
def yX10_stretch : MethodName := ⟨RX10, "stretch", "(II)I"⟩
abbrev cX10_wind : ByteArray := prog_1_method_8_code
def yX10_wind : MethodName := ⟨RX10, "wind", "(II)I"⟩
abbrev cX10_unwind : ByteArray := prog_1_method_9_code
def yX10_unwind : MethodName := ⟨RX10, "unwind", "(I)I"⟩
abbrev cX10_cut : ByteArray := prog_1_method_10_code
def yX10_cut : MethodName := ⟨RX10, "cut", "(I)I"⟩
abbrev cX10_turn : ByteArray := prog_1_method_11_code
def yX10_turn : MethodName := ⟨RX10, "turn", "()I"⟩
abbrev cX10_behind : ByteArray := prog_1_method_12_code
def yX10_behind : MethodName := ⟨RX10, "behind", "()I"⟩
abbrev cX10_undo : ByteArray := prog_1_method_13_code
def yX10_undo : MethodName := ⟨RX10, "undo", "()I"⟩
abbrev cX10_crossings : ByteArray := prog_1_method_14_code
def yX10_crossings : MethodName := ⟨RX10, "crossings", "(II)I"⟩
abbrev cX10_parts : ByteArray := prog_1_method_15_code
def yX10_parts : MethodName := ⟨RX10, "parts", "()I"⟩
abbrev cX10_strokes : ByteArray := prog_1_method_16_code
def yX10_strokes : MethodName := ⟨RX10, "strokes", "()I"⟩
abbrev cX10_next : ByteArray := prog_1_method_17_code
def yX10_next : MethodName := ⟨RX10, "next", "(II)I"⟩
abbrev cX10_star : ByteArray := prog_1_method_18_code
def yX10_star : MethodName := ⟨RX10, "star", "(IIII)I"⟩
abbrev cX10_judge : ByteArray := prog_1_method_19_code
def yX10_judge : MethodName := ⟨RX10, "judge", "(IJ)I"⟩
abbrev cX10_see : ByteArray := prog_1_method_20_code
def yX10_see : MethodName := ⟨RX10, "see", "(III)I"⟩
abbrev cX10_unsee : ByteArray := prog_1_method_21_code
def yX10_unsee : MethodName := ⟨RX10, "unsee", "()I"⟩
abbrev cX10_stars : ByteArray := prog_1_method_22_code
def yX10_stars : MethodName := ⟨RX10, "stars", "(I)I"⟩
abbrev cX10_share : ByteArray := prog_1_method_23_code
def yX10_share : MethodName := ⟨RX10, "share", "(IZ)I"⟩
abbrev cX10_rests : ByteArray := prog_1_method_24_code
def yX10_rests : MethodName := ⟨RX10, "rests", "(III)I"⟩
abbrev cX10_snaps : ByteArray := prog_1_method_25_code
def yX10_snaps : MethodName := ⟨RX10, "snaps", "(IIZ)I"⟩
abbrev cX10_seed : ByteArray := prog_1_method_26_code
def yX10_seed : MethodName := ⟨RX10, "seed", "(J)J"⟩
abbrev cX10_years : ByteArray := prog_1_method_27_code
def yX10_years : MethodName := ⟨RX10, "years", "(I)I"⟩
abbrev cX10_keep : ByteArray := prog_1_method_28_code
def yX10_keep : MethodName := ⟨RX10, "keep", "(I)I"⟩
abbrev cX10_again : ByteArray := prog_1_method_29_code
def yX10_again : MethodName := ⟨RX10, "again", "(I)I"⟩
abbrev cX10_count : ByteArray := prog_1_method_30_code
def yX10_count : MethodName := ⟨RX10, "count", "(I)I"⟩
abbrev cX10_isOutside : ByteArray := prog_1_method_31_code
def yX10_isOutside : MethodName := ⟨RX10, "isOutside", "(III)Z"⟩
def RX11 : String := "NailThreadsModel"
def TX11 : u_T := fun k => match k with
  | 0 => ("NailThreadsModel", "threads", "I", false)
  | 1 => ("NailThreadsModel", "kind", "[I", true)
  | 2 => ("NailThreadsModel", "now", "[I", true)
  | 3 => ("NailThreadsModel", "readKind", "[I", true)
  | 4 => ("NailThreadsModel", "readThreads", "I", false)
  | 5 => ("NailThreadsModel", "text", "[I", true)
  | 6 => ("NailThreadsModel", "length", "I", false)
  | 7 => ("NailThreadsModel", "isReading", "Z", false)
  | 8 => ("NailThreadsModel", "isAbove", "[I", true)
  | 9 => ("NailThreadsModel", "acts", "I", false)
  | 10 => ("NailThreadsModel", "next", "I", false)
  | 11 => ("NailThreadsModel", "row", "[I", true)
  | 12 => ("NailThreadsModel", "isLine", "[I", true)
  | 13 => ("NailThreadsModel", "seen", "I", false)
  | 14 => ("NailThreadsModel", "seenTimes", "[I", true)
  | 15 => ("NailThreadsModel", "seenNail", "[I", true)
  | 16 => ("NailThreadsModel", "seenWas", "[I", true)
  | 17 => ("NailThreadsModel", "seed", "J", false)
  | 18 => ("NailThreadsModel", "isKept", "[Z", true)
  | _ => ("NailThreadsModel", "kept", "[I", true)
def tyX11 : Nat → FieldType := fun k => match k with
  | 0 => .int
  | 1 => .array .int
  | 2 => .array .int
  | 3 => .array .int
  | 4 => .int
  | 5 => .array .int
  | 6 => .int
  | 7 => .boolean
  | 8 => .array .int
  | 9 => .int
  | 10 => .int
  | 11 => .array .int
  | 12 => .array .int
  | 13 => .int
  | 14 => .array .int
  | 15 => .array .int
  | 16 => .array .int
  | 17 => .long
  | 18 => .array .boolean
  | _ => .array .int
abbrev wsX110 : List Cond := u_ws RX11 TX11 20
theorem nmX11 : ∀ a, a < 20 → ∀ b, b < 20 → a ≠ b → (TX11 a).2.1 ≠ (TX11 b).2.1 := by decide +kernel
theorem tyX11_ok : ∀ k, k < 20 → parseFieldDescriptor (TX11 k).2.2.1 = some (tyX11 k) := by decide +kernel
abbrev cX11_init : ByteArray := prog_13_method_1_code
def yX11_init : MethodName := ⟨RX11, "<init>", "()V"⟩
abbrev cX11_in : ByteArray := prog_13_method_3_code
def yX11_in : MethodName := ⟨RX11, "in", "(JJJ)Z"⟩
abbrev cX11_has : ByteArray := prog_13_method_4_code
def yX11_has : MethodName := ⟨RX11, "has", "(II)Z"⟩
abbrev cX11_ones : ByteArray := prog_13_method_5_code
def yX11_ones : MethodName := ⟨RX11, "ones", "(I)I"⟩
abbrev cX11_isNail : ByteArray := prog_13_method_6_code
def yX11_isNail : MethodName := ⟨RX11, "isNail", "(I)Z"⟩
abbrev cX11_apart : ByteArray := prog_13_method_7_code
def yX11_apart : MethodName := ⟨RX11, "apart", "(II)I"⟩
abbrev cX11_longBy : ByteArray := prog_13_method_8_code
def yX11_longBy : MethodName := ⟨RX11, "longBy", "(II)I"⟩
abbrev cX11_isBetween : ByteArray := prog_13_method_9_code
def yX11_isBetween : MethodName := ⟨RX11, "isBetween", "(III)Z"⟩
abbrev cX11_cross : ByteArray := prog_13_method_10_code
def yX11_cross : MethodName := ⟨RX11, "cross", "(IIII)Z"⟩
abbrev cX11_asOne : ByteArray := prog_13_method_11_code
def yX11_asOne : MethodName := ⟨RX11, "asOne", "(IIII)I"⟩
abbrev cX11_threadOf : ByteArray := prog_13_method_12_code
def yX11_threadOf : MethodName := ⟨RX11, "threadOf", "(I)I"⟩
abbrev cX11_fromOf : ByteArray := prog_13_method_13_code
def yX11_fromOf : MethodName := ⟨RX11, "fromOf", "(I)I"⟩
abbrev cX11_toOf : ByteArray := prog_13_method_14_code
def yX11_toOf : MethodName := ⟨RX11, "toOf", "(I)I"⟩
abbrev cX11_whichOf : ByteArray := prog_13_method_15_code
def yX11_whichOf : MethodName := ⟨RX11, "whichOf", "(I)I"⟩
abbrev cX11_crossOnes : ByteArray := prog_13_method_16_code
def yX11_crossOnes : MethodName := ⟨RX11, "crossOnes", "(II)Z"⟩
abbrev cX11_laid : ByteArray := prog_13_method_17_code
def yX11_laid : MethodName := ⟨RX11, "laid", "(II)I"⟩
abbrev cX11_many : ByteArray := prog_13_method_18_code
def yX11_many : MethodName := ⟨RX11, "many", "(I)I"⟩
abbrev cX11_write : ByteArray := prog_13_method_19_code
def yX11_write : MethodName := ⟨RX11, "write", "(I)I"⟩
abbrev cX11_wipe : ByteArray := prog_13_method_20_code
def yX11_wipe : MethodName := ⟨RX11, "wipe", "()I"⟩
abbrev cX11_clearLevel : ByteArray := prog_13_method_21_code
def yX11_clearLevel : MethodName := ⟨RX11, "clearLevel", "(I)V"⟩
abbrev cX11_kindOf : ByteArray := prog_13_method_22_code
def yX11_kindOf : MethodName := ⟨RX11, "kindOf", "(II)I"⟩
abbrev cX11_readText : ByteArray := prog_13_method_23_code
def yX11_readText : MethodName := ⟨RX11, "readText", "()I"⟩
abbrev cX11_readParts : ByteArray := prog_13_method_24_code
def yX11_readParts : MethodName := ⟨RX11, "readParts", "()I"⟩
abbrev cX11_mayLay : ByteArray := prog_13_method_25_code
def yX11_mayLay : MethodName := ⟨RX11, "mayLay", "(II)Z"⟩
abbrev cX11_fault : ByteArray := prog_13_method_26_code
def yX11_fault : MethodName := ⟨RX11, "fault", "()I"⟩
abbrev cX11_board : ByteArray := prog_13_method_27_code
def yX11_board : MethodName := ⟨RX11, "board", "()I"⟩
abbrev cX11_isThread : ByteArray := prog_13_method_28_code
def yX11_isThread : MethodName := ⟨RX11, "isThread", "(I)Z"⟩
abbrev cX11_stretchesOf : ByteArray := prog_13_method_29_code
def yX11_stretchesOf : MethodName := ⟨RX11, "stretchesOf", "(II)I"⟩
abbrev cX11_longOf : ByteArray := prog_13_method_30_code
def yX11_longOf : MethodName := ⟨RX11, "longOf", "(II)I"⟩
abbrev cX11_crossedBy : ByteArray := prog_13_method_31_code
def yX11_crossedBy : MethodName := ⟨RX11, "crossedBy", "(IIII)I"⟩
abbrev cX11_mayWind : ByteArray := prog_13_method_32_code
def yX11_mayWind : MethodName := ⟨RX11, "mayWind", "(III)Z"⟩
abbrev cX11_windOn : ByteArray := prog_13_method_33_code
def yX11_windOn : MethodName := ⟨RX11, "windOn", "(III)I"⟩
abbrev cX11_lastOf : ByteArray := prog_13_method_34_code
def yX11_lastOf : MethodName := ⟨RX11, "lastOf", "(II)I"⟩
abbrev cX11_overOf : ByteArray := prog_13_method_35_code
def yX11_overOf : MethodName := ⟨RX11, "overOf", "(II)I"⟩
abbrev cX11_canUnwind : ByteArray := prog_13_method_36_code
def yX11_canUnwind : MethodName := ⟨RX11, "canUnwind", "(II)Z"⟩
abbrev cX11_takeOff : ByteArray := prog_13_method_37_code
def yX11_takeOff : MethodName := ⟨RX11, "takeOff", "(II)V"⟩
abbrev cX11_unwindOn : ByteArray := prog_13_method_38_code
def yX11_unwindOn : MethodName := ⟨RX11, "unwindOn", "(II)V"⟩
abbrev cX11_cutOn : ByteArray := prog_13_method_39_code
def yX11_cutOn : MethodName := ⟨RX11, "cutOn", "(II)I"⟩
abbrev cX11_renamed : ByteArray := prog_13_method_40_code
def yX11_renamed : MethodName := ⟨RX11, "renamed", "(IZ)I"⟩
abbrev cX11_renameOn : ByteArray := prog_13_method_41_code
def yX11_renameOn : MethodName := ⟨RX11, "renameOn", "(IZ)V"⟩
abbrev cX11_mayGo : ByteArray := prog_13_method_42_code
def yX11_mayGo : MethodName := ⟨RX11, "mayGo", "(I)I"⟩
abbrev cX11_thread : ByteArray := prog_13_method_43_code
def yX11_thread : MethodName := ⟨RX11, "thread", "(II)I"⟩
abbrev cX11_aboveOf : ByteArray := prog_13_method_44_code
def yX11_aboveOf : MethodName := ⟨RX11, "aboveOf", "(I)I"⟩
abbrev cX11_stretch : ByteArray := prog_13_method_45_code
def yX11_stretch : MethodName := ⟨RX11, "stretch", "(II)I"⟩
abbrev cX11_keepAct : ByteArray := prog_13_method_46_code
def yX11_keepAct : MethodName := ⟨RX11, "keepAct", "()V"⟩
abbrev cX11_wind : ByteArray := prog_13_method_47_code
def yX11_wind : MethodName := ⟨RX11, "wind", "(II)I"⟩
abbrev cX11_unwind : ByteArray := prog_13_method_48_code
def yX11_unwind : MethodName := ⟨RX11, "unwind", "(I)I"⟩
abbrev cX11_cut : ByteArray := prog_13_method_49_code
def yX11_cut : MethodName := ⟨RX11, "cut", "(I)I"⟩
abbrev cX11_turn : ByteArray := prog_13_method_50_code
def yX11_turn : MethodName := ⟨RX11, "turn", "()I"⟩
abbrev cX11_behind : ByteArray := prog_13_method_51_code
def yX11_behind : MethodName := ⟨RX11, "behind", "()I"⟩
abbrev cX11_undo : ByteArray := prog_13_method_52_code
def yX11_undo : MethodName := ⟨RX11, "undo", "()I"⟩
abbrev cX11_layTrial : ByteArray := prog_13_method_53_code
def yX11_layTrial : MethodName := ⟨RX11, "layTrial", "()V"⟩
abbrev cX11_crossesOf : ByteArray := prog_13_method_54_code
def yX11_crossesOf : MethodName := ⟨RX11, "crossesOf", "(II)I"⟩
abbrev cX11_crossesOfTwo : ByteArray := prog_13_method_55_code
def yX11_crossesOfTwo : MethodName := ⟨RX11, "crossesOfTwo", "(III)I"⟩
abbrev cX11_crossings : ByteArray := prog_13_method_56_code
def yX11_crossings : MethodName := ⟨RX11, "crossings", "(II)I"⟩
abbrev cX11_findLines : ByteArray := prog_13_method_57_code
def yX11_findLines : MethodName := ⟨RX11, "findLines", "(I)V"⟩
abbrev cX11_partsOn : ByteArray := prog_13_method_58_code
def yX11_partsOn : MethodName := ⟨RX11, "partsOn", "(I)I"⟩
abbrev cX11_parts : ByteArray := prog_13_method_59_code
def yX11_parts : MethodName := ⟨RX11, "parts", "()I"⟩
abbrev cX11_partOf : ByteArray := prog_13_method_60_code
def yX11_partOf : MethodName := ⟨RX11, "partOf", "(I)I"⟩
abbrev cX11_linesAt : ByteArray := prog_13_method_61_code
def yX11_linesAt : MethodName := ⟨RX11, "linesAt", "(I)I"⟩
abbrev cX11_strokes : ByteArray := prog_13_method_62_code
def yX11_strokes : MethodName := ⟨RX11, "strokes", "()I"⟩
abbrev cX11_next : ByteArray := prog_13_method_63_code
def yX11_next : MethodName := ⟨RX11, "next", "(II)I"⟩
abbrev cX11_star : ByteArray := prog_13_method_64_code
def yX11_star : MethodName := ⟨RX11, "star", "(IIII)I"⟩
abbrev cX11_tryThing : ByteArray := prog_13_method_65_code
def yX11_tryThing : MethodName := ⟨RX11, "tryThing", "(III)Z"⟩
abbrev cX11_tenThousandTo : ByteArray := prog_13_method_66_code
def yX11_tenThousandTo : MethodName := ⟨RX11, "tenThousandTo", "(I)J"⟩
abbrev cX11_judge : ByteArray := prog_13_method_67_code
def yX11_judge : MethodName := ⟨RX11, "judge", "(IJ)I"⟩
abbrev cX11_see : ByteArray := prog_13_method_68_code
def yX11_see : MethodName := ⟨RX11, "see", "(III)I"⟩
abbrev cX11_unsee : ByteArray := prog_13_method_69_code
def yX11_unsee : MethodName := ⟨RX11, "unsee", "()I"⟩
abbrev cX11_stars : ByteArray := prog_13_method_70_code
def yX11_stars : MethodName := ⟨RX11, "stars", "(I)I"⟩
abbrev cX11_factorial : ByteArray := prog_13_method_71_code
def yX11_factorial : MethodName := ⟨RX11, "factorial", "(I)I"⟩
abbrev cX11_common : ByteArray := prog_13_method_72_code
def yX11_common : MethodName := ⟨RX11, "common", "(II)I"⟩
abbrev cX11_share : ByteArray := prog_13_method_73_code
def yX11_share : MethodName := ⟨RX11, "share", "(IZ)I"⟩
abbrev cX11_choose : ByteArray := prog_13_method_74_code
def yX11_choose : MethodName := ⟨RX11, "choose", "(II)V"⟩
abbrev cX11_gain : ByteArray := prog_13_method_75_code
def yX11_gain : MethodName := ⟨RX11, "gain", "(IIIII)I"⟩
abbrev cX11_isRest : ByteArray := prog_13_method_76_code
def yX11_isRest : MethodName := ⟨RX11, "isRest", "(IIII)Z"⟩
abbrev cX11_rests : ByteArray := prog_13_method_77_code
def yX11_rests : MethodName := ⟨RX11, "rests", "(III)I"⟩
abbrev cX11_snaps : ByteArray := prog_13_method_78_code
def yX11_snaps : MethodName := ⟨RX11, "snaps", "(IIZ)I"⟩
abbrev cX11_seed : ByteArray := prog_13_method_79_code
def yX11_seed : MethodName := ⟨RX11, "seed", "(J)J"⟩
abbrev cX11_years : ByteArray := prog_13_method_80_code
def yX11_years : MethodName := ⟨RX11, "years", "(I)I"⟩
abbrev cX11_keep : ByteArray := prog_13_method_81_code
def yX11_keep : MethodName := ⟨RX11, "keep", "(I)I"⟩
abbrev cX11_again : ByteArray := prog_13_method_82_code
def yX11_again : MethodName := ⟨RX11, "again", "(I)I"⟩
abbrev cX11_usedNails : ByteArray := prog_13_method_83_code
def yX11_usedNails : MethodName := ⟨RX11, "usedNails", "()I"⟩
abbrev cX11_count : ByteArray := prog_13_method_84_code
def yX11_count : MethodName := ⟨RX11, "count", "(I)I"⟩
def RJ6 : String := "java/lang/Integer"
def TJ6 : u_T := fun k => match k with
  | _ => ("", "", "", false)
def tyJ6 : Nat → FieldType := fun k => match k with
  | _ => .int
abbrev wsJ60 : List Cond := u_ws RJ6 TJ6 0
theorem nmJ6 : ∀ a, a < 0 → ∀ b, b < 0 → a ≠ b → (TJ6 a).2.1 ≠ (TJ6 b).2.1 := by decide +kernel
theorem tyJ6_ok : ∀ k, k < 0 → parseFieldDescriptor (TJ6 k).2.2.1 = some (tyJ6 k) := by decide +kernel
abbrev cJ6_bitCount_0f7a4 : ByteArray := prog_14_method_49_code
def yJ6_bitCount_0f7a4 : MethodName := ⟨RJ6, "bitCount", "(I)I"⟩
def RJ13 : String := "java/lang/Long"
def TJ13 : u_T := fun k => match k with
  | _ => ("", "", "", false)
def tyJ13 : Nat → FieldType := fun k => match k with
  | _ => .int
abbrev wsJ130 : List Cond := u_ws RJ13 TJ13 0
theorem nmJ13 : ∀ a, a < 0 → ∀ b, b < 0 → a ≠ b → (TJ13 a).2.1 ≠ (TJ13 b).2.1 := by decide +kernel
theorem tyJ13_ok : ∀ k, k < 0 → parseFieldDescriptor (TJ13 k).2.2.1 = some (tyJ13 k) := by decide +kernel
abbrev cJ13_bitCount_95d88 : ByteArray := prog_15_method_50_code
def yJ13_bitCount_95d88 : MethodName := ⟨RJ13, "bitCount", "(J)I"⟩
def RJ9 : String := "java/lang/Math"
def TJ9 : u_T := fun k => match k with
  | _ => ("", "", "", false)
def tyJ9 : Nat → FieldType := fun k => match k with
  | _ => .int
abbrev wsJ90 : List Cond := u_ws RJ9 TJ9 0
theorem nmJ9 : ∀ a, a < 0 → ∀ b, b < 0 → a ≠ b → (TJ9 a).2.1 ≠ (TJ9 b).2.1 := by decide +kernel
theorem tyJ9_ok : ∀ k, k < 0 → parseFieldDescriptor (TJ9 k).2.2.1 = some (tyJ9 k) := by decide +kernel
abbrev cJ9_floorMod_7cf53 : ByteArray := prog_16_method_50_code
def yJ9_floorMod_7cf53 : MethodName := ⟨RJ9, "floorMod", "(II)I"⟩
abbrev cJ9_abs_0f7a4 : ByteArray := prog_16_method_59_code
def yJ9_abs_0f7a4 : MethodName := ⟨RJ9, "abs", "(I)I"⟩
abbrev cJ9_max_7cf53 : ByteArray := prog_16_method_65_code
def yJ9_max_7cf53 : MethodName := ⟨RJ9, "max", "(II)I"⟩
abbrev cJ9_min_7cf53 : ByteArray := prog_16_method_69_code
def yJ9_min_7cf53 : MethodName := ⟨RJ9, "min", "(II)I"⟩
def RJ10 : String := "java/lang/System"
def TJ10 : u_T := fun k => match k with
  | _ => ("", "", "", false)
def tyJ10 : Nat → FieldType := fun k => match k with
  | _ => .int
abbrev wsJ100 : List Cond := u_ws RJ10 TJ10 0
theorem nmJ10 : ∀ a, a < 0 → ∀ b, b < 0 → a ≠ b → (TJ10 a).2.1 ≠ (TJ10 b).2.1 := by decide +kernel
theorem tyJ10_ok : ∀ k, k < 0 → parseFieldDescriptor (TJ10 k).2.2.1 = some (tyJ10 k) := by decide +kernel
def RL : String := "NailThreadsLaw"
abbrev cL_law : ByteArray := code
def yL_law : MethodName := ⟨RL, "law", "([I)Z"⟩
abbrev vwCl : List vw_C := [(RX0, TX0, 7), (RX1, TX1, 1), (RX3, TX3, 3), (RX4, TX4, 2), (RX6, TX6, 4), (RX7, TX7, 2), (RX8, TX8, 4), (RX9, TX9, 1), (RX10, TX10, 10), (RX11, TX11, 20)]
/-- a method: its name, code, how many locals, what it returns, frames and words of locals that its calls want -/
abbrev xM : Type := MethodName × ByteArray × Nat × Option FieldType × Nat × Nat
abbrev mX0_init : xM := (yX0_init, cX0_init, 1, none, 1, 12)
abbrev mX0_clear : xM := (yX0_clear, cX0_clear, 1, none, 0, 0)
abbrev mX0_becomeLike : xM := (yX0_becomeLike, cX0_becomeLike, 3, none, 1, 26)
abbrev mX0_tie : xM := (yX0_tie, cX0_tie, 3, (some .boolean), 0, 0)
abbrev mX0_threads : xM := (yX0_threads, cX0_threads, 1, (some .int), 0, 0)
abbrev mX0_size : xM := (yX0_size, cX0_size, 1, (some .int), 0, 0)
abbrev mX0_hasThread : xM := (yX0_hasThread, cX0_hasThread, 2, (some .boolean), 0, 0)
abbrev mX0_hasStretch : xM := (yX0_hasStretch, cX0_hasStretch, 2, (some .boolean), 0, 0)
abbrev mX0_nailOf : xM := (yX0_nailOf, cX0_nailOf, 2, (some .int), 1, 21)
abbrev mX0_kindOf : xM := (yX0_kindOf, cX0_kindOf, 2, (some .int), 1, 21)
abbrev mX0_stretchesOf : xM := (yX0_stretchesOf, cX0_stretchesOf, 2, (some .int), 1, 21)
abbrev mX0_threadAt : xM := (yX0_threadAt, cX0_threadAt, 2, (some .int), 0, 0)
abbrev mX0_fromAt : xM := (yX0_fromAt, cX0_fromAt, 2, (some .int), 0, 0)
abbrev mX0_toAt : xM := (yX0_toAt, cX0_toAt, 2, (some .int), 0, 0)
abbrev mX0_placeAt : xM := (yX0_placeAt, cX0_placeAt, 2, (some .int), 0, 0)
abbrev mX0_packed : xM := (yX0_packed, cX0_packed, 4, (some .int), 0, 0)
abbrev mX0_lengthOf : xM := (yX0_lengthOf, cX0_lengthOf, 4, (some .int), 1, 22)
abbrev mX0_lengthOfAll : xM := (yX0_lengthOfAll, cX0_lengthOfAll, 3, (some .int), 1, 22)
abbrev mX0_endNails : xM := (yX0_endNails, cX0_endNails, 3, (some .int), 1, 21)
abbrev mX0_mayWind : xM := (yX0_mayWind, cX0_mayWind, 4, (some .boolean), 2, 51)
abbrev mX0_openNails : xM := (yX0_openNails, cX0_openNails, 4, (some .int), 3, 74)
abbrev mX0_bestNail : xM := (yX0_bestNail, cX0_bestNail, 6, (some .int), 3, 74)
abbrev mX0_crossed : xM := (yX0_crossed, cX0_crossed, 7, (some .int), 1, 25)
abbrev mX0_crossedBetween : xM := (yX0_crossedBetween, cX0_crossedBetween, 3, (some .int), 2, 51)
abbrev mX0_crossingFrom : xM := (yX0_crossingFrom, cX0_crossingFrom, 3, (some .int), 2, 51)
abbrev mX0_aboveOf : xM := (yX0_aboveOf, cX0_aboveOf, 5, (some .int), 2, 49)
abbrev mX0_crossesOneOf : xM := (yX0_crossesOneOf, cX0_crossesOneOf, 5, (some .boolean), 1, 25)
abbrev mX0_crossingsOf : xM := (yX0_crossingsOf, cX0_crossingsOf, 5, (some .int), 2, 51)
abbrev mX0_allCrossings : xM := (yX0_allCrossings, cX0_allCrossings, 1, (some .int), 0, 0)
abbrev mX0_lastOf : xM := (yX0_lastOf, cX0_lastOf, 3, (some .int), 1, 21)
abbrev mX0_worthOf : xM := (yX0_worthOf, cX0_worthOf, 3, (some .int), 3, 73)
abbrev mX0_windOn : xM := (yX0_windOn, cX0_windOn, 5, (some .int), 2, 51)
abbrev mX0_windStar : xM := (yX0_windStar, cX0_windStar, 7, (some .int), 3, 75)
abbrev mX0_mayUnwind : xM := (yX0_mayUnwind, cX0_mayUnwind, 3, (some .boolean), 2, 51)
abbrev mX0_unwindLast : xM := (yX0_unwindLast, cX0_unwindLast, 4, (some .int), 2, 51)
abbrev mX0_mayCut : xM := (yX0_mayCut, cX0_mayCut, 2, (some .boolean), 2, 42)
abbrev mX0_cutOff : xM := (yX0_cutOff, cX0_cutOff, 5, (some .int), 2, 51)
abbrev mX0_turnByOne : xM := (yX0_turnByOne, cX0_turnByOne, 2, none, 2, 43)
abbrev mX0_turnOver : xM := (yX0_turnOver, cX0_turnOver, 4, none, 2, 43)
abbrev mX1_init : xM := (yX1_init, cX1_init, 1, none, 1, 12)
abbrev mX1_toldFraction : xM := (yX1_toldFraction, cX1_toldFraction, 4, (some .int), 2, 45)
abbrev mX1_commonDivisor : xM := (yX1_commonDivisor, cX1_commonDivisor, 6, (some .int), 1, 20)
abbrev mX1_twiceShare : xM := (yX1_twiceShare, cX1_twiceShare, 5, (some .int), 3, 75)
abbrev mX1_allWeight : xM := (yX1_allWeight, cX1_allWeight, 3, (some .int), 1, 20)
abbrev mX1_weightOfSnaps : xM := (yX1_weightOfSnaps, cX1_weightOfSnaps, 6, (some .int), 4, 98)
abbrev mX1_countBetween : xM := (yX1_countBetween, cX1_countBetween, 4, none, 3, 75)
abbrev mX1_crossingsAmong : xM := (yX1_crossingsAmong, cX1_crossingsAmong, 5, (some .int), 0, 0)
abbrev mX1_weightOf : xM := (yX1_weightOf, cX1_weightOf, 5, (some .int), 1, 20)
abbrev mX1_drawnFrom : xM := (yX1_drawnFrom, cX1_drawnFrom, 2, (some .long), 0, 0)
abbrev mX1_liveYear : xM := (yX1_liveYear, cX1_liveYear, 4, none, 4, 97)
abbrev mX2_isTooLong : xM := (yX2_isTooLong, cX2_isTooLong, 3, (some .boolean), 1, 22)
abbrev mX2_firstWrong : xM := (yX2_firstWrong, cX2_firstWrong, 7, (some .int), 5, 120)
abbrev mX2_powerAt : xM := (yX2_powerAt, cX2_powerAt, 1, (some .long), 1, 22)
abbrev mX2_comesTrue : xM := (yX2_comesTrue, cX2_comesTrue, 3, (some .boolean), 4, 98)
abbrev mX2_winds : xM := (yX2_winds, cX2_winds, 3, (some .boolean), 3, 75)
abbrev mX2_unwinds : xM := (yX2_unwinds, cX2_unwinds, 2, (some .boolean), 3, 74)
abbrev mX2_cuts : xM := (yX2_cuts, cX2_cuts, 2, (some .boolean), 3, 75)
abbrev mX2_turns : xM := (yX2_turns, cX2_turns, 1, (some .boolean), 3, 64)
abbrev mX2_turnsOver : xM := (yX2_turnsOver, cX2_turnsOver, 1, (some .boolean), 3, 66)
abbrev mX2_doCross : xM := (yX2_doCross, cX2_doCross, 4, (some .boolean), 3, 75)
abbrev mX3_init : xM := (yX3_init, cX3_init, 2, none, 2, 32)
abbrev mX3_size : xM := (yX3_size, cX3_size, 1, (some .int), 0, 0)
abbrev mX3_clear : xM := (yX3_clear, cX3_clear, 1, none, 0, 0)
abbrev mX3_add : xM := (yX3_add, cX3_add, 2, none, 2, 48)
abbrev mX3_takeBack : xM := (yX3_takeBack, cX3_takeBack, 2, (some .boolean), 2, 48)
abbrev mX4_init : xM := (yX4_init, cX4_init, 1, none, 1, 12)
abbrev mX4_tryAll : xM := (yX4_tryAll, cX4_tryAll, 6, none, 4, 101)
abbrev mX4_isAtRest : xM := (yX4_isAtRest, cX4_isAtRest, 2, (some .boolean), 0, 0)
abbrev mX4_howMany : xM := (yX4_howMany, cX4_howMany, 3, (some .int), 1, 21)
abbrev mX4_firstPair : xM := (yX4_firstPair, cX4_firstPair, 2, (some .int), 1, 21)
abbrev mX5_stepsOn : xM := (yX5_stepsOn, cX5_stepsOn, 2, (some .int), 1, 22)
abbrev mX5_apart : xM := (yX5_apart, cX5_apart, 3, (some .int), 1, 22)
abbrev mX5_lengthBetween : xM := (yX5_lengthBetween, cX5_lengthBetween, 3, (some .int), 0, 0)
abbrev mX5_doCross : xM := (yX5_doCross, cX5_doCross, 6, (some .boolean), 0, 0)
abbrev mX6_init : xM := (yX6_init, cX6_init, 1, none, 1, 12)
abbrev mX6_size : xM := (yX6_size, cX6_size, 1, (some .int), 0, 0)
abbrev mX6_clear : xM := (yX6_clear, cX6_clear, 1, none, 0, 0)
abbrev mX6_add : xM := (yX6_add, cX6_add, 4, (some .boolean), 0, 0)
abbrev mX6_fits : xM := (yX6_fits, cX6_fits, 5, (some .boolean), 2, 43)
abbrev mX6_howMany : xM := (yX6_howMany, cX6_howMany, 4, (some .int), 3, 67)
abbrev mX6_firstStar : xM := (yX6_firstStar, cX6_firstStar, 3, (some .int), 3, 67)
abbrev mX7_init : xM := (yX7_init, cX7_init, 2, none, 2, 32)
abbrev mX7_clear : xM := (yX7_clear, cX7_clear, 2, none, 0, 0)
abbrev mX7_put : xM := (yX7_put, cX7_put, 3, none, 2, 48)
abbrev mX7_giveBack : xM := (yX7_giveBack, cX7_giveBack, 3, (some .boolean), 2, 48)
abbrev mX8_init : xM := (yX8_init, cX8_init, 1, none, 1, 12)
abbrev mX8_length : xM := (yX8_length, cX8_length, 1, (some .int), 0, 0)
abbrev mX8_clear : xM := (yX8_clear, cX8_clear, 1, none, 0, 0)
abbrev mX8_add : xM := (yX8_add, cX8_add, 2, (some .boolean), 0, 0)
abbrev mX8_readOnto : xM := (yX8_readOnto, cX8_readOnto, 3, (some .int), 5, 120)
abbrev mX8_goesOn : xM := (yX8_goesOn, cX8_goesOn, 3, (some .boolean), 4, 98)
abbrev mX8_beginsThread : xM := (yX8_beginsThread, cX8_beginsThread, 3, (some .boolean), 1, 20)
abbrev mX8_windsOn : xM := (yX8_windsOn, cX8_windsOn, 4, (some .boolean), 3, 75)
abbrev mX8_isNail : xM := (yX8_isNail, cX8_isNail, 1, (some .boolean), 1, 22)
abbrev mX9_init : xM := (yX9_init, cX9_init, 1, none, 1, 12)
abbrev mX9_draw : xM := (yX9_draw, cX9_draw, 3, none, 2, 44)
abbrev mX9_join : xM := (yX9_join, cX9_join, 3, none, 1, 22)
abbrev mX9_areJoined : xM := (yX9_areJoined, cX9_areJoined, 3, (some .boolean), 0, 0)
abbrev mX9_partsOf : xM := (yX9_partsOf, cX9_partsOf, 5, (some .int), 3, 66)
abbrev mX9_crossedUpwards : xM := (yX9_crossedUpwards, cX9_crossedUpwards, 5, (some .int), 1, 20)
abbrev mX9_strokesOf : xM := (yX9_strokesOf, cX9_strokesOf, 6, (some .int), 3, 66)
abbrev mX9_groupOf : xM := (yX9_groupOf, cX9_groupOf, 5, (some .int), 0, 0)
abbrev mX9_oddNails : xM := (yX9_oddNails, cX9_oddNails, 4, (some .int), 1, 20)
abbrev mX10_init : xM := (yX10_init, cX10_init, 1, none, 3, 53)
abbrev mX10_write : xM := (yX10_write, cX10_write, 2, (some .int), 1, 22)
abbrev mX10_wipe : xM := (yX10_wipe, cX10_wipe, 2, (some .int), 1, 20)
abbrev mX10_fault : xM := (yX10_fault, cX10_fault, 1, (some .int), 6, 142)
abbrev mX10_board : xM := (yX10_board, cX10_board, 1, (some .int), 6, 142)
abbrev mX10_thread : xM := (yX10_thread, cX10_thread, 3, (some .int), 4, 97)
abbrev mX10_stretch : xM := (yX10_stretch, cX10_stretch, 3, (some .int), 3, 73)
abbrev mX10_wind : xM := (yX10_wind, cX10_wind, 3, (some .int), 3, 75)
abbrev mX10_unwind : xM := (yX10_unwind, cX10_unwind, 2, (some .int), 3, 74)
abbrev mX10_cut : xM := (yX10_cut, cX10_cut, 2, (some .int), 3, 75)
abbrev mX10_turn : xM := (yX10_turn, cX10_turn, 1, (some .int), 3, 69)
abbrev mX10_behind : xM := (yX10_behind, cX10_behind, 1, (some .int), 3, 69)
abbrev mX10_undo : xM := (yX10_undo, cX10_undo, 1, (some .int), 3, 69)
abbrev mX10_crossings : xM := (yX10_crossings, cX10_crossings, 3, (some .int), 3, 75)
abbrev mX10_parts : xM := (yX10_parts, cX10_parts, 1, (some .int), 4, 90)
abbrev mX10_strokes : xM := (yX10_strokes, cX10_strokes, 1, (some .int), 4, 91)
abbrev mX10_next : xM := (yX10_next, cX10_next, 4, (some .int), 4, 99)
abbrev mX10_star : xM := (yX10_star, cX10_star, 6, (some .int), 4, 101)
abbrev mX10_judge : xM := (yX10_judge, cX10_judge, 4, (some .int), 6, 146)
abbrev mX10_see : xM := (yX10_see, cX10_see, 4, (some .int), 1, 23)
abbrev mX10_unsee : xM := (yX10_unsee, cX10_unsee, 2, (some .int), 1, 20)
abbrev mX10_stars : xM := (yX10_stars, cX10_stars, 2, (some .int), 4, 90)
abbrev mX10_share : xM := (yX10_share, cX10_share, 3, (some .int), 4, 99)
abbrev mX10_rests : xM := (yX10_rests, cX10_rests, 4, (some .int), 5, 126)
abbrev mX10_snaps : xM := (yX10_snaps, cX10_snaps, 4, (some .int), 5, 123)
abbrev mX10_seed : xM := (yX10_seed, cX10_seed, 5, (some .long), 0, 0)
abbrev mX10_years : xM := (yX10_years, cX10_years, 4, (some .int), 5, 120)
abbrev mX10_keep : xM := (yX10_keep, cX10_keep, 2, (some .int), 3, 70)
abbrev mX10_again : xM := (yX10_again, cX10_again, 2, (some .int), 3, 70)
abbrev mX10_count : xM := (yX10_count, cX10_count, 2, (some .int), 2, 44)
abbrev mX10_isOutside : xM := (yX10_isOutside, cX10_isOutside, 3, (some .boolean), 0, 0)
abbrev mX11_init : xM := (yX11_init, cX11_init, 1, none, 1, 12)
abbrev mX11_in : xM := (yX11_in, cX11_in, 6, (some .boolean), 0, 0)
abbrev mX11_has : xM := (yX11_has, cX11_has, 2, (some .boolean), 0, 0)
abbrev mX11_ones : xM := (yX11_ones, cX11_ones, 3, (some .int), 0, 0)
abbrev mX11_isNail : xM := (yX11_isNail, cX11_isNail, 1, (some .boolean), 1, 25)
abbrev mX11_apart : xM := (yX11_apart, cX11_apart, 3, (some .int), 0, 0)
abbrev mX11_longBy : xM := (yX11_longBy, cX11_longBy, 2, (some .int), 1, 22)
abbrev mX11_isBetween : xM := (yX11_isBetween, cX11_isBetween, 3, (some .boolean), 0, 0)
abbrev mX11_cross : xM := (yX11_cross, cX11_cross, 4, (some .boolean), 1, 22)
abbrev mX11_asOne : xM := (yX11_asOne, cX11_asOne, 4, (some .int), 0, 0)
abbrev mX11_threadOf : xM := (yX11_threadOf, cX11_threadOf, 1, (some .int), 0, 0)
abbrev mX11_fromOf : xM := (yX11_fromOf, cX11_fromOf, 1, (some .int), 0, 0)
abbrev mX11_toOf : xM := (yX11_toOf, cX11_toOf, 1, (some .int), 0, 0)
abbrev mX11_whichOf : xM := (yX11_whichOf, cX11_whichOf, 1, (some .int), 0, 0)
abbrev mX11_crossOnes : xM := (yX11_crossOnes, cX11_crossOnes, 2, (some .boolean), 2, 45)
abbrev mX11_laid : xM := (yX11_laid, cX11_laid, 3, (some .int), 0, 0)
abbrev mX11_many : xM := (yX11_many, cX11_many, 2, (some .int), 0, 0)
abbrev mX11_write : xM := (yX11_write, cX11_write, 2, (some .int), 1, 25)
abbrev mX11_wipe : xM := (yX11_wipe, cX11_wipe, 2, (some .int), 0, 0)
abbrev mX11_clearLevel : xM := (yX11_clearLevel, cX11_clearLevel, 3, none, 0, 0)
abbrev mX11_kindOf : xM := (yX11_kindOf, cX11_kindOf, 3, (some .int), 0, 0)
abbrev mX11_readText : xM := (yX11_readText, cX11_readText, 2, (some .int), 6, 144)
abbrev mX11_readParts : xM := (yX11_readParts, cX11_readParts, 5, (some .int), 5, 120)
abbrev mX11_mayLay : xM := (yX11_mayLay, cX11_mayLay, 3, (some .boolean), 4, 98)
abbrev mX11_fault : xM := (yX11_fault, cX11_fault, 1, (some .int), 7, 165)
abbrev mX11_board : xM := (yX11_board, cX11_board, 2, (some .int), 7, 165)
abbrev mX11_isThread : xM := (yX11_isThread, cX11_isThread, 2, (some .boolean), 1, 25)
abbrev mX11_stretchesOf : xM := (yX11_stretchesOf, cX11_stretchesOf, 5, (some .int), 1, 22)
abbrev mX11_longOf : xM := (yX11_longOf, cX11_longOf, 5, (some .int), 2, 43)
abbrev mX11_crossedBy : xM := (yX11_crossedBy, cX11_crossedBy, 8, (some .int), 2, 45)
abbrev mX11_mayWind : xM := (yX11_mayWind, cX11_mayWind, 6, (some .boolean), 3, 72)
abbrev mX11_windOn : xM := (yX11_windOn, cX11_windOn, 7, (some .int), 3, 72)
abbrev mX11_lastOf : xM := (yX11_lastOf, cX11_lastOf, 6, (some .int), 1, 22)
abbrev mX11_overOf : xM := (yX11_overOf, cX11_overOf, 5, (some .int), 3, 66)
abbrev mX11_canUnwind : xM := (yX11_canUnwind, cX11_canUnwind, 3, (some .boolean), 4, 90)
abbrev mX11_takeOff : xM := (yX11_takeOff, cX11_takeOff, 5, none, 0, 0)
abbrev mX11_unwindOn : xM := (yX11_unwindOn, cX11_unwindOn, 4, none, 2, 47)
abbrev mX11_cutOn : xM := (yX11_cutOn, cX11_cutOn, 5, (some .int), 1, 24)
abbrev mX11_renamed : xM := (yX11_renamed, cX11_renamed, 2, (some .int), 0, 0)
abbrev mX11_renameOn : xM := (yX11_renameOn, cX11_renameOn, 7, none, 1, 23)
abbrev mX11_mayGo : xM := (yX11_mayGo, cX11_mayGo, 4, (some .int), 4, 97)
abbrev mX11_thread : xM := (yX11_thread, cX11_thread, 3, (some .int), 5, 120)
abbrev mX11_aboveOf : xM := (yX11_aboveOf, cX11_aboveOf, 6, (some .int), 3, 66)
abbrev mX11_stretch : xM := (yX11_stretch, cX11_stretch, 4, (some .int), 4, 91)
abbrev mX11_keepAct : xM := (yX11_keepAct, cX11_keepAct, 2, none, 0, 0)
abbrev mX11_wind : xM := (yX11_wind, cX11_wind, 3, (some .int), 4, 98)
abbrev mX11_unwind : xM := (yX11_unwind, cX11_unwind, 2, (some .int), 5, 112)
abbrev mX11_cut : xM := (yX11_cut, cX11_cut, 2, (some .int), 2, 48)
abbrev mX11_turn : xM := (yX11_turn, cX11_turn, 1, (some .int), 2, 49)
abbrev mX11_behind : xM := (yX11_behind, cX11_behind, 1, (some .int), 2, 49)
abbrev mX11_undo : xM := (yX11_undo, cX11_undo, 2, (some .int), 0, 0)
abbrev mX11_layTrial : xM := (yX11_layTrial, cX11_layTrial, 2, none, 0, 0)
abbrev mX11_crossesOf : xM := (yX11_crossesOf, cX11_crossesOf, 7, (some .int), 3, 66)
abbrev mX11_crossesOfTwo : xM := (yX11_crossesOfTwo, cX11_crossesOfTwo, 5, (some .int), 4, 92)
abbrev mX11_crossings : xM := (yX11_crossings, cX11_crossings, 3, (some .int), 5, 116)
abbrev mX11_findLines : xM := (yX11_findLines, cX11_findLines, 5, none, 1, 22)
abbrev mX11_partsOn : xM := (yX11_partsOn, cX11_partsOn, 5, (some .int), 2, 46)
abbrev mX11_parts : xM := (yX11_parts, cX11_parts, 1, (some .int), 3, 70)
abbrev mX11_partOf : xM := (yX11_partOf, cX11_partOf, 6, (some .int), 1, 21)
abbrev mX11_linesAt : xM := (yX11_linesAt, cX11_linesAt, 4, (some .int), 0, 0)
abbrev mX11_strokes : xM := (yX11_strokes, cX11_strokes, 7, (some .int), 2, 46)
abbrev mX11_next : xM := (yX11_next, cX11_next, 7, (some .int), 4, 97)
abbrev mX11_star : xM := (yX11_star, cX11_star, 10, (some .int), 4, 98)
abbrev mX11_tryThing : xM := (yX11_tryThing, cX11_tryThing, 8, (some .boolean), 5, 116)
abbrev mX11_tenThousandTo : xM := (yX11_tenThousandTo, cX11_tenThousandTo, 4, (some .long), 0, 0)
abbrev mX11_judge : xM := (yX11_judge, cX11_judge, 6, (some .int), 6, 143)
abbrev mX11_see : xM := (yX11_see, cX11_see, 4, (some .int), 2, 45)
abbrev mX11_unsee : xM := (yX11_unsee, cX11_unsee, 2, (some .int), 0, 0)
abbrev mX11_stars : xM := (yX11_stars, cX11_stars, 9, (some .int), 1, 25)
abbrev mX11_factorial : xM := (yX11_factorial, cX11_factorial, 3, (some .int), 0, 0)
abbrev mX11_common : xM := (yX11_common, cX11_common, 5, (some .int), 0, 0)
abbrev mX11_share : xM := (yX11_share, cX11_share, 6, (some .int), 4, 92)
abbrev mX11_choose : xM := (yX11_choose, cX11_choose, 4, none, 4, 98)
abbrev mX11_gain : xM := (yX11_gain, cX11_gain, 8, (some .int), 5, 121)
abbrev mX11_isRest : xM := (yX11_isRest, cX11_isRest, 5, (some .boolean), 6, 148)
abbrev mX11_rests : xM := (yX11_rests, cX11_rests, 7, (some .int), 7, 172)
abbrev mX11_snaps : xM := (yX11_snaps, cX11_snaps, 9, (some .int), 4, 92)
abbrev mX11_seed : xM := (yX11_seed, cX11_seed, 5, (some .long), 0, 0)
abbrev mX11_years : xM := (yX11_years, cX11_years, 5, (some .int), 6, 143)
abbrev mX11_keep : xM := (yX11_keep, cX11_keep, 3, (some .int), 1, 25)
abbrev mX11_again : xM := (yX11_again, cX11_again, 3, (some .int), 1, 25)
abbrev mX11_usedNails : xM := (yX11_usedNails, cX11_usedNails, 3, (some .int), 1, 22)
abbrev mX11_count : xM := (yX11_count, cX11_count, 2, (some .int), 4, 92)
abbrev mJ6_bitCount_0f7a4 : xM := (yJ6_bitCount_0f7a4, cJ6_bitCount_0f7a4, 1, (some .int), 0, 0)
abbrev mJ13_bitCount_95d88 : xM := (yJ13_bitCount_95d88, cJ13_bitCount_95d88, 2, (some .int), 0, 0)
abbrev mJ9_floorMod_7cf53 : xM := (yJ9_floorMod_7cf53, cJ9_floorMod_7cf53, 3, (some .int), 0, 0)
abbrev mJ9_abs_0f7a4 : xM := (yJ9_abs_0f7a4, cJ9_abs_0f7a4, 1, (some .int), 0, 0)
abbrev mJ9_max_7cf53 : xM := (yJ9_max_7cf53, cJ9_max_7cf53, 2, (some .int), 0, 0)
abbrev mJ9_min_7cf53 : xM := (yJ9_min_7cf53, cJ9_min_7cf53, 2, (some .int), 0, 0)
abbrev mL_law : xM := (yL_law, cL_law, 4, (some .boolean), 8, 198)
/-- the words of the tables that hold at every state of the launch -/
def GT : List Cond := lw_tbl.filter goodWord
theorem gt_of {w : Cond} (i : Nat) (h : lw_tbl[i]? = some w) (hg : goodWord w = true) : w ∈ GT := List.mem_filter.mpr ⟨List.mem_of_getElem? h, hg⟩
theorem gt_good : ∀ w ∈ GT, w ∈ lw_tbl ∧ ((w.onTables && w.keeps) = true ∨ ∃ ty, w = .arrayClass ty) := fun _ h => ⟨(List.mem_filter.mp h).1, good_of_word (List.mem_filter.mp h).2⟩
