section
-- ===== PART A: goes FIRST, ahead of the names: the tables' words, and 'selects' of the private methods out of them =====
/-- a private method of a class that the tables say can be made, by its rows of tables_1 -/
def lw_okq (q : MethodName × Nat) : Prop := (q.1.cls ≠ "java/lang/invoke/MethodHandle" ∧ q.1.cls ≠ "java/lang/invoke/VarHandle") ∧ Cond.instantiable q.1.cls q.2 ∈ tables_1 ∧ Cond.privateMethod q.1 ∈ tables_1 ∧ Cond.instanceMethod q.1 ∈ tables_1
theorem lw_p0 : lw_okq (⟨"NailThreads$Text", "goesOn", "(ILNailThreads$Board;)Z"⟩, 4) := ⟨⟨by decide +kernel, by decide +kernel⟩, List.mem_of_getElem? (i := 26) (by decide +kernel), List.mem_of_getElem? (i := 227) (by decide +kernel), List.mem_of_getElem? (i := 228) (by decide +kernel)⟩
theorem lw_p1 : lw_okq (⟨"NailThreads$Text", "beginsThread", "(ILNailThreads$Board;)Z"⟩, 4) := ⟨⟨by decide +kernel, by decide +kernel⟩, List.mem_of_getElem? (i := 26) (by decide +kernel), List.mem_of_getElem? (i := 231) (by decide +kernel), List.mem_of_getElem? (i := 232) (by decide +kernel)⟩
theorem lw_p2 : lw_okq (⟨"NailThreads$Text", "windsOn", "(ILNailThreads$Board;)Z"⟩, 4) := ⟨⟨by decide +kernel, by decide +kernel⟩, List.mem_of_getElem? (i := 26) (by decide +kernel), List.mem_of_getElem? (i := 247) (by decide +kernel), List.mem_of_getElem? (i := 248) (by decide +kernel)⟩
theorem lw_p3 : lw_okq (⟨"NailThreads$Board", "crossed", "(IIII)I"⟩, 7) := ⟨⟨by decide +kernel, by decide +kernel⟩, List.mem_of_getElem? (i := 46) (by decide +kernel), List.mem_of_getElem? (i := 273) (by decide +kernel), List.mem_of_getElem? (i := 274) (by decide +kernel)⟩
theorem lw_p4 : lw_okq (⟨"NailThreads$Board", "placeAt", "(I)I"⟩, 7) := ⟨⟨by decide +kernel, by decide +kernel⟩, List.mem_of_getElem? (i := 46) (by decide +kernel), List.mem_of_getElem? (i := 356) (by decide +kernel), List.mem_of_getElem? (i := 357) (by decide +kernel)⟩
theorem lw_p5 : lw_okq (⟨"NailThreads$Board", "crossesOneOf", "(JI)Z"⟩, 7) := ⟨⟨by decide +kernel, by decide +kernel⟩, List.mem_of_getElem? (i := 46) (by decide +kernel), List.mem_of_getElem? (i := 380) (by decide +kernel), List.mem_of_getElem? (i := 381) (by decide +kernel)⟩
theorem lw_p6 : lw_okq (⟨"NailThreads$Web", "draw", "(LNailThreads$Board;)V"⟩, 1) := ⟨⟨by decide +kernel, by decide +kernel⟩, List.mem_of_getElem? (i := 128) (by decide +kernel), List.mem_of_getElem? (i := 473) (by decide +kernel), List.mem_of_getElem? (i := 474) (by decide +kernel)⟩
theorem lw_p7 : lw_okq (⟨"NailThreads$Web", "join", "(II)V"⟩, 1) := ⟨⟨by decide +kernel, by decide +kernel⟩, List.mem_of_getElem? (i := 128) (by decide +kernel), List.mem_of_getElem? (i := 480) (by decide +kernel), List.mem_of_getElem? (i := 481) (by decide +kernel)⟩
theorem lw_p8 : lw_okq (⟨"NailThreads$Web", "areJoined", "(II)Z"⟩, 1) := ⟨⟨by decide +kernel, by decide +kernel⟩, List.mem_of_getElem? (i := 128) (by decide +kernel), List.mem_of_getElem? (i := 485) (by decide +kernel), List.mem_of_getElem? (i := 486) (by decide +kernel)⟩
theorem lw_p9 : lw_okq (⟨"NailThreads$Web", "crossedUpwards", "(II)I"⟩, 1) := ⟨⟨by decide +kernel, by decide +kernel⟩, List.mem_of_getElem? (i := 128) (by decide +kernel), List.mem_of_getElem? (i := 489) (by decide +kernel), List.mem_of_getElem? (i := 490) (by decide +kernel)⟩
theorem lw_p10 : lw_okq (⟨"NailThreads$Web", "groupOf", "(I)I"⟩, 1) := ⟨⟨by decide +kernel, by decide +kernel⟩, List.mem_of_getElem? (i := 128) (by decide +kernel), List.mem_of_getElem? (i := 507) (by decide +kernel), List.mem_of_getElem? (i := 508) (by decide +kernel)⟩
theorem lw_p11 : lw_okq (⟨"NailThreads$Web", "oddNails", "(I)I"⟩, 1) := ⟨⟨by decide +kernel, by decide +kernel⟩, List.mem_of_getElem? (i := 128) (by decide +kernel), List.mem_of_getElem? (i := 511) (by decide +kernel), List.mem_of_getElem? (i := 512) (by decide +kernel)⟩
theorem lw_p12 : lw_okq (⟨"NailThreads$Seen", "fits", "(II)Z"⟩, 4) := ⟨⟨by decide +kernel, by decide +kernel⟩, List.mem_of_getElem? (i := 109) (by decide +kernel), List.mem_of_getElem? (i := 618) (by decide +kernel), List.mem_of_getElem? (i := 619) (by decide +kernel)⟩
theorem lw_p13 : lw_okq (⟨"NailThreads$Rests", "isAtRest", "(I)Z"⟩, 2) := ⟨⟨by decide +kernel, by decide +kernel⟩, List.mem_of_getElem? (i := 138) (by decide +kernel), List.mem_of_getElem? (i := 665) (by decide +kernel), List.mem_of_getElem? (i := 666) (by decide +kernel)⟩
theorem lw_p14 : lw_okq (⟨"NailThreads$Chances", "countBetween", "(LNailThreads$Board;)V"⟩, 1) := ⟨⟨by decide +kernel, by decide +kernel⟩, List.mem_of_getElem? (i := 151) (by decide +kernel), List.mem_of_getElem? (i := 681) (by decide +kernel), List.mem_of_getElem? (i := 682) (by decide +kernel)⟩
theorem lw_p15 : lw_okq (⟨"NailThreads$Chances", "crossingsAmong", "(I)I"⟩, 1) := ⟨⟨by decide +kernel, by decide +kernel⟩, List.mem_of_getElem? (i := 151) (by decide +kernel), List.mem_of_getElem? (i := 685) (by decide +kernel), List.mem_of_getElem? (i := 686) (by decide +kernel)⟩
def lw_privs_1 : List (MethodName × Nat) := [(⟨"NailThreads$Text", "goesOn", "(ILNailThreads$Board;)Z"⟩, 4), (⟨"NailThreads$Text", "beginsThread", "(ILNailThreads$Board;)Z"⟩, 4), (⟨"NailThreads$Text", "windsOn", "(ILNailThreads$Board;)Z"⟩, 4), (⟨"NailThreads$Board", "crossed", "(IIII)I"⟩, 7), (⟨"NailThreads$Board", "placeAt", "(I)I"⟩, 7), (⟨"NailThreads$Board", "crossesOneOf", "(JI)Z"⟩, 7), (⟨"NailThreads$Web", "draw", "(LNailThreads$Board;)V"⟩, 1), (⟨"NailThreads$Web", "join", "(II)V"⟩, 1), (⟨"NailThreads$Web", "areJoined", "(II)Z"⟩, 1), (⟨"NailThreads$Web", "crossedUpwards", "(II)I"⟩, 1), (⟨"NailThreads$Web", "groupOf", "(I)I"⟩, 1), (⟨"NailThreads$Web", "oddNails", "(I)I"⟩, 1), (⟨"NailThreads$Seen", "fits", "(II)Z"⟩, 4), (⟨"NailThreads$Rests", "isAtRest", "(I)Z"⟩, 2), (⟨"NailThreads$Chances", "countBetween", "(LNailThreads$Board;)V"⟩, 1), (⟨"NailThreads$Chances", "crossingsAmong", "(I)I"⟩, 1)]
theorem lw_r1 : ∀ q ∈ lw_privs_1, lw_okq q := List.forall_mem_cons.mpr ⟨lw_p0, List.forall_mem_cons.mpr ⟨lw_p1, List.forall_mem_cons.mpr ⟨lw_p2, List.forall_mem_cons.mpr ⟨lw_p3, List.forall_mem_cons.mpr ⟨lw_p4, List.forall_mem_cons.mpr ⟨lw_p5, List.forall_mem_cons.mpr ⟨lw_p6, List.forall_mem_cons.mpr ⟨lw_p7, List.forall_mem_cons.mpr ⟨lw_p8, List.forall_mem_cons.mpr ⟨lw_p9, List.forall_mem_cons.mpr ⟨lw_p10, List.forall_mem_cons.mpr ⟨lw_p11, List.forall_mem_cons.mpr ⟨lw_p12, List.forall_mem_cons.mpr ⟨lw_p13, List.forall_mem_cons.mpr ⟨lw_p14, List.forall_mem_cons.mpr ⟨lw_p15, fun _ h => absurd h List.not_mem_nil⟩⟩⟩⟩⟩⟩⟩⟩⟩⟩⟩⟩⟩⟩⟩⟩
theorem lw_p16 : lw_okq (⟨"NailThreadsModel", "readText", "()I"⟩, 20) := ⟨⟨by decide +kernel, by decide +kernel⟩, List.mem_of_getElem? (i := 751) (by decide +kernel), List.mem_of_getElem? (i := 834) (by decide +kernel), List.mem_of_getElem? (i := 835) (by decide +kernel)⟩
theorem lw_p17 : lw_okq (⟨"NailThreadsModel", "clearLevel", "(I)V"⟩, 20) := ⟨⟨by decide +kernel, by decide +kernel⟩, List.mem_of_getElem? (i := 751) (by decide +kernel), List.mem_of_getElem? (i := 838) (by decide +kernel), List.mem_of_getElem? (i := 839) (by decide +kernel)⟩
theorem lw_p18 : lw_okq (⟨"NailThreadsModel", "readParts", "()I"⟩, 20) := ⟨⟨by decide +kernel, by decide +kernel⟩, List.mem_of_getElem? (i := 751) (by decide +kernel), List.mem_of_getElem? (i := 842) (by decide +kernel), List.mem_of_getElem? (i := 843) (by decide +kernel)⟩
theorem lw_p19 : lw_okq (⟨"NailThreadsModel", "mayLay", "(II)Z"⟩, 20) := ⟨⟨by decide +kernel, by decide +kernel⟩, List.mem_of_getElem? (i := 751) (by decide +kernel), List.mem_of_getElem? (i := 850) (by decide +kernel), List.mem_of_getElem? (i := 851) (by decide +kernel)⟩
theorem lw_p20 : lw_okq (⟨"NailThreadsModel", "mayWind", "(III)Z"⟩, 20) := ⟨⟨by decide +kernel, by decide +kernel⟩, List.mem_of_getElem? (i := 751) (by decide +kernel), List.mem_of_getElem? (i := 854) (by decide +kernel), List.mem_of_getElem? (i := 855) (by decide +kernel)⟩
theorem lw_p21 : lw_okq (⟨"NailThreadsModel", "stretchesOf", "(II)I"⟩, 20) := ⟨⟨by decide +kernel, by decide +kernel⟩, List.mem_of_getElem? (i := 751) (by decide +kernel), List.mem_of_getElem? (i := 862) (by decide +kernel), List.mem_of_getElem? (i := 863) (by decide +kernel)⟩
theorem lw_p22 : lw_okq (⟨"NailThreadsModel", "many", "(I)I"⟩, 20) := ⟨⟨by decide +kernel, by decide +kernel⟩, List.mem_of_getElem? (i := 751) (by decide +kernel), List.mem_of_getElem? (i := 866) (by decide +kernel), List.mem_of_getElem? (i := 867) (by decide +kernel)⟩
theorem lw_p23 : lw_okq (⟨"NailThreadsModel", "laid", "(II)I"⟩, 20) := ⟨⟨by decide +kernel, by decide +kernel⟩, List.mem_of_getElem? (i := 751) (by decide +kernel), List.mem_of_getElem? (i := 870) (by decide +kernel), List.mem_of_getElem? (i := 871) (by decide +kernel)⟩
theorem lw_p24 : lw_okq (⟨"NailThreadsModel", "kindOf", "(II)I"⟩, 20) := ⟨⟨by decide +kernel, by decide +kernel⟩, List.mem_of_getElem? (i := 751) (by decide +kernel), List.mem_of_getElem? (i := 877) (by decide +kernel), List.mem_of_getElem? (i := 878) (by decide +kernel)⟩
theorem lw_p25 : lw_okq (⟨"NailThreadsModel", "crossedBy", "(IIII)I"⟩, 20) := ⟨⟨by decide +kernel, by decide +kernel⟩, List.mem_of_getElem? (i := 751) (by decide +kernel), List.mem_of_getElem? (i := 884) (by decide +kernel), List.mem_of_getElem? (i := 885) (by decide +kernel)⟩
theorem lw_p26 : lw_okq (⟨"NailThreadsModel", "longOf", "(II)I"⟩, 20) := ⟨⟨by decide +kernel, by decide +kernel⟩, List.mem_of_getElem? (i := 751) (by decide +kernel), List.mem_of_getElem? (i := 900) (by decide +kernel), List.mem_of_getElem? (i := 901) (by decide +kernel)⟩
theorem lw_p27 : lw_okq (⟨"NailThreadsModel", "windOn", "(III)I"⟩, 20) := ⟨⟨by decide +kernel, by decide +kernel⟩, List.mem_of_getElem? (i := 751) (by decide +kernel), List.mem_of_getElem? (i := 907) (by decide +kernel), List.mem_of_getElem? (i := 908) (by decide +kernel)⟩
theorem lw_p28 : lw_okq (⟨"NailThreadsModel", "isThread", "(I)Z"⟩, 20) := ⟨⟨by decide +kernel, by decide +kernel⟩, List.mem_of_getElem? (i := 751) (by decide +kernel), List.mem_of_getElem? (i := 922) (by decide +kernel), List.mem_of_getElem? (i := 923) (by decide +kernel)⟩
theorem lw_p29 : lw_okq (⟨"NailThreadsModel", "mayGo", "(I)I"⟩, 20) := ⟨⟨by decide +kernel, by decide +kernel⟩, List.mem_of_getElem? (i := 751) (by decide +kernel), List.mem_of_getElem? (i := 926) (by decide +kernel), List.mem_of_getElem? (i := 927) (by decide +kernel)⟩
theorem lw_p30 : lw_okq (⟨"NailThreadsModel", "canUnwind", "(II)Z"⟩, 20) := ⟨⟨by decide +kernel, by decide +kernel⟩, List.mem_of_getElem? (i := 751) (by decide +kernel), List.mem_of_getElem? (i := 930) (by decide +kernel), List.mem_of_getElem? (i := 931) (by decide +kernel)⟩
theorem lw_p31 : lw_okq (⟨"NailThreadsModel", "lastOf", "(II)I"⟩, 20) := ⟨⟨by decide +kernel, by decide +kernel⟩, List.mem_of_getElem? (i := 751) (by decide +kernel), List.mem_of_getElem? (i := 934) (by decide +kernel), List.mem_of_getElem? (i := 935) (by decide +kernel)⟩
def lw_privs_2 : List (MethodName × Nat) := [(⟨"NailThreadsModel", "readText", "()I"⟩, 20), (⟨"NailThreadsModel", "clearLevel", "(I)V"⟩, 20), (⟨"NailThreadsModel", "readParts", "()I"⟩, 20), (⟨"NailThreadsModel", "mayLay", "(II)Z"⟩, 20), (⟨"NailThreadsModel", "mayWind", "(III)Z"⟩, 20), (⟨"NailThreadsModel", "stretchesOf", "(II)I"⟩, 20), (⟨"NailThreadsModel", "many", "(I)I"⟩, 20), (⟨"NailThreadsModel", "laid", "(II)I"⟩, 20), (⟨"NailThreadsModel", "kindOf", "(II)I"⟩, 20), (⟨"NailThreadsModel", "crossedBy", "(IIII)I"⟩, 20), (⟨"NailThreadsModel", "longOf", "(II)I"⟩, 20), (⟨"NailThreadsModel", "windOn", "(III)I"⟩, 20), (⟨"NailThreadsModel", "isThread", "(I)Z"⟩, 20), (⟨"NailThreadsModel", "mayGo", "(I)I"⟩, 20), (⟨"NailThreadsModel", "canUnwind", "(II)Z"⟩, 20), (⟨"NailThreadsModel", "lastOf", "(II)I"⟩, 20)]
theorem lw_r2 : ∀ q ∈ lw_privs_2, lw_okq q := List.forall_mem_cons.mpr ⟨lw_p16, List.forall_mem_cons.mpr ⟨lw_p17, List.forall_mem_cons.mpr ⟨lw_p18, List.forall_mem_cons.mpr ⟨lw_p19, List.forall_mem_cons.mpr ⟨lw_p20, List.forall_mem_cons.mpr ⟨lw_p21, List.forall_mem_cons.mpr ⟨lw_p22, List.forall_mem_cons.mpr ⟨lw_p23, List.forall_mem_cons.mpr ⟨lw_p24, List.forall_mem_cons.mpr ⟨lw_p25, List.forall_mem_cons.mpr ⟨lw_p26, List.forall_mem_cons.mpr ⟨lw_p27, List.forall_mem_cons.mpr ⟨lw_p28, List.forall_mem_cons.mpr ⟨lw_p29, List.forall_mem_cons.mpr ⟨lw_p30, List.forall_mem_cons.mpr ⟨lw_p31, fun _ h => absurd h List.not_mem_nil⟩⟩⟩⟩⟩⟩⟩⟩⟩⟩⟩⟩⟩⟩⟩⟩
theorem lw_p32 : lw_okq (⟨"NailThreadsModel", "overOf", "(II)I"⟩, 20) := ⟨⟨by decide +kernel, by decide +kernel⟩, List.mem_of_getElem? (i := 751) (by decide +kernel), List.mem_of_getElem? (i := 941) (by decide +kernel), List.mem_of_getElem? (i := 942) (by decide +kernel)⟩
theorem lw_p33 : lw_okq (⟨"NailThreadsModel", "aboveOf", "(I)I"⟩, 20) := ⟨⟨by decide +kernel, by decide +kernel⟩, List.mem_of_getElem? (i := 751) (by decide +kernel), List.mem_of_getElem? (i := 952) (by decide +kernel), List.mem_of_getElem? (i := 953) (by decide +kernel)⟩
theorem lw_p34 : lw_okq (⟨"NailThreadsModel", "keepAct", "()V"⟩, 20) := ⟨⟨by decide +kernel, by decide +kernel⟩, List.mem_of_getElem? (i := 751) (by decide +kernel), List.mem_of_getElem? (i := 960) (by decide +kernel), List.mem_of_getElem? (i := 961) (by decide +kernel)⟩
theorem lw_p35 : lw_okq (⟨"NailThreadsModel", "unwindOn", "(II)V"⟩, 20) := ⟨⟨by decide +kernel, by decide +kernel⟩, List.mem_of_getElem? (i := 751) (by decide +kernel), List.mem_of_getElem? (i := 968) (by decide +kernel), List.mem_of_getElem? (i := 969) (by decide +kernel)⟩
theorem lw_p36 : lw_okq (⟨"NailThreadsModel", "takeOff", "(II)V"⟩, 20) := ⟨⟨by decide +kernel, by decide +kernel⟩, List.mem_of_getElem? (i := 751) (by decide +kernel), List.mem_of_getElem? (i := 972) (by decide +kernel), List.mem_of_getElem? (i := 973) (by decide +kernel)⟩
theorem lw_p37 : lw_okq (⟨"NailThreadsModel", "cutOn", "(II)I"⟩, 20) := ⟨⟨by decide +kernel, by decide +kernel⟩, List.mem_of_getElem? (i := 751) (by decide +kernel), List.mem_of_getElem? (i := 980) (by decide +kernel), List.mem_of_getElem? (i := 981) (by decide +kernel)⟩
theorem lw_p38 : lw_okq (⟨"NailThreadsModel", "renameOn", "(IZ)V"⟩, 20) := ⟨⟨by decide +kernel, by decide +kernel⟩, List.mem_of_getElem? (i := 751) (by decide +kernel), List.mem_of_getElem? (i := 988) (by decide +kernel), List.mem_of_getElem? (i := 989) (by decide +kernel)⟩
theorem lw_p39 : lw_okq (⟨"NailThreadsModel", "crossesOfTwo", "(III)I"⟩, 20) := ⟨⟨by decide +kernel, by decide +kernel⟩, List.mem_of_getElem? (i := 751) (by decide +kernel), List.mem_of_getElem? (i := 1007) (by decide +kernel), List.mem_of_getElem? (i := 1008) (by decide +kernel)⟩
theorem lw_p40 : lw_okq (⟨"NailThreadsModel", "crossesOf", "(II)I"⟩, 20) := ⟨⟨by decide +kernel, by decide +kernel⟩, List.mem_of_getElem? (i := 751) (by decide +kernel), List.mem_of_getElem? (i := 1011) (by decide +kernel), List.mem_of_getElem? (i := 1012) (by decide +kernel)⟩
theorem lw_p41 : lw_okq (⟨"NailThreadsModel", "partsOn", "(I)I"⟩, 20) := ⟨⟨by decide +kernel, by decide +kernel⟩, List.mem_of_getElem? (i := 751) (by decide +kernel), List.mem_of_getElem? (i := 1022) (by decide +kernel), List.mem_of_getElem? (i := 1023) (by decide +kernel)⟩
theorem lw_p42 : lw_okq (⟨"NailThreadsModel", "findLines", "(I)V"⟩, 20) := ⟨⟨by decide +kernel, by decide +kernel⟩, List.mem_of_getElem? (i := 751) (by decide +kernel), List.mem_of_getElem? (i := 1026) (by decide +kernel), List.mem_of_getElem? (i := 1027) (by decide +kernel)⟩
theorem lw_p43 : lw_okq (⟨"NailThreadsModel", "linesAt", "(I)I"⟩, 20) := ⟨⟨by decide +kernel, by decide +kernel⟩, List.mem_of_getElem? (i := 751) (by decide +kernel), List.mem_of_getElem? (i := 1034) (by decide +kernel), List.mem_of_getElem? (i := 1035) (by decide +kernel)⟩
theorem lw_p44 : lw_okq (⟨"NailThreadsModel", "partOf", "(I)I"⟩, 20) := ⟨⟨by decide +kernel, by decide +kernel⟩, List.mem_of_getElem? (i := 751) (by decide +kernel), List.mem_of_getElem? (i := 1038) (by decide +kernel), List.mem_of_getElem? (i := 1039) (by decide +kernel)⟩
theorem lw_p45 : lw_okq (⟨"NailThreadsModel", "layTrial", "()V"⟩, 20) := ⟨⟨by decide +kernel, by decide +kernel⟩, List.mem_of_getElem? (i := 751) (by decide +kernel), List.mem_of_getElem? (i := 1052) (by decide +kernel), List.mem_of_getElem? (i := 1053) (by decide +kernel)⟩
theorem lw_p46 : lw_okq (⟨"NailThreadsModel", "tryThing", "(III)Z"⟩, 20) := ⟨⟨by decide +kernel, by decide +kernel⟩, List.mem_of_getElem? (i := 751) (by decide +kernel), List.mem_of_getElem? (i := 1065) (by decide +kernel), List.mem_of_getElem? (i := 1066) (by decide +kernel)⟩
theorem lw_p47 : lw_okq (⟨"NailThreadsModel", "isRest", "(IIII)Z"⟩, 20) := ⟨⟨by decide +kernel, by decide +kernel⟩, List.mem_of_getElem? (i := 751) (by decide +kernel), List.mem_of_getElem? (i := 1098) (by decide +kernel), List.mem_of_getElem? (i := 1099) (by decide +kernel)⟩
def lw_privs_3 : List (MethodName × Nat) := [(⟨"NailThreadsModel", "overOf", "(II)I"⟩, 20), (⟨"NailThreadsModel", "aboveOf", "(I)I"⟩, 20), (⟨"NailThreadsModel", "keepAct", "()V"⟩, 20), (⟨"NailThreadsModel", "unwindOn", "(II)V"⟩, 20), (⟨"NailThreadsModel", "takeOff", "(II)V"⟩, 20), (⟨"NailThreadsModel", "cutOn", "(II)I"⟩, 20), (⟨"NailThreadsModel", "renameOn", "(IZ)V"⟩, 20), (⟨"NailThreadsModel", "crossesOfTwo", "(III)I"⟩, 20), (⟨"NailThreadsModel", "crossesOf", "(II)I"⟩, 20), (⟨"NailThreadsModel", "partsOn", "(I)I"⟩, 20), (⟨"NailThreadsModel", "findLines", "(I)V"⟩, 20), (⟨"NailThreadsModel", "linesAt", "(I)I"⟩, 20), (⟨"NailThreadsModel", "partOf", "(I)I"⟩, 20), (⟨"NailThreadsModel", "layTrial", "()V"⟩, 20), (⟨"NailThreadsModel", "tryThing", "(III)Z"⟩, 20), (⟨"NailThreadsModel", "isRest", "(IIII)Z"⟩, 20)]
theorem lw_r3 : ∀ q ∈ lw_privs_3, lw_okq q := List.forall_mem_cons.mpr ⟨lw_p32, List.forall_mem_cons.mpr ⟨lw_p33, List.forall_mem_cons.mpr ⟨lw_p34, List.forall_mem_cons.mpr ⟨lw_p35, List.forall_mem_cons.mpr ⟨lw_p36, List.forall_mem_cons.mpr ⟨lw_p37, List.forall_mem_cons.mpr ⟨lw_p38, List.forall_mem_cons.mpr ⟨lw_p39, List.forall_mem_cons.mpr ⟨lw_p40, List.forall_mem_cons.mpr ⟨lw_p41, List.forall_mem_cons.mpr ⟨lw_p42, List.forall_mem_cons.mpr ⟨lw_p43, List.forall_mem_cons.mpr ⟨lw_p44, List.forall_mem_cons.mpr ⟨lw_p45, List.forall_mem_cons.mpr ⟨lw_p46, List.forall_mem_cons.mpr ⟨lw_p47, fun _ h => absurd h List.not_mem_nil⟩⟩⟩⟩⟩⟩⟩⟩⟩⟩⟩⟩⟩⟩⟩⟩
theorem lw_p48 : lw_okq (⟨"NailThreadsModel", "gain", "(IIIII)I"⟩, 20) := ⟨⟨by decide +kernel, by decide +kernel⟩, List.mem_of_getElem? (i := 751) (by decide +kernel), List.mem_of_getElem? (i := 1102) (by decide +kernel), List.mem_of_getElem? (i := 1103) (by decide +kernel)⟩
theorem lw_p49 : lw_okq (⟨"NailThreadsModel", "choose", "(II)V"⟩, 20) := ⟨⟨by decide +kernel, by decide +kernel⟩, List.mem_of_getElem? (i := 751) (by decide +kernel), List.mem_of_getElem? (i := 1106) (by decide +kernel), List.mem_of_getElem? (i := 1107) (by decide +kernel)⟩
theorem lw_p50 : lw_okq (⟨"NailThreadsModel", "usedNails", "()I"⟩, 20) := ⟨⟨by decide +kernel, by decide +kernel⟩, List.mem_of_getElem? (i := 751) (by decide +kernel), List.mem_of_getElem? (i := 1140) (by decide +kernel), List.mem_of_getElem? (i := 1141) (by decide +kernel)⟩
def lw_privs_4 : List (MethodName × Nat) := [(⟨"NailThreadsModel", "gain", "(IIIII)I"⟩, 20), (⟨"NailThreadsModel", "choose", "(II)V"⟩, 20), (⟨"NailThreadsModel", "usedNails", "()I"⟩, 20)]
theorem lw_r4 : ∀ q ∈ lw_privs_4, lw_okq q := List.forall_mem_cons.mpr ⟨lw_p48, List.forall_mem_cons.mpr ⟨lw_p49, List.forall_mem_cons.mpr ⟨lw_p50, fun _ h => absurd h List.not_mem_nil⟩⟩⟩
def lw_privs : List (MethodName × Nat) := lw_privs_1 ++ (lw_privs_2 ++ (lw_privs_3 ++ (lw_privs_4)))
def lw_tbl : List Cond := k2_sels lw_privs ++ tables_1
theorem lw_privs_ok : ∀ q ∈ lw_privs, lw_okq q := by
  show ∀ q ∈ lw_privs_1 ++ (lw_privs_2 ++ (lw_privs_3 ++ (lw_privs_4))), lw_okq q
  exact List.forall_mem_append.mpr ⟨lw_r1, List.forall_mem_append.mpr ⟨lw_r2, List.forall_mem_append.mpr ⟨lw_r3, lw_r4⟩⟩⟩

def RX0 : String := "NailThreads$Board"
def TX0 : u_T := fun k => match k with
  | 0 => ("NailThreads$Board", "kinds", "[I", true)
  | 1 => ("NailThreads$Board", "nails", "[I", true)
  | 2 => ("NailThreads$Board", "counts", "[I", true)
  | 3 => ("NailThreads$Board", "lying", "[I", true)
  | 4 => ("NailThreads$Board", "threads", "I", false)
  | 5 => ("NailThreads$Board", "size", "I", false)
  | _ => ("NailThreads$Board", "crosses", "I", false)
def tyX0 : Nat → FieldType := fun k => match k with
  | 0 => .array .int
  | 1 => .array .int
  | 2 => .array .int
  | 3 => .array .int
  | 4 => .int
  | 5 => .int
  | _ => .int
abbrev wsX00 : List Cond := u_ws RX0 TX0 7
theorem nmX0 : ∀ a, a < 7 → ∀ b, b < 7 → a ≠ b → (TX0 a).2.1 ≠ (TX0 b).2.1 := by decide +kernel
theorem tyX0_ok : ∀ k, k < 7 → parseFieldDescriptor (TX0 k).2.2.1 = some (tyX0 k) := by decide +kernel
abbrev cX0_init : ByteArray := prog_2_method_1_code
def yX0_init : MethodName := ⟨RX0, "<init>", "()V"⟩
abbrev cX0_clear : ByteArray := prog_2_method_2_code
def yX0_clear : MethodName := ⟨RX0, "clear", "()V"⟩
abbrev cX0_becomeLike : ByteArray := prog_2_method_3_code
def yX0_becomeLike : MethodName := ⟨RX0, "becomeLike", "(LNailThreads$Board;)V"⟩
abbrev cX0_tie : ByteArray := prog_2_method_4_code
def yX0_tie : MethodName := ⟨RX0, "tie", "(II)Z"⟩
abbrev cX0_threads : ByteArray := prog_2_method_5_code
def yX0_threads : MethodName := ⟨RX0, "threads", "()I"⟩
abbrev cX0_size : ByteArray := prog_2_method_6_code
def yX0_size : MethodName := ⟨RX0, "size", "()I"⟩
abbrev cX0_hasThread : ByteArray := prog_2_method_7_code
def yX0_hasThread : MethodName := ⟨RX0, "hasThread", "(I)Z"⟩
abbrev cX0_hasStretch : ByteArray := prog_2_method_8_code
def yX0_hasStretch : MethodName := ⟨RX0, "hasStretch", "(I)Z"⟩
abbrev cX0_nailOf : ByteArray := prog_2_method_9_code
def yX0_nailOf : MethodName := ⟨RX0, "nailOf", "(I)I"⟩
abbrev cX0_kindOf : ByteArray := prog_2_method_10_code
def yX0_kindOf : MethodName := ⟨RX0, "kindOf", "(I)I"⟩
abbrev cX0_stretchesOf : ByteArray := prog_2_method_11_code
def yX0_stretchesOf : MethodName := ⟨RX0, "stretchesOf", "(I)I"⟩
abbrev cX0_threadAt : ByteArray := prog_2_method_12_code
def yX0_threadAt : MethodName := ⟨RX0, "threadAt", "(I)I"⟩
abbrev cX0_fromAt : ByteArray := prog_2_method_13_code
def yX0_fromAt : MethodName := ⟨RX0, "fromAt", "(I)I"⟩
abbrev cX0_toAt : ByteArray := prog_2_method_14_code
def yX0_toAt : MethodName := ⟨RX0, "toAt", "(I)I"⟩
abbrev cX0_placeAt : ByteArray := prog_2_method_15_code
def yX0_placeAt : MethodName := ⟨RX0, "placeAt", "(I)I"⟩
abbrev cX0_packed : ByteArray := prog_2_method_16_code
def yX0_packed : MethodName := ⟨RX0, "packed", "(IIII)I"⟩
abbrev cX0_lengthOf : ByteArray := prog_2_method_17_code
def yX0_lengthOf : MethodName := ⟨RX0, "lengthOf", "(I)I"⟩
abbrev cX0_lengthOfAll : ByteArray := prog_2_method_18_code
def yX0_lengthOfAll : MethodName := ⟨RX0, "lengthOfAll", "()I"⟩
abbrev cX0_endNails : ByteArray := prog_2_method_19_code
def yX0_endNails : MethodName := ⟨RX0, "endNails", "()I"⟩
abbrev cX0_mayWind : ByteArray := prog_2_method_20_code
def yX0_mayWind : MethodName := ⟨RX0, "mayWind", "(II)Z"⟩
abbrev cX0_openNails : ByteArray := prog_2_method_21_code
def yX0_openNails : MethodName := ⟨RX0, "openNails", "(I)I"⟩
abbrev cX0_bestNail : ByteArray := prog_2_method_22_code
def yX0_bestNail : MethodName := ⟨RX0, "bestNail", "(I)I"⟩
abbrev cX0_crossed : ByteArray := prog_2_method_23_code
def yX0_crossed : MethodName := ⟨RX0, "crossed", "(IIII)I"⟩
abbrev cX0_crossedBetween : ByteArray := prog_2_method_24_code
def yX0_crossedBetween : MethodName := ⟨RX0, "crossedBetween", "(II)I"⟩
abbrev cX0_crossingFrom : ByteArray := prog_2_method_25_code
def yX0_crossingFrom : MethodName := ⟨RX0, "crossingFrom", "(II)I"⟩
abbrev cX0_aboveOf : ByteArray := prog_2_method_26_code
def yX0_aboveOf : MethodName := ⟨RX0, "aboveOf", "(I)I"⟩
abbrev cX0_crossesOneOf : ByteArray := prog_2_method_27_code
def yX0_crossesOneOf : MethodName := ⟨RX0, "crossesOneOf", "(JI)Z"⟩
abbrev cX0_crossingsOf : ByteArray := prog_2_method_28_code
def yX0_crossingsOf : MethodName := ⟨RX0, "crossingsOf", "(II)I"⟩
abbrev cX0_allCrossings : ByteArray := prog_2_method_29_code
def yX0_allCrossings : MethodName := ⟨RX0, "allCrossings", "()I"⟩
abbrev cX0_lastOf : ByteArray := prog_2_method_30_code
def yX0_lastOf : MethodName := ⟨RX0, "lastOf", "(I)I"⟩
abbrev cX0_worthOf : ByteArray := prog_2_method_31_code
def yX0_worthOf : MethodName := ⟨RX0, "worthOf", "(I)I"⟩
abbrev cX0_windOn : ByteArray := prog_2_method_32_code
def yX0_windOn : MethodName := ⟨RX0, "windOn", "(II)I"⟩
abbrev cX0_windStar : ByteArray := prog_2_method_33_code
def yX0_windStar : MethodName := ⟨RX0, "windStar", "(III)I"⟩
abbrev cX0_mayUnwind : ByteArray := prog_2_method_34_code
def yX0_mayUnwind : MethodName := ⟨RX0, "mayUnwind", "(I)Z"⟩
abbrev cX0_unwindLast : ByteArray := prog_2_method_35_code
def yX0_unwindLast : MethodName := ⟨RX0, "unwindLast", "(I)I"⟩
abbrev cX0_mayCut : ByteArray := prog_2_method_36_code
def yX0_mayCut : MethodName := ⟨RX0, "mayCut", "(I)Z"⟩
abbrev cX0_cutOff : ByteArray := prog_2_method_37_code
def yX0_cutOff : MethodName := ⟨RX0, "cutOff", "(I)I"⟩
abbrev cX0_turnByOne : ByteArray := prog_2_method_38_code
def yX0_turnByOne : MethodName := ⟨RX0, "turnByOne", "()V"⟩
abbrev cX0_turnOver : ByteArray := prog_2_method_39_code
def yX0_turnOver : MethodName := ⟨RX0, "turnOver", "()V"⟩
def RX1 : String := "NailThreads$Chances"
def TX1 : u_T := fun k => match k with
  | _ => ("NailThreads$Chances", "between", "[I", true)
def tyX1 : Nat → FieldType := fun k => match k with
  | _ => .array .int
abbrev wsX10 : List Cond := u_ws RX1 TX1 1
theorem nmX1 : ∀ a, a < 1 → ∀ b, b < 1 → a ≠ b → (TX1 a).2.1 ≠ (TX1 b).2.1 := by decide +kernel
theorem tyX1_ok : ∀ k, k < 1 → parseFieldDescriptor (TX1 k).2.2.1 = some (tyX1 k) := by decide +kernel
abbrev cX1_init : ByteArray := prog_3_method_1_code
def yX1_init : MethodName := ⟨RX1, "<init>", "()V"⟩
abbrev cX1_toldFraction : ByteArray := prog_3_method_2_code
def yX1_toldFraction : MethodName := ⟨RX1, "toldFraction", "(IIZ)I"⟩
abbrev cX1_commonDivisor : ByteArray := prog_3_method_3_code
def yX1_commonDivisor : MethodName := ⟨RX1, "commonDivisor", "(II)I"⟩
abbrev cX1_twiceShare : ByteArray := prog_3_method_4_code
def yX1_twiceShare : MethodName := ⟨RX1, "twiceShare", "(LNailThreads$Board;I)I"⟩
abbrev cX1_allWeight : ByteArray := prog_3_method_5_code
def yX1_allWeight : MethodName := ⟨RX1, "allWeight", "(LNailThreads$Board;)I"⟩
abbrev cX1_weightOfSnaps : ByteArray := prog_3_method_6_code
def yX1_weightOfSnaps : MethodName := ⟨RX1, "weightOfSnaps", "(LNailThreads$Board;II)I"⟩
abbrev cX1_countBetween : ByteArray := prog_3_method_7_code
def yX1_countBetween : MethodName := ⟨RX1, "countBetween", "(LNailThreads$Board;)V"⟩
abbrev cX1_crossingsAmong : ByteArray := prog_3_method_8_code
def yX1_crossingsAmong : MethodName := ⟨RX1, "crossingsAmong", "(I)I"⟩
abbrev cX1_weightOf : ByteArray := prog_3_method_9_code
def yX1_weightOf : MethodName := ⟨RX1, "weightOf", "(LNailThreads$Board;II)I"⟩
abbrev cX1_drawnFrom : ByteArray := prog_3_method_10_code
def yX1_drawnFrom : MethodName := ⟨RX1, "drawnFrom", "(J)J"⟩
abbrev cX1_liveYear : ByteArray := prog_3_method_11_code
def yX1_liveYear : MethodName := ⟨RX1, "liveYear", "(LNailThreads$Board;J)V"⟩
def RX2 : String := "NailThreads$Doings"
def TX2 : u_T := fun k => match k with
  | _ => ("", "", "", false)
def tyX2 : Nat → FieldType := fun k => match k with
  | _ => .int
abbrev wsX20 : List Cond := u_ws RX2 TX2 0
theorem nmX2 : ∀ a, a < 0 → ∀ b, b < 0 → a ≠ b → (TX2 a).2.1 ≠ (TX2 b).2.1 := by decide +kernel
theorem tyX2_ok : ∀ k, k < 0 → parseFieldDescriptor (TX2 k).2.2.1 = some (tyX2 k) := by decide +kernel
abbrev cX2_isTooLong : ByteArray := prog_4_method_2_code
def yX2_isTooLong : MethodName := ⟨RX2, "isTooLong", "(IJ)Z"⟩
abbrev cX2_firstWrong : ByteArray := prog_4_method_3_code
def yX2_firstWrong : MethodName := ⟨RX2, "firstWrong", "(IJLNailThreads$Board;LNailThreads$Web;)I"⟩
abbrev cX2_powerAt : ByteArray := prog_4_method_4_code
def yX2_powerAt : MethodName := ⟨RX2, "powerAt", "(I)J"⟩
abbrev cX2_comesTrue : ByteArray := prog_4_method_5_code
def yX2_comesTrue : MethodName := ⟨RX2, "comesTrue", "(ILNailThreads$Board;LNailThreads$Web;)Z"⟩
abbrev cX2_winds : ByteArray := prog_4_method_6_code
def yX2_winds : MethodName := ⟨RX2, "winds", "(LNailThreads$Board;II)Z"⟩
abbrev cX2_unwinds : ByteArray := prog_4_method_7_code
def yX2_unwinds : MethodName := ⟨RX2, "unwinds", "(LNailThreads$Board;I)Z"⟩
abbrev cX2_cuts : ByteArray := prog_4_method_8_code
def yX2_cuts : MethodName := ⟨RX2, "cuts", "(LNailThreads$Board;I)Z"⟩
abbrev cX2_turns : ByteArray := prog_4_method_9_code
def yX2_turns : MethodName := ⟨RX2, "turns", "(LNailThreads$Board;)Z"⟩
abbrev cX2_turnsOver : ByteArray := prog_4_method_10_code
def yX2_turnsOver : MethodName := ⟨RX2, "turnsOver", "(LNailThreads$Board;)Z"⟩
abbrev cX2_doCross : ByteArray := prog_4_method_11_code
def yX2_doCross : MethodName := ⟨RX2, "doCross", "(LNailThreads$Board;III)Z"⟩
def RX3 : String := "NailThreads$History"
def TX3 : u_T := fun k => match k with
  | 0 => ("NailThreads$History", "boards", "[LNailThreads$Board;", true)
  | 1 => ("NailThreads$History", "first", "I", false)
  | _ => ("NailThreads$History", "size", "I", false)
def tyX3 : Nat → FieldType := fun k => match k with
  | 0 => .array (.object "NailThreads$Board")
  | 1 => .int
  | _ => .int
abbrev wsX30 : List Cond := u_ws RX3 TX3 3
theorem nmX3 : ∀ a, a < 3 → ∀ b, b < 3 → a ≠ b → (TX3 a).2.1 ≠ (TX3 b).2.1 := by decide +kernel
theorem tyX3_ok : ∀ k, k < 3 → parseFieldDescriptor (TX3 k).2.2.1 = some (tyX3 k) := by decide +kernel
abbrev cX3_init : ByteArray := prog_5_method_1_code
def yX3_init : MethodName := ⟨RX3, "<init>", "()V"⟩
abbrev cX3_size : ByteArray := prog_5_method_2_code
def yX3_size : MethodName := ⟨RX3, "size", "()I"⟩
abbrev cX3_clear : ByteArray := prog_5_method_3_code
def yX3_clear : MethodName := ⟨RX3, "clear", "()V"⟩
abbrev cX3_add : ByteArray := prog_5_method_4_code
def yX3_add : MethodName := ⟨RX3, "add", "(LNailThreads$Board;)V"⟩
abbrev cX3_takeBack : ByteArray := prog_5_method_5_code
def yX3_takeBack : MethodName := ⟨RX3, "takeBack", "(LNailThreads$Board;)Z"⟩
def RX4 : String := "NailThreads$Rests"
def TX4 : u_T := fun k => match k with
  | 0 => ("NailThreads$Rests", "ofOne", "[I", true)
  | _ => ("NailThreads$Rests", "ofOther", "[I", true)
def tyX4 : Nat → FieldType := fun k => match k with
  | 0 => .array .int
  | _ => .array .int
abbrev wsX40 : List Cond := u_ws RX4 TX4 2
theorem nmX4 : ∀ a, a < 2 → ∀ b, b < 2 → a ≠ b → (TX4 a).2.1 ≠ (TX4 b).2.1 := by decide +kernel
theorem tyX4_ok : ∀ k, k < 2 → parseFieldDescriptor (TX4 k).2.2.1 = some (tyX4 k) := by decide +kernel
abbrev cX4_init : ByteArray := prog_6_method_1_code
def yX4_init : MethodName := ⟨RX4, "<init>", "()V"⟩
abbrev cX4_tryAll : ByteArray := prog_6_method_2_code
def yX4_tryAll : MethodName := ⟨RX4, "tryAll", "(LNailThreads$Board;LNailThreads$Board;II)V"⟩
abbrev cX4_isAtRest : ByteArray := prog_6_method_3_code
def yX4_isAtRest : MethodName := ⟨RX4, "isAtRest", "(I)Z"⟩
abbrev cX4_howMany : ByteArray := prog_6_method_4_code
def yX4_howMany : MethodName := ⟨RX4, "howMany", "()I"⟩
abbrev cX4_firstPair : ByteArray := prog_6_method_5_code
def yX4_firstPair : MethodName := ⟨RX4, "firstPair", "()I"⟩
def RX5 : String := "NailThreads$Ring"
def TX5 : u_T := fun k => match k with
  | _ => ("", "", "", false)
def tyX5 : Nat → FieldType := fun k => match k with
  | _ => .int
abbrev wsX50 : List Cond := u_ws RX5 TX5 0
theorem nmX5 : ∀ a, a < 0 → ∀ b, b < 0 → a ≠ b → (TX5 a).2.1 ≠ (TX5 b).2.1 := by decide +kernel
theorem tyX5_ok : ∀ k, k < 0 → parseFieldDescriptor (TX5 k).2.2.1 = some (tyX5 k) := by decide +kernel
abbrev cX5_stepsOn : ByteArray := prog_7_method_2_code
def yX5_stepsOn : MethodName := ⟨RX5, "stepsOn", "(II)I"⟩
abbrev cX5_apart : ByteArray := prog_7_method_3_code
def yX5_apart : MethodName := ⟨RX5, "apart", "(II)I"⟩
abbrev cX5_lengthBetween : ByteArray := prog_7_method_4_code
def yX5_lengthBetween : MethodName := ⟨RX5, "lengthBetween", "(II)I"⟩
abbrev cX5_doCross : ByteArray := prog_7_method_5_code
def yX5_doCross : MethodName := ⟨RX5, "doCross", "(IIII)Z"⟩
def RX6 : String := "NailThreads$Seen"
def TX6 : u_T := fun k => match k with
  | 0 => ("NailThreads$Seen", "times", "[I", true)
  | 1 => ("NailThreads$Seen", "nails", "[I", true)
  | 2 => ("NailThreads$Seen", "was", "[I", true)
  | _ => ("NailThreads$Seen", "size", "I", false)
def tyX6 : Nat → FieldType := fun k => match k with
  | 0 => .array .int
  | 1 => .array .int
  | 2 => .array .int
  | _ => .int
abbrev wsX60 : List Cond := u_ws RX6 TX6 4
theorem nmX6 : ∀ a, a < 4 → ∀ b, b < 4 → a ≠ b → (TX6 a).2.1 ≠ (TX6 b).2.1 := by decide +kernel
theorem tyX6_ok : ∀ k, k < 4 → parseFieldDescriptor (TX6 k).2.2.1 = some (tyX6 k) := by decide +kernel
abbrev cX6_init : ByteArray := prog_8_method_1_code
def yX6_init : MethodName := ⟨RX6, "<init>", "()V"⟩
abbrev cX6_size : ByteArray := prog_8_method_2_code
def yX6_size : MethodName := ⟨RX6, "size", "()I"⟩
abbrev cX6_clear : ByteArray := prog_8_method_3_code
def yX6_clear : MethodName := ⟨RX6, "clear", "()V"⟩
abbrev cX6_add : ByteArray := prog_8_method_4_code
def yX6_add : MethodName := ⟨RX6, "add", "(III)Z"⟩
abbrev cX6_fits : ByteArray := prog_8_method_5_code
def yX6_fits : MethodName := ⟨RX6, "fits", "(II)Z"⟩
abbrev cX6_howMany : ByteArray := prog_8_method_6_code
def yX6_howMany : MethodName := ⟨RX6, "howMany", "()I"⟩
abbrev cX6_firstStar : ByteArray := prog_8_method_7_code
def yX6_firstStar : MethodName := ⟨RX6, "firstStar", "()I"⟩
def RX7 : String := "NailThreads$Shelf"
def TX7 : u_T := fun k => match k with
  | 0 => ("NailThreads$Shelf", "boards", "[LNailThreads$Board;", true)
  | _ => ("NailThreads$Shelf", "isKept", "[Z", true)
def tyX7 : Nat → FieldType := fun k => match k with
  | 0 => .array (.object "NailThreads$Board")
  | _ => .array .boolean
abbrev wsX70 : List Cond := u_ws RX7 TX7 2
theorem nmX7 : ∀ a, a < 2 → ∀ b, b < 2 → a ≠ b → (TX7 a).2.1 ≠ (TX7 b).2.1 := by decide +kernel
theorem tyX7_ok : ∀ k, k < 2 → parseFieldDescriptor (TX7 k).2.2.1 = some (tyX7 k) := by decide +kernel
abbrev cX7_init : ByteArray := prog_9_method_1_code
def yX7_init : MethodName := ⟨RX7, "<init>", "()V"⟩
abbrev cX7_clear : ByteArray := prog_9_method_2_code
def yX7_clear : MethodName := ⟨RX7, "clear", "()V"⟩
abbrev cX7_put : ByteArray := prog_9_method_3_code
def yX7_put : MethodName := ⟨RX7, "put", "(ILNailThreads$Board;)V"⟩
abbrev cX7_giveBack : ByteArray := prog_9_method_4_code
def yX7_giveBack : MethodName := ⟨RX7, "giveBack", "(ILNailThreads$Board;)Z"⟩
def RX8 : String := "NailThreads$Text"
def TX8 : u_T := fun k => match k with
  | 0 => ("NailThreads$Text", "letters", "[I", true)
  | 1 => ("NailThreads$Text", "length", "I", false)
  | 2 => ("NailThreads$Text", "place", "I", false)
  | _ => ("NailThreads$Text", "kind", "I", false)
def tyX8 : Nat → FieldType := fun k => match k with
  | 0 => .array .int
  | 1 => .int
  | 2 => .int
  | _ => .int
abbrev wsX80 : List Cond := u_ws RX8 TX8 4
theorem nmX8 : ∀ a, a < 4 → ∀ b, b < 4 → a ≠ b → (TX8 a).2.1 ≠ (TX8 b).2.1 := by decide +kernel
theorem tyX8_ok : ∀ k, k < 4 → parseFieldDescriptor (TX8 k).2.2.1 = some (tyX8 k) := by decide +kernel
abbrev cX8_init : ByteArray := prog_10_method_1_code
def yX8_init : MethodName := ⟨RX8, "<init>", "()V"⟩
abbrev cX8_length : ByteArray := prog_10_method_2_code
def yX8_length : MethodName := ⟨RX8, "length", "()I"⟩
abbrev cX8_clear : ByteArray := prog_10_method_3_code
def yX8_clear : MethodName := ⟨RX8, "clear", "()V"⟩
abbrev cX8_add : ByteArray := prog_10_method_4_code
def yX8_add : MethodName := ⟨RX8, "add", "(I)Z"⟩
abbrev cX8_readOnto : ByteArray := prog_10_method_5_code
def yX8_readOnto : MethodName := ⟨RX8, "readOnto", "(LNailThreads$Board;)I"⟩
abbrev cX8_goesOn : ByteArray := prog_10_method_6_code
def yX8_goesOn : MethodName := ⟨RX8, "goesOn", "(ILNailThreads$Board;)Z"⟩
abbrev cX8_beginsThread : ByteArray := prog_10_method_7_code
def yX8_beginsThread : MethodName := ⟨RX8, "beginsThread", "(ILNailThreads$Board;)Z"⟩
abbrev cX8_windsOn : ByteArray := prog_10_method_8_code
def yX8_windsOn : MethodName := ⟨RX8, "windsOn", "(ILNailThreads$Board;)Z"⟩
abbrev cX8_isNail : ByteArray := prog_10_method_9_code
def yX8_isNail : MethodName := ⟨RX8, "isNail", "(I)Z"⟩
def RX9 : String := "NailThreads$Web"
def TX9 : u_T := fun k => match k with
  | _ => ("NailThreads$Web", "joined", "[I", true)
def tyX9 : Nat → FieldType := fun k => match k with
  | _ => .array .int
abbrev wsX90 : List Cond := u_ws RX9 TX9 1
theorem nmX9 : ∀ a, a < 1 → ∀ b, b < 1 → a ≠ b → (TX9 a).2.1 ≠ (TX9 b).2.1 := by decide +kernel
theorem tyX9_ok : ∀ k, k < 1 → parseFieldDescriptor (TX9 k).2.2.1 = some (tyX9 k) := by decide +kernel
abbrev cX9_init : ByteArray := prog_11_method_1_code
def yX9_init : MethodName := ⟨RX9, "<init>", "()V"⟩
abbrev cX9_draw : ByteArray := prog_11_method_2_code
def yX9_draw : MethodName := ⟨RX9, "draw", "(LNailThreads$Board;)V"⟩
abbrev cX9_join : ByteArray := prog_11_method_3_code
def yX9_join : MethodName := ⟨RX9, "join", "(II)V"⟩
abbrev cX9_areJoined : ByteArray := prog_11_method_4_code
def yX9_areJoined : MethodName := ⟨RX9, "areJoined", "(II)Z"⟩
abbrev cX9_partsOf : ByteArray := prog_11_method_5_code
def yX9_partsOf : MethodName := ⟨RX9, "partsOf", "(LNailThreads$Board;)I"⟩
abbrev cX9_crossedUpwards : ByteArray := prog_11_method_6_code
def yX9_crossedUpwards : MethodName := ⟨RX9, "crossedUpwards", "(II)I"⟩
abbrev cX9_strokesOf : ByteArray := prog_11_method_7_code
def yX9_strokesOf : MethodName := ⟨RX9, "strokesOf", "(LNailThreads$Board;)I"⟩
abbrev cX9_groupOf : ByteArray := prog_11_method_8_code
def yX9_groupOf : MethodName := ⟨RX9, "groupOf", "(I)I"⟩
abbrev cX9_oddNails : ByteArray := prog_11_method_9_code
def yX9_oddNails : MethodName := ⟨RX9, "oddNails", "(I)I"⟩
def RX10 : String := "NailThreads"
def TX10 : u_T := fun k => match k with
  | 0 => ("NailThreads", "text", "LNailThreads$Text;", true)
  | 1 => ("NailThreads", "now", "LNailThreads$Board;", true)
  | 2 => ("NailThreads", "trial", "LNailThreads$Board;", true)
  | 3 => ("NailThreads", "acts", "LNailThreads$History;", true)
  | 4 => ("NailThreads", "shelf", "LNailThreads$Shelf;", true)
  | 5 => ("NailThreads", "seen", "LNailThreads$Seen;", true)
  | 6 => ("NailThreads", "web", "LNailThreads$Web;", true)
  | 7 => ("NailThreads", "pairs", "LNailThreads$Rests;", true)
  | 8 => ("NailThreads", "chances", "LNailThreads$Chances;", true)
  | _ => ("NailThreads", "theSeed", "J", false)
def tyX10 : Nat → FieldType := fun k => match k with
  | 0 => .object "NailThreads$Text"
  | 1 => .object "NailThreads$Board"
  | 2 => .object "NailThreads$Board"
  | 3 => .object "NailThreads$History"
  | 4 => .object "NailThreads$Shelf"
  | 5 => .object "NailThreads$Seen"
  | 6 => .object "NailThreads$Web"
  | 7 => .object "NailThreads$Rests"
  | 8 => .object "NailThreads$Chances"
  | _ => .long
abbrev wsX100 : List Cond := u_ws RX10 TX10 10
theorem nmX10 : ∀ a, a < 10 → ∀ b, b < 10 → a ≠ b → (TX10 a).2.1 ≠ (TX10 b).2.1 := by decide +kernel
theorem tyX10_ok : ∀ k, k < 10 → parseFieldDescriptor (TX10 k).2.2.1 = some (tyX10 k) := by decide +kernel
abbrev cX10_init : ByteArray := prog_1_method_1_code
def yX10_init : MethodName := ⟨RX10, "<init>", "()V"⟩
abbrev cX10_write : ByteArray := prog_1_method_2_code
def yX10_write : MethodName := ⟨RX10, "write", "(I)I"⟩
abbrev cX10_wipe : ByteArray := prog_1_method_3_code
def yX10_wipe : MethodName := ⟨RX10, "wipe", "()I"⟩
abbrev cX10_fault : ByteArray := prog_1_method_4_code
def yX10_fault : MethodName := ⟨RX10, "fault", "()I"⟩
abbrev cX10_board : ByteArray := prog_1_method_5_code
def yX10_board : MethodName := ⟨RX10, "board", "()I"⟩
abbrev cX10_thread : ByteArray := prog_1_method_6_code
def yX10_thread : MethodName := ⟨RX10, "thread", "(II)I"⟩
abbrev cX10_stretch : ByteArray := prog_1_method_7_code
def yX10_stretch : MethodName := ⟨RX10, "stretch", "(II)I"⟩
abbrev cX10_wind : ByteArray := prog_1_method_8_code
def yX10_wind : MethodName := ⟨RX10, "wind", "(II)I"⟩
abbrev cX10_unwind : ByteArray := prog_1_method_9_code
def yX10_unwind : MethodName := ⟨RX10, "unwind", "(I)I"⟩
abbrev cX10_cut : ByteArray := prog_1_method_10_code
def yX10_cut : MethodName := ⟨RX10, "cut", "(I)I"⟩
abbrev cX10_turn : ByteArray := prog_1_method_11_code
def yX10_turn : MethodName := ⟨RX10, "turn", "()I"⟩
abbrev cX10_behind : ByteArray := prog_1_method_12_code
def yX10_behind : MethodName := ⟨RX10, "behind", "()I"⟩
abbrev cX10_undo : ByteArray := prog_1_method_13_code
def yX10_undo : MethodName := ⟨RX10, "undo", "()I"⟩
abbrev cX10_crossings : ByteArray := prog_1_method_14_code
def yX10_crossings : MethodName := ⟨RX10, "crossings", "(II)I"⟩
abbrev cX10_parts : ByteArray := prog_1_method_15_code
def yX10_parts : MethodName := ⟨RX10, "parts", "()I"⟩
abbrev cX10_strokes : ByteArray := prog_1_method_16_code
def yX10_strokes : MethodName := ⟨RX10, "strokes", "()I"⟩
abbrev cX10_next : ByteArray := prog_1_method_17_code
def yX10_next : MethodName := ⟨RX10, "next", "(II)I"⟩
abbrev cX10_star : ByteArray := prog_1_method_18_code
def yX10_star : MethodName := ⟨RX10, "star", "(IIII)I"⟩
abbrev cX10_judge : ByteArray := prog_1_method_19_code
def yX10_judge : MethodName := ⟨RX10, "judge", "(IJ)I"⟩
abbrev cX10_see : ByteArray := prog_1_method_20_code
def yX10_see : MethodName := ⟨RX10, "see", "(III)I"⟩
abbrev cX10_unsee : ByteArray := prog_1_method_21_code
def yX10_unsee : MethodName := ⟨RX10, "unsee", "()I"⟩
abbrev cX10_stars : ByteArray := prog_1_method_22_code
def yX10_stars : MethodName := ⟨RX10, "stars", "(I)I"⟩
abbrev cX10_share : ByteArray := prog_1_method_23_code
def yX10_share : MethodName := ⟨RX10, "share", "(IZ)I"⟩
abbrev cX10_rests : ByteArray := prog_1_method_24_code
def yX10_rests : MethodName := ⟨RX10, "rests", "(III)I"⟩
abbrev cX10_snaps : ByteArray := prog_1_method_25_code
def yX10_snaps : MethodName := ⟨RX10, "snaps", "(IIZ)I"⟩
abbrev cX10_seed : ByteArray := prog_1_method_26_code
def yX10_seed : MethodName := ⟨RX10, "seed", "(J)J"⟩
abbrev cX10_years : ByteArray := prog_1_method_27_code
def yX10_years : MethodName := ⟨RX10, "years", "(I)I"⟩
abbrev cX10_keep : ByteArray := prog_1_method_28_code
def yX10_keep : MethodName := ⟨RX10, "keep", "(I)I"⟩
abbrev cX10_again : ByteArray := prog_1_method_29_code
def yX10_again : MethodName := ⟨RX10, "again", "(I)I"⟩
abbrev cX10_count : ByteArray := prog_1_method_30_code
def yX10_count : MethodName := ⟨RX10, "count", "(I)I"⟩
abbrev cX10_isOutside : ByteArray := prog_1_method_31_code
def yX10_isOutside : MethodName := ⟨RX10, "isOutside", "(III)Z"⟩
def RX11 : String := "NailThreadsModel"
def TX11 : u_T := fun k => match k with
  | 0 => ("NailThreadsModel", "threads", "I", false)
  | 1 => ("NailThreadsModel", "kind", "[I", true)
  | 2 => ("NailThreadsModel", "now", "[I", true)
  | 3 => ("NailThreadsModel", "readKind", "[I", true)
  | 4 => ("NailThreadsModel", "readThreads", "I", false)
  | 5 => ("NailThreadsModel", "text", "[I", true)
  | 6 => ("NailThreadsModel", "length", "I", false)
  | 7 => ("NailThreadsModel", "isReading", "Z", false)
  | 8 => ("NailThreadsModel", "isAbove", "[I", true)
  | 9 => ("NailThreadsModel", "acts", "I", false)
  | 10 => ("NailThreadsModel", "next", "I", false)
  | 11 => ("NailThreadsModel", "row", "[I", true)
  | 12 => ("NailThreadsModel", "isLine", "[I", true)
  | 13 => ("NailThreadsModel", "seen", "I", false)
  | 14 => ("NailThreadsModel", "seenTimes", "[I", true)
  | 15 => ("NailThreadsModel", "seenNail", "[I", true)
  | 16 => ("NailThreadsModel", "seenWas", "[I", true)
  | 17 => ("NailThreadsModel", "seed", "J", false)
  | 18 => ("NailThreadsModel", "isKept", "[Z", true)
  | _ => ("NailThreadsModel", "kept", "[I", true)
def tyX11 : Nat → FieldType := fun k => match k with
  | 0 => .int
  | 1 => .array .int
  | 2 => .array .int
  | 3 => .array .int
  | 4 => .int
  | 5 => .array .int
  | 6 => .int
  | 7 => .boolean
  | 8 => .array .int
  | 9 => .int
  | 10 => .int
  | 11 => .array .int
  | 12 => .array .int
  | 13 => .int
  | 14 => .array .int
  | 15 => .array .int
  | 16 => .array .int
  | 17 => .long
  | 18 => .array .boolean
  | _ => .array .int
abbrev wsX110 : List Cond := u_ws RX11 TX11 20
theorem nmX11 : ∀ a, a < 20 → ∀ b, b < 20 → a ≠ b → (TX11 a).2.1 ≠ (TX11 b).2.1 := by decide +kernel
theorem tyX11_ok : ∀ k, k < 20 → parseFieldDescriptor (TX11 k).2.2.1 = some (tyX11 k) := by decide +kernel
abbrev cX11_init : ByteArray := prog_13_method_1_code
def yX11_init : MethodName := ⟨RX11, "<init>", "()V"⟩
abbrev cX11_in : ByteArray := prog_13_method_3_code
def yX11_in : MethodName := ⟨RX11, "in", "(JJJ)Z"⟩
abbrev cX11_has : ByteArray := prog_13_method_4_code
def yX11_has : MethodName := ⟨RX11, "has", "(II)Z"⟩
abbrev cX11_ones : ByteArray := prog_13_method_5_code
def yX11_ones : MethodName := ⟨RX11, "ones", "(I)I"⟩
abbrev cX11_isNail : ByteArray := prog_13_method_6_code
def yX11_isNail : MethodName := ⟨RX11, "isNail", "(I)Z"⟩
abbrev cX11_apart : ByteArray := prog_13_method_7_code
def yX11_apart : MethodName := ⟨RX11, "apart", "(II)I"⟩
abbrev cX11_longBy : ByteArray := prog_13_method_8_code
def yX11_longBy : MethodName := ⟨RX11, "longBy", "(II)I"⟩
abbrev cX11_isBetween : ByteArray := prog_13_method_9_code
def yX11_isBetween : MethodName := ⟨RX11, "isBetween", "(III)Z"⟩
abbrev cX11_cross : ByteArray := prog_13_method_10_code
def yX11_cross : MethodName := ⟨RX11, "cross", "(IIII)Z"⟩
abbrev cX11_asOne : ByteArray := prog_13_method_11_code
def yX11_asOne : MethodName := ⟨RX11, "asOne", "(IIII)I"⟩
abbrev cX11_threadOf : ByteArray := prog_13_method_12_code
def yX11_threadOf : MethodName := ⟨RX11, "threadOf", "(I)I"⟩
abbrev cX11_fromOf : ByteArray := prog_13_method_13_code
def yX11_fromOf : MethodName := ⟨RX11, "fromOf", "(I)I"⟩
abbrev cX11_toOf : ByteArray := prog_13_method_14_code
def yX11_toOf : MethodName := ⟨RX11, "toOf", "(I)I"⟩
abbrev cX11_whichOf : ByteArray := prog_13_method_15_code
def yX11_whichOf : MethodName := ⟨RX11, "whichOf", "(I)I"⟩
abbrev cX11_crossOnes : ByteArray := prog_13_method_16_code
def yX11_crossOnes : MethodName := ⟨RX11, "crossOnes", "(II)Z"⟩
abbrev cX11_laid : ByteArray := prog_13_method_17_code
def yX11_laid : MethodName := ⟨RX11, "laid", "(II)I"⟩
abbrev cX11_many : ByteArray := prog_13_method_18_code
def yX11_many : MethodName := ⟨RX11, "many", "(I)I"⟩
abbrev cX11_write : ByteArray := prog_13_method_19_code
def yX11_write : MethodName := ⟨RX11, "write", "(I)I"⟩
abbrev cX11_wipe : ByteArray := prog_13_method_20_code
def yX11_wipe : MethodName := ⟨RX11, "wipe", "()I"⟩
abbrev cX11_clearLevel : ByteArray := prog_13_method_21_code
def yX11_clearLevel : MethodName := ⟨RX11, "clearLevel", "(I)V"⟩
abbrev cX11_kindOf : ByteArray := prog_13_method_22_code
def yX11_kindOf : MethodName := ⟨RX11, "kindOf", "(II)I"⟩
abbrev cX11_readText : ByteArray := prog_13_method_23_code
def yX11_readText : MethodName := ⟨RX11, "readText", "()I"⟩
abbrev cX11_readParts : ByteArray := prog_13_method_24_code
def yX11_readParts : MethodName := ⟨RX11, "readParts", "()I"⟩
abbrev cX11_mayLay : ByteArray := prog_13_method_25_code
def yX11_mayLay : MethodName := ⟨RX11, "mayLay", "(II)Z"⟩
abbrev cX11_fault : ByteArray := prog_13_method_26_code
def yX11_fault : MethodName := ⟨RX11, "fault", "()I"⟩
abbrev cX11_board : ByteArray := prog_13_method_27_code
def yX11_board : MethodName := ⟨RX11, "board", "()I"⟩
abbrev cX11_isThread : ByteArray := prog_13_method_28_code
def yX11_isThread : MethodName := ⟨RX11, "isThread", "(I)Z"⟩
abbrev cX11_stretchesOf : ByteArray := prog_13_method_29_code
def yX11_stretchesOf : MethodName := ⟨RX11, "stretchesOf", "(II)I"⟩
abbrev cX11_longOf : ByteArray := prog_13_method_30_code
def yX11_longOf : MethodName := ⟨RX11, "longOf", "(II)I"⟩
abbrev cX11_crossedBy : ByteArray := prog_13_method_31_code
def yX11_crossedBy : MethodName := ⟨RX11, "crossedBy", "(IIII)I"⟩
abbrev cX11_mayWind : ByteArray := prog_13_method_32_code
def yX11_mayWind : MethodName := ⟨RX11, "mayWind", "(III)Z"⟩
abbrev cX11_windOn : ByteArray := prog_13_method_33_code
def yX11_windOn : MethodName := ⟨RX11, "windOn", "(III)I"⟩
abbrev cX11_lastOf : ByteArray := prog_13_method_34_code
def yX11_lastOf : MethodName := ⟨RX11, "lastOf", "(II)I"⟩
abbrev cX11_overOf : ByteArray := prog_13_method_35_code
def yX11_overOf : MethodName := ⟨RX11, "overOf", "(II)I"⟩
abbrev cX11_canUnwind : ByteArray := prog_13_method_36_code
def yX11_canUnwind : MethodName := ⟨RX11, "canUnwind", "(II)Z"⟩
abbrev cX11_takeOff : ByteArray := prog_13_method_37_code
def yX11_takeOff : MethodName := ⟨RX11, "takeOff", "(II)V"⟩
abbrev cX11_unwindOn : ByteArray := prog_13_method_38_code
def yX11_unwindOn : MethodName := ⟨RX11, "unwindOn", "(II)V"⟩
abbrev cX11_cutOn : ByteArray := prog_13_method_39_code
def yX11_cutOn : MethodName := ⟨RX11, "cutOn", "(II)I"⟩
abbrev cX11_renamed : ByteArray := prog_13_method_40_code
def yX11_renamed : MethodName := ⟨RX11, "renamed", "(IZ)I"⟩
abbrev cX11_renameOn : ByteArray := prog_13_method_41_code
def yX11_renameOn : MethodName := ⟨RX11, "renameOn", "(IZ)V"⟩
abbrev cX11_mayGo : ByteArray := prog_13_method_42_code
def yX11_mayGo : MethodName := ⟨RX11, "mayGo", "(I)I"⟩
abbrev cX11_thread : ByteArray := prog_13_method_43_code
def yX11_thread : MethodName := ⟨RX11, "thread", "(II)I"⟩
abbrev cX11_aboveOf : ByteArray := prog_13_method_44_code
def yX11_aboveOf : MethodName := ⟨RX11, "aboveOf", "(I)I"⟩
abbrev cX11_stretch : ByteArray := prog_13_method_45_code
def yX11_stretch : MethodName := ⟨RX11, "stretch", "(II)I"⟩
abbrev cX11_keepAct : ByteArray := prog_13_method_46_code
def yX11_keepAct : MethodName := ⟨RX11, "keepAct", "()V"⟩
abbrev cX11_wind : ByteArray := prog_13_method_47_code
def yX11_wind : MethodName := ⟨RX11, "wind", "(II)I"⟩
abbrev cX11_unwind : ByteArray := prog_13_method_48_code
def yX11_unwind : MethodName := ⟨RX11, "unwind", "(I)I"⟩
abbrev cX11_cut : ByteArray := prog_13_method_49_code
def yX11_cut : MethodName := ⟨RX11, "cut", "(I)I"⟩
abbrev cX11_turn : ByteArray := prog_13_method_50_code
def yX11_turn : MethodName := ⟨RX11, "turn", "()I"⟩
abbrev cX11_behind : ByteArray := prog_13_method_51_code
def yX11_behind : MethodName := ⟨RX11, "behind", "()I"⟩
abbrev cX11_undo : ByteArray := prog_13_method_52_code
def yX11_undo : MethodName := ⟨RX11, "undo", "()I"⟩
abbrev cX11_layTrial : ByteArray := prog_13_method_53_code
def yX11_layTrial : MethodName := ⟨RX11, "layTrial", "()V"⟩
abbrev cX11_crossesOf : ByteArray := prog_13_method_54_code
def yX11_crossesOf : MethodName := ⟨RX11, "crossesOf", "(II)I"⟩
abbrev cX11_crossesOfTwo : ByteArray := prog_13_method_55_code
def yX11_crossesOfTwo : MethodName := ⟨RX11, "crossesOfTwo", "(III)I"⟩
abbrev cX11_crossings : ByteArray := prog_13_method_56_code
def yX11_crossings : MethodName := ⟨RX11, "crossings", "(II)I"⟩
abbrev cX11_findLines : ByteArray := prog_13_method_57_code
def yX11_findLines : MethodName := ⟨RX11, "findLines", "(I)V"⟩
abbrev cX11_partsOn : ByteArray := prog_13_method_58_code
def yX11_partsOn : MethodName := ⟨RX11, "partsOn", "(I)I"⟩
abbrev cX11_parts : ByteArray := prog_13_method_59_code
def yX11_parts : MethodName := ⟨RX11, "parts", "()I"⟩
abbrev cX11_partOf : ByteArray := prog_13_method_60_code
def yX11_partOf : MethodName := ⟨RX11, "partOf", "(I)I"⟩
abbrev cX11_linesAt : ByteArray := prog_13_method_61_code
def yX11_linesAt : MethodName := ⟨RX11, "linesAt", "(I)I"⟩
abbrev cX11_strokes : ByteArray := prog_13_method_62_code
def yX11_strokes : MethodName := ⟨RX11, "strokes", "()I"⟩
abbrev cX11_next : ByteArray := prog_13_method_63_code
def yX11_next : MethodName := ⟨RX11, "next", "(II)I"⟩
abbrev cX11_star : ByteArray := prog_13_method_64_code
def yX11_star : MethodName := ⟨RX11, "star", "(IIII)I"⟩
abbrev cX11_tryThing : ByteArray := prog_13_method_65_code
def yX11_tryThing : MethodName := ⟨RX11, "tryThing", "(III)Z"⟩
abbrev cX11_tenThousandTo : ByteArray := prog_13_method_66_code
def yX11_tenThousandTo : MethodName := ⟨RX11, "tenThousandTo", "(I)J"⟩
abbrev cX11_judge : ByteArray := prog_13_method_67_code
def yX11_judge : MethodName := ⟨RX11, "judge", "(IJ)I"⟩
abbrev cX11_see : ByteArray := prog_13_method_68_code
def yX11_see : MethodName := ⟨RX11, "see", "(III)I"⟩
abbrev cX11_unsee : ByteArray := prog_13_method_69_code
def yX11_unsee : MethodName := ⟨RX11, "unsee", "()I"⟩
abbrev cX11_stars : ByteArray := prog_13_method_70_code
def yX11_stars : MethodName := ⟨RX11, "stars", "(I)I"⟩
abbrev cX11_factorial : ByteArray := prog_13_method_71_code
def yX11_factorial : MethodName := ⟨RX11, "factorial", "(I)I"⟩
abbrev cX11_common : ByteArray := prog_13_method_72_code
def yX11_common : MethodName := ⟨RX11, "common", "(II)I"⟩
abbrev cX11_share : ByteArray := prog_13_method_73_code
def yX11_share : MethodName := ⟨RX11, "share", "(IZ)I"⟩
abbrev cX11_choose : ByteArray := prog_13_method_74_code
def yX11_choose : MethodName := ⟨RX11, "choose", "(II)V"⟩
abbrev cX11_gain : ByteArray := prog_13_method_75_code
def yX11_gain : MethodName := ⟨RX11, "gain", "(IIIII)I"⟩
abbrev cX11_isRest : ByteArray := prog_13_method_76_code
def yX11_isRest : MethodName := ⟨RX11, "isRest", "(IIII)Z"⟩
abbrev cX11_rests : ByteArray := prog_13_method_77_code
def yX11_rests : MethodName := ⟨RX11, "rests", "(III)I"⟩
abbrev cX11_snaps : ByteArray := prog_13_method_78_code
def yX11_snaps : MethodName := ⟨RX11, "snaps", "(IIZ)I"⟩
abbrev cX11_seed : ByteArray := prog_13_method_79_code
def yX11_seed : MethodName := ⟨RX11, "seed", "(J)J"⟩
abbrev cX11_years : ByteArray := prog_13_method_80_code
def yX11_years : MethodName := ⟨RX11, "years", "(I)I"⟩
abbrev cX11_keep : ByteArray := prog_13_method_81_code
def yX11_keep : MethodName := ⟨RX11, "keep", "(I)I"⟩
abbrev cX11_again : ByteArray := prog_13_method_82_code
def yX11_again : MethodName := ⟨RX11, "again", "(I)I"⟩
abbrev cX11_usedNails : ByteArray := prog_13_method_83_code
def yX11_usedNails : MethodName := ⟨RX11, "usedNails", "()I"⟩
abbrev cX11_count : ByteArray := prog_13_method_84_code
def yX11_count : MethodName := ⟨RX11, "count", "(I)I"⟩
def RJ6 : String := "java/lang/Integer"
def TJ6 : u_T := fun k => match k with
  | _ => ("", "", "", false)
def tyJ6 : Nat → FieldType := fun k => match k with
  | _ => .int
abbrev wsJ60 : List Cond := u_ws RJ6 TJ6 0
theorem nmJ6 : ∀ a, a < 0 → ∀ b, b < 0 → a ≠ b → (TJ6 a).2.1 ≠ (TJ6 b).2.1 := by decide +kernel
theorem tyJ6_ok : ∀ k, k < 0 → parseFieldDescriptor (TJ6 k).2.2.1 = some (tyJ6 k) := by decide +kernel
abbrev cJ6_bitCount_0f7a4 : ByteArray := prog_14_method_49_code
def yJ6_bitCount_0f7a4 : MethodName := ⟨RJ6, "bitCount", "(I)I"⟩
def RJ13 : String := "java/lang/Long"
def TJ13 : u_T := fun k => match k with
  | _ => ("", "", "", false)
def tyJ13 : Nat → FieldType := fun k => match k with
  | _ => .int
abbrev wsJ130 : List Cond := u_ws RJ13 TJ13 0
theorem nmJ13 : ∀ a, a < 0 → ∀ b, b < 0 → a ≠ b → (TJ13 a).2.1 ≠ (TJ13 b).2.1 := by decide +kernel
theorem tyJ13_ok : ∀ k, k < 0 → parseFieldDescriptor (TJ13 k).2.2.1 = some (tyJ13 k) := by decide +kernel
abbrev cJ13_bitCount_95d88 : ByteArray := prog_15_method_50_code
def yJ13_bitCount_95d88 : MethodName := ⟨RJ13, "bitCount", "(J)I"⟩
def RJ9 : String := "java/lang/Math"
def TJ9 : u_T := fun k => match k with
  | _ => ("", "", "", false)
def tyJ9 : Nat → FieldType := fun k => match k with
  | _ => .int
abbrev wsJ90 : List Cond := u_ws RJ9 TJ9 0
theorem nmJ9 : ∀ a, a < 0 → ∀ b, b < 0 → a ≠ b → (TJ9 a).2.1 ≠ (TJ9 b).2.1 := by decide +kernel
theorem tyJ9_ok : ∀ k, k < 0 → parseFieldDescriptor (TJ9 k).2.2.1 = some (tyJ9 k) := by decide +kernel
abbrev cJ9_floorMod_7cf53 : ByteArray := prog_16_method_50_code
def yJ9_floorMod_7cf53 : MethodName := ⟨RJ9, "floorMod", "(II)I"⟩
abbrev cJ9_abs_0f7a4 : ByteArray := prog_16_method_59_code
def yJ9_abs_0f7a4 : MethodName := ⟨RJ9, "abs", "(I)I"⟩
abbrev cJ9_max_7cf53 : ByteArray := prog_16_method_65_code
def yJ9_max_7cf53 : MethodName := ⟨RJ9, "max", "(II)I"⟩
abbrev cJ9_min_7cf53 : ByteArray := prog_16_method_69_code
def yJ9_min_7cf53 : MethodName := ⟨RJ9, "min", "(II)I"⟩
def RJ10 : String := "java/lang/System"
def TJ10 : u_T := fun k => match k with
  | _ => ("", "", "", false)
def tyJ10 : Nat → FieldType := fun k => match k with
  | _ => .int
abbrev wsJ100 : List Cond := u_ws RJ10 TJ10 0
theorem nmJ10 : ∀ a, a < 0 → ∀ b, b < 0 → a ≠ b → (TJ10 a).2.1 ≠ (TJ10 b).2.1 := by decide +kernel
theorem tyJ10_ok : ∀ k, k < 0 → parseFieldDescriptor (TJ10 k).2.2.1 = some (tyJ10 k) := by decide +kernel
def RL : String := "NailThreadsLaw"
abbrev cL_law : ByteArray := code
def yL_law : MethodName := ⟨RL, "law", "([I)Z"⟩
abbrev vwCl : List vw_C := [(RX0, TX0, 7), (RX1, TX1, 1), (RX3, TX3, 3), (RX4, TX4, 2), (RX6, TX6, 4), (RX7, TX7, 2), (RX8, TX8, 4), (RX9, TX9, 1), (RX10, TX10, 10), (RX11, TX11, 20)]
/-- a method: its name, code, how many locals, what it returns, frames and words of locals that its calls want -/
abbrev xM : Type := MethodName × ByteArray × Nat × Option FieldType × Nat × Nat
abbrev mX0_init : xM := (yX0_init, cX0_init, 1, none, 1, 12)
abbrev mX0_clear : xM := (yX0_clear, cX0_clear, 1, none, 0, 0)
abbrev mX0_becomeLike : xM := (yX0_becomeLike, cX0_becomeLike, 3, none, 1, 26)
abbrev mX0_tie : xM := (yX0_tie, cX0_tie, 3, (some .boolean), 0, 0)
abbrev mX0_threads : xM := (yX0_threads, cX0_threads, 1, (some .int), 0, 0)
abbrev mX0_size : xM := (yX0_size, cX0_size, 1, (some .int), 0, 0)
abbrev mX0_hasThread : xM := (yX0_hasThread, cX0_hasThread, 2, (some .boolean), 0, 0)
abbrev mX0_hasStretch : xM := (yX0_hasStretch, cX0_hasStretch, 2, (some .boolean), 0, 0)
abbrev mX0_nailOf : xM := (yX0_nailOf, cX0_nailOf, 2, (some .int), 1, 21)
abbrev mX0_kindOf : xM := (yX0_kindOf, cX0_kindOf, 2, (some .int), 1, 21)
abbrev mX0_stretchesOf : xM := (yX0_stretchesOf, cX0_stretchesOf, 2, (some .int), 1, 21)
abbrev mX0_threadAt : xM := (yX0_threadAt, cX0_threadAt, 2, (some .int), 0, 0)
abbrev mX0_fromAt : xM := (yX0_fromAt, cX0_fromAt, 2, (some .int), 0, 0)
abbrev mX0_toAt : xM := (yX0_toAt, cX0_toAt, 2, (some .int), 0, 0)
abbrev mX0_placeAt : xM := (yX0_placeAt, cX0_placeAt, 2, (some .int), 0, 0)
abbrev mX0_packed : xM := (yX0_packed, cX0_packed, 4, (some .int), 0, 0)
abbrev mX0_lengthOf : xM := (yX0_lengthOf, cX0_lengthOf, 4, (some .int), 1, 22)
abbrev mX0_lengthOfAll : xM := (yX0_lengthOfAll, cX0_lengthOfAll, 3, (some .int), 1, 22)
abbrev mX0_endNails : xM := (yX0_endNails, cX0_endNails, 3, (some .int), 1, 21)
abbrev mX0_mayWind : xM := (yX0_mayWind, cX0_mayWind, 4, (some .boolean), 2, 51)
abbrev mX0_openNails : xM := (yX0_openNails, cX0_openNails, 4, (some .int), 3, 74)
abbrev mX0_bestNail : xM := (yX0_bestNail, cX0_bestNail, 6, (some .int), 3, 74)
abbrev mX0_crossed : xM := (yX0_crossed, cX0_crossed, 7, (some .int), 1, 25)
abbrev mX0_crossedBetween : xM := (yX0_crossedBetween, cX0_crossedBetween, 3, (some .int), 2, 51)
abbrev mX0_crossingFrom : xM := (yX0_crossingFrom, cX0_crossingFrom, 3, (some .int), 2, 51)
abbrev mX0_aboveOf : xM := (yX0_aboveOf, cX0_aboveOf, 5, (some .int), 2, 49)
abbrev mX0_crossesOneOf : xM := (yX0_crossesOneOf, cX0_crossesOneOf, 5, (some .boolean), 1, 25)
abbrev mX0_crossingsOf : xM := (yX0_crossingsOf, cX0_crossingsOf, 5, (some .int), 2, 51)
abbrev mX0_allCrossings : xM := (yX0_allCrossings, cX0_allCrossings, 1, (some .int), 0, 0)
abbrev mX0_lastOf : xM := (yX0_lastOf, cX0_lastOf, 3, (some .int), 1, 21)
abbrev mX0_worthOf : xM := (yX0_worthOf, cX0_worthOf, 3, (some .int), 3, 73)
abbrev mX0_windOn : xM := (yX0_windOn, cX0_windOn, 5, (some .int), 2, 51)
abbrev mX0_windStar : xM := (yX0_windStar, cX0_windStar, 7, (some .int), 3, 75)
abbrev mX0_mayUnwind : xM := (yX0_mayUnwind, cX0_mayUnwind, 3, (some .boolean), 2, 51)
abbrev mX0_unwindLast : xM := (yX0_unwindLast, cX0_unwindLast, 4, (some .int), 2, 51)
abbrev mX0_mayCut : xM := (yX0_mayCut, cX0_mayCut, 2, (some .boolean), 2, 42)
abbrev mX0_cutOff : xM := (yX0_cutOff, cX0_cutOff, 5, (some .int), 2, 51)
abbrev mX0_turnByOne : xM := (yX0_turnByOne, cX0_turnByOne, 2, none, 2, 43)
abbrev mX0_turnOver : xM := (yX0_turnOver, cX0_turnOver, 4, none, 2, 43)
abbrev mX1_init : xM := (yX1_init, cX1_init, 1, none, 1, 12)
abbrev mX1_toldFraction : xM := (yX1_toldFraction, cX1_toldFraction, 4, (some .int), 2, 45)
abbrev mX1_commonDivisor : xM := (yX1_commonDivisor, cX1_commonDivisor, 6, (some .int), 1, 20)
abbrev mX1_twiceShare : xM := (yX1_twiceShare, cX1_twiceShare, 5, (some .int), 3, 75)
abbrev mX1_allWeight : xM := (yX1_allWeight, cX1_allWeight, 3, (some .int), 1, 20)
abbrev mX1_weightOfSnaps : xM := (yX1_weightOfSnaps, cX1_weightOfSnaps, 6, (some .int), 4, 98)
abbrev mX1_countBetween : xM := (yX1_countBetween, cX1_countBetween, 4, none, 3, 75)
abbrev mX1_crossingsAmong : xM := (yX1_crossingsAmong, cX1_crossingsAmong, 5, (some .int), 0, 0)
abbrev mX1_weightOf : xM := (yX1_weightOf, cX1_weightOf, 5, (some .int), 1, 20)
abbrev mX1_drawnFrom : xM := (yX1_drawnFrom, cX1_drawnFrom, 2, (some .long), 0, 0)
abbrev mX1_liveYear : xM := (yX1_liveYear, cX1_liveYear, 4, none, 4, 97)
abbrev mX2_isTooLong : xM := (yX2_isTooLong, cX2_isTooLong, 3, (some .boolean), 1, 22)
abbrev mX2_firstWrong : xM := (yX2_firstWrong, cX2_firstWrong, 7, (some .int), 5, 120)
abbrev mX2_powerAt : xM := (yX2_powerAt, cX2_powerAt, 1, (some .long), 1, 22)
abbrev mX2_comesTrue : xM := (yX2_comesTrue, cX2_comesTrue, 3, (some .boolean), 4, 98)
abbrev mX2_winds : xM := (yX2_winds, cX2_winds, 3, (some .boolean), 3, 75)
abbrev mX2_unwinds : xM := (yX2_unwinds, cX2_unwinds, 2, (some .boolean), 3, 74)
abbrev mX2_cuts : xM := (yX2_cuts, cX2_cuts, 2, (some .boolean), 3, 75)
abbrev mX2_turns : xM := (yX2_turns, cX2_turns, 1, (some .boolean), 3, 64)
abbrev mX2_turnsOver : xM := (yX2_turnsOver, cX2_turnsOver, 1, (some .boolean), 3, 66)
abbrev mX2_doCross : xM := (yX2_doCross, cX2_doCross, 4, (some .boolean), 3, 75)
abbrev mX3_init : xM := (yX3_init, cX3_init, 2, none, 2, 32)
abbrev mX3_size : xM := (yX3_size, cX3_size, 1, (some .int), 0, 0)
abbrev mX3_clear : xM := (yX3_clear, cX3_clear, 1, none, 0, 0)
abbrev mX3_add : xM := (yX3_add, cX3_add, 2, none, 2, 48)
abbrev mX3_takeBack : xM := (yX3_takeBack, cX3_takeBack, 2, (some .boolean), 2, 48)
abbrev mX4_init : xM := (yX4_init, cX4_init, 1, none, 1, 12)
abbrev mX4_tryAll : xM := (yX4_tryAll, cX4_tryAll, 6, none, 4, 101)
abbrev mX4_isAtRest : xM := (yX4_isAtRest, cX4_isAtRest, 2, (some .boolean), 0, 0)
abbrev mX4_howMany : xM := (yX4_howMany, cX4_howMany, 3, (some .int), 1, 21)
abbrev mX4_firstPair : xM := (yX4_firstPair, cX4_firstPair, 2, (some .int), 1, 21)
abbrev mX5_stepsOn : xM := (yX5_stepsOn, cX5_stepsOn, 2, (some .int), 1, 22)
abbrev mX5_apart : xM := (yX5_apart, cX5_apart, 3, (some .int), 1, 22)
abbrev mX5_lengthBetween : xM := (yX5_lengthBetween, cX5_lengthBetween, 3, (some .int), 0, 0)
abbrev mX5_doCross : xM := (yX5_doCross, cX5_doCross, 6, (some .boolean), 0, 0)
abbrev mX6_init : xM := (yX6_init, cX6_init, 1, none, 1, 12)
abbrev mX6_size : xM := (yX6_size, cX6_size, 1, (some .int), 0, 0)
abbrev mX6_clear : xM := (yX6_clear, cX6_clear, 1, none, 0, 0)
abbrev mX6_add : xM := (yX6_add, cX6_add, 4, (some .boolean), 0, 0)
abbrev mX6_fits : xM := (yX6_fits, cX6_fits, 5, (some .boolean), 2, 43)
abbrev mX6_howMany : xM := (yX6_howMany, cX6_howMany, 4, (some .int), 3, 67)
abbrev mX6_firstStar : xM := (yX6_firstStar, cX6_firstStar, 3, (some .int), 3, 67)
abbrev mX7_init : xM := (yX7_init, cX7_init, 2, none, 2, 32)
abbrev mX7_clear : xM := (yX7_clear, cX7_clear, 2, none, 0, 0)
abbrev mX7_put : xM := (yX7_put, cX7_put, 3, none, 2, 48)
abbrev mX7_giveBack : xM := (yX7_giveBack, cX7_giveBack, 3, (some .boolean), 2, 48)
abbrev mX8_init : xM := (yX8_init, cX8_init, 1, none, 1, 12)
abbrev mX8_length : xM := (yX8_length, cX8_length, 1, (some .int), 0, 0)
abbrev mX8_clear : xM := (yX8_clear, cX8_clear, 1, none, 0, 0)
abbrev mX8_add : xM := (yX8_add, cX8_add, 2, (some .boolean), 0, 0)
abbrev mX8_readOnto : xM := (yX8_readOnto, cX8_readOnto, 3, (some .int), 5, 120)
abbrev mX8_goesOn : xM := (yX8_goesOn, cX8_goesOn, 3, (some .boolean), 4, 98)
abbrev mX8_beginsThread : xM := (yX8_beginsThread, cX8_beginsThread, 3, (some .boolean), 1, 20)
abbrev mX8_windsOn : xM := (yX8_windsOn, cX8_windsOn, 4, (some .boolean), 3, 75)
abbrev mX8_isNail : xM := (yX8_isNail, cX8_isNail, 1, (some .boolean), 1, 22)
abbrev mX9_init : xM := (yX9_init, cX9_init, 1, none, 1, 12)
abbrev mX9_draw : xM := (yX9_draw, cX9_draw, 3, none, 2, 44)
abbrev mX9_join : xM := (yX9_join, cX9_join, 3, none, 1, 22)
abbrev mX9_areJoined : xM := (yX9_areJoined, cX9_areJoined, 3, (some .boolean), 0, 0)
abbrev mX9_partsOf : xM := (yX9_partsOf, cX9_partsOf, 5, (some .int), 3, 66)
abbrev mX9_crossedUpwards : xM := (yX9_crossedUpwards, cX9_crossedUpwards, 5, (some .int), 1, 20)
abbrev mX9_strokesOf : xM := (yX9_strokesOf, cX9_strokesOf, 6, (some .int), 3, 66)
abbrev mX9_groupOf : xM := (yX9_groupOf, cX9_groupOf, 5, (some .int), 0, 0)
abbrev mX9_oddNails : xM := (yX9_oddNails, cX9_oddNails, 4, (some .int), 1, 20)
abbrev mX10_init : xM := (yX10_init, cX10_init, 1, none, 3, 53)
abbrev mX10_write : xM := (yX10_write, cX10_write, 2, (some .int), 1, 22)
abbrev mX10_wipe : xM := (yX10_wipe, cX10_wipe, 2, (some .int), 1, 20)
abbrev mX10_fault : xM := (yX10_fault, cX10_fault, 1, (some .int), 6, 142)
abbrev mX10_board : xM := (yX10_board, cX10_board, 1, (some .int), 6, 142)
abbrev mX10_thread : xM := (yX10_thread, cX10_thread, 3, (some .int), 4, 97)
abbrev mX10_stretch : xM := (yX10_stretch, cX10_stretch, 3, (some .int), 3, 73)
abbrev mX10_wind : xM := (yX10_wind, cX10_wind, 3, (some .int), 3, 75)
abbrev mX10_unwind : xM := (yX10_unwind, cX10_unwind, 2, (some .int), 3, 74)
abbrev mX10_cut : xM := (yX10_cut, cX10_cut, 2, (some .int), 3, 75)
abbrev mX10_turn : xM := (yX10_turn, cX10_turn, 1, (some .int), 3, 69)
abbrev mX10_behind : xM := (yX10_behind, cX10_behind, 1, (some .int), 3, 69)
abbrev mX10_undo : xM := (yX10_undo, cX10_undo, 1, (some .int), 3, 69)
abbrev mX10_crossings : xM := (yX10_crossings, cX10_crossings, 3, (some .int), 3, 75)
abbrev mX10_parts : xM := (yX10_parts, cX10_parts, 1, (some .int), 4, 90)
abbrev mX10_strokes : xM := (yX10_strokes, cX10_strokes, 1, (some .int), 4, 91)
abbrev mX10_next : xM := (yX10_next, cX10_next, 4, (some .int), 4, 99)
abbrev mX10_star : xM := (yX10_star, cX10_star, 6, (some .int), 4, 101)
abbrev mX10_judge : xM := (yX10_judge, cX10_judge, 4, (some .int), 6, 146)
abbrev mX10_see : xM := (yX10_see, cX10_see, 4, (some .int), 1, 23)
abbrev mX10_unsee : xM := (yX10_unsee, cX10_unsee, 2, (some .int), 1, 20)
abbrev mX10_stars : xM := (yX10_stars, cX10_stars, 2, (some .int), 4, 90)
abbrev mX10_share : xM := (yX10_share, cX10_share, 3, (some .int), 4, 99)
abbrev mX10_rests : xM := (yX10_rests, cX10_rests, 4, (some .int), 5, 126)
abbrev mX10_snaps : xM := (yX10_snaps, cX10_snaps, 4, (some .int), 5, 123)
abbrev mX10_seed : xM := (yX10_seed, cX10_seed, 5, (some .long), 0, 0)
abbrev mX10_years : xM := (yX10_years, cX10_years, 4, (some .int), 5, 120)
abbrev mX10_keep : xM := (yX10_keep, cX10_keep, 2, (some .int), 3, 70)
abbrev mX10_again : xM := (yX10_again, cX10_again, 2, (some .int), 3, 70)
abbrev mX10_count : xM := (yX10_count, cX10_count, 2, (some .int), 2, 44)
abbrev mX10_isOutside : xM := (yX10_isOutside, cX10_isOutside, 3, (some .boolean), 0, 0)
abbrev mX11_init : xM := (yX11_init, cX11_init, 1, none, 1, 12)
abbrev mX11_in : xM := (yX11_in, cX11_in, 6, (some .boolean), 0, 0)
abbrev mX11_has : xM := (yX11_has, cX11_has, 2, (some .boolean), 0, 0)
abbrev mX11_ones : xM := (yX11_ones, cX11_ones, 3, (some .int), 0, 0)
abbrev mX11_isNail : xM := (yX11_isNail, cX11_isNail, 1, (some .boolean), 1, 25)
abbrev mX11_apart : xM := (yX11_apart, cX11_apart, 3, (some .int), 0, 0)
abbrev mX11_longBy : xM := (yX11_longBy, cX11_longBy, 2, (some .int), 1, 22)
abbrev mX11_isBetween : xM := (yX11_isBetween, cX11_isBetween, 3, (some .boolean), 0, 0)
abbrev mX11_cross : xM := (yX11_cross, cX11_cross, 4, (some .boolean), 1, 22)
abbrev mX11_asOne : xM := (yX11_asOne, cX11_asOne, 4, (some .int), 0, 0)
abbrev mX11_threadOf : xM := (yX11_threadOf, cX11_threadOf, 1, (some .int), 0, 0)
abbrev mX11_fromOf : xM := (yX11_fromOf, cX11_fromOf, 1, (some .int), 0, 0)
abbrev mX11_toOf : xM := (yX11_toOf, cX11_toOf, 1, (some .int), 0, 0)
abbrev mX11_whichOf : xM := (yX11_whichOf, cX11_whichOf, 1, (some .int), 0, 0)
abbrev mX11_crossOnes : xM := (yX11_crossOnes, cX11_crossOnes, 2, (some .boolean), 2, 45)
abbrev mX11_laid : xM := (yX11_laid, cX11_laid, 3, (some .int), 0, 0)
abbrev mX11_many : xM := (yX11_many, cX11_many, 2, (some .int), 0, 0)
abbrev mX11_write : xM := (yX11_write, cX11_write, 2, (some .int), 1, 25)
abbrev mX11_wipe : xM := (yX11_wipe, cX11_wipe, 2, (some .int), 0, 0)
abbrev mX11_clearLevel : xM := (yX11_clearLevel, cX11_clearLevel, 3, none, 0, 0)
abbrev mX11_kindOf : xM := (yX11_kindOf, cX11_kindOf, 3, (some .int), 0, 0)
abbrev mX11_readText : xM := (yX11_readText, cX11_readText, 2, (some .int), 6, 144)
abbrev mX11_readParts : xM := (yX11_readParts, cX11_readParts, 5, (some .int), 5, 120)
abbrev mX11_mayLay : xM := (yX11_mayLay, cX11_mayLay, 3, (some .boolean), 4, 98)
abbrev mX11_fault : xM := (yX11_fault, cX11_fault, 1, (some .int), 7, 165)
abbrev mX11_board : xM := (yX11_board, cX11_board, 2, (some .int), 7, 165)
abbrev mX11_isThread : xM := (yX11_isThread, cX11_isThread, 2, (some .boolean), 1, 25)
abbrev mX11_stretchesOf : xM := (yX11_stretchesOf, cX11_stretchesOf, 5, (some .int), 1, 22)
abbrev mX11_longOf : xM := (yX11_longOf, cX11_longOf, 5, (some .int), 2, 43)
abbrev mX11_crossedBy : xM := (yX11_crossedBy, cX11_crossedBy, 8, (some .int), 2, 45)
abbrev mX11_mayWind : xM := (yX11_mayWind, cX11_mayWind, 6, (some .boolean), 3, 72)
abbrev mX11_windOn : xM := (yX11_windOn, cX11_windOn, 7, (some .int), 3, 72)
abbrev mX11_lastOf : xM := (yX11_lastOf, cX11_lastOf, 6, (some .int), 1, 22)
abbrev mX11_overOf : xM := (yX11_overOf, cX11_overOf, 5, (some .int), 3, 66)
abbrev mX11_canUnwind : xM := (yX11_canUnwind, cX11_canUnwind, 3, (some .boolean), 4, 90)
abbrev mX11_takeOff : xM := (yX11_takeOff, cX11_takeOff, 5, none, 0, 0)
abbrev mX11_unwindOn : xM := (yX11_unwindOn, cX11_unwindOn, 4, none, 2, 47)
abbrev mX11_cutOn : xM := (yX11_cutOn, cX11_cutOn, 5, (some .int), 1, 24)
abbrev mX11_renamed : xM := (yX11_renamed, cX11_renamed, 2, (some .int), 0, 0)
abbrev mX11_renameOn : xM := (yX11_renameOn, cX11_renameOn, 7, none, 1, 23)
abbrev mX11_mayGo : xM := (yX11_mayGo, cX11_mayGo, 4, (some .int), 4, 97)
abbrev mX11_thread : xM := (yX11_thread, cX11_thread, 3, (some .int), 5, 120)
abbrev mX11_aboveOf : xM := (yX11_aboveOf, cX11_aboveOf, 6, (some .int), 3, 66)
abbrev mX11_stretch : xM := (yX11_stretch, cX11_stretch, 4, (some .int), 4, 91)
abbrev mX11_keepAct : xM := (yX11_keepAct, cX11_keepAct, 2, none, 0, 0)
abbrev mX11_wind : xM := (yX11_wind, cX11_wind, 3, (some .int), 4, 98)
abbrev mX11_unwind : xM := (yX11_unwind, cX11_unwind, 2, (some .int), 5, 112)
abbrev mX11_cut : xM := (yX11_cut, cX11_cut, 2, (some .int), 2, 48)
abbrev mX11_turn : xM := (yX11_turn, cX11_turn, 1, (some .int), 2, 49)
abbrev mX11_behind : xM := (yX11_behind, cX11_behind, 1, (some .int), 2, 49)
abbrev mX11_undo : xM := (yX11_undo, cX11_undo, 2, (some .int), 0, 0)
abbrev mX11_layTrial : xM := (yX11_layTrial, cX11_layTrial, 2, none, 0, 0)
abbrev mX11_crossesOf : xM := (yX11_crossesOf, cX11_crossesOf, 7, (some .int), 3, 66)
abbrev mX11_crossesOfTwo : xM := (yX11_crossesOfTwo, cX11_crossesOfTwo, 5, (some .int), 4, 92)
abbrev mX11_crossings : xM := (yX11_crossings, cX11_crossings, 3, (some .int), 5, 116)
abbrev mX11_findLines : xM := (yX11_findLines, cX11_findLines, 5, none, 1, 22)
abbrev mX11_partsOn : xM := (yX11_partsOn, cX11_partsOn, 5, (some .int), 2, 46)
abbrev mX11_parts : xM := (yX11_parts, cX11_parts, 1, (some .int), 3, 70)
abbrev mX11_partOf : xM := (yX11_partOf, cX11_partOf, 6, (some .int), 1, 21)
abbrev mX11_linesAt : xM := (yX11_linesAt, cX11_linesAt, 4, (some .int), 0, 0)
abbrev mX11_strokes : xM := (yX11_strokes, cX11_strokes, 7, (some .int), 2, 46)
abbrev mX11_next : xM := (yX11_next, cX11_next, 7, (some .int), 4, 97)
abbrev mX11_star : xM := (yX11_star, cX11_star, 10, (some .int), 4, 98)
abbrev mX11_tryThing : xM := (yX11_tryThing, cX11_tryThing, 8, (some .boolean), 5, 116)
abbrev mX11_tenThousandTo : xM := (yX11_tenThousandTo, cX11_tenThousandTo, 4, (some .long), 0, 0)
abbrev mX11_judge : xM := (yX11_judge, cX11_judge, 6, (some .int), 6, 143)
abbrev mX11_see : xM := (yX11_see, cX11_see, 4, (some .int), 2, 45)
abbrev mX11_unsee : xM := (yX11_unsee, cX11_unsee, 2, (some .int), 0, 0)
abbrev mX11_stars : xM := (yX11_stars, cX11_stars, 9, (some .int), 1, 25)
abbrev mX11_factorial : xM := (yX11_factorial, cX11_factorial, 3, (some .int), 0, 0)
abbrev mX11_common : xM := (yX11_common, cX11_common, 5, (some .int), 0, 0)
abbrev mX11_share : xM := (yX11_share, cX11_share, 6, (some .int), 4, 92)
abbrev mX11_choose : xM := (yX11_choose, cX11_choose, 4, none, 4, 98)
abbrev mX11_gain : xM := (yX11_gain, cX11_gain, 8, (some .int), 5, 121)
abbrev mX11_isRest : xM := (yX11_isRest, cX11_isRest, 5, (some .boolean), 6, 148)
abbrev mX11_rests : xM := (yX11_rests, cX11_rests, 7, (some .int), 7, 172)
abbrev mX11_snaps : xM := (yX11_snaps, cX11_snaps, 9, (some .int), 4, 92)
abbrev mX11_seed : xM := (yX11_seed, cX11_seed, 5, (some .long), 0, 0)
abbrev mX11_years : xM := (yX11_years, cX11_years, 5, (some .int), 6, 143)
abbrev mX11_keep : xM := (yX11_keep, cX11_keep, 3, (some .int), 1, 25)
abbrev mX11_again : xM := (yX11_again, cX11_again, 3, (some .int), 1, 25)
abbrev mX11_usedNails : xM := (yX11_usedNails, cX11_usedNails, 3, (some .int), 1, 22)
abbrev mX11_count : xM := (yX11_count, cX11_count, 2, (some .int), 4, 92)
abbrev mJ6_bitCount_0f7a4 : xM := (yJ6_bitCount_0f7a4, cJ6_bitCount_0f7a4, 1, (some .int), 0, 0)
abbrev mJ13_bitCount_95d88 : xM := (yJ13_bitCount_95d88, cJ13_bitCount_95d88, 2, (some .int), 0, 0)
abbrev mJ9_floorMod_7cf53 : xM := (yJ9_floorMod_7cf53, cJ9_floorMod_7cf53, 3, (some .int), 0, 0)
abbrev mJ9_abs_0f7a4 : xM := (yJ9_abs_0f7a4, cJ9_abs_0f7a4, 1, (some .int), 0, 0)
abbrev mJ9_max_7cf53 : xM := (yJ9_max_7cf53, cJ9_max_7cf53, 2, (some .int), 0, 0)
abbrev mJ9_min_7cf53 : xM := (yJ9_min_7cf53, cJ9_min_7cf53, 2, (some .int), 0, 0)
abbrev mL_law : xM := (yL_law, cL_law, 4, (some .boolean), 8, 198)
/-- the words of the tables that hold at every state of the launch -/
def GT : List Cond := lw_tbl.filter goodWord
theorem gt_of {w : Cond} (i : Nat) (h : lw_tbl[i]? = some w) (hg : goodWord w = true) : w ∈ GT := List.mem_filter.mpr ⟨List.mem_of_getElem? h, hg⟩
theorem gt_good : ∀ w ∈ GT, w ∈ lw_tbl ∧ ((w.onTables && w.keeps) = true ∨ ∃ ty, w = .arrayClass ty) := fun _ h => ⟨(List.mem_filter.mp h).1, good_of_word (List.mem_filter.mp h).2⟩
end
section
theorem dX0_init_0 : decode cX0_init 0 = .ok (.aload_n 0, 1) := by decide +kernel
theorem dX0_init_1 : decode cX0_init 1 = .ok (.invokespecial 3, 3) := by decide +kernel
theorem dX0_init_4 : decode cX0_init 4 = .ok (.aload_n 0, 1) := by decide +kernel
theorem dX0_init_5 : decode cX0_init 5 = .ok (.iconst 4, 1) := by decide +kernel
theorem dX0_init_6 : decode cX0_init 6 = .ok (.newarray .int, 2) := by decide +kernel
theorem dX0_init_8 : decode cX0_init 8 = .ok (.putfield 9, 3) := by decide +kernel
theorem dX0_init_11 : decode cX0_init 11 = .ok (.aload_n 0, 1) := by decide +kernel
theorem dX0_init_12 : decode cX0_init 12 = .ok (.iconst 4, 1) := by decide +kernel
theorem dX0_init_13 : decode cX0_init 13 = .ok (.newarray .int, 2) := by decide +kernel
theorem dX0_init_15 : decode cX0_init 15 = .ok (.putfield 15, 3) := by decide +kernel
theorem dX0_init_18 : decode cX0_init 18 = .ok (.aload_n 0, 1) := by decide +kernel
theorem dX0_init_19 : decode cX0_init 19 = .ok (.iconst 4, 1) := by decide +kernel
theorem dX0_init_20 : decode cX0_init 20 = .ok (.newarray .int, 2) := by decide +kernel
theorem dX0_init_22 : decode cX0_init 22 = .ok (.putfield 18, 3) := by decide +kernel
theorem dX0_init_25 : decode cX0_init 25 = .ok (.aload_n 0, 1) := by decide +kernel
theorem dX0_init_26 : decode cX0_init 26 = .ok (.bipush 48, 2) := by decide +kernel
theorem dX0_init_28 : decode cX0_init 28 = .ok (.newarray .int, 2) := by decide +kernel
theorem dX0_init_30 : decode cX0_init 30 = .ok (.putfield 21, 3) := by decide +kernel
theorem dX0_init_33 : decode cX0_init 33 = .ok (.aload_n 0, 1) := by decide +kernel
theorem dX0_init_34 : decode cX0_init 34 = .ok (.iconst 0, 1) := by decide +kernel
theorem dX0_init_35 : decode cX0_init 35 = .ok (.putfield 24, 3) := by decide +kernel
theorem dX0_init_38 : decode cX0_init 38 = .ok (.aload_n 0, 1) := by decide +kernel
theorem dX0_init_39 : decode cX0_init 39 = .ok (.iconst 0, 1) := by decide +kernel
theorem dX0_init_40 : decode cX0_init 40 = .ok (.putfield 28, 3) := by decide +kernel
theorem dX0_init_43 : decode cX0_init 43 = .ok (.aload_n 0, 1) := by decide +kernel
theorem dX0_init_44 : decode cX0_init 44 = .ok (.iconst 0, 1) := by decide +kernel
theorem dX0_init_45 : decode cX0_init 45 = .ok (.putfield 31, 3) := by decide +kernel
theorem dX0_init_48 : decode cX0_init 48 = .ok (.return_, 1) := by decide +kernel
theorem dX0_clear_0 : decode cX0_clear 0 = .ok (.aload_n 0, 1) := by decide +kernel
theorem dX0_clear_1 : decode cX0_clear 1 = .ok (.iconst 0, 1) := by decide +kernel
theorem dX0_clear_2 : decode cX0_clear 2 = .ok (.putfield 24, 3) := by decide +kernel
theorem dX0_clear_5 : decode cX0_clear 5 = .ok (.aload_n 0, 1) := by decide +kernel
theorem dX0_clear_6 : decode cX0_clear 6 = .ok (.iconst 0, 1) := by decide +kernel
theorem dX0_clear_7 : decode cX0_clear 7 = .ok (.putfield 28, 3) := by decide +kernel
theorem dX0_clear_10 : decode cX0_clear 10 = .ok (.aload_n 0, 1) := by decide +kernel
theorem dX0_clear_11 : decode cX0_clear 11 = .ok (.iconst 0, 1) := by decide +kernel
theorem dX0_clear_12 : decode cX0_clear 12 = .ok (.putfield 31, 3) := by decide +kernel
theorem dX0_clear_15 : decode cX0_clear 15 = .ok (.return_, 1) := by decide +kernel
theorem dX0_becomeLike_0 : decode cX0_becomeLike 0 = .ok (.aload_n 0, 1) := by decide +kernel
theorem dX0_becomeLike_1 : decode cX0_becomeLike 1 = .ok (.aload_n 1, 1) := by decide +kernel
theorem dX0_becomeLike_2 : decode cX0_becomeLike 2 = .ok (.getfield 24, 3) := by decide +kernel
theorem dX0_becomeLike_5 : decode cX0_becomeLike 5 = .ok (.putfield 24, 3) := by decide +kernel
theorem dX0_becomeLike_8 : decode cX0_becomeLike 8 = .ok (.aload_n 0, 1) := by decide +kernel
theorem dX0_becomeLike_9 : decode cX0_becomeLike 9 = .ok (.aload_n 1, 1) := by decide +kernel
theorem dX0_becomeLike_10 : decode cX0_becomeLike 10 = .ok (.getfield 28, 3) := by decide +kernel
theorem dX0_becomeLike_13 : decode cX0_becomeLike 13 = .ok (.putfield 28, 3) := by decide +kernel
theorem dX0_becomeLike_16 : decode cX0_becomeLike 16 = .ok (.aload_n 0, 1) := by decide +kernel
theorem dX0_becomeLike_17 : decode cX0_becomeLike 17 = .ok (.aload_n 1, 1) := by decide +kernel
theorem dX0_becomeLike_18 : decode cX0_becomeLike 18 = .ok (.getfield 31, 3) := by decide +kernel
theorem dX0_becomeLike_21 : decode cX0_becomeLike 21 = .ok (.putfield 31, 3) := by decide +kernel
theorem dX0_becomeLike_24 : decode cX0_becomeLike 24 = .ok (.aload_n 1, 1) := by decide +kernel
theorem dX0_becomeLike_25 : decode cX0_becomeLike 25 = .ok (.getfield 9, 3) := by decide +kernel
theorem dX0_becomeLike_28 : decode cX0_becomeLike 28 = .ok (.iconst 0, 1) := by decide +kernel
theorem dX0_becomeLike_29 : decode cX0_becomeLike 29 = .ok (.aload_n 0, 1) := by decide +kernel
theorem dX0_becomeLike_30 : decode cX0_becomeLike 30 = .ok (.getfield 9, 3) := by decide +kernel
theorem dX0_becomeLike_33 : decode cX0_becomeLike 33 = .ok (.iconst 0, 1) := by decide +kernel
theorem dX0_becomeLike_34 : decode cX0_becomeLike 34 = .ok (.iconst 4, 1) := by decide +kernel
theorem dX0_becomeLike_35 : decode cX0_becomeLike 35 = .ok (.invokestatic 34, 3) := by decide +kernel
theorem dX0_becomeLike_38 : decode cX0_becomeLike 38 = .ok (.aload_n 1, 1) := by decide +kernel
theorem dX0_becomeLike_39 : decode cX0_becomeLike 39 = .ok (.getfield 15, 3) := by decide +kernel
theorem dX0_becomeLike_42 : decode cX0_becomeLike 42 = .ok (.iconst 0, 1) := by decide +kernel
theorem dX0_becomeLike_43 : decode cX0_becomeLike 43 = .ok (.aload_n 0, 1) := by decide +kernel
theorem dX0_becomeLike_44 : decode cX0_becomeLike 44 = .ok (.getfield 15, 3) := by decide +kernel
theorem dX0_becomeLike_47 : decode cX0_becomeLike 47 = .ok (.iconst 0, 1) := by decide +kernel
theorem dX0_becomeLike_48 : decode cX0_becomeLike 48 = .ok (.iconst 4, 1) := by decide +kernel
theorem dX0_becomeLike_49 : decode cX0_becomeLike 49 = .ok (.invokestatic 34, 3) := by decide +kernel
theorem dX0_becomeLike_52 : decode cX0_becomeLike 52 = .ok (.aload_n 1, 1) := by decide +kernel
theorem dX0_becomeLike_53 : decode cX0_becomeLike 53 = .ok (.getfield 18, 3) := by decide +kernel
theorem dX0_becomeLike_56 : decode cX0_becomeLike 56 = .ok (.iconst 0, 1) := by decide +kernel
theorem dX0_becomeLike_57 : decode cX0_becomeLike 57 = .ok (.aload_n 0, 1) := by decide +kernel
theorem dX0_becomeLike_58 : decode cX0_becomeLike 58 = .ok (.getfield 18, 3) := by decide +kernel
theorem dX0_becomeLike_61 : decode cX0_becomeLike 61 = .ok (.iconst 0, 1) := by decide +kernel
theorem dX0_becomeLike_62 : decode cX0_becomeLike 62 = .ok (.iconst 4, 1) := by decide +kernel
theorem dX0_becomeLike_63 : decode cX0_becomeLike 63 = .ok (.invokestatic 34, 3) := by decide +kernel
theorem dX0_becomeLike_66 : decode cX0_becomeLike 66 = .ok (.iconst 0, 1) := by decide +kernel
theorem dX0_becomeLike_67 : decode cX0_becomeLike 67 = .ok (.istore_n 2, 1) := by decide +kernel
theorem dX0_becomeLike_68 : decode cX0_becomeLike 68 = .ok (.iload_n 2, 1) := by decide +kernel
theorem dX0_becomeLike_69 : decode cX0_becomeLike 69 = .ok (.aload_n 0, 1) := by decide +kernel
theorem dX0_becomeLike_70 : decode cX0_becomeLike 70 = .ok (.getfield 28, 3) := by decide +kernel
theorem dX0_becomeLike_73 : decode cX0_becomeLike 73 = .ok (.if_icmp .ge 21, 3) := by decide +kernel
theorem dX0_becomeLike_76 : decode cX0_becomeLike 76 = .ok (.aload_n 0, 1) := by decide +kernel
theorem dX0_becomeLike_77 : decode cX0_becomeLike 77 = .ok (.getfield 21, 3) := by decide +kernel
theorem dX0_becomeLike_80 : decode cX0_becomeLike 80 = .ok (.iload_n 2, 1) := by decide +kernel
theorem dX0_becomeLike_81 : decode cX0_becomeLike 81 = .ok (.aload_n 1, 1) := by decide +kernel
theorem dX0_becomeLike_82 : decode cX0_becomeLike 82 = .ok (.getfield 21, 3) := by decide +kernel
theorem dX0_becomeLike_85 : decode cX0_becomeLike 85 = .ok (.iload_n 2, 1) := by decide +kernel
theorem dX0_becomeLike_86 : decode cX0_becomeLike 86 = .ok (.iaload, 1) := by decide +kernel
theorem dX0_becomeLike_87 : decode cX0_becomeLike 87 = .ok (.iastore, 1) := by decide +kernel
theorem dX0_becomeLike_88 : decode cX0_becomeLike 88 = .ok (.iinc 2 1, 3) := by decide +kernel
theorem dX0_becomeLike_91 : decode cX0_becomeLike 91 = .ok (.goto (-23), 3) := by decide +kernel
theorem dX0_becomeLike_94 : decode cX0_becomeLike 94 = .ok (.return_, 1) := by decide +kernel
theorem dX0_tie_0 : decode cX0_tie 0 = .ok (.aload_n 0, 1) := by decide +kernel
theorem dX0_tie_1 : decode cX0_tie 1 = .ok (.getfield 24, 3) := by decide +kernel
theorem dX0_tie_4 : decode cX0_tie 4 = .ok (.iconst 4, 1) := by decide +kernel
theorem dX0_tie_5 : decode cX0_tie 5 = .ok (.if_icmp .lt 5, 3) := by decide +kernel
theorem dX0_tie_8 : decode cX0_tie 8 = .ok (.iconst 0, 1) := by decide +kernel
theorem dX0_tie_9 : decode cX0_tie 9 = .ok (.ireturn, 1) := by decide +kernel
theorem dX0_tie_10 : decode cX0_tie 10 = .ok (.aload_n 0, 1) := by decide +kernel
theorem dX0_tie_11 : decode cX0_tie 11 = .ok (.getfield 9, 3) := by decide +kernel
theorem dX0_tie_14 : decode cX0_tie 14 = .ok (.aload_n 0, 1) := by decide +kernel
theorem dX0_tie_15 : decode cX0_tie 15 = .ok (.getfield 24, 3) := by decide +kernel
theorem dX0_tie_18 : decode cX0_tie 18 = .ok (.iload_n 1, 1) := by decide +kernel
theorem dX0_tie_19 : decode cX0_tie 19 = .ok (.iastore, 1) := by decide +kernel
theorem dX0_tie_20 : decode cX0_tie 20 = .ok (.aload_n 0, 1) := by decide +kernel
theorem dX0_tie_21 : decode cX0_tie 21 = .ok (.getfield 15, 3) := by decide +kernel
theorem dX0_tie_24 : decode cX0_tie 24 = .ok (.aload_n 0, 1) := by decide +kernel
theorem dX0_tie_25 : decode cX0_tie 25 = .ok (.getfield 24, 3) := by decide +kernel
theorem dX0_tie_28 : decode cX0_tie 28 = .ok (.iload_n 2, 1) := by decide +kernel
theorem dX0_tie_29 : decode cX0_tie 29 = .ok (.iastore, 1) := by decide +kernel
theorem dX0_tie_30 : decode cX0_tie 30 = .ok (.aload_n 0, 1) := by decide +kernel
theorem dX0_tie_31 : decode cX0_tie 31 = .ok (.getfield 18, 3) := by decide +kernel
theorem dX0_tie_34 : decode cX0_tie 34 = .ok (.aload_n 0, 1) := by decide +kernel
theorem dX0_tie_35 : decode cX0_tie 35 = .ok (.getfield 24, 3) := by decide +kernel
theorem dX0_tie_38 : decode cX0_tie 38 = .ok (.iconst 0, 1) := by decide +kernel
theorem dX0_tie_39 : decode cX0_tie 39 = .ok (.iastore, 1) := by decide +kernel
theorem dX0_tie_40 : decode cX0_tie 40 = .ok (.aload_n 0, 1) := by decide +kernel
theorem dX0_tie_41 : decode cX0_tie 41 = .ok (.dup, 1) := by decide +kernel
theorem dX0_tie_42 : decode cX0_tie 42 = .ok (.getfield 24, 3) := by decide +kernel
theorem dX0_tie_45 : decode cX0_tie 45 = .ok (.iconst 1, 1) := by decide +kernel
theorem dX0_tie_46 : decode cX0_tie 46 = .ok (.iadd, 1) := by decide +kernel
theorem dX0_tie_47 : decode cX0_tie 47 = .ok (.putfield 24, 3) := by decide +kernel
theorem dX0_tie_50 : decode cX0_tie 50 = .ok (.iconst 1, 1) := by decide +kernel
theorem dX0_tie_51 : decode cX0_tie 51 = .ok (.ireturn, 1) := by decide +kernel
theorem dX0_threads_0 : decode cX0_threads 0 = .ok (.aload_n 0, 1) := by decide +kernel
theorem dX0_threads_1 : decode cX0_threads 1 = .ok (.getfield 24, 3) := by decide +kernel
theorem dX0_threads_4 : decode cX0_threads 4 = .ok (.ireturn, 1) := by decide +kernel
theorem dX0_size_0 : decode cX0_size 0 = .ok (.aload_n 0, 1) := by decide +kernel
theorem dX0_size_1 : decode cX0_size 1 = .ok (.getfield 28, 3) := by decide +kernel
theorem dX0_size_4 : decode cX0_size 4 = .ok (.ireturn, 1) := by decide +kernel
theorem dX0_hasThread_0 : decode cX0_hasThread 0 = .ok (.iload_n 1, 1) := by decide +kernel
theorem dX0_hasThread_1 : decode cX0_hasThread 1 = .ok (.ifCond .lt 15, 3) := by decide +kernel
theorem dX0_hasThread_4 : decode cX0_hasThread 4 = .ok (.iload_n 1, 1) := by decide +kernel
theorem dX0_hasThread_5 : decode cX0_hasThread 5 = .ok (.aload_n 0, 1) := by decide +kernel
theorem dX0_hasThread_6 : decode cX0_hasThread 6 = .ok (.getfield 24, 3) := by decide +kernel
theorem dX0_hasThread_9 : decode cX0_hasThread 9 = .ok (.if_icmp .ge 7, 3) := by decide +kernel
theorem dX0_hasThread_12 : decode cX0_hasThread 12 = .ok (.iconst 1, 1) := by decide +kernel
theorem dX0_hasThread_13 : decode cX0_hasThread 13 = .ok (.goto 4, 3) := by decide +kernel
theorem dX0_hasThread_16 : decode cX0_hasThread 16 = .ok (.iconst 0, 1) := by decide +kernel
theorem dX0_hasThread_17 : decode cX0_hasThread 17 = .ok (.ireturn, 1) := by decide +kernel
theorem dX0_hasStretch_0 : decode cX0_hasStretch 0 = .ok (.iload_n 1, 1) := by decide +kernel
theorem dX0_hasStretch_1 : decode cX0_hasStretch 1 = .ok (.ifCond .lt 15, 3) := by decide +kernel
theorem dX0_hasStretch_4 : decode cX0_hasStretch 4 = .ok (.iload_n 1, 1) := by decide +kernel
theorem dX0_hasStretch_5 : decode cX0_hasStretch 5 = .ok (.aload_n 0, 1) := by decide +kernel
theorem dX0_hasStretch_6 : decode cX0_hasStretch 6 = .ok (.getfield 28, 3) := by decide +kernel
theorem dX0_hasStretch_9 : decode cX0_hasStretch 9 = .ok (.if_icmp .ge 7, 3) := by decide +kernel
theorem dX0_hasStretch_12 : decode cX0_hasStretch 12 = .ok (.iconst 1, 1) := by decide +kernel
theorem dX0_hasStretch_13 : decode cX0_hasStretch 13 = .ok (.goto 4, 3) := by decide +kernel
theorem dX0_hasStretch_16 : decode cX0_hasStretch 16 = .ok (.iconst 0, 1) := by decide +kernel
theorem dX0_hasStretch_17 : decode cX0_hasStretch 17 = .ok (.ireturn, 1) := by decide +kernel
theorem dX0_nailOf_0 : decode cX0_nailOf 0 = .ok (.aload_n 0, 1) := by decide +kernel
theorem dX0_nailOf_1 : decode cX0_nailOf 1 = .ok (.iload_n 1, 1) := by decide +kernel
theorem dX0_nailOf_2 : decode cX0_nailOf 2 = .ok (.invokevirtual 40, 3) := by decide +kernel
theorem dX0_nailOf_5 : decode cX0_nailOf 5 = .ok (.ifCond .eq 12, 3) := by decide +kernel
theorem dX0_nailOf_8 : decode cX0_nailOf 8 = .ok (.aload_n 0, 1) := by decide +kernel
theorem dX0_nailOf_9 : decode cX0_nailOf 9 = .ok (.getfield 15, 3) := by decide +kernel
theorem dX0_nailOf_12 : decode cX0_nailOf 12 = .ok (.iload_n 1, 1) := by decide +kernel
theorem dX0_nailOf_13 : decode cX0_nailOf 13 = .ok (.iaload, 1) := by decide +kernel
theorem dX0_nailOf_14 : decode cX0_nailOf 14 = .ok (.goto 4, 3) := by decide +kernel
theorem dX0_nailOf_17 : decode cX0_nailOf 17 = .ok (.iconst (-1), 1) := by decide +kernel
theorem dX0_nailOf_18 : decode cX0_nailOf 18 = .ok (.ireturn, 1) := by decide +kernel
theorem dX0_kindOf_0 : decode cX0_kindOf 0 = .ok (.aload_n 0, 1) := by decide +kernel
theorem dX0_kindOf_1 : decode cX0_kindOf 1 = .ok (.iload_n 1, 1) := by decide +kernel
theorem dX0_kindOf_2 : decode cX0_kindOf 2 = .ok (.invokevirtual 40, 3) := by decide +kernel
theorem dX0_kindOf_5 : decode cX0_kindOf 5 = .ok (.ifCond .eq 12, 3) := by decide +kernel
theorem dX0_kindOf_8 : decode cX0_kindOf 8 = .ok (.aload_n 0, 1) := by decide +kernel
theorem dX0_kindOf_9 : decode cX0_kindOf 9 = .ok (.getfield 9, 3) := by decide +kernel
theorem dX0_kindOf_12 : decode cX0_kindOf 12 = .ok (.iload_n 1, 1) := by decide +kernel
theorem dX0_kindOf_13 : decode cX0_kindOf 13 = .ok (.iaload, 1) := by decide +kernel
theorem dX0_kindOf_14 : decode cX0_kindOf 14 = .ok (.goto 4, 3) := by decide +kernel
theorem dX0_kindOf_17 : decode cX0_kindOf 17 = .ok (.iconst (-1), 1) := by decide +kernel
theorem dX0_kindOf_18 : decode cX0_kindOf 18 = .ok (.ireturn, 1) := by decide +kernel
theorem dX0_stretchesOf_0 : decode cX0_stretchesOf 0 = .ok (.aload_n 0, 1) := by decide +kernel
theorem dX0_stretchesOf_1 : decode cX0_stretchesOf 1 = .ok (.iload_n 1, 1) := by decide +kernel
theorem dX0_stretchesOf_2 : decode cX0_stretchesOf 2 = .ok (.invokevirtual 40, 3) := by decide +kernel
theorem dX0_stretchesOf_5 : decode cX0_stretchesOf 5 = .ok (.ifCond .eq 12, 3) := by decide +kernel
theorem dX0_stretchesOf_8 : decode cX0_stretchesOf 8 = .ok (.aload_n 0, 1) := by decide +kernel
theorem dX0_stretchesOf_9 : decode cX0_stretchesOf 9 = .ok (.getfield 18, 3) := by decide +kernel
theorem dX0_stretchesOf_12 : decode cX0_stretchesOf 12 = .ok (.iload_n 1, 1) := by decide +kernel
theorem dX0_stretchesOf_13 : decode cX0_stretchesOf 13 = .ok (.iaload, 1) := by decide +kernel
theorem dX0_stretchesOf_14 : decode cX0_stretchesOf 14 = .ok (.goto 4, 3) := by decide +kernel
theorem dX0_stretchesOf_17 : decode cX0_stretchesOf 17 = .ok (.iconst 0, 1) := by decide +kernel
theorem dX0_stretchesOf_18 : decode cX0_stretchesOf 18 = .ok (.ireturn, 1) := by decide +kernel
theorem dX0_threadAt_0 : decode cX0_threadAt 0 = .ok (.iload_n 1, 1) := by decide +kernel
theorem dX0_threadAt_1 : decode cX0_threadAt 1 = .ok (.ifCond .lt 23, 3) := by decide +kernel
theorem dX0_threadAt_4 : decode cX0_threadAt 4 = .ok (.iload_n 1, 1) := by decide +kernel
theorem dX0_threadAt_5 : decode cX0_threadAt 5 = .ok (.aload_n 0, 1) := by decide +kernel
theorem dX0_threadAt_6 : decode cX0_threadAt 6 = .ok (.getfield 28, 3) := by decide +kernel
theorem dX0_threadAt_9 : decode cX0_threadAt 9 = .ok (.if_icmp .ge 15, 3) := by decide +kernel
theorem dX0_threadAt_12 : decode cX0_threadAt 12 = .ok (.aload_n 0, 1) := by decide +kernel
theorem dX0_threadAt_13 : decode cX0_threadAt 13 = .ok (.getfield 21, 3) := by decide +kernel
theorem dX0_threadAt_16 : decode cX0_threadAt 16 = .ok (.iload_n 1, 1) := by decide +kernel
theorem dX0_threadAt_17 : decode cX0_threadAt 17 = .ok (.iaload, 1) := by decide +kernel
theorem dX0_threadAt_18 : decode cX0_threadAt 18 = .ok (.bipush 15, 2) := by decide +kernel
theorem dX0_threadAt_20 : decode cX0_threadAt 20 = .ok (.iand, 1) := by decide +kernel
theorem dX0_threadAt_21 : decode cX0_threadAt 21 = .ok (.goto 4, 3) := by decide +kernel
theorem dX0_threadAt_24 : decode cX0_threadAt 24 = .ok (.iconst (-1), 1) := by decide +kernel
theorem dX0_threadAt_25 : decode cX0_threadAt 25 = .ok (.ireturn, 1) := by decide +kernel
theorem dX0_fromAt_0 : decode cX0_fromAt 0 = .ok (.iload_n 1, 1) := by decide +kernel
theorem dX0_fromAt_1 : decode cX0_fromAt 1 = .ok (.ifCond .lt 25, 3) := by decide +kernel
theorem dX0_fromAt_4 : decode cX0_fromAt 4 = .ok (.iload_n 1, 1) := by decide +kernel
theorem dX0_fromAt_5 : decode cX0_fromAt 5 = .ok (.aload_n 0, 1) := by decide +kernel
theorem dX0_fromAt_6 : decode cX0_fromAt 6 = .ok (.getfield 28, 3) := by decide +kernel
theorem dX0_fromAt_9 : decode cX0_fromAt 9 = .ok (.if_icmp .ge 17, 3) := by decide +kernel
theorem dX0_fromAt_12 : decode cX0_fromAt 12 = .ok (.aload_n 0, 1) := by decide +kernel
theorem dX0_fromAt_13 : decode cX0_fromAt 13 = .ok (.getfield 21, 3) := by decide +kernel
theorem dX0_fromAt_16 : decode cX0_fromAt 16 = .ok (.iload_n 1, 1) := by decide +kernel
theorem dX0_fromAt_17 : decode cX0_fromAt 17 = .ok (.iaload, 1) := by decide +kernel
theorem dX0_fromAt_18 : decode cX0_fromAt 18 = .ok (.iconst 4, 1) := by decide +kernel
theorem dX0_fromAt_19 : decode cX0_fromAt 19 = .ok (.ishr, 1) := by decide +kernel
theorem dX0_fromAt_20 : decode cX0_fromAt 20 = .ok (.bipush 15, 2) := by decide +kernel
theorem dX0_fromAt_22 : decode cX0_fromAt 22 = .ok (.iand, 1) := by decide +kernel
theorem dX0_fromAt_23 : decode cX0_fromAt 23 = .ok (.goto 4, 3) := by decide +kernel
theorem dX0_fromAt_26 : decode cX0_fromAt 26 = .ok (.iconst (-1), 1) := by decide +kernel
theorem dX0_fromAt_27 : decode cX0_fromAt 27 = .ok (.ireturn, 1) := by decide +kernel
theorem dX0_toAt_0 : decode cX0_toAt 0 = .ok (.iload_n 1, 1) := by decide +kernel
theorem dX0_toAt_1 : decode cX0_toAt 1 = .ok (.ifCond .lt 26, 3) := by decide +kernel
theorem dX0_toAt_4 : decode cX0_toAt 4 = .ok (.iload_n 1, 1) := by decide +kernel
theorem dX0_toAt_5 : decode cX0_toAt 5 = .ok (.aload_n 0, 1) := by decide +kernel
theorem dX0_toAt_6 : decode cX0_toAt 6 = .ok (.getfield 28, 3) := by decide +kernel
theorem dX0_toAt_9 : decode cX0_toAt 9 = .ok (.if_icmp .ge 18, 3) := by decide +kernel
theorem dX0_toAt_12 : decode cX0_toAt 12 = .ok (.aload_n 0, 1) := by decide +kernel
theorem dX0_toAt_13 : decode cX0_toAt 13 = .ok (.getfield 21, 3) := by decide +kernel
theorem dX0_toAt_16 : decode cX0_toAt 16 = .ok (.iload_n 1, 1) := by decide +kernel
theorem dX0_toAt_17 : decode cX0_toAt 17 = .ok (.iaload, 1) := by decide +kernel
theorem dX0_toAt_18 : decode cX0_toAt 18 = .ok (.bipush 8, 2) := by decide +kernel
theorem dX0_toAt_20 : decode cX0_toAt 20 = .ok (.ishr, 1) := by decide +kernel
theorem dX0_toAt_21 : decode cX0_toAt 21 = .ok (.bipush 15, 2) := by decide +kernel
theorem dX0_toAt_23 : decode cX0_toAt 23 = .ok (.iand, 1) := by decide +kernel
theorem dX0_toAt_24 : decode cX0_toAt 24 = .ok (.goto 4, 3) := by decide +kernel
theorem dX0_toAt_27 : decode cX0_toAt 27 = .ok (.iconst (-1), 1) := by decide +kernel
theorem dX0_toAt_28 : decode cX0_toAt 28 = .ok (.ireturn, 1) := by decide +kernel
theorem dX0_placeAt_0 : decode cX0_placeAt 0 = .ok (.iload_n 1, 1) := by decide +kernel
theorem dX0_placeAt_1 : decode cX0_placeAt 1 = .ok (.ifCond .lt 26, 3) := by decide +kernel
theorem dX0_placeAt_4 : decode cX0_placeAt 4 = .ok (.iload_n 1, 1) := by decide +kernel
theorem dX0_placeAt_5 : decode cX0_placeAt 5 = .ok (.aload_n 0, 1) := by decide +kernel
theorem dX0_placeAt_6 : decode cX0_placeAt 6 = .ok (.getfield 28, 3) := by decide +kernel
theorem dX0_placeAt_9 : decode cX0_placeAt 9 = .ok (.if_icmp .ge 18, 3) := by decide +kernel
theorem dX0_placeAt_12 : decode cX0_placeAt 12 = .ok (.aload_n 0, 1) := by decide +kernel
theorem dX0_placeAt_13 : decode cX0_placeAt 13 = .ok (.getfield 21, 3) := by decide +kernel
theorem dX0_placeAt_16 : decode cX0_placeAt 16 = .ok (.iload_n 1, 1) := by decide +kernel
theorem dX0_placeAt_17 : decode cX0_placeAt 17 = .ok (.iaload, 1) := by decide +kernel
theorem dX0_placeAt_18 : decode cX0_placeAt 18 = .ok (.bipush 12, 2) := by decide +kernel
theorem dX0_placeAt_20 : decode cX0_placeAt 20 = .ok (.ishr, 1) := by decide +kernel
theorem dX0_placeAt_21 : decode cX0_placeAt 21 = .ok (.bipush 15, 2) := by decide +kernel
theorem dX0_placeAt_23 : decode cX0_placeAt 23 = .ok (.iand, 1) := by decide +kernel
theorem dX0_placeAt_24 : decode cX0_placeAt 24 = .ok (.goto 4, 3) := by decide +kernel
theorem dX0_placeAt_27 : decode cX0_placeAt 27 = .ok (.iconst (-1), 1) := by decide +kernel
theorem dX0_placeAt_28 : decode cX0_placeAt 28 = .ok (.ireturn, 1) := by decide +kernel
theorem dX0_packed_0 : decode cX0_packed 0 = .ok (.iload_n 0, 1) := by decide +kernel
theorem dX0_packed_1 : decode cX0_packed 1 = .ok (.iload_n 1, 1) := by decide +kernel
theorem dX0_packed_2 : decode cX0_packed 2 = .ok (.iconst 4, 1) := by decide +kernel
theorem dX0_packed_3 : decode cX0_packed 3 = .ok (.ishl, 1) := by decide +kernel
theorem dX0_packed_4 : decode cX0_packed 4 = .ok (.ior, 1) := by decide +kernel
theorem dX0_packed_5 : decode cX0_packed 5 = .ok (.iload_n 2, 1) := by decide +kernel
theorem dX0_packed_6 : decode cX0_packed 6 = .ok (.bipush 8, 2) := by decide +kernel
theorem dX0_packed_8 : decode cX0_packed 8 = .ok (.ishl, 1) := by decide +kernel
theorem dX0_packed_9 : decode cX0_packed 9 = .ok (.ior, 1) := by decide +kernel
theorem dX0_packed_10 : decode cX0_packed 10 = .ok (.iload_n 3, 1) := by decide +kernel
theorem dX0_packed_11 : decode cX0_packed 11 = .ok (.bipush 12, 2) := by decide +kernel
theorem dX0_packed_13 : decode cX0_packed 13 = .ok (.ishl, 1) := by decide +kernel
theorem dX0_packed_14 : decode cX0_packed 14 = .ok (.ior, 1) := by decide +kernel
theorem dX0_packed_15 : decode cX0_packed 15 = .ok (.ireturn, 1) := by decide +kernel
theorem dX0_lengthOf_0 : decode cX0_lengthOf 0 = .ok (.iconst 0, 1) := by decide +kernel
theorem dX0_lengthOf_1 : decode cX0_lengthOf 1 = .ok (.istore_n 2, 1) := by decide +kernel
theorem dX0_lengthOf_2 : decode cX0_lengthOf 2 = .ok (.iconst 0, 1) := by decide +kernel
theorem dX0_lengthOf_3 : decode cX0_lengthOf 3 = .ok (.istore_n 3, 1) := by decide +kernel
theorem dX0_lengthOf_4 : decode cX0_lengthOf 4 = .ok (.iload_n 3, 1) := by decide +kernel
theorem dX0_lengthOf_5 : decode cX0_lengthOf 5 = .ok (.aload_n 0, 1) := by decide +kernel
theorem dX0_lengthOf_6 : decode cX0_lengthOf 6 = .ok (.getfield 28, 3) := by decide +kernel
theorem dX0_lengthOf_9 : decode cX0_lengthOf 9 = .ok (.if_icmp .ge 34, 3) := by decide +kernel
theorem dX0_lengthOf_12 : decode cX0_lengthOf 12 = .ok (.aload_n 0, 1) := by decide +kernel
theorem dX0_lengthOf_13 : decode cX0_lengthOf 13 = .ok (.iload_n 3, 1) := by decide +kernel
theorem dX0_lengthOf_14 : decode cX0_lengthOf 14 = .ok (.invokevirtual 44, 3) := by decide +kernel
theorem dX0_lengthOf_17 : decode cX0_lengthOf 17 = .ok (.iload_n 1, 1) := by decide +kernel
theorem dX0_lengthOf_18 : decode cX0_lengthOf 18 = .ok (.if_icmp .ne 19, 3) := by decide +kernel
theorem dX0_lengthOf_21 : decode cX0_lengthOf 21 = .ok (.iload_n 2, 1) := by decide +kernel
theorem dX0_lengthOf_22 : decode cX0_lengthOf 22 = .ok (.aload_n 0, 1) := by decide +kernel
theorem dX0_lengthOf_23 : decode cX0_lengthOf 23 = .ok (.iload_n 3, 1) := by decide +kernel
theorem dX0_lengthOf_24 : decode cX0_lengthOf 24 = .ok (.invokevirtual 48, 3) := by decide +kernel
theorem dX0_lengthOf_27 : decode cX0_lengthOf 27 = .ok (.aload_n 0, 1) := by decide +kernel
theorem dX0_lengthOf_28 : decode cX0_lengthOf 28 = .ok (.iload_n 3, 1) := by decide +kernel
theorem dX0_lengthOf_29 : decode cX0_lengthOf 29 = .ok (.invokevirtual 51, 3) := by decide +kernel
theorem dX0_lengthOf_32 : decode cX0_lengthOf 32 = .ok (.invokestatic 54, 3) := by decide +kernel
theorem dX0_lengthOf_35 : decode cX0_lengthOf 35 = .ok (.iadd, 1) := by decide +kernel
theorem dX0_lengthOf_36 : decode cX0_lengthOf 36 = .ok (.istore_n 2, 1) := by decide +kernel
theorem dX0_lengthOf_37 : decode cX0_lengthOf 37 = .ok (.iinc 3 1, 3) := by decide +kernel
theorem dX0_lengthOf_40 : decode cX0_lengthOf 40 = .ok (.goto (-36), 3) := by decide +kernel
theorem dX0_lengthOf_43 : decode cX0_lengthOf 43 = .ok (.iload_n 2, 1) := by decide +kernel
theorem dX0_lengthOf_44 : decode cX0_lengthOf 44 = .ok (.ireturn, 1) := by decide +kernel
theorem dX0_lengthOfAll_0 : decode cX0_lengthOfAll 0 = .ok (.iconst 0, 1) := by decide +kernel
theorem dX0_lengthOfAll_1 : decode cX0_lengthOfAll 1 = .ok (.istore_n 1, 1) := by decide +kernel
theorem dX0_lengthOfAll_2 : decode cX0_lengthOfAll 2 = .ok (.iconst 0, 1) := by decide +kernel
theorem dX0_lengthOfAll_3 : decode cX0_lengthOfAll 3 = .ok (.istore_n 2, 1) := by decide +kernel
theorem dX0_lengthOfAll_4 : decode cX0_lengthOfAll 4 = .ok (.iload_n 2, 1) := by decide +kernel
theorem dX0_lengthOfAll_5 : decode cX0_lengthOfAll 5 = .ok (.aload_n 0, 1) := by decide +kernel
theorem dX0_lengthOfAll_6 : decode cX0_lengthOfAll 6 = .ok (.getfield 28, 3) := by decide +kernel
theorem dX0_lengthOfAll_9 : decode cX0_lengthOfAll 9 = .ok (.if_icmp .ge 25, 3) := by decide +kernel
theorem dX0_lengthOfAll_12 : decode cX0_lengthOfAll 12 = .ok (.iload_n 1, 1) := by decide +kernel
theorem dX0_lengthOfAll_13 : decode cX0_lengthOfAll 13 = .ok (.aload_n 0, 1) := by decide +kernel
theorem dX0_lengthOfAll_14 : decode cX0_lengthOfAll 14 = .ok (.iload_n 2, 1) := by decide +kernel
theorem dX0_lengthOfAll_15 : decode cX0_lengthOfAll 15 = .ok (.invokevirtual 48, 3) := by decide +kernel
theorem dX0_lengthOfAll_18 : decode cX0_lengthOfAll 18 = .ok (.aload_n 0, 1) := by decide +kernel
theorem dX0_lengthOfAll_19 : decode cX0_lengthOfAll 19 = .ok (.iload_n 2, 1) := by decide +kernel
theorem dX0_lengthOfAll_20 : decode cX0_lengthOfAll 20 = .ok (.invokevirtual 51, 3) := by decide +kernel
theorem dX0_lengthOfAll_23 : decode cX0_lengthOfAll 23 = .ok (.invokestatic 54, 3) := by decide +kernel
theorem dX0_lengthOfAll_26 : decode cX0_lengthOfAll 26 = .ok (.iadd, 1) := by decide +kernel
theorem dX0_lengthOfAll_27 : decode cX0_lengthOfAll 27 = .ok (.istore_n 1, 1) := by decide +kernel
theorem dX0_lengthOfAll_28 : decode cX0_lengthOfAll 28 = .ok (.iinc 2 1, 3) := by decide +kernel
theorem dX0_lengthOfAll_31 : decode cX0_lengthOfAll 31 = .ok (.goto (-27), 3) := by decide +kernel
theorem dX0_lengthOfAll_34 : decode cX0_lengthOfAll 34 = .ok (.iload_n 1, 1) := by decide +kernel
theorem dX0_lengthOfAll_35 : decode cX0_lengthOfAll 35 = .ok (.ireturn, 1) := by decide +kernel
theorem dX0_endNails_0 : decode cX0_endNails 0 = .ok (.iconst 0, 1) := by decide +kernel
theorem dX0_endNails_1 : decode cX0_endNails 1 = .ok (.istore_n 1, 1) := by decide +kernel
theorem dX0_endNails_2 : decode cX0_endNails 2 = .ok (.iconst 0, 1) := by decide +kernel
theorem dX0_endNails_3 : decode cX0_endNails 3 = .ok (.istore_n 2, 1) := by decide +kernel
theorem dX0_endNails_4 : decode cX0_endNails 4 = .ok (.iload_n 2, 1) := by decide +kernel
theorem dX0_endNails_5 : decode cX0_endNails 5 = .ok (.aload_n 0, 1) := by decide +kernel
theorem dX0_endNails_6 : decode cX0_endNails 6 = .ok (.getfield 28, 3) := by decide +kernel
theorem dX0_endNails_9 : decode cX0_endNails 9 = .ok (.if_icmp .ge 27, 3) := by decide +kernel
theorem dX0_endNails_12 : decode cX0_endNails 12 = .ok (.iload_n 1, 1) := by decide +kernel
theorem dX0_endNails_13 : decode cX0_endNails 13 = .ok (.iconst 1, 1) := by decide +kernel
theorem dX0_endNails_14 : decode cX0_endNails 14 = .ok (.aload_n 0, 1) := by decide +kernel
theorem dX0_endNails_15 : decode cX0_endNails 15 = .ok (.iload_n 2, 1) := by decide +kernel
theorem dX0_endNails_16 : decode cX0_endNails 16 = .ok (.invokevirtual 48, 3) := by decide +kernel
theorem dX0_endNails_19 : decode cX0_endNails 19 = .ok (.ishl, 1) := by decide +kernel
theorem dX0_endNails_20 : decode cX0_endNails 20 = .ok (.iconst 1, 1) := by decide +kernel
theorem dX0_endNails_21 : decode cX0_endNails 21 = .ok (.aload_n 0, 1) := by decide +kernel
theorem dX0_endNails_22 : decode cX0_endNails 22 = .ok (.iload_n 2, 1) := by decide +kernel
theorem dX0_endNails_23 : decode cX0_endNails 23 = .ok (.invokevirtual 51, 3) := by decide +kernel
theorem dX0_endNails_26 : decode cX0_endNails 26 = .ok (.ishl, 1) := by decide +kernel
theorem dX0_endNails_27 : decode cX0_endNails 27 = .ok (.ior, 1) := by decide +kernel
theorem dX0_endNails_28 : decode cX0_endNails 28 = .ok (.ior, 1) := by decide +kernel
theorem dX0_endNails_29 : decode cX0_endNails 29 = .ok (.istore_n 1, 1) := by decide +kernel
theorem dX0_endNails_30 : decode cX0_endNails 30 = .ok (.iinc 2 1, 3) := by decide +kernel
theorem dX0_endNails_33 : decode cX0_endNails 33 = .ok (.goto (-29), 3) := by decide +kernel
theorem dX0_endNails_36 : decode cX0_endNails 36 = .ok (.iload_n 1, 1) := by decide +kernel
theorem dX0_endNails_37 : decode cX0_endNails 37 = .ok (.ireturn, 1) := by decide +kernel
theorem dX0_mayWind_0 : decode cX0_mayWind 0 = .ok (.aload_n 0, 1) := by decide +kernel
theorem dX0_mayWind_1 : decode cX0_mayWind 1 = .ok (.iload_n 1, 1) := by decide +kernel
theorem dX0_mayWind_2 : decode cX0_mayWind 2 = .ok (.invokevirtual 40, 3) := by decide +kernel
theorem dX0_mayWind_5 : decode cX0_mayWind 5 = .ok (.ifCond .eq 13, 3) := by decide +kernel
theorem dX0_mayWind_8 : decode cX0_mayWind 8 = .ok (.iload_n 2, 1) := by decide +kernel
theorem dX0_mayWind_9 : decode cX0_mayWind 9 = .ok (.iconst 0, 1) := by decide +kernel
theorem dX0_mayWind_10 : decode cX0_mayWind 10 = .ok (.bipush 11, 2) := by decide +kernel
theorem dX0_mayWind_12 : decode cX0_mayWind 12 = .ok (.invokestatic 60, 3) := by decide +kernel
theorem dX0_mayWind_15 : decode cX0_mayWind 15 = .ok (.ifCond .eq 5, 3) := by decide +kernel
theorem dX0_mayWind_18 : decode cX0_mayWind 18 = .ok (.iconst 0, 1) := by decide +kernel
theorem dX0_mayWind_19 : decode cX0_mayWind 19 = .ok (.ireturn, 1) := by decide +kernel
theorem dX0_mayWind_20 : decode cX0_mayWind 20 = .ok (.aload_n 0, 1) := by decide +kernel
theorem dX0_mayWind_21 : decode cX0_mayWind 21 = .ok (.getfield 15, 3) := by decide +kernel
theorem dX0_mayWind_24 : decode cX0_mayWind 24 = .ok (.iload_n 1, 1) := by decide +kernel
theorem dX0_mayWind_25 : decode cX0_mayWind 25 = .ok (.iaload, 1) := by decide +kernel
theorem dX0_mayWind_26 : decode cX0_mayWind 26 = .ok (.istore_n 3, 1) := by decide +kernel
theorem dX0_mayWind_27 : decode cX0_mayWind 27 = .ok (.iload_n 2, 1) := by decide +kernel
theorem dX0_mayWind_28 : decode cX0_mayWind 28 = .ok (.iload_n 3, 1) := by decide +kernel
theorem dX0_mayWind_29 : decode cX0_mayWind 29 = .ok (.if_icmp .eq 14, 3) := by decide +kernel
theorem dX0_mayWind_32 : decode cX0_mayWind 32 = .ok (.aload_n 0, 1) := by decide +kernel
theorem dX0_mayWind_33 : decode cX0_mayWind 33 = .ok (.getfield 18, 3) := by decide +kernel
theorem dX0_mayWind_36 : decode cX0_mayWind 36 = .ok (.iload_n 1, 1) := by decide +kernel
theorem dX0_mayWind_37 : decode cX0_mayWind 37 = .ok (.iaload, 1) := by decide +kernel
theorem dX0_mayWind_38 : decode cX0_mayWind 38 = .ok (.bipush 12, 2) := by decide +kernel
theorem dX0_mayWind_40 : decode cX0_mayWind 40 = .ok (.if_icmp .lt 5, 3) := by decide +kernel
theorem dX0_mayWind_43 : decode cX0_mayWind 43 = .ok (.iconst 0, 1) := by decide +kernel
theorem dX0_mayWind_44 : decode cX0_mayWind 44 = .ok (.ireturn, 1) := by decide +kernel
theorem dX0_mayWind_45 : decode cX0_mayWind 45 = .ok (.aload_n 0, 1) := by decide +kernel
theorem dX0_mayWind_46 : decode cX0_mayWind 46 = .ok (.getfield 9, 3) := by decide +kernel
theorem dX0_mayWind_49 : decode cX0_mayWind 49 = .ok (.iload_n 1, 1) := by decide +kernel
theorem dX0_mayWind_50 : decode cX0_mayWind 50 = .ok (.iaload, 1) := by decide +kernel
theorem dX0_mayWind_51 : decode cX0_mayWind 51 = .ok (.tableswitch 59 0 2 #[25, 27, 42], 25) := by decide +kernel
theorem dX0_mayWind_76 : decode cX0_mayWind 76 = .ok (.iconst 1, 1) := by decide +kernel
theorem dX0_mayWind_77 : decode cX0_mayWind 77 = .ok (.ireturn, 1) := by decide +kernel
theorem dX0_mayWind_78 : decode cX0_mayWind 78 = .ok (.iload_n 3, 1) := by decide +kernel
theorem dX0_mayWind_79 : decode cX0_mayWind 79 = .ok (.iload_n 2, 1) := by decide +kernel
theorem dX0_mayWind_80 : decode cX0_mayWind 80 = .ok (.invokestatic 64, 3) := by decide +kernel
theorem dX0_mayWind_83 : decode cX0_mayWind 83 = .ok (.iconst 1, 1) := by decide +kernel
theorem dX0_mayWind_84 : decode cX0_mayWind 84 = .ok (.if_icmp .eq 7, 3) := by decide +kernel
theorem dX0_mayWind_87 : decode cX0_mayWind 87 = .ok (.iconst 1, 1) := by decide +kernel
theorem dX0_mayWind_88 : decode cX0_mayWind 88 = .ok (.goto 4, 3) := by decide +kernel
theorem dX0_mayWind_91 : decode cX0_mayWind 91 = .ok (.iconst 0, 1) := by decide +kernel
theorem dX0_mayWind_92 : decode cX0_mayWind 92 = .ok (.ireturn, 1) := by decide +kernel
theorem dX0_mayWind_93 : decode cX0_mayWind 93 = .ok (.aload_n 0, 1) := by decide +kernel
theorem dX0_mayWind_94 : decode cX0_mayWind 94 = .ok (.iconst 0, 1) := by decide +kernel
theorem dX0_mayWind_95 : decode cX0_mayWind 95 = .ok (.iload_n 1, 1) := by decide +kernel
theorem dX0_mayWind_96 : decode cX0_mayWind 96 = .ok (.iload_n 3, 1) := by decide +kernel
theorem dX0_mayWind_97 : decode cX0_mayWind 97 = .ok (.iload_n 2, 1) := by decide +kernel
theorem dX0_mayWind_98 : decode cX0_mayWind 98 = .ok (.invokevirtual 67, 3) := by decide +kernel
theorem dX0_mayWind_101 : decode cX0_mayWind 101 = .ok (.ifCond .ne 7, 3) := by decide +kernel
theorem dX0_mayWind_104 : decode cX0_mayWind 104 = .ok (.iconst 1, 1) := by decide +kernel
theorem dX0_mayWind_105 : decode cX0_mayWind 105 = .ok (.goto 4, 3) := by decide +kernel
theorem dX0_mayWind_108 : decode cX0_mayWind 108 = .ok (.iconst 0, 1) := by decide +kernel
theorem dX0_mayWind_109 : decode cX0_mayWind 109 = .ok (.ireturn, 1) := by decide +kernel
theorem dX0_mayWind_110 : decode cX0_mayWind 110 = .ok (.iload_n 3, 1) := by decide +kernel
theorem dX0_mayWind_111 : decode cX0_mayWind 111 = .ok (.iload_n 2, 1) := by decide +kernel
theorem dX0_mayWind_112 : decode cX0_mayWind 112 = .ok (.invokestatic 64, 3) := by decide +kernel
theorem dX0_mayWind_115 : decode cX0_mayWind 115 = .ok (.iconst 1, 1) := by decide +kernel
theorem dX0_mayWind_116 : decode cX0_mayWind 116 = .ok (.if_icmp .eq 23, 3) := by decide +kernel
theorem dX0_mayWind_119 : decode cX0_mayWind 119 = .ok (.aload_n 0, 1) := by decide +kernel
theorem dX0_mayWind_120 : decode cX0_mayWind 120 = .ok (.iload_n 1, 1) := by decide +kernel
theorem dX0_mayWind_121 : decode cX0_mayWind 121 = .ok (.invokevirtual 71, 3) := by decide +kernel
theorem dX0_mayWind_124 : decode cX0_mayWind 124 = .ok (.iload_n 3, 1) := by decide +kernel
theorem dX0_mayWind_125 : decode cX0_mayWind 125 = .ok (.iload_n 2, 1) := by decide +kernel
theorem dX0_mayWind_126 : decode cX0_mayWind 126 = .ok (.invokestatic 54, 3) := by decide +kernel
theorem dX0_mayWind_129 : decode cX0_mayWind 129 = .ok (.iadd, 1) := by decide +kernel
theorem dX0_mayWind_130 : decode cX0_mayWind 130 = .ok (.bipush 80, 2) := by decide +kernel
theorem dX0_mayWind_132 : decode cX0_mayWind 132 = .ok (.if_icmp .gt 7, 3) := by decide +kernel
theorem dX0_mayWind_135 : decode cX0_mayWind 135 = .ok (.iconst 1, 1) := by decide +kernel
theorem dX0_mayWind_136 : decode cX0_mayWind 136 = .ok (.goto 4, 3) := by decide +kernel
theorem dX0_mayWind_139 : decode cX0_mayWind 139 = .ok (.iconst 0, 1) := by decide +kernel
theorem dX0_mayWind_140 : decode cX0_mayWind 140 = .ok (.ireturn, 1) := by decide +kernel
theorem dX0_openNails_0 : decode cX0_openNails 0 = .ok (.iconst 0, 1) := by decide +kernel
theorem dX0_openNails_1 : decode cX0_openNails 1 = .ok (.istore_n 2, 1) := by decide +kernel
theorem dX0_openNails_2 : decode cX0_openNails 2 = .ok (.iconst 0, 1) := by decide +kernel
theorem dX0_openNails_3 : decode cX0_openNails 3 = .ok (.istore_n 3, 1) := by decide +kernel
theorem dX0_openNails_4 : decode cX0_openNails 4 = .ok (.iload_n 3, 1) := by decide +kernel
theorem dX0_openNails_5 : decode cX0_openNails 5 = .ok (.bipush 12, 2) := by decide +kernel
theorem dX0_openNails_7 : decode cX0_openNails 7 = .ok (.if_icmp .ge 24, 3) := by decide +kernel
theorem dX0_openNails_10 : decode cX0_openNails 10 = .ok (.aload_n 0, 1) := by decide +kernel
theorem dX0_openNails_11 : decode cX0_openNails 11 = .ok (.iload_n 1, 1) := by decide +kernel
theorem dX0_openNails_12 : decode cX0_openNails 12 = .ok (.iload_n 3, 1) := by decide +kernel
theorem dX0_openNails_13 : decode cX0_openNails 13 = .ok (.invokevirtual 74, 3) := by decide +kernel
theorem dX0_openNails_16 : decode cX0_openNails 16 = .ok (.ifCond .eq 9, 3) := by decide +kernel
theorem dX0_openNails_19 : decode cX0_openNails 19 = .ok (.iload_n 2, 1) := by decide +kernel
theorem dX0_openNails_20 : decode cX0_openNails 20 = .ok (.iconst 1, 1) := by decide +kernel
theorem dX0_openNails_21 : decode cX0_openNails 21 = .ok (.iload_n 3, 1) := by decide +kernel
theorem dX0_openNails_22 : decode cX0_openNails 22 = .ok (.ishl, 1) := by decide +kernel
theorem dX0_openNails_23 : decode cX0_openNails 23 = .ok (.ior, 1) := by decide +kernel
theorem dX0_openNails_24 : decode cX0_openNails 24 = .ok (.istore_n 2, 1) := by decide +kernel
theorem dX0_openNails_25 : decode cX0_openNails 25 = .ok (.iinc 3 1, 3) := by decide +kernel
theorem dX0_openNails_28 : decode cX0_openNails 28 = .ok (.goto (-24), 3) := by decide +kernel
theorem dX0_openNails_31 : decode cX0_openNails 31 = .ok (.iload_n 2, 1) := by decide +kernel
theorem dX0_openNails_32 : decode cX0_openNails 32 = .ok (.ireturn, 1) := by decide +kernel
theorem dX0_bestNail_0 : decode cX0_bestNail 0 = .ok (.iconst (-1), 1) := by decide +kernel
theorem dX0_bestNail_1 : decode cX0_bestNail 1 = .ok (.istore_n 2, 1) := by decide +kernel
theorem dX0_bestNail_2 : decode cX0_bestNail 2 = .ok (.iconst (-1), 1) := by decide +kernel
theorem dX0_bestNail_3 : decode cX0_bestNail 3 = .ok (.istore_n 3, 1) := by decide +kernel
theorem dX0_bestNail_4 : decode cX0_bestNail 4 = .ok (.iconst 0, 1) := by decide +kernel
theorem dX0_bestNail_5 : decode cX0_bestNail 5 = .ok (.istore 4, 2) := by decide +kernel
theorem dX0_bestNail_7 : decode cX0_bestNail 7 = .ok (.iload 4, 2) := by decide +kernel
theorem dX0_bestNail_9 : decode cX0_bestNail 9 = .ok (.bipush 12, 2) := by decide +kernel
theorem dX0_bestNail_11 : decode cX0_bestNail 11 = .ok (.if_icmp .ge 44, 3) := by decide +kernel
theorem dX0_bestNail_14 : decode cX0_bestNail 14 = .ok (.aload_n 0, 1) := by decide +kernel
theorem dX0_bestNail_15 : decode cX0_bestNail 15 = .ok (.iload_n 1, 1) := by decide +kernel
theorem dX0_bestNail_16 : decode cX0_bestNail 16 = .ok (.iload 4, 2) := by decide +kernel
theorem dX0_bestNail_18 : decode cX0_bestNail 18 = .ok (.invokevirtual 74, 3) := by decide +kernel
theorem dX0_bestNail_21 : decode cX0_bestNail 21 = .ok (.ifCond .eq 28, 3) := by decide +kernel
theorem dX0_bestNail_24 : decode cX0_bestNail 24 = .ok (.aload_n 0, 1) := by decide +kernel
theorem dX0_bestNail_25 : decode cX0_bestNail 25 = .ok (.aload_n 0, 1) := by decide +kernel
theorem dX0_bestNail_26 : decode cX0_bestNail 26 = .ok (.iload_n 1, 1) := by decide +kernel
theorem dX0_bestNail_27 : decode cX0_bestNail 27 = .ok (.invokevirtual 78, 3) := by decide +kernel
theorem dX0_bestNail_30 : decode cX0_bestNail 30 = .ok (.iload 4, 2) := by decide +kernel
theorem dX0_bestNail_32 : decode cX0_bestNail 32 = .ok (.invokevirtual 81, 3) := by decide +kernel
theorem dX0_bestNail_35 : decode cX0_bestNail 35 = .ok (.istore 5, 2) := by decide +kernel
theorem dX0_bestNail_37 : decode cX0_bestNail 37 = .ok (.iload 5, 2) := by decide +kernel
theorem dX0_bestNail_39 : decode cX0_bestNail 39 = .ok (.iload_n 3, 1) := by decide +kernel
theorem dX0_bestNail_40 : decode cX0_bestNail 40 = .ok (.if_icmp .le 9, 3) := by decide +kernel
theorem dX0_bestNail_43 : decode cX0_bestNail 43 = .ok (.iload 4, 2) := by decide +kernel
theorem dX0_bestNail_45 : decode cX0_bestNail 45 = .ok (.istore_n 2, 1) := by decide +kernel
theorem dX0_bestNail_46 : decode cX0_bestNail 46 = .ok (.iload 5, 2) := by decide +kernel
theorem dX0_bestNail_48 : decode cX0_bestNail 48 = .ok (.istore_n 3, 1) := by decide +kernel
theorem dX0_bestNail_49 : decode cX0_bestNail 49 = .ok (.iinc 4 1, 3) := by decide +kernel
theorem dX0_bestNail_52 : decode cX0_bestNail 52 = .ok (.goto (-45), 3) := by decide +kernel
theorem dX0_bestNail_55 : decode cX0_bestNail 55 = .ok (.iload_n 2, 1) := by decide +kernel
theorem dX0_bestNail_56 : decode cX0_bestNail 56 = .ok (.ireturn, 1) := by decide +kernel
theorem dX0_crossed_0 : decode cX0_crossed 0 = .ok (.iconst 0, 1) := by decide +kernel
theorem dX0_crossed_1 : decode cX0_crossed 1 = .ok (.istore 5, 2) := by decide +kernel
theorem dX0_crossed_3 : decode cX0_crossed 3 = .ok (.iload_n 1, 1) := by decide +kernel
theorem dX0_crossed_4 : decode cX0_crossed 4 = .ok (.ifCond .ge 7, 3) := by decide +kernel
theorem dX0_crossed_7 : decode cX0_crossed 7 = .ok (.iconst 0, 1) := by decide +kernel
theorem dX0_crossed_8 : decode cX0_crossed 8 = .ok (.goto 4, 3) := by decide +kernel
theorem dX0_crossed_11 : decode cX0_crossed 11 = .ok (.iload_n 1, 1) := by decide +kernel
theorem dX0_crossed_12 : decode cX0_crossed 12 = .ok (.istore 6, 2) := by decide +kernel
theorem dX0_crossed_14 : decode cX0_crossed 14 = .ok (.iload 6, 2) := by decide +kernel
theorem dX0_crossed_16 : decode cX0_crossed 16 = .ok (.aload_n 0, 1) := by decide +kernel
theorem dX0_crossed_17 : decode cX0_crossed 17 = .ok (.getfield 28, 3) := by decide +kernel
theorem dX0_crossed_20 : decode cX0_crossed 20 = .ok (.if_icmp .ge 48, 3) := by decide +kernel
theorem dX0_crossed_23 : decode cX0_crossed 23 = .ok (.iload_n 2, 1) := by decide +kernel
theorem dX0_crossed_24 : decode cX0_crossed 24 = .ok (.iconst (-1), 1) := by decide +kernel
theorem dX0_crossed_25 : decode cX0_crossed 25 = .ok (.if_icmp .eq 13, 3) := by decide +kernel
theorem dX0_crossed_28 : decode cX0_crossed 28 = .ok (.aload_n 0, 1) := by decide +kernel
theorem dX0_crossed_29 : decode cX0_crossed 29 = .ok (.iload 6, 2) := by decide +kernel
theorem dX0_crossed_31 : decode cX0_crossed 31 = .ok (.invokevirtual 44, 3) := by decide +kernel
theorem dX0_crossed_34 : decode cX0_crossed 34 = .ok (.iload_n 2, 1) := by decide +kernel
theorem dX0_crossed_35 : decode cX0_crossed 35 = .ok (.if_icmp .ne 27, 3) := by decide +kernel
theorem dX0_crossed_38 : decode cX0_crossed 38 = .ok (.aload_n 0, 1) := by decide +kernel
theorem dX0_crossed_39 : decode cX0_crossed 39 = .ok (.iload 6, 2) := by decide +kernel
theorem dX0_crossed_41 : decode cX0_crossed 41 = .ok (.invokevirtual 48, 3) := by decide +kernel
theorem dX0_crossed_44 : decode cX0_crossed 44 = .ok (.aload_n 0, 1) := by decide +kernel
theorem dX0_crossed_45 : decode cX0_crossed 45 = .ok (.iload 6, 2) := by decide +kernel
theorem dX0_crossed_47 : decode cX0_crossed 47 = .ok (.invokevirtual 51, 3) := by decide +kernel
theorem dX0_crossed_50 : decode cX0_crossed 50 = .ok (.iload_n 3, 1) := by decide +kernel
theorem dX0_crossed_51 : decode cX0_crossed 51 = .ok (.iload 4, 2) := by decide +kernel
theorem dX0_crossed_53 : decode cX0_crossed 53 = .ok (.invokestatic 84, 3) := by decide +kernel
theorem dX0_crossed_56 : decode cX0_crossed 56 = .ok (.ifCond .eq 6, 3) := by decide +kernel
theorem dX0_crossed_59 : decode cX0_crossed 59 = .ok (.iinc 5 1, 3) := by decide +kernel
theorem dX0_crossed_62 : decode cX0_crossed 62 = .ok (.iinc 6 1, 3) := by decide +kernel
theorem dX0_crossed_65 : decode cX0_crossed 65 = .ok (.goto (-51), 3) := by decide +kernel
theorem dX0_crossed_68 : decode cX0_crossed 68 = .ok (.iload 5, 2) := by decide +kernel
theorem dX0_crossed_70 : decode cX0_crossed 70 = .ok (.ireturn, 1) := by decide +kernel
theorem dX0_crossedBetween_0 : decode cX0_crossedBetween 0 = .ok (.aload_n 0, 1) := by decide +kernel
theorem dX0_crossedBetween_1 : decode cX0_crossedBetween 1 = .ok (.iconst 0, 1) := by decide +kernel
theorem dX0_crossedBetween_2 : decode cX0_crossedBetween 2 = .ok (.iconst (-1), 1) := by decide +kernel
theorem dX0_crossedBetween_3 : decode cX0_crossedBetween 3 = .ok (.iload_n 1, 1) := by decide +kernel
theorem dX0_crossedBetween_4 : decode cX0_crossedBetween 4 = .ok (.iload_n 2, 1) := by decide +kernel
theorem dX0_crossedBetween_5 : decode cX0_crossedBetween 5 = .ok (.invokevirtual 67, 3) := by decide +kernel
theorem dX0_crossedBetween_8 : decode cX0_crossedBetween 8 = .ok (.ireturn, 1) := by decide +kernel
theorem dX0_crossingFrom_0 : decode cX0_crossingFrom 0 = .ok (.aload_n 0, 1) := by decide +kernel
theorem dX0_crossingFrom_1 : decode cX0_crossingFrom 1 = .ok (.iload_n 1, 1) := by decide +kernel
theorem dX0_crossingFrom_2 : decode cX0_crossingFrom 2 = .ok (.iconst (-1), 1) := by decide +kernel
theorem dX0_crossingFrom_3 : decode cX0_crossingFrom 3 = .ok (.aload_n 0, 1) := by decide +kernel
theorem dX0_crossingFrom_4 : decode cX0_crossingFrom 4 = .ok (.iload_n 2, 1) := by decide +kernel
theorem dX0_crossingFrom_5 : decode cX0_crossingFrom 5 = .ok (.invokevirtual 48, 3) := by decide +kernel
theorem dX0_crossingFrom_8 : decode cX0_crossingFrom 8 = .ok (.aload_n 0, 1) := by decide +kernel
theorem dX0_crossingFrom_9 : decode cX0_crossingFrom 9 = .ok (.iload_n 2, 1) := by decide +kernel
theorem dX0_crossingFrom_10 : decode cX0_crossingFrom 10 = .ok (.invokevirtual 51, 3) := by decide +kernel
theorem dX0_crossingFrom_13 : decode cX0_crossingFrom 13 = .ok (.invokevirtual 67, 3) := by decide +kernel
theorem dX0_crossingFrom_16 : decode cX0_crossingFrom 16 = .ok (.ireturn, 1) := by decide +kernel
theorem dX0_aboveOf_0 : decode cX0_aboveOf 0 = .ok (.aload_n 0, 1) := by decide +kernel
theorem dX0_aboveOf_1 : decode cX0_aboveOf 1 = .ok (.iload_n 1, 1) := by decide +kernel
theorem dX0_aboveOf_2 : decode cX0_aboveOf 2 = .ok (.invokevirtual 88, 3) := by decide +kernel
theorem dX0_aboveOf_5 : decode cX0_aboveOf 5 = .ok (.ifCond .ne 5, 3) := by decide +kernel
theorem dX0_aboveOf_8 : decode cX0_aboveOf 8 = .ok (.iconst 0, 1) := by decide +kernel
theorem dX0_aboveOf_9 : decode cX0_aboveOf 9 = .ok (.ireturn, 1) := by decide +kernel
theorem dX0_aboveOf_10 : decode cX0_aboveOf 10 = .ok (.lconst 1, 1) := by decide +kernel
theorem dX0_aboveOf_11 : decode cX0_aboveOf 11 = .ok (.iload_n 1, 1) := by decide +kernel
theorem dX0_aboveOf_12 : decode cX0_aboveOf 12 = .ok (.lshl, 1) := by decide +kernel
theorem dX0_aboveOf_13 : decode cX0_aboveOf 13 = .ok (.lstore_n 2, 1) := by decide +kernel
theorem dX0_aboveOf_14 : decode cX0_aboveOf 14 = .ok (.iload_n 1, 1) := by decide +kernel
theorem dX0_aboveOf_15 : decode cX0_aboveOf 15 = .ok (.iconst 1, 1) := by decide +kernel
theorem dX0_aboveOf_16 : decode cX0_aboveOf 16 = .ok (.iadd, 1) := by decide +kernel
theorem dX0_aboveOf_17 : decode cX0_aboveOf 17 = .ok (.istore 4, 2) := by decide +kernel
theorem dX0_aboveOf_19 : decode cX0_aboveOf 19 = .ok (.iload 4, 2) := by decide +kernel
theorem dX0_aboveOf_21 : decode cX0_aboveOf 21 = .ok (.aload_n 0, 1) := by decide +kernel
theorem dX0_aboveOf_22 : decode cX0_aboveOf 22 = .ok (.getfield 28, 3) := by decide +kernel
theorem dX0_aboveOf_25 : decode cX0_aboveOf 25 = .ok (.if_icmp .ge 26, 3) := by decide +kernel
theorem dX0_aboveOf_28 : decode cX0_aboveOf 28 = .ok (.aload_n 0, 1) := by decide +kernel
theorem dX0_aboveOf_29 : decode cX0_aboveOf 29 = .ok (.lload_n 2, 1) := by decide +kernel
theorem dX0_aboveOf_30 : decode cX0_aboveOf 30 = .ok (.iload 4, 2) := by decide +kernel
theorem dX0_aboveOf_32 : decode cX0_aboveOf 32 = .ok (.invokevirtual 91, 3) := by decide +kernel
theorem dX0_aboveOf_35 : decode cX0_aboveOf 35 = .ok (.ifCond .eq 10, 3) := by decide +kernel
theorem dX0_aboveOf_38 : decode cX0_aboveOf 38 = .ok (.lload_n 2, 1) := by decide +kernel
theorem dX0_aboveOf_39 : decode cX0_aboveOf 39 = .ok (.lconst 1, 1) := by decide +kernel
theorem dX0_aboveOf_40 : decode cX0_aboveOf 40 = .ok (.iload 4, 2) := by decide +kernel
theorem dX0_aboveOf_42 : decode cX0_aboveOf 42 = .ok (.lshl, 1) := by decide +kernel
theorem dX0_aboveOf_43 : decode cX0_aboveOf 43 = .ok (.lor, 1) := by decide +kernel
theorem dX0_aboveOf_44 : decode cX0_aboveOf 44 = .ok (.lstore_n 2, 1) := by decide +kernel
theorem dX0_aboveOf_45 : decode cX0_aboveOf 45 = .ok (.iinc 4 1, 3) := by decide +kernel
theorem dX0_aboveOf_48 : decode cX0_aboveOf 48 = .ok (.goto (-29), 3) := by decide +kernel
theorem dX0_aboveOf_51 : decode cX0_aboveOf 51 = .ok (.lload_n 2, 1) := by decide +kernel
theorem dX0_aboveOf_52 : decode cX0_aboveOf 52 = .ok (.invokestatic 95, 3) := by decide +kernel
theorem dX0_aboveOf_55 : decode cX0_aboveOf 55 = .ok (.iconst 1, 1) := by decide +kernel
theorem dX0_aboveOf_56 : decode cX0_aboveOf 56 = .ok (.isub, 1) := by decide +kernel
theorem dX0_aboveOf_57 : decode cX0_aboveOf 57 = .ok (.ireturn, 1) := by decide +kernel
theorem dX0_crossesOneOf_0 : decode cX0_crossesOneOf 0 = .ok (.iconst 0, 1) := by decide +kernel
theorem dX0_crossesOneOf_1 : decode cX0_crossesOneOf 1 = .ok (.istore 4, 2) := by decide +kernel
theorem dX0_crossesOneOf_3 : decode cX0_crossesOneOf 3 = .ok (.iload 4, 2) := by decide +kernel
theorem dX0_crossesOneOf_5 : decode cX0_crossesOneOf 5 = .ok (.iload_n 3, 1) := by decide +kernel
theorem dX0_crossesOneOf_6 : decode cX0_crossesOneOf 6 = .ok (.if_icmp .ge 50, 3) := by decide +kernel
theorem dX0_crossesOneOf_9 : decode cX0_crossesOneOf 9 = .ok (.lload_n 1, 1) := by decide +kernel
theorem dX0_crossesOneOf_10 : decode cX0_crossesOneOf 10 = .ok (.iload 4, 2) := by decide +kernel
theorem dX0_crossesOneOf_12 : decode cX0_crossesOneOf 12 = .ok (.lshr, 1) := by decide +kernel
theorem dX0_crossesOneOf_13 : decode cX0_crossesOneOf 13 = .ok (.lconst 1, 1) := by decide +kernel
theorem dX0_crossesOneOf_14 : decode cX0_crossesOneOf 14 = .ok (.land, 1) := by decide +kernel
theorem dX0_crossesOneOf_15 : decode cX0_crossesOneOf 15 = .ok (.lconst 1, 1) := by decide +kernel
theorem dX0_crossesOneOf_16 : decode cX0_crossesOneOf 16 = .ok (.lcmp, 1) := by decide +kernel
theorem dX0_crossesOneOf_17 : decode cX0_crossesOneOf 17 = .ok (.ifCond .ne 33, 3) := by decide +kernel
theorem dX0_crossesOneOf_20 : decode cX0_crossesOneOf 20 = .ok (.aload_n 0, 1) := by decide +kernel
theorem dX0_crossesOneOf_21 : decode cX0_crossesOneOf 21 = .ok (.iload 4, 2) := by decide +kernel
theorem dX0_crossesOneOf_23 : decode cX0_crossesOneOf 23 = .ok (.invokevirtual 48, 3) := by decide +kernel
theorem dX0_crossesOneOf_26 : decode cX0_crossesOneOf 26 = .ok (.aload_n 0, 1) := by decide +kernel
theorem dX0_crossesOneOf_27 : decode cX0_crossesOneOf 27 = .ok (.iload 4, 2) := by decide +kernel
theorem dX0_crossesOneOf_29 : decode cX0_crossesOneOf 29 = .ok (.invokevirtual 51, 3) := by decide +kernel
theorem dX0_crossesOneOf_32 : decode cX0_crossesOneOf 32 = .ok (.aload_n 0, 1) := by decide +kernel
theorem dX0_crossesOneOf_33 : decode cX0_crossesOneOf 33 = .ok (.iload_n 3, 1) := by decide +kernel
theorem dX0_crossesOneOf_34 : decode cX0_crossesOneOf 34 = .ok (.invokevirtual 48, 3) := by decide +kernel
theorem dX0_crossesOneOf_37 : decode cX0_crossesOneOf 37 = .ok (.aload_n 0, 1) := by decide +kernel
theorem dX0_crossesOneOf_38 : decode cX0_crossesOneOf 38 = .ok (.iload_n 3, 1) := by decide +kernel
theorem dX0_crossesOneOf_39 : decode cX0_crossesOneOf 39 = .ok (.invokevirtual 51, 3) := by decide +kernel
theorem dX0_crossesOneOf_42 : decode cX0_crossesOneOf 42 = .ok (.invokestatic 84, 3) := by decide +kernel
theorem dX0_crossesOneOf_45 : decode cX0_crossesOneOf 45 = .ok (.ifCond .eq 5, 3) := by decide +kernel
theorem dX0_crossesOneOf_48 : decode cX0_crossesOneOf 48 = .ok (.iconst 1, 1) := by decide +kernel
theorem dX0_crossesOneOf_49 : decode cX0_crossesOneOf 49 = .ok (.ireturn, 1) := by decide +kernel
theorem dX0_crossesOneOf_50 : decode cX0_crossesOneOf 50 = .ok (.iinc 4 1, 3) := by decide +kernel
theorem dX0_crossesOneOf_53 : decode cX0_crossesOneOf 53 = .ok (.goto (-50), 3) := by decide +kernel
theorem dX0_crossesOneOf_56 : decode cX0_crossesOneOf 56 = .ok (.iconst 0, 1) := by decide +kernel
theorem dX0_crossesOneOf_57 : decode cX0_crossesOneOf 57 = .ok (.ireturn, 1) := by decide +kernel
theorem dX0_crossingsOf_0 : decode cX0_crossingsOf 0 = .ok (.iconst 0, 1) := by decide +kernel
theorem dX0_crossingsOf_1 : decode cX0_crossingsOf 1 = .ok (.istore_n 3, 1) := by decide +kernel
theorem dX0_crossingsOf_2 : decode cX0_crossingsOf 2 = .ok (.iconst 0, 1) := by decide +kernel
theorem dX0_crossingsOf_3 : decode cX0_crossingsOf 3 = .ok (.istore 4, 2) := by decide +kernel
theorem dX0_crossingsOf_5 : decode cX0_crossingsOf 5 = .ok (.iload 4, 2) := by decide +kernel
theorem dX0_crossingsOf_7 : decode cX0_crossingsOf 7 = .ok (.aload_n 0, 1) := by decide +kernel
theorem dX0_crossingsOf_8 : decode cX0_crossingsOf 8 = .ok (.getfield 28, 3) := by decide +kernel
theorem dX0_crossingsOf_11 : decode cX0_crossingsOf 11 = .ok (.if_icmp .ge 52, 3) := by decide +kernel
theorem dX0_crossingsOf_14 : decode cX0_crossingsOf 14 = .ok (.aload_n 0, 1) := by decide +kernel
theorem dX0_crossingsOf_15 : decode cX0_crossingsOf 15 = .ok (.iload 4, 2) := by decide +kernel
theorem dX0_crossingsOf_17 : decode cX0_crossingsOf 17 = .ok (.invokevirtual 44, 3) := by decide +kernel
theorem dX0_crossingsOf_20 : decode cX0_crossingsOf 20 = .ok (.iload_n 1, 1) := by decide +kernel
theorem dX0_crossingsOf_21 : decode cX0_crossingsOf 21 = .ok (.if_icmp .ne 36, 3) := by decide +kernel
theorem dX0_crossingsOf_24 : decode cX0_crossingsOf 24 = .ok (.iload_n 3, 1) := by decide +kernel
theorem dX0_crossingsOf_25 : decode cX0_crossingsOf 25 = .ok (.aload_n 0, 1) := by decide +kernel
theorem dX0_crossingsOf_26 : decode cX0_crossingsOf 26 = .ok (.iload_n 1, 1) := by decide +kernel
theorem dX0_crossingsOf_27 : decode cX0_crossingsOf 27 = .ok (.iload_n 2, 1) := by decide +kernel
theorem dX0_crossingsOf_28 : decode cX0_crossingsOf 28 = .ok (.if_icmp .ne 10, 3) := by decide +kernel
theorem dX0_crossingsOf_31 : decode cX0_crossingsOf 31 = .ok (.iload 4, 2) := by decide +kernel
theorem dX0_crossingsOf_33 : decode cX0_crossingsOf 33 = .ok (.iconst 1, 1) := by decide +kernel
theorem dX0_crossingsOf_34 : decode cX0_crossingsOf 34 = .ok (.iadd, 1) := by decide +kernel
theorem dX0_crossingsOf_35 : decode cX0_crossingsOf 35 = .ok (.goto 4, 3) := by decide +kernel
theorem dX0_crossingsOf_38 : decode cX0_crossingsOf 38 = .ok (.iconst 0, 1) := by decide +kernel
theorem dX0_crossingsOf_39 : decode cX0_crossingsOf 39 = .ok (.iload_n 2, 1) := by decide +kernel
theorem dX0_crossingsOf_40 : decode cX0_crossingsOf 40 = .ok (.aload_n 0, 1) := by decide +kernel
theorem dX0_crossingsOf_41 : decode cX0_crossingsOf 41 = .ok (.iload 4, 2) := by decide +kernel
theorem dX0_crossingsOf_43 : decode cX0_crossingsOf 43 = .ok (.invokevirtual 48, 3) := by decide +kernel
theorem dX0_crossingsOf_46 : decode cX0_crossingsOf 46 = .ok (.aload_n 0, 1) := by decide +kernel
theorem dX0_crossingsOf_47 : decode cX0_crossingsOf 47 = .ok (.iload 4, 2) := by decide +kernel
theorem dX0_crossingsOf_49 : decode cX0_crossingsOf 49 = .ok (.invokevirtual 51, 3) := by decide +kernel
theorem dX0_crossingsOf_52 : decode cX0_crossingsOf 52 = .ok (.invokevirtual 67, 3) := by decide +kernel
theorem dX0_crossingsOf_55 : decode cX0_crossingsOf 55 = .ok (.iadd, 1) := by decide +kernel
theorem dX0_crossingsOf_56 : decode cX0_crossingsOf 56 = .ok (.istore_n 3, 1) := by decide +kernel
theorem dX0_crossingsOf_57 : decode cX0_crossingsOf 57 = .ok (.iinc 4 1, 3) := by decide +kernel
theorem dX0_crossingsOf_60 : decode cX0_crossingsOf 60 = .ok (.goto (-55), 3) := by decide +kernel
theorem dX0_crossingsOf_63 : decode cX0_crossingsOf 63 = .ok (.iload_n 3, 1) := by decide +kernel
theorem dX0_crossingsOf_64 : decode cX0_crossingsOf 64 = .ok (.ireturn, 1) := by decide +kernel
theorem dX0_allCrossings_0 : decode cX0_allCrossings 0 = .ok (.aload_n 0, 1) := by decide +kernel
theorem dX0_allCrossings_1 : decode cX0_allCrossings 1 = .ok (.getfield 31, 3) := by decide +kernel
theorem dX0_allCrossings_4 : decode cX0_allCrossings 4 = .ok (.ireturn, 1) := by decide +kernel
theorem dX0_lastOf_0 : decode cX0_lastOf 0 = .ok (.aload_n 0, 1) := by decide +kernel
theorem dX0_lastOf_1 : decode cX0_lastOf 1 = .ok (.iload_n 1, 1) := by decide +kernel
theorem dX0_lastOf_2 : decode cX0_lastOf 2 = .ok (.invokevirtual 40, 3) := by decide +kernel
theorem dX0_lastOf_5 : decode cX0_lastOf 5 = .ok (.ifCond .ne 5, 3) := by decide +kernel
theorem dX0_lastOf_8 : decode cX0_lastOf 8 = .ok (.iconst (-1), 1) := by decide +kernel
theorem dX0_lastOf_9 : decode cX0_lastOf 9 = .ok (.ireturn, 1) := by decide +kernel
theorem dX0_lastOf_10 : decode cX0_lastOf 10 = .ok (.iconst 0, 1) := by decide +kernel
theorem dX0_lastOf_11 : decode cX0_lastOf 11 = .ok (.istore_n 2, 1) := by decide +kernel
theorem dX0_lastOf_12 : decode cX0_lastOf 12 = .ok (.iload_n 2, 1) := by decide +kernel
theorem dX0_lastOf_13 : decode cX0_lastOf 13 = .ok (.aload_n 0, 1) := by decide +kernel
theorem dX0_lastOf_14 : decode cX0_lastOf 14 = .ok (.getfield 28, 3) := by decide +kernel
theorem dX0_lastOf_17 : decode cX0_lastOf 17 = .ok (.if_icmp .ge 36, 3) := by decide +kernel
theorem dX0_lastOf_20 : decode cX0_lastOf 20 = .ok (.aload_n 0, 1) := by decide +kernel
theorem dX0_lastOf_21 : decode cX0_lastOf 21 = .ok (.iload_n 2, 1) := by decide +kernel
theorem dX0_lastOf_22 : decode cX0_lastOf 22 = .ok (.invokevirtual 44, 3) := by decide +kernel
theorem dX0_lastOf_25 : decode cX0_lastOf 25 = .ok (.iload_n 1, 1) := by decide +kernel
theorem dX0_lastOf_26 : decode cX0_lastOf 26 = .ok (.if_icmp .ne 21, 3) := by decide +kernel
theorem dX0_lastOf_29 : decode cX0_lastOf 29 = .ok (.aload_n 0, 1) := by decide +kernel
theorem dX0_lastOf_30 : decode cX0_lastOf 30 = .ok (.iload_n 2, 1) := by decide +kernel
theorem dX0_lastOf_31 : decode cX0_lastOf 31 = .ok (.invokevirtual 101, 3) := by decide +kernel
theorem dX0_lastOf_34 : decode cX0_lastOf 34 = .ok (.aload_n 0, 1) := by decide +kernel
theorem dX0_lastOf_35 : decode cX0_lastOf 35 = .ok (.getfield 18, 3) := by decide +kernel
theorem dX0_lastOf_38 : decode cX0_lastOf 38 = .ok (.iload_n 1, 1) := by decide +kernel
theorem dX0_lastOf_39 : decode cX0_lastOf 39 = .ok (.iaload, 1) := by decide +kernel
theorem dX0_lastOf_40 : decode cX0_lastOf 40 = .ok (.iconst 1, 1) := by decide +kernel
theorem dX0_lastOf_41 : decode cX0_lastOf 41 = .ok (.isub, 1) := by decide +kernel
theorem dX0_lastOf_42 : decode cX0_lastOf 42 = .ok (.if_icmp .ne 5, 3) := by decide +kernel
theorem dX0_lastOf_45 : decode cX0_lastOf 45 = .ok (.iload_n 2, 1) := by decide +kernel
theorem dX0_lastOf_46 : decode cX0_lastOf 46 = .ok (.ireturn, 1) := by decide +kernel
theorem dX0_lastOf_47 : decode cX0_lastOf 47 = .ok (.iinc 2 1, 3) := by decide +kernel
theorem dX0_lastOf_50 : decode cX0_lastOf 50 = .ok (.goto (-38), 3) := by decide +kernel
theorem dX0_lastOf_53 : decode cX0_lastOf 53 = .ok (.iconst (-1), 1) := by decide +kernel
theorem dX0_lastOf_54 : decode cX0_lastOf 54 = .ok (.ireturn, 1) := by decide +kernel
theorem dX0_worthOf_0 : decode cX0_worthOf 0 = .ok (.aload_n 0, 1) := by decide +kernel
theorem dX0_worthOf_1 : decode cX0_worthOf 1 = .ok (.iload_n 1, 1) := by decide +kernel
theorem dX0_worthOf_2 : decode cX0_worthOf 2 = .ok (.invokevirtual 104, 3) := by decide +kernel
theorem dX0_worthOf_5 : decode cX0_worthOf 5 = .ok (.istore_n 2, 1) := by decide +kernel
theorem dX0_worthOf_6 : decode cX0_worthOf 6 = .ok (.iload_n 2, 1) := by decide +kernel
theorem dX0_worthOf_7 : decode cX0_worthOf 7 = .ok (.iconst (-1), 1) := by decide +kernel
theorem dX0_worthOf_8 : decode cX0_worthOf 8 = .ok (.if_icmp .ne 5, 3) := by decide +kernel
theorem dX0_worthOf_11 : decode cX0_worthOf 11 = .ok (.iconst 0, 1) := by decide +kernel
theorem dX0_worthOf_12 : decode cX0_worthOf 12 = .ok (.ireturn, 1) := by decide +kernel
theorem dX0_worthOf_13 : decode cX0_worthOf 13 = .ok (.iconst 3, 1) := by decide +kernel
theorem dX0_worthOf_14 : decode cX0_worthOf 14 = .ok (.aload_n 0, 1) := by decide +kernel
theorem dX0_worthOf_15 : decode cX0_worthOf 15 = .ok (.iconst 0, 1) := by decide +kernel
theorem dX0_worthOf_16 : decode cX0_worthOf 16 = .ok (.iload_n 2, 1) := by decide +kernel
theorem dX0_worthOf_17 : decode cX0_worthOf 17 = .ok (.invokevirtual 107, 3) := by decide +kernel
theorem dX0_worthOf_20 : decode cX0_worthOf 20 = .ok (.imul, 1) := by decide +kernel
theorem dX0_worthOf_21 : decode cX0_worthOf 21 = .ok (.aload_n 0, 1) := by decide +kernel
theorem dX0_worthOf_22 : decode cX0_worthOf 22 = .ok (.iload_n 2, 1) := by decide +kernel
theorem dX0_worthOf_23 : decode cX0_worthOf 23 = .ok (.invokevirtual 48, 3) := by decide +kernel
theorem dX0_worthOf_26 : decode cX0_worthOf 26 = .ok (.aload_n 0, 1) := by decide +kernel
theorem dX0_worthOf_27 : decode cX0_worthOf 27 = .ok (.iload_n 2, 1) := by decide +kernel
theorem dX0_worthOf_28 : decode cX0_worthOf 28 = .ok (.invokevirtual 51, 3) := by decide +kernel
theorem dX0_worthOf_31 : decode cX0_worthOf 31 = .ok (.invokestatic 54, 3) := by decide +kernel
theorem dX0_worthOf_34 : decode cX0_worthOf 34 = .ok (.iconst 5, 1) := by decide +kernel
theorem dX0_worthOf_35 : decode cX0_worthOf 35 = .ok (.idiv, 1) := by decide +kernel
theorem dX0_worthOf_36 : decode cX0_worthOf 36 = .ok (.isub, 1) := by decide +kernel
theorem dX0_worthOf_37 : decode cX0_worthOf 37 = .ok (.ireturn, 1) := by decide +kernel
theorem dX0_windOn_0 : decode cX0_windOn 0 = .ok (.aload_n 0, 1) := by decide +kernel
theorem dX0_windOn_1 : decode cX0_windOn 1 = .ok (.iload_n 1, 1) := by decide +kernel
theorem dX0_windOn_2 : decode cX0_windOn 2 = .ok (.invokevirtual 40, 3) := by decide +kernel
theorem dX0_windOn_5 : decode cX0_windOn 5 = .ok (.ifCond .eq 12, 3) := by decide +kernel
theorem dX0_windOn_8 : decode cX0_windOn 8 = .ok (.aload_n 0, 1) := by decide +kernel
theorem dX0_windOn_9 : decode cX0_windOn 9 = .ok (.getfield 28, 3) := by decide +kernel
theorem dX0_windOn_12 : decode cX0_windOn 12 = .ok (.bipush 48, 2) := by decide +kernel
theorem dX0_windOn_14 : decode cX0_windOn 14 = .ok (.if_icmp .lt 5, 3) := by decide +kernel
theorem dX0_windOn_17 : decode cX0_windOn 17 = .ok (.iconst 0, 1) := by decide +kernel
theorem dX0_windOn_18 : decode cX0_windOn 18 = .ok (.ireturn, 1) := by decide +kernel
theorem dX0_windOn_19 : decode cX0_windOn 19 = .ok (.aload_n 0, 1) := by decide +kernel
theorem dX0_windOn_20 : decode cX0_windOn 20 = .ok (.getfield 15, 3) := by decide +kernel
theorem dX0_windOn_23 : decode cX0_windOn 23 = .ok (.iload_n 1, 1) := by decide +kernel
theorem dX0_windOn_24 : decode cX0_windOn 24 = .ok (.iaload, 1) := by decide +kernel
theorem dX0_windOn_25 : decode cX0_windOn 25 = .ok (.istore_n 3, 1) := by decide +kernel
theorem dX0_windOn_26 : decode cX0_windOn 26 = .ok (.aload_n 0, 1) := by decide +kernel
theorem dX0_windOn_27 : decode cX0_windOn 27 = .ok (.iconst 0, 1) := by decide +kernel
theorem dX0_windOn_28 : decode cX0_windOn 28 = .ok (.iconst (-1), 1) := by decide +kernel
theorem dX0_windOn_29 : decode cX0_windOn 29 = .ok (.iload_n 3, 1) := by decide +kernel
theorem dX0_windOn_30 : decode cX0_windOn 30 = .ok (.iload_n 2, 1) := by decide +kernel
theorem dX0_windOn_31 : decode cX0_windOn 31 = .ok (.invokevirtual 67, 3) := by decide +kernel
theorem dX0_windOn_34 : decode cX0_windOn 34 = .ok (.istore 4, 2) := by decide +kernel
theorem dX0_windOn_36 : decode cX0_windOn 36 = .ok (.aload_n 0, 1) := by decide +kernel
theorem dX0_windOn_37 : decode cX0_windOn 37 = .ok (.getfield 21, 3) := by decide +kernel
theorem dX0_windOn_40 : decode cX0_windOn 40 = .ok (.aload_n 0, 1) := by decide +kernel
theorem dX0_windOn_41 : decode cX0_windOn 41 = .ok (.getfield 28, 3) := by decide +kernel
theorem dX0_windOn_44 : decode cX0_windOn 44 = .ok (.iload_n 1, 1) := by decide +kernel
theorem dX0_windOn_45 : decode cX0_windOn 45 = .ok (.iload_n 3, 1) := by decide +kernel
theorem dX0_windOn_46 : decode cX0_windOn 46 = .ok (.iload_n 2, 1) := by decide +kernel
theorem dX0_windOn_47 : decode cX0_windOn 47 = .ok (.aload_n 0, 1) := by decide +kernel
theorem dX0_windOn_48 : decode cX0_windOn 48 = .ok (.getfield 18, 3) := by decide +kernel
theorem dX0_windOn_51 : decode cX0_windOn 51 = .ok (.iload_n 1, 1) := by decide +kernel
theorem dX0_windOn_52 : decode cX0_windOn 52 = .ok (.iaload, 1) := by decide +kernel
theorem dX0_windOn_53 : decode cX0_windOn 53 = .ok (.invokestatic 110, 3) := by decide +kernel
theorem dX0_windOn_56 : decode cX0_windOn 56 = .ok (.iastore, 1) := by decide +kernel
theorem dX0_windOn_57 : decode cX0_windOn 57 = .ok (.aload_n 0, 1) := by decide +kernel
theorem dX0_windOn_58 : decode cX0_windOn 58 = .ok (.dup, 1) := by decide +kernel
theorem dX0_windOn_59 : decode cX0_windOn 59 = .ok (.getfield 28, 3) := by decide +kernel
theorem dX0_windOn_62 : decode cX0_windOn 62 = .ok (.iconst 1, 1) := by decide +kernel
theorem dX0_windOn_63 : decode cX0_windOn 63 = .ok (.iadd, 1) := by decide +kernel
theorem dX0_windOn_64 : decode cX0_windOn 64 = .ok (.putfield 28, 3) := by decide +kernel
theorem dX0_windOn_67 : decode cX0_windOn 67 = .ok (.aload_n 0, 1) := by decide +kernel
theorem dX0_windOn_68 : decode cX0_windOn 68 = .ok (.getfield 18, 3) := by decide +kernel
theorem dX0_windOn_71 : decode cX0_windOn 71 = .ok (.iload_n 1, 1) := by decide +kernel
theorem dX0_windOn_72 : decode cX0_windOn 72 = .ok (.dup2, 1) := by decide +kernel
theorem dX0_windOn_73 : decode cX0_windOn 73 = .ok (.iaload, 1) := by decide +kernel
theorem dX0_windOn_74 : decode cX0_windOn 74 = .ok (.iconst 1, 1) := by decide +kernel
theorem dX0_windOn_75 : decode cX0_windOn 75 = .ok (.iadd, 1) := by decide +kernel
theorem dX0_windOn_76 : decode cX0_windOn 76 = .ok (.iastore, 1) := by decide +kernel
theorem dX0_windOn_77 : decode cX0_windOn 77 = .ok (.aload_n 0, 1) := by decide +kernel
theorem dX0_windOn_78 : decode cX0_windOn 78 = .ok (.getfield 15, 3) := by decide +kernel
theorem dX0_windOn_81 : decode cX0_windOn 81 = .ok (.iload_n 1, 1) := by decide +kernel
theorem dX0_windOn_82 : decode cX0_windOn 82 = .ok (.iload_n 2, 1) := by decide +kernel
theorem dX0_windOn_83 : decode cX0_windOn 83 = .ok (.iastore, 1) := by decide +kernel
theorem dX0_windOn_84 : decode cX0_windOn 84 = .ok (.aload_n 0, 1) := by decide +kernel
theorem dX0_windOn_85 : decode cX0_windOn 85 = .ok (.dup, 1) := by decide +kernel
theorem dX0_windOn_86 : decode cX0_windOn 86 = .ok (.getfield 31, 3) := by decide +kernel
theorem dX0_windOn_89 : decode cX0_windOn 89 = .ok (.iload 4, 2) := by decide +kernel
theorem dX0_windOn_91 : decode cX0_windOn 91 = .ok (.iadd, 1) := by decide +kernel
theorem dX0_windOn_92 : decode cX0_windOn 92 = .ok (.putfield 31, 3) := by decide +kernel
theorem dX0_windOn_95 : decode cX0_windOn 95 = .ok (.iload 4, 2) := by decide +kernel
theorem dX0_windOn_97 : decode cX0_windOn 97 = .ok (.ireturn, 1) := by decide +kernel
theorem dX0_windStar_0 : decode cX0_windStar 0 = .ok (.iconst 0, 1) := by decide +kernel
theorem dX0_windStar_1 : decode cX0_windStar 1 = .ok (.istore 4, 2) := by decide +kernel
theorem dX0_windStar_3 : decode cX0_windStar 3 = .ok (.iconst 0, 1) := by decide +kernel
theorem dX0_windStar_4 : decode cX0_windStar 4 = .ok (.istore 5, 2) := by decide +kernel
theorem dX0_windStar_6 : decode cX0_windStar 6 = .ok (.iload 5, 2) := by decide +kernel
theorem dX0_windStar_8 : decode cX0_windStar 8 = .ok (.iload_n 3, 1) := by decide +kernel
theorem dX0_windStar_9 : decode cX0_windStar 9 = .ok (.if_icmp .ge 45, 3) := by decide +kernel
theorem dX0_windStar_12 : decode cX0_windStar 12 = .ok (.aload_n 0, 1) := by decide +kernel
theorem dX0_windStar_13 : decode cX0_windStar 13 = .ok (.iload_n 1, 1) := by decide +kernel
theorem dX0_windStar_14 : decode cX0_windStar 14 = .ok (.invokevirtual 78, 3) := by decide +kernel
theorem dX0_windStar_17 : decode cX0_windStar 17 = .ok (.iload_n 2, 1) := by decide +kernel
theorem dX0_windStar_18 : decode cX0_windStar 18 = .ok (.invokestatic 113, 3) := by decide +kernel
theorem dX0_windStar_21 : decode cX0_windStar 21 = .ok (.istore 6, 2) := by decide +kernel
theorem dX0_windStar_23 : decode cX0_windStar 23 = .ok (.aload_n 0, 1) := by decide +kernel
theorem dX0_windStar_24 : decode cX0_windStar 24 = .ok (.iload_n 1, 1) := by decide +kernel
theorem dX0_windStar_25 : decode cX0_windStar 25 = .ok (.iload 6, 2) := by decide +kernel
theorem dX0_windStar_27 : decode cX0_windStar 27 = .ok (.invokevirtual 74, 3) := by decide +kernel
theorem dX0_windStar_30 : decode cX0_windStar 30 = .ok (.ifCond .ne 6, 3) := by decide +kernel
theorem dX0_windStar_33 : decode cX0_windStar 33 = .ok (.iload 4, 2) := by decide +kernel
theorem dX0_windStar_35 : decode cX0_windStar 35 = .ok (.ireturn, 1) := by decide +kernel
theorem dX0_windStar_36 : decode cX0_windStar 36 = .ok (.iload 4, 2) := by decide +kernel
theorem dX0_windStar_38 : decode cX0_windStar 38 = .ok (.aload_n 0, 1) := by decide +kernel
theorem dX0_windStar_39 : decode cX0_windStar 39 = .ok (.iload_n 1, 1) := by decide +kernel
theorem dX0_windStar_40 : decode cX0_windStar 40 = .ok (.iload 6, 2) := by decide +kernel
theorem dX0_windStar_42 : decode cX0_windStar 42 = .ok (.invokevirtual 116, 3) := by decide +kernel
theorem dX0_windStar_45 : decode cX0_windStar 45 = .ok (.iadd, 1) := by decide +kernel
theorem dX0_windStar_46 : decode cX0_windStar 46 = .ok (.istore 4, 2) := by decide +kernel
theorem dX0_windStar_48 : decode cX0_windStar 48 = .ok (.iinc 5 1, 3) := by decide +kernel
theorem dX0_windStar_51 : decode cX0_windStar 51 = .ok (.goto (-45), 3) := by decide +kernel
theorem dX0_windStar_54 : decode cX0_windStar 54 = .ok (.iload 4, 2) := by decide +kernel
theorem dX0_windStar_56 : decode cX0_windStar 56 = .ok (.ireturn, 1) := by decide +kernel
theorem dX0_mayUnwind_0 : decode cX0_mayUnwind 0 = .ok (.aload_n 0, 1) := by decide +kernel
theorem dX0_mayUnwind_1 : decode cX0_mayUnwind 1 = .ok (.iload_n 1, 1) := by decide +kernel
theorem dX0_mayUnwind_2 : decode cX0_mayUnwind 2 = .ok (.invokevirtual 104, 3) := by decide +kernel
theorem dX0_mayUnwind_5 : decode cX0_mayUnwind 5 = .ok (.istore_n 2, 1) := by decide +kernel
theorem dX0_mayUnwind_6 : decode cX0_mayUnwind 6 = .ok (.iload_n 2, 1) := by decide +kernel
theorem dX0_mayUnwind_7 : decode cX0_mayUnwind 7 = .ok (.iconst (-1), 1) := by decide +kernel
theorem dX0_mayUnwind_8 : decode cX0_mayUnwind 8 = .ok (.if_icmp .eq 28, 3) := by decide +kernel
theorem dX0_mayUnwind_11 : decode cX0_mayUnwind 11 = .ok (.aload_n 0, 1) := by decide +kernel
theorem dX0_mayUnwind_12 : decode cX0_mayUnwind 12 = .ok (.iload_n 2, 1) := by decide +kernel
theorem dX0_mayUnwind_13 : decode cX0_mayUnwind 13 = .ok (.iconst 1, 1) := by decide +kernel
theorem dX0_mayUnwind_14 : decode cX0_mayUnwind 14 = .ok (.iadd, 1) := by decide +kernel
theorem dX0_mayUnwind_15 : decode cX0_mayUnwind 15 = .ok (.iconst (-1), 1) := by decide +kernel
theorem dX0_mayUnwind_16 : decode cX0_mayUnwind 16 = .ok (.aload_n 0, 1) := by decide +kernel
theorem dX0_mayUnwind_17 : decode cX0_mayUnwind 17 = .ok (.iload_n 2, 1) := by decide +kernel
theorem dX0_mayUnwind_18 : decode cX0_mayUnwind 18 = .ok (.invokevirtual 48, 3) := by decide +kernel
theorem dX0_mayUnwind_21 : decode cX0_mayUnwind 21 = .ok (.aload_n 0, 1) := by decide +kernel
theorem dX0_mayUnwind_22 : decode cX0_mayUnwind 22 = .ok (.iload_n 2, 1) := by decide +kernel
theorem dX0_mayUnwind_23 : decode cX0_mayUnwind 23 = .ok (.invokevirtual 51, 3) := by decide +kernel
theorem dX0_mayUnwind_26 : decode cX0_mayUnwind 26 = .ok (.invokevirtual 67, 3) := by decide +kernel
theorem dX0_mayUnwind_29 : decode cX0_mayUnwind 29 = .ok (.ifCond .ne 7, 3) := by decide +kernel
theorem dX0_mayUnwind_32 : decode cX0_mayUnwind 32 = .ok (.iconst 1, 1) := by decide +kernel
theorem dX0_mayUnwind_33 : decode cX0_mayUnwind 33 = .ok (.goto 4, 3) := by decide +kernel
theorem dX0_mayUnwind_36 : decode cX0_mayUnwind 36 = .ok (.iconst 0, 1) := by decide +kernel
theorem dX0_mayUnwind_37 : decode cX0_mayUnwind 37 = .ok (.ireturn, 1) := by decide +kernel
theorem dX0_unwindLast_0 : decode cX0_unwindLast 0 = .ok (.aload_n 0, 1) := by decide +kernel
theorem dX0_unwindLast_1 : decode cX0_unwindLast 1 = .ok (.iload_n 1, 1) := by decide +kernel
theorem dX0_unwindLast_2 : decode cX0_unwindLast 2 = .ok (.invokevirtual 104, 3) := by decide +kernel
theorem dX0_unwindLast_5 : decode cX0_unwindLast 5 = .ok (.istore_n 2, 1) := by decide +kernel
theorem dX0_unwindLast_6 : decode cX0_unwindLast 6 = .ok (.aload_n 0, 1) := by decide +kernel
theorem dX0_unwindLast_7 : decode cX0_unwindLast 7 = .ok (.iload_n 1, 1) := by decide +kernel
theorem dX0_unwindLast_8 : decode cX0_unwindLast 8 = .ok (.invokevirtual 40, 3) := by decide +kernel
theorem dX0_unwindLast_11 : decode cX0_unwindLast 11 = .ok (.ifCond .eq 8, 3) := by decide +kernel
theorem dX0_unwindLast_14 : decode cX0_unwindLast 14 = .ok (.iload_n 2, 1) := by decide +kernel
theorem dX0_unwindLast_15 : decode cX0_unwindLast 15 = .ok (.iconst (-1), 1) := by decide +kernel
theorem dX0_unwindLast_16 : decode cX0_unwindLast 16 = .ok (.if_icmp .ne 5, 3) := by decide +kernel
theorem dX0_unwindLast_19 : decode cX0_unwindLast 19 = .ok (.iconst (-1), 1) := by decide +kernel
theorem dX0_unwindLast_20 : decode cX0_unwindLast 20 = .ok (.ireturn, 1) := by decide +kernel
theorem dX0_unwindLast_21 : decode cX0_unwindLast 21 = .ok (.aload_n 0, 1) := by decide +kernel
theorem dX0_unwindLast_22 : decode cX0_unwindLast 22 = .ok (.dup, 1) := by decide +kernel
theorem dX0_unwindLast_23 : decode cX0_unwindLast 23 = .ok (.getfield 31, 3) := by decide +kernel
theorem dX0_unwindLast_26 : decode cX0_unwindLast 26 = .ok (.aload_n 0, 1) := by decide +kernel
theorem dX0_unwindLast_27 : decode cX0_unwindLast 27 = .ok (.iconst 0, 1) := by decide +kernel
theorem dX0_unwindLast_28 : decode cX0_unwindLast 28 = .ok (.iconst (-1), 1) := by decide +kernel
theorem dX0_unwindLast_29 : decode cX0_unwindLast 29 = .ok (.aload_n 0, 1) := by decide +kernel
theorem dX0_unwindLast_30 : decode cX0_unwindLast 30 = .ok (.iload_n 2, 1) := by decide +kernel
theorem dX0_unwindLast_31 : decode cX0_unwindLast 31 = .ok (.invokevirtual 48, 3) := by decide +kernel
theorem dX0_unwindLast_34 : decode cX0_unwindLast 34 = .ok (.aload_n 0, 1) := by decide +kernel
theorem dX0_unwindLast_35 : decode cX0_unwindLast 35 = .ok (.iload_n 2, 1) := by decide +kernel
theorem dX0_unwindLast_36 : decode cX0_unwindLast 36 = .ok (.invokevirtual 51, 3) := by decide +kernel
theorem dX0_unwindLast_39 : decode cX0_unwindLast 39 = .ok (.invokevirtual 67, 3) := by decide +kernel
theorem dX0_unwindLast_42 : decode cX0_unwindLast 42 = .ok (.isub, 1) := by decide +kernel
theorem dX0_unwindLast_43 : decode cX0_unwindLast 43 = .ok (.putfield 31, 3) := by decide +kernel
theorem dX0_unwindLast_46 : decode cX0_unwindLast 46 = .ok (.aload_n 0, 1) := by decide +kernel
theorem dX0_unwindLast_47 : decode cX0_unwindLast 47 = .ok (.getfield 15, 3) := by decide +kernel
theorem dX0_unwindLast_50 : decode cX0_unwindLast 50 = .ok (.iload_n 1, 1) := by decide +kernel
theorem dX0_unwindLast_51 : decode cX0_unwindLast 51 = .ok (.aload_n 0, 1) := by decide +kernel
theorem dX0_unwindLast_52 : decode cX0_unwindLast 52 = .ok (.iload_n 2, 1) := by decide +kernel
theorem dX0_unwindLast_53 : decode cX0_unwindLast 53 = .ok (.invokevirtual 48, 3) := by decide +kernel
theorem dX0_unwindLast_56 : decode cX0_unwindLast 56 = .ok (.iastore, 1) := by decide +kernel
theorem dX0_unwindLast_57 : decode cX0_unwindLast 57 = .ok (.aload_n 0, 1) := by decide +kernel
theorem dX0_unwindLast_58 : decode cX0_unwindLast 58 = .ok (.getfield 18, 3) := by decide +kernel
theorem dX0_unwindLast_61 : decode cX0_unwindLast 61 = .ok (.iload_n 1, 1) := by decide +kernel
theorem dX0_unwindLast_62 : decode cX0_unwindLast 62 = .ok (.dup2, 1) := by decide +kernel
theorem dX0_unwindLast_63 : decode cX0_unwindLast 63 = .ok (.iaload, 1) := by decide +kernel
theorem dX0_unwindLast_64 : decode cX0_unwindLast 64 = .ok (.iconst 1, 1) := by decide +kernel
theorem dX0_unwindLast_65 : decode cX0_unwindLast 65 = .ok (.isub, 1) := by decide +kernel
theorem dX0_unwindLast_66 : decode cX0_unwindLast 66 = .ok (.iastore, 1) := by decide +kernel
theorem dX0_unwindLast_67 : decode cX0_unwindLast 67 = .ok (.iload_n 2, 1) := by decide +kernel
theorem dX0_unwindLast_68 : decode cX0_unwindLast 68 = .ok (.iconst 1, 1) := by decide +kernel
theorem dX0_unwindLast_69 : decode cX0_unwindLast 69 = .ok (.iadd, 1) := by decide +kernel
theorem dX0_unwindLast_70 : decode cX0_unwindLast 70 = .ok (.istore_n 3, 1) := by decide +kernel
theorem dX0_unwindLast_71 : decode cX0_unwindLast 71 = .ok (.iload_n 3, 1) := by decide +kernel
theorem dX0_unwindLast_72 : decode cX0_unwindLast 72 = .ok (.aload_n 0, 1) := by decide +kernel
theorem dX0_unwindLast_73 : decode cX0_unwindLast 73 = .ok (.getfield 28, 3) := by decide +kernel
theorem dX0_unwindLast_76 : decode cX0_unwindLast 76 = .ok (.if_icmp .ge 23, 3) := by decide +kernel
theorem dX0_unwindLast_79 : decode cX0_unwindLast 79 = .ok (.aload_n 0, 1) := by decide +kernel
theorem dX0_unwindLast_80 : decode cX0_unwindLast 80 = .ok (.getfield 21, 3) := by decide +kernel
theorem dX0_unwindLast_83 : decode cX0_unwindLast 83 = .ok (.iload_n 3, 1) := by decide +kernel
theorem dX0_unwindLast_84 : decode cX0_unwindLast 84 = .ok (.iconst 1, 1) := by decide +kernel
theorem dX0_unwindLast_85 : decode cX0_unwindLast 85 = .ok (.isub, 1) := by decide +kernel
theorem dX0_unwindLast_86 : decode cX0_unwindLast 86 = .ok (.aload_n 0, 1) := by decide +kernel
theorem dX0_unwindLast_87 : decode cX0_unwindLast 87 = .ok (.getfield 21, 3) := by decide +kernel
theorem dX0_unwindLast_90 : decode cX0_unwindLast 90 = .ok (.iload_n 3, 1) := by decide +kernel
theorem dX0_unwindLast_91 : decode cX0_unwindLast 91 = .ok (.iaload, 1) := by decide +kernel
theorem dX0_unwindLast_92 : decode cX0_unwindLast 92 = .ok (.iastore, 1) := by decide +kernel
theorem dX0_unwindLast_93 : decode cX0_unwindLast 93 = .ok (.iinc 3 1, 3) := by decide +kernel
theorem dX0_unwindLast_96 : decode cX0_unwindLast 96 = .ok (.goto (-25), 3) := by decide +kernel
theorem dX0_unwindLast_99 : decode cX0_unwindLast 99 = .ok (.aload_n 0, 1) := by decide +kernel
theorem dX0_unwindLast_100 : decode cX0_unwindLast 100 = .ok (.dup, 1) := by decide +kernel
theorem dX0_unwindLast_101 : decode cX0_unwindLast 101 = .ok (.getfield 28, 3) := by decide +kernel
theorem dX0_unwindLast_104 : decode cX0_unwindLast 104 = .ok (.iconst 1, 1) := by decide +kernel
theorem dX0_unwindLast_105 : decode cX0_unwindLast 105 = .ok (.isub, 1) := by decide +kernel
theorem dX0_unwindLast_106 : decode cX0_unwindLast 106 = .ok (.putfield 28, 3) := by decide +kernel
theorem dX0_unwindLast_109 : decode cX0_unwindLast 109 = .ok (.aload_n 0, 1) := by decide +kernel
theorem dX0_unwindLast_110 : decode cX0_unwindLast 110 = .ok (.getfield 15, 3) := by decide +kernel
theorem dX0_unwindLast_113 : decode cX0_unwindLast 113 = .ok (.iload_n 1, 1) := by decide +kernel
theorem dX0_unwindLast_114 : decode cX0_unwindLast 114 = .ok (.iaload, 1) := by decide +kernel
theorem dX0_unwindLast_115 : decode cX0_unwindLast 115 = .ok (.ireturn, 1) := by decide +kernel
theorem dX0_mayCut_0 : decode cX0_mayCut 0 = .ok (.aload_n 0, 1) := by decide +kernel
theorem dX0_mayCut_1 : decode cX0_mayCut 1 = .ok (.iload_n 1, 1) := by decide +kernel
theorem dX0_mayCut_2 : decode cX0_mayCut 2 = .ok (.invokevirtual 119, 3) := by decide +kernel
theorem dX0_mayCut_5 : decode cX0_mayCut 5 = .ok (.ifCond .le 7, 3) := by decide +kernel
theorem dX0_mayCut_8 : decode cX0_mayCut 8 = .ok (.iconst 1, 1) := by decide +kernel
theorem dX0_mayCut_9 : decode cX0_mayCut 9 = .ok (.goto 4, 3) := by decide +kernel
theorem dX0_mayCut_12 : decode cX0_mayCut 12 = .ok (.iconst 0, 1) := by decide +kernel
theorem dX0_mayCut_13 : decode cX0_mayCut 13 = .ok (.ireturn, 1) := by decide +kernel
theorem dX0_cutOff_0 : decode cX0_cutOff 0 = .ok (.aload_n 0, 1) := by decide +kernel
theorem dX0_cutOff_1 : decode cX0_cutOff 1 = .ok (.iload_n 1, 1) := by decide +kernel
theorem dX0_cutOff_2 : decode cX0_cutOff 2 = .ok (.invokevirtual 40, 3) := by decide +kernel
theorem dX0_cutOff_5 : decode cX0_cutOff 5 = .ok (.ifCond .ne 5, 3) := by decide +kernel
theorem dX0_cutOff_8 : decode cX0_cutOff 8 = .ok (.iconst 0, 1) := by decide +kernel
theorem dX0_cutOff_9 : decode cX0_cutOff 9 = .ok (.ireturn, 1) := by decide +kernel
theorem dX0_cutOff_10 : decode cX0_cutOff 10 = .ok (.iconst 0, 1) := by decide +kernel
theorem dX0_cutOff_11 : decode cX0_cutOff 11 = .ok (.istore_n 2, 1) := by decide +kernel
theorem dX0_cutOff_12 : decode cX0_cutOff 12 = .ok (.iconst 0, 1) := by decide +kernel
theorem dX0_cutOff_13 : decode cX0_cutOff 13 = .ok (.istore_n 3, 1) := by decide +kernel
theorem dX0_cutOff_14 : decode cX0_cutOff 14 = .ok (.iload_n 3, 1) := by decide +kernel
theorem dX0_cutOff_15 : decode cX0_cutOff 15 = .ok (.aload_n 0, 1) := by decide +kernel
theorem dX0_cutOff_16 : decode cX0_cutOff 16 = .ok (.getfield 28, 3) := by decide +kernel
theorem dX0_cutOff_19 : decode cX0_cutOff 19 = .ok (.if_icmp .ge 33, 3) := by decide +kernel
theorem dX0_cutOff_22 : decode cX0_cutOff 22 = .ok (.aload_n 0, 1) := by decide +kernel
theorem dX0_cutOff_23 : decode cX0_cutOff 23 = .ok (.iload_n 3, 1) := by decide +kernel
theorem dX0_cutOff_24 : decode cX0_cutOff 24 = .ok (.invokevirtual 44, 3) := by decide +kernel
theorem dX0_cutOff_27 : decode cX0_cutOff 27 = .ok (.iload_n 1, 1) := by decide +kernel
theorem dX0_cutOff_28 : decode cX0_cutOff 28 = .ok (.if_icmp .eq 18, 3) := by decide +kernel
theorem dX0_cutOff_31 : decode cX0_cutOff 31 = .ok (.aload_n 0, 1) := by decide +kernel
theorem dX0_cutOff_32 : decode cX0_cutOff 32 = .ok (.getfield 21, 3) := by decide +kernel
theorem dX0_cutOff_35 : decode cX0_cutOff 35 = .ok (.iload_n 2, 1) := by decide +kernel
theorem dX0_cutOff_36 : decode cX0_cutOff 36 = .ok (.aload_n 0, 1) := by decide +kernel
theorem dX0_cutOff_37 : decode cX0_cutOff 37 = .ok (.getfield 21, 3) := by decide +kernel
theorem dX0_cutOff_40 : decode cX0_cutOff 40 = .ok (.iload_n 3, 1) := by decide +kernel
theorem dX0_cutOff_41 : decode cX0_cutOff 41 = .ok (.iaload, 1) := by decide +kernel
theorem dX0_cutOff_42 : decode cX0_cutOff 42 = .ok (.iastore, 1) := by decide +kernel
theorem dX0_cutOff_43 : decode cX0_cutOff 43 = .ok (.iinc 2 1, 3) := by decide +kernel
theorem dX0_cutOff_46 : decode cX0_cutOff 46 = .ok (.iinc 3 1, 3) := by decide +kernel
theorem dX0_cutOff_49 : decode cX0_cutOff 49 = .ok (.goto (-35), 3) := by decide +kernel
theorem dX0_cutOff_52 : decode cX0_cutOff 52 = .ok (.aload_n 0, 1) := by decide +kernel
theorem dX0_cutOff_53 : decode cX0_cutOff 53 = .ok (.getfield 28, 3) := by decide +kernel
theorem dX0_cutOff_56 : decode cX0_cutOff 56 = .ok (.iload_n 2, 1) := by decide +kernel
theorem dX0_cutOff_57 : decode cX0_cutOff 57 = .ok (.isub, 1) := by decide +kernel
theorem dX0_cutOff_58 : decode cX0_cutOff 58 = .ok (.istore_n 3, 1) := by decide +kernel
theorem dX0_cutOff_59 : decode cX0_cutOff 59 = .ok (.aload_n 0, 1) := by decide +kernel
theorem dX0_cutOff_60 : decode cX0_cutOff 60 = .ok (.iload_n 2, 1) := by decide +kernel
theorem dX0_cutOff_61 : decode cX0_cutOff 61 = .ok (.putfield 28, 3) := by decide +kernel
theorem dX0_cutOff_64 : decode cX0_cutOff 64 = .ok (.aload_n 0, 1) := by decide +kernel
theorem dX0_cutOff_65 : decode cX0_cutOff 65 = .ok (.getfield 18, 3) := by decide +kernel
theorem dX0_cutOff_68 : decode cX0_cutOff 68 = .ok (.iload_n 1, 1) := by decide +kernel
theorem dX0_cutOff_69 : decode cX0_cutOff 69 = .ok (.iconst 0, 1) := by decide +kernel
theorem dX0_cutOff_70 : decode cX0_cutOff 70 = .ok (.iastore, 1) := by decide +kernel
theorem dX0_cutOff_71 : decode cX0_cutOff 71 = .ok (.aload_n 0, 1) := by decide +kernel
theorem dX0_cutOff_72 : decode cX0_cutOff 72 = .ok (.iconst 0, 1) := by decide +kernel
theorem dX0_cutOff_73 : decode cX0_cutOff 73 = .ok (.putfield 31, 3) := by decide +kernel
theorem dX0_cutOff_76 : decode cX0_cutOff 76 = .ok (.iconst 0, 1) := by decide +kernel
theorem dX0_cutOff_77 : decode cX0_cutOff 77 = .ok (.istore 4, 2) := by decide +kernel
theorem dX0_cutOff_79 : decode cX0_cutOff 79 = .ok (.iload 4, 2) := by decide +kernel
theorem dX0_cutOff_81 : decode cX0_cutOff 81 = .ok (.aload_n 0, 1) := by decide +kernel
theorem dX0_cutOff_82 : decode cX0_cutOff 82 = .ok (.getfield 28, 3) := by decide +kernel
theorem dX0_cutOff_85 : decode cX0_cutOff 85 = .ok (.if_icmp .ge 39, 3) := by decide +kernel
theorem dX0_cutOff_88 : decode cX0_cutOff 88 = .ok (.aload_n 0, 1) := by decide +kernel
theorem dX0_cutOff_89 : decode cX0_cutOff 89 = .ok (.dup, 1) := by decide +kernel
theorem dX0_cutOff_90 : decode cX0_cutOff 90 = .ok (.getfield 31, 3) := by decide +kernel
theorem dX0_cutOff_93 : decode cX0_cutOff 93 = .ok (.aload_n 0, 1) := by decide +kernel
theorem dX0_cutOff_94 : decode cX0_cutOff 94 = .ok (.iload 4, 2) := by decide +kernel
theorem dX0_cutOff_96 : decode cX0_cutOff 96 = .ok (.iconst 1, 1) := by decide +kernel
theorem dX0_cutOff_97 : decode cX0_cutOff 97 = .ok (.iadd, 1) := by decide +kernel
theorem dX0_cutOff_98 : decode cX0_cutOff 98 = .ok (.iconst (-1), 1) := by decide +kernel
theorem dX0_cutOff_99 : decode cX0_cutOff 99 = .ok (.aload_n 0, 1) := by decide +kernel
theorem dX0_cutOff_100 : decode cX0_cutOff 100 = .ok (.iload 4, 2) := by decide +kernel
theorem dX0_cutOff_102 : decode cX0_cutOff 102 = .ok (.invokevirtual 48, 3) := by decide +kernel
theorem dX0_cutOff_105 : decode cX0_cutOff 105 = .ok (.aload_n 0, 1) := by decide +kernel
theorem dX0_cutOff_106 : decode cX0_cutOff 106 = .ok (.iload 4, 2) := by decide +kernel
theorem dX0_cutOff_108 : decode cX0_cutOff 108 = .ok (.invokevirtual 51, 3) := by decide +kernel
theorem dX0_cutOff_111 : decode cX0_cutOff 111 = .ok (.invokevirtual 67, 3) := by decide +kernel
theorem dX0_cutOff_114 : decode cX0_cutOff 114 = .ok (.iadd, 1) := by decide +kernel
theorem dX0_cutOff_115 : decode cX0_cutOff 115 = .ok (.putfield 31, 3) := by decide +kernel
theorem dX0_cutOff_118 : decode cX0_cutOff 118 = .ok (.iinc 4 1, 3) := by decide +kernel
theorem dX0_cutOff_121 : decode cX0_cutOff 121 = .ok (.goto (-42), 3) := by decide +kernel
theorem dX0_cutOff_124 : decode cX0_cutOff 124 = .ok (.iload_n 3, 1) := by decide +kernel
theorem dX0_cutOff_125 : decode cX0_cutOff 125 = .ok (.ireturn, 1) := by decide +kernel
theorem dX0_turnByOne_0 : decode cX0_turnByOne 0 = .ok (.iconst 0, 1) := by decide +kernel
theorem dX0_turnByOne_1 : decode cX0_turnByOne 1 = .ok (.istore_n 1, 1) := by decide +kernel
theorem dX0_turnByOne_2 : decode cX0_turnByOne 2 = .ok (.iload_n 1, 1) := by decide +kernel
theorem dX0_turnByOne_3 : decode cX0_turnByOne 3 = .ok (.aload_n 0, 1) := by decide +kernel
theorem dX0_turnByOne_4 : decode cX0_turnByOne 4 = .ok (.getfield 24, 3) := by decide +kernel
theorem dX0_turnByOne_7 : decode cX0_turnByOne 7 = .ok (.if_icmp .ge 25, 3) := by decide +kernel
theorem dX0_turnByOne_10 : decode cX0_turnByOne 10 = .ok (.aload_n 0, 1) := by decide +kernel
theorem dX0_turnByOne_11 : decode cX0_turnByOne 11 = .ok (.getfield 15, 3) := by decide +kernel
theorem dX0_turnByOne_14 : decode cX0_turnByOne 14 = .ok (.iload_n 1, 1) := by decide +kernel
theorem dX0_turnByOne_15 : decode cX0_turnByOne 15 = .ok (.aload_n 0, 1) := by decide +kernel
theorem dX0_turnByOne_16 : decode cX0_turnByOne 16 = .ok (.getfield 15, 3) := by decide +kernel
theorem dX0_turnByOne_19 : decode cX0_turnByOne 19 = .ok (.iload_n 1, 1) := by decide +kernel
theorem dX0_turnByOne_20 : decode cX0_turnByOne 20 = .ok (.iaload, 1) := by decide +kernel
theorem dX0_turnByOne_21 : decode cX0_turnByOne 21 = .ok (.iconst 1, 1) := by decide +kernel
theorem dX0_turnByOne_22 : decode cX0_turnByOne 22 = .ok (.invokestatic 113, 3) := by decide +kernel
theorem dX0_turnByOne_25 : decode cX0_turnByOne 25 = .ok (.iastore, 1) := by decide +kernel
theorem dX0_turnByOne_26 : decode cX0_turnByOne 26 = .ok (.iinc 1 1, 3) := by decide +kernel
theorem dX0_turnByOne_29 : decode cX0_turnByOne 29 = .ok (.goto (-27), 3) := by decide +kernel
theorem dX0_turnByOne_32 : decode cX0_turnByOne 32 = .ok (.iconst 0, 1) := by decide +kernel
theorem dX0_turnByOne_33 : decode cX0_turnByOne 33 = .ok (.istore_n 1, 1) := by decide +kernel
theorem dX0_turnByOne_34 : decode cX0_turnByOne 34 = .ok (.iload_n 1, 1) := by decide +kernel
theorem dX0_turnByOne_35 : decode cX0_turnByOne 35 = .ok (.aload_n 0, 1) := by decide +kernel
theorem dX0_turnByOne_36 : decode cX0_turnByOne 36 = .ok (.getfield 28, 3) := by decide +kernel
theorem dX0_turnByOne_39 : decode cX0_turnByOne 39 = .ok (.if_icmp .ge 46, 3) := by decide +kernel
theorem dX0_turnByOne_42 : decode cX0_turnByOne 42 = .ok (.aload_n 0, 1) := by decide +kernel
theorem dX0_turnByOne_43 : decode cX0_turnByOne 43 = .ok (.getfield 21, 3) := by decide +kernel
theorem dX0_turnByOne_46 : decode cX0_turnByOne 46 = .ok (.iload_n 1, 1) := by decide +kernel
theorem dX0_turnByOne_47 : decode cX0_turnByOne 47 = .ok (.aload_n 0, 1) := by decide +kernel
theorem dX0_turnByOne_48 : decode cX0_turnByOne 48 = .ok (.iload_n 1, 1) := by decide +kernel
theorem dX0_turnByOne_49 : decode cX0_turnByOne 49 = .ok (.invokevirtual 44, 3) := by decide +kernel
theorem dX0_turnByOne_52 : decode cX0_turnByOne 52 = .ok (.aload_n 0, 1) := by decide +kernel
theorem dX0_turnByOne_53 : decode cX0_turnByOne 53 = .ok (.iload_n 1, 1) := by decide +kernel
theorem dX0_turnByOne_54 : decode cX0_turnByOne 54 = .ok (.invokevirtual 48, 3) := by decide +kernel
theorem dX0_turnByOne_57 : decode cX0_turnByOne 57 = .ok (.iconst 1, 1) := by decide +kernel
theorem dX0_turnByOne_58 : decode cX0_turnByOne 58 = .ok (.invokestatic 113, 3) := by decide +kernel
theorem dX0_turnByOne_61 : decode cX0_turnByOne 61 = .ok (.aload_n 0, 1) := by decide +kernel
theorem dX0_turnByOne_62 : decode cX0_turnByOne 62 = .ok (.iload_n 1, 1) := by decide +kernel
theorem dX0_turnByOne_63 : decode cX0_turnByOne 63 = .ok (.invokevirtual 51, 3) := by decide +kernel
theorem dX0_turnByOne_66 : decode cX0_turnByOne 66 = .ok (.iconst 1, 1) := by decide +kernel
theorem dX0_turnByOne_67 : decode cX0_turnByOne 67 = .ok (.invokestatic 113, 3) := by decide +kernel
theorem dX0_turnByOne_70 : decode cX0_turnByOne 70 = .ok (.aload_n 0, 1) := by decide +kernel
theorem dX0_turnByOne_71 : decode cX0_turnByOne 71 = .ok (.iload_n 1, 1) := by decide +kernel
theorem dX0_turnByOne_72 : decode cX0_turnByOne 72 = .ok (.invokevirtual 101, 3) := by decide +kernel
theorem dX0_turnByOne_75 : decode cX0_turnByOne 75 = .ok (.invokestatic 110, 3) := by decide +kernel
theorem dX0_turnByOne_78 : decode cX0_turnByOne 78 = .ok (.iastore, 1) := by decide +kernel
theorem dX0_turnByOne_79 : decode cX0_turnByOne 79 = .ok (.iinc 1 1, 3) := by decide +kernel
theorem dX0_turnByOne_82 : decode cX0_turnByOne 82 = .ok (.goto (-48), 3) := by decide +kernel
theorem dX0_turnByOne_85 : decode cX0_turnByOne 85 = .ok (.return_, 1) := by decide +kernel
theorem dX0_turnOver_0 : decode cX0_turnOver 0 = .ok (.iconst 0, 1) := by decide +kernel
theorem dX0_turnOver_1 : decode cX0_turnOver 1 = .ok (.istore_n 1, 1) := by decide +kernel
theorem dX0_turnOver_2 : decode cX0_turnOver 2 = .ok (.iload_n 1, 1) := by decide +kernel
theorem dX0_turnOver_3 : decode cX0_turnOver 3 = .ok (.aload_n 0, 1) := by decide +kernel
theorem dX0_turnOver_4 : decode cX0_turnOver 4 = .ok (.getfield 24, 3) := by decide +kernel
end
section
theorem dX0_turnOver_7 : decode cX0_turnOver 7 = .ok (.if_icmp .ge 26, 3) := by decide +kernel
theorem dX0_turnOver_10 : decode cX0_turnOver 10 = .ok (.aload_n 0, 1) := by decide +kernel
theorem dX0_turnOver_11 : decode cX0_turnOver 11 = .ok (.getfield 15, 3) := by decide +kernel
theorem dX0_turnOver_14 : decode cX0_turnOver 14 = .ok (.iload_n 1, 1) := by decide +kernel
theorem dX0_turnOver_15 : decode cX0_turnOver 15 = .ok (.iconst 0, 1) := by decide +kernel
theorem dX0_turnOver_16 : decode cX0_turnOver 16 = .ok (.aload_n 0, 1) := by decide +kernel
theorem dX0_turnOver_17 : decode cX0_turnOver 17 = .ok (.getfield 15, 3) := by decide +kernel
theorem dX0_turnOver_20 : decode cX0_turnOver 20 = .ok (.iload_n 1, 1) := by decide +kernel
theorem dX0_turnOver_21 : decode cX0_turnOver 21 = .ok (.iaload, 1) := by decide +kernel
theorem dX0_turnOver_22 : decode cX0_turnOver 22 = .ok (.ineg, 1) := by decide +kernel
theorem dX0_turnOver_23 : decode cX0_turnOver 23 = .ok (.invokestatic 113, 3) := by decide +kernel
theorem dX0_turnOver_26 : decode cX0_turnOver 26 = .ok (.iastore, 1) := by decide +kernel
theorem dX0_turnOver_27 : decode cX0_turnOver 27 = .ok (.iinc 1 1, 3) := by decide +kernel
theorem dX0_turnOver_30 : decode cX0_turnOver 30 = .ok (.goto (-28), 3) := by decide +kernel
theorem dX0_turnOver_33 : decode cX0_turnOver 33 = .ok (.iconst 0, 1) := by decide +kernel
theorem dX0_turnOver_34 : decode cX0_turnOver 34 = .ok (.istore_n 1, 1) := by decide +kernel
theorem dX0_turnOver_35 : decode cX0_turnOver 35 = .ok (.iload_n 1, 1) := by decide +kernel
theorem dX0_turnOver_36 : decode cX0_turnOver 36 = .ok (.aload_n 0, 1) := by decide +kernel
theorem dX0_turnOver_37 : decode cX0_turnOver 37 = .ok (.getfield 28, 3) := by decide +kernel
theorem dX0_turnOver_40 : decode cX0_turnOver 40 = .ok (.if_icmp .ge 48, 3) := by decide +kernel
theorem dX0_turnOver_43 : decode cX0_turnOver 43 = .ok (.aload_n 0, 1) := by decide +kernel
theorem dX0_turnOver_44 : decode cX0_turnOver 44 = .ok (.getfield 21, 3) := by decide +kernel
theorem dX0_turnOver_47 : decode cX0_turnOver 47 = .ok (.iload_n 1, 1) := by decide +kernel
theorem dX0_turnOver_48 : decode cX0_turnOver 48 = .ok (.aload_n 0, 1) := by decide +kernel
theorem dX0_turnOver_49 : decode cX0_turnOver 49 = .ok (.iload_n 1, 1) := by decide +kernel
theorem dX0_turnOver_50 : decode cX0_turnOver 50 = .ok (.invokevirtual 44, 3) := by decide +kernel
theorem dX0_turnOver_53 : decode cX0_turnOver 53 = .ok (.iconst 0, 1) := by decide +kernel
theorem dX0_turnOver_54 : decode cX0_turnOver 54 = .ok (.aload_n 0, 1) := by decide +kernel
theorem dX0_turnOver_55 : decode cX0_turnOver 55 = .ok (.iload_n 1, 1) := by decide +kernel
theorem dX0_turnOver_56 : decode cX0_turnOver 56 = .ok (.invokevirtual 48, 3) := by decide +kernel
theorem dX0_turnOver_59 : decode cX0_turnOver 59 = .ok (.ineg, 1) := by decide +kernel
theorem dX0_turnOver_60 : decode cX0_turnOver 60 = .ok (.invokestatic 113, 3) := by decide +kernel
theorem dX0_turnOver_63 : decode cX0_turnOver 63 = .ok (.iconst 0, 1) := by decide +kernel
theorem dX0_turnOver_64 : decode cX0_turnOver 64 = .ok (.aload_n 0, 1) := by decide +kernel
theorem dX0_turnOver_65 : decode cX0_turnOver 65 = .ok (.iload_n 1, 1) := by decide +kernel
theorem dX0_turnOver_66 : decode cX0_turnOver 66 = .ok (.invokevirtual 51, 3) := by decide +kernel
theorem dX0_turnOver_69 : decode cX0_turnOver 69 = .ok (.ineg, 1) := by decide +kernel
theorem dX0_turnOver_70 : decode cX0_turnOver 70 = .ok (.invokestatic 113, 3) := by decide +kernel
theorem dX0_turnOver_73 : decode cX0_turnOver 73 = .ok (.aload_n 0, 1) := by decide +kernel
theorem dX0_turnOver_74 : decode cX0_turnOver 74 = .ok (.iload_n 1, 1) := by decide +kernel
theorem dX0_turnOver_75 : decode cX0_turnOver 75 = .ok (.invokevirtual 101, 3) := by decide +kernel
theorem dX0_turnOver_78 : decode cX0_turnOver 78 = .ok (.invokestatic 110, 3) := by decide +kernel
theorem dX0_turnOver_81 : decode cX0_turnOver 81 = .ok (.iastore, 1) := by decide +kernel
theorem dX0_turnOver_82 : decode cX0_turnOver 82 = .ok (.iinc 1 1, 3) := by decide +kernel
theorem dX0_turnOver_85 : decode cX0_turnOver 85 = .ok (.goto (-50), 3) := by decide +kernel
theorem dX0_turnOver_88 : decode cX0_turnOver 88 = .ok (.iconst 0, 1) := by decide +kernel
theorem dX0_turnOver_89 : decode cX0_turnOver 89 = .ok (.istore_n 1, 1) := by decide +kernel
theorem dX0_turnOver_90 : decode cX0_turnOver 90 = .ok (.aload_n 0, 1) := by decide +kernel
theorem dX0_turnOver_91 : decode cX0_turnOver 91 = .ok (.getfield 28, 3) := by decide +kernel
theorem dX0_turnOver_94 : decode cX0_turnOver 94 = .ok (.iconst 1, 1) := by decide +kernel
theorem dX0_turnOver_95 : decode cX0_turnOver 95 = .ok (.isub, 1) := by decide +kernel
theorem dX0_turnOver_96 : decode cX0_turnOver 96 = .ok (.istore_n 2, 1) := by decide +kernel
theorem dX0_turnOver_97 : decode cX0_turnOver 97 = .ok (.iload_n 1, 1) := by decide +kernel
theorem dX0_turnOver_98 : decode cX0_turnOver 98 = .ok (.iload_n 2, 1) := by decide +kernel
theorem dX0_turnOver_99 : decode cX0_turnOver 99 = .ok (.if_icmp .ge 38, 3) := by decide +kernel
theorem dX0_turnOver_102 : decode cX0_turnOver 102 = .ok (.aload_n 0, 1) := by decide +kernel
theorem dX0_turnOver_103 : decode cX0_turnOver 103 = .ok (.getfield 21, 3) := by decide +kernel
theorem dX0_turnOver_106 : decode cX0_turnOver 106 = .ok (.iload_n 1, 1) := by decide +kernel
theorem dX0_turnOver_107 : decode cX0_turnOver 107 = .ok (.iaload, 1) := by decide +kernel
theorem dX0_turnOver_108 : decode cX0_turnOver 108 = .ok (.istore_n 3, 1) := by decide +kernel
theorem dX0_turnOver_109 : decode cX0_turnOver 109 = .ok (.aload_n 0, 1) := by decide +kernel
theorem dX0_turnOver_110 : decode cX0_turnOver 110 = .ok (.getfield 21, 3) := by decide +kernel
theorem dX0_turnOver_113 : decode cX0_turnOver 113 = .ok (.iload_n 1, 1) := by decide +kernel
theorem dX0_turnOver_114 : decode cX0_turnOver 114 = .ok (.aload_n 0, 1) := by decide +kernel
theorem dX0_turnOver_115 : decode cX0_turnOver 115 = .ok (.getfield 21, 3) := by decide +kernel
theorem dX0_turnOver_118 : decode cX0_turnOver 118 = .ok (.iload_n 2, 1) := by decide +kernel
theorem dX0_turnOver_119 : decode cX0_turnOver 119 = .ok (.iaload, 1) := by decide +kernel
theorem dX0_turnOver_120 : decode cX0_turnOver 120 = .ok (.iastore, 1) := by decide +kernel
theorem dX0_turnOver_121 : decode cX0_turnOver 121 = .ok (.aload_n 0, 1) := by decide +kernel
theorem dX0_turnOver_122 : decode cX0_turnOver 122 = .ok (.getfield 21, 3) := by decide +kernel
theorem dX0_turnOver_125 : decode cX0_turnOver 125 = .ok (.iload_n 2, 1) := by decide +kernel
theorem dX0_turnOver_126 : decode cX0_turnOver 126 = .ok (.iload_n 3, 1) := by decide +kernel
theorem dX0_turnOver_127 : decode cX0_turnOver 127 = .ok (.iastore, 1) := by decide +kernel
theorem dX0_turnOver_128 : decode cX0_turnOver 128 = .ok (.iinc 1 1, 3) := by decide +kernel
theorem dX0_turnOver_131 : decode cX0_turnOver 131 = .ok (.iinc 2 (-1), 3) := by decide +kernel
theorem dX0_turnOver_134 : decode cX0_turnOver 134 = .ok (.goto (-37), 3) := by decide +kernel
theorem dX0_turnOver_137 : decode cX0_turnOver 137 = .ok (.return_, 1) := by decide +kernel
theorem dX1_init_0 : decode cX1_init 0 = .ok (.aload_n 0, 1) := by decide +kernel
theorem dX1_init_1 : decode cX1_init 1 = .ok (.invokespecial 3, 3) := by decide +kernel
theorem dX1_init_4 : decode cX1_init 4 = .ok (.aload_n 0, 1) := by decide +kernel
theorem dX1_init_5 : decode cX1_init 5 = .ok (.bipush 16, 2) := by decide +kernel
theorem dX1_init_7 : decode cX1_init 7 = .ok (.newarray .int, 2) := by decide +kernel
theorem dX1_init_9 : decode cX1_init 9 = .ok (.putfield 9, 3) := by decide +kernel
theorem dX1_init_12 : decode cX1_init 12 = .ok (.return_, 1) := by decide +kernel
theorem dX1_toldFraction_0 : decode cX1_toldFraction 0 = .ok (.iconst 1, 1) := by decide +kernel
theorem dX1_toldFraction_1 : decode cX1_toldFraction 1 = .ok (.iload_n 0, 1) := by decide +kernel
theorem dX1_toldFraction_2 : decode cX1_toldFraction 2 = .ok (.iload_n 1, 1) := by decide +kernel
theorem dX1_toldFraction_3 : decode cX1_toldFraction 3 = .ok (.invokestatic 15, 3) := by decide +kernel
theorem dX1_toldFraction_6 : decode cX1_toldFraction 6 = .ok (.invokestatic 19, 3) := by decide +kernel
theorem dX1_toldFraction_9 : decode cX1_toldFraction 9 = .ok (.istore_n 3, 1) := by decide +kernel
theorem dX1_toldFraction_10 : decode cX1_toldFraction 10 = .ok (.iload_n 2, 1) := by decide +kernel
theorem dX1_toldFraction_11 : decode cX1_toldFraction 11 = .ok (.ifCond .eq 9, 3) := by decide +kernel
theorem dX1_toldFraction_14 : decode cX1_toldFraction 14 = .ok (.iload_n 0, 1) := by decide +kernel
theorem dX1_toldFraction_15 : decode cX1_toldFraction 15 = .ok (.iload_n 3, 1) := by decide +kernel
theorem dX1_toldFraction_16 : decode cX1_toldFraction 16 = .ok (.idiv, 1) := by decide +kernel
theorem dX1_toldFraction_17 : decode cX1_toldFraction 17 = .ok (.goto 6, 3) := by decide +kernel
theorem dX1_toldFraction_20 : decode cX1_toldFraction 20 = .ok (.iload_n 1, 1) := by decide +kernel
theorem dX1_toldFraction_21 : decode cX1_toldFraction 21 = .ok (.iload_n 3, 1) := by decide +kernel
theorem dX1_toldFraction_22 : decode cX1_toldFraction 22 = .ok (.idiv, 1) := by decide +kernel
theorem dX1_toldFraction_23 : decode cX1_toldFraction 23 = .ok (.ireturn, 1) := by decide +kernel
theorem dX1_commonDivisor_0 : decode cX1_commonDivisor 0 = .ok (.iload_n 0, 1) := by decide +kernel
theorem dX1_commonDivisor_1 : decode cX1_commonDivisor 1 = .ok (.istore_n 2, 1) := by decide +kernel
theorem dX1_commonDivisor_2 : decode cX1_commonDivisor 2 = .ok (.iload_n 1, 1) := by decide +kernel
theorem dX1_commonDivisor_3 : decode cX1_commonDivisor 3 = .ok (.istore_n 3, 1) := by decide +kernel
theorem dX1_commonDivisor_4 : decode cX1_commonDivisor 4 = .ok (.iconst 0, 1) := by decide +kernel
theorem dX1_commonDivisor_5 : decode cX1_commonDivisor 5 = .ok (.istore 4, 2) := by decide +kernel
theorem dX1_commonDivisor_7 : decode cX1_commonDivisor 7 = .ok (.iload 4, 2) := by decide +kernel
theorem dX1_commonDivisor_9 : decode cX1_commonDivisor 9 = .ok (.bipush 64, 2) := by decide +kernel
theorem dX1_commonDivisor_11 : decode cX1_commonDivisor 11 = .ok (.if_icmp .ge 23, 3) := by decide +kernel
theorem dX1_commonDivisor_14 : decode cX1_commonDivisor 14 = .ok (.iload_n 3, 1) := by decide +kernel
theorem dX1_commonDivisor_15 : decode cX1_commonDivisor 15 = .ok (.ifCond .eq 19, 3) := by decide +kernel
theorem dX1_commonDivisor_18 : decode cX1_commonDivisor 18 = .ok (.iload_n 2, 1) := by decide +kernel
theorem dX1_commonDivisor_19 : decode cX1_commonDivisor 19 = .ok (.iload_n 3, 1) := by decide +kernel
theorem dX1_commonDivisor_20 : decode cX1_commonDivisor 20 = .ok (.irem, 1) := by decide +kernel
theorem dX1_commonDivisor_21 : decode cX1_commonDivisor 21 = .ok (.istore 5, 2) := by decide +kernel
theorem dX1_commonDivisor_23 : decode cX1_commonDivisor 23 = .ok (.iload_n 3, 1) := by decide +kernel
theorem dX1_commonDivisor_24 : decode cX1_commonDivisor 24 = .ok (.istore_n 2, 1) := by decide +kernel
theorem dX1_commonDivisor_25 : decode cX1_commonDivisor 25 = .ok (.iload 5, 2) := by decide +kernel
theorem dX1_commonDivisor_27 : decode cX1_commonDivisor 27 = .ok (.istore_n 3, 1) := by decide +kernel
theorem dX1_commonDivisor_28 : decode cX1_commonDivisor 28 = .ok (.iinc 4 1, 3) := by decide +kernel
theorem dX1_commonDivisor_31 : decode cX1_commonDivisor 31 = .ok (.goto (-24), 3) := by decide +kernel
theorem dX1_commonDivisor_34 : decode cX1_commonDivisor 34 = .ok (.iload_n 2, 1) := by decide +kernel
theorem dX1_commonDivisor_35 : decode cX1_commonDivisor 35 = .ok (.invokestatic 24, 3) := by decide +kernel
theorem dX1_commonDivisor_38 : decode cX1_commonDivisor 38 = .ok (.ireturn, 1) := by decide +kernel
theorem dX1_twiceShare_0 : decode cX1_twiceShare 0 = .ok (.iconst 0, 1) := by decide +kernel
theorem dX1_twiceShare_1 : decode cX1_twiceShare 1 = .ok (.istore_n 2, 1) := by decide +kernel
theorem dX1_twiceShare_2 : decode cX1_twiceShare 2 = .ok (.iconst 0, 1) := by decide +kernel
theorem dX1_twiceShare_3 : decode cX1_twiceShare 3 = .ok (.istore_n 3, 1) := by decide +kernel
theorem dX1_twiceShare_4 : decode cX1_twiceShare 4 = .ok (.iload_n 3, 1) := by decide +kernel
theorem dX1_twiceShare_5 : decode cX1_twiceShare 5 = .ok (.aload_n 0, 1) := by decide +kernel
theorem dX1_twiceShare_6 : decode cX1_twiceShare 6 = .ok (.invokevirtual 28, 3) := by decide +kernel
theorem dX1_twiceShare_9 : decode cX1_twiceShare 9 = .ok (.if_icmp .ge 34, 3) := by decide +kernel
theorem dX1_twiceShare_12 : decode cX1_twiceShare 12 = .ok (.aload_n 0, 1) := by decide +kernel
theorem dX1_twiceShare_13 : decode cX1_twiceShare 13 = .ok (.iload_n 1, 1) := by decide +kernel
theorem dX1_twiceShare_14 : decode cX1_twiceShare 14 = .ok (.iload_n 3, 1) := by decide +kernel
theorem dX1_twiceShare_15 : decode cX1_twiceShare 15 = .ok (.invokevirtual 34, 3) := by decide +kernel
theorem dX1_twiceShare_18 : decode cX1_twiceShare 18 = .ok (.istore 4, 2) := by decide +kernel
theorem dX1_twiceShare_20 : decode cX1_twiceShare 20 = .ok (.iload_n 2, 1) := by decide +kernel
theorem dX1_twiceShare_21 : decode cX1_twiceShare 21 = .ok (.iload_n 3, 1) := by decide +kernel
theorem dX1_twiceShare_22 : decode cX1_twiceShare 22 = .ok (.iload_n 1, 1) := by decide +kernel
theorem dX1_twiceShare_23 : decode cX1_twiceShare 23 = .ok (.if_icmp .ne 10, 3) := by decide +kernel
theorem dX1_twiceShare_26 : decode cX1_twiceShare 26 = .ok (.iconst 2, 1) := by decide +kernel
theorem dX1_twiceShare_27 : decode cX1_twiceShare 27 = .ok (.iload 4, 2) := by decide +kernel
theorem dX1_twiceShare_29 : decode cX1_twiceShare 29 = .ok (.imul, 1) := by decide +kernel
theorem dX1_twiceShare_30 : decode cX1_twiceShare 30 = .ok (.goto 5, 3) := by decide +kernel
theorem dX1_twiceShare_33 : decode cX1_twiceShare 33 = .ok (.iload 4, 2) := by decide +kernel
theorem dX1_twiceShare_35 : decode cX1_twiceShare 35 = .ok (.iadd, 1) := by decide +kernel
theorem dX1_twiceShare_36 : decode cX1_twiceShare 36 = .ok (.istore_n 2, 1) := by decide +kernel
theorem dX1_twiceShare_37 : decode cX1_twiceShare 37 = .ok (.iinc 3 1, 3) := by decide +kernel
theorem dX1_twiceShare_40 : decode cX1_twiceShare 40 = .ok (.goto (-36), 3) := by decide +kernel
theorem dX1_twiceShare_43 : decode cX1_twiceShare 43 = .ok (.iload_n 2, 1) := by decide +kernel
theorem dX1_twiceShare_44 : decode cX1_twiceShare 44 = .ok (.ireturn, 1) := by decide +kernel
theorem dX1_allWeight_0 : decode cX1_allWeight 0 = .ok (.iconst 1, 1) := by decide +kernel
theorem dX1_allWeight_1 : decode cX1_allWeight 1 = .ok (.istore_n 1, 1) := by decide +kernel
theorem dX1_allWeight_2 : decode cX1_allWeight 2 = .ok (.iconst 0, 1) := by decide +kernel
theorem dX1_allWeight_3 : decode cX1_allWeight 3 = .ok (.istore_n 2, 1) := by decide +kernel
theorem dX1_allWeight_4 : decode cX1_allWeight 4 = .ok (.iload_n 2, 1) := by decide +kernel
theorem dX1_allWeight_5 : decode cX1_allWeight 5 = .ok (.aload_n 0, 1) := by decide +kernel
theorem dX1_allWeight_6 : decode cX1_allWeight 6 = .ok (.invokevirtual 28, 3) := by decide +kernel
theorem dX1_allWeight_9 : decode cX1_allWeight 9 = .ok (.if_icmp .ge 14, 3) := by decide +kernel
theorem dX1_allWeight_12 : decode cX1_allWeight 12 = .ok (.iload_n 1, 1) := by decide +kernel
theorem dX1_allWeight_13 : decode cX1_allWeight 13 = .ok (.bipush 10, 2) := by decide +kernel
theorem dX1_allWeight_15 : decode cX1_allWeight 15 = .ok (.imul, 1) := by decide +kernel
theorem dX1_allWeight_16 : decode cX1_allWeight 16 = .ok (.istore_n 1, 1) := by decide +kernel
theorem dX1_allWeight_17 : decode cX1_allWeight 17 = .ok (.iinc 2 1, 3) := by decide +kernel
theorem dX1_allWeight_20 : decode cX1_allWeight 20 = .ok (.goto (-16), 3) := by decide +kernel
theorem dX1_allWeight_23 : decode cX1_allWeight 23 = .ok (.iload_n 1, 1) := by decide +kernel
theorem dX1_allWeight_24 : decode cX1_allWeight 24 = .ok (.ireturn, 1) := by decide +kernel
theorem dX1_weightOfSnaps_0 : decode cX1_weightOfSnaps 0 = .ok (.aload_n 0, 1) := by decide +kernel
theorem dX1_weightOfSnaps_1 : decode cX1_weightOfSnaps 1 = .ok (.aload_n 1, 1) := by decide +kernel
theorem dX1_weightOfSnaps_2 : decode cX1_weightOfSnaps 2 = .ok (.invokevirtual 37, 3) := by decide +kernel
theorem dX1_weightOfSnaps_5 : decode cX1_weightOfSnaps 5 = .ok (.iconst 0, 1) := by decide +kernel
theorem dX1_weightOfSnaps_6 : decode cX1_weightOfSnaps 6 = .ok (.istore 4, 2) := by decide +kernel
theorem dX1_weightOfSnaps_8 : decode cX1_weightOfSnaps 8 = .ok (.iconst 0, 1) := by decide +kernel
theorem dX1_weightOfSnaps_9 : decode cX1_weightOfSnaps 9 = .ok (.istore 5, 2) := by decide +kernel
theorem dX1_weightOfSnaps_11 : decode cX1_weightOfSnaps 11 = .ok (.iload 5, 2) := by decide +kernel
theorem dX1_weightOfSnaps_13 : decode cX1_weightOfSnaps 13 = .ok (.iconst 1, 1) := by decide +kernel
theorem dX1_weightOfSnaps_14 : decode cX1_weightOfSnaps 14 = .ok (.aload_n 1, 1) := by decide +kernel
theorem dX1_weightOfSnaps_15 : decode cX1_weightOfSnaps 15 = .ok (.invokevirtual 28, 3) := by decide +kernel
theorem dX1_weightOfSnaps_18 : decode cX1_weightOfSnaps 18 = .ok (.ishl, 1) := by decide +kernel
theorem dX1_weightOfSnaps_19 : decode cX1_weightOfSnaps 19 = .ok (.if_icmp .ge 31, 3) := by decide +kernel
theorem dX1_weightOfSnaps_22 : decode cX1_weightOfSnaps 22 = .ok (.aload_n 0, 1) := by decide +kernel
theorem dX1_weightOfSnaps_23 : decode cX1_weightOfSnaps 23 = .ok (.iload 5, 2) := by decide +kernel
theorem dX1_weightOfSnaps_25 : decode cX1_weightOfSnaps 25 = .ok (.invokevirtual 41, 3) := by decide +kernel
theorem dX1_weightOfSnaps_28 : decode cX1_weightOfSnaps 28 = .ok (.iload_n 2, 1) := by decide +kernel
theorem dX1_weightOfSnaps_29 : decode cX1_weightOfSnaps 29 = .ok (.if_icmp .lt 15, 3) := by decide +kernel
theorem dX1_weightOfSnaps_32 : decode cX1_weightOfSnaps 32 = .ok (.iload 4, 2) := by decide +kernel
theorem dX1_weightOfSnaps_34 : decode cX1_weightOfSnaps 34 = .ok (.aload_n 1, 1) := by decide +kernel
theorem dX1_weightOfSnaps_35 : decode cX1_weightOfSnaps 35 = .ok (.iload 5, 2) := by decide +kernel
theorem dX1_weightOfSnaps_37 : decode cX1_weightOfSnaps 37 = .ok (.iload_n 3, 1) := by decide +kernel
theorem dX1_weightOfSnaps_38 : decode cX1_weightOfSnaps 38 = .ok (.invokestatic 44, 3) := by decide +kernel
theorem dX1_weightOfSnaps_41 : decode cX1_weightOfSnaps 41 = .ok (.iadd, 1) := by decide +kernel
theorem dX1_weightOfSnaps_42 : decode cX1_weightOfSnaps 42 = .ok (.istore 4, 2) := by decide +kernel
theorem dX1_weightOfSnaps_44 : decode cX1_weightOfSnaps 44 = .ok (.iinc 5 1, 3) := by decide +kernel
theorem dX1_weightOfSnaps_47 : decode cX1_weightOfSnaps 47 = .ok (.goto (-36), 3) := by decide +kernel
theorem dX1_weightOfSnaps_50 : decode cX1_weightOfSnaps 50 = .ok (.iload 4, 2) := by decide +kernel
theorem dX1_weightOfSnaps_52 : decode cX1_weightOfSnaps 52 = .ok (.ireturn, 1) := by decide +kernel
theorem dX1_countBetween_0 : decode cX1_countBetween 0 = .ok (.iconst 0, 1) := by decide +kernel
theorem dX1_countBetween_1 : decode cX1_countBetween 1 = .ok (.istore_n 2, 1) := by decide +kernel
theorem dX1_countBetween_2 : decode cX1_countBetween 2 = .ok (.iload_n 2, 1) := by decide +kernel
theorem dX1_countBetween_3 : decode cX1_countBetween 3 = .ok (.iconst 4, 1) := by decide +kernel
theorem dX1_countBetween_4 : decode cX1_countBetween 4 = .ok (.if_icmp .ge 38, 3) := by decide +kernel
theorem dX1_countBetween_7 : decode cX1_countBetween 7 = .ok (.iload_n 2, 1) := by decide +kernel
theorem dX1_countBetween_8 : decode cX1_countBetween 8 = .ok (.istore_n 3, 1) := by decide +kernel
theorem dX1_countBetween_9 : decode cX1_countBetween 9 = .ok (.iload_n 3, 1) := by decide +kernel
theorem dX1_countBetween_10 : decode cX1_countBetween 10 = .ok (.iconst 4, 1) := by decide +kernel
theorem dX1_countBetween_11 : decode cX1_countBetween 11 = .ok (.if_icmp .ge 25, 3) := by decide +kernel
theorem dX1_countBetween_14 : decode cX1_countBetween 14 = .ok (.aload_n 0, 1) := by decide +kernel
theorem dX1_countBetween_15 : decode cX1_countBetween 15 = .ok (.getfield 9, 3) := by decide +kernel
theorem dX1_countBetween_18 : decode cX1_countBetween 18 = .ok (.iload_n 2, 1) := by decide +kernel
theorem dX1_countBetween_19 : decode cX1_countBetween 19 = .ok (.iconst 4, 1) := by decide +kernel
theorem dX1_countBetween_20 : decode cX1_countBetween 20 = .ok (.imul, 1) := by decide +kernel
theorem dX1_countBetween_21 : decode cX1_countBetween 21 = .ok (.iload_n 3, 1) := by decide +kernel
theorem dX1_countBetween_22 : decode cX1_countBetween 22 = .ok (.iadd, 1) := by decide +kernel
theorem dX1_countBetween_23 : decode cX1_countBetween 23 = .ok (.aload_n 1, 1) := by decide +kernel
theorem dX1_countBetween_24 : decode cX1_countBetween 24 = .ok (.iload_n 2, 1) := by decide +kernel
theorem dX1_countBetween_25 : decode cX1_countBetween 25 = .ok (.iload_n 3, 1) := by decide +kernel
theorem dX1_countBetween_26 : decode cX1_countBetween 26 = .ok (.invokevirtual 34, 3) := by decide +kernel
theorem dX1_countBetween_29 : decode cX1_countBetween 29 = .ok (.iastore, 1) := by decide +kernel
theorem dX1_countBetween_30 : decode cX1_countBetween 30 = .ok (.iinc 3 1, 3) := by decide +kernel
theorem dX1_countBetween_33 : decode cX1_countBetween 33 = .ok (.goto (-24), 3) := by decide +kernel
theorem dX1_countBetween_36 : decode cX1_countBetween 36 = .ok (.iinc 2 1, 3) := by decide +kernel
theorem dX1_countBetween_39 : decode cX1_countBetween 39 = .ok (.goto (-37), 3) := by decide +kernel
theorem dX1_countBetween_42 : decode cX1_countBetween 42 = .ok (.return_, 1) := by decide +kernel
theorem dX1_crossingsAmong_0 : decode cX1_crossingsAmong 0 = .ok (.iconst 0, 1) := by decide +kernel
theorem dX1_crossingsAmong_1 : decode cX1_crossingsAmong 1 = .ok (.istore_n 2, 1) := by decide +kernel
theorem dX1_crossingsAmong_2 : decode cX1_crossingsAmong 2 = .ok (.iconst 0, 1) := by decide +kernel
theorem dX1_crossingsAmong_3 : decode cX1_crossingsAmong 3 = .ok (.istore_n 3, 1) := by decide +kernel
theorem dX1_crossingsAmong_4 : decode cX1_crossingsAmong 4 = .ok (.iload_n 3, 1) := by decide +kernel
theorem dX1_crossingsAmong_5 : decode cX1_crossingsAmong 5 = .ok (.iconst 4, 1) := by decide +kernel
theorem dX1_crossingsAmong_6 : decode cX1_crossingsAmong 6 = .ok (.if_icmp .ge 57, 3) := by decide +kernel
theorem dX1_crossingsAmong_9 : decode cX1_crossingsAmong 9 = .ok (.iload_n 3, 1) := by decide +kernel
theorem dX1_crossingsAmong_10 : decode cX1_crossingsAmong 10 = .ok (.istore 4, 2) := by decide +kernel
theorem dX1_crossingsAmong_12 : decode cX1_crossingsAmong 12 = .ok (.iload 4, 2) := by decide +kernel
theorem dX1_crossingsAmong_14 : decode cX1_crossingsAmong 14 = .ok (.iconst 4, 1) := by decide +kernel
theorem dX1_crossingsAmong_15 : decode cX1_crossingsAmong 15 = .ok (.if_icmp .ge 42, 3) := by decide +kernel
theorem dX1_crossingsAmong_18 : decode cX1_crossingsAmong 18 = .ok (.iload_n 1, 1) := by decide +kernel
theorem dX1_crossingsAmong_19 : decode cX1_crossingsAmong 19 = .ok (.iload_n 3, 1) := by decide +kernel
theorem dX1_crossingsAmong_20 : decode cX1_crossingsAmong 20 = .ok (.ishr, 1) := by decide +kernel
theorem dX1_crossingsAmong_21 : decode cX1_crossingsAmong 21 = .ok (.iconst 1, 1) := by decide +kernel
theorem dX1_crossingsAmong_22 : decode cX1_crossingsAmong 22 = .ok (.iand, 1) := by decide +kernel
theorem dX1_crossingsAmong_23 : decode cX1_crossingsAmong 23 = .ok (.iconst 1, 1) := by decide +kernel
theorem dX1_crossingsAmong_24 : decode cX1_crossingsAmong 24 = .ok (.if_icmp .ne 27, 3) := by decide +kernel
theorem dX1_crossingsAmong_27 : decode cX1_crossingsAmong 27 = .ok (.iload_n 1, 1) := by decide +kernel
theorem dX1_crossingsAmong_28 : decode cX1_crossingsAmong 28 = .ok (.iload 4, 2) := by decide +kernel
theorem dX1_crossingsAmong_30 : decode cX1_crossingsAmong 30 = .ok (.ishr, 1) := by decide +kernel
theorem dX1_crossingsAmong_31 : decode cX1_crossingsAmong 31 = .ok (.iconst 1, 1) := by decide +kernel
theorem dX1_crossingsAmong_32 : decode cX1_crossingsAmong 32 = .ok (.iand, 1) := by decide +kernel
theorem dX1_crossingsAmong_33 : decode cX1_crossingsAmong 33 = .ok (.iconst 1, 1) := by decide +kernel
theorem dX1_crossingsAmong_34 : decode cX1_crossingsAmong 34 = .ok (.if_icmp .ne 17, 3) := by decide +kernel
theorem dX1_crossingsAmong_37 : decode cX1_crossingsAmong 37 = .ok (.iload_n 2, 1) := by decide +kernel
theorem dX1_crossingsAmong_38 : decode cX1_crossingsAmong 38 = .ok (.aload_n 0, 1) := by decide +kernel
theorem dX1_crossingsAmong_39 : decode cX1_crossingsAmong 39 = .ok (.getfield 9, 3) := by decide +kernel
theorem dX1_crossingsAmong_42 : decode cX1_crossingsAmong 42 = .ok (.iload_n 3, 1) := by decide +kernel
theorem dX1_crossingsAmong_43 : decode cX1_crossingsAmong 43 = .ok (.iconst 4, 1) := by decide +kernel
theorem dX1_crossingsAmong_44 : decode cX1_crossingsAmong 44 = .ok (.imul, 1) := by decide +kernel
theorem dX1_crossingsAmong_45 : decode cX1_crossingsAmong 45 = .ok (.iload 4, 2) := by decide +kernel
theorem dX1_crossingsAmong_47 : decode cX1_crossingsAmong 47 = .ok (.iadd, 1) := by decide +kernel
theorem dX1_crossingsAmong_48 : decode cX1_crossingsAmong 48 = .ok (.iaload, 1) := by decide +kernel
theorem dX1_crossingsAmong_49 : decode cX1_crossingsAmong 49 = .ok (.iadd, 1) := by decide +kernel
theorem dX1_crossingsAmong_50 : decode cX1_crossingsAmong 50 = .ok (.istore_n 2, 1) := by decide +kernel
theorem dX1_crossingsAmong_51 : decode cX1_crossingsAmong 51 = .ok (.iinc 4 1, 3) := by decide +kernel
theorem dX1_crossingsAmong_54 : decode cX1_crossingsAmong 54 = .ok (.goto (-42), 3) := by decide +kernel
theorem dX1_crossingsAmong_57 : decode cX1_crossingsAmong 57 = .ok (.iinc 3 1, 3) := by decide +kernel
theorem dX1_crossingsAmong_60 : decode cX1_crossingsAmong 60 = .ok (.goto (-56), 3) := by decide +kernel
theorem dX1_crossingsAmong_63 : decode cX1_crossingsAmong 63 = .ok (.iload_n 2, 1) := by decide +kernel
theorem dX1_crossingsAmong_64 : decode cX1_crossingsAmong 64 = .ok (.ireturn, 1) := by decide +kernel
theorem dX1_weightOf_0 : decode cX1_weightOf 0 = .ok (.iconst 1, 1) := by decide +kernel
theorem dX1_weightOf_1 : decode cX1_weightOf 1 = .ok (.istore_n 3, 1) := by decide +kernel
theorem dX1_weightOf_2 : decode cX1_weightOf 2 = .ok (.iconst 0, 1) := by decide +kernel
theorem dX1_weightOf_3 : decode cX1_weightOf 3 = .ok (.istore 4, 2) := by decide +kernel
theorem dX1_weightOf_5 : decode cX1_weightOf 5 = .ok (.iload 4, 2) := by decide +kernel
theorem dX1_weightOf_7 : decode cX1_weightOf 7 = .ok (.aload_n 0, 1) := by decide +kernel
theorem dX1_weightOf_8 : decode cX1_weightOf 8 = .ok (.invokevirtual 28, 3) := by decide +kernel
theorem dX1_weightOf_11 : decode cX1_weightOf 11 = .ok (.if_icmp .ge 30, 3) := by decide +kernel
theorem dX1_weightOf_14 : decode cX1_weightOf 14 = .ok (.iload_n 3, 1) := by decide +kernel
theorem dX1_weightOf_15 : decode cX1_weightOf 15 = .ok (.iload_n 1, 1) := by decide +kernel
theorem dX1_weightOf_16 : decode cX1_weightOf 16 = .ok (.iload 4, 2) := by decide +kernel
theorem dX1_weightOf_18 : decode cX1_weightOf 18 = .ok (.ishr, 1) := by decide +kernel
theorem dX1_weightOf_19 : decode cX1_weightOf 19 = .ok (.iconst 1, 1) := by decide +kernel
theorem dX1_weightOf_20 : decode cX1_weightOf 20 = .ok (.iand, 1) := by decide +kernel
theorem dX1_weightOf_21 : decode cX1_weightOf 21 = .ok (.iconst 1, 1) := by decide +kernel
theorem dX1_weightOf_22 : decode cX1_weightOf 22 = .ok (.if_icmp .ne 10, 3) := by decide +kernel
theorem dX1_weightOf_25 : decode cX1_weightOf 25 = .ok (.bipush 10, 2) := by decide +kernel
theorem dX1_weightOf_27 : decode cX1_weightOf 27 = .ok (.iload_n 2, 1) := by decide +kernel
theorem dX1_weightOf_28 : decode cX1_weightOf 28 = .ok (.isub, 1) := by decide +kernel
theorem dX1_weightOf_29 : decode cX1_weightOf 29 = .ok (.goto 4, 3) := by decide +kernel
theorem dX1_weightOf_32 : decode cX1_weightOf 32 = .ok (.iload_n 2, 1) := by decide +kernel
theorem dX1_weightOf_33 : decode cX1_weightOf 33 = .ok (.imul, 1) := by decide +kernel
theorem dX1_weightOf_34 : decode cX1_weightOf 34 = .ok (.istore_n 3, 1) := by decide +kernel
theorem dX1_weightOf_35 : decode cX1_weightOf 35 = .ok (.iinc 4 1, 3) := by decide +kernel
theorem dX1_weightOf_38 : decode cX1_weightOf 38 = .ok (.goto (-33), 3) := by decide +kernel
theorem dX1_weightOf_41 : decode cX1_weightOf 41 = .ok (.iload_n 3, 1) := by decide +kernel
theorem dX1_weightOf_42 : decode cX1_weightOf 42 = .ok (.ireturn, 1) := by decide +kernel
theorem dX1_drawnFrom_0 : decode cX1_drawnFrom 0 = .ok (.lload_n 0, 1) := by decide +kernel
theorem dX1_drawnFrom_1 : decode cX1_drawnFrom 1 = .ok (.ldc2_w 48, 3) := by decide +kernel
theorem dX1_drawnFrom_4 : decode cX1_drawnFrom 4 = .ok (.lmul, 1) := by decide +kernel
theorem dX1_drawnFrom_5 : decode cX1_drawnFrom 5 = .ok (.ldc2_w 50, 3) := by decide +kernel
theorem dX1_drawnFrom_8 : decode cX1_drawnFrom 8 = .ok (.ladd, 1) := by decide +kernel
theorem dX1_drawnFrom_9 : decode cX1_drawnFrom 9 = .ok (.lreturn, 1) := by decide +kernel
theorem dX1_liveYear_0 : decode cX1_liveYear 0 = .ok (.lload_n 1, 1) := by decide +kernel
theorem dX1_liveYear_1 : decode cX1_liveYear 1 = .ok (.bipush 33, 2) := by decide +kernel
theorem dX1_liveYear_3 : decode cX1_liveYear 3 = .ok (.lushr, 1) := by decide +kernel
theorem dX1_liveYear_4 : decode cX1_liveYear 4 = .ok (.ldc2_w 52, 3) := by decide +kernel
theorem dX1_liveYear_7 : decode cX1_liveYear 7 = .ok (.lrem, 1) := by decide +kernel
theorem dX1_liveYear_8 : decode cX1_liveYear 8 = .ok (.l2i, 1) := by decide +kernel
theorem dX1_liveYear_9 : decode cX1_liveYear 9 = .ok (.istore_n 3, 1) := by decide +kernel
theorem dX1_liveYear_10 : decode cX1_liveYear 10 = .ok (.iload_n 3, 1) := by decide +kernel
theorem dX1_liveYear_11 : decode cX1_liveYear 11 = .ok (.bipush 48, 2) := by decide +kernel
theorem dX1_liveYear_13 : decode cX1_liveYear 13 = .ok (.if_icmp .ge 19, 3) := by decide +kernel
theorem dX1_liveYear_16 : decode cX1_liveYear 16 = .ok (.aload_n 0, 1) := by decide +kernel
theorem dX1_liveYear_17 : decode cX1_liveYear 17 = .ok (.iload_n 3, 1) := by decide +kernel
theorem dX1_liveYear_18 : decode cX1_liveYear 18 = .ok (.bipush 12, 2) := by decide +kernel
theorem dX1_liveYear_20 : decode cX1_liveYear 20 = .ok (.idiv, 1) := by decide +kernel
theorem dX1_liveYear_21 : decode cX1_liveYear 21 = .ok (.iload_n 3, 1) := by decide +kernel
theorem dX1_liveYear_22 : decode cX1_liveYear 22 = .ok (.bipush 12, 2) := by decide +kernel
theorem dX1_liveYear_24 : decode cX1_liveYear 24 = .ok (.irem, 1) := by decide +kernel
theorem dX1_liveYear_25 : decode cX1_liveYear 25 = .ok (.invokestatic 54, 3) := by decide +kernel
theorem dX1_liveYear_28 : decode cX1_liveYear 28 = .ok (.pop, 1) := by decide +kernel
theorem dX1_liveYear_29 : decode cX1_liveYear 29 = .ok (.goto 56, 3) := by decide +kernel
theorem dX1_liveYear_32 : decode cX1_liveYear 32 = .ok (.iload_n 3, 1) := by decide +kernel
theorem dX1_liveYear_33 : decode cX1_liveYear 33 = .ok (.bipush 52, 2) := by decide +kernel
theorem dX1_liveYear_35 : decode cX1_liveYear 35 = .ok (.if_icmp .ge 15, 3) := by decide +kernel
theorem dX1_liveYear_38 : decode cX1_liveYear 38 = .ok (.aload_n 0, 1) := by decide +kernel
theorem dX1_liveYear_39 : decode cX1_liveYear 39 = .ok (.iload_n 3, 1) := by decide +kernel
theorem dX1_liveYear_40 : decode cX1_liveYear 40 = .ok (.bipush 48, 2) := by decide +kernel
theorem dX1_liveYear_42 : decode cX1_liveYear 42 = .ok (.isub, 1) := by decide +kernel
theorem dX1_liveYear_43 : decode cX1_liveYear 43 = .ok (.invokestatic 60, 3) := by decide +kernel
theorem dX1_liveYear_46 : decode cX1_liveYear 46 = .ok (.pop, 1) := by decide +kernel
theorem dX1_liveYear_47 : decode cX1_liveYear 47 = .ok (.goto 38, 3) := by decide +kernel
theorem dX1_liveYear_50 : decode cX1_liveYear 50 = .ok (.iload_n 3, 1) := by decide +kernel
theorem dX1_liveYear_51 : decode cX1_liveYear 51 = .ok (.bipush 54, 2) := by decide +kernel
theorem dX1_liveYear_53 : decode cX1_liveYear 53 = .ok (.if_icmp .ge 15, 3) := by decide +kernel
theorem dX1_liveYear_56 : decode cX1_liveYear 56 = .ok (.aload_n 0, 1) := by decide +kernel
theorem dX1_liveYear_57 : decode cX1_liveYear 57 = .ok (.iload_n 3, 1) := by decide +kernel
theorem dX1_liveYear_58 : decode cX1_liveYear 58 = .ok (.bipush 52, 2) := by decide +kernel
theorem dX1_liveYear_60 : decode cX1_liveYear 60 = .ok (.isub, 1) := by decide +kernel
theorem dX1_liveYear_61 : decode cX1_liveYear 61 = .ok (.invokestatic 64, 3) := by decide +kernel
theorem dX1_liveYear_64 : decode cX1_liveYear 64 = .ok (.pop, 1) := by decide +kernel
theorem dX1_liveYear_65 : decode cX1_liveYear 65 = .ok (.goto 20, 3) := by decide +kernel
theorem dX1_liveYear_68 : decode cX1_liveYear 68 = .ok (.iload_n 3, 1) := by decide +kernel
theorem dX1_liveYear_69 : decode cX1_liveYear 69 = .ok (.bipush 57, 2) := by decide +kernel
theorem dX1_liveYear_71 : decode cX1_liveYear 71 = .ok (.if_icmp .ge 10, 3) := by decide +kernel
theorem dX1_liveYear_74 : decode cX1_liveYear 74 = .ok (.aload_n 0, 1) := by decide +kernel
theorem dX1_liveYear_75 : decode cX1_liveYear 75 = .ok (.invokevirtual 67, 3) := by decide +kernel
theorem dX1_liveYear_78 : decode cX1_liveYear 78 = .ok (.goto 7, 3) := by decide +kernel
theorem dX1_liveYear_81 : decode cX1_liveYear 81 = .ok (.aload_n 0, 1) := by decide +kernel
theorem dX1_liveYear_82 : decode cX1_liveYear 82 = .ok (.invokevirtual 70, 3) := by decide +kernel
theorem dX1_liveYear_85 : decode cX1_liveYear 85 = .ok (.return_, 1) := by decide +kernel
theorem dX2_isTooLong_0 : decode cX2_isTooLong 0 = .ok (.iload_n 0, 1) := by decide +kernel
theorem dX2_isTooLong_1 : decode cX2_isTooLong 1 = .ok (.iconst 0, 1) := by decide +kernel
theorem dX2_isTooLong_2 : decode cX2_isTooLong 2 = .ok (.iconst 4, 1) := by decide +kernel
theorem dX2_isTooLong_3 : decode cX2_isTooLong 3 = .ok (.invokestatic 9, 3) := by decide +kernel
theorem dX2_isTooLong_6 : decode cX2_isTooLong 6 = .ok (.ifCond .ne 19, 3) := by decide +kernel
theorem dX2_isTooLong_9 : decode cX2_isTooLong 9 = .ok (.lload_n 1, 1) := by decide +kernel
theorem dX2_isTooLong_10 : decode cX2_isTooLong 10 = .ok (.lconst 0, 1) := by decide +kernel
theorem dX2_isTooLong_11 : decode cX2_isTooLong 11 = .ok (.lcmp, 1) := by decide +kernel
theorem dX2_isTooLong_12 : decode cX2_isTooLong 12 = .ok (.ifCond .lt 13, 3) := by decide +kernel
theorem dX2_isTooLong_15 : decode cX2_isTooLong 15 = .ok (.lload_n 1, 1) := by decide +kernel
theorem dX2_isTooLong_16 : decode cX2_isTooLong 16 = .ok (.getstatic 13, 3) := by decide +kernel
theorem dX2_isTooLong_19 : decode cX2_isTooLong 19 = .ok (.iload_n 0, 1) := by decide +kernel
theorem dX2_isTooLong_20 : decode cX2_isTooLong 20 = .ok (.laload, 1) := by decide +kernel
theorem dX2_isTooLong_21 : decode cX2_isTooLong 21 = .ok (.lcmp, 1) := by decide +kernel
theorem dX2_isTooLong_22 : decode cX2_isTooLong 22 = .ok (.ifCond .lt 7, 3) := by decide +kernel
theorem dX2_isTooLong_25 : decode cX2_isTooLong 25 = .ok (.iconst 1, 1) := by decide +kernel
theorem dX2_isTooLong_26 : decode cX2_isTooLong 26 = .ok (.goto 4, 3) := by decide +kernel
theorem dX2_isTooLong_29 : decode cX2_isTooLong 29 = .ok (.iconst 0, 1) := by decide +kernel
theorem dX2_isTooLong_30 : decode cX2_isTooLong 30 = .ok (.ireturn, 1) := by decide +kernel
theorem dX2_firstWrong_0 : decode cX2_firstWrong 0 = .ok (.iconst 0, 1) := by decide +kernel
theorem dX2_firstWrong_1 : decode cX2_firstWrong 1 = .ok (.istore 5, 2) := by decide +kernel
theorem dX2_firstWrong_3 : decode cX2_firstWrong 3 = .ok (.iload 5, 2) := by decide +kernel
theorem dX2_firstWrong_5 : decode cX2_firstWrong 5 = .ok (.iload_n 0, 1) := by decide +kernel
theorem dX2_firstWrong_6 : decode cX2_firstWrong 6 = .ok (.if_icmp .ge 47, 3) := by decide +kernel
theorem dX2_firstWrong_9 : decode cX2_firstWrong 9 = .ok (.iload 5, 2) := by decide +kernel
theorem dX2_firstWrong_11 : decode cX2_firstWrong 11 = .ok (.iconst 4, 1) := by decide +kernel
theorem dX2_firstWrong_12 : decode cX2_firstWrong 12 = .ok (.if_icmp .ge 41, 3) := by decide +kernel
theorem dX2_firstWrong_15 : decode cX2_firstWrong 15 = .ok (.lload_n 1, 1) := by decide +kernel
theorem dX2_firstWrong_16 : decode cX2_firstWrong 16 = .ok (.iload_n 0, 1) := by decide +kernel
theorem dX2_firstWrong_17 : decode cX2_firstWrong 17 = .ok (.iconst 1, 1) := by decide +kernel
theorem dX2_firstWrong_18 : decode cX2_firstWrong 18 = .ok (.isub, 1) := by decide +kernel
theorem dX2_firstWrong_19 : decode cX2_firstWrong 19 = .ok (.iload 5, 2) := by decide +kernel
theorem dX2_firstWrong_21 : decode cX2_firstWrong 21 = .ok (.isub, 1) := by decide +kernel
theorem dX2_firstWrong_22 : decode cX2_firstWrong 22 = .ok (.invokestatic 19, 3) := by decide +kernel
theorem dX2_firstWrong_25 : decode cX2_firstWrong 25 = .ok (.ldiv, 1) := by decide +kernel
theorem dX2_firstWrong_26 : decode cX2_firstWrong 26 = .ok (.ldc2_w 23, 3) := by decide +kernel
theorem dX2_firstWrong_29 : decode cX2_firstWrong 29 = .ok (.lrem, 1) := by decide +kernel
theorem dX2_firstWrong_30 : decode cX2_firstWrong 30 = .ok (.l2i, 1) := by decide +kernel
theorem dX2_firstWrong_31 : decode cX2_firstWrong 31 = .ok (.istore 6, 2) := by decide +kernel
theorem dX2_firstWrong_33 : decode cX2_firstWrong 33 = .ok (.iload 6, 2) := by decide +kernel
theorem dX2_firstWrong_35 : decode cX2_firstWrong 35 = .ok (.aload_n 3, 1) := by decide +kernel
theorem dX2_firstWrong_36 : decode cX2_firstWrong 36 = .ok (.aload 4, 2) := by decide +kernel
theorem dX2_firstWrong_38 : decode cX2_firstWrong 38 = .ok (.invokestatic 25, 3) := by decide +kernel
theorem dX2_firstWrong_41 : decode cX2_firstWrong 41 = .ok (.ifCond .ne 6, 3) := by decide +kernel
theorem dX2_firstWrong_44 : decode cX2_firstWrong 44 = .ok (.iload 5, 2) := by decide +kernel
theorem dX2_firstWrong_46 : decode cX2_firstWrong 46 = .ok (.ireturn, 1) := by decide +kernel
theorem dX2_firstWrong_47 : decode cX2_firstWrong 47 = .ok (.iinc 5 1, 3) := by decide +kernel
theorem dX2_firstWrong_50 : decode cX2_firstWrong 50 = .ok (.goto (-47), 3) := by decide +kernel
theorem dX2_firstWrong_53 : decode cX2_firstWrong 53 = .ok (.bipush (-9), 2) := by decide +kernel
theorem dX2_firstWrong_55 : decode cX2_firstWrong 55 = .ok (.ireturn, 1) := by decide +kernel
theorem dX2_powerAt_0 : decode cX2_powerAt 0 = .ok (.iload_n 0, 1) := by decide +kernel
theorem dX2_powerAt_1 : decode cX2_powerAt 1 = .ok (.iconst 0, 1) := by decide +kernel
theorem dX2_powerAt_2 : decode cX2_powerAt 2 = .ok (.iconst 4, 1) := by decide +kernel
theorem dX2_powerAt_3 : decode cX2_powerAt 3 = .ok (.invokestatic 9, 3) := by decide +kernel
theorem dX2_powerAt_6 : decode cX2_powerAt 6 = .ok (.ifCond .eq 7, 3) := by decide +kernel
theorem dX2_powerAt_9 : decode cX2_powerAt 9 = .ok (.lconst 1, 1) := by decide +kernel
theorem dX2_powerAt_10 : decode cX2_powerAt 10 = .ok (.goto 8, 3) := by decide +kernel
theorem dX2_powerAt_13 : decode cX2_powerAt 13 = .ok (.getstatic 13, 3) := by decide +kernel
theorem dX2_powerAt_16 : decode cX2_powerAt 16 = .ok (.iload_n 0, 1) := by decide +kernel
theorem dX2_powerAt_17 : decode cX2_powerAt 17 = .ok (.laload, 1) := by decide +kernel
theorem dX2_powerAt_18 : decode cX2_powerAt 18 = .ok (.lreturn, 1) := by decide +kernel
theorem dX2_comesTrue_0 : decode cX2_comesTrue 0 = .ok (.iload_n 0, 1) := by decide +kernel
theorem dX2_comesTrue_1 : decode cX2_comesTrue 1 = .ok (.sipush 1000, 3) := by decide +kernel
theorem dX2_comesTrue_4 : decode cX2_comesTrue 4 = .ok (.idiv, 1) := by decide +kernel
theorem dX2_comesTrue_5 : decode cX2_comesTrue 5 = .ok (.tableswitch 195 1 7 #[43, 59, 83, 107, 127, 147, 170], 43) := by decide +kernel
theorem dX2_comesTrue_48 : decode cX2_comesTrue 48 = .ok (.aload_n 1, 1) := by decide +kernel
theorem dX2_comesTrue_49 : decode cX2_comesTrue 49 = .ok (.iload_n 0, 1) := by decide +kernel
theorem dX2_comesTrue_50 : decode cX2_comesTrue 50 = .ok (.bipush 100, 2) := by decide +kernel
theorem dX2_comesTrue_52 : decode cX2_comesTrue 52 = .ok (.idiv, 1) := by decide +kernel
theorem dX2_comesTrue_53 : decode cX2_comesTrue 53 = .ok (.bipush 10, 2) := by decide +kernel
theorem dX2_comesTrue_55 : decode cX2_comesTrue 55 = .ok (.irem, 1) := by decide +kernel
theorem dX2_comesTrue_56 : decode cX2_comesTrue 56 = .ok (.iload_n 0, 1) := by decide +kernel
theorem dX2_comesTrue_57 : decode cX2_comesTrue 57 = .ok (.bipush 100, 2) := by decide +kernel
theorem dX2_comesTrue_59 : decode cX2_comesTrue 59 = .ok (.irem, 1) := by decide +kernel
theorem dX2_comesTrue_60 : decode cX2_comesTrue 60 = .ok (.invokestatic 29, 3) := by decide +kernel
theorem dX2_comesTrue_63 : decode cX2_comesTrue 63 = .ok (.ireturn, 1) := by decide +kernel
theorem dX2_comesTrue_64 : decode cX2_comesTrue 64 = .ok (.iload_n 0, 1) := by decide +kernel
theorem dX2_comesTrue_65 : decode cX2_comesTrue 65 = .ok (.sipush 2010, 3) := by decide +kernel
theorem dX2_comesTrue_68 : decode cX2_comesTrue 68 = .ok (.if_icmp .ge 18, 3) := by decide +kernel
theorem dX2_comesTrue_71 : decode cX2_comesTrue 71 = .ok (.aload_n 1, 1) := by decide +kernel
theorem dX2_comesTrue_72 : decode cX2_comesTrue 72 = .ok (.iload_n 0, 1) := by decide +kernel
theorem dX2_comesTrue_73 : decode cX2_comesTrue 73 = .ok (.bipush 10, 2) := by decide +kernel
theorem dX2_comesTrue_75 : decode cX2_comesTrue 75 = .ok (.irem, 1) := by decide +kernel
theorem dX2_comesTrue_76 : decode cX2_comesTrue 76 = .ok (.invokestatic 33, 3) := by decide +kernel
theorem dX2_comesTrue_79 : decode cX2_comesTrue 79 = .ok (.ifCond .eq 7, 3) := by decide +kernel
theorem dX2_comesTrue_82 : decode cX2_comesTrue 82 = .ok (.iconst 1, 1) := by decide +kernel
theorem dX2_comesTrue_83 : decode cX2_comesTrue 83 = .ok (.goto 4, 3) := by decide +kernel
theorem dX2_comesTrue_86 : decode cX2_comesTrue 86 = .ok (.iconst 0, 1) := by decide +kernel
theorem dX2_comesTrue_87 : decode cX2_comesTrue 87 = .ok (.ireturn, 1) := by decide +kernel
theorem dX2_comesTrue_88 : decode cX2_comesTrue 88 = .ok (.iload_n 0, 1) := by decide +kernel
theorem dX2_comesTrue_89 : decode cX2_comesTrue 89 = .ok (.sipush 3010, 3) := by decide +kernel
theorem dX2_comesTrue_92 : decode cX2_comesTrue 92 = .ok (.if_icmp .ge 18, 3) := by decide +kernel
theorem dX2_comesTrue_95 : decode cX2_comesTrue 95 = .ok (.aload_n 1, 1) := by decide +kernel
theorem dX2_comesTrue_96 : decode cX2_comesTrue 96 = .ok (.iload_n 0, 1) := by decide +kernel
theorem dX2_comesTrue_97 : decode cX2_comesTrue 97 = .ok (.bipush 10, 2) := by decide +kernel
theorem dX2_comesTrue_99 : decode cX2_comesTrue 99 = .ok (.irem, 1) := by decide +kernel
theorem dX2_comesTrue_100 : decode cX2_comesTrue 100 = .ok (.invokestatic 37, 3) := by decide +kernel
theorem dX2_comesTrue_103 : decode cX2_comesTrue 103 = .ok (.ifCond .eq 7, 3) := by decide +kernel
theorem dX2_comesTrue_106 : decode cX2_comesTrue 106 = .ok (.iconst 1, 1) := by decide +kernel
theorem dX2_comesTrue_107 : decode cX2_comesTrue 107 = .ok (.goto 4, 3) := by decide +kernel
theorem dX2_comesTrue_110 : decode cX2_comesTrue 110 = .ok (.iconst 0, 1) := by decide +kernel
theorem dX2_comesTrue_111 : decode cX2_comesTrue 111 = .ok (.ireturn, 1) := by decide +kernel
theorem dX2_comesTrue_112 : decode cX2_comesTrue 112 = .ok (.iload_n 0, 1) := by decide +kernel
theorem dX2_comesTrue_113 : decode cX2_comesTrue 113 = .ok (.sipush 4000, 3) := by decide +kernel
theorem dX2_comesTrue_116 : decode cX2_comesTrue 116 = .ok (.if_icmp .ne 14, 3) := by decide +kernel
theorem dX2_comesTrue_119 : decode cX2_comesTrue 119 = .ok (.aload_n 1, 1) := by decide +kernel
theorem dX2_comesTrue_120 : decode cX2_comesTrue 120 = .ok (.invokestatic 40, 3) := by decide +kernel
theorem dX2_comesTrue_123 : decode cX2_comesTrue 123 = .ok (.ifCond .eq 7, 3) := by decide +kernel
theorem dX2_comesTrue_126 : decode cX2_comesTrue 126 = .ok (.iconst 1, 1) := by decide +kernel
theorem dX2_comesTrue_127 : decode cX2_comesTrue 127 = .ok (.goto 4, 3) := by decide +kernel
theorem dX2_comesTrue_130 : decode cX2_comesTrue 130 = .ok (.iconst 0, 1) := by decide +kernel
theorem dX2_comesTrue_131 : decode cX2_comesTrue 131 = .ok (.ireturn, 1) := by decide +kernel
theorem dX2_comesTrue_132 : decode cX2_comesTrue 132 = .ok (.iload_n 0, 1) := by decide +kernel
theorem dX2_comesTrue_133 : decode cX2_comesTrue 133 = .ok (.sipush 5000, 3) := by decide +kernel
theorem dX2_comesTrue_136 : decode cX2_comesTrue 136 = .ok (.if_icmp .ne 14, 3) := by decide +kernel
theorem dX2_comesTrue_139 : decode cX2_comesTrue 139 = .ok (.aload_n 1, 1) := by decide +kernel
theorem dX2_comesTrue_140 : decode cX2_comesTrue 140 = .ok (.invokestatic 44, 3) := by decide +kernel
theorem dX2_comesTrue_143 : decode cX2_comesTrue 143 = .ok (.ifCond .eq 7, 3) := by decide +kernel
theorem dX2_comesTrue_146 : decode cX2_comesTrue 146 = .ok (.iconst 1, 1) := by decide +kernel
theorem dX2_comesTrue_147 : decode cX2_comesTrue 147 = .ok (.goto 4, 3) := by decide +kernel
theorem dX2_comesTrue_150 : decode cX2_comesTrue 150 = .ok (.iconst 0, 1) := by decide +kernel
theorem dX2_comesTrue_151 : decode cX2_comesTrue 151 = .ok (.ireturn, 1) := by decide +kernel
theorem dX2_comesTrue_152 : decode cX2_comesTrue 152 = .ok (.aload_n 1, 1) := by decide +kernel
theorem dX2_comesTrue_153 : decode cX2_comesTrue 153 = .ok (.iload_n 0, 1) := by decide +kernel
theorem dX2_comesTrue_154 : decode cX2_comesTrue 154 = .ok (.bipush 100, 2) := by decide +kernel
theorem dX2_comesTrue_156 : decode cX2_comesTrue 156 = .ok (.idiv, 1) := by decide +kernel
theorem dX2_comesTrue_157 : decode cX2_comesTrue 157 = .ok (.bipush 10, 2) := by decide +kernel
theorem dX2_comesTrue_159 : decode cX2_comesTrue 159 = .ok (.irem, 1) := by decide +kernel
theorem dX2_comesTrue_160 : decode cX2_comesTrue 160 = .ok (.iload_n 0, 1) := by decide +kernel
theorem dX2_comesTrue_161 : decode cX2_comesTrue 161 = .ok (.bipush 10, 2) := by decide +kernel
theorem dX2_comesTrue_163 : decode cX2_comesTrue 163 = .ok (.idiv, 1) := by decide +kernel
theorem dX2_comesTrue_164 : decode cX2_comesTrue 164 = .ok (.bipush 10, 2) := by decide +kernel
theorem dX2_comesTrue_166 : decode cX2_comesTrue 166 = .ok (.irem, 1) := by decide +kernel
theorem dX2_comesTrue_167 : decode cX2_comesTrue 167 = .ok (.iload_n 0, 1) := by decide +kernel
theorem dX2_comesTrue_168 : decode cX2_comesTrue 168 = .ok (.bipush 10, 2) := by decide +kernel
theorem dX2_comesTrue_170 : decode cX2_comesTrue 170 = .ok (.irem, 1) := by decide +kernel
theorem dX2_comesTrue_171 : decode cX2_comesTrue 171 = .ok (.invokestatic 47, 3) := by decide +kernel
theorem dX2_comesTrue_174 : decode cX2_comesTrue 174 = .ok (.ireturn, 1) := by decide +kernel
theorem dX2_comesTrue_175 : decode cX2_comesTrue 175 = .ok (.iload_n 0, 1) := by decide +kernel
theorem dX2_comesTrue_176 : decode cX2_comesTrue 176 = .ok (.sipush 7100, 3) := by decide +kernel
theorem dX2_comesTrue_179 : decode cX2_comesTrue 179 = .ok (.if_icmp .ge 19, 3) := by decide +kernel
theorem dX2_comesTrue_182 : decode cX2_comesTrue 182 = .ok (.aload_n 2, 1) := by decide +kernel
theorem dX2_comesTrue_183 : decode cX2_comesTrue 183 = .ok (.aload_n 1, 1) := by decide +kernel
theorem dX2_comesTrue_184 : decode cX2_comesTrue 184 = .ok (.invokevirtual 51, 3) := by decide +kernel
theorem dX2_comesTrue_187 : decode cX2_comesTrue 187 = .ok (.iload_n 0, 1) := by decide +kernel
theorem dX2_comesTrue_188 : decode cX2_comesTrue 188 = .ok (.bipush 100, 2) := by decide +kernel
theorem dX2_comesTrue_190 : decode cX2_comesTrue 190 = .ok (.irem, 1) := by decide +kernel
theorem dX2_comesTrue_191 : decode cX2_comesTrue 191 = .ok (.if_icmp .lt 7, 3) := by decide +kernel
theorem dX2_comesTrue_194 : decode cX2_comesTrue 194 = .ok (.iconst 1, 1) := by decide +kernel
theorem dX2_comesTrue_195 : decode cX2_comesTrue 195 = .ok (.goto 4, 3) := by decide +kernel
theorem dX2_comesTrue_198 : decode cX2_comesTrue 198 = .ok (.iconst 0, 1) := by decide +kernel
theorem dX2_comesTrue_199 : decode cX2_comesTrue 199 = .ok (.ireturn, 1) := by decide +kernel
theorem dX2_comesTrue_200 : decode cX2_comesTrue 200 = .ok (.iconst 0, 1) := by decide +kernel
theorem dX2_comesTrue_201 : decode cX2_comesTrue 201 = .ok (.ireturn, 1) := by decide +kernel
theorem dX2_winds_0 : decode cX2_winds 0 = .ok (.aload_n 0, 1) := by decide +kernel
theorem dX2_winds_1 : decode cX2_winds 1 = .ok (.iload_n 1, 1) := by decide +kernel
theorem dX2_winds_2 : decode cX2_winds 2 = .ok (.iload_n 2, 1) := by decide +kernel
theorem dX2_winds_3 : decode cX2_winds 3 = .ok (.invokevirtual 57, 3) := by decide +kernel
theorem dX2_winds_6 : decode cX2_winds 6 = .ok (.ifCond .ne 5, 3) := by decide +kernel
theorem dX2_winds_9 : decode cX2_winds 9 = .ok (.iconst 0, 1) := by decide +kernel
theorem dX2_winds_10 : decode cX2_winds 10 = .ok (.ireturn, 1) := by decide +kernel
theorem dX2_winds_11 : decode cX2_winds 11 = .ok (.aload_n 0, 1) := by decide +kernel
theorem dX2_winds_12 : decode cX2_winds 12 = .ok (.iload_n 1, 1) := by decide +kernel
theorem dX2_winds_13 : decode cX2_winds 13 = .ok (.iload_n 2, 1) := by decide +kernel
theorem dX2_winds_14 : decode cX2_winds 14 = .ok (.invokevirtual 63, 3) := by decide +kernel
theorem dX2_winds_17 : decode cX2_winds 17 = .ok (.pop, 1) := by decide +kernel
theorem dX2_winds_18 : decode cX2_winds 18 = .ok (.iconst 1, 1) := by decide +kernel
theorem dX2_winds_19 : decode cX2_winds 19 = .ok (.ireturn, 1) := by decide +kernel
theorem dX2_unwinds_0 : decode cX2_unwinds 0 = .ok (.aload_n 0, 1) := by decide +kernel
theorem dX2_unwinds_1 : decode cX2_unwinds 1 = .ok (.iload_n 1, 1) := by decide +kernel
theorem dX2_unwinds_2 : decode cX2_unwinds 2 = .ok (.invokevirtual 67, 3) := by decide +kernel
theorem dX2_unwinds_5 : decode cX2_unwinds 5 = .ok (.ifCond .ne 5, 3) := by decide +kernel
theorem dX2_unwinds_8 : decode cX2_unwinds 8 = .ok (.iconst 0, 1) := by decide +kernel
theorem dX2_unwinds_9 : decode cX2_unwinds 9 = .ok (.ireturn, 1) := by decide +kernel
theorem dX2_unwinds_10 : decode cX2_unwinds 10 = .ok (.aload_n 0, 1) := by decide +kernel
theorem dX2_unwinds_11 : decode cX2_unwinds 11 = .ok (.iload_n 1, 1) := by decide +kernel
theorem dX2_unwinds_12 : decode cX2_unwinds 12 = .ok (.invokevirtual 71, 3) := by decide +kernel
theorem dX2_unwinds_15 : decode cX2_unwinds 15 = .ok (.pop, 1) := by decide +kernel
theorem dX2_unwinds_16 : decode cX2_unwinds 16 = .ok (.iconst 1, 1) := by decide +kernel
theorem dX2_unwinds_17 : decode cX2_unwinds 17 = .ok (.ireturn, 1) := by decide +kernel
theorem dX2_cuts_0 : decode cX2_cuts 0 = .ok (.aload_n 0, 1) := by decide +kernel
theorem dX2_cuts_1 : decode cX2_cuts 1 = .ok (.iload_n 1, 1) := by decide +kernel
theorem dX2_cuts_2 : decode cX2_cuts 2 = .ok (.invokevirtual 75, 3) := by decide +kernel
theorem dX2_cuts_5 : decode cX2_cuts 5 = .ok (.ifCond .ne 5, 3) := by decide +kernel
theorem dX2_cuts_8 : decode cX2_cuts 8 = .ok (.iconst 0, 1) := by decide +kernel
theorem dX2_cuts_9 : decode cX2_cuts 9 = .ok (.ireturn, 1) := by decide +kernel
theorem dX2_cuts_10 : decode cX2_cuts 10 = .ok (.aload_n 0, 1) := by decide +kernel
theorem dX2_cuts_11 : decode cX2_cuts 11 = .ok (.iload_n 1, 1) := by decide +kernel
theorem dX2_cuts_12 : decode cX2_cuts 12 = .ok (.invokevirtual 78, 3) := by decide +kernel
theorem dX2_cuts_15 : decode cX2_cuts 15 = .ok (.pop, 1) := by decide +kernel
theorem dX2_cuts_16 : decode cX2_cuts 16 = .ok (.iconst 1, 1) := by decide +kernel
theorem dX2_cuts_17 : decode cX2_cuts 17 = .ok (.ireturn, 1) := by decide +kernel
theorem dX2_turns_0 : decode cX2_turns 0 = .ok (.aload_n 0, 1) := by decide +kernel
theorem dX2_turns_1 : decode cX2_turns 1 = .ok (.invokevirtual 81, 3) := by decide +kernel
theorem dX2_turns_4 : decode cX2_turns 4 = .ok (.iconst 1, 1) := by decide +kernel
theorem dX2_turns_5 : decode cX2_turns 5 = .ok (.ireturn, 1) := by decide +kernel
theorem dX2_turnsOver_0 : decode cX2_turnsOver 0 = .ok (.aload_n 0, 1) := by decide +kernel
theorem dX2_turnsOver_1 : decode cX2_turnsOver 1 = .ok (.invokevirtual 84, 3) := by decide +kernel
theorem dX2_turnsOver_4 : decode cX2_turnsOver 4 = .ok (.iconst 1, 1) := by decide +kernel
theorem dX2_turnsOver_5 : decode cX2_turnsOver 5 = .ok (.ireturn, 1) := by decide +kernel
theorem dX2_doCross_0 : decode cX2_doCross 0 = .ok (.aload_n 0, 1) := by decide +kernel
theorem dX2_doCross_1 : decode cX2_doCross 1 = .ok (.iload_n 1, 1) := by decide +kernel
theorem dX2_doCross_2 : decode cX2_doCross 2 = .ok (.invokevirtual 87, 3) := by decide +kernel
theorem dX2_doCross_5 : decode cX2_doCross 5 = .ok (.ifCond .eq 25, 3) := by decide +kernel
theorem dX2_doCross_8 : decode cX2_doCross 8 = .ok (.aload_n 0, 1) := by decide +kernel
theorem dX2_doCross_9 : decode cX2_doCross 9 = .ok (.iload_n 2, 1) := by decide +kernel
theorem dX2_doCross_10 : decode cX2_doCross 10 = .ok (.invokevirtual 87, 3) := by decide +kernel
theorem dX2_doCross_13 : decode cX2_doCross 13 = .ok (.ifCond .eq 17, 3) := by decide +kernel
theorem dX2_doCross_16 : decode cX2_doCross 16 = .ok (.aload_n 0, 1) := by decide +kernel
theorem dX2_doCross_17 : decode cX2_doCross 17 = .ok (.iload_n 1, 1) := by decide +kernel
theorem dX2_doCross_18 : decode cX2_doCross 18 = .ok (.iload_n 2, 1) := by decide +kernel
theorem dX2_doCross_19 : decode cX2_doCross 19 = .ok (.invokevirtual 90, 3) := by decide +kernel
theorem dX2_doCross_22 : decode cX2_doCross 22 = .ok (.iload_n 3, 1) := by decide +kernel
theorem dX2_doCross_23 : decode cX2_doCross 23 = .ok (.if_icmp .lt 7, 3) := by decide +kernel
theorem dX2_doCross_26 : decode cX2_doCross 26 = .ok (.iconst 1, 1) := by decide +kernel
theorem dX2_doCross_27 : decode cX2_doCross 27 = .ok (.goto 4, 3) := by decide +kernel
theorem dX2_doCross_30 : decode cX2_doCross 30 = .ok (.iconst 0, 1) := by decide +kernel
theorem dX2_doCross_31 : decode cX2_doCross 31 = .ok (.ireturn, 1) := by decide +kernel
theorem dX3_init_0 : decode cX3_init 0 = .ok (.aload_n 0, 1) := by decide +kernel
theorem dX3_init_1 : decode cX3_init 1 = .ok (.invokespecial 3, 3) := by decide +kernel
theorem dX3_init_4 : decode cX3_init 4 = .ok (.aload_n 0, 1) := by decide +kernel
theorem dX3_init_5 : decode cX3_init 5 = .ok (.bipush 14, 2) := by decide +kernel
theorem dX3_init_7 : decode cX3_init 7 = .ok (.anewarray 9, 3) := by decide +kernel
theorem dX3_init_10 : decode cX3_init 10 = .ok (.putfield 11, 3) := by decide +kernel
theorem dX3_init_13 : decode cX3_init 13 = .ok (.iconst 0, 1) := by decide +kernel
theorem dX3_init_14 : decode cX3_init 14 = .ok (.istore_n 1, 1) := by decide +kernel
theorem dX3_init_15 : decode cX3_init 15 = .ok (.iload_n 1, 1) := by decide +kernel
theorem dX3_init_16 : decode cX3_init 16 = .ok (.bipush 14, 2) := by decide +kernel
theorem dX3_init_18 : decode cX3_init 18 = .ok (.if_icmp .ge 22, 3) := by decide +kernel
theorem dX3_init_21 : decode cX3_init 21 = .ok (.aload_n 0, 1) := by decide +kernel
theorem dX3_init_22 : decode cX3_init 22 = .ok (.getfield 11, 3) := by decide +kernel
theorem dX3_init_25 : decode cX3_init 25 = .ok (.iload_n 1, 1) := by decide +kernel
theorem dX3_init_26 : decode cX3_init 26 = .ok (.new 9, 3) := by decide +kernel
theorem dX3_init_29 : decode cX3_init 29 = .ok (.dup, 1) := by decide +kernel
theorem dX3_init_30 : decode cX3_init 30 = .ok (.invokespecial 17, 3) := by decide +kernel
theorem dX3_init_33 : decode cX3_init 33 = .ok (.aastore, 1) := by decide +kernel
theorem dX3_init_34 : decode cX3_init 34 = .ok (.iinc 1 1, 3) := by decide +kernel
theorem dX3_init_37 : decode cX3_init 37 = .ok (.goto (-22), 3) := by decide +kernel
theorem dX3_init_40 : decode cX3_init 40 = .ok (.aload_n 0, 1) := by decide +kernel
theorem dX3_init_41 : decode cX3_init 41 = .ok (.iconst 0, 1) := by decide +kernel
theorem dX3_init_42 : decode cX3_init 42 = .ok (.putfield 18, 3) := by decide +kernel
theorem dX3_init_45 : decode cX3_init 45 = .ok (.aload_n 0, 1) := by decide +kernel
theorem dX3_init_46 : decode cX3_init 46 = .ok (.iconst 0, 1) := by decide +kernel
theorem dX3_init_47 : decode cX3_init 47 = .ok (.putfield 22, 3) := by decide +kernel
theorem dX3_init_50 : decode cX3_init 50 = .ok (.return_, 1) := by decide +kernel
theorem dX3_size_0 : decode cX3_size 0 = .ok (.aload_n 0, 1) := by decide +kernel
theorem dX3_size_1 : decode cX3_size 1 = .ok (.getfield 22, 3) := by decide +kernel
theorem dX3_size_4 : decode cX3_size 4 = .ok (.ireturn, 1) := by decide +kernel
theorem dX3_clear_0 : decode cX3_clear 0 = .ok (.aload_n 0, 1) := by decide +kernel
theorem dX3_clear_1 : decode cX3_clear 1 = .ok (.iconst 0, 1) := by decide +kernel
theorem dX3_clear_2 : decode cX3_clear 2 = .ok (.putfield 18, 3) := by decide +kernel
theorem dX3_clear_5 : decode cX3_clear 5 = .ok (.aload_n 0, 1) := by decide +kernel
theorem dX3_clear_6 : decode cX3_clear 6 = .ok (.iconst 0, 1) := by decide +kernel
theorem dX3_clear_7 : decode cX3_clear 7 = .ok (.putfield 22, 3) := by decide +kernel
theorem dX3_clear_10 : decode cX3_clear 10 = .ok (.return_, 1) := by decide +kernel
theorem dX3_add_0 : decode cX3_add 0 = .ok (.aload_n 0, 1) := by decide +kernel
theorem dX3_add_1 : decode cX3_add 1 = .ok (.getfield 22, 3) := by decide +kernel
theorem dX3_add_4 : decode cX3_add 4 = .ok (.bipush 14, 2) := by decide +kernel
theorem dX3_add_6 : decode cX3_add 6 = .ok (.if_icmp .lt 26, 3) := by decide +kernel
theorem dX3_add_9 : decode cX3_add 9 = .ok (.aload_n 0, 1) := by decide +kernel
theorem dX3_add_10 : decode cX3_add 10 = .ok (.aload_n 0, 1) := by decide +kernel
theorem dX3_add_11 : decode cX3_add 11 = .ok (.getfield 18, 3) := by decide +kernel
theorem dX3_add_14 : decode cX3_add 14 = .ok (.iconst 1, 1) := by decide +kernel
theorem dX3_add_15 : decode cX3_add 15 = .ok (.iadd, 1) := by decide +kernel
theorem dX3_add_16 : decode cX3_add 16 = .ok (.bipush 14, 2) := by decide +kernel
theorem dX3_add_18 : decode cX3_add 18 = .ok (.irem, 1) := by decide +kernel
theorem dX3_add_19 : decode cX3_add 19 = .ok (.putfield 18, 3) := by decide +kernel
theorem dX3_add_22 : decode cX3_add 22 = .ok (.aload_n 0, 1) := by decide +kernel
theorem dX3_add_23 : decode cX3_add 23 = .ok (.dup, 1) := by decide +kernel
theorem dX3_add_24 : decode cX3_add 24 = .ok (.getfield 22, 3) := by decide +kernel
theorem dX3_add_27 : decode cX3_add 27 = .ok (.iconst 1, 1) := by decide +kernel
theorem dX3_add_28 : decode cX3_add 28 = .ok (.isub, 1) := by decide +kernel
theorem dX3_add_29 : decode cX3_add 29 = .ok (.putfield 22, 3) := by decide +kernel
theorem dX3_add_32 : decode cX3_add 32 = .ok (.aload_n 0, 1) := by decide +kernel
theorem dX3_add_33 : decode cX3_add 33 = .ok (.getfield 11, 3) := by decide +kernel
theorem dX3_add_36 : decode cX3_add 36 = .ok (.aload_n 0, 1) := by decide +kernel
theorem dX3_add_37 : decode cX3_add 37 = .ok (.getfield 18, 3) := by decide +kernel
theorem dX3_add_40 : decode cX3_add 40 = .ok (.aload_n 0, 1) := by decide +kernel
theorem dX3_add_41 : decode cX3_add 41 = .ok (.getfield 22, 3) := by decide +kernel
theorem dX3_add_44 : decode cX3_add 44 = .ok (.iadd, 1) := by decide +kernel
theorem dX3_add_45 : decode cX3_add 45 = .ok (.bipush 14, 2) := by decide +kernel
theorem dX3_add_47 : decode cX3_add 47 = .ok (.irem, 1) := by decide +kernel
theorem dX3_add_48 : decode cX3_add 48 = .ok (.aaload, 1) := by decide +kernel
theorem dX3_add_49 : decode cX3_add 49 = .ok (.aload_n 1, 1) := by decide +kernel
theorem dX3_add_50 : decode cX3_add 50 = .ok (.invokevirtual 25, 3) := by decide +kernel
theorem dX3_add_53 : decode cX3_add 53 = .ok (.aload_n 0, 1) := by decide +kernel
theorem dX3_add_54 : decode cX3_add 54 = .ok (.dup, 1) := by decide +kernel
theorem dX3_add_55 : decode cX3_add 55 = .ok (.getfield 22, 3) := by decide +kernel
theorem dX3_add_58 : decode cX3_add 58 = .ok (.iconst 1, 1) := by decide +kernel
theorem dX3_add_59 : decode cX3_add 59 = .ok (.iadd, 1) := by decide +kernel
theorem dX3_add_60 : decode cX3_add 60 = .ok (.putfield 22, 3) := by decide +kernel
theorem dX3_add_63 : decode cX3_add 63 = .ok (.return_, 1) := by decide +kernel
theorem dX3_takeBack_0 : decode cX3_takeBack 0 = .ok (.aload_n 0, 1) := by decide +kernel
theorem dX3_takeBack_1 : decode cX3_takeBack 1 = .ok (.getfield 22, 3) := by decide +kernel
theorem dX3_takeBack_4 : decode cX3_takeBack 4 = .ok (.ifCond .gt 5, 3) := by decide +kernel
theorem dX3_takeBack_7 : decode cX3_takeBack 7 = .ok (.iconst 0, 1) := by decide +kernel
theorem dX3_takeBack_8 : decode cX3_takeBack 8 = .ok (.ireturn, 1) := by decide +kernel
theorem dX3_takeBack_9 : decode cX3_takeBack 9 = .ok (.aload_n 0, 1) := by decide +kernel
theorem dX3_takeBack_10 : decode cX3_takeBack 10 = .ok (.dup, 1) := by decide +kernel
theorem dX3_takeBack_11 : decode cX3_takeBack 11 = .ok (.getfield 22, 3) := by decide +kernel
theorem dX3_takeBack_14 : decode cX3_takeBack 14 = .ok (.iconst 1, 1) := by decide +kernel
theorem dX3_takeBack_15 : decode cX3_takeBack 15 = .ok (.isub, 1) := by decide +kernel
theorem dX3_takeBack_16 : decode cX3_takeBack 16 = .ok (.putfield 22, 3) := by decide +kernel
theorem dX3_takeBack_19 : decode cX3_takeBack 19 = .ok (.aload_n 1, 1) := by decide +kernel
theorem dX3_takeBack_20 : decode cX3_takeBack 20 = .ok (.aload_n 0, 1) := by decide +kernel
theorem dX3_takeBack_21 : decode cX3_takeBack 21 = .ok (.getfield 11, 3) := by decide +kernel
theorem dX3_takeBack_24 : decode cX3_takeBack 24 = .ok (.aload_n 0, 1) := by decide +kernel
theorem dX3_takeBack_25 : decode cX3_takeBack 25 = .ok (.getfield 18, 3) := by decide +kernel
theorem dX3_takeBack_28 : decode cX3_takeBack 28 = .ok (.aload_n 0, 1) := by decide +kernel
theorem dX3_takeBack_29 : decode cX3_takeBack 29 = .ok (.getfield 22, 3) := by decide +kernel
theorem dX3_takeBack_32 : decode cX3_takeBack 32 = .ok (.iadd, 1) := by decide +kernel
theorem dX3_takeBack_33 : decode cX3_takeBack 33 = .ok (.bipush 14, 2) := by decide +kernel
theorem dX3_takeBack_35 : decode cX3_takeBack 35 = .ok (.irem, 1) := by decide +kernel
theorem dX3_takeBack_36 : decode cX3_takeBack 36 = .ok (.aaload, 1) := by decide +kernel
theorem dX3_takeBack_37 : decode cX3_takeBack 37 = .ok (.invokevirtual 25, 3) := by decide +kernel
theorem dX3_takeBack_40 : decode cX3_takeBack 40 = .ok (.iconst 1, 1) := by decide +kernel
theorem dX3_takeBack_41 : decode cX3_takeBack 41 = .ok (.ireturn, 1) := by decide +kernel
theorem dX4_init_0 : decode cX4_init 0 = .ok (.aload_n 0, 1) := by decide +kernel
theorem dX4_init_1 : decode cX4_init 1 = .ok (.invokespecial 3, 3) := by decide +kernel
theorem dX4_init_4 : decode cX4_init 4 = .ok (.aload_n 0, 1) := by decide +kernel
theorem dX4_init_5 : decode cX4_init 5 = .ok (.iconst 4, 1) := by decide +kernel
theorem dX4_init_6 : decode cX4_init 6 = .ok (.newarray .int, 2) := by decide +kernel
theorem dX4_init_8 : decode cX4_init 8 = .ok (.putfield 11, 3) := by decide +kernel
theorem dX4_init_11 : decode cX4_init 11 = .ok (.aload_n 0, 1) := by decide +kernel
theorem dX4_init_12 : decode cX4_init 12 = .ok (.iconst 4, 1) := by decide +kernel
theorem dX4_init_13 : decode cX4_init 13 = .ok (.newarray .int, 2) := by decide +kernel
theorem dX4_init_15 : decode cX4_init 15 = .ok (.putfield 15, 3) := by decide +kernel
theorem dX4_init_18 : decode cX4_init 18 = .ok (.return_, 1) := by decide +kernel
theorem dX4_tryAll_0 : decode cX4_tryAll 0 = .ok (.iconst 0, 1) := by decide +kernel
theorem dX4_tryAll_1 : decode cX4_tryAll 1 = .ok (.istore 5, 2) := by decide +kernel
theorem dX4_tryAll_3 : decode cX4_tryAll 3 = .ok (.iload 5, 2) := by decide +kernel
theorem dX4_tryAll_5 : decode cX4_tryAll 5 = .ok (.iconst 4, 1) := by decide +kernel
theorem dX4_tryAll_6 : decode cX4_tryAll 6 = .ok (.if_icmp .ge 62, 3) := by decide +kernel
theorem dX4_tryAll_9 : decode cX4_tryAll 9 = .ok (.aload_n 2, 1) := by decide +kernel
theorem dX4_tryAll_10 : decode cX4_tryAll 10 = .ok (.aload_n 1, 1) := by decide +kernel
theorem dX4_tryAll_11 : decode cX4_tryAll 11 = .ok (.invokevirtual 18, 3) := by decide +kernel
theorem dX4_tryAll_14 : decode cX4_tryAll 14 = .ok (.aload_n 2, 1) := by decide +kernel
theorem dX4_tryAll_15 : decode cX4_tryAll 15 = .ok (.iload_n 3, 1) := by decide +kernel
theorem dX4_tryAll_16 : decode cX4_tryAll 16 = .ok (.iconst 5, 1) := by decide +kernel
theorem dX4_tryAll_17 : decode cX4_tryAll 17 = .ok (.iload 5, 2) := by decide +kernel
theorem dX4_tryAll_19 : decode cX4_tryAll 19 = .ok (.iconst 2, 1) := by decide +kernel
theorem dX4_tryAll_20 : decode cX4_tryAll 20 = .ok (.idiv, 1) := by decide +kernel
theorem dX4_tryAll_21 : decode cX4_tryAll 21 = .ok (.invokevirtual 24, 3) := by decide +kernel
theorem dX4_tryAll_24 : decode cX4_tryAll 24 = .ok (.pop, 1) := by decide +kernel
theorem dX4_tryAll_25 : decode cX4_tryAll 25 = .ok (.aload_n 2, 1) := by decide +kernel
theorem dX4_tryAll_26 : decode cX4_tryAll 26 = .ok (.iload 4, 2) := by decide +kernel
theorem dX4_tryAll_28 : decode cX4_tryAll 28 = .ok (.iconst 5, 1) := by decide +kernel
theorem dX4_tryAll_29 : decode cX4_tryAll 29 = .ok (.iload 5, 2) := by decide +kernel
theorem dX4_tryAll_31 : decode cX4_tryAll 31 = .ok (.iconst 2, 1) := by decide +kernel
theorem dX4_tryAll_32 : decode cX4_tryAll 32 = .ok (.irem, 1) := by decide +kernel
theorem dX4_tryAll_33 : decode cX4_tryAll 33 = .ok (.invokevirtual 24, 3) := by decide +kernel
theorem dX4_tryAll_36 : decode cX4_tryAll 36 = .ok (.pop, 1) := by decide +kernel
theorem dX4_tryAll_37 : decode cX4_tryAll 37 = .ok (.aload_n 0, 1) := by decide +kernel
theorem dX4_tryAll_38 : decode cX4_tryAll 38 = .ok (.getfield 11, 3) := by decide +kernel
theorem dX4_tryAll_41 : decode cX4_tryAll 41 = .ok (.iload 5, 2) := by decide +kernel
theorem dX4_tryAll_43 : decode cX4_tryAll 43 = .ok (.aload_n 2, 1) := by decide +kernel
theorem dX4_tryAll_44 : decode cX4_tryAll 44 = .ok (.iload_n 3, 1) := by decide +kernel
theorem dX4_tryAll_45 : decode cX4_tryAll 45 = .ok (.invokevirtual 28, 3) := by decide +kernel
theorem dX4_tryAll_48 : decode cX4_tryAll 48 = .ok (.iastore, 1) := by decide +kernel
theorem dX4_tryAll_49 : decode cX4_tryAll 49 = .ok (.aload_n 0, 1) := by decide +kernel
theorem dX4_tryAll_50 : decode cX4_tryAll 50 = .ok (.getfield 15, 3) := by decide +kernel
theorem dX4_tryAll_53 : decode cX4_tryAll 53 = .ok (.iload 5, 2) := by decide +kernel
theorem dX4_tryAll_55 : decode cX4_tryAll 55 = .ok (.aload_n 2, 1) := by decide +kernel
theorem dX4_tryAll_56 : decode cX4_tryAll 56 = .ok (.iload 4, 2) := by decide +kernel
theorem dX4_tryAll_58 : decode cX4_tryAll 58 = .ok (.invokevirtual 28, 3) := by decide +kernel
theorem dX4_tryAll_61 : decode cX4_tryAll 61 = .ok (.iastore, 1) := by decide +kernel
theorem dX4_tryAll_62 : decode cX4_tryAll 62 = .ok (.iinc 5 1, 3) := by decide +kernel
theorem dX4_tryAll_65 : decode cX4_tryAll 65 = .ok (.goto (-62), 3) := by decide +kernel
theorem dX4_tryAll_68 : decode cX4_tryAll 68 = .ok (.return_, 1) := by decide +kernel
theorem dX4_isAtRest_0 : decode cX4_isAtRest 0 = .ok (.aload_n 0, 1) := by decide +kernel
theorem dX4_isAtRest_1 : decode cX4_isAtRest 1 = .ok (.getfield 11, 3) := by decide +kernel
theorem dX4_isAtRest_4 : decode cX4_isAtRest 4 = .ok (.iload_n 1, 1) := by decide +kernel
theorem dX4_isAtRest_5 : decode cX4_isAtRest 5 = .ok (.iaload, 1) := by decide +kernel
theorem dX4_isAtRest_6 : decode cX4_isAtRest 6 = .ok (.aload_n 0, 1) := by decide +kernel
theorem dX4_isAtRest_7 : decode cX4_isAtRest 7 = .ok (.getfield 11, 3) := by decide +kernel
theorem dX4_isAtRest_10 : decode cX4_isAtRest 10 = .ok (.iload_n 1, 1) := by decide +kernel
theorem dX4_isAtRest_11 : decode cX4_isAtRest 11 = .ok (.iconst 2, 1) := by decide +kernel
theorem dX4_isAtRest_12 : decode cX4_isAtRest 12 = .ok (.ixor, 1) := by decide +kernel
theorem dX4_isAtRest_13 : decode cX4_isAtRest 13 = .ok (.iaload, 1) := by decide +kernel
theorem dX4_isAtRest_14 : decode cX4_isAtRest 14 = .ok (.if_icmp .lt 24, 3) := by decide +kernel
theorem dX4_isAtRest_17 : decode cX4_isAtRest 17 = .ok (.aload_n 0, 1) := by decide +kernel
theorem dX4_isAtRest_18 : decode cX4_isAtRest 18 = .ok (.getfield 15, 3) := by decide +kernel
theorem dX4_isAtRest_21 : decode cX4_isAtRest 21 = .ok (.iload_n 1, 1) := by decide +kernel
theorem dX4_isAtRest_22 : decode cX4_isAtRest 22 = .ok (.iaload, 1) := by decide +kernel
theorem dX4_isAtRest_23 : decode cX4_isAtRest 23 = .ok (.aload_n 0, 1) := by decide +kernel
theorem dX4_isAtRest_24 : decode cX4_isAtRest 24 = .ok (.getfield 15, 3) := by decide +kernel
theorem dX4_isAtRest_27 : decode cX4_isAtRest 27 = .ok (.iload_n 1, 1) := by decide +kernel
theorem dX4_isAtRest_28 : decode cX4_isAtRest 28 = .ok (.iconst 1, 1) := by decide +kernel
theorem dX4_isAtRest_29 : decode cX4_isAtRest 29 = .ok (.ixor, 1) := by decide +kernel
theorem dX4_isAtRest_30 : decode cX4_isAtRest 30 = .ok (.iaload, 1) := by decide +kernel
theorem dX4_isAtRest_31 : decode cX4_isAtRest 31 = .ok (.if_icmp .lt 7, 3) := by decide +kernel
theorem dX4_isAtRest_34 : decode cX4_isAtRest 34 = .ok (.iconst 1, 1) := by decide +kernel
theorem dX4_isAtRest_35 : decode cX4_isAtRest 35 = .ok (.goto 4, 3) := by decide +kernel
theorem dX4_isAtRest_38 : decode cX4_isAtRest 38 = .ok (.iconst 0, 1) := by decide +kernel
theorem dX4_isAtRest_39 : decode cX4_isAtRest 39 = .ok (.ireturn, 1) := by decide +kernel
theorem dX4_howMany_0 : decode cX4_howMany 0 = .ok (.iconst 0, 1) := by decide +kernel
theorem dX4_howMany_1 : decode cX4_howMany 1 = .ok (.istore_n 1, 1) := by decide +kernel
theorem dX4_howMany_2 : decode cX4_howMany 2 = .ok (.iconst 0, 1) := by decide +kernel
theorem dX4_howMany_3 : decode cX4_howMany 3 = .ok (.istore_n 2, 1) := by decide +kernel
theorem dX4_howMany_4 : decode cX4_howMany 4 = .ok (.iload_n 2, 1) := by decide +kernel
theorem dX4_howMany_5 : decode cX4_howMany 5 = .ok (.iconst 4, 1) := by decide +kernel
theorem dX4_howMany_6 : decode cX4_howMany 6 = .ok (.if_icmp .ge 20, 3) := by decide +kernel
theorem dX4_howMany_9 : decode cX4_howMany 9 = .ok (.aload_n 0, 1) := by decide +kernel
theorem dX4_howMany_10 : decode cX4_howMany 10 = .ok (.iload_n 2, 1) := by decide +kernel
theorem dX4_howMany_11 : decode cX4_howMany 11 = .ok (.invokevirtual 32, 3) := by decide +kernel
theorem dX4_howMany_14 : decode cX4_howMany 14 = .ok (.ifCond .eq 6, 3) := by decide +kernel
theorem dX4_howMany_17 : decode cX4_howMany 17 = .ok (.iinc 1 1, 3) := by decide +kernel
theorem dX4_howMany_20 : decode cX4_howMany 20 = .ok (.iinc 2 1, 3) := by decide +kernel
theorem dX4_howMany_23 : decode cX4_howMany 23 = .ok (.goto (-19), 3) := by decide +kernel
theorem dX4_howMany_26 : decode cX4_howMany 26 = .ok (.iload_n 1, 1) := by decide +kernel
theorem dX4_howMany_27 : decode cX4_howMany 27 = .ok (.ireturn, 1) := by decide +kernel
theorem dX4_firstPair_0 : decode cX4_firstPair 0 = .ok (.iconst 0, 1) := by decide +kernel
theorem dX4_firstPair_1 : decode cX4_firstPair 1 = .ok (.istore_n 1, 1) := by decide +kernel
theorem dX4_firstPair_2 : decode cX4_firstPair 2 = .ok (.iload_n 1, 1) := by decide +kernel
theorem dX4_firstPair_3 : decode cX4_firstPair 3 = .ok (.iconst 4, 1) := by decide +kernel
theorem dX4_firstPair_4 : decode cX4_firstPair 4 = .ok (.if_icmp .ge 28, 3) := by decide +kernel
theorem dX4_firstPair_7 : decode cX4_firstPair 7 = .ok (.aload_n 0, 1) := by decide +kernel
theorem dX4_firstPair_8 : decode cX4_firstPair 8 = .ok (.iload_n 1, 1) := by decide +kernel
theorem dX4_firstPair_9 : decode cX4_firstPair 9 = .ok (.invokevirtual 32, 3) := by decide +kernel
theorem dX4_firstPair_12 : decode cX4_firstPair 12 = .ok (.ifCond .eq 14, 3) := by decide +kernel
theorem dX4_firstPair_15 : decode cX4_firstPair 15 = .ok (.bipush 10, 2) := by decide +kernel
theorem dX4_firstPair_17 : decode cX4_firstPair 17 = .ok (.iload_n 1, 1) := by decide +kernel
theorem dX4_firstPair_18 : decode cX4_firstPair 18 = .ok (.iconst 2, 1) := by decide +kernel
theorem dX4_firstPair_19 : decode cX4_firstPair 19 = .ok (.idiv, 1) := by decide +kernel
theorem dX4_firstPair_20 : decode cX4_firstPair 20 = .ok (.imul, 1) := by decide +kernel
theorem dX4_firstPair_21 : decode cX4_firstPair 21 = .ok (.iload_n 1, 1) := by decide +kernel
theorem dX4_firstPair_22 : decode cX4_firstPair 22 = .ok (.iconst 2, 1) := by decide +kernel
theorem dX4_firstPair_23 : decode cX4_firstPair 23 = .ok (.irem, 1) := by decide +kernel
theorem dX4_firstPair_24 : decode cX4_firstPair 24 = .ok (.iadd, 1) := by decide +kernel
theorem dX4_firstPair_25 : decode cX4_firstPair 25 = .ok (.ireturn, 1) := by decide +kernel
theorem dX4_firstPair_26 : decode cX4_firstPair 26 = .ok (.iinc 1 1, 3) := by decide +kernel
theorem dX4_firstPair_29 : decode cX4_firstPair 29 = .ok (.goto (-27), 3) := by decide +kernel
theorem dX4_firstPair_32 : decode cX4_firstPair 32 = .ok (.bipush (-9), 2) := by decide +kernel
theorem dX4_firstPair_34 : decode cX4_firstPair 34 = .ok (.ireturn, 1) := by decide +kernel
theorem dX5_stepsOn_0 : decode cX5_stepsOn 0 = .ok (.iload_n 0, 1) := by decide +kernel
theorem dX5_stepsOn_1 : decode cX5_stepsOn 1 = .ok (.iload_n 1, 1) := by decide +kernel
theorem dX5_stepsOn_2 : decode cX5_stepsOn 2 = .ok (.iadd, 1) := by decide +kernel
theorem dX5_stepsOn_3 : decode cX5_stepsOn 3 = .ok (.bipush 12, 2) := by decide +kernel
theorem dX5_stepsOn_5 : decode cX5_stepsOn 5 = .ok (.invokestatic 9, 3) := by decide +kernel
theorem dX5_stepsOn_8 : decode cX5_stepsOn 8 = .ok (.ireturn, 1) := by decide +kernel
theorem dX5_apart_0 : decode cX5_apart 0 = .ok (.iload_n 1, 1) := by decide +kernel
theorem dX5_apart_1 : decode cX5_apart 1 = .ok (.iload_n 0, 1) := by decide +kernel
theorem dX5_apart_2 : decode cX5_apart 2 = .ok (.isub, 1) := by decide +kernel
theorem dX5_apart_3 : decode cX5_apart 3 = .ok (.bipush 12, 2) := by decide +kernel
theorem dX5_apart_5 : decode cX5_apart 5 = .ok (.invokestatic 9, 3) := by decide +kernel
theorem dX5_apart_8 : decode cX5_apart 8 = .ok (.istore_n 2, 1) := by decide +kernel
theorem dX5_apart_9 : decode cX5_apart 9 = .ok (.iload_n 2, 1) := by decide +kernel
theorem dX5_apart_10 : decode cX5_apart 10 = .ok (.bipush 12, 2) := by decide +kernel
theorem dX5_apart_12 : decode cX5_apart 12 = .ok (.iload_n 2, 1) := by decide +kernel
theorem dX5_apart_13 : decode cX5_apart 13 = .ok (.isub, 1) := by decide +kernel
theorem dX5_apart_14 : decode cX5_apart 14 = .ok (.invokestatic 15, 3) := by decide +kernel
theorem dX5_apart_17 : decode cX5_apart 17 = .ok (.ireturn, 1) := by decide +kernel
theorem dX5_lengthBetween_0 : decode cX5_lengthBetween 0 = .ok (.iload_n 0, 1) := by decide +kernel
theorem dX5_lengthBetween_1 : decode cX5_lengthBetween 1 = .ok (.iload_n 1, 1) := by decide +kernel
theorem dX5_lengthBetween_2 : decode cX5_lengthBetween 2 = .ok (.if_icmp .ge 9, 3) := by decide +kernel
theorem dX5_lengthBetween_5 : decode cX5_lengthBetween 5 = .ok (.iload_n 1, 1) := by decide +kernel
theorem dX5_lengthBetween_6 : decode cX5_lengthBetween 6 = .ok (.iload_n 0, 1) := by decide +kernel
theorem dX5_lengthBetween_7 : decode cX5_lengthBetween 7 = .ok (.isub, 1) := by decide +kernel
theorem dX5_lengthBetween_8 : decode cX5_lengthBetween 8 = .ok (.goto 6, 3) := by decide +kernel
theorem dX5_lengthBetween_11 : decode cX5_lengthBetween 11 = .ok (.iload_n 0, 1) := by decide +kernel
theorem dX5_lengthBetween_12 : decode cX5_lengthBetween 12 = .ok (.iload_n 1, 1) := by decide +kernel
theorem dX5_lengthBetween_13 : decode cX5_lengthBetween 13 = .ok (.isub, 1) := by decide +kernel
theorem dX5_lengthBetween_14 : decode cX5_lengthBetween 14 = .ok (.istore_n 2, 1) := by decide +kernel
theorem dX5_lengthBetween_15 : decode cX5_lengthBetween 15 = .ok (.iload_n 2, 1) := by decide +kernel
theorem dX5_lengthBetween_16 : decode cX5_lengthBetween 16 = .ok (.getstatic 18, 3) := by decide +kernel
theorem dX5_lengthBetween_19 : decode cX5_lengthBetween 19 = .ok (.arraylength, 1) := by decide +kernel
theorem dX5_lengthBetween_20 : decode cX5_lengthBetween 20 = .ok (.if_icmp .ge 11, 3) := by decide +kernel
theorem dX5_lengthBetween_23 : decode cX5_lengthBetween 23 = .ok (.getstatic 18, 3) := by decide +kernel
theorem dX5_lengthBetween_26 : decode cX5_lengthBetween 26 = .ok (.iload_n 2, 1) := by decide +kernel
theorem dX5_lengthBetween_27 : decode cX5_lengthBetween 27 = .ok (.iaload, 1) := by decide +kernel
theorem dX5_lengthBetween_28 : decode cX5_lengthBetween 28 = .ok (.goto 4, 3) := by decide +kernel
theorem dX5_lengthBetween_31 : decode cX5_lengthBetween 31 = .ok (.iconst 0, 1) := by decide +kernel
theorem dX5_lengthBetween_32 : decode cX5_lengthBetween 32 = .ok (.ireturn, 1) := by decide +kernel
theorem dX5_doCross_0 : decode cX5_doCross 0 = .ok (.iload_n 0, 1) := by decide +kernel
theorem dX5_doCross_1 : decode cX5_doCross 1 = .ok (.iload_n 2, 1) := by decide +kernel
theorem dX5_doCross_2 : decode cX5_doCross 2 = .ok (.if_icmp .eq 18, 3) := by decide +kernel
theorem dX5_doCross_5 : decode cX5_doCross 5 = .ok (.iload_n 0, 1) := by decide +kernel
theorem dX5_doCross_6 : decode cX5_doCross 6 = .ok (.iload_n 3, 1) := by decide +kernel
theorem dX5_doCross_7 : decode cX5_doCross 7 = .ok (.if_icmp .eq 13, 3) := by decide +kernel
theorem dX5_doCross_10 : decode cX5_doCross 10 = .ok (.iload_n 1, 1) := by decide +kernel
theorem dX5_doCross_11 : decode cX5_doCross 11 = .ok (.iload_n 2, 1) := by decide +kernel
theorem dX5_doCross_12 : decode cX5_doCross 12 = .ok (.if_icmp .eq 8, 3) := by decide +kernel
theorem dX5_doCross_15 : decode cX5_doCross 15 = .ok (.iload_n 1, 1) := by decide +kernel
theorem dX5_doCross_16 : decode cX5_doCross 16 = .ok (.iload_n 3, 1) := by decide +kernel
theorem dX5_doCross_17 : decode cX5_doCross 17 = .ok (.if_icmp .ne 5, 3) := by decide +kernel
theorem dX5_doCross_20 : decode cX5_doCross 20 = .ok (.iconst 0, 1) := by decide +kernel
theorem dX5_doCross_21 : decode cX5_doCross 21 = .ok (.ireturn, 1) := by decide +kernel
theorem dX5_doCross_22 : decode cX5_doCross 22 = .ok (.iload_n 0, 1) := by decide +kernel
theorem dX5_doCross_23 : decode cX5_doCross 23 = .ok (.iload_n 1, 1) := by decide +kernel
theorem dX5_doCross_24 : decode cX5_doCross 24 = .ok (.if_icmp .ge 7, 3) := by decide +kernel
theorem dX5_doCross_27 : decode cX5_doCross 27 = .ok (.iload_n 0, 1) := by decide +kernel
theorem dX5_doCross_28 : decode cX5_doCross 28 = .ok (.goto 4, 3) := by decide +kernel
theorem dX5_doCross_31 : decode cX5_doCross 31 = .ok (.iload_n 1, 1) := by decide +kernel
theorem dX5_doCross_32 : decode cX5_doCross 32 = .ok (.istore 4, 2) := by decide +kernel
theorem dX5_doCross_34 : decode cX5_doCross 34 = .ok (.iload_n 0, 1) := by decide +kernel
theorem dX5_doCross_35 : decode cX5_doCross 35 = .ok (.iload_n 1, 1) := by decide +kernel
theorem dX5_doCross_36 : decode cX5_doCross 36 = .ok (.if_icmp .ge 7, 3) := by decide +kernel
theorem dX5_doCross_39 : decode cX5_doCross 39 = .ok (.iload_n 1, 1) := by decide +kernel
theorem dX5_doCross_40 : decode cX5_doCross 40 = .ok (.goto 4, 3) := by decide +kernel
theorem dX5_doCross_43 : decode cX5_doCross 43 = .ok (.iload_n 0, 1) := by decide +kernel
theorem dX5_doCross_44 : decode cX5_doCross 44 = .ok (.istore 5, 2) := by decide +kernel
theorem dX5_doCross_46 : decode cX5_doCross 46 = .ok (.iload 4, 2) := by decide +kernel
theorem dX5_doCross_48 : decode cX5_doCross 48 = .ok (.iload_n 2, 1) := by decide +kernel
theorem dX5_doCross_49 : decode cX5_doCross 49 = .ok (.if_icmp .ge 13, 3) := by decide +kernel
theorem dX5_doCross_52 : decode cX5_doCross 52 = .ok (.iload_n 2, 1) := by decide +kernel
theorem dX5_doCross_53 : decode cX5_doCross 53 = .ok (.iload 5, 2) := by decide +kernel
theorem dX5_doCross_55 : decode cX5_doCross 55 = .ok (.if_icmp .ge 7, 3) := by decide +kernel
theorem dX5_doCross_58 : decode cX5_doCross 58 = .ok (.iconst 1, 1) := by decide +kernel
theorem dX5_doCross_59 : decode cX5_doCross 59 = .ok (.goto 4, 3) := by decide +kernel
theorem dX5_doCross_62 : decode cX5_doCross 62 = .ok (.iconst 0, 1) := by decide +kernel
theorem dX5_doCross_63 : decode cX5_doCross 63 = .ok (.iload 4, 2) := by decide +kernel
theorem dX5_doCross_65 : decode cX5_doCross 65 = .ok (.iload_n 3, 1) := by decide +kernel
theorem dX5_doCross_66 : decode cX5_doCross 66 = .ok (.if_icmp .ge 13, 3) := by decide +kernel
theorem dX5_doCross_69 : decode cX5_doCross 69 = .ok (.iload_n 3, 1) := by decide +kernel
theorem dX5_doCross_70 : decode cX5_doCross 70 = .ok (.iload 5, 2) := by decide +kernel
theorem dX5_doCross_72 : decode cX5_doCross 72 = .ok (.if_icmp .ge 7, 3) := by decide +kernel
theorem dX5_doCross_75 : decode cX5_doCross 75 = .ok (.iconst 1, 1) := by decide +kernel
theorem dX5_doCross_76 : decode cX5_doCross 76 = .ok (.goto 4, 3) := by decide +kernel
theorem dX5_doCross_79 : decode cX5_doCross 79 = .ok (.iconst 0, 1) := by decide +kernel
theorem dX5_doCross_80 : decode cX5_doCross 80 = .ok (.if_icmp .eq 7, 3) := by decide +kernel
theorem dX5_doCross_83 : decode cX5_doCross 83 = .ok (.iconst 1, 1) := by decide +kernel
theorem dX5_doCross_84 : decode cX5_doCross 84 = .ok (.goto 4, 3) := by decide +kernel
theorem dX5_doCross_87 : decode cX5_doCross 87 = .ok (.iconst 0, 1) := by decide +kernel
theorem dX5_doCross_88 : decode cX5_doCross 88 = .ok (.ireturn, 1) := by decide +kernel
theorem dX6_init_0 : decode cX6_init 0 = .ok (.aload_n 0, 1) := by decide +kernel
theorem dX6_init_1 : decode cX6_init 1 = .ok (.invokespecial 3, 3) := by decide +kernel
theorem dX6_init_4 : decode cX6_init 4 = .ok (.aload_n 0, 1) := by decide +kernel
theorem dX6_init_5 : decode cX6_init 5 = .ok (.bipush 6, 2) := by decide +kernel
theorem dX6_init_7 : decode cX6_init 7 = .ok (.newarray .int, 2) := by decide +kernel
theorem dX6_init_9 : decode cX6_init 9 = .ok (.putfield 9, 3) := by decide +kernel
theorem dX6_init_12 : decode cX6_init 12 = .ok (.aload_n 0, 1) := by decide +kernel
theorem dX6_init_13 : decode cX6_init 13 = .ok (.bipush 6, 2) := by decide +kernel
theorem dX6_init_15 : decode cX6_init 15 = .ok (.newarray .int, 2) := by decide +kernel
theorem dX6_init_17 : decode cX6_init 17 = .ok (.putfield 15, 3) := by decide +kernel
theorem dX6_init_20 : decode cX6_init 20 = .ok (.aload_n 0, 1) := by decide +kernel
theorem dX6_init_21 : decode cX6_init 21 = .ok (.bipush 6, 2) := by decide +kernel
theorem dX6_init_23 : decode cX6_init 23 = .ok (.newarray .int, 2) := by decide +kernel
theorem dX6_init_25 : decode cX6_init 25 = .ok (.putfield 18, 3) := by decide +kernel
theorem dX6_init_28 : decode cX6_init 28 = .ok (.aload_n 0, 1) := by decide +kernel
theorem dX6_init_29 : decode cX6_init 29 = .ok (.iconst 0, 1) := by decide +kernel
theorem dX6_init_30 : decode cX6_init 30 = .ok (.putfield 21, 3) := by decide +kernel
theorem dX6_init_33 : decode cX6_init 33 = .ok (.return_, 1) := by decide +kernel
theorem dX6_size_0 : decode cX6_size 0 = .ok (.aload_n 0, 1) := by decide +kernel
theorem dX6_size_1 : decode cX6_size 1 = .ok (.getfield 21, 3) := by decide +kernel
theorem dX6_size_4 : decode cX6_size 4 = .ok (.ireturn, 1) := by decide +kernel
theorem dX6_clear_0 : decode cX6_clear 0 = .ok (.aload_n 0, 1) := by decide +kernel
theorem dX6_clear_1 : decode cX6_clear 1 = .ok (.iconst 0, 1) := by decide +kernel
theorem dX6_clear_2 : decode cX6_clear 2 = .ok (.putfield 21, 3) := by decide +kernel
theorem dX6_clear_5 : decode cX6_clear 5 = .ok (.return_, 1) := by decide +kernel
theorem dX6_add_0 : decode cX6_add 0 = .ok (.aload_n 0, 1) := by decide +kernel
theorem dX6_add_1 : decode cX6_add 1 = .ok (.getfield 21, 3) := by decide +kernel
theorem dX6_add_4 : decode cX6_add 4 = .ok (.bipush 6, 2) := by decide +kernel
theorem dX6_add_6 : decode cX6_add 6 = .ok (.if_icmp .lt 5, 3) := by decide +kernel
theorem dX6_add_9 : decode cX6_add 9 = .ok (.iconst 0, 1) := by decide +kernel
theorem dX6_add_10 : decode cX6_add 10 = .ok (.ireturn, 1) := by decide +kernel
theorem dX6_add_11 : decode cX6_add 11 = .ok (.aload_n 0, 1) := by decide +kernel
theorem dX6_add_12 : decode cX6_add 12 = .ok (.getfield 9, 3) := by decide +kernel
theorem dX6_add_15 : decode cX6_add 15 = .ok (.aload_n 0, 1) := by decide +kernel
theorem dX6_add_16 : decode cX6_add 16 = .ok (.getfield 21, 3) := by decide +kernel
theorem dX6_add_19 : decode cX6_add 19 = .ok (.iload_n 1, 1) := by decide +kernel
theorem dX6_add_20 : decode cX6_add 20 = .ok (.iastore, 1) := by decide +kernel
theorem dX6_add_21 : decode cX6_add 21 = .ok (.aload_n 0, 1) := by decide +kernel
theorem dX6_add_22 : decode cX6_add 22 = .ok (.getfield 15, 3) := by decide +kernel
theorem dX6_add_25 : decode cX6_add 25 = .ok (.aload_n 0, 1) := by decide +kernel
theorem dX6_add_26 : decode cX6_add 26 = .ok (.getfield 21, 3) := by decide +kernel
theorem dX6_add_29 : decode cX6_add 29 = .ok (.iload_n 2, 1) := by decide +kernel
theorem dX6_add_30 : decode cX6_add 30 = .ok (.iastore, 1) := by decide +kernel
theorem dX6_add_31 : decode cX6_add 31 = .ok (.aload_n 0, 1) := by decide +kernel
theorem dX6_add_32 : decode cX6_add 32 = .ok (.getfield 18, 3) := by decide +kernel
theorem dX6_add_35 : decode cX6_add 35 = .ok (.aload_n 0, 1) := by decide +kernel
theorem dX6_add_36 : decode cX6_add 36 = .ok (.getfield 21, 3) := by decide +kernel
theorem dX6_add_39 : decode cX6_add 39 = .ok (.iload_n 3, 1) := by decide +kernel
theorem dX6_add_40 : decode cX6_add 40 = .ok (.iastore, 1) := by decide +kernel
theorem dX6_add_41 : decode cX6_add 41 = .ok (.aload_n 0, 1) := by decide +kernel
theorem dX6_add_42 : decode cX6_add 42 = .ok (.dup, 1) := by decide +kernel
theorem dX6_add_43 : decode cX6_add 43 = .ok (.getfield 21, 3) := by decide +kernel
theorem dX6_add_46 : decode cX6_add 46 = .ok (.iconst 1, 1) := by decide +kernel
theorem dX6_add_47 : decode cX6_add 47 = .ok (.iadd, 1) := by decide +kernel
theorem dX6_add_48 : decode cX6_add 48 = .ok (.putfield 21, 3) := by decide +kernel
theorem dX6_add_51 : decode cX6_add 51 = .ok (.iconst 1, 1) := by decide +kernel
theorem dX6_add_52 : decode cX6_add 52 = .ok (.ireturn, 1) := by decide +kernel
theorem dX6_fits_0 : decode cX6_fits 0 = .ok (.iconst 0, 1) := by decide +kernel
theorem dX6_fits_1 : decode cX6_fits 1 = .ok (.istore_n 3, 1) := by decide +kernel
theorem dX6_fits_2 : decode cX6_fits 2 = .ok (.iload_n 3, 1) := by decide +kernel
theorem dX6_fits_3 : decode cX6_fits 3 = .ok (.aload_n 0, 1) := by decide +kernel
theorem dX6_fits_4 : decode cX6_fits 4 = .ok (.getfield 21, 3) := by decide +kernel
theorem dX6_fits_7 : decode cX6_fits 7 = .ok (.if_icmp .ge 59, 3) := by decide +kernel
theorem dX6_fits_10 : decode cX6_fits 10 = .ok (.iload_n 1, 1) := by decide +kernel
theorem dX6_fits_11 : decode cX6_fits 11 = .ok (.iload_n 2, 1) := by decide +kernel
theorem dX6_fits_12 : decode cX6_fits 12 = .ok (.aload_n 0, 1) := by decide +kernel
theorem dX6_fits_13 : decode cX6_fits 13 = .ok (.getfield 9, 3) := by decide +kernel
theorem dX6_fits_16 : decode cX6_fits 16 = .ok (.iload_n 3, 1) := by decide +kernel
theorem dX6_fits_17 : decode cX6_fits 17 = .ok (.iaload, 1) := by decide +kernel
theorem dX6_fits_18 : decode cX6_fits 18 = .ok (.imul, 1) := by decide +kernel
theorem dX6_fits_19 : decode cX6_fits 19 = .ok (.invokestatic 25, 3) := by decide +kernel
theorem dX6_fits_22 : decode cX6_fits 22 = .ok (.aload_n 0, 1) := by decide +kernel
theorem dX6_fits_23 : decode cX6_fits 23 = .ok (.getfield 15, 3) := by decide +kernel
theorem dX6_fits_26 : decode cX6_fits 26 = .ok (.iload_n 3, 1) := by decide +kernel
theorem dX6_fits_27 : decode cX6_fits 27 = .ok (.iaload, 1) := by decide +kernel
theorem dX6_fits_28 : decode cX6_fits 28 = .ok (.if_icmp .ne 7, 3) := by decide +kernel
theorem dX6_fits_31 : decode cX6_fits 31 = .ok (.iconst 1, 1) := by decide +kernel
theorem dX6_fits_32 : decode cX6_fits 32 = .ok (.goto 4, 3) := by decide +kernel
theorem dX6_fits_35 : decode cX6_fits 35 = .ok (.iconst 0, 1) := by decide +kernel
theorem dX6_fits_36 : decode cX6_fits 36 = .ok (.istore 4, 2) := by decide +kernel
theorem dX6_fits_38 : decode cX6_fits 38 = .ok (.iload 4, 2) := by decide +kernel
theorem dX6_fits_40 : decode cX6_fits 40 = .ok (.aload_n 0, 1) := by decide +kernel
theorem dX6_fits_41 : decode cX6_fits 41 = .ok (.getfield 18, 3) := by decide +kernel
theorem dX6_fits_44 : decode cX6_fits 44 = .ok (.iload_n 3, 1) := by decide +kernel
theorem dX6_fits_45 : decode cX6_fits 45 = .ok (.iaload, 1) := by decide +kernel
theorem dX6_fits_46 : decode cX6_fits 46 = .ok (.iconst 1, 1) := by decide +kernel
theorem dX6_fits_47 : decode cX6_fits 47 = .ok (.if_icmp .ne 7, 3) := by decide +kernel
theorem dX6_fits_50 : decode cX6_fits 50 = .ok (.iconst 1, 1) := by decide +kernel
theorem dX6_fits_51 : decode cX6_fits 51 = .ok (.goto 4, 3) := by decide +kernel
theorem dX6_fits_54 : decode cX6_fits 54 = .ok (.iconst 0, 1) := by decide +kernel
theorem dX6_fits_55 : decode cX6_fits 55 = .ok (.if_icmp .eq 5, 3) := by decide +kernel
theorem dX6_fits_58 : decode cX6_fits 58 = .ok (.iconst 0, 1) := by decide +kernel
theorem dX6_fits_59 : decode cX6_fits 59 = .ok (.ireturn, 1) := by decide +kernel
theorem dX6_fits_60 : decode cX6_fits 60 = .ok (.iinc 3 1, 3) := by decide +kernel
theorem dX6_fits_63 : decode cX6_fits 63 = .ok (.goto (-61), 3) := by decide +kernel
theorem dX6_fits_66 : decode cX6_fits 66 = .ok (.iconst 1, 1) := by decide +kernel
theorem dX6_fits_67 : decode cX6_fits 67 = .ok (.ireturn, 1) := by decide +kernel
theorem dX6_howMany_0 : decode cX6_howMany 0 = .ok (.iconst 0, 1) := by decide +kernel
theorem dX6_howMany_1 : decode cX6_howMany 1 = .ok (.istore_n 1, 1) := by decide +kernel
theorem dX6_howMany_2 : decode cX6_howMany 2 = .ok (.iconst 0, 1) := by decide +kernel
theorem dX6_howMany_3 : decode cX6_howMany 3 = .ok (.istore_n 2, 1) := by decide +kernel
theorem dX6_howMany_4 : decode cX6_howMany 4 = .ok (.iload_n 2, 1) := by decide +kernel
theorem dX6_howMany_5 : decode cX6_howMany 5 = .ok (.bipush 12, 2) := by decide +kernel
theorem dX6_howMany_7 : decode cX6_howMany 7 = .ok (.if_icmp .ge 35, 3) := by decide +kernel
theorem dX6_howMany_10 : decode cX6_howMany 10 = .ok (.iconst 1, 1) := by decide +kernel
theorem dX6_howMany_11 : decode cX6_howMany 11 = .ok (.istore_n 3, 1) := by decide +kernel
theorem dX6_howMany_12 : decode cX6_howMany 12 = .ok (.iload_n 3, 1) := by decide +kernel
theorem dX6_howMany_13 : decode cX6_howMany 13 = .ok (.bipush 12, 2) := by decide +kernel
theorem dX6_howMany_15 : decode cX6_howMany 15 = .ok (.if_icmp .ge 21, 3) := by decide +kernel
theorem dX6_howMany_18 : decode cX6_howMany 18 = .ok (.aload_n 0, 1) := by decide +kernel
theorem dX6_howMany_19 : decode cX6_howMany 19 = .ok (.iload_n 2, 1) := by decide +kernel
theorem dX6_howMany_20 : decode cX6_howMany 20 = .ok (.iload_n 3, 1) := by decide +kernel
theorem dX6_howMany_21 : decode cX6_howMany 21 = .ok (.invokevirtual 31, 3) := by decide +kernel
theorem dX6_howMany_24 : decode cX6_howMany 24 = .ok (.ifCond .eq 6, 3) := by decide +kernel
theorem dX6_howMany_27 : decode cX6_howMany 27 = .ok (.iinc 1 1, 3) := by decide +kernel
theorem dX6_howMany_30 : decode cX6_howMany 30 = .ok (.iinc 3 1, 3) := by decide +kernel
theorem dX6_howMany_33 : decode cX6_howMany 33 = .ok (.goto (-21), 3) := by decide +kernel
theorem dX6_howMany_36 : decode cX6_howMany 36 = .ok (.iinc 2 1, 3) := by decide +kernel
theorem dX6_howMany_39 : decode cX6_howMany 39 = .ok (.goto (-35), 3) := by decide +kernel
theorem dX6_howMany_42 : decode cX6_howMany 42 = .ok (.iload_n 1, 1) := by decide +kernel
theorem dX6_howMany_43 : decode cX6_howMany 43 = .ok (.ireturn, 1) := by decide +kernel
theorem dX6_firstStar_0 : decode cX6_firstStar 0 = .ok (.iconst 0, 1) := by decide +kernel
theorem dX6_firstStar_1 : decode cX6_firstStar 1 = .ok (.istore_n 1, 1) := by decide +kernel
theorem dX6_firstStar_2 : decode cX6_firstStar 2 = .ok (.iload_n 1, 1) := by decide +kernel
theorem dX6_firstStar_3 : decode cX6_firstStar 3 = .ok (.bipush 12, 2) := by decide +kernel
theorem dX6_firstStar_5 : decode cX6_firstStar 5 = .ok (.if_icmp .ge 39, 3) := by decide +kernel
theorem dX6_firstStar_8 : decode cX6_firstStar 8 = .ok (.iconst 1, 1) := by decide +kernel
theorem dX6_firstStar_9 : decode cX6_firstStar 9 = .ok (.istore_n 2, 1) := by decide +kernel
theorem dX6_firstStar_10 : decode cX6_firstStar 10 = .ok (.iload_n 2, 1) := by decide +kernel
theorem dX6_firstStar_11 : decode cX6_firstStar 11 = .ok (.bipush 12, 2) := by decide +kernel
theorem dX6_firstStar_13 : decode cX6_firstStar 13 = .ok (.if_icmp .ge 25, 3) := by decide +kernel
theorem dX6_firstStar_16 : decode cX6_firstStar 16 = .ok (.aload_n 0, 1) := by decide +kernel
theorem dX6_firstStar_17 : decode cX6_firstStar 17 = .ok (.iload_n 1, 1) := by decide +kernel
theorem dX6_firstStar_18 : decode cX6_firstStar 18 = .ok (.iload_n 2, 1) := by decide +kernel
theorem dX6_firstStar_19 : decode cX6_firstStar 19 = .ok (.invokevirtual 31, 3) := by decide +kernel
theorem dX6_firstStar_22 : decode cX6_firstStar 22 = .ok (.ifCond .eq 10, 3) := by decide +kernel
end
section
theorem dX6_firstStar_25 : decode cX6_firstStar 25 = .ok (.bipush 100, 2) := by decide +kernel
theorem dX6_firstStar_27 : decode cX6_firstStar 27 = .ok (.iload_n 1, 1) := by decide +kernel
theorem dX6_firstStar_28 : decode cX6_firstStar 28 = .ok (.imul, 1) := by decide +kernel
theorem dX6_firstStar_29 : decode cX6_firstStar 29 = .ok (.iload_n 2, 1) := by decide +kernel
theorem dX6_firstStar_30 : decode cX6_firstStar 30 = .ok (.iadd, 1) := by decide +kernel
theorem dX6_firstStar_31 : decode cX6_firstStar 31 = .ok (.ireturn, 1) := by decide +kernel
theorem dX6_firstStar_32 : decode cX6_firstStar 32 = .ok (.iinc 2 1, 3) := by decide +kernel
theorem dX6_firstStar_35 : decode cX6_firstStar 35 = .ok (.goto (-25), 3) := by decide +kernel
theorem dX6_firstStar_38 : decode cX6_firstStar 38 = .ok (.iinc 1 1, 3) := by decide +kernel
theorem dX6_firstStar_41 : decode cX6_firstStar 41 = .ok (.goto (-39), 3) := by decide +kernel
theorem dX6_firstStar_44 : decode cX6_firstStar 44 = .ok (.bipush (-9), 2) := by decide +kernel
theorem dX6_firstStar_46 : decode cX6_firstStar 46 = .ok (.ireturn, 1) := by decide +kernel
theorem dX7_init_0 : decode cX7_init 0 = .ok (.aload_n 0, 1) := by decide +kernel
theorem dX7_init_1 : decode cX7_init 1 = .ok (.invokespecial 3, 3) := by decide +kernel
theorem dX7_init_4 : decode cX7_init 4 = .ok (.aload_n 0, 1) := by decide +kernel
theorem dX7_init_5 : decode cX7_init 5 = .ok (.iconst 2, 1) := by decide +kernel
theorem dX7_init_6 : decode cX7_init 6 = .ok (.anewarray 9, 3) := by decide +kernel
theorem dX7_init_9 : decode cX7_init 9 = .ok (.putfield 11, 3) := by decide +kernel
theorem dX7_init_12 : decode cX7_init 12 = .ok (.aload_n 0, 1) := by decide +kernel
theorem dX7_init_13 : decode cX7_init 13 = .ok (.iconst 2, 1) := by decide +kernel
theorem dX7_init_14 : decode cX7_init 14 = .ok (.newarray .boolean, 2) := by decide +kernel
theorem dX7_init_16 : decode cX7_init 16 = .ok (.putfield 17, 3) := by decide +kernel
theorem dX7_init_19 : decode cX7_init 19 = .ok (.iconst 0, 1) := by decide +kernel
theorem dX7_init_20 : decode cX7_init 20 = .ok (.istore_n 1, 1) := by decide +kernel
theorem dX7_init_21 : decode cX7_init 21 = .ok (.iload_n 1, 1) := by decide +kernel
theorem dX7_init_22 : decode cX7_init 22 = .ok (.iconst 2, 1) := by decide +kernel
theorem dX7_init_23 : decode cX7_init 23 = .ok (.if_icmp .ge 29, 3) := by decide +kernel
theorem dX7_init_26 : decode cX7_init 26 = .ok (.aload_n 0, 1) := by decide +kernel
theorem dX7_init_27 : decode cX7_init 27 = .ok (.getfield 11, 3) := by decide +kernel
theorem dX7_init_30 : decode cX7_init 30 = .ok (.iload_n 1, 1) := by decide +kernel
theorem dX7_init_31 : decode cX7_init 31 = .ok (.new 9, 3) := by decide +kernel
theorem dX7_init_34 : decode cX7_init 34 = .ok (.dup, 1) := by decide +kernel
theorem dX7_init_35 : decode cX7_init 35 = .ok (.invokespecial 21, 3) := by decide +kernel
theorem dX7_init_38 : decode cX7_init 38 = .ok (.aastore, 1) := by decide +kernel
theorem dX7_init_39 : decode cX7_init 39 = .ok (.aload_n 0, 1) := by decide +kernel
theorem dX7_init_40 : decode cX7_init 40 = .ok (.getfield 17, 3) := by decide +kernel
theorem dX7_init_43 : decode cX7_init 43 = .ok (.iload_n 1, 1) := by decide +kernel
theorem dX7_init_44 : decode cX7_init 44 = .ok (.iconst 0, 1) := by decide +kernel
theorem dX7_init_45 : decode cX7_init 45 = .ok (.bastore, 1) := by decide +kernel
theorem dX7_init_46 : decode cX7_init 46 = .ok (.iinc 1 1, 3) := by decide +kernel
theorem dX7_init_49 : decode cX7_init 49 = .ok (.goto (-28), 3) := by decide +kernel
theorem dX7_init_52 : decode cX7_init 52 = .ok (.return_, 1) := by decide +kernel
theorem dX7_clear_0 : decode cX7_clear 0 = .ok (.iconst 0, 1) := by decide +kernel
theorem dX7_clear_1 : decode cX7_clear 1 = .ok (.istore_n 1, 1) := by decide +kernel
theorem dX7_clear_2 : decode cX7_clear 2 = .ok (.iload_n 1, 1) := by decide +kernel
theorem dX7_clear_3 : decode cX7_clear 3 = .ok (.iconst 2, 1) := by decide +kernel
theorem dX7_clear_4 : decode cX7_clear 4 = .ok (.if_icmp .ge 16, 3) := by decide +kernel
theorem dX7_clear_7 : decode cX7_clear 7 = .ok (.aload_n 0, 1) := by decide +kernel
theorem dX7_clear_8 : decode cX7_clear 8 = .ok (.getfield 17, 3) := by decide +kernel
theorem dX7_clear_11 : decode cX7_clear 11 = .ok (.iload_n 1, 1) := by decide +kernel
theorem dX7_clear_12 : decode cX7_clear 12 = .ok (.iconst 0, 1) := by decide +kernel
theorem dX7_clear_13 : decode cX7_clear 13 = .ok (.bastore, 1) := by decide +kernel
theorem dX7_clear_14 : decode cX7_clear 14 = .ok (.iinc 1 1, 3) := by decide +kernel
theorem dX7_clear_17 : decode cX7_clear 17 = .ok (.goto (-15), 3) := by decide +kernel
theorem dX7_clear_20 : decode cX7_clear 20 = .ok (.return_, 1) := by decide +kernel
theorem dX7_put_0 : decode cX7_put 0 = .ok (.iload_n 1, 1) := by decide +kernel
theorem dX7_put_1 : decode cX7_put 1 = .ok (.iconst 0, 1) := by decide +kernel
theorem dX7_put_2 : decode cX7_put 2 = .ok (.iconst 1, 1) := by decide +kernel
theorem dX7_put_3 : decode cX7_put 3 = .ok (.invokestatic 22, 3) := by decide +kernel
theorem dX7_put_6 : decode cX7_put 6 = .ok (.ifCond .ne 20, 3) := by decide +kernel
theorem dX7_put_9 : decode cX7_put 9 = .ok (.aload_n 0, 1) := by decide +kernel
theorem dX7_put_10 : decode cX7_put 10 = .ok (.getfield 11, 3) := by decide +kernel
theorem dX7_put_13 : decode cX7_put 13 = .ok (.iload_n 1, 1) := by decide +kernel
theorem dX7_put_14 : decode cX7_put 14 = .ok (.aaload, 1) := by decide +kernel
theorem dX7_put_15 : decode cX7_put 15 = .ok (.aload_n 2, 1) := by decide +kernel
theorem dX7_put_16 : decode cX7_put 16 = .ok (.invokevirtual 26, 3) := by decide +kernel
theorem dX7_put_19 : decode cX7_put 19 = .ok (.aload_n 0, 1) := by decide +kernel
theorem dX7_put_20 : decode cX7_put 20 = .ok (.getfield 17, 3) := by decide +kernel
theorem dX7_put_23 : decode cX7_put 23 = .ok (.iload_n 1, 1) := by decide +kernel
theorem dX7_put_24 : decode cX7_put 24 = .ok (.iconst 1, 1) := by decide +kernel
theorem dX7_put_25 : decode cX7_put 25 = .ok (.bastore, 1) := by decide +kernel
theorem dX7_put_26 : decode cX7_put 26 = .ok (.return_, 1) := by decide +kernel
theorem dX7_giveBack_0 : decode cX7_giveBack 0 = .ok (.iload_n 1, 1) := by decide +kernel
theorem dX7_giveBack_1 : decode cX7_giveBack 1 = .ok (.iconst 0, 1) := by decide +kernel
theorem dX7_giveBack_2 : decode cX7_giveBack 2 = .ok (.iconst 1, 1) := by decide +kernel
theorem dX7_giveBack_3 : decode cX7_giveBack 3 = .ok (.invokestatic 22, 3) := by decide +kernel
theorem dX7_giveBack_6 : decode cX7_giveBack 6 = .ok (.ifCond .ne 12, 3) := by decide +kernel
theorem dX7_giveBack_9 : decode cX7_giveBack 9 = .ok (.aload_n 0, 1) := by decide +kernel
theorem dX7_giveBack_10 : decode cX7_giveBack 10 = .ok (.getfield 17, 3) := by decide +kernel
theorem dX7_giveBack_13 : decode cX7_giveBack 13 = .ok (.iload_n 1, 1) := by decide +kernel
theorem dX7_giveBack_14 : decode cX7_giveBack 14 = .ok (.baload, 1) := by decide +kernel
theorem dX7_giveBack_15 : decode cX7_giveBack 15 = .ok (.ifCond .ne 5, 3) := by decide +kernel
theorem dX7_giveBack_18 : decode cX7_giveBack 18 = .ok (.iconst 0, 1) := by decide +kernel
theorem dX7_giveBack_19 : decode cX7_giveBack 19 = .ok (.ireturn, 1) := by decide +kernel
theorem dX7_giveBack_20 : decode cX7_giveBack 20 = .ok (.aload_n 2, 1) := by decide +kernel
theorem dX7_giveBack_21 : decode cX7_giveBack 21 = .ok (.aload_n 0, 1) := by decide +kernel
theorem dX7_giveBack_22 : decode cX7_giveBack 22 = .ok (.getfield 11, 3) := by decide +kernel
theorem dX7_giveBack_25 : decode cX7_giveBack 25 = .ok (.iload_n 1, 1) := by decide +kernel
theorem dX7_giveBack_26 : decode cX7_giveBack 26 = .ok (.aaload, 1) := by decide +kernel
theorem dX7_giveBack_27 : decode cX7_giveBack 27 = .ok (.invokevirtual 26, 3) := by decide +kernel
theorem dX7_giveBack_30 : decode cX7_giveBack 30 = .ok (.iconst 1, 1) := by decide +kernel
theorem dX7_giveBack_31 : decode cX7_giveBack 31 = .ok (.ireturn, 1) := by decide +kernel
theorem dX8_init_0 : decode cX8_init 0 = .ok (.aload_n 0, 1) := by decide +kernel
theorem dX8_init_1 : decode cX8_init 1 = .ok (.invokespecial 3, 3) := by decide +kernel
theorem dX8_init_4 : decode cX8_init 4 = .ok (.aload_n 0, 1) := by decide +kernel
theorem dX8_init_5 : decode cX8_init 5 = .ok (.bipush 48, 2) := by decide +kernel
theorem dX8_init_7 : decode cX8_init 7 = .ok (.newarray .int, 2) := by decide +kernel
theorem dX8_init_9 : decode cX8_init 9 = .ok (.putfield 9, 3) := by decide +kernel
theorem dX8_init_12 : decode cX8_init 12 = .ok (.aload_n 0, 1) := by decide +kernel
theorem dX8_init_13 : decode cX8_init 13 = .ok (.iconst 0, 1) := by decide +kernel
theorem dX8_init_14 : decode cX8_init 14 = .ok (.putfield 15, 3) := by decide +kernel
theorem dX8_init_17 : decode cX8_init 17 = .ok (.aload_n 0, 1) := by decide +kernel
theorem dX8_init_18 : decode cX8_init 18 = .ok (.iconst 0, 1) := by decide +kernel
theorem dX8_init_19 : decode cX8_init 19 = .ok (.putfield 19, 3) := by decide +kernel
theorem dX8_init_22 : decode cX8_init 22 = .ok (.aload_n 0, 1) := by decide +kernel
theorem dX8_init_23 : decode cX8_init 23 = .ok (.iconst 0, 1) := by decide +kernel
theorem dX8_init_24 : decode cX8_init 24 = .ok (.putfield 22, 3) := by decide +kernel
theorem dX8_init_27 : decode cX8_init 27 = .ok (.return_, 1) := by decide +kernel
theorem dX8_length_0 : decode cX8_length 0 = .ok (.aload_n 0, 1) := by decide +kernel
theorem dX8_length_1 : decode cX8_length 1 = .ok (.getfield 15, 3) := by decide +kernel
theorem dX8_length_4 : decode cX8_length 4 = .ok (.ireturn, 1) := by decide +kernel
theorem dX8_clear_0 : decode cX8_clear 0 = .ok (.aload_n 0, 1) := by decide +kernel
theorem dX8_clear_1 : decode cX8_clear 1 = .ok (.iconst 0, 1) := by decide +kernel
theorem dX8_clear_2 : decode cX8_clear 2 = .ok (.putfield 15, 3) := by decide +kernel
theorem dX8_clear_5 : decode cX8_clear 5 = .ok (.return_, 1) := by decide +kernel
theorem dX8_add_0 : decode cX8_add 0 = .ok (.aload_n 0, 1) := by decide +kernel
theorem dX8_add_1 : decode cX8_add 1 = .ok (.getfield 15, 3) := by decide +kernel
theorem dX8_add_4 : decode cX8_add 4 = .ok (.bipush 48, 2) := by decide +kernel
theorem dX8_add_6 : decode cX8_add 6 = .ok (.if_icmp .lt 5, 3) := by decide +kernel
theorem dX8_add_9 : decode cX8_add 9 = .ok (.iconst 0, 1) := by decide +kernel
theorem dX8_add_10 : decode cX8_add 10 = .ok (.ireturn, 1) := by decide +kernel
theorem dX8_add_11 : decode cX8_add 11 = .ok (.aload_n 0, 1) := by decide +kernel
theorem dX8_add_12 : decode cX8_add 12 = .ok (.getfield 9, 3) := by decide +kernel
theorem dX8_add_15 : decode cX8_add 15 = .ok (.aload_n 0, 1) := by decide +kernel
theorem dX8_add_16 : decode cX8_add 16 = .ok (.getfield 15, 3) := by decide +kernel
theorem dX8_add_19 : decode cX8_add 19 = .ok (.iload_n 1, 1) := by decide +kernel
theorem dX8_add_20 : decode cX8_add 20 = .ok (.iastore, 1) := by decide +kernel
theorem dX8_add_21 : decode cX8_add 21 = .ok (.aload_n 0, 1) := by decide +kernel
theorem dX8_add_22 : decode cX8_add 22 = .ok (.dup, 1) := by decide +kernel
theorem dX8_add_23 : decode cX8_add 23 = .ok (.getfield 15, 3) := by decide +kernel
theorem dX8_add_26 : decode cX8_add 26 = .ok (.iconst 1, 1) := by decide +kernel
theorem dX8_add_27 : decode cX8_add 27 = .ok (.iadd, 1) := by decide +kernel
theorem dX8_add_28 : decode cX8_add 28 = .ok (.putfield 15, 3) := by decide +kernel
theorem dX8_add_31 : decode cX8_add 31 = .ok (.iconst 1, 1) := by decide +kernel
theorem dX8_add_32 : decode cX8_add 32 = .ok (.ireturn, 1) := by decide +kernel
theorem dX8_readOnto_0 : decode cX8_readOnto 0 = .ok (.aload_n 1, 1) := by decide +kernel
theorem dX8_readOnto_1 : decode cX8_readOnto 1 = .ok (.invokevirtual 25, 3) := by decide +kernel
theorem dX8_readOnto_4 : decode cX8_readOnto 4 = .ok (.aload_n 0, 1) := by decide +kernel
theorem dX8_readOnto_5 : decode cX8_readOnto 5 = .ok (.iconst 0, 1) := by decide +kernel
theorem dX8_readOnto_6 : decode cX8_readOnto 6 = .ok (.putfield 19, 3) := by decide +kernel
theorem dX8_readOnto_9 : decode cX8_readOnto 9 = .ok (.aload_n 0, 1) := by decide +kernel
theorem dX8_readOnto_10 : decode cX8_readOnto 10 = .ok (.iconst 0, 1) := by decide +kernel
theorem dX8_readOnto_11 : decode cX8_readOnto 11 = .ok (.putfield 22, 3) := by decide +kernel
theorem dX8_readOnto_14 : decode cX8_readOnto 14 = .ok (.iconst 0, 1) := by decide +kernel
theorem dX8_readOnto_15 : decode cX8_readOnto 15 = .ok (.istore_n 2, 1) := by decide +kernel
theorem dX8_readOnto_16 : decode cX8_readOnto 16 = .ok (.iload_n 2, 1) := by decide +kernel
theorem dX8_readOnto_17 : decode cX8_readOnto 17 = .ok (.aload_n 0, 1) := by decide +kernel
theorem dX8_readOnto_18 : decode cX8_readOnto 18 = .ok (.getfield 15, 3) := by decide +kernel
theorem dX8_readOnto_21 : decode cX8_readOnto 21 = .ok (.if_icmp .ge 25, 3) := by decide +kernel
theorem dX8_readOnto_24 : decode cX8_readOnto 24 = .ok (.aload_n 0, 1) := by decide +kernel
theorem dX8_readOnto_25 : decode cX8_readOnto 25 = .ok (.aload_n 0, 1) := by decide +kernel
theorem dX8_readOnto_26 : decode cX8_readOnto 26 = .ok (.getfield 9, 3) := by decide +kernel
theorem dX8_readOnto_29 : decode cX8_readOnto 29 = .ok (.iload_n 2, 1) := by decide +kernel
theorem dX8_readOnto_30 : decode cX8_readOnto 30 = .ok (.iaload, 1) := by decide +kernel
theorem dX8_readOnto_31 : decode cX8_readOnto 31 = .ok (.aload_n 1, 1) := by decide +kernel
theorem dX8_readOnto_32 : decode cX8_readOnto 32 = .ok (.invokevirtual 30, 3) := by decide +kernel
theorem dX8_readOnto_35 : decode cX8_readOnto 35 = .ok (.ifCond .ne 5, 3) := by decide +kernel
theorem dX8_readOnto_38 : decode cX8_readOnto 38 = .ok (.iload_n 2, 1) := by decide +kernel
theorem dX8_readOnto_39 : decode cX8_readOnto 39 = .ok (.ireturn, 1) := by decide +kernel
theorem dX8_readOnto_40 : decode cX8_readOnto 40 = .ok (.iinc 2 1, 3) := by decide +kernel
theorem dX8_readOnto_43 : decode cX8_readOnto 43 = .ok (.goto (-27), 3) := by decide +kernel
theorem dX8_readOnto_46 : decode cX8_readOnto 46 = .ok (.aload_n 0, 1) := by decide +kernel
theorem dX8_readOnto_47 : decode cX8_readOnto 47 = .ok (.getfield 19, 3) := by decide +kernel
theorem dX8_readOnto_50 : decode cX8_readOnto 50 = .ok (.iconst 1, 1) := by decide +kernel
theorem dX8_readOnto_51 : decode cX8_readOnto 51 = .ok (.if_icmp .eq 11, 3) := by decide +kernel
theorem dX8_readOnto_54 : decode cX8_readOnto 54 = .ok (.aload_n 0, 1) := by decide +kernel
theorem dX8_readOnto_55 : decode cX8_readOnto 55 = .ok (.getfield 19, 3) := by decide +kernel
theorem dX8_readOnto_58 : decode cX8_readOnto 58 = .ok (.iconst 4, 1) := by decide +kernel
theorem dX8_readOnto_59 : decode cX8_readOnto 59 = .ok (.if_icmp .ne 8, 3) := by decide +kernel
theorem dX8_readOnto_62 : decode cX8_readOnto 62 = .ok (.bipush (-9), 2) := by decide +kernel
theorem dX8_readOnto_64 : decode cX8_readOnto 64 = .ok (.goto 7, 3) := by decide +kernel
theorem dX8_readOnto_67 : decode cX8_readOnto 67 = .ok (.aload_n 0, 1) := by decide +kernel
theorem dX8_readOnto_68 : decode cX8_readOnto 68 = .ok (.getfield 15, 3) := by decide +kernel
theorem dX8_readOnto_71 : decode cX8_readOnto 71 = .ok (.ireturn, 1) := by decide +kernel
theorem dX8_goesOn_0 : decode cX8_goesOn 0 = .ok (.aload_n 0, 1) := by decide +kernel
theorem dX8_goesOn_1 : decode cX8_goesOn 1 = .ok (.getfield 19, 3) := by decide +kernel
theorem dX8_goesOn_4 : decode cX8_goesOn 4 = .ok (.tableswitch 120 0 3 #[32, 49, 56, 87], 32) := by decide +kernel
theorem dX8_goesOn_36 : decode cX8_goesOn 36 = .ok (.aload_n 0, 1) := by decide +kernel
theorem dX8_goesOn_37 : decode cX8_goesOn 37 = .ok (.iconst 1, 1) := by decide +kernel
theorem dX8_goesOn_38 : decode cX8_goesOn 38 = .ok (.putfield 19, 3) := by decide +kernel
theorem dX8_goesOn_41 : decode cX8_goesOn 41 = .ok (.iload_n 1, 1) := by decide +kernel
theorem dX8_goesOn_42 : decode cX8_goesOn 42 = .ok (.bipush 78, 2) := by decide +kernel
theorem dX8_goesOn_44 : decode cX8_goesOn 44 = .ok (.if_icmp .ne 7, 3) := by decide +kernel
theorem dX8_goesOn_47 : decode cX8_goesOn 47 = .ok (.iconst 1, 1) := by decide +kernel
theorem dX8_goesOn_48 : decode cX8_goesOn 48 = .ok (.goto 4, 3) := by decide +kernel
theorem dX8_goesOn_51 : decode cX8_goesOn 51 = .ok (.iconst 0, 1) := by decide +kernel
theorem dX8_goesOn_52 : decode cX8_goesOn 52 = .ok (.ireturn, 1) := by decide +kernel
theorem dX8_goesOn_53 : decode cX8_goesOn 53 = .ok (.aload_n 0, 1) := by decide +kernel
theorem dX8_goesOn_54 : decode cX8_goesOn 54 = .ok (.iload_n 1, 1) := by decide +kernel
theorem dX8_goesOn_55 : decode cX8_goesOn 55 = .ok (.aload_n 2, 1) := by decide +kernel
theorem dX8_goesOn_56 : decode cX8_goesOn 56 = .ok (.invokevirtual 34, 3) := by decide +kernel
theorem dX8_goesOn_59 : decode cX8_goesOn 59 = .ok (.ireturn, 1) := by decide +kernel
theorem dX8_goesOn_60 : decode cX8_goesOn 60 = .ok (.aload_n 0, 1) := by decide +kernel
theorem dX8_goesOn_61 : decode cX8_goesOn 61 = .ok (.iload_n 1, 1) := by decide +kernel
theorem dX8_goesOn_62 : decode cX8_goesOn 62 = .ok (.bipush 48, 2) := by decide +kernel
theorem dX8_goesOn_64 : decode cX8_goesOn 64 = .ok (.isub, 1) := by decide +kernel
theorem dX8_goesOn_65 : decode cX8_goesOn 65 = .ok (.putfield 22, 3) := by decide +kernel
theorem dX8_goesOn_68 : decode cX8_goesOn 68 = .ok (.aload_n 0, 1) := by decide +kernel
theorem dX8_goesOn_69 : decode cX8_goesOn 69 = .ok (.iconst 3, 1) := by decide +kernel
theorem dX8_goesOn_70 : decode cX8_goesOn 70 = .ok (.putfield 19, 3) := by decide +kernel
theorem dX8_goesOn_73 : decode cX8_goesOn 73 = .ok (.aload_n 0, 1) := by decide +kernel
theorem dX8_goesOn_74 : decode cX8_goesOn 74 = .ok (.getfield 22, 3) := by decide +kernel
theorem dX8_goesOn_77 : decode cX8_goesOn 77 = .ok (.iconst 0, 1) := by decide +kernel
theorem dX8_goesOn_78 : decode cX8_goesOn 78 = .ok (.iconst 3, 1) := by decide +kernel
theorem dX8_goesOn_79 : decode cX8_goesOn 79 = .ok (.invokestatic 37, 3) := by decide +kernel
theorem dX8_goesOn_82 : decode cX8_goesOn 82 = .ok (.ifCond .ne 7, 3) := by decide +kernel
theorem dX8_goesOn_85 : decode cX8_goesOn 85 = .ok (.iconst 1, 1) := by decide +kernel
theorem dX8_goesOn_86 : decode cX8_goesOn 86 = .ok (.goto 4, 3) := by decide +kernel
theorem dX8_goesOn_89 : decode cX8_goesOn 89 = .ok (.iconst 0, 1) := by decide +kernel
theorem dX8_goesOn_90 : decode cX8_goesOn 90 = .ok (.ireturn, 1) := by decide +kernel
theorem dX8_goesOn_91 : decode cX8_goesOn 91 = .ok (.aload_n 0, 1) := by decide +kernel
theorem dX8_goesOn_92 : decode cX8_goesOn 92 = .ok (.iconst 4, 1) := by decide +kernel
theorem dX8_goesOn_93 : decode cX8_goesOn 93 = .ok (.putfield 19, 3) := by decide +kernel
theorem dX8_goesOn_96 : decode cX8_goesOn 96 = .ok (.iload_n 1, 1) := by decide +kernel
theorem dX8_goesOn_97 : decode cX8_goesOn 97 = .ok (.invokestatic 41, 3) := by decide +kernel
theorem dX8_goesOn_100 : decode cX8_goesOn 100 = .ok (.ifCond .eq 22, 3) := by decide +kernel
theorem dX8_goesOn_103 : decode cX8_goesOn 103 = .ok (.aload_n 2, 1) := by decide +kernel
theorem dX8_goesOn_104 : decode cX8_goesOn 104 = .ok (.aload_n 0, 1) := by decide +kernel
theorem dX8_goesOn_105 : decode cX8_goesOn 105 = .ok (.getfield 22, 3) := by decide +kernel
theorem dX8_goesOn_108 : decode cX8_goesOn 108 = .ok (.iload_n 1, 1) := by decide +kernel
theorem dX8_goesOn_109 : decode cX8_goesOn 109 = .ok (.bipush 97, 2) := by decide +kernel
theorem dX8_goesOn_111 : decode cX8_goesOn 111 = .ok (.isub, 1) := by decide +kernel
theorem dX8_goesOn_112 : decode cX8_goesOn 112 = .ok (.invokevirtual 45, 3) := by decide +kernel
theorem dX8_goesOn_115 : decode cX8_goesOn 115 = .ok (.ifCond .eq 7, 3) := by decide +kernel
theorem dX8_goesOn_118 : decode cX8_goesOn 118 = .ok (.iconst 1, 1) := by decide +kernel
theorem dX8_goesOn_119 : decode cX8_goesOn 119 = .ok (.goto 4, 3) := by decide +kernel
theorem dX8_goesOn_122 : decode cX8_goesOn 122 = .ok (.iconst 0, 1) := by decide +kernel
theorem dX8_goesOn_123 : decode cX8_goesOn 123 = .ok (.ireturn, 1) := by decide +kernel
theorem dX8_goesOn_124 : decode cX8_goesOn 124 = .ok (.iload_n 1, 1) := by decide +kernel
theorem dX8_goesOn_125 : decode cX8_goesOn 125 = .ok (.invokestatic 41, 3) := by decide +kernel
theorem dX8_goesOn_128 : decode cX8_goesOn 128 = .ok (.ifCond .eq 15, 3) := by decide +kernel
theorem dX8_goesOn_131 : decode cX8_goesOn 131 = .ok (.aload_n 0, 1) := by decide +kernel
theorem dX8_goesOn_132 : decode cX8_goesOn 132 = .ok (.iload_n 1, 1) := by decide +kernel
theorem dX8_goesOn_133 : decode cX8_goesOn 133 = .ok (.bipush 97, 2) := by decide +kernel
theorem dX8_goesOn_135 : decode cX8_goesOn 135 = .ok (.isub, 1) := by decide +kernel
theorem dX8_goesOn_136 : decode cX8_goesOn 136 = .ok (.aload_n 2, 1) := by decide +kernel
theorem dX8_goesOn_137 : decode cX8_goesOn 137 = .ok (.invokevirtual 49, 3) := by decide +kernel
theorem dX8_goesOn_140 : decode cX8_goesOn 140 = .ok (.goto 9, 3) := by decide +kernel
theorem dX8_goesOn_143 : decode cX8_goesOn 143 = .ok (.aload_n 0, 1) := by decide +kernel
theorem dX8_goesOn_144 : decode cX8_goesOn 144 = .ok (.iload_n 1, 1) := by decide +kernel
theorem dX8_goesOn_145 : decode cX8_goesOn 145 = .ok (.aload_n 2, 1) := by decide +kernel
theorem dX8_goesOn_146 : decode cX8_goesOn 146 = .ok (.invokevirtual 34, 3) := by decide +kernel
theorem dX8_goesOn_149 : decode cX8_goesOn 149 = .ok (.ireturn, 1) := by decide +kernel
theorem dX8_beginsThread_0 : decode cX8_beginsThread 0 = .ok (.aload_n 0, 1) := by decide +kernel
theorem dX8_beginsThread_1 : decode cX8_beginsThread 1 = .ok (.iconst 2, 1) := by decide +kernel
theorem dX8_beginsThread_2 : decode cX8_beginsThread 2 = .ok (.putfield 19, 3) := by decide +kernel
theorem dX8_beginsThread_5 : decode cX8_beginsThread 5 = .ok (.iload_n 1, 1) := by decide +kernel
theorem dX8_beginsThread_6 : decode cX8_beginsThread 6 = .ok (.bipush 84, 2) := by decide +kernel
theorem dX8_beginsThread_8 : decode cX8_beginsThread 8 = .ok (.if_icmp .ne 15, 3) := by decide +kernel
theorem dX8_beginsThread_11 : decode cX8_beginsThread 11 = .ok (.aload_n 2, 1) := by decide +kernel
theorem dX8_beginsThread_12 : decode cX8_beginsThread 12 = .ok (.invokevirtual 52, 3) := by decide +kernel
theorem dX8_beginsThread_15 : decode cX8_beginsThread 15 = .ok (.iconst 4, 1) := by decide +kernel
theorem dX8_beginsThread_16 : decode cX8_beginsThread 16 = .ok (.if_icmp .ge 7, 3) := by decide +kernel
theorem dX8_beginsThread_19 : decode cX8_beginsThread 19 = .ok (.iconst 1, 1) := by decide +kernel
theorem dX8_beginsThread_20 : decode cX8_beginsThread 20 = .ok (.goto 4, 3) := by decide +kernel
theorem dX8_beginsThread_23 : decode cX8_beginsThread 23 = .ok (.iconst 0, 1) := by decide +kernel
theorem dX8_beginsThread_24 : decode cX8_beginsThread 24 = .ok (.ireturn, 1) := by decide +kernel
theorem dX8_windsOn_0 : decode cX8_windsOn 0 = .ok (.aload_n 2, 1) := by decide +kernel
theorem dX8_windsOn_1 : decode cX8_windsOn 1 = .ok (.invokevirtual 52, 3) := by decide +kernel
theorem dX8_windsOn_4 : decode cX8_windsOn 4 = .ok (.iconst 1, 1) := by decide +kernel
theorem dX8_windsOn_5 : decode cX8_windsOn 5 = .ok (.isub, 1) := by decide +kernel
theorem dX8_windsOn_6 : decode cX8_windsOn 6 = .ok (.istore_n 3, 1) := by decide +kernel
theorem dX8_windsOn_7 : decode cX8_windsOn 7 = .ok (.aload_n 2, 1) := by decide +kernel
theorem dX8_windsOn_8 : decode cX8_windsOn 8 = .ok (.iload_n 3, 1) := by decide +kernel
theorem dX8_windsOn_9 : decode cX8_windsOn 9 = .ok (.invokevirtual 56, 3) := by decide +kernel
theorem dX8_windsOn_12 : decode cX8_windsOn 12 = .ok (.iconst 1, 1) := by decide +kernel
theorem dX8_windsOn_13 : decode cX8_windsOn 13 = .ok (.iadd, 1) := by decide +kernel
theorem dX8_windsOn_14 : decode cX8_windsOn 14 = .ok (.bipush 9, 2) := by decide +kernel
theorem dX8_windsOn_16 : decode cX8_windsOn 16 = .ok (.if_icmp .ge 12, 3) := by decide +kernel
theorem dX8_windsOn_19 : decode cX8_windsOn 19 = .ok (.aload_n 2, 1) := by decide +kernel
theorem dX8_windsOn_20 : decode cX8_windsOn 20 = .ok (.iload_n 3, 1) := by decide +kernel
theorem dX8_windsOn_21 : decode cX8_windsOn 21 = .ok (.iload_n 1, 1) := by decide +kernel
theorem dX8_windsOn_22 : decode cX8_windsOn 22 = .ok (.invokevirtual 60, 3) := by decide +kernel
theorem dX8_windsOn_25 : decode cX8_windsOn 25 = .ok (.ifCond .ne 5, 3) := by decide +kernel
theorem dX8_windsOn_28 : decode cX8_windsOn 28 = .ok (.iconst 0, 1) := by decide +kernel
theorem dX8_windsOn_29 : decode cX8_windsOn 29 = .ok (.ireturn, 1) := by decide +kernel
theorem dX8_windsOn_30 : decode cX8_windsOn 30 = .ok (.aload_n 2, 1) := by decide +kernel
theorem dX8_windsOn_31 : decode cX8_windsOn 31 = .ok (.iload_n 3, 1) := by decide +kernel
theorem dX8_windsOn_32 : decode cX8_windsOn 32 = .ok (.iload_n 1, 1) := by decide +kernel
theorem dX8_windsOn_33 : decode cX8_windsOn 33 = .ok (.invokevirtual 63, 3) := by decide +kernel
theorem dX8_windsOn_36 : decode cX8_windsOn 36 = .ok (.pop, 1) := by decide +kernel
theorem dX8_windsOn_37 : decode cX8_windsOn 37 = .ok (.iconst 1, 1) := by decide +kernel
theorem dX8_windsOn_38 : decode cX8_windsOn 38 = .ok (.ireturn, 1) := by decide +kernel
theorem dX8_isNail_0 : decode cX8_isNail 0 = .ok (.iload_n 0, 1) := by decide +kernel
theorem dX8_isNail_1 : decode cX8_isNail 1 = .ok (.bipush 97, 2) := by decide +kernel
theorem dX8_isNail_3 : decode cX8_isNail 3 = .ok (.isub, 1) := by decide +kernel
theorem dX8_isNail_4 : decode cX8_isNail 4 = .ok (.iconst 0, 1) := by decide +kernel
theorem dX8_isNail_5 : decode cX8_isNail 5 = .ok (.bipush 11, 2) := by decide +kernel
theorem dX8_isNail_7 : decode cX8_isNail 7 = .ok (.invokestatic 37, 3) := by decide +kernel
theorem dX8_isNail_10 : decode cX8_isNail 10 = .ok (.ifCond .ne 7, 3) := by decide +kernel
theorem dX8_isNail_13 : decode cX8_isNail 13 = .ok (.iconst 1, 1) := by decide +kernel
theorem dX8_isNail_14 : decode cX8_isNail 14 = .ok (.goto 4, 3) := by decide +kernel
theorem dX8_isNail_17 : decode cX8_isNail 17 = .ok (.iconst 0, 1) := by decide +kernel
theorem dX8_isNail_18 : decode cX8_isNail 18 = .ok (.ireturn, 1) := by decide +kernel
theorem dX9_init_0 : decode cX9_init 0 = .ok (.aload_n 0, 1) := by decide +kernel
theorem dX9_init_1 : decode cX9_init 1 = .ok (.invokespecial 3, 3) := by decide +kernel
theorem dX9_init_4 : decode cX9_init 4 = .ok (.aload_n 0, 1) := by decide +kernel
theorem dX9_init_5 : decode cX9_init 5 = .ok (.bipush 12, 2) := by decide +kernel
theorem dX9_init_7 : decode cX9_init 7 = .ok (.newarray .int, 2) := by decide +kernel
theorem dX9_init_9 : decode cX9_init 9 = .ok (.putfield 9, 3) := by decide +kernel
theorem dX9_init_12 : decode cX9_init 12 = .ok (.return_, 1) := by decide +kernel
theorem dX9_draw_0 : decode cX9_draw 0 = .ok (.iconst 0, 1) := by decide +kernel
theorem dX9_draw_1 : decode cX9_draw 1 = .ok (.istore_n 2, 1) := by decide +kernel
theorem dX9_draw_2 : decode cX9_draw 2 = .ok (.iload_n 2, 1) := by decide +kernel
theorem dX9_draw_3 : decode cX9_draw 3 = .ok (.bipush 12, 2) := by decide +kernel
theorem dX9_draw_5 : decode cX9_draw 5 = .ok (.if_icmp .ge 16, 3) := by decide +kernel
theorem dX9_draw_8 : decode cX9_draw 8 = .ok (.aload_n 0, 1) := by decide +kernel
theorem dX9_draw_9 : decode cX9_draw 9 = .ok (.getfield 9, 3) := by decide +kernel
theorem dX9_draw_12 : decode cX9_draw 12 = .ok (.iload_n 2, 1) := by decide +kernel
theorem dX9_draw_13 : decode cX9_draw 13 = .ok (.iconst 0, 1) := by decide +kernel
theorem dX9_draw_14 : decode cX9_draw 14 = .ok (.iastore, 1) := by decide +kernel
theorem dX9_draw_15 : decode cX9_draw 15 = .ok (.iinc 2 1, 3) := by decide +kernel
theorem dX9_draw_18 : decode cX9_draw 18 = .ok (.goto (-16), 3) := by decide +kernel
theorem dX9_draw_21 : decode cX9_draw 21 = .ok (.iconst 0, 1) := by decide +kernel
theorem dX9_draw_22 : decode cX9_draw 22 = .ok (.istore_n 2, 1) := by decide +kernel
theorem dX9_draw_23 : decode cX9_draw 23 = .ok (.iload_n 2, 1) := by decide +kernel
theorem dX9_draw_24 : decode cX9_draw 24 = .ok (.aload_n 1, 1) := by decide +kernel
theorem dX9_draw_25 : decode cX9_draw 25 = .ok (.invokevirtual 15, 3) := by decide +kernel
theorem dX9_draw_28 : decode cX9_draw 28 = .ok (.if_icmp .ge 23, 3) := by decide +kernel
theorem dX9_draw_31 : decode cX9_draw 31 = .ok (.aload_n 0, 1) := by decide +kernel
theorem dX9_draw_32 : decode cX9_draw 32 = .ok (.aload_n 1, 1) := by decide +kernel
theorem dX9_draw_33 : decode cX9_draw 33 = .ok (.iload_n 2, 1) := by decide +kernel
theorem dX9_draw_34 : decode cX9_draw 34 = .ok (.invokevirtual 21, 3) := by decide +kernel
theorem dX9_draw_37 : decode cX9_draw 37 = .ok (.aload_n 1, 1) := by decide +kernel
theorem dX9_draw_38 : decode cX9_draw 38 = .ok (.iload_n 2, 1) := by decide +kernel
theorem dX9_draw_39 : decode cX9_draw 39 = .ok (.invokevirtual 25, 3) := by decide +kernel
theorem dX9_draw_42 : decode cX9_draw 42 = .ok (.invokevirtual 28, 3) := by decide +kernel
theorem dX9_draw_45 : decode cX9_draw 45 = .ok (.iinc 2 1, 3) := by decide +kernel
theorem dX9_draw_48 : decode cX9_draw 48 = .ok (.goto (-25), 3) := by decide +kernel
theorem dX9_draw_51 : decode cX9_draw 51 = .ok (.return_, 1) := by decide +kernel
theorem dX9_join_0 : decode cX9_join 0 = .ok (.iload_n 1, 1) := by decide +kernel
theorem dX9_join_1 : decode cX9_join 1 = .ok (.iconst 0, 1) := by decide +kernel
theorem dX9_join_2 : decode cX9_join 2 = .ok (.bipush 11, 2) := by decide +kernel
theorem dX9_join_4 : decode cX9_join 4 = .ok (.invokestatic 32, 3) := by decide +kernel
theorem dX9_join_7 : decode cX9_join 7 = .ok (.ifCond .ne 37, 3) := by decide +kernel
theorem dX9_join_10 : decode cX9_join 10 = .ok (.iload_n 2, 1) := by decide +kernel
theorem dX9_join_11 : decode cX9_join 11 = .ok (.iconst 0, 1) := by decide +kernel
theorem dX9_join_12 : decode cX9_join 12 = .ok (.bipush 11, 2) := by decide +kernel
theorem dX9_join_14 : decode cX9_join 14 = .ok (.invokestatic 32, 3) := by decide +kernel
theorem dX9_join_17 : decode cX9_join 17 = .ok (.ifCond .ne 27, 3) := by decide +kernel
theorem dX9_join_20 : decode cX9_join 20 = .ok (.aload_n 0, 1) := by decide +kernel
theorem dX9_join_21 : decode cX9_join 21 = .ok (.getfield 9, 3) := by decide +kernel
theorem dX9_join_24 : decode cX9_join 24 = .ok (.iload_n 1, 1) := by decide +kernel
theorem dX9_join_25 : decode cX9_join 25 = .ok (.dup2, 1) := by decide +kernel
theorem dX9_join_26 : decode cX9_join 26 = .ok (.iaload, 1) := by decide +kernel
theorem dX9_join_27 : decode cX9_join 27 = .ok (.iconst 1, 1) := by decide +kernel
theorem dX9_join_28 : decode cX9_join 28 = .ok (.iload_n 2, 1) := by decide +kernel
theorem dX9_join_29 : decode cX9_join 29 = .ok (.ishl, 1) := by decide +kernel
theorem dX9_join_30 : decode cX9_join 30 = .ok (.ior, 1) := by decide +kernel
theorem dX9_join_31 : decode cX9_join 31 = .ok (.iastore, 1) := by decide +kernel
theorem dX9_join_32 : decode cX9_join 32 = .ok (.aload_n 0, 1) := by decide +kernel
theorem dX9_join_33 : decode cX9_join 33 = .ok (.getfield 9, 3) := by decide +kernel
theorem dX9_join_36 : decode cX9_join 36 = .ok (.iload_n 2, 1) := by decide +kernel
theorem dX9_join_37 : decode cX9_join 37 = .ok (.dup2, 1) := by decide +kernel
theorem dX9_join_38 : decode cX9_join 38 = .ok (.iaload, 1) := by decide +kernel
theorem dX9_join_39 : decode cX9_join 39 = .ok (.iconst 1, 1) := by decide +kernel
theorem dX9_join_40 : decode cX9_join 40 = .ok (.iload_n 1, 1) := by decide +kernel
theorem dX9_join_41 : decode cX9_join 41 = .ok (.ishl, 1) := by decide +kernel
theorem dX9_join_42 : decode cX9_join 42 = .ok (.ior, 1) := by decide +kernel
theorem dX9_join_43 : decode cX9_join 43 = .ok (.iastore, 1) := by decide +kernel
theorem dX9_join_44 : decode cX9_join 44 = .ok (.return_, 1) := by decide +kernel
theorem dX9_areJoined_0 : decode cX9_areJoined 0 = .ok (.aload_n 0, 1) := by decide +kernel
theorem dX9_areJoined_1 : decode cX9_areJoined 1 = .ok (.getfield 9, 3) := by decide +kernel
theorem dX9_areJoined_4 : decode cX9_areJoined 4 = .ok (.iload_n 1, 1) := by decide +kernel
theorem dX9_areJoined_5 : decode cX9_areJoined 5 = .ok (.iaload, 1) := by decide +kernel
theorem dX9_areJoined_6 : decode cX9_areJoined 6 = .ok (.iload_n 2, 1) := by decide +kernel
theorem dX9_areJoined_7 : decode cX9_areJoined 7 = .ok (.ishr, 1) := by decide +kernel
theorem dX9_areJoined_8 : decode cX9_areJoined 8 = .ok (.iconst 1, 1) := by decide +kernel
theorem dX9_areJoined_9 : decode cX9_areJoined 9 = .ok (.iand, 1) := by decide +kernel
theorem dX9_areJoined_10 : decode cX9_areJoined 10 = .ok (.iconst 1, 1) := by decide +kernel
theorem dX9_areJoined_11 : decode cX9_areJoined 11 = .ok (.if_icmp .ne 7, 3) := by decide +kernel
theorem dX9_areJoined_14 : decode cX9_areJoined 14 = .ok (.iconst 1, 1) := by decide +kernel
theorem dX9_areJoined_15 : decode cX9_areJoined 15 = .ok (.goto 4, 3) := by decide +kernel
theorem dX9_areJoined_18 : decode cX9_areJoined 18 = .ok (.iconst 0, 1) := by decide +kernel
theorem dX9_areJoined_19 : decode cX9_areJoined 19 = .ok (.ireturn, 1) := by decide +kernel
theorem dX9_partsOf_0 : decode cX9_partsOf 0 = .ok (.aload_n 0, 1) := by decide +kernel
theorem dX9_partsOf_1 : decode cX9_partsOf 1 = .ok (.aload_n 1, 1) := by decide +kernel
theorem dX9_partsOf_2 : decode cX9_partsOf 2 = .ok (.invokevirtual 36, 3) := by decide +kernel
theorem dX9_partsOf_5 : decode cX9_partsOf 5 = .ok (.iconst 1, 1) := by decide +kernel
theorem dX9_partsOf_6 : decode cX9_partsOf 6 = .ok (.istore_n 2, 1) := by decide +kernel
theorem dX9_partsOf_7 : decode cX9_partsOf 7 = .ok (.iconst 0, 1) := by decide +kernel
theorem dX9_partsOf_8 : decode cX9_partsOf 8 = .ok (.istore_n 3, 1) := by decide +kernel
theorem dX9_partsOf_9 : decode cX9_partsOf 9 = .ok (.iload_n 3, 1) := by decide +kernel
theorem dX9_partsOf_10 : decode cX9_partsOf 10 = .ok (.bipush 12, 2) := by decide +kernel
theorem dX9_partsOf_12 : decode cX9_partsOf 12 = .ok (.if_icmp .ge 49, 3) := by decide +kernel
theorem dX9_partsOf_15 : decode cX9_partsOf 15 = .ok (.iload_n 3, 1) := by decide +kernel
theorem dX9_partsOf_16 : decode cX9_partsOf 16 = .ok (.iconst 1, 1) := by decide +kernel
theorem dX9_partsOf_17 : decode cX9_partsOf 17 = .ok (.iadd, 1) := by decide +kernel
theorem dX9_partsOf_18 : decode cX9_partsOf 18 = .ok (.istore 4, 2) := by decide +kernel
theorem dX9_partsOf_20 : decode cX9_partsOf 20 = .ok (.iload 4, 2) := by decide +kernel
theorem dX9_partsOf_22 : decode cX9_partsOf 22 = .ok (.bipush 12, 2) := by decide +kernel
theorem dX9_partsOf_24 : decode cX9_partsOf 24 = .ok (.if_icmp .ge 31, 3) := by decide +kernel
theorem dX9_partsOf_27 : decode cX9_partsOf 27 = .ok (.aload_n 0, 1) := by decide +kernel
theorem dX9_partsOf_28 : decode cX9_partsOf 28 = .ok (.iload_n 3, 1) := by decide +kernel
theorem dX9_partsOf_29 : decode cX9_partsOf 29 = .ok (.iload 4, 2) := by decide +kernel
theorem dX9_partsOf_31 : decode cX9_partsOf 31 = .ok (.invokevirtual 40, 3) := by decide +kernel
theorem dX9_partsOf_34 : decode cX9_partsOf 34 = .ok (.ifCond .eq 15, 3) := by decide +kernel
theorem dX9_partsOf_37 : decode cX9_partsOf 37 = .ok (.iload_n 2, 1) := by decide +kernel
theorem dX9_partsOf_38 : decode cX9_partsOf 38 = .ok (.iconst 1, 1) := by decide +kernel
theorem dX9_partsOf_39 : decode cX9_partsOf 39 = .ok (.aload_n 0, 1) := by decide +kernel
theorem dX9_partsOf_40 : decode cX9_partsOf 40 = .ok (.iload_n 3, 1) := by decide +kernel
theorem dX9_partsOf_41 : decode cX9_partsOf 41 = .ok (.iload 4, 2) := by decide +kernel
theorem dX9_partsOf_43 : decode cX9_partsOf 43 = .ok (.invokevirtual 44, 3) := by decide +kernel
theorem dX9_partsOf_46 : decode cX9_partsOf 46 = .ok (.iadd, 1) := by decide +kernel
theorem dX9_partsOf_47 : decode cX9_partsOf 47 = .ok (.iadd, 1) := by decide +kernel
theorem dX9_partsOf_48 : decode cX9_partsOf 48 = .ok (.istore_n 2, 1) := by decide +kernel
theorem dX9_partsOf_49 : decode cX9_partsOf 49 = .ok (.iinc 4 1, 3) := by decide +kernel
theorem dX9_partsOf_52 : decode cX9_partsOf 52 = .ok (.goto (-32), 3) := by decide +kernel
theorem dX9_partsOf_55 : decode cX9_partsOf 55 = .ok (.iinc 3 1, 3) := by decide +kernel
theorem dX9_partsOf_58 : decode cX9_partsOf 58 = .ok (.goto (-49), 3) := by decide +kernel
theorem dX9_partsOf_61 : decode cX9_partsOf 61 = .ok (.iload_n 2, 1) := by decide +kernel
theorem dX9_partsOf_62 : decode cX9_partsOf 62 = .ok (.ireturn, 1) := by decide +kernel
theorem dX9_crossedUpwards_0 : decode cX9_crossedUpwards 0 = .ok (.iconst 0, 1) := by decide +kernel
theorem dX9_crossedUpwards_1 : decode cX9_crossedUpwards 1 = .ok (.istore_n 3, 1) := by decide +kernel
theorem dX9_crossedUpwards_2 : decode cX9_crossedUpwards 2 = .ok (.iload_n 1, 1) := by decide +kernel
theorem dX9_crossedUpwards_3 : decode cX9_crossedUpwards 3 = .ok (.iconst 1, 1) := by decide +kernel
theorem dX9_crossedUpwards_4 : decode cX9_crossedUpwards 4 = .ok (.iadd, 1) := by decide +kernel
theorem dX9_crossedUpwards_5 : decode cX9_crossedUpwards 5 = .ok (.istore 4, 2) := by decide +kernel
theorem dX9_crossedUpwards_7 : decode cX9_crossedUpwards 7 = .ok (.iload 4, 2) := by decide +kernel
theorem dX9_crossedUpwards_9 : decode cX9_crossedUpwards 9 = .ok (.iload_n 2, 1) := by decide +kernel
theorem dX9_crossedUpwards_10 : decode cX9_crossedUpwards 10 = .ok (.if_icmp .ge 26, 3) := by decide +kernel
theorem dX9_crossedUpwards_13 : decode cX9_crossedUpwards 13 = .ok (.iload_n 3, 1) := by decide +kernel
theorem dX9_crossedUpwards_14 : decode cX9_crossedUpwards 14 = .ok (.aload_n 0, 1) := by decide +kernel
theorem dX9_crossedUpwards_15 : decode cX9_crossedUpwards 15 = .ok (.getfield 9, 3) := by decide +kernel
theorem dX9_crossedUpwards_18 : decode cX9_crossedUpwards 18 = .ok (.iload 4, 2) := by decide +kernel
theorem dX9_crossedUpwards_20 : decode cX9_crossedUpwards 20 = .ok (.iaload, 1) := by decide +kernel
theorem dX9_crossedUpwards_21 : decode cX9_crossedUpwards 21 = .ok (.iload_n 2, 1) := by decide +kernel
theorem dX9_crossedUpwards_22 : decode cX9_crossedUpwards 22 = .ok (.iconst 1, 1) := by decide +kernel
theorem dX9_crossedUpwards_23 : decode cX9_crossedUpwards 23 = .ok (.iadd, 1) := by decide +kernel
theorem dX9_crossedUpwards_24 : decode cX9_crossedUpwards 24 = .ok (.ishr, 1) := by decide +kernel
theorem dX9_crossedUpwards_25 : decode cX9_crossedUpwards 25 = .ok (.invokestatic 48, 3) := by decide +kernel
theorem dX9_crossedUpwards_28 : decode cX9_crossedUpwards 28 = .ok (.iadd, 1) := by decide +kernel
theorem dX9_crossedUpwards_29 : decode cX9_crossedUpwards 29 = .ok (.istore_n 3, 1) := by decide +kernel
theorem dX9_crossedUpwards_30 : decode cX9_crossedUpwards 30 = .ok (.iinc 4 1, 3) := by decide +kernel
theorem dX9_crossedUpwards_33 : decode cX9_crossedUpwards 33 = .ok (.goto (-26), 3) := by decide +kernel
theorem dX9_crossedUpwards_36 : decode cX9_crossedUpwards 36 = .ok (.iload_n 3, 1) := by decide +kernel
theorem dX9_crossedUpwards_37 : decode cX9_crossedUpwards 37 = .ok (.ireturn, 1) := by decide +kernel
theorem dX9_strokesOf_0 : decode cX9_strokesOf 0 = .ok (.aload_n 0, 1) := by decide +kernel
theorem dX9_strokesOf_1 : decode cX9_strokesOf 1 = .ok (.aload_n 1, 1) := by decide +kernel
theorem dX9_strokesOf_2 : decode cX9_strokesOf 2 = .ok (.invokevirtual 36, 3) := by decide +kernel
theorem dX9_strokesOf_5 : decode cX9_strokesOf 5 = .ok (.iconst 0, 1) := by decide +kernel
theorem dX9_strokesOf_6 : decode cX9_strokesOf 6 = .ok (.istore_n 2, 1) := by decide +kernel
theorem dX9_strokesOf_7 : decode cX9_strokesOf 7 = .ok (.iconst 0, 1) := by decide +kernel
theorem dX9_strokesOf_8 : decode cX9_strokesOf 8 = .ok (.istore_n 3, 1) := by decide +kernel
theorem dX9_strokesOf_9 : decode cX9_strokesOf 9 = .ok (.iconst 0, 1) := by decide +kernel
theorem dX9_strokesOf_10 : decode cX9_strokesOf 10 = .ok (.istore 4, 2) := by decide +kernel
theorem dX9_strokesOf_12 : decode cX9_strokesOf 12 = .ok (.iload 4, 2) := by decide +kernel
theorem dX9_strokesOf_14 : decode cX9_strokesOf 14 = .ok (.bipush 12, 2) := by decide +kernel
theorem dX9_strokesOf_16 : decode cX9_strokesOf 16 = .ok (.if_icmp .ge 56, 3) := by decide +kernel
theorem dX9_strokesOf_19 : decode cX9_strokesOf 19 = .ok (.aload_n 0, 1) := by decide +kernel
theorem dX9_strokesOf_20 : decode cX9_strokesOf 20 = .ok (.getfield 9, 3) := by decide +kernel
theorem dX9_strokesOf_23 : decode cX9_strokesOf 23 = .ok (.iload 4, 2) := by decide +kernel
theorem dX9_strokesOf_25 : decode cX9_strokesOf 25 = .ok (.iaload, 1) := by decide +kernel
theorem dX9_strokesOf_26 : decode cX9_strokesOf 26 = .ok (.ifCond .eq 40, 3) := by decide +kernel
theorem dX9_strokesOf_29 : decode cX9_strokesOf 29 = .ok (.iload_n 3, 1) := by decide +kernel
theorem dX9_strokesOf_30 : decode cX9_strokesOf 30 = .ok (.iload 4, 2) := by decide +kernel
theorem dX9_strokesOf_32 : decode cX9_strokesOf 32 = .ok (.ishr, 1) := by decide +kernel
theorem dX9_strokesOf_33 : decode cX9_strokesOf 33 = .ok (.iconst 1, 1) := by decide +kernel
theorem dX9_strokesOf_34 : decode cX9_strokesOf 34 = .ok (.iand, 1) := by decide +kernel
theorem dX9_strokesOf_35 : decode cX9_strokesOf 35 = .ok (.ifCond .ne 31, 3) := by decide +kernel
theorem dX9_strokesOf_38 : decode cX9_strokesOf 38 = .ok (.aload_n 0, 1) := by decide +kernel
theorem dX9_strokesOf_39 : decode cX9_strokesOf 39 = .ok (.iload 4, 2) := by decide +kernel
theorem dX9_strokesOf_41 : decode cX9_strokesOf 41 = .ok (.invokevirtual 53, 3) := by decide +kernel
theorem dX9_strokesOf_44 : decode cX9_strokesOf 44 = .ok (.istore 5, 2) := by decide +kernel
theorem dX9_strokesOf_46 : decode cX9_strokesOf 46 = .ok (.iload_n 2, 1) := by decide +kernel
theorem dX9_strokesOf_47 : decode cX9_strokesOf 47 = .ok (.iconst 1, 1) := by decide +kernel
theorem dX9_strokesOf_48 : decode cX9_strokesOf 48 = .ok (.aload_n 0, 1) := by decide +kernel
theorem dX9_strokesOf_49 : decode cX9_strokesOf 49 = .ok (.iload 5, 2) := by decide +kernel
theorem dX9_strokesOf_51 : decode cX9_strokesOf 51 = .ok (.invokevirtual 56, 3) := by decide +kernel
theorem dX9_strokesOf_54 : decode cX9_strokesOf 54 = .ok (.iconst 2, 1) := by decide +kernel
theorem dX9_strokesOf_55 : decode cX9_strokesOf 55 = .ok (.idiv, 1) := by decide +kernel
theorem dX9_strokesOf_56 : decode cX9_strokesOf 56 = .ok (.invokestatic 59, 3) := by decide +kernel
theorem dX9_strokesOf_59 : decode cX9_strokesOf 59 = .ok (.iadd, 1) := by decide +kernel
theorem dX9_strokesOf_60 : decode cX9_strokesOf 60 = .ok (.istore_n 2, 1) := by decide +kernel
theorem dX9_strokesOf_61 : decode cX9_strokesOf 61 = .ok (.iload_n 3, 1) := by decide +kernel
theorem dX9_strokesOf_62 : decode cX9_strokesOf 62 = .ok (.iload 5, 2) := by decide +kernel
theorem dX9_strokesOf_64 : decode cX9_strokesOf 64 = .ok (.ior, 1) := by decide +kernel
theorem dX9_strokesOf_65 : decode cX9_strokesOf 65 = .ok (.istore_n 3, 1) := by decide +kernel
theorem dX9_strokesOf_66 : decode cX9_strokesOf 66 = .ok (.iinc 4 1, 3) := by decide +kernel
theorem dX9_strokesOf_69 : decode cX9_strokesOf 69 = .ok (.goto (-57), 3) := by decide +kernel
theorem dX9_strokesOf_72 : decode cX9_strokesOf 72 = .ok (.iload_n 2, 1) := by decide +kernel
theorem dX9_strokesOf_73 : decode cX9_strokesOf 73 = .ok (.ireturn, 1) := by decide +kernel
theorem dX9_groupOf_0 : decode cX9_groupOf 0 = .ok (.iconst 1, 1) := by decide +kernel
theorem dX9_groupOf_1 : decode cX9_groupOf 1 = .ok (.iload_n 1, 1) := by decide +kernel
theorem dX9_groupOf_2 : decode cX9_groupOf 2 = .ok (.ishl, 1) := by decide +kernel
theorem dX9_groupOf_3 : decode cX9_groupOf 3 = .ok (.istore_n 2, 1) := by decide +kernel
theorem dX9_groupOf_4 : decode cX9_groupOf 4 = .ok (.iconst 0, 1) := by decide +kernel
theorem dX9_groupOf_5 : decode cX9_groupOf 5 = .ok (.istore_n 3, 1) := by decide +kernel
theorem dX9_groupOf_6 : decode cX9_groupOf 6 = .ok (.iload_n 3, 1) := by decide +kernel
theorem dX9_groupOf_7 : decode cX9_groupOf 7 = .ok (.bipush 12, 2) := by decide +kernel
theorem dX9_groupOf_9 : decode cX9_groupOf 9 = .ok (.if_icmp .ge 45, 3) := by decide +kernel
theorem dX9_groupOf_12 : decode cX9_groupOf 12 = .ok (.iconst 0, 1) := by decide +kernel
theorem dX9_groupOf_13 : decode cX9_groupOf 13 = .ok (.istore 4, 2) := by decide +kernel
theorem dX9_groupOf_15 : decode cX9_groupOf 15 = .ok (.iload 4, 2) := by decide +kernel
theorem dX9_groupOf_17 : decode cX9_groupOf 17 = .ok (.bipush 12, 2) := by decide +kernel
theorem dX9_groupOf_19 : decode cX9_groupOf 19 = .ok (.if_icmp .ge 29, 3) := by decide +kernel
theorem dX9_groupOf_22 : decode cX9_groupOf 22 = .ok (.iload_n 2, 1) := by decide +kernel
theorem dX9_groupOf_23 : decode cX9_groupOf 23 = .ok (.iload 4, 2) := by decide +kernel
theorem dX9_groupOf_25 : decode cX9_groupOf 25 = .ok (.ishr, 1) := by decide +kernel
theorem dX9_groupOf_26 : decode cX9_groupOf 26 = .ok (.iconst 1, 1) := by decide +kernel
theorem dX9_groupOf_27 : decode cX9_groupOf 27 = .ok (.iand, 1) := by decide +kernel
theorem dX9_groupOf_28 : decode cX9_groupOf 28 = .ok (.iconst 1, 1) := by decide +kernel
theorem dX9_groupOf_29 : decode cX9_groupOf 29 = .ok (.if_icmp .ne 13, 3) := by decide +kernel
theorem dX9_groupOf_32 : decode cX9_groupOf 32 = .ok (.iload_n 2, 1) := by decide +kernel
theorem dX9_groupOf_33 : decode cX9_groupOf 33 = .ok (.aload_n 0, 1) := by decide +kernel
theorem dX9_groupOf_34 : decode cX9_groupOf 34 = .ok (.getfield 9, 3) := by decide +kernel
theorem dX9_groupOf_37 : decode cX9_groupOf 37 = .ok (.iload 4, 2) := by decide +kernel
theorem dX9_groupOf_39 : decode cX9_groupOf 39 = .ok (.iaload, 1) := by decide +kernel
theorem dX9_groupOf_40 : decode cX9_groupOf 40 = .ok (.ior, 1) := by decide +kernel
theorem dX9_groupOf_41 : decode cX9_groupOf 41 = .ok (.istore_n 2, 1) := by decide +kernel
theorem dX9_groupOf_42 : decode cX9_groupOf 42 = .ok (.iinc 4 1, 3) := by decide +kernel
theorem dX9_groupOf_45 : decode cX9_groupOf 45 = .ok (.goto (-30), 3) := by decide +kernel
theorem dX9_groupOf_48 : decode cX9_groupOf 48 = .ok (.iinc 3 1, 3) := by decide +kernel
theorem dX9_groupOf_51 : decode cX9_groupOf 51 = .ok (.goto (-45), 3) := by decide +kernel
theorem dX9_groupOf_54 : decode cX9_groupOf 54 = .ok (.iload_n 2, 1) := by decide +kernel
theorem dX9_groupOf_55 : decode cX9_groupOf 55 = .ok (.ireturn, 1) := by decide +kernel
theorem dX9_oddNails_0 : decode cX9_oddNails 0 = .ok (.iconst 0, 1) := by decide +kernel
theorem dX9_oddNails_1 : decode cX9_oddNails 1 = .ok (.istore_n 2, 1) := by decide +kernel
theorem dX9_oddNails_2 : decode cX9_oddNails 2 = .ok (.iconst 0, 1) := by decide +kernel
theorem dX9_oddNails_3 : decode cX9_oddNails 3 = .ok (.istore_n 3, 1) := by decide +kernel
theorem dX9_oddNails_4 : decode cX9_oddNails 4 = .ok (.iload_n 3, 1) := by decide +kernel
theorem dX9_oddNails_5 : decode cX9_oddNails 5 = .ok (.bipush 12, 2) := by decide +kernel
theorem dX9_oddNails_7 : decode cX9_oddNails 7 = .ok (.if_icmp .ge 32, 3) := by decide +kernel
theorem dX9_oddNails_10 : decode cX9_oddNails 10 = .ok (.iload_n 1, 1) := by decide +kernel
theorem dX9_oddNails_11 : decode cX9_oddNails 11 = .ok (.iload_n 3, 1) := by decide +kernel
theorem dX9_oddNails_12 : decode cX9_oddNails 12 = .ok (.ishr, 1) := by decide +kernel
theorem dX9_oddNails_13 : decode cX9_oddNails 13 = .ok (.iconst 1, 1) := by decide +kernel
theorem dX9_oddNails_14 : decode cX9_oddNails 14 = .ok (.iand, 1) := by decide +kernel
theorem dX9_oddNails_15 : decode cX9_oddNails 15 = .ok (.iconst 1, 1) := by decide +kernel
theorem dX9_oddNails_16 : decode cX9_oddNails 16 = .ok (.if_icmp .ne 17, 3) := by decide +kernel
theorem dX9_oddNails_19 : decode cX9_oddNails 19 = .ok (.iload_n 2, 1) := by decide +kernel
theorem dX9_oddNails_20 : decode cX9_oddNails 20 = .ok (.aload_n 0, 1) := by decide +kernel
theorem dX9_oddNails_21 : decode cX9_oddNails 21 = .ok (.getfield 9, 3) := by decide +kernel
theorem dX9_oddNails_24 : decode cX9_oddNails 24 = .ok (.iload_n 3, 1) := by decide +kernel
theorem dX9_oddNails_25 : decode cX9_oddNails 25 = .ok (.iaload, 1) := by decide +kernel
theorem dX9_oddNails_26 : decode cX9_oddNails 26 = .ok (.invokestatic 48, 3) := by decide +kernel
theorem dX9_oddNails_29 : decode cX9_oddNails 29 = .ok (.iconst 1, 1) := by decide +kernel
theorem dX9_oddNails_30 : decode cX9_oddNails 30 = .ok (.iand, 1) := by decide +kernel
theorem dX9_oddNails_31 : decode cX9_oddNails 31 = .ok (.iadd, 1) := by decide +kernel
theorem dX9_oddNails_32 : decode cX9_oddNails 32 = .ok (.istore_n 2, 1) := by decide +kernel
theorem dX9_oddNails_33 : decode cX9_oddNails 33 = .ok (.iinc 3 1, 3) := by decide +kernel
theorem dX9_oddNails_36 : decode cX9_oddNails 36 = .ok (.goto (-32), 3) := by decide +kernel
theorem dX9_oddNails_39 : decode cX9_oddNails 39 = .ok (.iload_n 2, 1) := by decide +kernel
theorem dX9_oddNails_40 : decode cX9_oddNails 40 = .ok (.ireturn, 1) := by decide +kernel
theorem dX10_init_0 : decode cX10_init 0 = .ok (.aload_n 0, 1) := by decide +kernel
theorem dX10_init_1 : decode cX10_init 1 = .ok (.invokespecial 1, 3) := by decide +kernel
theorem dX10_init_4 : decode cX10_init 4 = .ok (.aload_n 0, 1) := by decide +kernel
theorem dX10_init_5 : decode cX10_init 5 = .ok (.new 7, 3) := by decide +kernel
theorem dX10_init_8 : decode cX10_init 8 = .ok (.dup, 1) := by decide +kernel
theorem dX10_init_9 : decode cX10_init 9 = .ok (.invokespecial 9, 3) := by decide +kernel
theorem dX10_init_12 : decode cX10_init 12 = .ok (.putfield 10, 3) := by decide +kernel
theorem dX10_init_15 : decode cX10_init 15 = .ok (.aload_n 0, 1) := by decide +kernel
theorem dX10_init_16 : decode cX10_init 16 = .ok (.new 16, 3) := by decide +kernel
theorem dX10_init_19 : decode cX10_init 19 = .ok (.dup, 1) := by decide +kernel
theorem dX10_init_20 : decode cX10_init 20 = .ok (.invokespecial 18, 3) := by decide +kernel
theorem dX10_init_23 : decode cX10_init 23 = .ok (.putfield 19, 3) := by decide +kernel
theorem dX10_init_26 : decode cX10_init 26 = .ok (.aload_n 0, 1) := by decide +kernel
theorem dX10_init_27 : decode cX10_init 27 = .ok (.new 16, 3) := by decide +kernel
theorem dX10_init_30 : decode cX10_init 30 = .ok (.dup, 1) := by decide +kernel
theorem dX10_init_31 : decode cX10_init 31 = .ok (.invokespecial 18, 3) := by decide +kernel
theorem dX10_init_34 : decode cX10_init 34 = .ok (.putfield 23, 3) := by decide +kernel
theorem dX10_init_37 : decode cX10_init 37 = .ok (.aload_n 0, 1) := by decide +kernel
theorem dX10_init_38 : decode cX10_init 38 = .ok (.new 26, 3) := by decide +kernel
theorem dX10_init_41 : decode cX10_init 41 = .ok (.dup, 1) := by decide +kernel
theorem dX10_init_42 : decode cX10_init 42 = .ok (.invokespecial 28, 3) := by decide +kernel
theorem dX10_init_45 : decode cX10_init 45 = .ok (.putfield 29, 3) := by decide +kernel
theorem dX10_init_48 : decode cX10_init 48 = .ok (.aload_n 0, 1) := by decide +kernel
theorem dX10_init_49 : decode cX10_init 49 = .ok (.new 33, 3) := by decide +kernel
theorem dX10_init_52 : decode cX10_init 52 = .ok (.dup, 1) := by decide +kernel
theorem dX10_init_53 : decode cX10_init 53 = .ok (.invokespecial 35, 3) := by decide +kernel
theorem dX10_init_56 : decode cX10_init 56 = .ok (.putfield 36, 3) := by decide +kernel
theorem dX10_init_59 : decode cX10_init 59 = .ok (.aload_n 0, 1) := by decide +kernel
theorem dX10_init_60 : decode cX10_init 60 = .ok (.new 40, 3) := by decide +kernel
theorem dX10_init_63 : decode cX10_init 63 = .ok (.dup, 1) := by decide +kernel
theorem dX10_init_64 : decode cX10_init 64 = .ok (.invokespecial 42, 3) := by decide +kernel
theorem dX10_init_67 : decode cX10_init 67 = .ok (.putfield 43, 3) := by decide +kernel
theorem dX10_init_70 : decode cX10_init 70 = .ok (.aload_n 0, 1) := by decide +kernel
theorem dX10_init_71 : decode cX10_init 71 = .ok (.new 47, 3) := by decide +kernel
theorem dX10_init_74 : decode cX10_init 74 = .ok (.dup, 1) := by decide +kernel
theorem dX10_init_75 : decode cX10_init 75 = .ok (.invokespecial 49, 3) := by decide +kernel
theorem dX10_init_78 : decode cX10_init 78 = .ok (.putfield 50, 3) := by decide +kernel
theorem dX10_init_81 : decode cX10_init 81 = .ok (.aload_n 0, 1) := by decide +kernel
theorem dX10_init_82 : decode cX10_init 82 = .ok (.new 54, 3) := by decide +kernel
theorem dX10_init_85 : decode cX10_init 85 = .ok (.dup, 1) := by decide +kernel
theorem dX10_init_86 : decode cX10_init 86 = .ok (.invokespecial 56, 3) := by decide +kernel
theorem dX10_init_89 : decode cX10_init 89 = .ok (.putfield 57, 3) := by decide +kernel
theorem dX10_init_92 : decode cX10_init 92 = .ok (.aload_n 0, 1) := by decide +kernel
theorem dX10_init_93 : decode cX10_init 93 = .ok (.new 61, 3) := by decide +kernel
theorem dX10_init_96 : decode cX10_init 96 = .ok (.dup, 1) := by decide +kernel
theorem dX10_init_97 : decode cX10_init 97 = .ok (.invokespecial 63, 3) := by decide +kernel
theorem dX10_init_100 : decode cX10_init 100 = .ok (.putfield 64, 3) := by decide +kernel
theorem dX10_init_103 : decode cX10_init 103 = .ok (.aload_n 0, 1) := by decide +kernel
theorem dX10_init_104 : decode cX10_init 104 = .ok (.lconst 0, 1) := by decide +kernel
theorem dX10_init_105 : decode cX10_init 105 = .ok (.putfield 68, 3) := by decide +kernel
theorem dX10_init_108 : decode cX10_init 108 = .ok (.return_, 1) := by decide +kernel
theorem dX10_write_0 : decode cX10_write 0 = .ok (.iload_n 1, 1) := by decide +kernel
theorem dX10_write_1 : decode cX10_write 1 = .ok (.iconst 0, 1) := by decide +kernel
theorem dX10_write_2 : decode cX10_write 2 = .ok (.sipush 255, 3) := by decide +kernel
theorem dX10_write_5 : decode cX10_write 5 = .ok (.invokestatic 72, 3) := by decide +kernel
theorem dX10_write_8 : decode cX10_write 8 = .ok (.ifCond .eq 6, 3) := by decide +kernel
theorem dX10_write_11 : decode cX10_write 11 = .ok (.bipush (-2), 2) := by decide +kernel
theorem dX10_write_13 : decode cX10_write 13 = .ok (.ireturn, 1) := by decide +kernel
theorem dX10_write_14 : decode cX10_write 14 = .ok (.aload_n 0, 1) := by decide +kernel
theorem dX10_write_15 : decode cX10_write 15 = .ok (.getfield 10, 3) := by decide +kernel
theorem dX10_write_18 : decode cX10_write 18 = .ok (.iload_n 1, 1) := by decide +kernel
theorem dX10_write_19 : decode cX10_write 19 = .ok (.invokevirtual 76, 3) := by decide +kernel
theorem dX10_write_22 : decode cX10_write 22 = .ok (.ifCond .eq 13, 3) := by decide +kernel
theorem dX10_write_25 : decode cX10_write 25 = .ok (.aload_n 0, 1) := by decide +kernel
theorem dX10_write_26 : decode cX10_write 26 = .ok (.getfield 10, 3) := by decide +kernel
theorem dX10_write_29 : decode cX10_write 29 = .ok (.invokevirtual 80, 3) := by decide +kernel
theorem dX10_write_32 : decode cX10_write 32 = .ok (.goto 5, 3) := by decide +kernel
theorem dX10_write_35 : decode cX10_write 35 = .ok (.bipush (-4), 2) := by decide +kernel
theorem dX10_write_37 : decode cX10_write 37 = .ok (.ireturn, 1) := by decide +kernel
theorem dX10_wipe_0 : decode cX10_wipe 0 = .ok (.aload_n 0, 1) := by decide +kernel
theorem dX10_wipe_1 : decode cX10_wipe 1 = .ok (.getfield 10, 3) := by decide +kernel
theorem dX10_wipe_4 : decode cX10_wipe 4 = .ok (.invokevirtual 80, 3) := by decide +kernel
theorem dX10_wipe_7 : decode cX10_wipe 7 = .ok (.istore_n 1, 1) := by decide +kernel
theorem dX10_wipe_8 : decode cX10_wipe 8 = .ok (.aload_n 0, 1) := by decide +kernel
theorem dX10_wipe_9 : decode cX10_wipe 9 = .ok (.getfield 10, 3) := by decide +kernel
theorem dX10_wipe_12 : decode cX10_wipe 12 = .ok (.invokevirtual 84, 3) := by decide +kernel
theorem dX10_wipe_15 : decode cX10_wipe 15 = .ok (.iload_n 1, 1) := by decide +kernel
theorem dX10_wipe_16 : decode cX10_wipe 16 = .ok (.ireturn, 1) := by decide +kernel
theorem dX10_fault_0 : decode cX10_fault 0 = .ok (.aload_n 0, 1) := by decide +kernel
theorem dX10_fault_1 : decode cX10_fault 1 = .ok (.getfield 10, 3) := by decide +kernel
theorem dX10_fault_4 : decode cX10_fault 4 = .ok (.aload_n 0, 1) := by decide +kernel
theorem dX10_fault_5 : decode cX10_fault 5 = .ok (.getfield 23, 3) := by decide +kernel
theorem dX10_fault_8 : decode cX10_fault 8 = .ok (.invokevirtual 87, 3) := by decide +kernel
theorem dX10_fault_11 : decode cX10_fault 11 = .ok (.ireturn, 1) := by decide +kernel
theorem dX10_board_0 : decode cX10_board 0 = .ok (.aload_n 0, 1) := by decide +kernel
theorem dX10_board_1 : decode cX10_board 1 = .ok (.getfield 10, 3) := by decide +kernel
theorem dX10_board_4 : decode cX10_board 4 = .ok (.aload_n 0, 1) := by decide +kernel
theorem dX10_board_5 : decode cX10_board 5 = .ok (.getfield 23, 3) := by decide +kernel
theorem dX10_board_8 : decode cX10_board 8 = .ok (.invokevirtual 87, 3) := by decide +kernel
theorem dX10_board_11 : decode cX10_board 11 = .ok (.bipush (-9), 2) := by decide +kernel
theorem dX10_board_13 : decode cX10_board 13 = .ok (.if_icmp .eq 6, 3) := by decide +kernel
theorem dX10_board_16 : decode cX10_board 16 = .ok (.bipush (-3), 2) := by decide +kernel
theorem dX10_board_18 : decode cX10_board 18 = .ok (.ireturn, 1) := by decide +kernel
theorem dX10_board_19 : decode cX10_board 19 = .ok (.aload_n 0, 1) := by decide +kernel
theorem dX10_board_20 : decode cX10_board 20 = .ok (.getfield 19, 3) := by decide +kernel
theorem dX10_board_23 : decode cX10_board 23 = .ok (.aload_n 0, 1) := by decide +kernel
theorem dX10_board_24 : decode cX10_board 24 = .ok (.getfield 23, 3) := by decide +kernel
theorem dX10_board_27 : decode cX10_board 27 = .ok (.invokevirtual 91, 3) := by decide +kernel
theorem dX10_board_30 : decode cX10_board 30 = .ok (.aload_n 0, 1) := by decide +kernel
theorem dX10_board_31 : decode cX10_board 31 = .ok (.getfield 29, 3) := by decide +kernel
theorem dX10_board_34 : decode cX10_board 34 = .ok (.invokevirtual 95, 3) := by decide +kernel
theorem dX10_board_37 : decode cX10_board 37 = .ok (.aload_n 0, 1) := by decide +kernel
theorem dX10_board_38 : decode cX10_board 38 = .ok (.getfield 36, 3) := by decide +kernel
theorem dX10_board_41 : decode cX10_board 41 = .ok (.invokevirtual 96, 3) := by decide +kernel
theorem dX10_board_44 : decode cX10_board 44 = .ok (.aload_n 0, 1) := by decide +kernel
theorem dX10_board_45 : decode cX10_board 45 = .ok (.getfield 19, 3) := by decide +kernel
theorem dX10_board_48 : decode cX10_board 48 = .ok (.invokevirtual 97, 3) := by decide +kernel
theorem dX10_board_51 : decode cX10_board 51 = .ok (.ireturn, 1) := by decide +kernel
theorem dX10_thread_0 : decode cX10_thread 0 = .ok (.aload_n 0, 1) := by decide +kernel
theorem dX10_thread_1 : decode cX10_thread 1 = .ok (.getfield 19, 3) := by decide +kernel
theorem dX10_thread_4 : decode cX10_thread 4 = .ok (.iload_n 1, 1) := by decide +kernel
theorem dX10_thread_5 : decode cX10_thread 5 = .ok (.invokevirtual 100, 3) := by decide +kernel
theorem dX10_thread_8 : decode cX10_thread 8 = .ok (.ifCond .ne 5, 3) := by decide +kernel
theorem dX10_thread_11 : decode cX10_thread 11 = .ok (.iconst (-1), 1) := by decide +kernel
theorem dX10_thread_12 : decode cX10_thread 12 = .ok (.ireturn, 1) := by decide +kernel
theorem dX10_thread_13 : decode cX10_thread 13 = .ok (.iload_n 2, 1) := by decide +kernel
theorem dX10_thread_14 : decode cX10_thread 14 = .ok (.tableswitch 100 0 5 #[38, 47, 56, 65, 74, 83], 38) := by decide +kernel
theorem dX10_thread_52 : decode cX10_thread 52 = .ok (.aload_n 0, 1) := by decide +kernel
theorem dX10_thread_53 : decode cX10_thread 53 = .ok (.getfield 19, 3) := by decide +kernel
theorem dX10_thread_56 : decode cX10_thread 56 = .ok (.iload_n 1, 1) := by decide +kernel
theorem dX10_thread_57 : decode cX10_thread 57 = .ok (.invokevirtual 103, 3) := by decide +kernel
theorem dX10_thread_60 : decode cX10_thread 60 = .ok (.ireturn, 1) := by decide +kernel
theorem dX10_thread_61 : decode cX10_thread 61 = .ok (.aload_n 0, 1) := by decide +kernel
theorem dX10_thread_62 : decode cX10_thread 62 = .ok (.getfield 19, 3) := by decide +kernel
theorem dX10_thread_65 : decode cX10_thread 65 = .ok (.iload_n 1, 1) := by decide +kernel
theorem dX10_thread_66 : decode cX10_thread 66 = .ok (.invokevirtual 107, 3) := by decide +kernel
theorem dX10_thread_69 : decode cX10_thread 69 = .ok (.ireturn, 1) := by decide +kernel
theorem dX10_thread_70 : decode cX10_thread 70 = .ok (.aload_n 0, 1) := by decide +kernel
theorem dX10_thread_71 : decode cX10_thread 71 = .ok (.getfield 19, 3) := by decide +kernel
theorem dX10_thread_74 : decode cX10_thread 74 = .ok (.iload_n 1, 1) := by decide +kernel
theorem dX10_thread_75 : decode cX10_thread 75 = .ok (.invokevirtual 110, 3) := by decide +kernel
theorem dX10_thread_78 : decode cX10_thread 78 = .ok (.ireturn, 1) := by decide +kernel
theorem dX10_thread_79 : decode cX10_thread 79 = .ok (.aload_n 0, 1) := by decide +kernel
theorem dX10_thread_80 : decode cX10_thread 80 = .ok (.getfield 19, 3) := by decide +kernel
theorem dX10_thread_83 : decode cX10_thread 83 = .ok (.iload_n 1, 1) := by decide +kernel
theorem dX10_thread_84 : decode cX10_thread 84 = .ok (.invokevirtual 113, 3) := by decide +kernel
theorem dX10_thread_87 : decode cX10_thread 87 = .ok (.ireturn, 1) := by decide +kernel
theorem dX10_thread_88 : decode cX10_thread 88 = .ok (.aload_n 0, 1) := by decide +kernel
theorem dX10_thread_89 : decode cX10_thread 89 = .ok (.getfield 19, 3) := by decide +kernel
theorem dX10_thread_92 : decode cX10_thread 92 = .ok (.iload_n 1, 1) := by decide +kernel
theorem dX10_thread_93 : decode cX10_thread 93 = .ok (.invokevirtual 116, 3) := by decide +kernel
theorem dX10_thread_96 : decode cX10_thread 96 = .ok (.ireturn, 1) := by decide +kernel
theorem dX10_thread_97 : decode cX10_thread 97 = .ok (.aload_n 0, 1) := by decide +kernel
theorem dX10_thread_98 : decode cX10_thread 98 = .ok (.getfield 19, 3) := by decide +kernel
theorem dX10_thread_101 : decode cX10_thread 101 = .ok (.iload_n 1, 1) := by decide +kernel
theorem dX10_thread_102 : decode cX10_thread 102 = .ok (.invokevirtual 119, 3) := by decide +kernel
theorem dX10_thread_105 : decode cX10_thread 105 = .ok (.ifCond .eq 7, 3) := by decide +kernel
theorem dX10_thread_108 : decode cX10_thread 108 = .ok (.iconst 1, 1) := by decide +kernel
theorem dX10_thread_109 : decode cX10_thread 109 = .ok (.goto 4, 3) := by decide +kernel
theorem dX10_thread_112 : decode cX10_thread 112 = .ok (.iconst 0, 1) := by decide +kernel
theorem dX10_thread_113 : decode cX10_thread 113 = .ok (.ireturn, 1) := by decide +kernel
theorem dX10_thread_114 : decode cX10_thread 114 = .ok (.bipush (-2), 2) := by decide +kernel
theorem dX10_thread_116 : decode cX10_thread 116 = .ok (.ireturn, 1) := by decide +kernel
theorem dX10_stretch_0 : decode cX10_stretch 0 = .ok (.aload_n 0, 1) := by decide +kernel
theorem dX10_stretch_1 : decode cX10_stretch 1 = .ok (.getfield 19, 3) := by decide +kernel
theorem dX10_stretch_4 : decode cX10_stretch 4 = .ok (.iload_n 1, 1) := by decide +kernel
theorem dX10_stretch_5 : decode cX10_stretch 5 = .ok (.invokevirtual 122, 3) := by decide +kernel
theorem dX10_stretch_8 : decode cX10_stretch 8 = .ok (.ifCond .ne 5, 3) := by decide +kernel
theorem dX10_stretch_11 : decode cX10_stretch 11 = .ok (.iconst (-1), 1) := by decide +kernel
theorem dX10_stretch_12 : decode cX10_stretch 12 = .ok (.ireturn, 1) := by decide +kernel
theorem dX10_stretch_13 : decode cX10_stretch 13 = .ok (.iload_n 2, 1) := by decide +kernel
theorem dX10_stretch_14 : decode cX10_stretch 14 = .ok (.tableswitch 96 0 5 #[38, 47, 56, 65, 75, 87], 38) := by decide +kernel
theorem dX10_stretch_52 : decode cX10_stretch 52 = .ok (.aload_n 0, 1) := by decide +kernel
theorem dX10_stretch_53 : decode cX10_stretch 53 = .ok (.getfield 19, 3) := by decide +kernel
theorem dX10_stretch_56 : decode cX10_stretch 56 = .ok (.iload_n 1, 1) := by decide +kernel
theorem dX10_stretch_57 : decode cX10_stretch 57 = .ok (.invokevirtual 125, 3) := by decide +kernel
theorem dX10_stretch_60 : decode cX10_stretch 60 = .ok (.ireturn, 1) := by decide +kernel
theorem dX10_stretch_61 : decode cX10_stretch 61 = .ok (.aload_n 0, 1) := by decide +kernel
theorem dX10_stretch_62 : decode cX10_stretch 62 = .ok (.getfield 19, 3) := by decide +kernel
theorem dX10_stretch_65 : decode cX10_stretch 65 = .ok (.iload_n 1, 1) := by decide +kernel
theorem dX10_stretch_66 : decode cX10_stretch 66 = .ok (.invokevirtual 128, 3) := by decide +kernel
theorem dX10_stretch_69 : decode cX10_stretch 69 = .ok (.ireturn, 1) := by decide +kernel
theorem dX10_stretch_70 : decode cX10_stretch 70 = .ok (.aload_n 0, 1) := by decide +kernel
theorem dX10_stretch_71 : decode cX10_stretch 71 = .ok (.getfield 19, 3) := by decide +kernel
theorem dX10_stretch_74 : decode cX10_stretch 74 = .ok (.iload_n 1, 1) := by decide +kernel
theorem dX10_stretch_75 : decode cX10_stretch 75 = .ok (.invokevirtual 131, 3) := by decide +kernel
theorem dX10_stretch_78 : decode cX10_stretch 78 = .ok (.ireturn, 1) := by decide +kernel
theorem dX10_stretch_79 : decode cX10_stretch 79 = .ok (.aload_n 0, 1) := by decide +kernel
theorem dX10_stretch_80 : decode cX10_stretch 80 = .ok (.getfield 19, 3) := by decide +kernel
theorem dX10_stretch_83 : decode cX10_stretch 83 = .ok (.iconst 0, 1) := by decide +kernel
theorem dX10_stretch_84 : decode cX10_stretch 84 = .ok (.iload_n 1, 1) := by decide +kernel
theorem dX10_stretch_85 : decode cX10_stretch 85 = .ok (.invokevirtual 134, 3) := by decide +kernel
theorem dX10_stretch_88 : decode cX10_stretch 88 = .ok (.ireturn, 1) := by decide +kernel
theorem dX10_stretch_89 : decode cX10_stretch 89 = .ok (.aload_n 0, 1) := by decide +kernel
theorem dX10_stretch_90 : decode cX10_stretch 90 = .ok (.getfield 19, 3) := by decide +kernel
theorem dX10_stretch_93 : decode cX10_stretch 93 = .ok (.iload_n 1, 1) := by decide +kernel
theorem dX10_stretch_94 : decode cX10_stretch 94 = .ok (.iconst 1, 1) := by decide +kernel
theorem dX10_stretch_95 : decode cX10_stretch 95 = .ok (.iadd, 1) := by decide +kernel
theorem dX10_stretch_96 : decode cX10_stretch 96 = .ok (.iload_n 1, 1) := by decide +kernel
theorem dX10_stretch_97 : decode cX10_stretch 97 = .ok (.invokevirtual 134, 3) := by decide +kernel
theorem dX10_stretch_100 : decode cX10_stretch 100 = .ok (.ireturn, 1) := by decide +kernel
theorem dX10_stretch_101 : decode cX10_stretch 101 = .ok (.aload_n 0, 1) := by decide +kernel
theorem dX10_stretch_102 : decode cX10_stretch 102 = .ok (.getfield 19, 3) := by decide +kernel
theorem dX10_stretch_105 : decode cX10_stretch 105 = .ok (.iload_n 1, 1) := by decide +kernel
theorem dX10_stretch_106 : decode cX10_stretch 106 = .ok (.invokevirtual 138, 3) := by decide +kernel
theorem dX10_stretch_109 : decode cX10_stretch 109 = .ok (.ireturn, 1) := by decide +kernel
theorem dX10_stretch_110 : decode cX10_stretch 110 = .ok (.bipush (-2), 2) := by decide +kernel
theorem dX10_stretch_112 : decode cX10_stretch 112 = .ok (.ireturn, 1) := by decide +kernel
theorem dX10_wind_0 : decode cX10_wind 0 = .ok (.aload_n 0, 1) := by decide +kernel
theorem dX10_wind_1 : decode cX10_wind 1 = .ok (.getfield 19, 3) := by decide +kernel
theorem dX10_wind_4 : decode cX10_wind 4 = .ok (.iload_n 1, 1) := by decide +kernel
theorem dX10_wind_5 : decode cX10_wind 5 = .ok (.invokevirtual 100, 3) := by decide +kernel
theorem dX10_wind_8 : decode cX10_wind 8 = .ok (.ifCond .eq 13, 3) := by decide +kernel
theorem dX10_wind_11 : decode cX10_wind 11 = .ok (.iload_n 2, 1) := by decide +kernel
theorem dX10_wind_12 : decode cX10_wind 12 = .ok (.iconst 0, 1) := by decide +kernel
theorem dX10_wind_13 : decode cX10_wind 13 = .ok (.bipush 11, 2) := by decide +kernel
theorem dX10_wind_15 : decode cX10_wind 15 = .ok (.invokestatic 72, 3) := by decide +kernel
theorem dX10_wind_18 : decode cX10_wind 18 = .ok (.ifCond .eq 5, 3) := by decide +kernel
theorem dX10_wind_21 : decode cX10_wind 21 = .ok (.iconst (-1), 1) := by decide +kernel
theorem dX10_wind_22 : decode cX10_wind 22 = .ok (.ireturn, 1) := by decide +kernel
theorem dX10_wind_23 : decode cX10_wind 23 = .ok (.aload_n 0, 1) := by decide +kernel
theorem dX10_wind_24 : decode cX10_wind 24 = .ok (.getfield 19, 3) := by decide +kernel
theorem dX10_wind_27 : decode cX10_wind 27 = .ok (.iload_n 1, 1) := by decide +kernel
theorem dX10_wind_28 : decode cX10_wind 28 = .ok (.iload_n 2, 1) := by decide +kernel
theorem dX10_wind_29 : decode cX10_wind 29 = .ok (.invokevirtual 141, 3) := by decide +kernel
theorem dX10_wind_32 : decode cX10_wind 32 = .ok (.ifCond .ne 6, 3) := by decide +kernel
theorem dX10_wind_35 : decode cX10_wind 35 = .ok (.bipush (-3), 2) := by decide +kernel
theorem dX10_wind_37 : decode cX10_wind 37 = .ok (.ireturn, 1) := by decide +kernel
theorem dX10_wind_38 : decode cX10_wind 38 = .ok (.aload_n 0, 1) := by decide +kernel
theorem dX10_wind_39 : decode cX10_wind 39 = .ok (.getfield 29, 3) := by decide +kernel
theorem dX10_wind_42 : decode cX10_wind 42 = .ok (.aload_n 0, 1) := by decide +kernel
theorem dX10_wind_43 : decode cX10_wind 43 = .ok (.getfield 19, 3) := by decide +kernel
theorem dX10_wind_46 : decode cX10_wind 46 = .ok (.invokevirtual 145, 3) := by decide +kernel
theorem dX10_wind_49 : decode cX10_wind 49 = .ok (.aload_n 0, 1) := by decide +kernel
theorem dX10_wind_50 : decode cX10_wind 50 = .ok (.getfield 19, 3) := by decide +kernel
theorem dX10_wind_53 : decode cX10_wind 53 = .ok (.iload_n 1, 1) := by decide +kernel
theorem dX10_wind_54 : decode cX10_wind 54 = .ok (.iload_n 2, 1) := by decide +kernel
theorem dX10_wind_55 : decode cX10_wind 55 = .ok (.invokevirtual 147, 3) := by decide +kernel
theorem dX10_wind_58 : decode cX10_wind 58 = .ok (.ireturn, 1) := by decide +kernel
theorem dX10_unwind_0 : decode cX10_unwind 0 = .ok (.aload_n 0, 1) := by decide +kernel
theorem dX10_unwind_1 : decode cX10_unwind 1 = .ok (.getfield 19, 3) := by decide +kernel
theorem dX10_unwind_4 : decode cX10_unwind 4 = .ok (.iload_n 1, 1) := by decide +kernel
theorem dX10_unwind_5 : decode cX10_unwind 5 = .ok (.invokevirtual 100, 3) := by decide +kernel
theorem dX10_unwind_8 : decode cX10_unwind 8 = .ok (.ifCond .ne 5, 3) := by decide +kernel
theorem dX10_unwind_11 : decode cX10_unwind 11 = .ok (.iconst (-1), 1) := by decide +kernel
theorem dX10_unwind_12 : decode cX10_unwind 12 = .ok (.ireturn, 1) := by decide +kernel
theorem dX10_unwind_13 : decode cX10_unwind 13 = .ok (.aload_n 0, 1) := by decide +kernel
theorem dX10_unwind_14 : decode cX10_unwind 14 = .ok (.getfield 19, 3) := by decide +kernel
theorem dX10_unwind_17 : decode cX10_unwind 17 = .ok (.iload_n 1, 1) := by decide +kernel
theorem dX10_unwind_18 : decode cX10_unwind 18 = .ok (.invokevirtual 119, 3) := by decide +kernel
theorem dX10_unwind_21 : decode cX10_unwind 21 = .ok (.ifCond .ne 6, 3) := by decide +kernel
theorem dX10_unwind_24 : decode cX10_unwind 24 = .ok (.bipush (-3), 2) := by decide +kernel
theorem dX10_unwind_26 : decode cX10_unwind 26 = .ok (.ireturn, 1) := by decide +kernel
theorem dX10_unwind_27 : decode cX10_unwind 27 = .ok (.aload_n 0, 1) := by decide +kernel
theorem dX10_unwind_28 : decode cX10_unwind 28 = .ok (.getfield 29, 3) := by decide +kernel
theorem dX10_unwind_31 : decode cX10_unwind 31 = .ok (.aload_n 0, 1) := by decide +kernel
theorem dX10_unwind_32 : decode cX10_unwind 32 = .ok (.getfield 19, 3) := by decide +kernel
theorem dX10_unwind_35 : decode cX10_unwind 35 = .ok (.invokevirtual 145, 3) := by decide +kernel
theorem dX10_unwind_38 : decode cX10_unwind 38 = .ok (.aload_n 0, 1) := by decide +kernel
theorem dX10_unwind_39 : decode cX10_unwind 39 = .ok (.getfield 19, 3) := by decide +kernel
theorem dX10_unwind_42 : decode cX10_unwind 42 = .ok (.iload_n 1, 1) := by decide +kernel
theorem dX10_unwind_43 : decode cX10_unwind 43 = .ok (.invokevirtual 150, 3) := by decide +kernel
theorem dX10_unwind_46 : decode cX10_unwind 46 = .ok (.ireturn, 1) := by decide +kernel
theorem dX10_cut_0 : decode cX10_cut 0 = .ok (.aload_n 0, 1) := by decide +kernel
theorem dX10_cut_1 : decode cX10_cut 1 = .ok (.getfield 19, 3) := by decide +kernel
theorem dX10_cut_4 : decode cX10_cut 4 = .ok (.iload_n 1, 1) := by decide +kernel
theorem dX10_cut_5 : decode cX10_cut 5 = .ok (.invokevirtual 100, 3) := by decide +kernel
theorem dX10_cut_8 : decode cX10_cut 8 = .ok (.ifCond .ne 5, 3) := by decide +kernel
theorem dX10_cut_11 : decode cX10_cut 11 = .ok (.iconst (-1), 1) := by decide +kernel
theorem dX10_cut_12 : decode cX10_cut 12 = .ok (.ireturn, 1) := by decide +kernel
theorem dX10_cut_13 : decode cX10_cut 13 = .ok (.aload_n 0, 1) := by decide +kernel
theorem dX10_cut_14 : decode cX10_cut 14 = .ok (.getfield 19, 3) := by decide +kernel
theorem dX10_cut_17 : decode cX10_cut 17 = .ok (.iload_n 1, 1) := by decide +kernel
theorem dX10_cut_18 : decode cX10_cut 18 = .ok (.invokevirtual 153, 3) := by decide +kernel
theorem dX10_cut_21 : decode cX10_cut 21 = .ok (.ifCond .ne 6, 3) := by decide +kernel
theorem dX10_cut_24 : decode cX10_cut 24 = .ok (.bipush (-3), 2) := by decide +kernel
theorem dX10_cut_26 : decode cX10_cut 26 = .ok (.ireturn, 1) := by decide +kernel
theorem dX10_cut_27 : decode cX10_cut 27 = .ok (.aload_n 0, 1) := by decide +kernel
theorem dX10_cut_28 : decode cX10_cut 28 = .ok (.getfield 29, 3) := by decide +kernel
theorem dX10_cut_31 : decode cX10_cut 31 = .ok (.aload_n 0, 1) := by decide +kernel
theorem dX10_cut_32 : decode cX10_cut 32 = .ok (.getfield 19, 3) := by decide +kernel
theorem dX10_cut_35 : decode cX10_cut 35 = .ok (.invokevirtual 145, 3) := by decide +kernel
theorem dX10_cut_38 : decode cX10_cut 38 = .ok (.aload_n 0, 1) := by decide +kernel
theorem dX10_cut_39 : decode cX10_cut 39 = .ok (.getfield 19, 3) := by decide +kernel
theorem dX10_cut_42 : decode cX10_cut 42 = .ok (.iload_n 1, 1) := by decide +kernel
theorem dX10_cut_43 : decode cX10_cut 43 = .ok (.invokevirtual 156, 3) := by decide +kernel
theorem dX10_cut_46 : decode cX10_cut 46 = .ok (.ireturn, 1) := by decide +kernel
theorem dX10_turn_0 : decode cX10_turn 0 = .ok (.aload_n 0, 1) := by decide +kernel
theorem dX10_turn_1 : decode cX10_turn 1 = .ok (.getfield 29, 3) := by decide +kernel
theorem dX10_turn_4 : decode cX10_turn 4 = .ok (.aload_n 0, 1) := by decide +kernel
theorem dX10_turn_5 : decode cX10_turn 5 = .ok (.getfield 19, 3) := by decide +kernel
theorem dX10_turn_8 : decode cX10_turn 8 = .ok (.invokevirtual 145, 3) := by decide +kernel
theorem dX10_turn_11 : decode cX10_turn 11 = .ok (.aload_n 0, 1) := by decide +kernel
theorem dX10_turn_12 : decode cX10_turn 12 = .ok (.getfield 19, 3) := by decide +kernel
theorem dX10_turn_15 : decode cX10_turn 15 = .ok (.invokevirtual 159, 3) := by decide +kernel
theorem dX10_turn_18 : decode cX10_turn 18 = .ok (.aload_n 0, 1) := by decide +kernel
theorem dX10_turn_19 : decode cX10_turn 19 = .ok (.getfield 19, 3) := by decide +kernel
theorem dX10_turn_22 : decode cX10_turn 22 = .ok (.invokevirtual 162, 3) := by decide +kernel
theorem dX10_turn_25 : decode cX10_turn 25 = .ok (.ireturn, 1) := by decide +kernel
theorem dX10_behind_0 : decode cX10_behind 0 = .ok (.aload_n 0, 1) := by decide +kernel
theorem dX10_behind_1 : decode cX10_behind 1 = .ok (.getfield 29, 3) := by decide +kernel
theorem dX10_behind_4 : decode cX10_behind 4 = .ok (.aload_n 0, 1) := by decide +kernel
theorem dX10_behind_5 : decode cX10_behind 5 = .ok (.getfield 19, 3) := by decide +kernel
theorem dX10_behind_8 : decode cX10_behind 8 = .ok (.invokevirtual 145, 3) := by decide +kernel
theorem dX10_behind_11 : decode cX10_behind 11 = .ok (.aload_n 0, 1) := by decide +kernel
theorem dX10_behind_12 : decode cX10_behind 12 = .ok (.getfield 19, 3) := by decide +kernel
theorem dX10_behind_15 : decode cX10_behind 15 = .ok (.invokevirtual 165, 3) := by decide +kernel
theorem dX10_behind_18 : decode cX10_behind 18 = .ok (.aload_n 0, 1) := by decide +kernel
theorem dX10_behind_19 : decode cX10_behind 19 = .ok (.getfield 19, 3) := by decide +kernel
theorem dX10_behind_22 : decode cX10_behind 22 = .ok (.invokevirtual 162, 3) := by decide +kernel
theorem dX10_behind_25 : decode cX10_behind 25 = .ok (.ireturn, 1) := by decide +kernel
theorem dX10_undo_0 : decode cX10_undo 0 = .ok (.aload_n 0, 1) := by decide +kernel
theorem dX10_undo_1 : decode cX10_undo 1 = .ok (.getfield 29, 3) := by decide +kernel
theorem dX10_undo_4 : decode cX10_undo 4 = .ok (.aload_n 0, 1) := by decide +kernel
theorem dX10_undo_5 : decode cX10_undo 5 = .ok (.getfield 19, 3) := by decide +kernel
theorem dX10_undo_8 : decode cX10_undo 8 = .ok (.invokevirtual 168, 3) := by decide +kernel
theorem dX10_undo_11 : decode cX10_undo 11 = .ok (.ifCond .eq 13, 3) := by decide +kernel
theorem dX10_undo_14 : decode cX10_undo 14 = .ok (.aload_n 0, 1) := by decide +kernel
theorem dX10_undo_15 : decode cX10_undo 15 = .ok (.getfield 29, 3) := by decide +kernel
theorem dX10_undo_18 : decode cX10_undo 18 = .ok (.invokevirtual 172, 3) := by decide +kernel
theorem dX10_undo_21 : decode cX10_undo 21 = .ok (.goto 5, 3) := by decide +kernel
theorem dX10_undo_24 : decode cX10_undo 24 = .ok (.bipush (-3), 2) := by decide +kernel
theorem dX10_undo_26 : decode cX10_undo 26 = .ok (.ireturn, 1) := by decide +kernel
theorem dX10_crossings_0 : decode cX10_crossings 0 = .ok (.aload_n 0, 1) := by decide +kernel
theorem dX10_crossings_1 : decode cX10_crossings 1 = .ok (.getfield 19, 3) := by decide +kernel
theorem dX10_crossings_4 : decode cX10_crossings 4 = .ok (.iload_n 1, 1) := by decide +kernel
theorem dX10_crossings_5 : decode cX10_crossings 5 = .ok (.invokevirtual 100, 3) := by decide +kernel
theorem dX10_crossings_8 : decode cX10_crossings 8 = .ok (.ifCond .eq 14, 3) := by decide +kernel
theorem dX10_crossings_11 : decode cX10_crossings 11 = .ok (.aload_n 0, 1) := by decide +kernel
theorem dX10_crossings_12 : decode cX10_crossings 12 = .ok (.getfield 19, 3) := by decide +kernel
theorem dX10_crossings_15 : decode cX10_crossings 15 = .ok (.iload_n 2, 1) := by decide +kernel
theorem dX10_crossings_16 : decode cX10_crossings 16 = .ok (.invokevirtual 100, 3) := by decide +kernel
theorem dX10_crossings_19 : decode cX10_crossings 19 = .ok (.ifCond .ne 5, 3) := by decide +kernel
theorem dX10_crossings_22 : decode cX10_crossings 22 = .ok (.iconst (-1), 1) := by decide +kernel
theorem dX10_crossings_23 : decode cX10_crossings 23 = .ok (.ireturn, 1) := by decide +kernel
theorem dX10_crossings_24 : decode cX10_crossings 24 = .ok (.aload_n 0, 1) := by decide +kernel
theorem dX10_crossings_25 : decode cX10_crossings 25 = .ok (.getfield 19, 3) := by decide +kernel
theorem dX10_crossings_28 : decode cX10_crossings 28 = .ok (.iload_n 1, 1) := by decide +kernel
theorem dX10_crossings_29 : decode cX10_crossings 29 = .ok (.iload_n 2, 1) := by decide +kernel
theorem dX10_crossings_30 : decode cX10_crossings 30 = .ok (.invokevirtual 173, 3) := by decide +kernel
theorem dX10_crossings_33 : decode cX10_crossings 33 = .ok (.ireturn, 1) := by decide +kernel
theorem dX10_parts_0 : decode cX10_parts 0 = .ok (.aload_n 0, 1) := by decide +kernel
theorem dX10_parts_1 : decode cX10_parts 1 = .ok (.getfield 50, 3) := by decide +kernel
theorem dX10_parts_4 : decode cX10_parts 4 = .ok (.aload_n 0, 1) := by decide +kernel
theorem dX10_parts_5 : decode cX10_parts 5 = .ok (.getfield 19, 3) := by decide +kernel
theorem dX10_parts_8 : decode cX10_parts 8 = .ok (.invokevirtual 176, 3) := by decide +kernel
theorem dX10_parts_11 : decode cX10_parts 11 = .ok (.ireturn, 1) := by decide +kernel
theorem dX10_strokes_0 : decode cX10_strokes 0 = .ok (.aload_n 0, 1) := by decide +kernel
theorem dX10_strokes_1 : decode cX10_strokes 1 = .ok (.getfield 50, 3) := by decide +kernel
theorem dX10_strokes_4 : decode cX10_strokes 4 = .ok (.aload_n 0, 1) := by decide +kernel
theorem dX10_strokes_5 : decode cX10_strokes 5 = .ok (.getfield 19, 3) := by decide +kernel
theorem dX10_strokes_8 : decode cX10_strokes 8 = .ok (.invokevirtual 179, 3) := by decide +kernel
theorem dX10_strokes_11 : decode cX10_strokes 11 = .ok (.ireturn, 1) := by decide +kernel
theorem dX10_next_0 : decode cX10_next 0 = .ok (.aload_n 0, 1) := by decide +kernel
theorem dX10_next_1 : decode cX10_next 1 = .ok (.getfield 19, 3) := by decide +kernel
theorem dX10_next_4 : decode cX10_next 4 = .ok (.iload_n 1, 1) := by decide +kernel
theorem dX10_next_5 : decode cX10_next 5 = .ok (.invokevirtual 100, 3) := by decide +kernel
theorem dX10_next_8 : decode cX10_next 8 = .ok (.ifCond .ne 5, 3) := by decide +kernel
theorem dX10_next_11 : decode cX10_next 11 = .ok (.iconst (-1), 1) := by decide +kernel
theorem dX10_next_12 : decode cX10_next 12 = .ok (.ireturn, 1) := by decide +kernel
theorem dX10_next_13 : decode cX10_next 13 = .ok (.iload_n 2, 1) := by decide +kernel
theorem dX10_next_14 : decode cX10_next 14 = .ok (.iconst 0, 1) := by decide +kernel
theorem dX10_next_15 : decode cX10_next 15 = .ok (.iconst 1, 1) := by decide +kernel
theorem dX10_next_16 : decode cX10_next 16 = .ok (.invokestatic 72, 3) := by decide +kernel
theorem dX10_next_19 : decode cX10_next 19 = .ok (.ifCond .eq 6, 3) := by decide +kernel
theorem dX10_next_22 : decode cX10_next 22 = .ok (.bipush (-2), 2) := by decide +kernel
theorem dX10_next_24 : decode cX10_next 24 = .ok (.ireturn, 1) := by decide +kernel
theorem dX10_next_25 : decode cX10_next 25 = .ok (.aload_n 0, 1) := by decide +kernel
theorem dX10_next_26 : decode cX10_next 26 = .ok (.getfield 19, 3) := by decide +kernel
theorem dX10_next_29 : decode cX10_next 29 = .ok (.iload_n 1, 1) := by decide +kernel
theorem dX10_next_30 : decode cX10_next 30 = .ok (.invokevirtual 182, 3) := by decide +kernel
theorem dX10_next_33 : decode cX10_next 33 = .ok (.istore_n 3, 1) := by decide +kernel
theorem dX10_next_34 : decode cX10_next 34 = .ok (.iload_n 3, 1) := by decide +kernel
theorem dX10_next_35 : decode cX10_next 35 = .ok (.iconst (-1), 1) := by decide +kernel
theorem dX10_next_36 : decode cX10_next 36 = .ok (.if_icmp .ne 6, 3) := by decide +kernel
theorem dX10_next_39 : decode cX10_next 39 = .ok (.bipush (-9), 2) := by decide +kernel
theorem dX10_next_41 : decode cX10_next 41 = .ok (.ireturn, 1) := by decide +kernel
theorem dX10_next_42 : decode cX10_next 42 = .ok (.iload_n 2, 1) := by decide +kernel
theorem dX10_next_43 : decode cX10_next 43 = .ok (.ifCond .ne 7, 3) := by decide +kernel
theorem dX10_next_46 : decode cX10_next 46 = .ok (.iload_n 3, 1) := by decide +kernel
theorem dX10_next_47 : decode cX10_next 47 = .ok (.goto 19, 3) := by decide +kernel
theorem dX10_next_50 : decode cX10_next 50 = .ok (.aload_n 0, 1) := by decide +kernel
theorem dX10_next_51 : decode cX10_next 51 = .ok (.getfield 19, 3) := by decide +kernel
theorem dX10_next_54 : decode cX10_next 54 = .ok (.aload_n 0, 1) := by decide +kernel
theorem dX10_next_55 : decode cX10_next 55 = .ok (.getfield 19, 3) := by decide +kernel
theorem dX10_next_58 : decode cX10_next 58 = .ok (.iload_n 1, 1) := by decide +kernel
theorem dX10_next_59 : decode cX10_next 59 = .ok (.invokevirtual 103, 3) := by decide +kernel
theorem dX10_next_62 : decode cX10_next 62 = .ok (.iload_n 3, 1) := by decide +kernel
theorem dX10_next_63 : decode cX10_next 63 = .ok (.invokevirtual 185, 3) := by decide +kernel
theorem dX10_next_66 : decode cX10_next 66 = .ok (.ireturn, 1) := by decide +kernel
theorem dX10_star_0 : decode cX10_star 0 = .ok (.aload_n 0, 1) := by decide +kernel
theorem dX10_star_1 : decode cX10_star 1 = .ok (.getfield 19, 3) := by decide +kernel
theorem dX10_star_4 : decode cX10_star 4 = .ok (.iload_n 1, 1) := by decide +kernel
theorem dX10_star_5 : decode cX10_star 5 = .ok (.invokevirtual 100, 3) := by decide +kernel
theorem dX10_star_8 : decode cX10_star 8 = .ok (.ifCond .ne 5, 3) := by decide +kernel
theorem dX10_star_11 : decode cX10_star 11 = .ok (.iconst (-1), 1) := by decide +kernel
theorem dX10_star_12 : decode cX10_star 12 = .ok (.ireturn, 1) := by decide +kernel
theorem dX10_star_13 : decode cX10_star 13 = .ok (.iload_n 2, 1) := by decide +kernel
theorem dX10_star_14 : decode cX10_star 14 = .ok (.iconst 1, 1) := by decide +kernel
theorem dX10_star_15 : decode cX10_star 15 = .ok (.bipush 11, 2) := by decide +kernel
theorem dX10_star_17 : decode cX10_star 17 = .ok (.invokestatic 72, 3) := by decide +kernel
theorem dX10_star_20 : decode cX10_star 20 = .ok (.ifCond .ne 23, 3) := by decide +kernel
theorem dX10_star_23 : decode cX10_star 23 = .ok (.iload_n 3, 1) := by decide +kernel
theorem dX10_star_24 : decode cX10_star 24 = .ok (.iconst 0, 1) := by decide +kernel
theorem dX10_star_25 : decode cX10_star 25 = .ok (.bipush 12, 2) := by decide +kernel
theorem dX10_star_27 : decode cX10_star 27 = .ok (.invokestatic 72, 3) := by decide +kernel
theorem dX10_star_30 : decode cX10_star 30 = .ok (.ifCond .ne 13, 3) := by decide +kernel
theorem dX10_star_33 : decode cX10_star 33 = .ok (.iload 4, 2) := by decide +kernel
theorem dX10_star_35 : decode cX10_star 35 = .ok (.iconst 0, 1) := by decide +kernel
theorem dX10_star_36 : decode cX10_star 36 = .ok (.iconst 2, 1) := by decide +kernel
theorem dX10_star_37 : decode cX10_star 37 = .ok (.invokestatic 72, 3) := by decide +kernel
theorem dX10_star_40 : decode cX10_star 40 = .ok (.ifCond .eq 6, 3) := by decide +kernel
theorem dX10_star_43 : decode cX10_star 43 = .ok (.bipush (-2), 2) := by decide +kernel
theorem dX10_star_45 : decode cX10_star 45 = .ok (.ireturn, 1) := by decide +kernel
theorem dX10_star_46 : decode cX10_star 46 = .ok (.aload_n 0, 1) := by decide +kernel
theorem dX10_star_47 : decode cX10_star 47 = .ok (.getfield 23, 3) := by decide +kernel
theorem dX10_star_50 : decode cX10_star 50 = .ok (.aload_n 0, 1) := by decide +kernel
theorem dX10_star_51 : decode cX10_star 51 = .ok (.getfield 19, 3) := by decide +kernel
theorem dX10_star_54 : decode cX10_star 54 = .ok (.invokevirtual 91, 3) := by decide +kernel
theorem dX10_star_57 : decode cX10_star 57 = .ok (.aload_n 0, 1) := by decide +kernel
theorem dX10_star_58 : decode cX10_star 58 = .ok (.getfield 23, 3) := by decide +kernel
theorem dX10_star_61 : decode cX10_star 61 = .ok (.iload_n 1, 1) := by decide +kernel
theorem dX10_star_62 : decode cX10_star 62 = .ok (.iload_n 2, 1) := by decide +kernel
theorem dX10_star_63 : decode cX10_star 63 = .ok (.iload_n 3, 1) := by decide +kernel
theorem dX10_star_64 : decode cX10_star 64 = .ok (.invokevirtual 188, 3) := by decide +kernel
theorem dX10_star_67 : decode cX10_star 67 = .ok (.istore 5, 2) := by decide +kernel
theorem dX10_star_69 : decode cX10_star 69 = .ok (.iload 4, 2) := by decide +kernel
theorem dX10_star_71 : decode cX10_star 71 = .ok (.lookupswitch 52 #[(0, 25), (1, 43)], 25) := by decide +kernel
theorem dX10_star_96 : decode cX10_star 96 = .ok (.aload_n 0, 1) := by decide +kernel
theorem dX10_star_97 : decode cX10_star 97 = .ok (.getfield 23, 3) := by decide +kernel
theorem dX10_star_100 : decode cX10_star 100 = .ok (.iload_n 1, 1) := by decide +kernel
theorem dX10_star_101 : decode cX10_star 101 = .ok (.invokevirtual 110, 3) := by decide +kernel
theorem dX10_star_104 : decode cX10_star 104 = .ok (.aload_n 0, 1) := by decide +kernel
theorem dX10_star_105 : decode cX10_star 105 = .ok (.getfield 19, 3) := by decide +kernel
theorem dX10_star_108 : decode cX10_star 108 = .ok (.iload_n 1, 1) := by decide +kernel
theorem dX10_star_109 : decode cX10_star 109 = .ok (.invokevirtual 110, 3) := by decide +kernel
theorem dX10_star_112 : decode cX10_star 112 = .ok (.isub, 1) := by decide +kernel
theorem dX10_star_113 : decode cX10_star 113 = .ok (.ireturn, 1) := by decide +kernel
theorem dX10_star_114 : decode cX10_star 114 = .ok (.aload_n 0, 1) := by decide +kernel
theorem dX10_star_115 : decode cX10_star 115 = .ok (.getfield 23, 3) := by decide +kernel
theorem dX10_star_118 : decode cX10_star 118 = .ok (.iload_n 1, 1) := by decide +kernel
theorem dX10_star_119 : decode cX10_star 119 = .ok (.invokevirtual 103, 3) := by decide +kernel
theorem dX10_star_122 : decode cX10_star 122 = .ok (.ireturn, 1) := by decide +kernel
theorem dX10_star_123 : decode cX10_star 123 = .ok (.iload 5, 2) := by decide +kernel
theorem dX10_star_125 : decode cX10_star 125 = .ok (.ireturn, 1) := by decide +kernel
theorem dX10_judge_0 : decode cX10_judge 0 = .ok (.iload_n 1, 1) := by decide +kernel
theorem dX10_judge_1 : decode cX10_judge 1 = .ok (.iconst 1, 1) := by decide +kernel
theorem dX10_judge_2 : decode cX10_judge 2 = .ok (.iconst 4, 1) := by decide +kernel
theorem dX10_judge_3 : decode cX10_judge 3 = .ok (.invokestatic 72, 3) := by decide +kernel
theorem dX10_judge_6 : decode cX10_judge 6 = .ok (.ifCond .ne 11, 3) := by decide +kernel
theorem dX10_judge_9 : decode cX10_judge 9 = .ok (.iload_n 1, 1) := by decide +kernel
theorem dX10_judge_10 : decode cX10_judge 10 = .ok (.lload_n 2, 1) := by decide +kernel
theorem dX10_judge_11 : decode cX10_judge 11 = .ok (.invokestatic 192, 3) := by decide +kernel
theorem dX10_judge_14 : decode cX10_judge 14 = .ok (.ifCond .eq 6, 3) := by decide +kernel
theorem dX10_judge_17 : decode cX10_judge 17 = .ok (.bipush (-2), 2) := by decide +kernel
theorem dX10_judge_19 : decode cX10_judge 19 = .ok (.ireturn, 1) := by decide +kernel
theorem dX10_judge_20 : decode cX10_judge 20 = .ok (.aload_n 0, 1) := by decide +kernel
theorem dX10_judge_21 : decode cX10_judge 21 = .ok (.getfield 23, 3) := by decide +kernel
theorem dX10_judge_24 : decode cX10_judge 24 = .ok (.aload_n 0, 1) := by decide +kernel
theorem dX10_judge_25 : decode cX10_judge 25 = .ok (.getfield 19, 3) := by decide +kernel
theorem dX10_judge_28 : decode cX10_judge 28 = .ok (.invokevirtual 91, 3) := by decide +kernel
theorem dX10_judge_31 : decode cX10_judge 31 = .ok (.iload_n 1, 1) := by decide +kernel
theorem dX10_judge_32 : decode cX10_judge 32 = .ok (.lload_n 2, 1) := by decide +kernel
theorem dX10_judge_33 : decode cX10_judge 33 = .ok (.aload_n 0, 1) := by decide +kernel
theorem dX10_judge_34 : decode cX10_judge 34 = .ok (.getfield 23, 3) := by decide +kernel
theorem dX10_judge_37 : decode cX10_judge 37 = .ok (.aload_n 0, 1) := by decide +kernel
theorem dX10_judge_38 : decode cX10_judge 38 = .ok (.getfield 50, 3) := by decide +kernel
theorem dX10_judge_41 : decode cX10_judge 41 = .ok (.invokestatic 198, 3) := by decide +kernel
theorem dX10_judge_44 : decode cX10_judge 44 = .ok (.ireturn, 1) := by decide +kernel
theorem dX10_see_0 : decode cX10_see 0 = .ok (.iload_n 2, 1) := by decide +kernel
theorem dX10_see_1 : decode cX10_see 1 = .ok (.iconst 0, 1) := by decide +kernel
theorem dX10_see_2 : decode cX10_see 2 = .ok (.bipush 11, 2) := by decide +kernel
theorem dX10_see_4 : decode cX10_see 4 = .ok (.invokestatic 72, 3) := by decide +kernel
theorem dX10_see_7 : decode cX10_see 7 = .ok (.ifCond .eq 5, 3) := by decide +kernel
theorem dX10_see_10 : decode cX10_see 10 = .ok (.iconst (-1), 1) := by decide +kernel
end
section
theorem dX10_see_11 : decode cX10_see 11 = .ok (.ireturn, 1) := by decide +kernel
theorem dX10_see_12 : decode cX10_see 12 = .ok (.iload_n 1, 1) := by decide +kernel
theorem dX10_see_13 : decode cX10_see 13 = .ok (.iconst 0, 1) := by decide +kernel
theorem dX10_see_14 : decode cX10_see 14 = .ok (.bipush 12, 2) := by decide +kernel
theorem dX10_see_16 : decode cX10_see 16 = .ok (.invokestatic 72, 3) := by decide +kernel
theorem dX10_see_19 : decode cX10_see 19 = .ok (.ifCond .ne 12, 3) := by decide +kernel
theorem dX10_see_22 : decode cX10_see 22 = .ok (.iload_n 3, 1) := by decide +kernel
theorem dX10_see_23 : decode cX10_see 23 = .ok (.iconst 0, 1) := by decide +kernel
theorem dX10_see_24 : decode cX10_see 24 = .ok (.iconst 1, 1) := by decide +kernel
theorem dX10_see_25 : decode cX10_see 25 = .ok (.invokestatic 72, 3) := by decide +kernel
theorem dX10_see_28 : decode cX10_see 28 = .ok (.ifCond .eq 6, 3) := by decide +kernel
theorem dX10_see_31 : decode cX10_see 31 = .ok (.bipush (-2), 2) := by decide +kernel
theorem dX10_see_33 : decode cX10_see 33 = .ok (.ireturn, 1) := by decide +kernel
theorem dX10_see_34 : decode cX10_see 34 = .ok (.aload_n 0, 1) := by decide +kernel
theorem dX10_see_35 : decode cX10_see 35 = .ok (.getfield 43, 3) := by decide +kernel
theorem dX10_see_38 : decode cX10_see 38 = .ok (.iload_n 1, 1) := by decide +kernel
theorem dX10_see_39 : decode cX10_see 39 = .ok (.iload_n 2, 1) := by decide +kernel
theorem dX10_see_40 : decode cX10_see 40 = .ok (.iload_n 3, 1) := by decide +kernel
theorem dX10_see_41 : decode cX10_see 41 = .ok (.invokevirtual 202, 3) := by decide +kernel
theorem dX10_see_44 : decode cX10_see 44 = .ok (.ifCond .eq 13, 3) := by decide +kernel
theorem dX10_see_47 : decode cX10_see 47 = .ok (.aload_n 0, 1) := by decide +kernel
theorem dX10_see_48 : decode cX10_see 48 = .ok (.getfield 43, 3) := by decide +kernel
theorem dX10_see_51 : decode cX10_see 51 = .ok (.invokevirtual 204, 3) := by decide +kernel
theorem dX10_see_54 : decode cX10_see 54 = .ok (.goto 5, 3) := by decide +kernel
theorem dX10_see_57 : decode cX10_see 57 = .ok (.bipush (-4), 2) := by decide +kernel
theorem dX10_see_59 : decode cX10_see 59 = .ok (.ireturn, 1) := by decide +kernel
theorem dX10_unsee_0 : decode cX10_unsee 0 = .ok (.aload_n 0, 1) := by decide +kernel
theorem dX10_unsee_1 : decode cX10_unsee 1 = .ok (.getfield 43, 3) := by decide +kernel
theorem dX10_unsee_4 : decode cX10_unsee 4 = .ok (.invokevirtual 204, 3) := by decide +kernel
theorem dX10_unsee_7 : decode cX10_unsee 7 = .ok (.istore_n 1, 1) := by decide +kernel
theorem dX10_unsee_8 : decode cX10_unsee 8 = .ok (.aload_n 0, 1) := by decide +kernel
theorem dX10_unsee_9 : decode cX10_unsee 9 = .ok (.getfield 43, 3) := by decide +kernel
theorem dX10_unsee_12 : decode cX10_unsee 12 = .ok (.invokevirtual 205, 3) := by decide +kernel
theorem dX10_unsee_15 : decode cX10_unsee 15 = .ok (.iload_n 1, 1) := by decide +kernel
theorem dX10_unsee_16 : decode cX10_unsee 16 = .ok (.ireturn, 1) := by decide +kernel
theorem dX10_stars_0 : decode cX10_stars 0 = .ok (.iload_n 1, 1) := by decide +kernel
theorem dX10_stars_1 : decode cX10_stars 1 = .ok (.lookupswitch 43 #[(0, 27), (1, 35)], 27) := by decide +kernel
theorem dX10_stars_28 : decode cX10_stars 28 = .ok (.aload_n 0, 1) := by decide +kernel
theorem dX10_stars_29 : decode cX10_stars 29 = .ok (.getfield 43, 3) := by decide +kernel
theorem dX10_stars_32 : decode cX10_stars 32 = .ok (.invokevirtual 206, 3) := by decide +kernel
theorem dX10_stars_35 : decode cX10_stars 35 = .ok (.ireturn, 1) := by decide +kernel
theorem dX10_stars_36 : decode cX10_stars 36 = .ok (.aload_n 0, 1) := by decide +kernel
theorem dX10_stars_37 : decode cX10_stars 37 = .ok (.getfield 43, 3) := by decide +kernel
theorem dX10_stars_40 : decode cX10_stars 40 = .ok (.invokevirtual 209, 3) := by decide +kernel
theorem dX10_stars_43 : decode cX10_stars 43 = .ok (.ireturn, 1) := by decide +kernel
theorem dX10_stars_44 : decode cX10_stars 44 = .ok (.bipush (-2), 2) := by decide +kernel
theorem dX10_stars_46 : decode cX10_stars 46 = .ok (.ireturn, 1) := by decide +kernel
theorem dX10_share_0 : decode cX10_share 0 = .ok (.aload_n 0, 1) := by decide +kernel
theorem dX10_share_1 : decode cX10_share 1 = .ok (.getfield 19, 3) := by decide +kernel
theorem dX10_share_4 : decode cX10_share 4 = .ok (.iload_n 1, 1) := by decide +kernel
theorem dX10_share_5 : decode cX10_share 5 = .ok (.invokevirtual 100, 3) := by decide +kernel
theorem dX10_share_8 : decode cX10_share 8 = .ok (.ifCond .ne 5, 3) := by decide +kernel
theorem dX10_share_11 : decode cX10_share 11 = .ok (.iconst (-1), 1) := by decide +kernel
theorem dX10_share_12 : decode cX10_share 12 = .ok (.ireturn, 1) := by decide +kernel
theorem dX10_share_13 : decode cX10_share 13 = .ok (.aload_n 0, 1) := by decide +kernel
theorem dX10_share_14 : decode cX10_share 14 = .ok (.getfield 19, 3) := by decide +kernel
theorem dX10_share_17 : decode cX10_share 17 = .ok (.iload_n 1, 1) := by decide +kernel
theorem dX10_share_18 : decode cX10_share 18 = .ok (.invokestatic 212, 3) := by decide +kernel
theorem dX10_share_21 : decode cX10_share 21 = .ok (.iconst 2, 1) := by decide +kernel
theorem dX10_share_22 : decode cX10_share 22 = .ok (.iload_n 2, 1) := by decide +kernel
theorem dX10_share_23 : decode cX10_share 23 = .ok (.invokestatic 216, 3) := by decide +kernel
theorem dX10_share_26 : decode cX10_share 26 = .ok (.ireturn, 1) := by decide +kernel
theorem dX10_rests_0 : decode cX10_rests 0 = .ok (.aload_n 0, 1) := by decide +kernel
theorem dX10_rests_1 : decode cX10_rests 1 = .ok (.getfield 19, 3) := by decide +kernel
theorem dX10_rests_4 : decode cX10_rests 4 = .ok (.iload_n 1, 1) := by decide +kernel
theorem dX10_rests_5 : decode cX10_rests 5 = .ok (.invokevirtual 100, 3) := by decide +kernel
theorem dX10_rests_8 : decode cX10_rests 8 = .ok (.ifCond .eq 14, 3) := by decide +kernel
theorem dX10_rests_11 : decode cX10_rests 11 = .ok (.aload_n 0, 1) := by decide +kernel
theorem dX10_rests_12 : decode cX10_rests 12 = .ok (.getfield 19, 3) := by decide +kernel
theorem dX10_rests_15 : decode cX10_rests 15 = .ok (.iload_n 2, 1) := by decide +kernel
theorem dX10_rests_16 : decode cX10_rests 16 = .ok (.invokevirtual 100, 3) := by decide +kernel
theorem dX10_rests_19 : decode cX10_rests 19 = .ok (.ifCond .ne 5, 3) := by decide +kernel
theorem dX10_rests_22 : decode cX10_rests 22 = .ok (.iconst (-1), 1) := by decide +kernel
theorem dX10_rests_23 : decode cX10_rests 23 = .ok (.ireturn, 1) := by decide +kernel
theorem dX10_rests_24 : decode cX10_rests 24 = .ok (.iload_n 1, 1) := by decide +kernel
theorem dX10_rests_25 : decode cX10_rests 25 = .ok (.iload_n 2, 1) := by decide +kernel
theorem dX10_rests_26 : decode cX10_rests 26 = .ok (.if_icmp .eq 12, 3) := by decide +kernel
theorem dX10_rests_29 : decode cX10_rests 29 = .ok (.iload_n 3, 1) := by decide +kernel
theorem dX10_rests_30 : decode cX10_rests 30 = .ok (.iconst 0, 1) := by decide +kernel
theorem dX10_rests_31 : decode cX10_rests 31 = .ok (.iconst 1, 1) := by decide +kernel
theorem dX10_rests_32 : decode cX10_rests 32 = .ok (.invokestatic 72, 3) := by decide +kernel
theorem dX10_rests_35 : decode cX10_rests 35 = .ok (.ifCond .eq 6, 3) := by decide +kernel
theorem dX10_rests_38 : decode cX10_rests 38 = .ok (.bipush (-2), 2) := by decide +kernel
theorem dX10_rests_40 : decode cX10_rests 40 = .ok (.ireturn, 1) := by decide +kernel
theorem dX10_rests_41 : decode cX10_rests 41 = .ok (.aload_n 0, 1) := by decide +kernel
theorem dX10_rests_42 : decode cX10_rests 42 = .ok (.getfield 57, 3) := by decide +kernel
theorem dX10_rests_45 : decode cX10_rests 45 = .ok (.aload_n 0, 1) := by decide +kernel
theorem dX10_rests_46 : decode cX10_rests 46 = .ok (.getfield 19, 3) := by decide +kernel
theorem dX10_rests_49 : decode cX10_rests 49 = .ok (.aload_n 0, 1) := by decide +kernel
theorem dX10_rests_50 : decode cX10_rests 50 = .ok (.getfield 23, 3) := by decide +kernel
theorem dX10_rests_53 : decode cX10_rests 53 = .ok (.iload_n 1, 1) := by decide +kernel
theorem dX10_rests_54 : decode cX10_rests 54 = .ok (.iload_n 2, 1) := by decide +kernel
theorem dX10_rests_55 : decode cX10_rests 55 = .ok (.invokevirtual 220, 3) := by decide +kernel
theorem dX10_rests_58 : decode cX10_rests 58 = .ok (.iload_n 3, 1) := by decide +kernel
theorem dX10_rests_59 : decode cX10_rests 59 = .ok (.ifCond .ne 13, 3) := by decide +kernel
theorem dX10_rests_62 : decode cX10_rests 62 = .ok (.aload_n 0, 1) := by decide +kernel
theorem dX10_rests_63 : decode cX10_rests 63 = .ok (.getfield 57, 3) := by decide +kernel
theorem dX10_rests_66 : decode cX10_rests 66 = .ok (.invokevirtual 224, 3) := by decide +kernel
theorem dX10_rests_69 : decode cX10_rests 69 = .ok (.goto 10, 3) := by decide +kernel
theorem dX10_rests_72 : decode cX10_rests 72 = .ok (.aload_n 0, 1) := by decide +kernel
theorem dX10_rests_73 : decode cX10_rests 73 = .ok (.getfield 57, 3) := by decide +kernel
theorem dX10_rests_76 : decode cX10_rests 76 = .ok (.invokevirtual 225, 3) := by decide +kernel
theorem dX10_rests_79 : decode cX10_rests 79 = .ok (.ireturn, 1) := by decide +kernel
theorem dX10_snaps_0 : decode cX10_snaps 0 = .ok (.iload_n 1, 1) := by decide +kernel
theorem dX10_snaps_1 : decode cX10_snaps 1 = .ok (.iconst 0, 1) := by decide +kernel
theorem dX10_snaps_2 : decode cX10_snaps 2 = .ok (.bipush 99, 2) := by decide +kernel
theorem dX10_snaps_4 : decode cX10_snaps 4 = .ok (.invokestatic 72, 3) := by decide +kernel
theorem dX10_snaps_7 : decode cX10_snaps 7 = .ok (.ifCond .ne 13, 3) := by decide +kernel
theorem dX10_snaps_10 : decode cX10_snaps 10 = .ok (.iload_n 2, 1) := by decide +kernel
theorem dX10_snaps_11 : decode cX10_snaps 11 = .ok (.iconst 0, 1) := by decide +kernel
theorem dX10_snaps_12 : decode cX10_snaps 12 = .ok (.bipush 10, 2) := by decide +kernel
theorem dX10_snaps_14 : decode cX10_snaps 14 = .ok (.invokestatic 72, 3) := by decide +kernel
theorem dX10_snaps_17 : decode cX10_snaps 17 = .ok (.ifCond .eq 6, 3) := by decide +kernel
theorem dX10_snaps_20 : decode cX10_snaps 20 = .ok (.bipush (-2), 2) := by decide +kernel
theorem dX10_snaps_22 : decode cX10_snaps 22 = .ok (.ireturn, 1) := by decide +kernel
theorem dX10_snaps_23 : decode cX10_snaps 23 = .ok (.aload_n 0, 1) := by decide +kernel
theorem dX10_snaps_24 : decode cX10_snaps 24 = .ok (.getfield 64, 3) := by decide +kernel
theorem dX10_snaps_27 : decode cX10_snaps 27 = .ok (.aload_n 0, 1) := by decide +kernel
theorem dX10_snaps_28 : decode cX10_snaps 28 = .ok (.getfield 19, 3) := by decide +kernel
theorem dX10_snaps_31 : decode cX10_snaps 31 = .ok (.iload_n 1, 1) := by decide +kernel
theorem dX10_snaps_32 : decode cX10_snaps 32 = .ok (.iload_n 2, 1) := by decide +kernel
theorem dX10_snaps_33 : decode cX10_snaps 33 = .ok (.invokevirtual 228, 3) := by decide +kernel
theorem dX10_snaps_36 : decode cX10_snaps 36 = .ok (.aload_n 0, 1) := by decide +kernel
theorem dX10_snaps_37 : decode cX10_snaps 37 = .ok (.getfield 19, 3) := by decide +kernel
theorem dX10_snaps_40 : decode cX10_snaps 40 = .ok (.invokestatic 232, 3) := by decide +kernel
theorem dX10_snaps_43 : decode cX10_snaps 43 = .ok (.iload_n 3, 1) := by decide +kernel
theorem dX10_snaps_44 : decode cX10_snaps 44 = .ok (.invokestatic 216, 3) := by decide +kernel
theorem dX10_snaps_47 : decode cX10_snaps 47 = .ok (.ireturn, 1) := by decide +kernel
theorem dX10_seed_0 : decode cX10_seed 0 = .ok (.aload_n 0, 1) := by decide +kernel
theorem dX10_seed_1 : decode cX10_seed 1 = .ok (.getfield 68, 3) := by decide +kernel
theorem dX10_seed_4 : decode cX10_seed 4 = .ok (.lstore_n 3, 1) := by decide +kernel
theorem dX10_seed_5 : decode cX10_seed 5 = .ok (.aload_n 0, 1) := by decide +kernel
theorem dX10_seed_6 : decode cX10_seed 6 = .ok (.lload_n 1, 1) := by decide +kernel
theorem dX10_seed_7 : decode cX10_seed 7 = .ok (.putfield 68, 3) := by decide +kernel
theorem dX10_seed_10 : decode cX10_seed 10 = .ok (.lload_n 3, 1) := by decide +kernel
theorem dX10_seed_11 : decode cX10_seed 11 = .ok (.lreturn, 1) := by decide +kernel
theorem dX10_years_0 : decode cX10_years 0 = .ok (.iload_n 1, 1) := by decide +kernel
theorem dX10_years_1 : decode cX10_years 1 = .ok (.iconst 1, 1) := by decide +kernel
theorem dX10_years_2 : decode cX10_years 2 = .ok (.bipush 30, 2) := by decide +kernel
theorem dX10_years_4 : decode cX10_years 4 = .ok (.invokestatic 72, 3) := by decide +kernel
theorem dX10_years_7 : decode cX10_years 7 = .ok (.ifCond .eq 6, 3) := by decide +kernel
theorem dX10_years_10 : decode cX10_years 10 = .ok (.bipush (-2), 2) := by decide +kernel
theorem dX10_years_12 : decode cX10_years 12 = .ok (.ireturn, 1) := by decide +kernel
theorem dX10_years_13 : decode cX10_years 13 = .ok (.aload_n 0, 1) := by decide +kernel
theorem dX10_years_14 : decode cX10_years 14 = .ok (.getfield 23, 3) := by decide +kernel
theorem dX10_years_17 : decode cX10_years 17 = .ok (.aload_n 0, 1) := by decide +kernel
theorem dX10_years_18 : decode cX10_years 18 = .ok (.getfield 19, 3) := by decide +kernel
theorem dX10_years_21 : decode cX10_years 21 = .ok (.invokevirtual 91, 3) := by decide +kernel
theorem dX10_years_24 : decode cX10_years 24 = .ok (.iconst 0, 1) := by decide +kernel
theorem dX10_years_25 : decode cX10_years 25 = .ok (.istore_n 2, 1) := by decide +kernel
theorem dX10_years_26 : decode cX10_years 26 = .ok (.iconst 0, 1) := by decide +kernel
theorem dX10_years_27 : decode cX10_years 27 = .ok (.istore_n 3, 1) := by decide +kernel
theorem dX10_years_28 : decode cX10_years 28 = .ok (.iload_n 3, 1) := by decide +kernel
theorem dX10_years_29 : decode cX10_years 29 = .ok (.iload_n 1, 1) := by decide +kernel
theorem dX10_years_30 : decode cX10_years 30 = .ok (.if_icmp .ge 41, 3) := by decide +kernel
theorem dX10_years_33 : decode cX10_years 33 = .ok (.aload_n 0, 1) := by decide +kernel
theorem dX10_years_34 : decode cX10_years 34 = .ok (.aload_n 0, 1) := by decide +kernel
theorem dX10_years_35 : decode cX10_years 35 = .ok (.getfield 68, 3) := by decide +kernel
theorem dX10_years_38 : decode cX10_years 38 = .ok (.invokestatic 235, 3) := by decide +kernel
theorem dX10_years_41 : decode cX10_years 41 = .ok (.putfield 68, 3) := by decide +kernel
theorem dX10_years_44 : decode cX10_years 44 = .ok (.aload_n 0, 1) := by decide +kernel
theorem dX10_years_45 : decode cX10_years 45 = .ok (.getfield 23, 3) := by decide +kernel
theorem dX10_years_48 : decode cX10_years 48 = .ok (.aload_n 0, 1) := by decide +kernel
theorem dX10_years_49 : decode cX10_years 49 = .ok (.getfield 68, 3) := by decide +kernel
theorem dX10_years_52 : decode cX10_years 52 = .ok (.invokestatic 239, 3) := by decide +kernel
theorem dX10_years_55 : decode cX10_years 55 = .ok (.iload_n 2, 1) := by decide +kernel
theorem dX10_years_56 : decode cX10_years 56 = .ok (.aload_n 0, 1) := by decide +kernel
theorem dX10_years_57 : decode cX10_years 57 = .ok (.getfield 23, 3) := by decide +kernel
theorem dX10_years_60 : decode cX10_years 60 = .ok (.invokevirtual 243, 3) := by decide +kernel
theorem dX10_years_63 : decode cX10_years 63 = .ok (.iadd, 1) := by decide +kernel
theorem dX10_years_64 : decode cX10_years 64 = .ok (.istore_n 2, 1) := by decide +kernel
theorem dX10_years_65 : decode cX10_years 65 = .ok (.iinc 3 1, 3) := by decide +kernel
theorem dX10_years_68 : decode cX10_years 68 = .ok (.goto (-40), 3) := by decide +kernel
theorem dX10_years_71 : decode cX10_years 71 = .ok (.iload_n 2, 1) := by decide +kernel
theorem dX10_years_72 : decode cX10_years 72 = .ok (.ireturn, 1) := by decide +kernel
theorem dX10_keep_0 : decode cX10_keep 0 = .ok (.iload_n 1, 1) := by decide +kernel
theorem dX10_keep_1 : decode cX10_keep 1 = .ok (.iconst 0, 1) := by decide +kernel
theorem dX10_keep_2 : decode cX10_keep 2 = .ok (.iconst 1, 1) := by decide +kernel
theorem dX10_keep_3 : decode cX10_keep 3 = .ok (.invokestatic 72, 3) := by decide +kernel
theorem dX10_keep_6 : decode cX10_keep 6 = .ok (.ifCond .eq 5, 3) := by decide +kernel
theorem dX10_keep_9 : decode cX10_keep 9 = .ok (.iconst (-1), 1) := by decide +kernel
theorem dX10_keep_10 : decode cX10_keep 10 = .ok (.ireturn, 1) := by decide +kernel
theorem dX10_keep_11 : decode cX10_keep 11 = .ok (.aload_n 0, 1) := by decide +kernel
theorem dX10_keep_12 : decode cX10_keep 12 = .ok (.getfield 36, 3) := by decide +kernel
theorem dX10_keep_15 : decode cX10_keep 15 = .ok (.iload_n 1, 1) := by decide +kernel
theorem dX10_keep_16 : decode cX10_keep 16 = .ok (.aload_n 0, 1) := by decide +kernel
theorem dX10_keep_17 : decode cX10_keep 17 = .ok (.getfield 19, 3) := by decide +kernel
theorem dX10_keep_20 : decode cX10_keep 20 = .ok (.invokevirtual 246, 3) := by decide +kernel
theorem dX10_keep_23 : decode cX10_keep 23 = .ok (.aload_n 0, 1) := by decide +kernel
theorem dX10_keep_24 : decode cX10_keep 24 = .ok (.getfield 19, 3) := by decide +kernel
theorem dX10_keep_27 : decode cX10_keep 27 = .ok (.invokevirtual 162, 3) := by decide +kernel
theorem dX10_keep_30 : decode cX10_keep 30 = .ok (.ireturn, 1) := by decide +kernel
theorem dX10_again_0 : decode cX10_again 0 = .ok (.iload_n 1, 1) := by decide +kernel
theorem dX10_again_1 : decode cX10_again 1 = .ok (.iconst 0, 1) := by decide +kernel
theorem dX10_again_2 : decode cX10_again 2 = .ok (.iconst 1, 1) := by decide +kernel
theorem dX10_again_3 : decode cX10_again 3 = .ok (.invokestatic 72, 3) := by decide +kernel
theorem dX10_again_6 : decode cX10_again 6 = .ok (.ifCond .eq 5, 3) := by decide +kernel
theorem dX10_again_9 : decode cX10_again 9 = .ok (.iconst (-1), 1) := by decide +kernel
theorem dX10_again_10 : decode cX10_again 10 = .ok (.ireturn, 1) := by decide +kernel
theorem dX10_again_11 : decode cX10_again 11 = .ok (.aload_n 0, 1) := by decide +kernel
theorem dX10_again_12 : decode cX10_again 12 = .ok (.getfield 36, 3) := by decide +kernel
theorem dX10_again_15 : decode cX10_again 15 = .ok (.iload_n 1, 1) := by decide +kernel
theorem dX10_again_16 : decode cX10_again 16 = .ok (.aload_n 0, 1) := by decide +kernel
theorem dX10_again_17 : decode cX10_again 17 = .ok (.getfield 19, 3) := by decide +kernel
theorem dX10_again_20 : decode cX10_again 20 = .ok (.invokevirtual 250, 3) := by decide +kernel
theorem dX10_again_23 : decode cX10_again 23 = .ok (.ifCond .ne 6, 3) := by decide +kernel
theorem dX10_again_26 : decode cX10_again 26 = .ok (.bipush (-3), 2) := by decide +kernel
theorem dX10_again_28 : decode cX10_again 28 = .ok (.ireturn, 1) := by decide +kernel
theorem dX10_again_29 : decode cX10_again 29 = .ok (.aload_n 0, 1) := by decide +kernel
theorem dX10_again_30 : decode cX10_again 30 = .ok (.getfield 29, 3) := by decide +kernel
theorem dX10_again_33 : decode cX10_again 33 = .ok (.invokevirtual 95, 3) := by decide +kernel
theorem dX10_again_36 : decode cX10_again 36 = .ok (.aload_n 0, 1) := by decide +kernel
theorem dX10_again_37 : decode cX10_again 37 = .ok (.getfield 19, 3) := by decide +kernel
theorem dX10_again_40 : decode cX10_again 40 = .ok (.invokevirtual 162, 3) := by decide +kernel
theorem dX10_again_43 : decode cX10_again 43 = .ok (.ireturn, 1) := by decide +kernel
theorem dX10_count_0 : decode cX10_count 0 = .ok (.iload_n 1, 1) := by decide +kernel
theorem dX10_count_1 : decode cX10_count 1 = .ok (.tableswitch 111 0 7 #[47, 55, 63, 71, 79, 87, 95, 103], 47) := by decide +kernel
theorem dX10_count_48 : decode cX10_count 48 = .ok (.aload_n 0, 1) := by decide +kernel
theorem dX10_count_49 : decode cX10_count 49 = .ok (.getfield 10, 3) := by decide +kernel
theorem dX10_count_52 : decode cX10_count 52 = .ok (.invokevirtual 80, 3) := by decide +kernel
theorem dX10_count_55 : decode cX10_count 55 = .ok (.ireturn, 1) := by decide +kernel
theorem dX10_count_56 : decode cX10_count 56 = .ok (.aload_n 0, 1) := by decide +kernel
theorem dX10_count_57 : decode cX10_count 57 = .ok (.getfield 19, 3) := by decide +kernel
theorem dX10_count_60 : decode cX10_count 60 = .ok (.invokevirtual 97, 3) := by decide +kernel
theorem dX10_count_63 : decode cX10_count 63 = .ok (.ireturn, 1) := by decide +kernel
theorem dX10_count_64 : decode cX10_count 64 = .ok (.aload_n 0, 1) := by decide +kernel
theorem dX10_count_65 : decode cX10_count 65 = .ok (.getfield 19, 3) := by decide +kernel
theorem dX10_count_68 : decode cX10_count 68 = .ok (.invokevirtual 162, 3) := by decide +kernel
theorem dX10_count_71 : decode cX10_count 71 = .ok (.ireturn, 1) := by decide +kernel
theorem dX10_count_72 : decode cX10_count 72 = .ok (.aload_n 0, 1) := by decide +kernel
theorem dX10_count_73 : decode cX10_count 73 = .ok (.getfield 19, 3) := by decide +kernel
theorem dX10_count_76 : decode cX10_count 76 = .ok (.invokevirtual 243, 3) := by decide +kernel
theorem dX10_count_79 : decode cX10_count 79 = .ok (.ireturn, 1) := by decide +kernel
theorem dX10_count_80 : decode cX10_count 80 = .ok (.aload_n 0, 1) := by decide +kernel
theorem dX10_count_81 : decode cX10_count 81 = .ok (.getfield 19, 3) := by decide +kernel
theorem dX10_count_84 : decode cX10_count 84 = .ok (.invokevirtual 254, 3) := by decide +kernel
theorem dX10_count_87 : decode cX10_count 87 = .ok (.ireturn, 1) := by decide +kernel
theorem dX10_count_88 : decode cX10_count 88 = .ok (.aload_n 0, 1) := by decide +kernel
theorem dX10_count_89 : decode cX10_count 89 = .ok (.getfield 19, 3) := by decide +kernel
theorem dX10_count_92 : decode cX10_count 92 = .ok (.invokevirtual 257, 3) := by decide +kernel
theorem dX10_count_95 : decode cX10_count 95 = .ok (.ireturn, 1) := by decide +kernel
theorem dX10_count_96 : decode cX10_count 96 = .ok (.aload_n 0, 1) := by decide +kernel
theorem dX10_count_97 : decode cX10_count 97 = .ok (.getfield 29, 3) := by decide +kernel
theorem dX10_count_100 : decode cX10_count 100 = .ok (.invokevirtual 172, 3) := by decide +kernel
theorem dX10_count_103 : decode cX10_count 103 = .ok (.ireturn, 1) := by decide +kernel
theorem dX10_count_104 : decode cX10_count 104 = .ok (.aload_n 0, 1) := by decide +kernel
theorem dX10_count_105 : decode cX10_count 105 = .ok (.getfield 43, 3) := by decide +kernel
theorem dX10_count_108 : decode cX10_count 108 = .ok (.invokevirtual 204, 3) := by decide +kernel
theorem dX10_count_111 : decode cX10_count 111 = .ok (.ireturn, 1) := by decide +kernel
theorem dX10_count_112 : decode cX10_count 112 = .ok (.bipush (-2), 2) := by decide +kernel
theorem dX10_count_114 : decode cX10_count 114 = .ok (.ireturn, 1) := by decide +kernel
theorem dX10_isOutside_0 : decode cX10_isOutside 0 = .ok (.iload_n 0, 1) := by decide +kernel
theorem dX10_isOutside_1 : decode cX10_isOutside 1 = .ok (.iload_n 1, 1) := by decide +kernel
theorem dX10_isOutside_2 : decode cX10_isOutside 2 = .ok (.if_icmp .lt 8, 3) := by decide +kernel
theorem dX10_isOutside_5 : decode cX10_isOutside 5 = .ok (.iload_n 0, 1) := by decide +kernel
theorem dX10_isOutside_6 : decode cX10_isOutside 6 = .ok (.iload_n 2, 1) := by decide +kernel
theorem dX10_isOutside_7 : decode cX10_isOutside 7 = .ok (.if_icmp .le 7, 3) := by decide +kernel
theorem dX10_isOutside_10 : decode cX10_isOutside 10 = .ok (.iconst 1, 1) := by decide +kernel
theorem dX10_isOutside_11 : decode cX10_isOutside 11 = .ok (.goto 4, 3) := by decide +kernel
theorem dX10_isOutside_14 : decode cX10_isOutside 14 = .ok (.iconst 0, 1) := by decide +kernel
theorem dX10_isOutside_15 : decode cX10_isOutside 15 = .ok (.ireturn, 1) := by decide +kernel
theorem dX11_init_0 : decode cX11_init 0 = .ok (.aload_n 0, 1) := by decide +kernel
theorem dX11_init_1 : decode cX11_init 1 = .ok (.invokespecial 1, 3) := by decide +kernel
theorem dX11_init_4 : decode cX11_init 4 = .ok (.aload_n 0, 1) := by decide +kernel
theorem dX11_init_5 : decode cX11_init 5 = .ok (.iconst 4, 1) := by decide +kernel
theorem dX11_init_6 : decode cX11_init 6 = .ok (.newarray .int, 2) := by decide +kernel
theorem dX11_init_8 : decode cX11_init 8 = .ok (.putfield 7, 3) := by decide +kernel
theorem dX11_init_11 : decode cX11_init 11 = .ok (.aload_n 0, 1) := by decide +kernel
theorem dX11_init_12 : decode cX11_init 12 = .ok (.bipush 106, 2) := by decide +kernel
theorem dX11_init_14 : decode cX11_init 14 = .ok (.newarray .int, 2) := by decide +kernel
theorem dX11_init_16 : decode cX11_init 16 = .ok (.putfield 13, 3) := by decide +kernel
theorem dX11_init_19 : decode cX11_init 19 = .ok (.aload_n 0, 1) := by decide +kernel
theorem dX11_init_20 : decode cX11_init 20 = .ok (.iconst 4, 1) := by decide +kernel
theorem dX11_init_21 : decode cX11_init 21 = .ok (.newarray .int, 2) := by decide +kernel
theorem dX11_init_23 : decode cX11_init 23 = .ok (.putfield 16, 3) := by decide +kernel
theorem dX11_init_26 : decode cX11_init 26 = .ok (.aload_n 0, 1) := by decide +kernel
theorem dX11_init_27 : decode cX11_init 27 = .ok (.bipush 48, 2) := by decide +kernel
theorem dX11_init_29 : decode cX11_init 29 = .ok (.newarray .int, 2) := by decide +kernel
theorem dX11_init_31 : decode cX11_init 31 = .ok (.putfield 19, 3) := by decide +kernel
theorem dX11_init_34 : decode cX11_init 34 = .ok (.aload_n 0, 1) := by decide +kernel
theorem dX11_init_35 : decode cX11_init 35 = .ok (.bipush 48, 2) := by decide +kernel
theorem dX11_init_37 : decode cX11_init 37 = .ok (.newarray .int, 2) := by decide +kernel
theorem dX11_init_39 : decode cX11_init 39 = .ok (.putfield 22, 3) := by decide +kernel
theorem dX11_init_42 : decode cX11_init 42 = .ok (.aload_n 0, 1) := by decide +kernel
theorem dX11_init_43 : decode cX11_init 43 = .ok (.sipush 742, 3) := by decide +kernel
theorem dX11_init_46 : decode cX11_init 46 = .ok (.newarray .int, 2) := by decide +kernel
theorem dX11_init_48 : decode cX11_init 48 = .ok (.putfield 25, 3) := by decide +kernel
theorem dX11_init_51 : decode cX11_init 51 = .ok (.aload_n 0, 1) := by decide +kernel
theorem dX11_init_52 : decode cX11_init 52 = .ok (.sipush 144, 3) := by decide +kernel
theorem dX11_init_55 : decode cX11_init 55 = .ok (.newarray .int, 2) := by decide +kernel
theorem dX11_init_57 : decode cX11_init 57 = .ok (.putfield 28, 3) := by decide +kernel
theorem dX11_init_60 : decode cX11_init 60 = .ok (.aload_n 0, 1) := by decide +kernel
theorem dX11_init_61 : decode cX11_init 61 = .ok (.bipush 6, 2) := by decide +kernel
theorem dX11_init_63 : decode cX11_init 63 = .ok (.newarray .int, 2) := by decide +kernel
theorem dX11_init_65 : decode cX11_init 65 = .ok (.putfield 31, 3) := by decide +kernel
theorem dX11_init_68 : decode cX11_init 68 = .ok (.aload_n 0, 1) := by decide +kernel
theorem dX11_init_69 : decode cX11_init 69 = .ok (.bipush 6, 2) := by decide +kernel
theorem dX11_init_71 : decode cX11_init 71 = .ok (.newarray .int, 2) := by decide +kernel
theorem dX11_init_73 : decode cX11_init 73 = .ok (.putfield 34, 3) := by decide +kernel
theorem dX11_init_76 : decode cX11_init 76 = .ok (.aload_n 0, 1) := by decide +kernel
theorem dX11_init_77 : decode cX11_init 77 = .ok (.bipush 6, 2) := by decide +kernel
theorem dX11_init_79 : decode cX11_init 79 = .ok (.newarray .int, 2) := by decide +kernel
theorem dX11_init_81 : decode cX11_init 81 = .ok (.putfield 37, 3) := by decide +kernel
theorem dX11_init_84 : decode cX11_init 84 = .ok (.aload_n 0, 1) := by decide +kernel
theorem dX11_init_85 : decode cX11_init 85 = .ok (.iconst 2, 1) := by decide +kernel
theorem dX11_init_86 : decode cX11_init 86 = .ok (.newarray .boolean, 2) := by decide +kernel
theorem dX11_init_88 : decode cX11_init 88 = .ok (.putfield 40, 3) := by decide +kernel
theorem dX11_init_91 : decode cX11_init 91 = .ok (.aload_n 0, 1) := by decide +kernel
theorem dX11_init_92 : decode cX11_init 92 = .ok (.bipush 106, 2) := by decide +kernel
theorem dX11_init_94 : decode cX11_init 94 = .ok (.newarray .int, 2) := by decide +kernel
theorem dX11_init_96 : decode cX11_init 96 = .ok (.putfield 44, 3) := by decide +kernel
theorem dX11_init_99 : decode cX11_init 99 = .ok (.return_, 1) := by decide +kernel
theorem dX11_in_0 : decode cX11_in 0 = .ok (.lload_n 0, 1) := by decide +kernel
theorem dX11_in_1 : decode cX11_in 1 = .ok (.lload_n 2, 1) := by decide +kernel
theorem dX11_in_2 : decode cX11_in 2 = .ok (.lcmp, 1) := by decide +kernel
theorem dX11_in_3 : decode cX11_in 3 = .ok (.ifCond .lt 14, 3) := by decide +kernel
theorem dX11_in_6 : decode cX11_in 6 = .ok (.lload_n 0, 1) := by decide +kernel
theorem dX11_in_7 : decode cX11_in 7 = .ok (.lload 4, 2) := by decide +kernel
theorem dX11_in_9 : decode cX11_in 9 = .ok (.lcmp, 1) := by decide +kernel
theorem dX11_in_10 : decode cX11_in 10 = .ok (.ifCond .gt 7, 3) := by decide +kernel
theorem dX11_in_13 : decode cX11_in 13 = .ok (.iconst 1, 1) := by decide +kernel
theorem dX11_in_14 : decode cX11_in 14 = .ok (.goto 4, 3) := by decide +kernel
theorem dX11_in_17 : decode cX11_in 17 = .ok (.iconst 0, 1) := by decide +kernel
theorem dX11_in_18 : decode cX11_in 18 = .ok (.ireturn, 1) := by decide +kernel
theorem dX11_has_0 : decode cX11_has 0 = .ok (.iload_n 0, 1) := by decide +kernel
theorem dX11_has_1 : decode cX11_has 1 = .ok (.iload_n 1, 1) := by decide +kernel
theorem dX11_has_2 : decode cX11_has 2 = .ok (.ishr, 1) := by decide +kernel
theorem dX11_has_3 : decode cX11_has 3 = .ok (.iconst 1, 1) := by decide +kernel
theorem dX11_has_4 : decode cX11_has 4 = .ok (.iand, 1) := by decide +kernel
theorem dX11_has_5 : decode cX11_has 5 = .ok (.iconst 1, 1) := by decide +kernel
theorem dX11_has_6 : decode cX11_has 6 = .ok (.if_icmp .ne 7, 3) := by decide +kernel
theorem dX11_has_9 : decode cX11_has 9 = .ok (.iconst 1, 1) := by decide +kernel
theorem dX11_has_10 : decode cX11_has 10 = .ok (.goto 4, 3) := by decide +kernel
theorem dX11_has_13 : decode cX11_has 13 = .ok (.iconst 0, 1) := by decide +kernel
theorem dX11_has_14 : decode cX11_has 14 = .ok (.ireturn, 1) := by decide +kernel
theorem dX11_ones_0 : decode cX11_ones 0 = .ok (.iconst 0, 1) := by decide +kernel
theorem dX11_ones_1 : decode cX11_ones 1 = .ok (.istore_n 1, 1) := by decide +kernel
theorem dX11_ones_2 : decode cX11_ones 2 = .ok (.iconst 0, 1) := by decide +kernel
theorem dX11_ones_3 : decode cX11_ones 3 = .ok (.istore_n 2, 1) := by decide +kernel
theorem dX11_ones_4 : decode cX11_ones 4 = .ok (.iload_n 2, 1) := by decide +kernel
theorem dX11_ones_5 : decode cX11_ones 5 = .ok (.bipush 12, 2) := by decide +kernel
theorem dX11_ones_7 : decode cX11_ones 7 = .ok (.if_icmp .ge 17, 3) := by decide +kernel
theorem dX11_ones_10 : decode cX11_ones 10 = .ok (.iload_n 1, 1) := by decide +kernel
theorem dX11_ones_11 : decode cX11_ones 11 = .ok (.iload_n 0, 1) := by decide +kernel
theorem dX11_ones_12 : decode cX11_ones 12 = .ok (.iload_n 2, 1) := by decide +kernel
theorem dX11_ones_13 : decode cX11_ones 13 = .ok (.ishr, 1) := by decide +kernel
theorem dX11_ones_14 : decode cX11_ones 14 = .ok (.iconst 1, 1) := by decide +kernel
theorem dX11_ones_15 : decode cX11_ones 15 = .ok (.iand, 1) := by decide +kernel
theorem dX11_ones_16 : decode cX11_ones 16 = .ok (.iadd, 1) := by decide +kernel
theorem dX11_ones_17 : decode cX11_ones 17 = .ok (.istore_n 1, 1) := by decide +kernel
theorem dX11_ones_18 : decode cX11_ones 18 = .ok (.iinc 2 1, 3) := by decide +kernel
theorem dX11_ones_21 : decode cX11_ones 21 = .ok (.goto (-17), 3) := by decide +kernel
theorem dX11_ones_24 : decode cX11_ones 24 = .ok (.iload_n 1, 1) := by decide +kernel
theorem dX11_ones_25 : decode cX11_ones 25 = .ok (.ireturn, 1) := by decide +kernel
theorem dX11_isNail_0 : decode cX11_isNail 0 = .ok (.iload_n 0, 1) := by decide +kernel
theorem dX11_isNail_1 : decode cX11_isNail 1 = .ok (.i2l, 1) := by decide +kernel
theorem dX11_isNail_2 : decode cX11_isNail 2 = .ok (.lconst 0, 1) := by decide +kernel
theorem dX11_isNail_3 : decode cX11_isNail 3 = .ok (.ldc2_w 47, 3) := by decide +kernel
theorem dX11_isNail_6 : decode cX11_isNail 6 = .ok (.invokestatic 49, 3) := by decide +kernel
theorem dX11_isNail_9 : decode cX11_isNail 9 = .ok (.ireturn, 1) := by decide +kernel
theorem dX11_apart_0 : decode cX11_apart 0 = .ok (.iload_n 0, 1) := by decide +kernel
theorem dX11_apart_1 : decode cX11_apart 1 = .ok (.iload_n 1, 1) := by decide +kernel
theorem dX11_apart_2 : decode cX11_apart 2 = .ok (.isub, 1) := by decide +kernel
theorem dX11_apart_3 : decode cX11_apart 3 = .ok (.bipush 12, 2) := by decide +kernel
theorem dX11_apart_5 : decode cX11_apart 5 = .ok (.iadd, 1) := by decide +kernel
theorem dX11_apart_6 : decode cX11_apart 6 = .ok (.bipush 12, 2) := by decide +kernel
theorem dX11_apart_8 : decode cX11_apart 8 = .ok (.irem, 1) := by decide +kernel
theorem dX11_apart_9 : decode cX11_apart 9 = .ok (.istore_n 2, 1) := by decide +kernel
theorem dX11_apart_10 : decode cX11_apart 10 = .ok (.iload_n 2, 1) := by decide +kernel
theorem dX11_apart_11 : decode cX11_apart 11 = .ok (.bipush 6, 2) := by decide +kernel
theorem dX11_apart_13 : decode cX11_apart 13 = .ok (.if_icmp .le 10, 3) := by decide +kernel
theorem dX11_apart_16 : decode cX11_apart 16 = .ok (.bipush 12, 2) := by decide +kernel
theorem dX11_apart_18 : decode cX11_apart 18 = .ok (.iload_n 2, 1) := by decide +kernel
theorem dX11_apart_19 : decode cX11_apart 19 = .ok (.isub, 1) := by decide +kernel
theorem dX11_apart_20 : decode cX11_apart 20 = .ok (.goto 4, 3) := by decide +kernel
theorem dX11_apart_23 : decode cX11_apart 23 = .ok (.iload_n 2, 1) := by decide +kernel
theorem dX11_apart_24 : decode cX11_apart 24 = .ok (.ireturn, 1) := by decide +kernel
theorem dX11_longBy_0 : decode cX11_longBy 0 = .ok (.iload_n 0, 1) := by decide +kernel
theorem dX11_longBy_1 : decode cX11_longBy 1 = .ok (.iload_n 1, 1) := by decide +kernel
theorem dX11_longBy_2 : decode cX11_longBy 2 = .ok (.invokestatic 53, 3) := by decide +kernel
theorem dX11_longBy_5 : decode cX11_longBy 5 = .ok (.tableswitch 49 1 5 #[35, 37, 40, 43, 46], 35) := by decide +kernel
theorem dX11_longBy_40 : decode cX11_longBy 40 = .ok (.iconst 5, 1) := by decide +kernel
theorem dX11_longBy_41 : decode cX11_longBy 41 = .ok (.ireturn, 1) := by decide +kernel
theorem dX11_longBy_42 : decode cX11_longBy 42 = .ok (.bipush 10, 2) := by decide +kernel
theorem dX11_longBy_44 : decode cX11_longBy 44 = .ok (.ireturn, 1) := by decide +kernel
theorem dX11_longBy_45 : decode cX11_longBy 45 = .ok (.bipush 14, 2) := by decide +kernel
theorem dX11_longBy_47 : decode cX11_longBy 47 = .ok (.ireturn, 1) := by decide +kernel
theorem dX11_longBy_48 : decode cX11_longBy 48 = .ok (.bipush 17, 2) := by decide +kernel
theorem dX11_longBy_50 : decode cX11_longBy 50 = .ok (.ireturn, 1) := by decide +kernel
theorem dX11_longBy_51 : decode cX11_longBy 51 = .ok (.bipush 19, 2) := by decide +kernel
theorem dX11_longBy_53 : decode cX11_longBy 53 = .ok (.ireturn, 1) := by decide +kernel
theorem dX11_longBy_54 : decode cX11_longBy 54 = .ok (.bipush 20, 2) := by decide +kernel
theorem dX11_longBy_56 : decode cX11_longBy 56 = .ok (.ireturn, 1) := by decide +kernel
theorem dX11_isBetween_0 : decode cX11_isBetween 0 = .ok (.iload_n 2, 1) := by decide +kernel
theorem dX11_isBetween_1 : decode cX11_isBetween 1 = .ok (.iload_n 0, 1) := by decide +kernel
theorem dX11_isBetween_2 : decode cX11_isBetween 2 = .ok (.isub, 1) := by decide +kernel
theorem dX11_isBetween_3 : decode cX11_isBetween 3 = .ok (.bipush 12, 2) := by decide +kernel
theorem dX11_isBetween_5 : decode cX11_isBetween 5 = .ok (.iadd, 1) := by decide +kernel
theorem dX11_isBetween_6 : decode cX11_isBetween 6 = .ok (.bipush 12, 2) := by decide +kernel
theorem dX11_isBetween_8 : decode cX11_isBetween 8 = .ok (.irem, 1) := by decide +kernel
theorem dX11_isBetween_9 : decode cX11_isBetween 9 = .ok (.iload_n 1, 1) := by decide +kernel
theorem dX11_isBetween_10 : decode cX11_isBetween 10 = .ok (.iload_n 0, 1) := by decide +kernel
theorem dX11_isBetween_11 : decode cX11_isBetween 11 = .ok (.isub, 1) := by decide +kernel
theorem dX11_isBetween_12 : decode cX11_isBetween 12 = .ok (.bipush 12, 2) := by decide +kernel
theorem dX11_isBetween_14 : decode cX11_isBetween 14 = .ok (.iadd, 1) := by decide +kernel
theorem dX11_isBetween_15 : decode cX11_isBetween 15 = .ok (.bipush 12, 2) := by decide +kernel
theorem dX11_isBetween_17 : decode cX11_isBetween 17 = .ok (.irem, 1) := by decide +kernel
theorem dX11_isBetween_18 : decode cX11_isBetween 18 = .ok (.if_icmp .ge 7, 3) := by decide +kernel
theorem dX11_isBetween_21 : decode cX11_isBetween 21 = .ok (.iconst 1, 1) := by decide +kernel
theorem dX11_isBetween_22 : decode cX11_isBetween 22 = .ok (.goto 4, 3) := by decide +kernel
theorem dX11_isBetween_25 : decode cX11_isBetween 25 = .ok (.iconst 0, 1) := by decide +kernel
theorem dX11_isBetween_26 : decode cX11_isBetween 26 = .ok (.ireturn, 1) := by decide +kernel
theorem dX11_cross_0 : decode cX11_cross 0 = .ok (.iload_n 0, 1) := by decide +kernel
theorem dX11_cross_1 : decode cX11_cross 1 = .ok (.iload_n 2, 1) := by decide +kernel
theorem dX11_cross_2 : decode cX11_cross 2 = .ok (.if_icmp .eq 18, 3) := by decide +kernel
theorem dX11_cross_5 : decode cX11_cross 5 = .ok (.iload_n 0, 1) := by decide +kernel
theorem dX11_cross_6 : decode cX11_cross 6 = .ok (.iload_n 3, 1) := by decide +kernel
theorem dX11_cross_7 : decode cX11_cross 7 = .ok (.if_icmp .eq 13, 3) := by decide +kernel
theorem dX11_cross_10 : decode cX11_cross 10 = .ok (.iload_n 1, 1) := by decide +kernel
theorem dX11_cross_11 : decode cX11_cross 11 = .ok (.iload_n 2, 1) := by decide +kernel
theorem dX11_cross_12 : decode cX11_cross 12 = .ok (.if_icmp .eq 8, 3) := by decide +kernel
theorem dX11_cross_15 : decode cX11_cross 15 = .ok (.iload_n 1, 1) := by decide +kernel
theorem dX11_cross_16 : decode cX11_cross 16 = .ok (.iload_n 3, 1) := by decide +kernel
theorem dX11_cross_17 : decode cX11_cross 17 = .ok (.if_icmp .ne 5, 3) := by decide +kernel
theorem dX11_cross_20 : decode cX11_cross 20 = .ok (.iconst 0, 1) := by decide +kernel
theorem dX11_cross_21 : decode cX11_cross 21 = .ok (.ireturn, 1) := by decide +kernel
theorem dX11_cross_22 : decode cX11_cross 22 = .ok (.iload_n 0, 1) := by decide +kernel
theorem dX11_cross_23 : decode cX11_cross 23 = .ok (.iload_n 1, 1) := by decide +kernel
theorem dX11_cross_24 : decode cX11_cross 24 = .ok (.iload_n 2, 1) := by decide +kernel
theorem dX11_cross_25 : decode cX11_cross 25 = .ok (.invokestatic 57, 3) := by decide +kernel
theorem dX11_cross_28 : decode cX11_cross 28 = .ok (.iload_n 0, 1) := by decide +kernel
theorem dX11_cross_29 : decode cX11_cross 29 = .ok (.iload_n 1, 1) := by decide +kernel
theorem dX11_cross_30 : decode cX11_cross 30 = .ok (.iload_n 3, 1) := by decide +kernel
theorem dX11_cross_31 : decode cX11_cross 31 = .ok (.invokestatic 57, 3) := by decide +kernel
theorem dX11_cross_34 : decode cX11_cross 34 = .ok (.if_icmp .eq 7, 3) := by decide +kernel
theorem dX11_cross_37 : decode cX11_cross 37 = .ok (.iconst 1, 1) := by decide +kernel
theorem dX11_cross_38 : decode cX11_cross 38 = .ok (.goto 4, 3) := by decide +kernel
theorem dX11_cross_41 : decode cX11_cross 41 = .ok (.iconst 0, 1) := by decide +kernel
theorem dX11_cross_42 : decode cX11_cross 42 = .ok (.ireturn, 1) := by decide +kernel
theorem dX11_asOne_0 : decode cX11_asOne 0 = .ok (.iload_n 0, 1) := by decide +kernel
theorem dX11_asOne_1 : decode cX11_asOne 1 = .ok (.bipush 12, 2) := by decide +kernel
theorem dX11_asOne_3 : decode cX11_asOne 3 = .ok (.imul, 1) := by decide +kernel
theorem dX11_asOne_4 : decode cX11_asOne 4 = .ok (.iload_n 1, 1) := by decide +kernel
theorem dX11_asOne_5 : decode cX11_asOne 5 = .ok (.iadd, 1) := by decide +kernel
theorem dX11_asOne_6 : decode cX11_asOne 6 = .ok (.bipush 12, 2) := by decide +kernel
theorem dX11_asOne_8 : decode cX11_asOne 8 = .ok (.imul, 1) := by decide +kernel
theorem dX11_asOne_9 : decode cX11_asOne 9 = .ok (.iload_n 2, 1) := by decide +kernel
theorem dX11_asOne_10 : decode cX11_asOne 10 = .ok (.iadd, 1) := by decide +kernel
theorem dX11_asOne_11 : decode cX11_asOne 11 = .ok (.bipush 12, 2) := by decide +kernel
theorem dX11_asOne_13 : decode cX11_asOne 13 = .ok (.imul, 1) := by decide +kernel
theorem dX11_asOne_14 : decode cX11_asOne 14 = .ok (.iload_n 3, 1) := by decide +kernel
theorem dX11_asOne_15 : decode cX11_asOne 15 = .ok (.iadd, 1) := by decide +kernel
theorem dX11_asOne_16 : decode cX11_asOne 16 = .ok (.ireturn, 1) := by decide +kernel
theorem dX11_threadOf_0 : decode cX11_threadOf 0 = .ok (.iload_n 0, 1) := by decide +kernel
theorem dX11_threadOf_1 : decode cX11_threadOf 1 = .ok (.sipush 1728, 3) := by decide +kernel
theorem dX11_threadOf_4 : decode cX11_threadOf 4 = .ok (.idiv, 1) := by decide +kernel
theorem dX11_threadOf_5 : decode cX11_threadOf 5 = .ok (.ireturn, 1) := by decide +kernel
theorem dX11_fromOf_0 : decode cX11_fromOf 0 = .ok (.iload_n 0, 1) := by decide +kernel
theorem dX11_fromOf_1 : decode cX11_fromOf 1 = .ok (.sipush 144, 3) := by decide +kernel
theorem dX11_fromOf_4 : decode cX11_fromOf 4 = .ok (.idiv, 1) := by decide +kernel
theorem dX11_fromOf_5 : decode cX11_fromOf 5 = .ok (.bipush 12, 2) := by decide +kernel
theorem dX11_fromOf_7 : decode cX11_fromOf 7 = .ok (.irem, 1) := by decide +kernel
theorem dX11_fromOf_8 : decode cX11_fromOf 8 = .ok (.ireturn, 1) := by decide +kernel
theorem dX11_toOf_0 : decode cX11_toOf 0 = .ok (.iload_n 0, 1) := by decide +kernel
theorem dX11_toOf_1 : decode cX11_toOf 1 = .ok (.bipush 12, 2) := by decide +kernel
theorem dX11_toOf_3 : decode cX11_toOf 3 = .ok (.idiv, 1) := by decide +kernel
theorem dX11_toOf_4 : decode cX11_toOf 4 = .ok (.bipush 12, 2) := by decide +kernel
theorem dX11_toOf_6 : decode cX11_toOf 6 = .ok (.irem, 1) := by decide +kernel
theorem dX11_toOf_7 : decode cX11_toOf 7 = .ok (.ireturn, 1) := by decide +kernel
theorem dX11_whichOf_0 : decode cX11_whichOf 0 = .ok (.iload_n 0, 1) := by decide +kernel
theorem dX11_whichOf_1 : decode cX11_whichOf 1 = .ok (.bipush 12, 2) := by decide +kernel
theorem dX11_whichOf_3 : decode cX11_whichOf 3 = .ok (.irem, 1) := by decide +kernel
theorem dX11_whichOf_4 : decode cX11_whichOf 4 = .ok (.ireturn, 1) := by decide +kernel
theorem dX11_crossOnes_0 : decode cX11_crossOnes 0 = .ok (.iload_n 0, 1) := by decide +kernel
theorem dX11_crossOnes_1 : decode cX11_crossOnes 1 = .ok (.invokestatic 61, 3) := by decide +kernel
theorem dX11_crossOnes_4 : decode cX11_crossOnes 4 = .ok (.iload_n 0, 1) := by decide +kernel
theorem dX11_crossOnes_5 : decode cX11_crossOnes 5 = .ok (.invokestatic 65, 3) := by decide +kernel
theorem dX11_crossOnes_8 : decode cX11_crossOnes 8 = .ok (.iload_n 1, 1) := by decide +kernel
theorem dX11_crossOnes_9 : decode cX11_crossOnes 9 = .ok (.invokestatic 61, 3) := by decide +kernel
theorem dX11_crossOnes_12 : decode cX11_crossOnes 12 = .ok (.iload_n 1, 1) := by decide +kernel
theorem dX11_crossOnes_13 : decode cX11_crossOnes 13 = .ok (.invokestatic 65, 3) := by decide +kernel
theorem dX11_crossOnes_16 : decode cX11_crossOnes 16 = .ok (.invokestatic 68, 3) := by decide +kernel
theorem dX11_crossOnes_19 : decode cX11_crossOnes 19 = .ok (.ireturn, 1) := by decide +kernel
theorem dX11_laid_0 : decode cX11_laid 0 = .ok (.aload_n 0, 1) := by decide +kernel
theorem dX11_laid_1 : decode cX11_laid 1 = .ok (.getfield 13, 3) := by decide +kernel
theorem dX11_laid_4 : decode cX11_laid 4 = .ok (.bipush 53, 2) := by decide +kernel
theorem dX11_laid_6 : decode cX11_laid 6 = .ok (.iload_n 1, 1) := by decide +kernel
theorem dX11_laid_7 : decode cX11_laid 7 = .ok (.imul, 1) := by decide +kernel
theorem dX11_laid_8 : decode cX11_laid 8 = .ok (.iconst 5, 1) := by decide +kernel
theorem dX11_laid_9 : decode cX11_laid 9 = .ok (.iadd, 1) := by decide +kernel
theorem dX11_laid_10 : decode cX11_laid 10 = .ok (.iload_n 2, 1) := by decide +kernel
theorem dX11_laid_11 : decode cX11_laid 11 = .ok (.iadd, 1) := by decide +kernel
theorem dX11_laid_12 : decode cX11_laid 12 = .ok (.iaload, 1) := by decide +kernel
theorem dX11_laid_13 : decode cX11_laid 13 = .ok (.ireturn, 1) := by decide +kernel
theorem dX11_many_0 : decode cX11_many 0 = .ok (.aload_n 0, 1) := by decide +kernel
theorem dX11_many_1 : decode cX11_many 1 = .ok (.getfield 13, 3) := by decide +kernel
theorem dX11_many_4 : decode cX11_many 4 = .ok (.bipush 53, 2) := by decide +kernel
theorem dX11_many_6 : decode cX11_many 6 = .ok (.iload_n 1, 1) := by decide +kernel
theorem dX11_many_7 : decode cX11_many 7 = .ok (.imul, 1) := by decide +kernel
theorem dX11_many_8 : decode cX11_many 8 = .ok (.iconst 4, 1) := by decide +kernel
theorem dX11_many_9 : decode cX11_many 9 = .ok (.iadd, 1) := by decide +kernel
theorem dX11_many_10 : decode cX11_many 10 = .ok (.iaload, 1) := by decide +kernel
theorem dX11_many_11 : decode cX11_many 11 = .ok (.ireturn, 1) := by decide +kernel
theorem dX11_write_0 : decode cX11_write 0 = .ok (.iload_n 1, 1) := by decide +kernel
theorem dX11_write_1 : decode cX11_write 1 = .ok (.i2l, 1) := by decide +kernel
theorem dX11_write_2 : decode cX11_write 2 = .ok (.lconst 0, 1) := by decide +kernel
theorem dX11_write_3 : decode cX11_write 3 = .ok (.ldc2_w 72, 3) := by decide +kernel
theorem dX11_write_6 : decode cX11_write 6 = .ok (.invokestatic 49, 3) := by decide +kernel
theorem dX11_write_9 : decode cX11_write 9 = .ok (.ifCond .ne 6, 3) := by decide +kernel
theorem dX11_write_12 : decode cX11_write 12 = .ok (.bipush (-2), 2) := by decide +kernel
theorem dX11_write_14 : decode cX11_write 14 = .ok (.ireturn, 1) := by decide +kernel
theorem dX11_write_15 : decode cX11_write 15 = .ok (.aload_n 0, 1) := by decide +kernel
theorem dX11_write_16 : decode cX11_write 16 = .ok (.getfield 74, 3) := by decide +kernel
theorem dX11_write_19 : decode cX11_write 19 = .ok (.bipush 48, 2) := by decide +kernel
theorem dX11_write_21 : decode cX11_write 21 = .ok (.if_icmp .ne 6, 3) := by decide +kernel
theorem dX11_write_24 : decode cX11_write 24 = .ok (.bipush (-4), 2) := by decide +kernel
theorem dX11_write_26 : decode cX11_write 26 = .ok (.ireturn, 1) := by decide +kernel
theorem dX11_write_27 : decode cX11_write 27 = .ok (.aload_n 0, 1) := by decide +kernel
theorem dX11_write_28 : decode cX11_write 28 = .ok (.getfield 19, 3) := by decide +kernel
theorem dX11_write_31 : decode cX11_write 31 = .ok (.aload_n 0, 1) := by decide +kernel
theorem dX11_write_32 : decode cX11_write 32 = .ok (.getfield 74, 3) := by decide +kernel
theorem dX11_write_35 : decode cX11_write 35 = .ok (.iload_n 1, 1) := by decide +kernel
theorem dX11_write_36 : decode cX11_write 36 = .ok (.iastore, 1) := by decide +kernel
theorem dX11_write_37 : decode cX11_write 37 = .ok (.aload_n 0, 1) := by decide +kernel
theorem dX11_write_38 : decode cX11_write 38 = .ok (.dup, 1) := by decide +kernel
theorem dX11_write_39 : decode cX11_write 39 = .ok (.getfield 74, 3) := by decide +kernel
theorem dX11_write_42 : decode cX11_write 42 = .ok (.iconst 1, 1) := by decide +kernel
theorem dX11_write_43 : decode cX11_write 43 = .ok (.iadd, 1) := by decide +kernel
theorem dX11_write_44 : decode cX11_write 44 = .ok (.putfield 74, 3) := by decide +kernel
theorem dX11_write_47 : decode cX11_write 47 = .ok (.aload_n 0, 1) := by decide +kernel
theorem dX11_write_48 : decode cX11_write 48 = .ok (.getfield 74, 3) := by decide +kernel
theorem dX11_write_51 : decode cX11_write 51 = .ok (.ireturn, 1) := by decide +kernel
theorem dX11_wipe_0 : decode cX11_wipe 0 = .ok (.aload_n 0, 1) := by decide +kernel
theorem dX11_wipe_1 : decode cX11_wipe 1 = .ok (.getfield 74, 3) := by decide +kernel
theorem dX11_wipe_4 : decode cX11_wipe 4 = .ok (.istore_n 1, 1) := by decide +kernel
theorem dX11_wipe_5 : decode cX11_wipe 5 = .ok (.aload_n 0, 1) := by decide +kernel
theorem dX11_wipe_6 : decode cX11_wipe 6 = .ok (.iconst 0, 1) := by decide +kernel
theorem dX11_wipe_7 : decode cX11_wipe 7 = .ok (.putfield 74, 3) := by decide +kernel
theorem dX11_wipe_10 : decode cX11_wipe 10 = .ok (.iload_n 1, 1) := by decide +kernel
theorem dX11_wipe_11 : decode cX11_wipe 11 = .ok (.ireturn, 1) := by decide +kernel
theorem dX11_clearLevel_0 : decode cX11_clearLevel 0 = .ok (.iconst 0, 1) := by decide +kernel
theorem dX11_clearLevel_1 : decode cX11_clearLevel 1 = .ok (.istore_n 2, 1) := by decide +kernel
theorem dX11_clearLevel_2 : decode cX11_clearLevel 2 = .ok (.iload_n 2, 1) := by decide +kernel
theorem dX11_clearLevel_3 : decode cX11_clearLevel 3 = .ok (.bipush 53, 2) := by decide +kernel
theorem dX11_clearLevel_5 : decode cX11_clearLevel 5 = .ok (.if_icmp .ge 21, 3) := by decide +kernel
theorem dX11_clearLevel_8 : decode cX11_clearLevel 8 = .ok (.aload_n 0, 1) := by decide +kernel
theorem dX11_clearLevel_9 : decode cX11_clearLevel 9 = .ok (.getfield 13, 3) := by decide +kernel
theorem dX11_clearLevel_12 : decode cX11_clearLevel 12 = .ok (.bipush 53, 2) := by decide +kernel
theorem dX11_clearLevel_14 : decode cX11_clearLevel 14 = .ok (.iload_n 1, 1) := by decide +kernel
theorem dX11_clearLevel_15 : decode cX11_clearLevel 15 = .ok (.imul, 1) := by decide +kernel
theorem dX11_clearLevel_16 : decode cX11_clearLevel 16 = .ok (.iload_n 2, 1) := by decide +kernel
theorem dX11_clearLevel_17 : decode cX11_clearLevel 17 = .ok (.iadd, 1) := by decide +kernel
theorem dX11_clearLevel_18 : decode cX11_clearLevel 18 = .ok (.iconst 0, 1) := by decide +kernel
theorem dX11_clearLevel_19 : decode cX11_clearLevel 19 = .ok (.iastore, 1) := by decide +kernel
theorem dX11_clearLevel_20 : decode cX11_clearLevel 20 = .ok (.iinc 2 1, 3) := by decide +kernel
theorem dX11_clearLevel_23 : decode cX11_clearLevel 23 = .ok (.goto (-21), 3) := by decide +kernel
theorem dX11_clearLevel_26 : decode cX11_clearLevel 26 = .ok (.return_, 1) := by decide +kernel
theorem dX11_kindOf_0 : decode cX11_kindOf 0 = .ok (.iload_n 1, 1) := by decide +kernel
theorem dX11_kindOf_1 : decode cX11_kindOf 1 = .ok (.iconst 1, 1) := by decide +kernel
theorem dX11_kindOf_2 : decode cX11_kindOf 2 = .ok (.if_icmp .ne 19, 3) := by decide +kernel
theorem dX11_kindOf_5 : decode cX11_kindOf 5 = .ok (.aload_n 0, 1) := by decide +kernel
theorem dX11_kindOf_6 : decode cX11_kindOf 6 = .ok (.getfield 78, 3) := by decide +kernel
theorem dX11_kindOf_9 : decode cX11_kindOf 9 = .ok (.ifCond .eq 12, 3) := by decide +kernel
theorem dX11_kindOf_12 : decode cX11_kindOf 12 = .ok (.aload_n 0, 1) := by decide +kernel
theorem dX11_kindOf_13 : decode cX11_kindOf 13 = .ok (.getfield 16, 3) := by decide +kernel
theorem dX11_kindOf_16 : decode cX11_kindOf 16 = .ok (.iload_n 2, 1) := by decide +kernel
theorem dX11_kindOf_17 : decode cX11_kindOf 17 = .ok (.iaload, 1) := by decide +kernel
theorem dX11_kindOf_18 : decode cX11_kindOf 18 = .ok (.goto 9, 3) := by decide +kernel
theorem dX11_kindOf_21 : decode cX11_kindOf 21 = .ok (.aload_n 0, 1) := by decide +kernel
theorem dX11_kindOf_22 : decode cX11_kindOf 22 = .ok (.getfield 7, 3) := by decide +kernel
theorem dX11_kindOf_25 : decode cX11_kindOf 25 = .ok (.iload_n 2, 1) := by decide +kernel
theorem dX11_kindOf_26 : decode cX11_kindOf 26 = .ok (.iaload, 1) := by decide +kernel
theorem dX11_kindOf_27 : decode cX11_kindOf 27 = .ok (.ireturn, 1) := by decide +kernel
theorem dX11_readText_0 : decode cX11_readText 0 = .ok (.aload_n 0, 1) := by decide +kernel
theorem dX11_readText_1 : decode cX11_readText 1 = .ok (.iconst 1, 1) := by decide +kernel
theorem dX11_readText_2 : decode cX11_readText 2 = .ok (.invokevirtual 82, 3) := by decide +kernel
theorem dX11_readText_5 : decode cX11_readText 5 = .ok (.aload_n 0, 1) := by decide +kernel
theorem dX11_readText_6 : decode cX11_readText 6 = .ok (.iconst 0, 1) := by decide +kernel
theorem dX11_readText_7 : decode cX11_readText 7 = .ok (.putfield 86, 3) := by decide +kernel
theorem dX11_readText_10 : decode cX11_readText 10 = .ok (.aload_n 0, 1) := by decide +kernel
theorem dX11_readText_11 : decode cX11_readText 11 = .ok (.iconst 1, 1) := by decide +kernel
theorem dX11_readText_12 : decode cX11_readText 12 = .ok (.putfield 78, 3) := by decide +kernel
theorem dX11_readText_15 : decode cX11_readText 15 = .ok (.aload_n 0, 1) := by decide +kernel
theorem dX11_readText_16 : decode cX11_readText 16 = .ok (.invokevirtual 89, 3) := by decide +kernel
theorem dX11_readText_19 : decode cX11_readText 19 = .ok (.istore_n 1, 1) := by decide +kernel
theorem dX11_readText_20 : decode cX11_readText 20 = .ok (.aload_n 0, 1) := by decide +kernel
theorem dX11_readText_21 : decode cX11_readText 21 = .ok (.iconst 0, 1) := by decide +kernel
theorem dX11_readText_22 : decode cX11_readText 22 = .ok (.putfield 78, 3) := by decide +kernel
theorem dX11_readText_25 : decode cX11_readText 25 = .ok (.iload_n 1, 1) := by decide +kernel
theorem dX11_readText_26 : decode cX11_readText 26 = .ok (.ireturn, 1) := by decide +kernel
theorem dX11_readParts_0 : decode cX11_readParts 0 = .ok (.aload_n 0, 1) := by decide +kernel
theorem dX11_readParts_1 : decode cX11_readParts 1 = .ok (.getfield 74, 3) := by decide +kernel
theorem dX11_readParts_4 : decode cX11_readParts 4 = .ok (.ifCond .eq 14, 3) := by decide +kernel
theorem dX11_readParts_7 : decode cX11_readParts 7 = .ok (.aload_n 0, 1) := by decide +kernel
theorem dX11_readParts_8 : decode cX11_readParts 8 = .ok (.getfield 19, 3) := by decide +kernel
theorem dX11_readParts_11 : decode cX11_readParts 11 = .ok (.iconst 0, 1) := by decide +kernel
theorem dX11_readParts_12 : decode cX11_readParts 12 = .ok (.iaload, 1) := by decide +kernel
theorem dX11_readParts_13 : decode cX11_readParts 13 = .ok (.bipush 78, 2) := by decide +kernel
theorem dX11_readParts_15 : decode cX11_readParts 15 = .ok (.if_icmp .eq 5, 3) := by decide +kernel
theorem dX11_readParts_18 : decode cX11_readParts 18 = .ok (.iconst 0, 1) := by decide +kernel
theorem dX11_readParts_19 : decode cX11_readParts 19 = .ok (.ireturn, 1) := by decide +kernel
theorem dX11_readParts_20 : decode cX11_readParts 20 = .ok (.iconst 0, 1) := by decide +kernel
theorem dX11_readParts_21 : decode cX11_readParts 21 = .ok (.istore_n 1, 1) := by decide +kernel
theorem dX11_readParts_22 : decode cX11_readParts 22 = .ok (.iconst 0, 1) := by decide +kernel
theorem dX11_readParts_23 : decode cX11_readParts 23 = .ok (.istore_n 2, 1) := by decide +kernel
theorem dX11_readParts_24 : decode cX11_readParts 24 = .ok (.iconst 1, 1) := by decide +kernel
theorem dX11_readParts_25 : decode cX11_readParts 25 = .ok (.istore_n 3, 1) := by decide +kernel
theorem dX11_readParts_26 : decode cX11_readParts 26 = .ok (.iload_n 3, 1) := by decide +kernel
theorem dX11_readParts_27 : decode cX11_readParts 27 = .ok (.aload_n 0, 1) := by decide +kernel
theorem dX11_readParts_28 : decode cX11_readParts 28 = .ok (.getfield 74, 3) := by decide +kernel
theorem dX11_readParts_31 : decode cX11_readParts 31 = .ok (.if_icmp .ge 152, 3) := by decide +kernel
theorem dX11_readParts_34 : decode cX11_readParts 34 = .ok (.aload_n 0, 1) := by decide +kernel
theorem dX11_readParts_35 : decode cX11_readParts 35 = .ok (.getfield 19, 3) := by decide +kernel
theorem dX11_readParts_38 : decode cX11_readParts 38 = .ok (.iload_n 3, 1) := by decide +kernel
theorem dX11_readParts_39 : decode cX11_readParts 39 = .ok (.iaload, 1) := by decide +kernel
theorem dX11_readParts_40 : decode cX11_readParts 40 = .ok (.istore 4, 2) := by decide +kernel
theorem dX11_readParts_42 : decode cX11_readParts 42 = .ok (.iload_n 2, 1) := by decide +kernel
theorem dX11_readParts_43 : decode cX11_readParts 43 = .ok (.iconst 1, 1) := by decide +kernel
theorem dX11_readParts_44 : decode cX11_readParts 44 = .ok (.if_icmp .ne 41, 3) := by decide +kernel
theorem dX11_readParts_47 : decode cX11_readParts 47 = .ok (.iload 4, 2) := by decide +kernel
theorem dX11_readParts_49 : decode cX11_readParts 49 = .ok (.i2l, 1) := by decide +kernel
theorem dX11_readParts_50 : decode cX11_readParts 50 = .ok (.ldc2_w 93, 3) := by decide +kernel
theorem dX11_readParts_53 : decode cX11_readParts 53 = .ok (.ldc2_w 95, 3) := by decide +kernel
theorem dX11_readParts_56 : decode cX11_readParts 56 = .ok (.invokestatic 49, 3) := by decide +kernel
theorem dX11_readParts_59 : decode cX11_readParts 59 = .ok (.ifCond .ne 5, 3) := by decide +kernel
theorem dX11_readParts_62 : decode cX11_readParts 62 = .ok (.iload_n 3, 1) := by decide +kernel
theorem dX11_readParts_63 : decode cX11_readParts 63 = .ok (.ireturn, 1) := by decide +kernel
theorem dX11_readParts_64 : decode cX11_readParts 64 = .ok (.aload_n 0, 1) := by decide +kernel
theorem dX11_readParts_65 : decode cX11_readParts 65 = .ok (.getfield 16, 3) := by decide +kernel
theorem dX11_readParts_68 : decode cX11_readParts 68 = .ok (.aload_n 0, 1) := by decide +kernel
theorem dX11_readParts_69 : decode cX11_readParts 69 = .ok (.getfield 86, 3) := by decide +kernel
theorem dX11_readParts_72 : decode cX11_readParts 72 = .ok (.iload 4, 2) := by decide +kernel
theorem dX11_readParts_74 : decode cX11_readParts 74 = .ok (.bipush 48, 2) := by decide +kernel
theorem dX11_readParts_76 : decode cX11_readParts 76 = .ok (.isub, 1) := by decide +kernel
theorem dX11_readParts_77 : decode cX11_readParts 77 = .ok (.iastore, 1) := by decide +kernel
theorem dX11_readParts_78 : decode cX11_readParts 78 = .ok (.iconst 2, 1) := by decide +kernel
theorem dX11_readParts_79 : decode cX11_readParts 79 = .ok (.istore_n 2, 1) := by decide +kernel
theorem dX11_readParts_80 : decode cX11_readParts 80 = .ok (.iconst 0, 1) := by decide +kernel
theorem dX11_readParts_81 : decode cX11_readParts 81 = .ok (.istore_n 1, 1) := by decide +kernel
theorem dX11_readParts_82 : decode cX11_readParts 82 = .ok (.goto 95, 3) := by decide +kernel
theorem dX11_readParts_85 : decode cX11_readParts 85 = .ok (.iload 4, 2) := by decide +kernel
theorem dX11_readParts_87 : decode cX11_readParts 87 = .ok (.bipush 84, 2) := by decide +kernel
theorem dX11_readParts_89 : decode cX11_readParts 89 = .ok (.if_icmp .ne 41, 3) := by decide +kernel
theorem dX11_readParts_92 : decode cX11_readParts 92 = .ok (.iload_n 2, 1) := by decide +kernel
theorem dX11_readParts_93 : decode cX11_readParts 93 = .ok (.ifCond .eq 7, 3) := by decide +kernel
theorem dX11_readParts_96 : decode cX11_readParts 96 = .ok (.iload_n 1, 1) := by decide +kernel
theorem dX11_readParts_97 : decode cX11_readParts 97 = .ok (.ifCond .le 33, 3) := by decide +kernel
theorem dX11_readParts_100 : decode cX11_readParts 100 = .ok (.iload_n 2, 1) := by decide +kernel
theorem dX11_readParts_101 : decode cX11_readParts 101 = .ok (.iconst 2, 1) := by decide +kernel
theorem dX11_readParts_102 : decode cX11_readParts 102 = .ok (.if_icmp .ne 13, 3) := by decide +kernel
theorem dX11_readParts_105 : decode cX11_readParts 105 = .ok (.aload_n 0, 1) := by decide +kernel
theorem dX11_readParts_106 : decode cX11_readParts 106 = .ok (.dup, 1) := by decide +kernel
theorem dX11_readParts_107 : decode cX11_readParts 107 = .ok (.getfield 86, 3) := by decide +kernel
theorem dX11_readParts_110 : decode cX11_readParts 110 = .ok (.iconst 1, 1) := by decide +kernel
theorem dX11_readParts_111 : decode cX11_readParts 111 = .ok (.iadd, 1) := by decide +kernel
theorem dX11_readParts_112 : decode cX11_readParts 112 = .ok (.putfield 86, 3) := by decide +kernel
theorem dX11_readParts_115 : decode cX11_readParts 115 = .ok (.aload_n 0, 1) := by decide +kernel
theorem dX11_readParts_116 : decode cX11_readParts 116 = .ok (.getfield 86, 3) := by decide +kernel
theorem dX11_readParts_119 : decode cX11_readParts 119 = .ok (.iconst 4, 1) := by decide +kernel
theorem dX11_readParts_120 : decode cX11_readParts 120 = .ok (.if_icmp .ne 5, 3) := by decide +kernel
theorem dX11_readParts_123 : decode cX11_readParts 123 = .ok (.iload_n 3, 1) := by decide +kernel
theorem dX11_readParts_124 : decode cX11_readParts 124 = .ok (.ireturn, 1) := by decide +kernel
theorem dX11_readParts_125 : decode cX11_readParts 125 = .ok (.iconst 1, 1) := by decide +kernel
theorem dX11_readParts_126 : decode cX11_readParts 126 = .ok (.istore_n 2, 1) := by decide +kernel
theorem dX11_readParts_127 : decode cX11_readParts 127 = .ok (.goto 50, 3) := by decide +kernel
theorem dX11_readParts_130 : decode cX11_readParts 130 = .ok (.iload_n 2, 1) := by decide +kernel
theorem dX11_readParts_131 : decode cX11_readParts 131 = .ok (.iconst 2, 1) := by decide +kernel
theorem dX11_readParts_132 : decode cX11_readParts 132 = .ok (.if_icmp .ne 43, 3) := by decide +kernel
theorem dX11_readParts_135 : decode cX11_readParts 135 = .ok (.iload 4, 2) := by decide +kernel
theorem dX11_readParts_137 : decode cX11_readParts 137 = .ok (.i2l, 1) := by decide +kernel
theorem dX11_readParts_138 : decode cX11_readParts 138 = .ok (.ldc2_w 97, 3) := by decide +kernel
theorem dX11_readParts_141 : decode cX11_readParts 141 = .ok (.ldc2_w 99, 3) := by decide +kernel
theorem dX11_readParts_144 : decode cX11_readParts 144 = .ok (.invokestatic 49, 3) := by decide +kernel
theorem dX11_readParts_147 : decode cX11_readParts 147 = .ok (.ifCond .eq 28, 3) := by decide +kernel
theorem dX11_readParts_150 : decode cX11_readParts 150 = .ok (.iload_n 1, 1) := by decide +kernel
theorem dX11_readParts_151 : decode cX11_readParts 151 = .ok (.bipush 9, 2) := by decide +kernel
theorem dX11_readParts_153 : decode cX11_readParts 153 = .ok (.if_icmp .ge 22, 3) := by decide +kernel
theorem dX11_readParts_156 : decode cX11_readParts 156 = .ok (.aload_n 0, 1) := by decide +kernel
theorem dX11_readParts_157 : decode cX11_readParts 157 = .ok (.iload 4, 2) := by decide +kernel
theorem dX11_readParts_159 : decode cX11_readParts 159 = .ok (.bipush 97, 2) := by decide +kernel
theorem dX11_readParts_161 : decode cX11_readParts 161 = .ok (.isub, 1) := by decide +kernel
theorem dX11_readParts_162 : decode cX11_readParts 162 = .ok (.iload_n 1, 1) := by decide +kernel
theorem dX11_readParts_163 : decode cX11_readParts 163 = .ok (.invokevirtual 101, 3) := by decide +kernel
theorem dX11_readParts_166 : decode cX11_readParts 166 = .ok (.ifCond .eq 9, 3) := by decide +kernel
theorem dX11_readParts_169 : decode cX11_readParts 169 = .ok (.iinc 1 1, 3) := by decide +kernel
theorem dX11_readParts_172 : decode cX11_readParts 172 = .ok (.goto 5, 3) := by decide +kernel
theorem dX11_readParts_175 : decode cX11_readParts 175 = .ok (.iload_n 3, 1) := by decide +kernel
theorem dX11_readParts_176 : decode cX11_readParts 176 = .ok (.ireturn, 1) := by decide +kernel
theorem dX11_readParts_177 : decode cX11_readParts 177 = .ok (.iinc 3 1, 3) := by decide +kernel
theorem dX11_readParts_180 : decode cX11_readParts 180 = .ok (.goto (-154), 3) := by decide +kernel
theorem dX11_readParts_183 : decode cX11_readParts 183 = .ok (.iload_n 2, 1) := by decide +kernel
theorem dX11_readParts_184 : decode cX11_readParts 184 = .ok (.iconst 1, 1) := by decide +kernel
theorem dX11_readParts_185 : decode cX11_readParts 185 = .ok (.if_icmp .eq 12, 3) := by decide +kernel
theorem dX11_readParts_188 : decode cX11_readParts 188 = .ok (.iload_n 2, 1) := by decide +kernel
theorem dX11_readParts_189 : decode cX11_readParts 189 = .ok (.iconst 2, 1) := by decide +kernel
theorem dX11_readParts_190 : decode cX11_readParts 190 = .ok (.if_icmp .ne 12, 3) := by decide +kernel
theorem dX11_readParts_193 : decode cX11_readParts 193 = .ok (.iload_n 1, 1) := by decide +kernel
theorem dX11_readParts_194 : decode cX11_readParts 194 = .ok (.ifCond .ne 8, 3) := by decide +kernel
theorem dX11_readParts_197 : decode cX11_readParts 197 = .ok (.aload_n 0, 1) := by decide +kernel
theorem dX11_readParts_198 : decode cX11_readParts 198 = .ok (.getfield 74, 3) := by decide +kernel
theorem dX11_readParts_201 : decode cX11_readParts 201 = .ok (.ireturn, 1) := by decide +kernel
theorem dX11_readParts_202 : decode cX11_readParts 202 = .ok (.aload_n 0, 1) := by decide +kernel
theorem dX11_readParts_203 : decode cX11_readParts 203 = .ok (.dup, 1) := by decide +kernel
theorem dX11_readParts_204 : decode cX11_readParts 204 = .ok (.getfield 86, 3) := by decide +kernel
theorem dX11_readParts_207 : decode cX11_readParts 207 = .ok (.iload_n 2, 1) := by decide +kernel
theorem dX11_readParts_208 : decode cX11_readParts 208 = .ok (.iconst 2, 1) := by decide +kernel
theorem dX11_readParts_209 : decode cX11_readParts 209 = .ok (.if_icmp .ne 7, 3) := by decide +kernel
theorem dX11_readParts_212 : decode cX11_readParts 212 = .ok (.iconst 1, 1) := by decide +kernel
theorem dX11_readParts_213 : decode cX11_readParts 213 = .ok (.goto 4, 3) := by decide +kernel
theorem dX11_readParts_216 : decode cX11_readParts 216 = .ok (.iconst 0, 1) := by decide +kernel
theorem dX11_readParts_217 : decode cX11_readParts 217 = .ok (.iadd, 1) := by decide +kernel
theorem dX11_readParts_218 : decode cX11_readParts 218 = .ok (.putfield 86, 3) := by decide +kernel
theorem dX11_readParts_221 : decode cX11_readParts 221 = .ok (.bipush (-9), 2) := by decide +kernel
theorem dX11_readParts_223 : decode cX11_readParts 223 = .ok (.ireturn, 1) := by decide +kernel
theorem dX11_mayLay_0 : decode cX11_mayLay 0 = .ok (.iload_n 2, 1) := by decide +kernel
theorem dX11_mayLay_1 : decode cX11_mayLay 1 = .ok (.ifCond .ne 18, 3) := by decide +kernel
theorem dX11_mayLay_4 : decode cX11_mayLay 4 = .ok (.aload_n 0, 1) := by decide +kernel
theorem dX11_mayLay_5 : decode cX11_mayLay 5 = .ok (.getfield 13, 3) := by decide +kernel
theorem dX11_mayLay_8 : decode cX11_mayLay 8 = .ok (.bipush 53, 2) := by decide +kernel
theorem dX11_mayLay_10 : decode cX11_mayLay 10 = .ok (.aload_n 0, 1) := by decide +kernel
theorem dX11_mayLay_11 : decode cX11_mayLay 11 = .ok (.getfield 86, 3) := by decide +kernel
theorem dX11_mayLay_14 : decode cX11_mayLay 14 = .ok (.iadd, 1) := by decide +kernel
theorem dX11_mayLay_15 : decode cX11_mayLay 15 = .ok (.iload_n 1, 1) := by decide +kernel
theorem dX11_mayLay_16 : decode cX11_mayLay 16 = .ok (.iastore, 1) := by decide +kernel
theorem dX11_mayLay_17 : decode cX11_mayLay 17 = .ok (.iconst 1, 1) := by decide +kernel
theorem dX11_mayLay_18 : decode cX11_mayLay 18 = .ok (.ireturn, 1) := by decide +kernel
theorem dX11_mayLay_19 : decode cX11_mayLay 19 = .ok (.aload_n 0, 1) := by decide +kernel
theorem dX11_mayLay_20 : decode cX11_mayLay 20 = .ok (.iconst 1, 1) := by decide +kernel
theorem dX11_mayLay_21 : decode cX11_mayLay 21 = .ok (.aload_n 0, 1) := by decide +kernel
theorem dX11_mayLay_22 : decode cX11_mayLay 22 = .ok (.getfield 86, 3) := by decide +kernel
theorem dX11_mayLay_25 : decode cX11_mayLay 25 = .ok (.iload_n 1, 1) := by decide +kernel
theorem dX11_mayLay_26 : decode cX11_mayLay 26 = .ok (.invokevirtual 105, 3) := by decide +kernel
theorem dX11_mayLay_29 : decode cX11_mayLay 29 = .ok (.ifCond .ne 5, 3) := by decide +kernel
theorem dX11_mayLay_32 : decode cX11_mayLay 32 = .ok (.iconst 0, 1) := by decide +kernel
theorem dX11_mayLay_33 : decode cX11_mayLay 33 = .ok (.ireturn, 1) := by decide +kernel
theorem dX11_mayLay_34 : decode cX11_mayLay 34 = .ok (.aload_n 0, 1) := by decide +kernel
theorem dX11_mayLay_35 : decode cX11_mayLay 35 = .ok (.iconst 1, 1) := by decide +kernel
theorem dX11_mayLay_36 : decode cX11_mayLay 36 = .ok (.aload_n 0, 1) := by decide +kernel
theorem dX11_mayLay_37 : decode cX11_mayLay 37 = .ok (.getfield 86, 3) := by decide +kernel
theorem dX11_mayLay_40 : decode cX11_mayLay 40 = .ok (.iload_n 1, 1) := by decide +kernel
theorem dX11_mayLay_41 : decode cX11_mayLay 41 = .ok (.invokevirtual 108, 3) := by decide +kernel
theorem dX11_mayLay_44 : decode cX11_mayLay 44 = .ok (.pop, 1) := by decide +kernel
theorem dX11_mayLay_45 : decode cX11_mayLay 45 = .ok (.iconst 1, 1) := by decide +kernel
theorem dX11_mayLay_46 : decode cX11_mayLay 46 = .ok (.ireturn, 1) := by decide +kernel
theorem dX11_fault_0 : decode cX11_fault 0 = .ok (.aload_n 0, 1) := by decide +kernel
theorem dX11_fault_1 : decode cX11_fault 1 = .ok (.invokevirtual 112, 3) := by decide +kernel
theorem dX11_fault_4 : decode cX11_fault 4 = .ok (.ireturn, 1) := by decide +kernel
theorem dX11_board_0 : decode cX11_board 0 = .ok (.aload_n 0, 1) := by decide +kernel
theorem dX11_board_1 : decode cX11_board 1 = .ok (.invokevirtual 112, 3) := by decide +kernel
theorem dX11_board_4 : decode cX11_board 4 = .ok (.bipush (-9), 2) := by decide +kernel
theorem dX11_board_6 : decode cX11_board 6 = .ok (.if_icmp .eq 6, 3) := by decide +kernel
theorem dX11_board_9 : decode cX11_board 9 = .ok (.bipush (-3), 2) := by decide +kernel
theorem dX11_board_11 : decode cX11_board 11 = .ok (.ireturn, 1) := by decide +kernel
theorem dX11_board_12 : decode cX11_board 12 = .ok (.aload_n 0, 1) := by decide +kernel
theorem dX11_board_13 : decode cX11_board 13 = .ok (.aload_n 0, 1) := by decide +kernel
theorem dX11_board_14 : decode cX11_board 14 = .ok (.getfield 86, 3) := by decide +kernel
theorem dX11_board_17 : decode cX11_board 17 = .ok (.putfield 115, 3) := by decide +kernel
theorem dX11_board_20 : decode cX11_board 20 = .ok (.iconst 0, 1) := by decide +kernel
theorem dX11_board_21 : decode cX11_board 21 = .ok (.istore_n 1, 1) := by decide +kernel
theorem dX11_board_22 : decode cX11_board 22 = .ok (.iload_n 1, 1) := by decide +kernel
theorem dX11_board_23 : decode cX11_board 23 = .ok (.aload_n 0, 1) := by decide +kernel
theorem dX11_board_24 : decode cX11_board 24 = .ok (.getfield 115, 3) := by decide +kernel
theorem dX11_board_27 : decode cX11_board 27 = .ok (.if_icmp .ge 21, 3) := by decide +kernel
theorem dX11_board_30 : decode cX11_board 30 = .ok (.aload_n 0, 1) := by decide +kernel
theorem dX11_board_31 : decode cX11_board 31 = .ok (.getfield 7, 3) := by decide +kernel
theorem dX11_board_34 : decode cX11_board 34 = .ok (.iload_n 1, 1) := by decide +kernel
theorem dX11_board_35 : decode cX11_board 35 = .ok (.aload_n 0, 1) := by decide +kernel
theorem dX11_board_36 : decode cX11_board 36 = .ok (.getfield 16, 3) := by decide +kernel
theorem dX11_board_39 : decode cX11_board 39 = .ok (.iload_n 1, 1) := by decide +kernel
theorem dX11_board_40 : decode cX11_board 40 = .ok (.iaload, 1) := by decide +kernel
theorem dX11_board_41 : decode cX11_board 41 = .ok (.iastore, 1) := by decide +kernel
theorem dX11_board_42 : decode cX11_board 42 = .ok (.iinc 1 1, 3) := by decide +kernel
theorem dX11_board_45 : decode cX11_board 45 = .ok (.goto (-23), 3) := by decide +kernel
theorem dX11_board_48 : decode cX11_board 48 = .ok (.iconst 0, 1) := by decide +kernel
theorem dX11_board_49 : decode cX11_board 49 = .ok (.istore_n 1, 1) := by decide +kernel
theorem dX11_board_50 : decode cX11_board 50 = .ok (.iload_n 1, 1) := by decide +kernel
theorem dX11_board_51 : decode cX11_board 51 = .ok (.bipush 53, 2) := by decide +kernel
theorem dX11_board_53 : decode cX11_board 53 = .ok (.if_icmp .ge 24, 3) := by decide +kernel
theorem dX11_board_56 : decode cX11_board 56 = .ok (.aload_n 0, 1) := by decide +kernel
theorem dX11_board_57 : decode cX11_board 57 = .ok (.getfield 13, 3) := by decide +kernel
theorem dX11_board_60 : decode cX11_board 60 = .ok (.iload_n 1, 1) := by decide +kernel
theorem dX11_board_61 : decode cX11_board 61 = .ok (.aload_n 0, 1) := by decide +kernel
theorem dX11_board_62 : decode cX11_board 62 = .ok (.getfield 13, 3) := by decide +kernel
theorem dX11_board_65 : decode cX11_board 65 = .ok (.bipush 53, 2) := by decide +kernel
theorem dX11_board_67 : decode cX11_board 67 = .ok (.iload_n 1, 1) := by decide +kernel
theorem dX11_board_68 : decode cX11_board 68 = .ok (.iadd, 1) := by decide +kernel
theorem dX11_board_69 : decode cX11_board 69 = .ok (.iaload, 1) := by decide +kernel
theorem dX11_board_70 : decode cX11_board 70 = .ok (.iastore, 1) := by decide +kernel
theorem dX11_board_71 : decode cX11_board 71 = .ok (.iinc 1 1, 3) := by decide +kernel
theorem dX11_board_74 : decode cX11_board 74 = .ok (.goto (-24), 3) := by decide +kernel
theorem dX11_board_77 : decode cX11_board 77 = .ok (.aload_n 0, 1) := by decide +kernel
theorem dX11_board_78 : decode cX11_board 78 = .ok (.iconst 0, 1) := by decide +kernel
theorem dX11_board_79 : decode cX11_board 79 = .ok (.putfield 118, 3) := by decide +kernel
theorem dX11_board_82 : decode cX11_board 82 = .ok (.aload_n 0, 1) := by decide +kernel
theorem dX11_board_83 : decode cX11_board 83 = .ok (.getfield 40, 3) := by decide +kernel
theorem dX11_board_86 : decode cX11_board 86 = .ok (.iconst 0, 1) := by decide +kernel
theorem dX11_board_87 : decode cX11_board 87 = .ok (.iconst 0, 1) := by decide +kernel
theorem dX11_board_88 : decode cX11_board 88 = .ok (.bastore, 1) := by decide +kernel
theorem dX11_board_89 : decode cX11_board 89 = .ok (.aload_n 0, 1) := by decide +kernel
theorem dX11_board_90 : decode cX11_board 90 = .ok (.getfield 40, 3) := by decide +kernel
theorem dX11_board_93 : decode cX11_board 93 = .ok (.iconst 1, 1) := by decide +kernel
theorem dX11_board_94 : decode cX11_board 94 = .ok (.iconst 0, 1) := by decide +kernel
theorem dX11_board_95 : decode cX11_board 95 = .ok (.bastore, 1) := by decide +kernel
theorem dX11_board_96 : decode cX11_board 96 = .ok (.aload_n 0, 1) := by decide +kernel
theorem dX11_board_97 : decode cX11_board 97 = .ok (.getfield 115, 3) := by decide +kernel
theorem dX11_board_100 : decode cX11_board 100 = .ok (.ireturn, 1) := by decide +kernel
theorem dX11_isThread_0 : decode cX11_isThread 0 = .ok (.iload_n 1, 1) := by decide +kernel
theorem dX11_isThread_1 : decode cX11_isThread 1 = .ok (.i2l, 1) := by decide +kernel
theorem dX11_isThread_2 : decode cX11_isThread 2 = .ok (.lconst 0, 1) := by decide +kernel
theorem dX11_isThread_3 : decode cX11_isThread 3 = .ok (.aload_n 0, 1) := by decide +kernel
theorem dX11_isThread_4 : decode cX11_isThread 4 = .ok (.getfield 115, 3) := by decide +kernel
theorem dX11_isThread_7 : decode cX11_isThread 7 = .ok (.iconst 1, 1) := by decide +kernel
theorem dX11_isThread_8 : decode cX11_isThread 8 = .ok (.isub, 1) := by decide +kernel
theorem dX11_isThread_9 : decode cX11_isThread 9 = .ok (.i2l, 1) := by decide +kernel
theorem dX11_isThread_10 : decode cX11_isThread 10 = .ok (.invokestatic 49, 3) := by decide +kernel
theorem dX11_isThread_13 : decode cX11_isThread 13 = .ok (.ireturn, 1) := by decide +kernel
theorem dX11_stretchesOf_0 : decode cX11_stretchesOf 0 = .ok (.iconst 0, 1) := by decide +kernel
theorem dX11_stretchesOf_1 : decode cX11_stretchesOf 1 = .ok (.istore_n 3, 1) := by decide +kernel
theorem dX11_stretchesOf_2 : decode cX11_stretchesOf 2 = .ok (.iconst 0, 1) := by decide +kernel
theorem dX11_stretchesOf_3 : decode cX11_stretchesOf 3 = .ok (.istore 4, 2) := by decide +kernel
theorem dX11_stretchesOf_5 : decode cX11_stretchesOf 5 = .ok (.iload 4, 2) := by decide +kernel
theorem dX11_stretchesOf_7 : decode cX11_stretchesOf 7 = .ok (.aload_n 0, 1) := by decide +kernel
theorem dX11_stretchesOf_8 : decode cX11_stretchesOf 8 = .ok (.iload_n 1, 1) := by decide +kernel
theorem dX11_stretchesOf_9 : decode cX11_stretchesOf 9 = .ok (.invokevirtual 121, 3) := by decide +kernel
theorem dX11_stretchesOf_12 : decode cX11_stretchesOf 12 = .ok (.if_icmp .ge 31, 3) := by decide +kernel
theorem dX11_stretchesOf_15 : decode cX11_stretchesOf 15 = .ok (.iload_n 3, 1) := by decide +kernel
theorem dX11_stretchesOf_16 : decode cX11_stretchesOf 16 = .ok (.aload_n 0, 1) := by decide +kernel
theorem dX11_stretchesOf_17 : decode cX11_stretchesOf 17 = .ok (.iload_n 1, 1) := by decide +kernel
theorem dX11_stretchesOf_18 : decode cX11_stretchesOf 18 = .ok (.iload 4, 2) := by decide +kernel
theorem dX11_stretchesOf_20 : decode cX11_stretchesOf 20 = .ok (.invokevirtual 124, 3) := by decide +kernel
theorem dX11_stretchesOf_23 : decode cX11_stretchesOf 23 = .ok (.invokestatic 127, 3) := by decide +kernel
theorem dX11_stretchesOf_26 : decode cX11_stretchesOf 26 = .ok (.iload_n 2, 1) := by decide +kernel
theorem dX11_stretchesOf_27 : decode cX11_stretchesOf 27 = .ok (.if_icmp .ne 7, 3) := by decide +kernel
theorem dX11_stretchesOf_30 : decode cX11_stretchesOf 30 = .ok (.iconst 1, 1) := by decide +kernel
theorem dX11_stretchesOf_31 : decode cX11_stretchesOf 31 = .ok (.goto 4, 3) := by decide +kernel
theorem dX11_stretchesOf_34 : decode cX11_stretchesOf 34 = .ok (.iconst 0, 1) := by decide +kernel
theorem dX11_stretchesOf_35 : decode cX11_stretchesOf 35 = .ok (.iadd, 1) := by decide +kernel
theorem dX11_stretchesOf_36 : decode cX11_stretchesOf 36 = .ok (.istore_n 3, 1) := by decide +kernel
theorem dX11_stretchesOf_37 : decode cX11_stretchesOf 37 = .ok (.iinc 4 1, 3) := by decide +kernel
theorem dX11_stretchesOf_40 : decode cX11_stretchesOf 40 = .ok (.goto (-35), 3) := by decide +kernel
theorem dX11_stretchesOf_43 : decode cX11_stretchesOf 43 = .ok (.iload_n 3, 1) := by decide +kernel
theorem dX11_stretchesOf_44 : decode cX11_stretchesOf 44 = .ok (.ireturn, 1) := by decide +kernel
theorem dX11_longOf_0 : decode cX11_longOf 0 = .ok (.iconst 0, 1) := by decide +kernel
theorem dX11_longOf_1 : decode cX11_longOf 1 = .ok (.istore_n 3, 1) := by decide +kernel
theorem dX11_longOf_2 : decode cX11_longOf 2 = .ok (.iconst 0, 1) := by decide +kernel
theorem dX11_longOf_3 : decode cX11_longOf 3 = .ok (.istore 4, 2) := by decide +kernel
theorem dX11_longOf_5 : decode cX11_longOf 5 = .ok (.iload 4, 2) := by decide +kernel
theorem dX11_longOf_7 : decode cX11_longOf 7 = .ok (.aload_n 0, 1) := by decide +kernel
theorem dX11_longOf_8 : decode cX11_longOf 8 = .ok (.iload_n 1, 1) := by decide +kernel
theorem dX11_longOf_9 : decode cX11_longOf 9 = .ok (.invokevirtual 121, 3) := by decide +kernel
theorem dX11_longOf_12 : decode cX11_longOf 12 = .ok (.if_icmp .ge 53, 3) := by decide +kernel
theorem dX11_longOf_15 : decode cX11_longOf 15 = .ok (.iload_n 3, 1) := by decide +kernel
theorem dX11_longOf_16 : decode cX11_longOf 16 = .ok (.aload_n 0, 1) := by decide +kernel
theorem dX11_longOf_17 : decode cX11_longOf 17 = .ok (.iload_n 1, 1) := by decide +kernel
theorem dX11_longOf_18 : decode cX11_longOf 18 = .ok (.iload 4, 2) := by decide +kernel
theorem dX11_longOf_20 : decode cX11_longOf 20 = .ok (.invokevirtual 124, 3) := by decide +kernel
theorem dX11_longOf_23 : decode cX11_longOf 23 = .ok (.invokestatic 127, 3) := by decide +kernel
theorem dX11_longOf_26 : decode cX11_longOf 26 = .ok (.iload_n 2, 1) := by decide +kernel
theorem dX11_longOf_27 : decode cX11_longOf 27 = .ok (.if_icmp .ne 29, 3) := by decide +kernel
theorem dX11_longOf_30 : decode cX11_longOf 30 = .ok (.aload_n 0, 1) := by decide +kernel
theorem dX11_longOf_31 : decode cX11_longOf 31 = .ok (.iload_n 1, 1) := by decide +kernel
theorem dX11_longOf_32 : decode cX11_longOf 32 = .ok (.iload 4, 2) := by decide +kernel
theorem dX11_longOf_34 : decode cX11_longOf 34 = .ok (.invokevirtual 124, 3) := by decide +kernel
theorem dX11_longOf_37 : decode cX11_longOf 37 = .ok (.invokestatic 61, 3) := by decide +kernel
theorem dX11_longOf_40 : decode cX11_longOf 40 = .ok (.aload_n 0, 1) := by decide +kernel
theorem dX11_longOf_41 : decode cX11_longOf 41 = .ok (.iload_n 1, 1) := by decide +kernel
theorem dX11_longOf_42 : decode cX11_longOf 42 = .ok (.iload 4, 2) := by decide +kernel
theorem dX11_longOf_44 : decode cX11_longOf 44 = .ok (.invokevirtual 124, 3) := by decide +kernel
theorem dX11_longOf_47 : decode cX11_longOf 47 = .ok (.invokestatic 65, 3) := by decide +kernel
theorem dX11_longOf_50 : decode cX11_longOf 50 = .ok (.invokestatic 130, 3) := by decide +kernel
theorem dX11_longOf_53 : decode cX11_longOf 53 = .ok (.goto 4, 3) := by decide +kernel
theorem dX11_longOf_56 : decode cX11_longOf 56 = .ok (.iconst 0, 1) := by decide +kernel
theorem dX11_longOf_57 : decode cX11_longOf 57 = .ok (.iadd, 1) := by decide +kernel
theorem dX11_longOf_58 : decode cX11_longOf 58 = .ok (.istore_n 3, 1) := by decide +kernel
theorem dX11_longOf_59 : decode cX11_longOf 59 = .ok (.iinc 4 1, 3) := by decide +kernel
theorem dX11_longOf_62 : decode cX11_longOf 62 = .ok (.goto (-57), 3) := by decide +kernel
theorem dX11_longOf_65 : decode cX11_longOf 65 = .ok (.iload_n 3, 1) := by decide +kernel
theorem dX11_longOf_66 : decode cX11_longOf 66 = .ok (.ireturn, 1) := by decide +kernel
theorem dX11_crossedBy_0 : decode cX11_crossedBy 0 = .ok (.iconst 0, 1) := by decide +kernel
theorem dX11_crossedBy_1 : decode cX11_crossedBy 1 = .ok (.istore 5, 2) := by decide +kernel
theorem dX11_crossedBy_3 : decode cX11_crossedBy 3 = .ok (.iconst 0, 1) := by decide +kernel
theorem dX11_crossedBy_4 : decode cX11_crossedBy 4 = .ok (.istore 6, 2) := by decide +kernel
theorem dX11_crossedBy_6 : decode cX11_crossedBy 6 = .ok (.iload 6, 2) := by decide +kernel
theorem dX11_crossedBy_8 : decode cX11_crossedBy 8 = .ok (.aload_n 0, 1) := by decide +kernel
theorem dX11_crossedBy_9 : decode cX11_crossedBy 9 = .ok (.iload_n 1, 1) := by decide +kernel
theorem dX11_crossedBy_10 : decode cX11_crossedBy 10 = .ok (.invokevirtual 121, 3) := by decide +kernel
theorem dX11_crossedBy_13 : decode cX11_crossedBy 13 = .ok (.if_icmp .ge 62, 3) := by decide +kernel
theorem dX11_crossedBy_16 : decode cX11_crossedBy 16 = .ok (.aload_n 0, 1) := by decide +kernel
theorem dX11_crossedBy_17 : decode cX11_crossedBy 17 = .ok (.iload_n 1, 1) := by decide +kernel
theorem dX11_crossedBy_18 : decode cX11_crossedBy 18 = .ok (.iload 6, 2) := by decide +kernel
theorem dX11_crossedBy_20 : decode cX11_crossedBy 20 = .ok (.invokevirtual 124, 3) := by decide +kernel
theorem dX11_crossedBy_23 : decode cX11_crossedBy 23 = .ok (.istore 7, 2) := by decide +kernel
theorem dX11_crossedBy_25 : decode cX11_crossedBy 25 = .ok (.iload 5, 2) := by decide +kernel
theorem dX11_crossedBy_27 : decode cX11_crossedBy 27 = .ok (.iload_n 2, 1) := by decide +kernel
theorem dX11_crossedBy_28 : decode cX11_crossedBy 28 = .ok (.bipush (-9), 2) := by decide +kernel
theorem dX11_crossedBy_30 : decode cX11_crossedBy 30 = .ok (.if_icmp .eq 12, 3) := by decide +kernel
theorem dX11_crossedBy_33 : decode cX11_crossedBy 33 = .ok (.iload 7, 2) := by decide +kernel
theorem dX11_crossedBy_35 : decode cX11_crossedBy 35 = .ok (.invokestatic 127, 3) := by decide +kernel
theorem dX11_crossedBy_38 : decode cX11_crossedBy 38 = .ok (.iload_n 2, 1) := by decide +kernel
theorem dX11_crossedBy_39 : decode cX11_crossedBy 39 = .ok (.if_icmp .ne 26, 3) := by decide +kernel
theorem dX11_crossedBy_42 : decode cX11_crossedBy 42 = .ok (.iload_n 3, 1) := by decide +kernel
theorem dX11_crossedBy_43 : decode cX11_crossedBy 43 = .ok (.iload 4, 2) := by decide +kernel
theorem dX11_crossedBy_45 : decode cX11_crossedBy 45 = .ok (.iload 7, 2) := by decide +kernel
theorem dX11_crossedBy_47 : decode cX11_crossedBy 47 = .ok (.invokestatic 61, 3) := by decide +kernel
theorem dX11_crossedBy_50 : decode cX11_crossedBy 50 = .ok (.iload 7, 2) := by decide +kernel
theorem dX11_crossedBy_52 : decode cX11_crossedBy 52 = .ok (.invokestatic 65, 3) := by decide +kernel
theorem dX11_crossedBy_55 : decode cX11_crossedBy 55 = .ok (.invokestatic 68, 3) := by decide +kernel
theorem dX11_crossedBy_58 : decode cX11_crossedBy 58 = .ok (.ifCond .eq 7, 3) := by decide +kernel
theorem dX11_crossedBy_61 : decode cX11_crossedBy 61 = .ok (.iconst 1, 1) := by decide +kernel
theorem dX11_crossedBy_62 : decode cX11_crossedBy 62 = .ok (.goto 4, 3) := by decide +kernel
theorem dX11_crossedBy_65 : decode cX11_crossedBy 65 = .ok (.iconst 0, 1) := by decide +kernel
theorem dX11_crossedBy_66 : decode cX11_crossedBy 66 = .ok (.iadd, 1) := by decide +kernel
theorem dX11_crossedBy_67 : decode cX11_crossedBy 67 = .ok (.istore 5, 2) := by decide +kernel
theorem dX11_crossedBy_69 : decode cX11_crossedBy 69 = .ok (.iinc 6 1, 3) := by decide +kernel
theorem dX11_crossedBy_72 : decode cX11_crossedBy 72 = .ok (.goto (-66), 3) := by decide +kernel
theorem dX11_crossedBy_75 : decode cX11_crossedBy 75 = .ok (.iload 5, 2) := by decide +kernel
theorem dX11_crossedBy_77 : decode cX11_crossedBy 77 = .ok (.ireturn, 1) := by decide +kernel
theorem dX11_mayWind_0 : decode cX11_mayWind 0 = .ok (.aload_n 0, 1) := by decide +kernel
theorem dX11_mayWind_1 : decode cX11_mayWind 1 = .ok (.getfield 13, 3) := by decide +kernel
theorem dX11_mayWind_4 : decode cX11_mayWind 4 = .ok (.bipush 53, 2) := by decide +kernel
theorem dX11_mayWind_6 : decode cX11_mayWind 6 = .ok (.iload_n 1, 1) := by decide +kernel
theorem dX11_mayWind_7 : decode cX11_mayWind 7 = .ok (.imul, 1) := by decide +kernel
theorem dX11_mayWind_8 : decode cX11_mayWind 8 = .ok (.iload_n 2, 1) := by decide +kernel
theorem dX11_mayWind_9 : decode cX11_mayWind 9 = .ok (.iadd, 1) := by decide +kernel
theorem dX11_mayWind_10 : decode cX11_mayWind 10 = .ok (.iaload, 1) := by decide +kernel
theorem dX11_mayWind_11 : decode cX11_mayWind 11 = .ok (.istore 4, 2) := by decide +kernel
theorem dX11_mayWind_13 : decode cX11_mayWind 13 = .ok (.iload_n 3, 1) := by decide +kernel
theorem dX11_mayWind_14 : decode cX11_mayWind 14 = .ok (.invokestatic 133, 3) := by decide +kernel
theorem dX11_mayWind_17 : decode cX11_mayWind 17 = .ok (.ifCond .eq 20, 3) := by decide +kernel
theorem dX11_mayWind_20 : decode cX11_mayWind 20 = .ok (.iload_n 3, 1) := by decide +kernel
theorem dX11_mayWind_21 : decode cX11_mayWind 21 = .ok (.iload 4, 2) := by decide +kernel
theorem dX11_mayWind_23 : decode cX11_mayWind 23 = .ok (.if_icmp .eq 14, 3) := by decide +kernel
theorem dX11_mayWind_26 : decode cX11_mayWind 26 = .ok (.aload_n 0, 1) := by decide +kernel
theorem dX11_mayWind_27 : decode cX11_mayWind 27 = .ok (.iload_n 1, 1) := by decide +kernel
theorem dX11_mayWind_28 : decode cX11_mayWind 28 = .ok (.iload_n 2, 1) := by decide +kernel
theorem dX11_mayWind_29 : decode cX11_mayWind 29 = .ok (.invokevirtual 137, 3) := by decide +kernel
theorem dX11_mayWind_32 : decode cX11_mayWind 32 = .ok (.bipush 12, 2) := by decide +kernel
theorem dX11_mayWind_34 : decode cX11_mayWind 34 = .ok (.if_icmp .lt 5, 3) := by decide +kernel
theorem dX11_mayWind_37 : decode cX11_mayWind 37 = .ok (.iconst 0, 1) := by decide +kernel
theorem dX11_mayWind_38 : decode cX11_mayWind 38 = .ok (.ireturn, 1) := by decide +kernel
theorem dX11_mayWind_39 : decode cX11_mayWind 39 = .ok (.aload_n 0, 1) := by decide +kernel
theorem dX11_mayWind_40 : decode cX11_mayWind 40 = .ok (.iload_n 1, 1) := by decide +kernel
theorem dX11_mayWind_41 : decode cX11_mayWind 41 = .ok (.iload_n 2, 1) := by decide +kernel
theorem dX11_mayWind_42 : decode cX11_mayWind 42 = .ok (.invokevirtual 140, 3) := by decide +kernel
theorem dX11_mayWind_45 : decode cX11_mayWind 45 = .ok (.istore 5, 2) := by decide +kernel
theorem dX11_mayWind_47 : decode cX11_mayWind 47 = .ok (.iload 5, 2) := by decide +kernel
theorem dX11_mayWind_49 : decode cX11_mayWind 49 = .ok (.iconst 1, 1) := by decide +kernel
theorem dX11_mayWind_50 : decode cX11_mayWind 50 = .ok (.if_icmp .eq 9, 3) := by decide +kernel
theorem dX11_mayWind_53 : decode cX11_mayWind 53 = .ok (.iload 5, 2) := by decide +kernel
theorem dX11_mayWind_55 : decode cX11_mayWind 55 = .ok (.iconst 3, 1) := by decide +kernel
theorem dX11_mayWind_56 : decode cX11_mayWind 56 = .ok (.if_icmp .ne 15, 3) := by decide +kernel
theorem dX11_mayWind_59 : decode cX11_mayWind 59 = .ok (.iload 4, 2) := by decide +kernel
theorem dX11_mayWind_61 : decode cX11_mayWind 61 = .ok (.iload_n 3, 1) := by decide +kernel
theorem dX11_mayWind_62 : decode cX11_mayWind 62 = .ok (.invokestatic 53, 3) := by decide +kernel
theorem dX11_mayWind_65 : decode cX11_mayWind 65 = .ok (.iconst 1, 1) := by decide +kernel
theorem dX11_mayWind_66 : decode cX11_mayWind 66 = .ok (.if_icmp .ne 5, 3) := by decide +kernel
theorem dX11_mayWind_69 : decode cX11_mayWind 69 = .ok (.iconst 0, 1) := by decide +kernel
theorem dX11_mayWind_70 : decode cX11_mayWind 70 = .ok (.ireturn, 1) := by decide +kernel
theorem dX11_mayWind_71 : decode cX11_mayWind 71 = .ok (.iload 5, 2) := by decide +kernel
theorem dX11_mayWind_73 : decode cX11_mayWind 73 = .ok (.iconst 2, 1) := by decide +kernel
theorem dX11_mayWind_74 : decode cX11_mayWind 74 = .ok (.if_icmp .ne 17, 3) := by decide +kernel
theorem dX11_mayWind_77 : decode cX11_mayWind 77 = .ok (.aload_n 0, 1) := by decide +kernel
theorem dX11_mayWind_78 : decode cX11_mayWind 78 = .ok (.iload_n 1, 1) := by decide +kernel
theorem dX11_mayWind_79 : decode cX11_mayWind 79 = .ok (.iload_n 2, 1) := by decide +kernel
theorem dX11_mayWind_80 : decode cX11_mayWind 80 = .ok (.iload 4, 2) := by decide +kernel
theorem dX11_mayWind_82 : decode cX11_mayWind 82 = .ok (.iload_n 3, 1) := by decide +kernel
theorem dX11_mayWind_83 : decode cX11_mayWind 83 = .ok (.invokevirtual 143, 3) := by decide +kernel
theorem dX11_mayWind_86 : decode cX11_mayWind 86 = .ok (.ifCond .le 5, 3) := by decide +kernel
theorem dX11_mayWind_89 : decode cX11_mayWind 89 = .ok (.iconst 0, 1) := by decide +kernel
theorem dX11_mayWind_90 : decode cX11_mayWind 90 = .ok (.ireturn, 1) := by decide +kernel
theorem dX11_mayWind_91 : decode cX11_mayWind 91 = .ok (.iload 5, 2) := by decide +kernel
theorem dX11_mayWind_93 : decode cX11_mayWind 93 = .ok (.iconst 3, 1) := by decide +kernel
theorem dX11_mayWind_94 : decode cX11_mayWind 94 = .ok (.if_icmp .ne 21, 3) := by decide +kernel
theorem dX11_mayWind_97 : decode cX11_mayWind 97 = .ok (.aload_n 0, 1) := by decide +kernel
theorem dX11_mayWind_98 : decode cX11_mayWind 98 = .ok (.iload_n 1, 1) := by decide +kernel
theorem dX11_mayWind_99 : decode cX11_mayWind 99 = .ok (.iload_n 2, 1) := by decide +kernel
theorem dX11_mayWind_100 : decode cX11_mayWind 100 = .ok (.invokevirtual 147, 3) := by decide +kernel
theorem dX11_mayWind_103 : decode cX11_mayWind 103 = .ok (.iload 4, 2) := by decide +kernel
theorem dX11_mayWind_105 : decode cX11_mayWind 105 = .ok (.iload_n 3, 1) := by decide +kernel
theorem dX11_mayWind_106 : decode cX11_mayWind 106 = .ok (.invokestatic 130, 3) := by decide +kernel
theorem dX11_mayWind_109 : decode cX11_mayWind 109 = .ok (.iadd, 1) := by decide +kernel
theorem dX11_mayWind_110 : decode cX11_mayWind 110 = .ok (.bipush 80, 2) := by decide +kernel
theorem dX11_mayWind_112 : decode cX11_mayWind 112 = .ok (.if_icmp .gt 7, 3) := by decide +kernel
theorem dX11_mayWind_115 : decode cX11_mayWind 115 = .ok (.iconst 1, 1) := by decide +kernel
theorem dX11_mayWind_116 : decode cX11_mayWind 116 = .ok (.goto 4, 3) := by decide +kernel
theorem dX11_mayWind_119 : decode cX11_mayWind 119 = .ok (.iconst 0, 1) := by decide +kernel
theorem dX11_mayWind_120 : decode cX11_mayWind 120 = .ok (.ireturn, 1) := by decide +kernel
theorem dX11_windOn_0 : decode cX11_windOn 0 = .ok (.bipush 53, 2) := by decide +kernel
theorem dX11_windOn_2 : decode cX11_windOn 2 = .ok (.iload_n 1, 1) := by decide +kernel
theorem dX11_windOn_3 : decode cX11_windOn 3 = .ok (.imul, 1) := by decide +kernel
theorem dX11_windOn_4 : decode cX11_windOn 4 = .ok (.istore 4, 2) := by decide +kernel
theorem dX11_windOn_6 : decode cX11_windOn 6 = .ok (.aload_n 0, 1) := by decide +kernel
theorem dX11_windOn_7 : decode cX11_windOn 7 = .ok (.getfield 13, 3) := by decide +kernel
theorem dX11_windOn_10 : decode cX11_windOn 10 = .ok (.iload 4, 2) := by decide +kernel
theorem dX11_windOn_12 : decode cX11_windOn 12 = .ok (.iload_n 2, 1) := by decide +kernel
theorem dX11_windOn_13 : decode cX11_windOn 13 = .ok (.iadd, 1) := by decide +kernel
theorem dX11_windOn_14 : decode cX11_windOn 14 = .ok (.iaload, 1) := by decide +kernel
theorem dX11_windOn_15 : decode cX11_windOn 15 = .ok (.istore 5, 2) := by decide +kernel
theorem dX11_windOn_17 : decode cX11_windOn 17 = .ok (.aload_n 0, 1) := by decide +kernel
theorem dX11_windOn_18 : decode cX11_windOn 18 = .ok (.iload_n 1, 1) := by decide +kernel
theorem dX11_windOn_19 : decode cX11_windOn 19 = .ok (.bipush (-9), 2) := by decide +kernel
theorem dX11_windOn_21 : decode cX11_windOn 21 = .ok (.iload 5, 2) := by decide +kernel
theorem dX11_windOn_23 : decode cX11_windOn 23 = .ok (.iload_n 3, 1) := by decide +kernel
theorem dX11_windOn_24 : decode cX11_windOn 24 = .ok (.invokevirtual 143, 3) := by decide +kernel
theorem dX11_windOn_27 : decode cX11_windOn 27 = .ok (.istore 6, 2) := by decide +kernel
theorem dX11_windOn_29 : decode cX11_windOn 29 = .ok (.aload_n 0, 1) := by decide +kernel
theorem dX11_windOn_30 : decode cX11_windOn 30 = .ok (.getfield 13, 3) := by decide +kernel
theorem dX11_windOn_33 : decode cX11_windOn 33 = .ok (.iload 4, 2) := by decide +kernel
theorem dX11_windOn_35 : decode cX11_windOn 35 = .ok (.iconst 5, 1) := by decide +kernel
end
section
theorem dX11_windOn_36 : decode cX11_windOn 36 = .ok (.iadd, 1) := by decide +kernel
theorem dX11_windOn_37 : decode cX11_windOn 37 = .ok (.aload_n 0, 1) := by decide +kernel
theorem dX11_windOn_38 : decode cX11_windOn 38 = .ok (.getfield 13, 3) := by decide +kernel
theorem dX11_windOn_41 : decode cX11_windOn 41 = .ok (.iload 4, 2) := by decide +kernel
theorem dX11_windOn_43 : decode cX11_windOn 43 = .ok (.iconst 4, 1) := by decide +kernel
theorem dX11_windOn_44 : decode cX11_windOn 44 = .ok (.iadd, 1) := by decide +kernel
theorem dX11_windOn_45 : decode cX11_windOn 45 = .ok (.iaload, 1) := by decide +kernel
theorem dX11_windOn_46 : decode cX11_windOn 46 = .ok (.iadd, 1) := by decide +kernel
theorem dX11_windOn_47 : decode cX11_windOn 47 = .ok (.iload_n 2, 1) := by decide +kernel
theorem dX11_windOn_48 : decode cX11_windOn 48 = .ok (.iload 5, 2) := by decide +kernel
theorem dX11_windOn_50 : decode cX11_windOn 50 = .ok (.iload_n 3, 1) := by decide +kernel
theorem dX11_windOn_51 : decode cX11_windOn 51 = .ok (.aload_n 0, 1) := by decide +kernel
theorem dX11_windOn_52 : decode cX11_windOn 52 = .ok (.iload_n 1, 1) := by decide +kernel
theorem dX11_windOn_53 : decode cX11_windOn 53 = .ok (.iload_n 2, 1) := by decide +kernel
theorem dX11_windOn_54 : decode cX11_windOn 54 = .ok (.invokevirtual 137, 3) := by decide +kernel
theorem dX11_windOn_57 : decode cX11_windOn 57 = .ok (.invokestatic 150, 3) := by decide +kernel
theorem dX11_windOn_60 : decode cX11_windOn 60 = .ok (.iastore, 1) := by decide +kernel
theorem dX11_windOn_61 : decode cX11_windOn 61 = .ok (.aload_n 0, 1) := by decide +kernel
theorem dX11_windOn_62 : decode cX11_windOn 62 = .ok (.getfield 13, 3) := by decide +kernel
theorem dX11_windOn_65 : decode cX11_windOn 65 = .ok (.iload 4, 2) := by decide +kernel
theorem dX11_windOn_67 : decode cX11_windOn 67 = .ok (.iconst 4, 1) := by decide +kernel
theorem dX11_windOn_68 : decode cX11_windOn 68 = .ok (.iadd, 1) := by decide +kernel
theorem dX11_windOn_69 : decode cX11_windOn 69 = .ok (.dup2, 1) := by decide +kernel
theorem dX11_windOn_70 : decode cX11_windOn 70 = .ok (.iaload, 1) := by decide +kernel
theorem dX11_windOn_71 : decode cX11_windOn 71 = .ok (.iconst 1, 1) := by decide +kernel
theorem dX11_windOn_72 : decode cX11_windOn 72 = .ok (.iadd, 1) := by decide +kernel
theorem dX11_windOn_73 : decode cX11_windOn 73 = .ok (.iastore, 1) := by decide +kernel
theorem dX11_windOn_74 : decode cX11_windOn 74 = .ok (.aload_n 0, 1) := by decide +kernel
theorem dX11_windOn_75 : decode cX11_windOn 75 = .ok (.getfield 13, 3) := by decide +kernel
theorem dX11_windOn_78 : decode cX11_windOn 78 = .ok (.iload 4, 2) := by decide +kernel
theorem dX11_windOn_80 : decode cX11_windOn 80 = .ok (.iload_n 2, 1) := by decide +kernel
theorem dX11_windOn_81 : decode cX11_windOn 81 = .ok (.iadd, 1) := by decide +kernel
theorem dX11_windOn_82 : decode cX11_windOn 82 = .ok (.iload_n 3, 1) := by decide +kernel
theorem dX11_windOn_83 : decode cX11_windOn 83 = .ok (.iastore, 1) := by decide +kernel
theorem dX11_windOn_84 : decode cX11_windOn 84 = .ok (.iload 6, 2) := by decide +kernel
theorem dX11_windOn_86 : decode cX11_windOn 86 = .ok (.ireturn, 1) := by decide +kernel
theorem dX11_lastOf_0 : decode cX11_lastOf 0 = .ok (.bipush (-9), 2) := by decide +kernel
theorem dX11_lastOf_2 : decode cX11_lastOf 2 = .ok (.istore_n 3, 1) := by decide +kernel
theorem dX11_lastOf_3 : decode cX11_lastOf 3 = .ok (.iconst 0, 1) := by decide +kernel
theorem dX11_lastOf_4 : decode cX11_lastOf 4 = .ok (.istore 4, 2) := by decide +kernel
theorem dX11_lastOf_6 : decode cX11_lastOf 6 = .ok (.iload 4, 2) := by decide +kernel
theorem dX11_lastOf_8 : decode cX11_lastOf 8 = .ok (.aload_n 0, 1) := by decide +kernel
theorem dX11_lastOf_9 : decode cX11_lastOf 9 = .ok (.iload_n 1, 1) := by decide +kernel
theorem dX11_lastOf_10 : decode cX11_lastOf 10 = .ok (.invokevirtual 121, 3) := by decide +kernel
theorem dX11_lastOf_13 : decode cX11_lastOf 13 = .ok (.if_icmp .ge 57, 3) := by decide +kernel
theorem dX11_lastOf_16 : decode cX11_lastOf 16 = .ok (.aload_n 0, 1) := by decide +kernel
theorem dX11_lastOf_17 : decode cX11_lastOf 17 = .ok (.iload_n 1, 1) := by decide +kernel
theorem dX11_lastOf_18 : decode cX11_lastOf 18 = .ok (.iload 4, 2) := by decide +kernel
theorem dX11_lastOf_20 : decode cX11_lastOf 20 = .ok (.invokevirtual 124, 3) := by decide +kernel
theorem dX11_lastOf_23 : decode cX11_lastOf 23 = .ok (.istore 5, 2) := by decide +kernel
theorem dX11_lastOf_25 : decode cX11_lastOf 25 = .ok (.iload 5, 2) := by decide +kernel
theorem dX11_lastOf_27 : decode cX11_lastOf 27 = .ok (.invokestatic 127, 3) := by decide +kernel
theorem dX11_lastOf_30 : decode cX11_lastOf 30 = .ok (.iload_n 2, 1) := by decide +kernel
theorem dX11_lastOf_31 : decode cX11_lastOf 31 = .ok (.if_icmp .ne 31, 3) := by decide +kernel
theorem dX11_lastOf_34 : decode cX11_lastOf 34 = .ok (.iload_n 3, 1) := by decide +kernel
theorem dX11_lastOf_35 : decode cX11_lastOf 35 = .ok (.bipush (-9), 2) := by decide +kernel
theorem dX11_lastOf_37 : decode cX11_lastOf 37 = .ok (.if_icmp .eq 20, 3) := by decide +kernel
theorem dX11_lastOf_40 : decode cX11_lastOf 40 = .ok (.iload 5, 2) := by decide +kernel
theorem dX11_lastOf_42 : decode cX11_lastOf 42 = .ok (.invokestatic 153, 3) := by decide +kernel
theorem dX11_lastOf_45 : decode cX11_lastOf 45 = .ok (.aload_n 0, 1) := by decide +kernel
theorem dX11_lastOf_46 : decode cX11_lastOf 46 = .ok (.iload_n 1, 1) := by decide +kernel
theorem dX11_lastOf_47 : decode cX11_lastOf 47 = .ok (.iload_n 3, 1) := by decide +kernel
theorem dX11_lastOf_48 : decode cX11_lastOf 48 = .ok (.invokevirtual 124, 3) := by decide +kernel
theorem dX11_lastOf_51 : decode cX11_lastOf 51 = .ok (.invokestatic 153, 3) := by decide +kernel
theorem dX11_lastOf_54 : decode cX11_lastOf 54 = .ok (.if_icmp .le 8, 3) := by decide +kernel
theorem dX11_lastOf_57 : decode cX11_lastOf 57 = .ok (.iload 4, 2) := by decide +kernel
theorem dX11_lastOf_59 : decode cX11_lastOf 59 = .ok (.goto 4, 3) := by decide +kernel
theorem dX11_lastOf_62 : decode cX11_lastOf 62 = .ok (.iload_n 3, 1) := by decide +kernel
theorem dX11_lastOf_63 : decode cX11_lastOf 63 = .ok (.istore_n 3, 1) := by decide +kernel
theorem dX11_lastOf_64 : decode cX11_lastOf 64 = .ok (.iinc 4 1, 3) := by decide +kernel
theorem dX11_lastOf_67 : decode cX11_lastOf 67 = .ok (.goto (-61), 3) := by decide +kernel
theorem dX11_lastOf_70 : decode cX11_lastOf 70 = .ok (.iload_n 3, 1) := by decide +kernel
theorem dX11_lastOf_71 : decode cX11_lastOf 71 = .ok (.ireturn, 1) := by decide +kernel
theorem dX11_overOf_0 : decode cX11_overOf 0 = .ok (.iconst 0, 1) := by decide +kernel
theorem dX11_overOf_1 : decode cX11_overOf 1 = .ok (.istore_n 3, 1) := by decide +kernel
theorem dX11_overOf_2 : decode cX11_overOf 2 = .ok (.iload_n 2, 1) := by decide +kernel
theorem dX11_overOf_3 : decode cX11_overOf 3 = .ok (.iconst 1, 1) := by decide +kernel
theorem dX11_overOf_4 : decode cX11_overOf 4 = .ok (.iadd, 1) := by decide +kernel
theorem dX11_overOf_5 : decode cX11_overOf 5 = .ok (.istore 4, 2) := by decide +kernel
theorem dX11_overOf_7 : decode cX11_overOf 7 = .ok (.iload 4, 2) := by decide +kernel
theorem dX11_overOf_9 : decode cX11_overOf 9 = .ok (.aload_n 0, 1) := by decide +kernel
theorem dX11_overOf_10 : decode cX11_overOf 10 = .ok (.iload_n 1, 1) := by decide +kernel
theorem dX11_overOf_11 : decode cX11_overOf 11 = .ok (.invokevirtual 121, 3) := by decide +kernel
theorem dX11_overOf_14 : decode cX11_overOf 14 = .ok (.if_icmp .ge 36, 3) := by decide +kernel
theorem dX11_overOf_17 : decode cX11_overOf 17 = .ok (.iload_n 3, 1) := by decide +kernel
theorem dX11_overOf_18 : decode cX11_overOf 18 = .ok (.aload_n 0, 1) := by decide +kernel
theorem dX11_overOf_19 : decode cX11_overOf 19 = .ok (.iload_n 1, 1) := by decide +kernel
theorem dX11_overOf_20 : decode cX11_overOf 20 = .ok (.iload_n 2, 1) := by decide +kernel
theorem dX11_overOf_21 : decode cX11_overOf 21 = .ok (.invokevirtual 124, 3) := by decide +kernel
theorem dX11_overOf_24 : decode cX11_overOf 24 = .ok (.aload_n 0, 1) := by decide +kernel
theorem dX11_overOf_25 : decode cX11_overOf 25 = .ok (.iload_n 1, 1) := by decide +kernel
theorem dX11_overOf_26 : decode cX11_overOf 26 = .ok (.iload 4, 2) := by decide +kernel
theorem dX11_overOf_28 : decode cX11_overOf 28 = .ok (.invokevirtual 124, 3) := by decide +kernel
theorem dX11_overOf_31 : decode cX11_overOf 31 = .ok (.invokestatic 156, 3) := by decide +kernel
theorem dX11_overOf_34 : decode cX11_overOf 34 = .ok (.ifCond .eq 7, 3) := by decide +kernel
theorem dX11_overOf_37 : decode cX11_overOf 37 = .ok (.iconst 1, 1) := by decide +kernel
theorem dX11_overOf_38 : decode cX11_overOf 38 = .ok (.goto 4, 3) := by decide +kernel
theorem dX11_overOf_41 : decode cX11_overOf 41 = .ok (.iconst 0, 1) := by decide +kernel
theorem dX11_overOf_42 : decode cX11_overOf 42 = .ok (.iadd, 1) := by decide +kernel
theorem dX11_overOf_43 : decode cX11_overOf 43 = .ok (.istore_n 3, 1) := by decide +kernel
theorem dX11_overOf_44 : decode cX11_overOf 44 = .ok (.iinc 4 1, 3) := by decide +kernel
theorem dX11_overOf_47 : decode cX11_overOf 47 = .ok (.goto (-40), 3) := by decide +kernel
theorem dX11_overOf_50 : decode cX11_overOf 50 = .ok (.iload_n 3, 1) := by decide +kernel
theorem dX11_overOf_51 : decode cX11_overOf 51 = .ok (.ireturn, 1) := by decide +kernel
theorem dX11_canUnwind_0 : decode cX11_canUnwind 0 = .ok (.aload_n 0, 1) := by decide +kernel
theorem dX11_canUnwind_1 : decode cX11_canUnwind 1 = .ok (.iload_n 2, 1) := by decide +kernel
theorem dX11_canUnwind_2 : decode cX11_canUnwind 2 = .ok (.invokevirtual 159, 3) := by decide +kernel
theorem dX11_canUnwind_5 : decode cX11_canUnwind 5 = .ok (.ifCond .eq 32, 3) := by decide +kernel
theorem dX11_canUnwind_8 : decode cX11_canUnwind 8 = .ok (.aload_n 0, 1) := by decide +kernel
theorem dX11_canUnwind_9 : decode cX11_canUnwind 9 = .ok (.iload_n 1, 1) := by decide +kernel
theorem dX11_canUnwind_10 : decode cX11_canUnwind 10 = .ok (.iload_n 2, 1) := by decide +kernel
theorem dX11_canUnwind_11 : decode cX11_canUnwind 11 = .ok (.invokevirtual 162, 3) := by decide +kernel
theorem dX11_canUnwind_14 : decode cX11_canUnwind 14 = .ok (.bipush (-9), 2) := by decide +kernel
theorem dX11_canUnwind_16 : decode cX11_canUnwind 16 = .ok (.if_icmp .eq 21, 3) := by decide +kernel
theorem dX11_canUnwind_19 : decode cX11_canUnwind 19 = .ok (.aload_n 0, 1) := by decide +kernel
theorem dX11_canUnwind_20 : decode cX11_canUnwind 20 = .ok (.iload_n 1, 1) := by decide +kernel
theorem dX11_canUnwind_21 : decode cX11_canUnwind 21 = .ok (.aload_n 0, 1) := by decide +kernel
theorem dX11_canUnwind_22 : decode cX11_canUnwind 22 = .ok (.iload_n 1, 1) := by decide +kernel
theorem dX11_canUnwind_23 : decode cX11_canUnwind 23 = .ok (.iload_n 2, 1) := by decide +kernel
theorem dX11_canUnwind_24 : decode cX11_canUnwind 24 = .ok (.invokevirtual 162, 3) := by decide +kernel
theorem dX11_canUnwind_27 : decode cX11_canUnwind 27 = .ok (.invokevirtual 165, 3) := by decide +kernel
theorem dX11_canUnwind_30 : decode cX11_canUnwind 30 = .ok (.ifCond .ne 7, 3) := by decide +kernel
theorem dX11_canUnwind_33 : decode cX11_canUnwind 33 = .ok (.iconst 1, 1) := by decide +kernel
theorem dX11_canUnwind_34 : decode cX11_canUnwind 34 = .ok (.goto 4, 3) := by decide +kernel
theorem dX11_canUnwind_37 : decode cX11_canUnwind 37 = .ok (.iconst 0, 1) := by decide +kernel
theorem dX11_canUnwind_38 : decode cX11_canUnwind 38 = .ok (.ireturn, 1) := by decide +kernel
theorem dX11_takeOff_0 : decode cX11_takeOff 0 = .ok (.bipush 53, 2) := by decide +kernel
theorem dX11_takeOff_2 : decode cX11_takeOff 2 = .ok (.iload_n 1, 1) := by decide +kernel
theorem dX11_takeOff_3 : decode cX11_takeOff 3 = .ok (.imul, 1) := by decide +kernel
theorem dX11_takeOff_4 : decode cX11_takeOff 4 = .ok (.istore_n 3, 1) := by decide +kernel
theorem dX11_takeOff_5 : decode cX11_takeOff 5 = .ok (.aload_n 0, 1) := by decide +kernel
theorem dX11_takeOff_6 : decode cX11_takeOff 6 = .ok (.getfield 13, 3) := by decide +kernel
theorem dX11_takeOff_9 : decode cX11_takeOff 9 = .ok (.iload_n 3, 1) := by decide +kernel
theorem dX11_takeOff_10 : decode cX11_takeOff 10 = .ok (.iconst 4, 1) := by decide +kernel
theorem dX11_takeOff_11 : decode cX11_takeOff 11 = .ok (.iadd, 1) := by decide +kernel
theorem dX11_takeOff_12 : decode cX11_takeOff 12 = .ok (.dup2, 1) := by decide +kernel
theorem dX11_takeOff_13 : decode cX11_takeOff 13 = .ok (.iaload, 1) := by decide +kernel
theorem dX11_takeOff_14 : decode cX11_takeOff 14 = .ok (.iconst 1, 1) := by decide +kernel
theorem dX11_takeOff_15 : decode cX11_takeOff 15 = .ok (.isub, 1) := by decide +kernel
theorem dX11_takeOff_16 : decode cX11_takeOff 16 = .ok (.iastore, 1) := by decide +kernel
theorem dX11_takeOff_17 : decode cX11_takeOff 17 = .ok (.iload_n 2, 1) := by decide +kernel
theorem dX11_takeOff_18 : decode cX11_takeOff 18 = .ok (.istore 4, 2) := by decide +kernel
theorem dX11_takeOff_20 : decode cX11_takeOff 20 = .ok (.iload 4, 2) := by decide +kernel
theorem dX11_takeOff_22 : decode cX11_takeOff 22 = .ok (.aload_n 0, 1) := by decide +kernel
theorem dX11_takeOff_23 : decode cX11_takeOff 23 = .ok (.getfield 13, 3) := by decide +kernel
theorem dX11_takeOff_26 : decode cX11_takeOff 26 = .ok (.iload_n 3, 1) := by decide +kernel
theorem dX11_takeOff_27 : decode cX11_takeOff 27 = .ok (.iconst 4, 1) := by decide +kernel
theorem dX11_takeOff_28 : decode cX11_takeOff 28 = .ok (.iadd, 1) := by decide +kernel
theorem dX11_takeOff_29 : decode cX11_takeOff 29 = .ok (.iaload, 1) := by decide +kernel
theorem dX11_takeOff_30 : decode cX11_takeOff 30 = .ok (.if_icmp .ge 33, 3) := by decide +kernel
theorem dX11_takeOff_33 : decode cX11_takeOff 33 = .ok (.aload_n 0, 1) := by decide +kernel
theorem dX11_takeOff_34 : decode cX11_takeOff 34 = .ok (.getfield 13, 3) := by decide +kernel
theorem dX11_takeOff_37 : decode cX11_takeOff 37 = .ok (.iload_n 3, 1) := by decide +kernel
theorem dX11_takeOff_38 : decode cX11_takeOff 38 = .ok (.iconst 5, 1) := by decide +kernel
theorem dX11_takeOff_39 : decode cX11_takeOff 39 = .ok (.iadd, 1) := by decide +kernel
theorem dX11_takeOff_40 : decode cX11_takeOff 40 = .ok (.iload 4, 2) := by decide +kernel
theorem dX11_takeOff_42 : decode cX11_takeOff 42 = .ok (.iadd, 1) := by decide +kernel
theorem dX11_takeOff_43 : decode cX11_takeOff 43 = .ok (.aload_n 0, 1) := by decide +kernel
theorem dX11_takeOff_44 : decode cX11_takeOff 44 = .ok (.getfield 13, 3) := by decide +kernel
theorem dX11_takeOff_47 : decode cX11_takeOff 47 = .ok (.iload_n 3, 1) := by decide +kernel
theorem dX11_takeOff_48 : decode cX11_takeOff 48 = .ok (.iconst 5, 1) := by decide +kernel
theorem dX11_takeOff_49 : decode cX11_takeOff 49 = .ok (.iadd, 1) := by decide +kernel
theorem dX11_takeOff_50 : decode cX11_takeOff 50 = .ok (.iload 4, 2) := by decide +kernel
theorem dX11_takeOff_52 : decode cX11_takeOff 52 = .ok (.iadd, 1) := by decide +kernel
theorem dX11_takeOff_53 : decode cX11_takeOff 53 = .ok (.iconst 1, 1) := by decide +kernel
theorem dX11_takeOff_54 : decode cX11_takeOff 54 = .ok (.iadd, 1) := by decide +kernel
theorem dX11_takeOff_55 : decode cX11_takeOff 55 = .ok (.iaload, 1) := by decide +kernel
theorem dX11_takeOff_56 : decode cX11_takeOff 56 = .ok (.iastore, 1) := by decide +kernel
theorem dX11_takeOff_57 : decode cX11_takeOff 57 = .ok (.iinc 4 1, 3) := by decide +kernel
theorem dX11_takeOff_60 : decode cX11_takeOff 60 = .ok (.goto (-40), 3) := by decide +kernel
theorem dX11_takeOff_63 : decode cX11_takeOff 63 = .ok (.return_, 1) := by decide +kernel
theorem dX11_unwindOn_0 : decode cX11_unwindOn 0 = .ok (.aload_n 0, 1) := by decide +kernel
theorem dX11_unwindOn_1 : decode cX11_unwindOn 1 = .ok (.iload_n 1, 1) := by decide +kernel
theorem dX11_unwindOn_2 : decode cX11_unwindOn 2 = .ok (.iload_n 2, 1) := by decide +kernel
theorem dX11_unwindOn_3 : decode cX11_unwindOn 3 = .ok (.invokevirtual 162, 3) := by decide +kernel
theorem dX11_unwindOn_6 : decode cX11_unwindOn 6 = .ok (.istore_n 3, 1) := by decide +kernel
theorem dX11_unwindOn_7 : decode cX11_unwindOn 7 = .ok (.aload_n 0, 1) := by decide +kernel
theorem dX11_unwindOn_8 : decode cX11_unwindOn 8 = .ok (.getfield 13, 3) := by decide +kernel
theorem dX11_unwindOn_11 : decode cX11_unwindOn 11 = .ok (.bipush 53, 2) := by decide +kernel
theorem dX11_unwindOn_13 : decode cX11_unwindOn 13 = .ok (.iload_n 1, 1) := by decide +kernel
theorem dX11_unwindOn_14 : decode cX11_unwindOn 14 = .ok (.imul, 1) := by decide +kernel
theorem dX11_unwindOn_15 : decode cX11_unwindOn 15 = .ok (.iload_n 2, 1) := by decide +kernel
theorem dX11_unwindOn_16 : decode cX11_unwindOn 16 = .ok (.iadd, 1) := by decide +kernel
theorem dX11_unwindOn_17 : decode cX11_unwindOn 17 = .ok (.aload_n 0, 1) := by decide +kernel
theorem dX11_unwindOn_18 : decode cX11_unwindOn 18 = .ok (.iload_n 1, 1) := by decide +kernel
theorem dX11_unwindOn_19 : decode cX11_unwindOn 19 = .ok (.iload_n 3, 1) := by decide +kernel
theorem dX11_unwindOn_20 : decode cX11_unwindOn 20 = .ok (.invokevirtual 124, 3) := by decide +kernel
theorem dX11_unwindOn_23 : decode cX11_unwindOn 23 = .ok (.invokestatic 61, 3) := by decide +kernel
theorem dX11_unwindOn_26 : decode cX11_unwindOn 26 = .ok (.iastore, 1) := by decide +kernel
theorem dX11_unwindOn_27 : decode cX11_unwindOn 27 = .ok (.aload_n 0, 1) := by decide +kernel
theorem dX11_unwindOn_28 : decode cX11_unwindOn 28 = .ok (.iload_n 1, 1) := by decide +kernel
theorem dX11_unwindOn_29 : decode cX11_unwindOn 29 = .ok (.iload_n 3, 1) := by decide +kernel
theorem dX11_unwindOn_30 : decode cX11_unwindOn 30 = .ok (.invokevirtual 168, 3) := by decide +kernel
theorem dX11_unwindOn_33 : decode cX11_unwindOn 33 = .ok (.return_, 1) := by decide +kernel
theorem dX11_cutOn_0 : decode cX11_cutOn 0 = .ok (.iconst 0, 1) := by decide +kernel
theorem dX11_cutOn_1 : decode cX11_cutOn 1 = .ok (.istore_n 3, 1) := by decide +kernel
theorem dX11_cutOn_2 : decode cX11_cutOn 2 = .ok (.aload_n 0, 1) := by decide +kernel
theorem dX11_cutOn_3 : decode cX11_cutOn 3 = .ok (.iload_n 1, 1) := by decide +kernel
theorem dX11_cutOn_4 : decode cX11_cutOn 4 = .ok (.invokevirtual 121, 3) := by decide +kernel
theorem dX11_cutOn_7 : decode cX11_cutOn 7 = .ok (.iconst 1, 1) := by decide +kernel
theorem dX11_cutOn_8 : decode cX11_cutOn 8 = .ok (.isub, 1) := by decide +kernel
theorem dX11_cutOn_9 : decode cX11_cutOn 9 = .ok (.istore 4, 2) := by decide +kernel
theorem dX11_cutOn_11 : decode cX11_cutOn 11 = .ok (.iload 4, 2) := by decide +kernel
theorem dX11_cutOn_13 : decode cX11_cutOn 13 = .ok (.ifCond .lt 33, 3) := by decide +kernel
theorem dX11_cutOn_16 : decode cX11_cutOn 16 = .ok (.aload_n 0, 1) := by decide +kernel
theorem dX11_cutOn_17 : decode cX11_cutOn 17 = .ok (.iload_n 1, 1) := by decide +kernel
theorem dX11_cutOn_18 : decode cX11_cutOn 18 = .ok (.iload 4, 2) := by decide +kernel
theorem dX11_cutOn_20 : decode cX11_cutOn 20 = .ok (.invokevirtual 124, 3) := by decide +kernel
theorem dX11_cutOn_23 : decode cX11_cutOn 23 = .ok (.invokestatic 127, 3) := by decide +kernel
theorem dX11_cutOn_26 : decode cX11_cutOn 26 = .ok (.iload_n 2, 1) := by decide +kernel
theorem dX11_cutOn_27 : decode cX11_cutOn 27 = .ok (.if_icmp .ne 13, 3) := by decide +kernel
theorem dX11_cutOn_30 : decode cX11_cutOn 30 = .ok (.aload_n 0, 1) := by decide +kernel
theorem dX11_cutOn_31 : decode cX11_cutOn 31 = .ok (.iload_n 1, 1) := by decide +kernel
theorem dX11_cutOn_32 : decode cX11_cutOn 32 = .ok (.iload 4, 2) := by decide +kernel
theorem dX11_cutOn_34 : decode cX11_cutOn 34 = .ok (.invokevirtual 168, 3) := by decide +kernel
theorem dX11_cutOn_37 : decode cX11_cutOn 37 = .ok (.iinc 3 1, 3) := by decide +kernel
theorem dX11_cutOn_40 : decode cX11_cutOn 40 = .ok (.iinc 4 (-1), 3) := by decide +kernel
theorem dX11_cutOn_43 : decode cX11_cutOn 43 = .ok (.goto (-32), 3) := by decide +kernel
theorem dX11_cutOn_46 : decode cX11_cutOn 46 = .ok (.iload_n 3, 1) := by decide +kernel
theorem dX11_cutOn_47 : decode cX11_cutOn 47 = .ok (.ireturn, 1) := by decide +kernel
theorem dX11_renamed_0 : decode cX11_renamed 0 = .ok (.iload_n 1, 1) := by decide +kernel
theorem dX11_renamed_1 : decode cX11_renamed 1 = .ok (.ifCond .eq 13, 3) := by decide +kernel
theorem dX11_renamed_4 : decode cX11_renamed 4 = .ok (.bipush 12, 2) := by decide +kernel
theorem dX11_renamed_6 : decode cX11_renamed 6 = .ok (.iload_n 0, 1) := by decide +kernel
theorem dX11_renamed_7 : decode cX11_renamed 7 = .ok (.isub, 1) := by decide +kernel
theorem dX11_renamed_8 : decode cX11_renamed 8 = .ok (.bipush 12, 2) := by decide +kernel
theorem dX11_renamed_10 : decode cX11_renamed 10 = .ok (.irem, 1) := by decide +kernel
theorem dX11_renamed_11 : decode cX11_renamed 11 = .ok (.goto 9, 3) := by decide +kernel
theorem dX11_renamed_14 : decode cX11_renamed 14 = .ok (.iload_n 0, 1) := by decide +kernel
theorem dX11_renamed_15 : decode cX11_renamed 15 = .ok (.iconst 1, 1) := by decide +kernel
theorem dX11_renamed_16 : decode cX11_renamed 16 = .ok (.iadd, 1) := by decide +kernel
theorem dX11_renamed_17 : decode cX11_renamed 17 = .ok (.bipush 12, 2) := by decide +kernel
theorem dX11_renamed_19 : decode cX11_renamed 19 = .ok (.irem, 1) := by decide +kernel
theorem dX11_renamed_20 : decode cX11_renamed 20 = .ok (.ireturn, 1) := by decide +kernel
theorem dX11_renameOn_0 : decode cX11_renameOn 0 = .ok (.bipush 53, 2) := by decide +kernel
theorem dX11_renameOn_2 : decode cX11_renameOn 2 = .ok (.iload_n 1, 1) := by decide +kernel
theorem dX11_renameOn_3 : decode cX11_renameOn 3 = .ok (.imul, 1) := by decide +kernel
theorem dX11_renameOn_4 : decode cX11_renameOn 4 = .ok (.istore_n 3, 1) := by decide +kernel
theorem dX11_renameOn_5 : decode cX11_renameOn 5 = .ok (.iconst 0, 1) := by decide +kernel
theorem dX11_renameOn_6 : decode cX11_renameOn 6 = .ok (.istore 4, 2) := by decide +kernel
theorem dX11_renameOn_8 : decode cX11_renameOn 8 = .ok (.iload 4, 2) := by decide +kernel
theorem dX11_renameOn_10 : decode cX11_renameOn 10 = .ok (.aload_n 0, 1) := by decide +kernel
theorem dX11_renameOn_11 : decode cX11_renameOn 11 = .ok (.getfield 115, 3) := by decide +kernel
theorem dX11_renameOn_14 : decode cX11_renameOn 14 = .ok (.if_icmp .ge 31, 3) := by decide +kernel
theorem dX11_renameOn_17 : decode cX11_renameOn 17 = .ok (.aload_n 0, 1) := by decide +kernel
theorem dX11_renameOn_18 : decode cX11_renameOn 18 = .ok (.getfield 13, 3) := by decide +kernel
theorem dX11_renameOn_21 : decode cX11_renameOn 21 = .ok (.iload_n 3, 1) := by decide +kernel
theorem dX11_renameOn_22 : decode cX11_renameOn 22 = .ok (.iload 4, 2) := by decide +kernel
theorem dX11_renameOn_24 : decode cX11_renameOn 24 = .ok (.iadd, 1) := by decide +kernel
theorem dX11_renameOn_25 : decode cX11_renameOn 25 = .ok (.aload_n 0, 1) := by decide +kernel
theorem dX11_renameOn_26 : decode cX11_renameOn 26 = .ok (.getfield 13, 3) := by decide +kernel
theorem dX11_renameOn_29 : decode cX11_renameOn 29 = .ok (.iload_n 3, 1) := by decide +kernel
theorem dX11_renameOn_30 : decode cX11_renameOn 30 = .ok (.iload 4, 2) := by decide +kernel
theorem dX11_renameOn_32 : decode cX11_renameOn 32 = .ok (.iadd, 1) := by decide +kernel
theorem dX11_renameOn_33 : decode cX11_renameOn 33 = .ok (.iaload, 1) := by decide +kernel
theorem dX11_renameOn_34 : decode cX11_renameOn 34 = .ok (.iload_n 2, 1) := by decide +kernel
theorem dX11_renameOn_35 : decode cX11_renameOn 35 = .ok (.invokestatic 172, 3) := by decide +kernel
theorem dX11_renameOn_38 : decode cX11_renameOn 38 = .ok (.iastore, 1) := by decide +kernel
theorem dX11_renameOn_39 : decode cX11_renameOn 39 = .ok (.iinc 4 1, 3) := by decide +kernel
theorem dX11_renameOn_42 : decode cX11_renameOn 42 = .ok (.goto (-34), 3) := by decide +kernel
theorem dX11_renameOn_45 : decode cX11_renameOn 45 = .ok (.iconst 0, 1) := by decide +kernel
theorem dX11_renameOn_46 : decode cX11_renameOn 46 = .ok (.istore 4, 2) := by decide +kernel
theorem dX11_renameOn_48 : decode cX11_renameOn 48 = .ok (.iload 4, 2) := by decide +kernel
theorem dX11_renameOn_50 : decode cX11_renameOn 50 = .ok (.aload_n 0, 1) := by decide +kernel
theorem dX11_renameOn_51 : decode cX11_renameOn 51 = .ok (.iload_n 1, 1) := by decide +kernel
theorem dX11_renameOn_52 : decode cX11_renameOn 52 = .ok (.invokevirtual 121, 3) := by decide +kernel
theorem dX11_renameOn_55 : decode cX11_renameOn 55 = .ok (.if_icmp .ge 60, 3) := by decide +kernel
theorem dX11_renameOn_58 : decode cX11_renameOn 58 = .ok (.aload_n 0, 1) := by decide +kernel
theorem dX11_renameOn_59 : decode cX11_renameOn 59 = .ok (.iload_n 1, 1) := by decide +kernel
theorem dX11_renameOn_60 : decode cX11_renameOn 60 = .ok (.iload 4, 2) := by decide +kernel
theorem dX11_renameOn_62 : decode cX11_renameOn 62 = .ok (.invokevirtual 124, 3) := by decide +kernel
theorem dX11_renameOn_65 : decode cX11_renameOn 65 = .ok (.istore 5, 2) := by decide +kernel
theorem dX11_renameOn_67 : decode cX11_renameOn 67 = .ok (.aload_n 0, 1) := by decide +kernel
theorem dX11_renameOn_68 : decode cX11_renameOn 68 = .ok (.getfield 13, 3) := by decide +kernel
theorem dX11_renameOn_71 : decode cX11_renameOn 71 = .ok (.iload_n 3, 1) := by decide +kernel
theorem dX11_renameOn_72 : decode cX11_renameOn 72 = .ok (.iconst 5, 1) := by decide +kernel
theorem dX11_renameOn_73 : decode cX11_renameOn 73 = .ok (.iadd, 1) := by decide +kernel
theorem dX11_renameOn_74 : decode cX11_renameOn 74 = .ok (.iload 4, 2) := by decide +kernel
theorem dX11_renameOn_76 : decode cX11_renameOn 76 = .ok (.iadd, 1) := by decide +kernel
theorem dX11_renameOn_77 : decode cX11_renameOn 77 = .ok (.iload 5, 2) := by decide +kernel
theorem dX11_renameOn_79 : decode cX11_renameOn 79 = .ok (.invokestatic 127, 3) := by decide +kernel
theorem dX11_renameOn_82 : decode cX11_renameOn 82 = .ok (.iload 5, 2) := by decide +kernel
theorem dX11_renameOn_84 : decode cX11_renameOn 84 = .ok (.invokestatic 61, 3) := by decide +kernel
theorem dX11_renameOn_87 : decode cX11_renameOn 87 = .ok (.iload_n 2, 1) := by decide +kernel
theorem dX11_renameOn_88 : decode cX11_renameOn 88 = .ok (.invokestatic 172, 3) := by decide +kernel
theorem dX11_renameOn_91 : decode cX11_renameOn 91 = .ok (.iload 5, 2) := by decide +kernel
theorem dX11_renameOn_93 : decode cX11_renameOn 93 = .ok (.invokestatic 65, 3) := by decide +kernel
theorem dX11_renameOn_96 : decode cX11_renameOn 96 = .ok (.iload_n 2, 1) := by decide +kernel
theorem dX11_renameOn_97 : decode cX11_renameOn 97 = .ok (.invokestatic 172, 3) := by decide +kernel
theorem dX11_renameOn_100 : decode cX11_renameOn 100 = .ok (.iload 5, 2) := by decide +kernel
theorem dX11_renameOn_102 : decode cX11_renameOn 102 = .ok (.invokestatic 153, 3) := by decide +kernel
theorem dX11_renameOn_105 : decode cX11_renameOn 105 = .ok (.invokestatic 150, 3) := by decide +kernel
theorem dX11_renameOn_108 : decode cX11_renameOn 108 = .ok (.iastore, 1) := by decide +kernel
theorem dX11_renameOn_109 : decode cX11_renameOn 109 = .ok (.iinc 4 1, 3) := by decide +kernel
theorem dX11_renameOn_112 : decode cX11_renameOn 112 = .ok (.goto (-64), 3) := by decide +kernel
theorem dX11_renameOn_115 : decode cX11_renameOn 115 = .ok (.iconst 0, 1) := by decide +kernel
theorem dX11_renameOn_116 : decode cX11_renameOn 116 = .ok (.istore 4, 2) := by decide +kernel
theorem dX11_renameOn_118 : decode cX11_renameOn 118 = .ok (.iload_n 2, 1) := by decide +kernel
theorem dX11_renameOn_119 : decode cX11_renameOn 119 = .ok (.ifCond .eq 73, 3) := by decide +kernel
theorem dX11_renameOn_122 : decode cX11_renameOn 122 = .ok (.iload 4, 2) := by decide +kernel
theorem dX11_renameOn_124 : decode cX11_renameOn 124 = .ok (.aload_n 0, 1) := by decide +kernel
theorem dX11_renameOn_125 : decode cX11_renameOn 125 = .ok (.iload_n 1, 1) := by decide +kernel
theorem dX11_renameOn_126 : decode cX11_renameOn 126 = .ok (.invokevirtual 121, 3) := by decide +kernel
theorem dX11_renameOn_129 : decode cX11_renameOn 129 = .ok (.iconst 2, 1) := by decide +kernel
theorem dX11_renameOn_130 : decode cX11_renameOn 130 = .ok (.idiv, 1) := by decide +kernel
theorem dX11_renameOn_131 : decode cX11_renameOn 131 = .ok (.if_icmp .ge 61, 3) := by decide +kernel
theorem dX11_renameOn_134 : decode cX11_renameOn 134 = .ok (.aload_n 0, 1) := by decide +kernel
theorem dX11_renameOn_135 : decode cX11_renameOn 135 = .ok (.iload_n 1, 1) := by decide +kernel
theorem dX11_renameOn_136 : decode cX11_renameOn 136 = .ok (.invokevirtual 121, 3) := by decide +kernel
theorem dX11_renameOn_139 : decode cX11_renameOn 139 = .ok (.iconst 1, 1) := by decide +kernel
theorem dX11_renameOn_140 : decode cX11_renameOn 140 = .ok (.isub, 1) := by decide +kernel
theorem dX11_renameOn_141 : decode cX11_renameOn 141 = .ok (.iload 4, 2) := by decide +kernel
theorem dX11_renameOn_143 : decode cX11_renameOn 143 = .ok (.isub, 1) := by decide +kernel
theorem dX11_renameOn_144 : decode cX11_renameOn 144 = .ok (.istore 5, 2) := by decide +kernel
theorem dX11_renameOn_146 : decode cX11_renameOn 146 = .ok (.aload_n 0, 1) := by decide +kernel
theorem dX11_renameOn_147 : decode cX11_renameOn 147 = .ok (.iload_n 1, 1) := by decide +kernel
theorem dX11_renameOn_148 : decode cX11_renameOn 148 = .ok (.iload 4, 2) := by decide +kernel
theorem dX11_renameOn_150 : decode cX11_renameOn 150 = .ok (.invokevirtual 124, 3) := by decide +kernel
theorem dX11_renameOn_153 : decode cX11_renameOn 153 = .ok (.istore 6, 2) := by decide +kernel
theorem dX11_renameOn_155 : decode cX11_renameOn 155 = .ok (.aload_n 0, 1) := by decide +kernel
theorem dX11_renameOn_156 : decode cX11_renameOn 156 = .ok (.getfield 13, 3) := by decide +kernel
theorem dX11_renameOn_159 : decode cX11_renameOn 159 = .ok (.iload_n 3, 1) := by decide +kernel
theorem dX11_renameOn_160 : decode cX11_renameOn 160 = .ok (.iconst 5, 1) := by decide +kernel
theorem dX11_renameOn_161 : decode cX11_renameOn 161 = .ok (.iadd, 1) := by decide +kernel
theorem dX11_renameOn_162 : decode cX11_renameOn 162 = .ok (.iload 4, 2) := by decide +kernel
theorem dX11_renameOn_164 : decode cX11_renameOn 164 = .ok (.iadd, 1) := by decide +kernel
theorem dX11_renameOn_165 : decode cX11_renameOn 165 = .ok (.aload_n 0, 1) := by decide +kernel
theorem dX11_renameOn_166 : decode cX11_renameOn 166 = .ok (.iload_n 1, 1) := by decide +kernel
theorem dX11_renameOn_167 : decode cX11_renameOn 167 = .ok (.iload 5, 2) := by decide +kernel
theorem dX11_renameOn_169 : decode cX11_renameOn 169 = .ok (.invokevirtual 124, 3) := by decide +kernel
theorem dX11_renameOn_172 : decode cX11_renameOn 172 = .ok (.iastore, 1) := by decide +kernel
theorem dX11_renameOn_173 : decode cX11_renameOn 173 = .ok (.aload_n 0, 1) := by decide +kernel
theorem dX11_renameOn_174 : decode cX11_renameOn 174 = .ok (.getfield 13, 3) := by decide +kernel
theorem dX11_renameOn_177 : decode cX11_renameOn 177 = .ok (.iload_n 3, 1) := by decide +kernel
theorem dX11_renameOn_178 : decode cX11_renameOn 178 = .ok (.iconst 5, 1) := by decide +kernel
theorem dX11_renameOn_179 : decode cX11_renameOn 179 = .ok (.iadd, 1) := by decide +kernel
theorem dX11_renameOn_180 : decode cX11_renameOn 180 = .ok (.iload 5, 2) := by decide +kernel
theorem dX11_renameOn_182 : decode cX11_renameOn 182 = .ok (.iadd, 1) := by decide +kernel
theorem dX11_renameOn_183 : decode cX11_renameOn 183 = .ok (.iload 6, 2) := by decide +kernel
theorem dX11_renameOn_185 : decode cX11_renameOn 185 = .ok (.iastore, 1) := by decide +kernel
theorem dX11_renameOn_186 : decode cX11_renameOn 186 = .ok (.iinc 4 1, 3) := by decide +kernel
theorem dX11_renameOn_189 : decode cX11_renameOn 189 = .ok (.goto (-71), 3) := by decide +kernel
theorem dX11_renameOn_192 : decode cX11_renameOn 192 = .ok (.return_, 1) := by decide +kernel
theorem dX11_mayGo_0 : decode cX11_mayGo 0 = .ok (.iconst 0, 1) := by decide +kernel
theorem dX11_mayGo_1 : decode cX11_mayGo 1 = .ok (.istore_n 2, 1) := by decide +kernel
theorem dX11_mayGo_2 : decode cX11_mayGo 2 = .ok (.iconst 0, 1) := by decide +kernel
theorem dX11_mayGo_3 : decode cX11_mayGo 3 = .ok (.istore_n 3, 1) := by decide +kernel
theorem dX11_mayGo_4 : decode cX11_mayGo 4 = .ok (.iload_n 3, 1) := by decide +kernel
theorem dX11_mayGo_5 : decode cX11_mayGo 5 = .ok (.bipush 12, 2) := by decide +kernel
theorem dX11_mayGo_7 : decode cX11_mayGo 7 = .ok (.if_icmp .ge 29, 3) := by decide +kernel
theorem dX11_mayGo_10 : decode cX11_mayGo 10 = .ok (.iload_n 2, 1) := by decide +kernel
theorem dX11_mayGo_11 : decode cX11_mayGo 11 = .ok (.aload_n 0, 1) := by decide +kernel
theorem dX11_mayGo_12 : decode cX11_mayGo 12 = .ok (.iconst 0, 1) := by decide +kernel
theorem dX11_mayGo_13 : decode cX11_mayGo 13 = .ok (.iload_n 1, 1) := by decide +kernel
theorem dX11_mayGo_14 : decode cX11_mayGo 14 = .ok (.iload_n 3, 1) := by decide +kernel
theorem dX11_mayGo_15 : decode cX11_mayGo 15 = .ok (.invokevirtual 105, 3) := by decide +kernel
theorem dX11_mayGo_18 : decode cX11_mayGo 18 = .ok (.ifCond .eq 9, 3) := by decide +kernel
theorem dX11_mayGo_21 : decode cX11_mayGo 21 = .ok (.iconst 1, 1) := by decide +kernel
theorem dX11_mayGo_22 : decode cX11_mayGo 22 = .ok (.iload_n 3, 1) := by decide +kernel
theorem dX11_mayGo_23 : decode cX11_mayGo 23 = .ok (.ishl, 1) := by decide +kernel
theorem dX11_mayGo_24 : decode cX11_mayGo 24 = .ok (.goto 4, 3) := by decide +kernel
theorem dX11_mayGo_27 : decode cX11_mayGo 27 = .ok (.iconst 0, 1) := by decide +kernel
theorem dX11_mayGo_28 : decode cX11_mayGo 28 = .ok (.ior, 1) := by decide +kernel
theorem dX11_mayGo_29 : decode cX11_mayGo 29 = .ok (.istore_n 2, 1) := by decide +kernel
theorem dX11_mayGo_30 : decode cX11_mayGo 30 = .ok (.iinc 3 1, 3) := by decide +kernel
theorem dX11_mayGo_33 : decode cX11_mayGo 33 = .ok (.goto (-29), 3) := by decide +kernel
theorem dX11_mayGo_36 : decode cX11_mayGo 36 = .ok (.iload_n 2, 1) := by decide +kernel
theorem dX11_mayGo_37 : decode cX11_mayGo 37 = .ok (.ireturn, 1) := by decide +kernel
theorem dX11_thread_0 : decode cX11_thread 0 = .ok (.aload_n 0, 1) := by decide +kernel
theorem dX11_thread_1 : decode cX11_thread 1 = .ok (.iload_n 1, 1) := by decide +kernel
theorem dX11_thread_2 : decode cX11_thread 2 = .ok (.invokevirtual 159, 3) := by decide +kernel
theorem dX11_thread_5 : decode cX11_thread 5 = .ok (.ifCond .ne 5, 3) := by decide +kernel
theorem dX11_thread_8 : decode cX11_thread 8 = .ok (.iconst (-1), 1) := by decide +kernel
theorem dX11_thread_9 : decode cX11_thread 9 = .ok (.ireturn, 1) := by decide +kernel
theorem dX11_thread_10 : decode cX11_thread 10 = .ok (.iload_n 2, 1) := by decide +kernel
theorem dX11_thread_11 : decode cX11_thread 11 = .ok (.tableswitch 86 0 5 #[37, 44, 51, 58, 65, 71], 37) := by decide +kernel
theorem dX11_thread_48 : decode cX11_thread 48 = .ok (.aload_n 0, 1) := by decide +kernel
theorem dX11_thread_49 : decode cX11_thread 49 = .ok (.getfield 13, 3) := by decide +kernel
theorem dX11_thread_52 : decode cX11_thread 52 = .ok (.iload_n 1, 1) := by decide +kernel
theorem dX11_thread_53 : decode cX11_thread 53 = .ok (.iaload, 1) := by decide +kernel
theorem dX11_thread_54 : decode cX11_thread 54 = .ok (.ireturn, 1) := by decide +kernel
theorem dX11_thread_55 : decode cX11_thread 55 = .ok (.aload_n 0, 1) := by decide +kernel
theorem dX11_thread_56 : decode cX11_thread 56 = .ok (.getfield 7, 3) := by decide +kernel
theorem dX11_thread_59 : decode cX11_thread 59 = .ok (.iload_n 1, 1) := by decide +kernel
theorem dX11_thread_60 : decode cX11_thread 60 = .ok (.iaload, 1) := by decide +kernel
theorem dX11_thread_61 : decode cX11_thread 61 = .ok (.ireturn, 1) := by decide +kernel
theorem dX11_thread_62 : decode cX11_thread 62 = .ok (.aload_n 0, 1) := by decide +kernel
theorem dX11_thread_63 : decode cX11_thread 63 = .ok (.iconst 0, 1) := by decide +kernel
theorem dX11_thread_64 : decode cX11_thread 64 = .ok (.iload_n 1, 1) := by decide +kernel
theorem dX11_thread_65 : decode cX11_thread 65 = .ok (.invokevirtual 137, 3) := by decide +kernel
theorem dX11_thread_68 : decode cX11_thread 68 = .ok (.ireturn, 1) := by decide +kernel
theorem dX11_thread_69 : decode cX11_thread 69 = .ok (.aload_n 0, 1) := by decide +kernel
theorem dX11_thread_70 : decode cX11_thread 70 = .ok (.iconst 0, 1) := by decide +kernel
theorem dX11_thread_71 : decode cX11_thread 71 = .ok (.iload_n 1, 1) := by decide +kernel
theorem dX11_thread_72 : decode cX11_thread 72 = .ok (.invokevirtual 147, 3) := by decide +kernel
theorem dX11_thread_75 : decode cX11_thread 75 = .ok (.ireturn, 1) := by decide +kernel
theorem dX11_thread_76 : decode cX11_thread 76 = .ok (.aload_n 0, 1) := by decide +kernel
theorem dX11_thread_77 : decode cX11_thread 77 = .ok (.iload_n 1, 1) := by decide +kernel
theorem dX11_thread_78 : decode cX11_thread 78 = .ok (.invokevirtual 176, 3) := by decide +kernel
theorem dX11_thread_81 : decode cX11_thread 81 = .ok (.ireturn, 1) := by decide +kernel
theorem dX11_thread_82 : decode cX11_thread 82 = .ok (.aload_n 0, 1) := by decide +kernel
theorem dX11_thread_83 : decode cX11_thread 83 = .ok (.iconst 0, 1) := by decide +kernel
theorem dX11_thread_84 : decode cX11_thread 84 = .ok (.iload_n 1, 1) := by decide +kernel
theorem dX11_thread_85 : decode cX11_thread 85 = .ok (.invokevirtual 179, 3) := by decide +kernel
theorem dX11_thread_88 : decode cX11_thread 88 = .ok (.ifCond .eq 7, 3) := by decide +kernel
theorem dX11_thread_91 : decode cX11_thread 91 = .ok (.iconst 1, 1) := by decide +kernel
theorem dX11_thread_92 : decode cX11_thread 92 = .ok (.goto 4, 3) := by decide +kernel
theorem dX11_thread_95 : decode cX11_thread 95 = .ok (.iconst 0, 1) := by decide +kernel
theorem dX11_thread_96 : decode cX11_thread 96 = .ok (.ireturn, 1) := by decide +kernel
theorem dX11_thread_97 : decode cX11_thread 97 = .ok (.bipush (-2), 2) := by decide +kernel
theorem dX11_thread_99 : decode cX11_thread 99 = .ok (.ireturn, 1) := by decide +kernel
theorem dX11_aboveOf_0 : decode cX11_aboveOf 0 = .ok (.iconst 0, 1) := by decide +kernel
theorem dX11_aboveOf_1 : decode cX11_aboveOf 1 = .ok (.istore_n 2, 1) := by decide +kernel
theorem dX11_aboveOf_2 : decode cX11_aboveOf 2 = .ok (.iconst 0, 1) := by decide +kernel
theorem dX11_aboveOf_3 : decode cX11_aboveOf 3 = .ok (.istore_n 3, 1) := by decide +kernel
theorem dX11_aboveOf_4 : decode cX11_aboveOf 4 = .ok (.iload_n 3, 1) := by decide +kernel
theorem dX11_aboveOf_5 : decode cX11_aboveOf 5 = .ok (.aload_n 0, 1) := by decide +kernel
theorem dX11_aboveOf_6 : decode cX11_aboveOf 6 = .ok (.iconst 0, 1) := by decide +kernel
theorem dX11_aboveOf_7 : decode cX11_aboveOf 7 = .ok (.invokevirtual 121, 3) := by decide +kernel
theorem dX11_aboveOf_10 : decode cX11_aboveOf 10 = .ok (.if_icmp .ge 16, 3) := by decide +kernel
theorem dX11_aboveOf_13 : decode cX11_aboveOf 13 = .ok (.aload_n 0, 1) := by decide +kernel
theorem dX11_aboveOf_14 : decode cX11_aboveOf 14 = .ok (.getfield 22, 3) := by decide +kernel
theorem dX11_aboveOf_17 : decode cX11_aboveOf 17 = .ok (.iload_n 3, 1) := by decide +kernel
theorem dX11_aboveOf_18 : decode cX11_aboveOf 18 = .ok (.iconst 0, 1) := by decide +kernel
theorem dX11_aboveOf_19 : decode cX11_aboveOf 19 = .ok (.iastore, 1) := by decide +kernel
theorem dX11_aboveOf_20 : decode cX11_aboveOf 20 = .ok (.iinc 3 1, 3) := by decide +kernel
theorem dX11_aboveOf_23 : decode cX11_aboveOf 23 = .ok (.goto (-19), 3) := by decide +kernel
theorem dX11_aboveOf_26 : decode cX11_aboveOf 26 = .ok (.iload_n 1, 1) := by decide +kernel
theorem dX11_aboveOf_27 : decode cX11_aboveOf 27 = .ok (.iconst 1, 1) := by decide +kernel
theorem dX11_aboveOf_28 : decode cX11_aboveOf 28 = .ok (.iadd, 1) := by decide +kernel
theorem dX11_aboveOf_29 : decode cX11_aboveOf 29 = .ok (.istore_n 3, 1) := by decide +kernel
theorem dX11_aboveOf_30 : decode cX11_aboveOf 30 = .ok (.iload_n 3, 1) := by decide +kernel
theorem dX11_aboveOf_31 : decode cX11_aboveOf 31 = .ok (.aload_n 0, 1) := by decide +kernel
theorem dX11_aboveOf_32 : decode cX11_aboveOf 32 = .ok (.iconst 0, 1) := by decide +kernel
theorem dX11_aboveOf_33 : decode cX11_aboveOf 33 = .ok (.invokevirtual 121, 3) := by decide +kernel
theorem dX11_aboveOf_36 : decode cX11_aboveOf 36 = .ok (.if_icmp .ge 110, 3) := by decide +kernel
theorem dX11_aboveOf_39 : decode cX11_aboveOf 39 = .ok (.aload_n 0, 1) := by decide +kernel
theorem dX11_aboveOf_40 : decode cX11_aboveOf 40 = .ok (.iconst 0, 1) := by decide +kernel
theorem dX11_aboveOf_41 : decode cX11_aboveOf 41 = .ok (.iload_n 1, 1) := by decide +kernel
theorem dX11_aboveOf_42 : decode cX11_aboveOf 42 = .ok (.invokevirtual 124, 3) := by decide +kernel
theorem dX11_aboveOf_45 : decode cX11_aboveOf 45 = .ok (.aload_n 0, 1) := by decide +kernel
theorem dX11_aboveOf_46 : decode cX11_aboveOf 46 = .ok (.iconst 0, 1) := by decide +kernel
theorem dX11_aboveOf_47 : decode cX11_aboveOf 47 = .ok (.iload_n 3, 1) := by decide +kernel
theorem dX11_aboveOf_48 : decode cX11_aboveOf 48 = .ok (.invokevirtual 124, 3) := by decide +kernel
theorem dX11_aboveOf_51 : decode cX11_aboveOf 51 = .ok (.invokestatic 156, 3) := by decide +kernel
theorem dX11_aboveOf_54 : decode cX11_aboveOf 54 = .ok (.istore 4, 2) := by decide +kernel
theorem dX11_aboveOf_56 : decode cX11_aboveOf 56 = .ok (.iload_n 1, 1) := by decide +kernel
theorem dX11_aboveOf_57 : decode cX11_aboveOf 57 = .ok (.iconst 1, 1) := by decide +kernel
theorem dX11_aboveOf_58 : decode cX11_aboveOf 58 = .ok (.iadd, 1) := by decide +kernel
theorem dX11_aboveOf_59 : decode cX11_aboveOf 59 = .ok (.istore 5, 2) := by decide +kernel
theorem dX11_aboveOf_61 : decode cX11_aboveOf 61 = .ok (.iload 5, 2) := by decide +kernel
theorem dX11_aboveOf_63 : decode cX11_aboveOf 63 = .ok (.iload_n 3, 1) := by decide +kernel
theorem dX11_aboveOf_64 : decode cX11_aboveOf 64 = .ok (.if_icmp .ge 51, 3) := by decide +kernel
theorem dX11_aboveOf_67 : decode cX11_aboveOf 67 = .ok (.iload 4, 2) := by decide +kernel
theorem dX11_aboveOf_69 : decode cX11_aboveOf 69 = .ok (.ifCond .ne 33, 3) := by decide +kernel
theorem dX11_aboveOf_72 : decode cX11_aboveOf 72 = .ok (.aload_n 0, 1) := by decide +kernel
theorem dX11_aboveOf_73 : decode cX11_aboveOf 73 = .ok (.getfield 22, 3) := by decide +kernel
theorem dX11_aboveOf_76 : decode cX11_aboveOf 76 = .ok (.iload 5, 2) := by decide +kernel
theorem dX11_aboveOf_78 : decode cX11_aboveOf 78 = .ok (.iaload, 1) := by decide +kernel
theorem dX11_aboveOf_79 : decode cX11_aboveOf 79 = .ok (.iconst 1, 1) := by decide +kernel
theorem dX11_aboveOf_80 : decode cX11_aboveOf 80 = .ok (.if_icmp .ne 26, 3) := by decide +kernel
theorem dX11_aboveOf_83 : decode cX11_aboveOf 83 = .ok (.aload_n 0, 1) := by decide +kernel
theorem dX11_aboveOf_84 : decode cX11_aboveOf 84 = .ok (.iconst 0, 1) := by decide +kernel
theorem dX11_aboveOf_85 : decode cX11_aboveOf 85 = .ok (.iload 5, 2) := by decide +kernel
theorem dX11_aboveOf_87 : decode cX11_aboveOf 87 = .ok (.invokevirtual 124, 3) := by decide +kernel
theorem dX11_aboveOf_90 : decode cX11_aboveOf 90 = .ok (.aload_n 0, 1) := by decide +kernel
theorem dX11_aboveOf_91 : decode cX11_aboveOf 91 = .ok (.iconst 0, 1) := by decide +kernel
theorem dX11_aboveOf_92 : decode cX11_aboveOf 92 = .ok (.iload_n 3, 1) := by decide +kernel
theorem dX11_aboveOf_93 : decode cX11_aboveOf 93 = .ok (.invokevirtual 124, 3) := by decide +kernel
theorem dX11_aboveOf_96 : decode cX11_aboveOf 96 = .ok (.invokestatic 156, 3) := by decide +kernel
theorem dX11_aboveOf_99 : decode cX11_aboveOf 99 = .ok (.ifCond .eq 7, 3) := by decide +kernel
theorem dX11_aboveOf_102 : decode cX11_aboveOf 102 = .ok (.iconst 1, 1) := by decide +kernel
theorem dX11_aboveOf_103 : decode cX11_aboveOf 103 = .ok (.goto 4, 3) := by decide +kernel
theorem dX11_aboveOf_106 : decode cX11_aboveOf 106 = .ok (.iconst 0, 1) := by decide +kernel
theorem dX11_aboveOf_107 : decode cX11_aboveOf 107 = .ok (.istore 4, 2) := by decide +kernel
theorem dX11_aboveOf_109 : decode cX11_aboveOf 109 = .ok (.iinc 5 1, 3) := by decide +kernel
theorem dX11_aboveOf_112 : decode cX11_aboveOf 112 = .ok (.goto (-51), 3) := by decide +kernel
theorem dX11_aboveOf_115 : decode cX11_aboveOf 115 = .ok (.aload_n 0, 1) := by decide +kernel
theorem dX11_aboveOf_116 : decode cX11_aboveOf 116 = .ok (.getfield 22, 3) := by decide +kernel
theorem dX11_aboveOf_119 : decode cX11_aboveOf 119 = .ok (.iload_n 3, 1) := by decide +kernel
theorem dX11_aboveOf_120 : decode cX11_aboveOf 120 = .ok (.iload 4, 2) := by decide +kernel
theorem dX11_aboveOf_122 : decode cX11_aboveOf 122 = .ok (.ifCond .eq 7, 3) := by decide +kernel
theorem dX11_aboveOf_125 : decode cX11_aboveOf 125 = .ok (.iconst 1, 1) := by decide +kernel
theorem dX11_aboveOf_126 : decode cX11_aboveOf 126 = .ok (.goto 4, 3) := by decide +kernel
theorem dX11_aboveOf_129 : decode cX11_aboveOf 129 = .ok (.iconst 0, 1) := by decide +kernel
theorem dX11_aboveOf_130 : decode cX11_aboveOf 130 = .ok (.iastore, 1) := by decide +kernel
theorem dX11_aboveOf_131 : decode cX11_aboveOf 131 = .ok (.iload_n 2, 1) := by decide +kernel
theorem dX11_aboveOf_132 : decode cX11_aboveOf 132 = .ok (.aload_n 0, 1) := by decide +kernel
theorem dX11_aboveOf_133 : decode cX11_aboveOf 133 = .ok (.getfield 22, 3) := by decide +kernel
theorem dX11_aboveOf_136 : decode cX11_aboveOf 136 = .ok (.iload_n 3, 1) := by decide +kernel
theorem dX11_aboveOf_137 : decode cX11_aboveOf 137 = .ok (.iaload, 1) := by decide +kernel
theorem dX11_aboveOf_138 : decode cX11_aboveOf 138 = .ok (.iadd, 1) := by decide +kernel
theorem dX11_aboveOf_139 : decode cX11_aboveOf 139 = .ok (.istore_n 2, 1) := by decide +kernel
theorem dX11_aboveOf_140 : decode cX11_aboveOf 140 = .ok (.iinc 3 1, 3) := by decide +kernel
theorem dX11_aboveOf_143 : decode cX11_aboveOf 143 = .ok (.goto (-113), 3) := by decide +kernel
theorem dX11_aboveOf_146 : decode cX11_aboveOf 146 = .ok (.iload_n 2, 1) := by decide +kernel
theorem dX11_aboveOf_147 : decode cX11_aboveOf 147 = .ok (.ireturn, 1) := by decide +kernel
theorem dX11_stretch_0 : decode cX11_stretch 0 = .ok (.iload_n 1, 1) := by decide +kernel
theorem dX11_stretch_1 : decode cX11_stretch 1 = .ok (.i2l, 1) := by decide +kernel
theorem dX11_stretch_2 : decode cX11_stretch 2 = .ok (.lconst 0, 1) := by decide +kernel
theorem dX11_stretch_3 : decode cX11_stretch 3 = .ok (.aload_n 0, 1) := by decide +kernel
theorem dX11_stretch_4 : decode cX11_stretch 4 = .ok (.iconst 0, 1) := by decide +kernel
theorem dX11_stretch_5 : decode cX11_stretch 5 = .ok (.invokevirtual 121, 3) := by decide +kernel
theorem dX11_stretch_8 : decode cX11_stretch 8 = .ok (.iconst 1, 1) := by decide +kernel
theorem dX11_stretch_9 : decode cX11_stretch 9 = .ok (.isub, 1) := by decide +kernel
theorem dX11_stretch_10 : decode cX11_stretch 10 = .ok (.i2l, 1) := by decide +kernel
theorem dX11_stretch_11 : decode cX11_stretch 11 = .ok (.invokestatic 49, 3) := by decide +kernel
theorem dX11_stretch_14 : decode cX11_stretch 14 = .ok (.ifCond .ne 5, 3) := by decide +kernel
theorem dX11_stretch_17 : decode cX11_stretch 17 = .ok (.iconst (-1), 1) := by decide +kernel
theorem dX11_stretch_18 : decode cX11_stretch 18 = .ok (.ireturn, 1) := by decide +kernel
theorem dX11_stretch_19 : decode cX11_stretch 19 = .ok (.aload_n 0, 1) := by decide +kernel
theorem dX11_stretch_20 : decode cX11_stretch 20 = .ok (.iconst 0, 1) := by decide +kernel
theorem dX11_stretch_21 : decode cX11_stretch 21 = .ok (.iload_n 1, 1) := by decide +kernel
theorem dX11_stretch_22 : decode cX11_stretch 22 = .ok (.invokevirtual 124, 3) := by decide +kernel
theorem dX11_stretch_25 : decode cX11_stretch 25 = .ok (.istore_n 3, 1) := by decide +kernel
theorem dX11_stretch_26 : decode cX11_stretch 26 = .ok (.iload_n 2, 1) := by decide +kernel
theorem dX11_stretch_27 : decode cX11_stretch 27 = .ok (.tableswitch 81 0 5 #[37, 42, 47, 52, 68, 75], 37) := by decide +kernel
theorem dX11_stretch_64 : decode cX11_stretch 64 = .ok (.iload_n 3, 1) := by decide +kernel
theorem dX11_stretch_65 : decode cX11_stretch 65 = .ok (.invokestatic 127, 3) := by decide +kernel
theorem dX11_stretch_68 : decode cX11_stretch 68 = .ok (.ireturn, 1) := by decide +kernel
theorem dX11_stretch_69 : decode cX11_stretch 69 = .ok (.iload_n 3, 1) := by decide +kernel
theorem dX11_stretch_70 : decode cX11_stretch 70 = .ok (.invokestatic 61, 3) := by decide +kernel
theorem dX11_stretch_73 : decode cX11_stretch 73 = .ok (.ireturn, 1) := by decide +kernel
theorem dX11_stretch_74 : decode cX11_stretch 74 = .ok (.iload_n 3, 1) := by decide +kernel
theorem dX11_stretch_75 : decode cX11_stretch 75 = .ok (.invokestatic 65, 3) := by decide +kernel
theorem dX11_stretch_78 : decode cX11_stretch 78 = .ok (.ireturn, 1) := by decide +kernel
theorem dX11_stretch_79 : decode cX11_stretch 79 = .ok (.aload_n 0, 1) := by decide +kernel
theorem dX11_stretch_80 : decode cX11_stretch 80 = .ok (.iconst 0, 1) := by decide +kernel
theorem dX11_stretch_81 : decode cX11_stretch 81 = .ok (.bipush (-9), 2) := by decide +kernel
theorem dX11_stretch_83 : decode cX11_stretch 83 = .ok (.iload_n 3, 1) := by decide +kernel
theorem dX11_stretch_84 : decode cX11_stretch 84 = .ok (.invokestatic 61, 3) := by decide +kernel
theorem dX11_stretch_87 : decode cX11_stretch 87 = .ok (.iload_n 3, 1) := by decide +kernel
theorem dX11_stretch_88 : decode cX11_stretch 88 = .ok (.invokestatic 65, 3) := by decide +kernel
theorem dX11_stretch_91 : decode cX11_stretch 91 = .ok (.invokevirtual 143, 3) := by decide +kernel
theorem dX11_stretch_94 : decode cX11_stretch 94 = .ok (.ireturn, 1) := by decide +kernel
theorem dX11_stretch_95 : decode cX11_stretch 95 = .ok (.aload_n 0, 1) := by decide +kernel
theorem dX11_stretch_96 : decode cX11_stretch 96 = .ok (.iconst 0, 1) := by decide +kernel
theorem dX11_stretch_97 : decode cX11_stretch 97 = .ok (.iload_n 1, 1) := by decide +kernel
theorem dX11_stretch_98 : decode cX11_stretch 98 = .ok (.invokevirtual 165, 3) := by decide +kernel
theorem dX11_stretch_101 : decode cX11_stretch 101 = .ok (.ireturn, 1) := by decide +kernel
theorem dX11_stretch_102 : decode cX11_stretch 102 = .ok (.aload_n 0, 1) := by decide +kernel
theorem dX11_stretch_103 : decode cX11_stretch 103 = .ok (.iload_n 1, 1) := by decide +kernel
theorem dX11_stretch_104 : decode cX11_stretch 104 = .ok (.invokevirtual 182, 3) := by decide +kernel
theorem dX11_stretch_107 : decode cX11_stretch 107 = .ok (.ireturn, 1) := by decide +kernel
theorem dX11_stretch_108 : decode cX11_stretch 108 = .ok (.bipush (-2), 2) := by decide +kernel
theorem dX11_stretch_110 : decode cX11_stretch 110 = .ok (.ireturn, 1) := by decide +kernel
theorem dX11_keepAct_0 : decode cX11_keepAct 0 = .ok (.iconst 0, 1) := by decide +kernel
theorem dX11_keepAct_1 : decode cX11_keepAct 1 = .ok (.istore_n 1, 1) := by decide +kernel
theorem dX11_keepAct_2 : decode cX11_keepAct 2 = .ok (.iload_n 1, 1) := by decide +kernel
theorem dX11_keepAct_3 : decode cX11_keepAct 3 = .ok (.bipush 53, 2) := by decide +kernel
theorem dX11_keepAct_5 : decode cX11_keepAct 5 = .ok (.if_icmp .ge 29, 3) := by decide +kernel
theorem dX11_keepAct_8 : decode cX11_keepAct 8 = .ok (.aload_n 0, 1) := by decide +kernel
theorem dX11_keepAct_9 : decode cX11_keepAct 9 = .ok (.getfield 25, 3) := by decide +kernel
theorem dX11_keepAct_12 : decode cX11_keepAct 12 = .ok (.bipush 53, 2) := by decide +kernel
theorem dX11_keepAct_14 : decode cX11_keepAct 14 = .ok (.aload_n 0, 1) := by decide +kernel
theorem dX11_keepAct_15 : decode cX11_keepAct 15 = .ok (.getfield 185, 3) := by decide +kernel
theorem dX11_keepAct_18 : decode cX11_keepAct 18 = .ok (.imul, 1) := by decide +kernel
theorem dX11_keepAct_19 : decode cX11_keepAct 19 = .ok (.iload_n 1, 1) := by decide +kernel
theorem dX11_keepAct_20 : decode cX11_keepAct 20 = .ok (.iadd, 1) := by decide +kernel
theorem dX11_keepAct_21 : decode cX11_keepAct 21 = .ok (.aload_n 0, 1) := by decide +kernel
theorem dX11_keepAct_22 : decode cX11_keepAct 22 = .ok (.getfield 13, 3) := by decide +kernel
theorem dX11_keepAct_25 : decode cX11_keepAct 25 = .ok (.iload_n 1, 1) := by decide +kernel
theorem dX11_keepAct_26 : decode cX11_keepAct 26 = .ok (.iaload, 1) := by decide +kernel
theorem dX11_keepAct_27 : decode cX11_keepAct 27 = .ok (.iastore, 1) := by decide +kernel
theorem dX11_keepAct_28 : decode cX11_keepAct 28 = .ok (.iinc 1 1, 3) := by decide +kernel
theorem dX11_keepAct_31 : decode cX11_keepAct 31 = .ok (.goto (-29), 3) := by decide +kernel
theorem dX11_keepAct_34 : decode cX11_keepAct 34 = .ok (.aload_n 0, 1) := by decide +kernel
theorem dX11_keepAct_35 : decode cX11_keepAct 35 = .ok (.aload_n 0, 1) := by decide +kernel
theorem dX11_keepAct_36 : decode cX11_keepAct 36 = .ok (.getfield 185, 3) := by decide +kernel
theorem dX11_keepAct_39 : decode cX11_keepAct 39 = .ok (.iconst 1, 1) := by decide +kernel
theorem dX11_keepAct_40 : decode cX11_keepAct 40 = .ok (.iadd, 1) := by decide +kernel
theorem dX11_keepAct_41 : decode cX11_keepAct 41 = .ok (.bipush 14, 2) := by decide +kernel
theorem dX11_keepAct_43 : decode cX11_keepAct 43 = .ok (.irem, 1) := by decide +kernel
theorem dX11_keepAct_44 : decode cX11_keepAct 44 = .ok (.putfield 185, 3) := by decide +kernel
theorem dX11_keepAct_47 : decode cX11_keepAct 47 = .ok (.aload_n 0, 1) := by decide +kernel
theorem dX11_keepAct_48 : decode cX11_keepAct 48 = .ok (.aload_n 0, 1) := by decide +kernel
theorem dX11_keepAct_49 : decode cX11_keepAct 49 = .ok (.getfield 118, 3) := by decide +kernel
theorem dX11_keepAct_52 : decode cX11_keepAct 52 = .ok (.bipush 14, 2) := by decide +kernel
theorem dX11_keepAct_54 : decode cX11_keepAct 54 = .ok (.if_icmp .ge 12, 3) := by decide +kernel
theorem dX11_keepAct_57 : decode cX11_keepAct 57 = .ok (.aload_n 0, 1) := by decide +kernel
theorem dX11_keepAct_58 : decode cX11_keepAct 58 = .ok (.getfield 118, 3) := by decide +kernel
theorem dX11_keepAct_61 : decode cX11_keepAct 61 = .ok (.iconst 1, 1) := by decide +kernel
theorem dX11_keepAct_62 : decode cX11_keepAct 62 = .ok (.iadd, 1) := by decide +kernel
theorem dX11_keepAct_63 : decode cX11_keepAct 63 = .ok (.goto 5, 3) := by decide +kernel
theorem dX11_keepAct_66 : decode cX11_keepAct 66 = .ok (.bipush 14, 2) := by decide +kernel
theorem dX11_keepAct_68 : decode cX11_keepAct 68 = .ok (.putfield 118, 3) := by decide +kernel
theorem dX11_keepAct_71 : decode cX11_keepAct 71 = .ok (.return_, 1) := by decide +kernel
theorem dX11_wind_0 : decode cX11_wind 0 = .ok (.aload_n 0, 1) := by decide +kernel
theorem dX11_wind_1 : decode cX11_wind 1 = .ok (.iload_n 1, 1) := by decide +kernel
theorem dX11_wind_2 : decode cX11_wind 2 = .ok (.invokevirtual 159, 3) := by decide +kernel
theorem dX11_wind_5 : decode cX11_wind 5 = .ok (.ifCond .eq 10, 3) := by decide +kernel
theorem dX11_wind_8 : decode cX11_wind 8 = .ok (.iload_n 2, 1) := by decide +kernel
theorem dX11_wind_9 : decode cX11_wind 9 = .ok (.invokestatic 133, 3) := by decide +kernel
theorem dX11_wind_12 : decode cX11_wind 12 = .ok (.ifCond .ne 5, 3) := by decide +kernel
theorem dX11_wind_15 : decode cX11_wind 15 = .ok (.iconst (-1), 1) := by decide +kernel
theorem dX11_wind_16 : decode cX11_wind 16 = .ok (.ireturn, 1) := by decide +kernel
theorem dX11_wind_17 : decode cX11_wind 17 = .ok (.aload_n 0, 1) := by decide +kernel
theorem dX11_wind_18 : decode cX11_wind 18 = .ok (.iconst 0, 1) := by decide +kernel
theorem dX11_wind_19 : decode cX11_wind 19 = .ok (.iload_n 1, 1) := by decide +kernel
theorem dX11_wind_20 : decode cX11_wind 20 = .ok (.iload_n 2, 1) := by decide +kernel
theorem dX11_wind_21 : decode cX11_wind 21 = .ok (.invokevirtual 105, 3) := by decide +kernel
theorem dX11_wind_24 : decode cX11_wind 24 = .ok (.ifCond .ne 6, 3) := by decide +kernel
theorem dX11_wind_27 : decode cX11_wind 27 = .ok (.bipush (-3), 2) := by decide +kernel
theorem dX11_wind_29 : decode cX11_wind 29 = .ok (.ireturn, 1) := by decide +kernel
theorem dX11_wind_30 : decode cX11_wind 30 = .ok (.aload_n 0, 1) := by decide +kernel
theorem dX11_wind_31 : decode cX11_wind 31 = .ok (.invokevirtual 188, 3) := by decide +kernel
theorem dX11_wind_34 : decode cX11_wind 34 = .ok (.aload_n 0, 1) := by decide +kernel
theorem dX11_wind_35 : decode cX11_wind 35 = .ok (.iconst 0, 1) := by decide +kernel
theorem dX11_wind_36 : decode cX11_wind 36 = .ok (.iload_n 1, 1) := by decide +kernel
theorem dX11_wind_37 : decode cX11_wind 37 = .ok (.iload_n 2, 1) := by decide +kernel
theorem dX11_wind_38 : decode cX11_wind 38 = .ok (.invokevirtual 108, 3) := by decide +kernel
theorem dX11_wind_41 : decode cX11_wind 41 = .ok (.ireturn, 1) := by decide +kernel
theorem dX11_unwind_0 : decode cX11_unwind 0 = .ok (.aload_n 0, 1) := by decide +kernel
theorem dX11_unwind_1 : decode cX11_unwind 1 = .ok (.iload_n 1, 1) := by decide +kernel
theorem dX11_unwind_2 : decode cX11_unwind 2 = .ok (.invokevirtual 159, 3) := by decide +kernel
theorem dX11_unwind_5 : decode cX11_unwind 5 = .ok (.ifCond .ne 5, 3) := by decide +kernel
theorem dX11_unwind_8 : decode cX11_unwind 8 = .ok (.iconst (-1), 1) := by decide +kernel
theorem dX11_unwind_9 : decode cX11_unwind 9 = .ok (.ireturn, 1) := by decide +kernel
theorem dX11_unwind_10 : decode cX11_unwind 10 = .ok (.aload_n 0, 1) := by decide +kernel
theorem dX11_unwind_11 : decode cX11_unwind 11 = .ok (.iconst 0, 1) := by decide +kernel
theorem dX11_unwind_12 : decode cX11_unwind 12 = .ok (.iload_n 1, 1) := by decide +kernel
theorem dX11_unwind_13 : decode cX11_unwind 13 = .ok (.invokevirtual 179, 3) := by decide +kernel
theorem dX11_unwind_16 : decode cX11_unwind 16 = .ok (.ifCond .ne 6, 3) := by decide +kernel
theorem dX11_unwind_19 : decode cX11_unwind 19 = .ok (.bipush (-3), 2) := by decide +kernel
theorem dX11_unwind_21 : decode cX11_unwind 21 = .ok (.ireturn, 1) := by decide +kernel
theorem dX11_unwind_22 : decode cX11_unwind 22 = .ok (.aload_n 0, 1) := by decide +kernel
theorem dX11_unwind_23 : decode cX11_unwind 23 = .ok (.invokevirtual 188, 3) := by decide +kernel
theorem dX11_unwind_26 : decode cX11_unwind 26 = .ok (.aload_n 0, 1) := by decide +kernel
theorem dX11_unwind_27 : decode cX11_unwind 27 = .ok (.iconst 0, 1) := by decide +kernel
theorem dX11_unwind_28 : decode cX11_unwind 28 = .ok (.iload_n 1, 1) := by decide +kernel
theorem dX11_unwind_29 : decode cX11_unwind 29 = .ok (.invokevirtual 191, 3) := by decide +kernel
theorem dX11_unwind_32 : decode cX11_unwind 32 = .ok (.aload_n 0, 1) := by decide +kernel
theorem dX11_unwind_33 : decode cX11_unwind 33 = .ok (.getfield 13, 3) := by decide +kernel
theorem dX11_unwind_36 : decode cX11_unwind 36 = .ok (.iload_n 1, 1) := by decide +kernel
theorem dX11_unwind_37 : decode cX11_unwind 37 = .ok (.iaload, 1) := by decide +kernel
theorem dX11_unwind_38 : decode cX11_unwind 38 = .ok (.ireturn, 1) := by decide +kernel
theorem dX11_cut_0 : decode cX11_cut 0 = .ok (.aload_n 0, 1) := by decide +kernel
theorem dX11_cut_1 : decode cX11_cut 1 = .ok (.iload_n 1, 1) := by decide +kernel
theorem dX11_cut_2 : decode cX11_cut 2 = .ok (.invokevirtual 159, 3) := by decide +kernel
theorem dX11_cut_5 : decode cX11_cut 5 = .ok (.ifCond .ne 5, 3) := by decide +kernel
theorem dX11_cut_8 : decode cX11_cut 8 = .ok (.iconst (-1), 1) := by decide +kernel
theorem dX11_cut_9 : decode cX11_cut 9 = .ok (.ireturn, 1) := by decide +kernel
theorem dX11_cut_10 : decode cX11_cut 10 = .ok (.aload_n 0, 1) := by decide +kernel
theorem dX11_cut_11 : decode cX11_cut 11 = .ok (.iconst 0, 1) := by decide +kernel
theorem dX11_cut_12 : decode cX11_cut 12 = .ok (.iload_n 1, 1) := by decide +kernel
theorem dX11_cut_13 : decode cX11_cut 13 = .ok (.invokevirtual 137, 3) := by decide +kernel
theorem dX11_cut_16 : decode cX11_cut 16 = .ok (.ifCond .ne 6, 3) := by decide +kernel
theorem dX11_cut_19 : decode cX11_cut 19 = .ok (.bipush (-3), 2) := by decide +kernel
theorem dX11_cut_21 : decode cX11_cut 21 = .ok (.ireturn, 1) := by decide +kernel
theorem dX11_cut_22 : decode cX11_cut 22 = .ok (.aload_n 0, 1) := by decide +kernel
theorem dX11_cut_23 : decode cX11_cut 23 = .ok (.invokevirtual 188, 3) := by decide +kernel
theorem dX11_cut_26 : decode cX11_cut 26 = .ok (.aload_n 0, 1) := by decide +kernel
theorem dX11_cut_27 : decode cX11_cut 27 = .ok (.iconst 0, 1) := by decide +kernel
theorem dX11_cut_28 : decode cX11_cut 28 = .ok (.iload_n 1, 1) := by decide +kernel
theorem dX11_cut_29 : decode cX11_cut 29 = .ok (.invokevirtual 194, 3) := by decide +kernel
theorem dX11_cut_32 : decode cX11_cut 32 = .ok (.ireturn, 1) := by decide +kernel
theorem dX11_turn_0 : decode cX11_turn 0 = .ok (.aload_n 0, 1) := by decide +kernel
theorem dX11_turn_1 : decode cX11_turn 1 = .ok (.invokevirtual 188, 3) := by decide +kernel
theorem dX11_turn_4 : decode cX11_turn 4 = .ok (.aload_n 0, 1) := by decide +kernel
theorem dX11_turn_5 : decode cX11_turn 5 = .ok (.iconst 0, 1) := by decide +kernel
theorem dX11_turn_6 : decode cX11_turn 6 = .ok (.iconst 0, 1) := by decide +kernel
theorem dX11_turn_7 : decode cX11_turn 7 = .ok (.invokevirtual 197, 3) := by decide +kernel
theorem dX11_turn_10 : decode cX11_turn 10 = .ok (.aload_n 0, 1) := by decide +kernel
theorem dX11_turn_11 : decode cX11_turn 11 = .ok (.iconst 0, 1) := by decide +kernel
theorem dX11_turn_12 : decode cX11_turn 12 = .ok (.invokevirtual 121, 3) := by decide +kernel
theorem dX11_turn_15 : decode cX11_turn 15 = .ok (.ireturn, 1) := by decide +kernel
theorem dX11_behind_0 : decode cX11_behind 0 = .ok (.aload_n 0, 1) := by decide +kernel
theorem dX11_behind_1 : decode cX11_behind 1 = .ok (.invokevirtual 188, 3) := by decide +kernel
theorem dX11_behind_4 : decode cX11_behind 4 = .ok (.aload_n 0, 1) := by decide +kernel
theorem dX11_behind_5 : decode cX11_behind 5 = .ok (.iconst 0, 1) := by decide +kernel
theorem dX11_behind_6 : decode cX11_behind 6 = .ok (.iconst 1, 1) := by decide +kernel
theorem dX11_behind_7 : decode cX11_behind 7 = .ok (.invokevirtual 197, 3) := by decide +kernel
theorem dX11_behind_10 : decode cX11_behind 10 = .ok (.aload_n 0, 1) := by decide +kernel
theorem dX11_behind_11 : decode cX11_behind 11 = .ok (.iconst 0, 1) := by decide +kernel
theorem dX11_behind_12 : decode cX11_behind 12 = .ok (.invokevirtual 121, 3) := by decide +kernel
theorem dX11_behind_15 : decode cX11_behind 15 = .ok (.ireturn, 1) := by decide +kernel
theorem dX11_undo_0 : decode cX11_undo 0 = .ok (.aload_n 0, 1) := by decide +kernel
theorem dX11_undo_1 : decode cX11_undo 1 = .ok (.getfield 118, 3) := by decide +kernel
theorem dX11_undo_4 : decode cX11_undo 4 = .ok (.ifCond .ne 6, 3) := by decide +kernel
theorem dX11_undo_7 : decode cX11_undo 7 = .ok (.bipush (-3), 2) := by decide +kernel
theorem dX11_undo_9 : decode cX11_undo 9 = .ok (.ireturn, 1) := by decide +kernel
theorem dX11_undo_10 : decode cX11_undo 10 = .ok (.aload_n 0, 1) := by decide +kernel
theorem dX11_undo_11 : decode cX11_undo 11 = .ok (.dup, 1) := by decide +kernel
theorem dX11_undo_12 : decode cX11_undo 12 = .ok (.getfield 118, 3) := by decide +kernel
theorem dX11_undo_15 : decode cX11_undo 15 = .ok (.iconst 1, 1) := by decide +kernel
theorem dX11_undo_16 : decode cX11_undo 16 = .ok (.isub, 1) := by decide +kernel
theorem dX11_undo_17 : decode cX11_undo 17 = .ok (.putfield 118, 3) := by decide +kernel
theorem dX11_undo_20 : decode cX11_undo 20 = .ok (.aload_n 0, 1) := by decide +kernel
theorem dX11_undo_21 : decode cX11_undo 21 = .ok (.aload_n 0, 1) := by decide +kernel
theorem dX11_undo_22 : decode cX11_undo 22 = .ok (.getfield 185, 3) := by decide +kernel
theorem dX11_undo_25 : decode cX11_undo 25 = .ok (.bipush 13, 2) := by decide +kernel
theorem dX11_undo_27 : decode cX11_undo 27 = .ok (.iadd, 1) := by decide +kernel
theorem dX11_undo_28 : decode cX11_undo 28 = .ok (.bipush 14, 2) := by decide +kernel
theorem dX11_undo_30 : decode cX11_undo 30 = .ok (.irem, 1) := by decide +kernel
theorem dX11_undo_31 : decode cX11_undo 31 = .ok (.putfield 185, 3) := by decide +kernel
theorem dX11_undo_34 : decode cX11_undo 34 = .ok (.iconst 0, 1) := by decide +kernel
theorem dX11_undo_35 : decode cX11_undo 35 = .ok (.istore_n 1, 1) := by decide +kernel
theorem dX11_undo_36 : decode cX11_undo 36 = .ok (.iload_n 1, 1) := by decide +kernel
theorem dX11_undo_37 : decode cX11_undo 37 = .ok (.bipush 53, 2) := by decide +kernel
theorem dX11_undo_39 : decode cX11_undo 39 = .ok (.if_icmp .ge 29, 3) := by decide +kernel
theorem dX11_undo_42 : decode cX11_undo 42 = .ok (.aload_n 0, 1) := by decide +kernel
theorem dX11_undo_43 : decode cX11_undo 43 = .ok (.getfield 13, 3) := by decide +kernel
theorem dX11_undo_46 : decode cX11_undo 46 = .ok (.iload_n 1, 1) := by decide +kernel
theorem dX11_undo_47 : decode cX11_undo 47 = .ok (.aload_n 0, 1) := by decide +kernel
theorem dX11_undo_48 : decode cX11_undo 48 = .ok (.getfield 25, 3) := by decide +kernel
theorem dX11_undo_51 : decode cX11_undo 51 = .ok (.bipush 53, 2) := by decide +kernel
theorem dX11_undo_53 : decode cX11_undo 53 = .ok (.aload_n 0, 1) := by decide +kernel
theorem dX11_undo_54 : decode cX11_undo 54 = .ok (.getfield 185, 3) := by decide +kernel
theorem dX11_undo_57 : decode cX11_undo 57 = .ok (.imul, 1) := by decide +kernel
theorem dX11_undo_58 : decode cX11_undo 58 = .ok (.iload_n 1, 1) := by decide +kernel
theorem dX11_undo_59 : decode cX11_undo 59 = .ok (.iadd, 1) := by decide +kernel
theorem dX11_undo_60 : decode cX11_undo 60 = .ok (.iaload, 1) := by decide +kernel
theorem dX11_undo_61 : decode cX11_undo 61 = .ok (.iastore, 1) := by decide +kernel
theorem dX11_undo_62 : decode cX11_undo 62 = .ok (.iinc 1 1, 3) := by decide +kernel
theorem dX11_undo_65 : decode cX11_undo 65 = .ok (.goto (-29), 3) := by decide +kernel
theorem dX11_undo_68 : decode cX11_undo 68 = .ok (.aload_n 0, 1) := by decide +kernel
theorem dX11_undo_69 : decode cX11_undo 69 = .ok (.getfield 118, 3) := by decide +kernel
theorem dX11_undo_72 : decode cX11_undo 72 = .ok (.ireturn, 1) := by decide +kernel
theorem dX11_layTrial_0 : decode cX11_layTrial 0 = .ok (.iconst 0, 1) := by decide +kernel
theorem dX11_layTrial_1 : decode cX11_layTrial 1 = .ok (.istore_n 1, 1) := by decide +kernel
theorem dX11_layTrial_2 : decode cX11_layTrial 2 = .ok (.iload_n 1, 1) := by decide +kernel
theorem dX11_layTrial_3 : decode cX11_layTrial 3 = .ok (.bipush 53, 2) := by decide +kernel
theorem dX11_layTrial_5 : decode cX11_layTrial 5 = .ok (.if_icmp .ge 24, 3) := by decide +kernel
theorem dX11_layTrial_8 : decode cX11_layTrial 8 = .ok (.aload_n 0, 1) := by decide +kernel
theorem dX11_layTrial_9 : decode cX11_layTrial 9 = .ok (.getfield 13, 3) := by decide +kernel
theorem dX11_layTrial_12 : decode cX11_layTrial 12 = .ok (.bipush 53, 2) := by decide +kernel
theorem dX11_layTrial_14 : decode cX11_layTrial 14 = .ok (.iload_n 1, 1) := by decide +kernel
theorem dX11_layTrial_15 : decode cX11_layTrial 15 = .ok (.iadd, 1) := by decide +kernel
theorem dX11_layTrial_16 : decode cX11_layTrial 16 = .ok (.aload_n 0, 1) := by decide +kernel
theorem dX11_layTrial_17 : decode cX11_layTrial 17 = .ok (.getfield 13, 3) := by decide +kernel
theorem dX11_layTrial_20 : decode cX11_layTrial 20 = .ok (.iload_n 1, 1) := by decide +kernel
theorem dX11_layTrial_21 : decode cX11_layTrial 21 = .ok (.iaload, 1) := by decide +kernel
theorem dX11_layTrial_22 : decode cX11_layTrial 22 = .ok (.iastore, 1) := by decide +kernel
theorem dX11_layTrial_23 : decode cX11_layTrial 23 = .ok (.iinc 1 1, 3) := by decide +kernel
theorem dX11_layTrial_26 : decode cX11_layTrial 26 = .ok (.goto (-24), 3) := by decide +kernel
theorem dX11_layTrial_29 : decode cX11_layTrial 29 = .ok (.return_, 1) := by decide +kernel
theorem dX11_crossesOf_0 : decode cX11_crossesOf 0 = .ok (.iconst 0, 1) := by decide +kernel
theorem dX11_crossesOf_1 : decode cX11_crossesOf 1 = .ok (.istore_n 3, 1) := by decide +kernel
theorem dX11_crossesOf_2 : decode cX11_crossesOf 2 = .ok (.iconst 0, 1) := by decide +kernel
theorem dX11_crossesOf_3 : decode cX11_crossesOf 3 = .ok (.istore 4, 2) := by decide +kernel
theorem dX11_crossesOf_5 : decode cX11_crossesOf 5 = .ok (.iload 4, 2) := by decide +kernel
theorem dX11_crossesOf_7 : decode cX11_crossesOf 7 = .ok (.aload_n 0, 1) := by decide +kernel
theorem dX11_crossesOf_8 : decode cX11_crossesOf 8 = .ok (.iload_n 1, 1) := by decide +kernel
theorem dX11_crossesOf_9 : decode cX11_crossesOf 9 = .ok (.invokevirtual 121, 3) := by decide +kernel
theorem dX11_crossesOf_12 : decode cX11_crossesOf 12 = .ok (.if_icmp .ge 105, 3) := by decide +kernel
theorem dX11_crossesOf_15 : decode cX11_crossesOf 15 = .ok (.iload 4, 2) := by decide +kernel
theorem dX11_crossesOf_17 : decode cX11_crossesOf 17 = .ok (.iconst 1, 1) := by decide +kernel
theorem dX11_crossesOf_18 : decode cX11_crossesOf 18 = .ok (.iadd, 1) := by decide +kernel
theorem dX11_crossesOf_19 : decode cX11_crossesOf 19 = .ok (.istore 5, 2) := by decide +kernel
theorem dX11_crossesOf_21 : decode cX11_crossesOf 21 = .ok (.iload 5, 2) := by decide +kernel
theorem dX11_crossesOf_23 : decode cX11_crossesOf 23 = .ok (.aload_n 0, 1) := by decide +kernel
theorem dX11_crossesOf_24 : decode cX11_crossesOf 24 = .ok (.iload_n 1, 1) := by decide +kernel
theorem dX11_crossesOf_25 : decode cX11_crossesOf 25 = .ok (.invokevirtual 121, 3) := by decide +kernel
theorem dX11_crossesOf_28 : decode cX11_crossesOf 28 = .ok (.if_icmp .ge 83, 3) := by decide +kernel
theorem dX11_crossesOf_31 : decode cX11_crossesOf 31 = .ok (.iload_n 2, 1) := by decide +kernel
theorem dX11_crossesOf_32 : decode cX11_crossesOf 32 = .ok (.aload_n 0, 1) := by decide +kernel
theorem dX11_crossesOf_33 : decode cX11_crossesOf 33 = .ok (.iload_n 1, 1) := by decide +kernel
theorem dX11_crossesOf_34 : decode cX11_crossesOf 34 = .ok (.iload 4, 2) := by decide +kernel
theorem dX11_crossesOf_36 : decode cX11_crossesOf 36 = .ok (.invokevirtual 124, 3) := by decide +kernel
theorem dX11_crossesOf_39 : decode cX11_crossesOf 39 = .ok (.invokestatic 127, 3) := by decide +kernel
theorem dX11_crossesOf_42 : decode cX11_crossesOf 42 = .ok (.invokestatic 201, 3) := by decide +kernel
theorem dX11_crossesOf_45 : decode cX11_crossesOf 45 = .ok (.ifCond .eq 24, 3) := by decide +kernel
theorem dX11_crossesOf_48 : decode cX11_crossesOf 48 = .ok (.iload_n 2, 1) := by decide +kernel
theorem dX11_crossesOf_49 : decode cX11_crossesOf 49 = .ok (.aload_n 0, 1) := by decide +kernel
theorem dX11_crossesOf_50 : decode cX11_crossesOf 50 = .ok (.iload_n 1, 1) := by decide +kernel
theorem dX11_crossesOf_51 : decode cX11_crossesOf 51 = .ok (.iload 5, 2) := by decide +kernel
theorem dX11_crossesOf_53 : decode cX11_crossesOf 53 = .ok (.invokevirtual 124, 3) := by decide +kernel
theorem dX11_crossesOf_56 : decode cX11_crossesOf 56 = .ok (.invokestatic 127, 3) := by decide +kernel
theorem dX11_crossesOf_59 : decode cX11_crossesOf 59 = .ok (.invokestatic 201, 3) := by decide +kernel
theorem dX11_crossesOf_62 : decode cX11_crossesOf 62 = .ok (.ifCond .eq 7, 3) := by decide +kernel
theorem dX11_crossesOf_65 : decode cX11_crossesOf 65 = .ok (.iconst 1, 1) := by decide +kernel
theorem dX11_crossesOf_66 : decode cX11_crossesOf 66 = .ok (.goto 4, 3) := by decide +kernel
theorem dX11_crossesOf_69 : decode cX11_crossesOf 69 = .ok (.iconst 0, 1) := by decide +kernel
theorem dX11_crossesOf_70 : decode cX11_crossesOf 70 = .ok (.istore 6, 2) := by decide +kernel
theorem dX11_crossesOf_72 : decode cX11_crossesOf 72 = .ok (.iload_n 3, 1) := by decide +kernel
theorem dX11_crossesOf_73 : decode cX11_crossesOf 73 = .ok (.iload 6, 2) := by decide +kernel
theorem dX11_crossesOf_75 : decode cX11_crossesOf 75 = .ok (.ifCond .eq 27, 3) := by decide +kernel
theorem dX11_crossesOf_78 : decode cX11_crossesOf 78 = .ok (.aload_n 0, 1) := by decide +kernel
theorem dX11_crossesOf_79 : decode cX11_crossesOf 79 = .ok (.iload_n 1, 1) := by decide +kernel
theorem dX11_crossesOf_80 : decode cX11_crossesOf 80 = .ok (.iload 4, 2) := by decide +kernel
theorem dX11_crossesOf_82 : decode cX11_crossesOf 82 = .ok (.invokevirtual 124, 3) := by decide +kernel
theorem dX11_crossesOf_85 : decode cX11_crossesOf 85 = .ok (.aload_n 0, 1) := by decide +kernel
theorem dX11_crossesOf_86 : decode cX11_crossesOf 86 = .ok (.iload_n 1, 1) := by decide +kernel
theorem dX11_crossesOf_87 : decode cX11_crossesOf 87 = .ok (.iload 5, 2) := by decide +kernel
theorem dX11_crossesOf_89 : decode cX11_crossesOf 89 = .ok (.invokevirtual 124, 3) := by decide +kernel
theorem dX11_crossesOf_92 : decode cX11_crossesOf 92 = .ok (.invokestatic 156, 3) := by decide +kernel
theorem dX11_crossesOf_95 : decode cX11_crossesOf 95 = .ok (.ifCond .eq 7, 3) := by decide +kernel
theorem dX11_crossesOf_98 : decode cX11_crossesOf 98 = .ok (.iconst 1, 1) := by decide +kernel
theorem dX11_crossesOf_99 : decode cX11_crossesOf 99 = .ok (.goto 4, 3) := by decide +kernel
theorem dX11_crossesOf_102 : decode cX11_crossesOf 102 = .ok (.iconst 0, 1) := by decide +kernel
theorem dX11_crossesOf_103 : decode cX11_crossesOf 103 = .ok (.iadd, 1) := by decide +kernel
theorem dX11_crossesOf_104 : decode cX11_crossesOf 104 = .ok (.istore_n 3, 1) := by decide +kernel
theorem dX11_crossesOf_105 : decode cX11_crossesOf 105 = .ok (.iinc 5 1, 3) := by decide +kernel
theorem dX11_crossesOf_108 : decode cX11_crossesOf 108 = .ok (.goto (-87), 3) := by decide +kernel
theorem dX11_crossesOf_111 : decode cX11_crossesOf 111 = .ok (.iinc 4 1, 3) := by decide +kernel
theorem dX11_crossesOf_114 : decode cX11_crossesOf 114 = .ok (.goto (-109), 3) := by decide +kernel
theorem dX11_crossesOf_117 : decode cX11_crossesOf 117 = .ok (.iload_n 3, 1) := by decide +kernel
theorem dX11_crossesOf_118 : decode cX11_crossesOf 118 = .ok (.ireturn, 1) := by decide +kernel
theorem dX11_crossesOfTwo_0 : decode cX11_crossesOfTwo 0 = .ok (.aload_n 0, 1) := by decide +kernel
theorem dX11_crossesOfTwo_1 : decode cX11_crossesOfTwo 1 = .ok (.iload_n 1, 1) := by decide +kernel
theorem dX11_crossesOfTwo_2 : decode cX11_crossesOfTwo 2 = .ok (.iconst 1, 1) := by decide +kernel
theorem dX11_crossesOfTwo_3 : decode cX11_crossesOfTwo 3 = .ok (.iload_n 2, 1) := by decide +kernel
theorem dX11_crossesOfTwo_4 : decode cX11_crossesOfTwo 4 = .ok (.ishl, 1) := by decide +kernel
theorem dX11_crossesOfTwo_5 : decode cX11_crossesOfTwo 5 = .ok (.iconst 1, 1) := by decide +kernel
theorem dX11_crossesOfTwo_6 : decode cX11_crossesOfTwo 6 = .ok (.iload_n 3, 1) := by decide +kernel
theorem dX11_crossesOfTwo_7 : decode cX11_crossesOfTwo 7 = .ok (.ishl, 1) := by decide +kernel
theorem dX11_crossesOfTwo_8 : decode cX11_crossesOfTwo 8 = .ok (.ior, 1) := by decide +kernel
theorem dX11_crossesOfTwo_9 : decode cX11_crossesOfTwo 9 = .ok (.invokevirtual 204, 3) := by decide +kernel
theorem dX11_crossesOfTwo_12 : decode cX11_crossesOfTwo 12 = .ok (.istore 4, 2) := by decide +kernel
theorem dX11_crossesOfTwo_14 : decode cX11_crossesOfTwo 14 = .ok (.iload_n 2, 1) := by decide +kernel
theorem dX11_crossesOfTwo_15 : decode cX11_crossesOfTwo 15 = .ok (.iload_n 3, 1) := by decide +kernel
theorem dX11_crossesOfTwo_16 : decode cX11_crossesOfTwo 16 = .ok (.if_icmp .ne 8, 3) := by decide +kernel
theorem dX11_crossesOfTwo_19 : decode cX11_crossesOfTwo 19 = .ok (.iload 4, 2) := by decide +kernel
theorem dX11_crossesOfTwo_21 : decode cX11_crossesOfTwo 21 = .ok (.goto 23, 3) := by decide +kernel
theorem dX11_crossesOfTwo_24 : decode cX11_crossesOfTwo 24 = .ok (.iload 4, 2) := by decide +kernel
theorem dX11_crossesOfTwo_26 : decode cX11_crossesOfTwo 26 = .ok (.aload_n 0, 1) := by decide +kernel
theorem dX11_crossesOfTwo_27 : decode cX11_crossesOfTwo 27 = .ok (.iload_n 1, 1) := by decide +kernel
theorem dX11_crossesOfTwo_28 : decode cX11_crossesOfTwo 28 = .ok (.iconst 1, 1) := by decide +kernel
theorem dX11_crossesOfTwo_29 : decode cX11_crossesOfTwo 29 = .ok (.iload_n 2, 1) := by decide +kernel
theorem dX11_crossesOfTwo_30 : decode cX11_crossesOfTwo 30 = .ok (.ishl, 1) := by decide +kernel
theorem dX11_crossesOfTwo_31 : decode cX11_crossesOfTwo 31 = .ok (.invokevirtual 204, 3) := by decide +kernel
theorem dX11_crossesOfTwo_34 : decode cX11_crossesOfTwo 34 = .ok (.isub, 1) := by decide +kernel
theorem dX11_crossesOfTwo_35 : decode cX11_crossesOfTwo 35 = .ok (.aload_n 0, 1) := by decide +kernel
theorem dX11_crossesOfTwo_36 : decode cX11_crossesOfTwo 36 = .ok (.iload_n 1, 1) := by decide +kernel
theorem dX11_crossesOfTwo_37 : decode cX11_crossesOfTwo 37 = .ok (.iconst 1, 1) := by decide +kernel
theorem dX11_crossesOfTwo_38 : decode cX11_crossesOfTwo 38 = .ok (.iload_n 3, 1) := by decide +kernel
theorem dX11_crossesOfTwo_39 : decode cX11_crossesOfTwo 39 = .ok (.ishl, 1) := by decide +kernel
theorem dX11_crossesOfTwo_40 : decode cX11_crossesOfTwo 40 = .ok (.invokevirtual 204, 3) := by decide +kernel
theorem dX11_crossesOfTwo_43 : decode cX11_crossesOfTwo 43 = .ok (.isub, 1) := by decide +kernel
theorem dX11_crossesOfTwo_44 : decode cX11_crossesOfTwo 44 = .ok (.ireturn, 1) := by decide +kernel
theorem dX11_crossings_0 : decode cX11_crossings 0 = .ok (.aload_n 0, 1) := by decide +kernel
theorem dX11_crossings_1 : decode cX11_crossings 1 = .ok (.iload_n 1, 1) := by decide +kernel
theorem dX11_crossings_2 : decode cX11_crossings 2 = .ok (.invokevirtual 159, 3) := by decide +kernel
theorem dX11_crossings_5 : decode cX11_crossings 5 = .ok (.ifCond .eq 21, 3) := by decide +kernel
theorem dX11_crossings_8 : decode cX11_crossings 8 = .ok (.aload_n 0, 1) := by decide +kernel
theorem dX11_crossings_9 : decode cX11_crossings 9 = .ok (.iload_n 2, 1) := by decide +kernel
theorem dX11_crossings_10 : decode cX11_crossings 10 = .ok (.invokevirtual 159, 3) := by decide +kernel
theorem dX11_crossings_13 : decode cX11_crossings 13 = .ok (.ifCond .eq 13, 3) := by decide +kernel
theorem dX11_crossings_16 : decode cX11_crossings 16 = .ok (.aload_n 0, 1) := by decide +kernel
theorem dX11_crossings_17 : decode cX11_crossings 17 = .ok (.iconst 0, 1) := by decide +kernel
theorem dX11_crossings_18 : decode cX11_crossings 18 = .ok (.iload_n 1, 1) := by decide +kernel
theorem dX11_crossings_19 : decode cX11_crossings 19 = .ok (.iload_n 2, 1) := by decide +kernel
theorem dX11_crossings_20 : decode cX11_crossings 20 = .ok (.invokevirtual 207, 3) := by decide +kernel
theorem dX11_crossings_23 : decode cX11_crossings 23 = .ok (.goto 4, 3) := by decide +kernel
theorem dX11_crossings_26 : decode cX11_crossings 26 = .ok (.iconst (-1), 1) := by decide +kernel
theorem dX11_crossings_27 : decode cX11_crossings 27 = .ok (.ireturn, 1) := by decide +kernel
theorem dX11_findLines_0 : decode cX11_findLines 0 = .ok (.iconst 0, 1) := by decide +kernel
theorem dX11_findLines_1 : decode cX11_findLines 1 = .ok (.istore_n 2, 1) := by decide +kernel
theorem dX11_findLines_2 : decode cX11_findLines 2 = .ok (.iload_n 2, 1) := by decide +kernel
theorem dX11_findLines_3 : decode cX11_findLines 3 = .ok (.sipush 144, 3) := by decide +kernel
theorem dX11_findLines_6 : decode cX11_findLines 6 = .ok (.if_icmp .ge 16, 3) := by decide +kernel
theorem dX11_findLines_9 : decode cX11_findLines 9 = .ok (.aload_n 0, 1) := by decide +kernel
theorem dX11_findLines_10 : decode cX11_findLines 10 = .ok (.getfield 28, 3) := by decide +kernel
theorem dX11_findLines_13 : decode cX11_findLines 13 = .ok (.iload_n 2, 1) := by decide +kernel
theorem dX11_findLines_14 : decode cX11_findLines 14 = .ok (.iconst 0, 1) := by decide +kernel
theorem dX11_findLines_15 : decode cX11_findLines 15 = .ok (.iastore, 1) := by decide +kernel
theorem dX11_findLines_16 : decode cX11_findLines 16 = .ok (.iinc 2 1, 3) := by decide +kernel
theorem dX11_findLines_19 : decode cX11_findLines 19 = .ok (.goto (-17), 3) := by decide +kernel
theorem dX11_findLines_22 : decode cX11_findLines 22 = .ok (.iconst 0, 1) := by decide +kernel
theorem dX11_findLines_23 : decode cX11_findLines 23 = .ok (.istore_n 2, 1) := by decide +kernel
theorem dX11_findLines_24 : decode cX11_findLines 24 = .ok (.iload_n 2, 1) := by decide +kernel
theorem dX11_findLines_25 : decode cX11_findLines 25 = .ok (.aload_n 0, 1) := by decide +kernel
theorem dX11_findLines_26 : decode cX11_findLines 26 = .ok (.iload_n 1, 1) := by decide +kernel
theorem dX11_findLines_27 : decode cX11_findLines 27 = .ok (.invokevirtual 121, 3) := by decide +kernel
theorem dX11_findLines_30 : decode cX11_findLines 30 = .ok (.if_icmp .ge 59, 3) := by decide +kernel
theorem dX11_findLines_33 : decode cX11_findLines 33 = .ok (.aload_n 0, 1) := by decide +kernel
theorem dX11_findLines_34 : decode cX11_findLines 34 = .ok (.iload_n 1, 1) := by decide +kernel
theorem dX11_findLines_35 : decode cX11_findLines 35 = .ok (.iload_n 2, 1) := by decide +kernel
theorem dX11_findLines_36 : decode cX11_findLines 36 = .ok (.invokevirtual 124, 3) := by decide +kernel
theorem dX11_findLines_39 : decode cX11_findLines 39 = .ok (.invokestatic 61, 3) := by decide +kernel
theorem dX11_findLines_42 : decode cX11_findLines 42 = .ok (.istore_n 3, 1) := by decide +kernel
theorem dX11_findLines_43 : decode cX11_findLines 43 = .ok (.aload_n 0, 1) := by decide +kernel
theorem dX11_findLines_44 : decode cX11_findLines 44 = .ok (.iload_n 1, 1) := by decide +kernel
theorem dX11_findLines_45 : decode cX11_findLines 45 = .ok (.iload_n 2, 1) := by decide +kernel
theorem dX11_findLines_46 : decode cX11_findLines 46 = .ok (.invokevirtual 124, 3) := by decide +kernel
theorem dX11_findLines_49 : decode cX11_findLines 49 = .ok (.invokestatic 65, 3) := by decide +kernel
theorem dX11_findLines_52 : decode cX11_findLines 52 = .ok (.istore 4, 2) := by decide +kernel
theorem dX11_findLines_54 : decode cX11_findLines 54 = .ok (.aload_n 0, 1) := by decide +kernel
theorem dX11_findLines_55 : decode cX11_findLines 55 = .ok (.getfield 28, 3) := by decide +kernel
theorem dX11_findLines_58 : decode cX11_findLines 58 = .ok (.iload_n 3, 1) := by decide +kernel
theorem dX11_findLines_59 : decode cX11_findLines 59 = .ok (.iload 4, 2) := by decide +kernel
theorem dX11_findLines_61 : decode cX11_findLines 61 = .ok (.if_icmp .ge 13, 3) := by decide +kernel
theorem dX11_findLines_64 : decode cX11_findLines 64 = .ok (.bipush 12, 2) := by decide +kernel
theorem dX11_findLines_66 : decode cX11_findLines 66 = .ok (.iload_n 3, 1) := by decide +kernel
theorem dX11_findLines_67 : decode cX11_findLines 67 = .ok (.imul, 1) := by decide +kernel
theorem dX11_findLines_68 : decode cX11_findLines 68 = .ok (.iload 4, 2) := by decide +kernel
theorem dX11_findLines_70 : decode cX11_findLines 70 = .ok (.iadd, 1) := by decide +kernel
theorem dX11_findLines_71 : decode cX11_findLines 71 = .ok (.goto 10, 3) := by decide +kernel
theorem dX11_findLines_74 : decode cX11_findLines 74 = .ok (.bipush 12, 2) := by decide +kernel
theorem dX11_findLines_76 : decode cX11_findLines 76 = .ok (.iload 4, 2) := by decide +kernel
theorem dX11_findLines_78 : decode cX11_findLines 78 = .ok (.imul, 1) := by decide +kernel
theorem dX11_findLines_79 : decode cX11_findLines 79 = .ok (.iload_n 3, 1) := by decide +kernel
theorem dX11_findLines_80 : decode cX11_findLines 80 = .ok (.iadd, 1) := by decide +kernel
theorem dX11_findLines_81 : decode cX11_findLines 81 = .ok (.iconst 1, 1) := by decide +kernel
theorem dX11_findLines_82 : decode cX11_findLines 82 = .ok (.iastore, 1) := by decide +kernel
theorem dX11_findLines_83 : decode cX11_findLines 83 = .ok (.iinc 2 1, 3) := by decide +kernel
theorem dX11_findLines_86 : decode cX11_findLines 86 = .ok (.goto (-62), 3) := by decide +kernel
theorem dX11_findLines_89 : decode cX11_findLines 89 = .ok (.return_, 1) := by decide +kernel
theorem dX11_partsOn_0 : decode cX11_partsOn 0 = .ok (.aload_n 0, 1) := by decide +kernel
theorem dX11_partsOn_1 : decode cX11_partsOn 1 = .ok (.iload_n 1, 1) := by decide +kernel
theorem dX11_partsOn_2 : decode cX11_partsOn 2 = .ok (.invokevirtual 210, 3) := by decide +kernel
theorem dX11_partsOn_5 : decode cX11_partsOn 5 = .ok (.iconst 1, 1) := by decide +kernel
theorem dX11_partsOn_6 : decode cX11_partsOn 6 = .ok (.istore_n 2, 1) := by decide +kernel
theorem dX11_partsOn_7 : decode cX11_partsOn 7 = .ok (.iconst 0, 1) := by decide +kernel
theorem dX11_partsOn_8 : decode cX11_partsOn 8 = .ok (.istore_n 3, 1) := by decide +kernel
theorem dX11_partsOn_9 : decode cX11_partsOn 9 = .ok (.iload_n 3, 1) := by decide +kernel
theorem dX11_partsOn_10 : decode cX11_partsOn 10 = .ok (.sipush 144, 3) := by decide +kernel
theorem dX11_partsOn_13 : decode cX11_partsOn 13 = .ok (.if_icmp .ge 87, 3) := by decide +kernel
theorem dX11_partsOn_16 : decode cX11_partsOn 16 = .ok (.iload_n 2, 1) := by decide +kernel
theorem dX11_partsOn_17 : decode cX11_partsOn 17 = .ok (.aload_n 0, 1) := by decide +kernel
theorem dX11_partsOn_18 : decode cX11_partsOn 18 = .ok (.getfield 28, 3) := by decide +kernel
theorem dX11_partsOn_21 : decode cX11_partsOn 21 = .ok (.iload_n 3, 1) := by decide +kernel
theorem dX11_partsOn_22 : decode cX11_partsOn 22 = .ok (.iaload, 1) := by decide +kernel
theorem dX11_partsOn_23 : decode cX11_partsOn 23 = .ok (.iadd, 1) := by decide +kernel
theorem dX11_partsOn_24 : decode cX11_partsOn 24 = .ok (.istore_n 2, 1) := by decide +kernel
theorem dX11_partsOn_25 : decode cX11_partsOn 25 = .ok (.iload_n 3, 1) := by decide +kernel
theorem dX11_partsOn_26 : decode cX11_partsOn 26 = .ok (.iconst 1, 1) := by decide +kernel
theorem dX11_partsOn_27 : decode cX11_partsOn 27 = .ok (.iadd, 1) := by decide +kernel
theorem dX11_partsOn_28 : decode cX11_partsOn 28 = .ok (.istore 4, 2) := by decide +kernel
theorem dX11_partsOn_30 : decode cX11_partsOn 30 = .ok (.iload 4, 2) := by decide +kernel
theorem dX11_partsOn_32 : decode cX11_partsOn 32 = .ok (.sipush 144, 3) := by decide +kernel
theorem dX11_partsOn_35 : decode cX11_partsOn 35 = .ok (.if_icmp .ge 59, 3) := by decide +kernel
theorem dX11_partsOn_38 : decode cX11_partsOn 38 = .ok (.iload_n 2, 1) := by decide +kernel
theorem dX11_partsOn_39 : decode cX11_partsOn 39 = .ok (.aload_n 0, 1) := by decide +kernel
theorem dX11_partsOn_40 : decode cX11_partsOn 40 = .ok (.getfield 28, 3) := by decide +kernel
theorem dX11_partsOn_43 : decode cX11_partsOn 43 = .ok (.iload_n 3, 1) := by decide +kernel
theorem dX11_partsOn_44 : decode cX11_partsOn 44 = .ok (.iaload, 1) := by decide +kernel
theorem dX11_partsOn_45 : decode cX11_partsOn 45 = .ok (.aload_n 0, 1) := by decide +kernel
theorem dX11_partsOn_46 : decode cX11_partsOn 46 = .ok (.getfield 28, 3) := by decide +kernel
theorem dX11_partsOn_49 : decode cX11_partsOn 49 = .ok (.iload 4, 2) := by decide +kernel
theorem dX11_partsOn_51 : decode cX11_partsOn 51 = .ok (.iaload, 1) := by decide +kernel
theorem dX11_partsOn_52 : decode cX11_partsOn 52 = .ok (.iadd, 1) := by decide +kernel
theorem dX11_partsOn_53 : decode cX11_partsOn 53 = .ok (.iconst 2, 1) := by decide +kernel
theorem dX11_partsOn_54 : decode cX11_partsOn 54 = .ok (.if_icmp .ne 31, 3) := by decide +kernel
theorem dX11_partsOn_57 : decode cX11_partsOn 57 = .ok (.iload_n 3, 1) := by decide +kernel
theorem dX11_partsOn_58 : decode cX11_partsOn 58 = .ok (.bipush 12, 2) := by decide +kernel
theorem dX11_partsOn_60 : decode cX11_partsOn 60 = .ok (.idiv, 1) := by decide +kernel
theorem dX11_partsOn_61 : decode cX11_partsOn 61 = .ok (.iload_n 3, 1) := by decide +kernel
theorem dX11_partsOn_62 : decode cX11_partsOn 62 = .ok (.bipush 12, 2) := by decide +kernel
theorem dX11_partsOn_64 : decode cX11_partsOn 64 = .ok (.irem, 1) := by decide +kernel
theorem dX11_partsOn_65 : decode cX11_partsOn 65 = .ok (.iload 4, 2) := by decide +kernel
theorem dX11_partsOn_67 : decode cX11_partsOn 67 = .ok (.bipush 12, 2) := by decide +kernel
theorem dX11_partsOn_69 : decode cX11_partsOn 69 = .ok (.idiv, 1) := by decide +kernel
theorem dX11_partsOn_70 : decode cX11_partsOn 70 = .ok (.iload 4, 2) := by decide +kernel
theorem dX11_partsOn_72 : decode cX11_partsOn 72 = .ok (.bipush 12, 2) := by decide +kernel
theorem dX11_partsOn_74 : decode cX11_partsOn 74 = .ok (.irem, 1) := by decide +kernel
theorem dX11_partsOn_75 : decode cX11_partsOn 75 = .ok (.invokestatic 68, 3) := by decide +kernel
theorem dX11_partsOn_78 : decode cX11_partsOn 78 = .ok (.ifCond .eq 7, 3) := by decide +kernel
theorem dX11_partsOn_81 : decode cX11_partsOn 81 = .ok (.iconst 1, 1) := by decide +kernel
theorem dX11_partsOn_82 : decode cX11_partsOn 82 = .ok (.goto 4, 3) := by decide +kernel
theorem dX11_partsOn_85 : decode cX11_partsOn 85 = .ok (.iconst 0, 1) := by decide +kernel
theorem dX11_partsOn_86 : decode cX11_partsOn 86 = .ok (.iadd, 1) := by decide +kernel
theorem dX11_partsOn_87 : decode cX11_partsOn 87 = .ok (.istore_n 2, 1) := by decide +kernel
theorem dX11_partsOn_88 : decode cX11_partsOn 88 = .ok (.iinc 4 1, 3) := by decide +kernel
theorem dX11_partsOn_91 : decode cX11_partsOn 91 = .ok (.goto (-61), 3) := by decide +kernel
theorem dX11_partsOn_94 : decode cX11_partsOn 94 = .ok (.iinc 3 1, 3) := by decide +kernel
theorem dX11_partsOn_97 : decode cX11_partsOn 97 = .ok (.goto (-88), 3) := by decide +kernel
theorem dX11_partsOn_100 : decode cX11_partsOn 100 = .ok (.iload_n 2, 1) := by decide +kernel
theorem dX11_partsOn_101 : decode cX11_partsOn 101 = .ok (.ireturn, 1) := by decide +kernel
theorem dX11_parts_0 : decode cX11_parts 0 = .ok (.aload_n 0, 1) := by decide +kernel
theorem dX11_parts_1 : decode cX11_parts 1 = .ok (.iconst 0, 1) := by decide +kernel
theorem dX11_parts_2 : decode cX11_parts 2 = .ok (.invokevirtual 213, 3) := by decide +kernel
theorem dX11_parts_5 : decode cX11_parts 5 = .ok (.ireturn, 1) := by decide +kernel
theorem dX11_partOf_0 : decode cX11_partOf 0 = .ok (.iconst 1, 1) := by decide +kernel
theorem dX11_partOf_1 : decode cX11_partOf 1 = .ok (.iload_n 1, 1) := by decide +kernel
theorem dX11_partOf_2 : decode cX11_partOf 2 = .ok (.ishl, 1) := by decide +kernel
theorem dX11_partOf_3 : decode cX11_partOf 3 = .ok (.istore_n 2, 1) := by decide +kernel
theorem dX11_partOf_4 : decode cX11_partOf 4 = .ok (.iconst 0, 1) := by decide +kernel
theorem dX11_partOf_5 : decode cX11_partOf 5 = .ok (.istore_n 3, 1) := by decide +kernel
theorem dX11_partOf_6 : decode cX11_partOf 6 = .ok (.iload_n 3, 1) := by decide +kernel
theorem dX11_partOf_7 : decode cX11_partOf 7 = .ok (.bipush 12, 2) := by decide +kernel
theorem dX11_partOf_9 : decode cX11_partOf 9 = .ok (.if_icmp .ge 95, 3) := by decide +kernel
theorem dX11_partOf_12 : decode cX11_partOf 12 = .ok (.iconst 0, 1) := by decide +kernel
theorem dX11_partOf_13 : decode cX11_partOf 13 = .ok (.istore 4, 2) := by decide +kernel
theorem dX11_partOf_15 : decode cX11_partOf 15 = .ok (.iload 4, 2) := by decide +kernel
theorem dX11_partOf_17 : decode cX11_partOf 17 = .ok (.sipush 144, 3) := by decide +kernel
theorem dX11_partOf_20 : decode cX11_partOf 20 = .ok (.if_icmp .ge 78, 3) := by decide +kernel
theorem dX11_partOf_23 : decode cX11_partOf 23 = .ok (.aload_n 0, 1) := by decide +kernel
theorem dX11_partOf_24 : decode cX11_partOf 24 = .ok (.getfield 28, 3) := by decide +kernel
theorem dX11_partOf_27 : decode cX11_partOf 27 = .ok (.iload 4, 2) := by decide +kernel
theorem dX11_partOf_29 : decode cX11_partOf 29 = .ok (.iaload, 1) := by decide +kernel
theorem dX11_partOf_30 : decode cX11_partOf 30 = .ok (.iconst 1, 1) := by decide +kernel
theorem dX11_partOf_31 : decode cX11_partOf 31 = .ok (.if_icmp .ne 31, 3) := by decide +kernel
theorem dX11_partOf_34 : decode cX11_partOf 34 = .ok (.iload_n 2, 1) := by decide +kernel
theorem dX11_partOf_35 : decode cX11_partOf 35 = .ok (.iload 4, 2) := by decide +kernel
theorem dX11_partOf_37 : decode cX11_partOf 37 = .ok (.bipush 12, 2) := by decide +kernel
theorem dX11_partOf_39 : decode cX11_partOf 39 = .ok (.idiv, 1) := by decide +kernel
theorem dX11_partOf_40 : decode cX11_partOf 40 = .ok (.invokestatic 201, 3) := by decide +kernel
theorem dX11_partOf_43 : decode cX11_partOf 43 = .ok (.ifCond .ne 15, 3) := by decide +kernel
theorem dX11_partOf_46 : decode cX11_partOf 46 = .ok (.iload_n 2, 1) := by decide +kernel
theorem dX11_partOf_47 : decode cX11_partOf 47 = .ok (.iload 4, 2) := by decide +kernel
theorem dX11_partOf_49 : decode cX11_partOf 49 = .ok (.bipush 12, 2) := by decide +kernel
theorem dX11_partOf_51 : decode cX11_partOf 51 = .ok (.irem, 1) := by decide +kernel
theorem dX11_partOf_52 : decode cX11_partOf 52 = .ok (.invokestatic 201, 3) := by decide +kernel
theorem dX11_partOf_55 : decode cX11_partOf 55 = .ok (.ifCond .eq 7, 3) := by decide +kernel
theorem dX11_partOf_58 : decode cX11_partOf 58 = .ok (.iconst 1, 1) := by decide +kernel
theorem dX11_partOf_59 : decode cX11_partOf 59 = .ok (.goto 4, 3) := by decide +kernel
theorem dX11_partOf_62 : decode cX11_partOf 62 = .ok (.iconst 0, 1) := by decide +kernel
theorem dX11_partOf_63 : decode cX11_partOf 63 = .ok (.istore 5, 2) := by decide +kernel
theorem dX11_partOf_65 : decode cX11_partOf 65 = .ok (.iload_n 2, 1) := by decide +kernel
theorem dX11_partOf_66 : decode cX11_partOf 66 = .ok (.iload 5, 2) := by decide +kernel
theorem dX11_partOf_68 : decode cX11_partOf 68 = .ok (.ifCond .eq 21, 3) := by decide +kernel
theorem dX11_partOf_71 : decode cX11_partOf 71 = .ok (.iconst 1, 1) := by decide +kernel
theorem dX11_partOf_72 : decode cX11_partOf 72 = .ok (.iload 4, 2) := by decide +kernel
theorem dX11_partOf_74 : decode cX11_partOf 74 = .ok (.bipush 12, 2) := by decide +kernel
theorem dX11_partOf_76 : decode cX11_partOf 76 = .ok (.idiv, 1) := by decide +kernel
theorem dX11_partOf_77 : decode cX11_partOf 77 = .ok (.ishl, 1) := by decide +kernel
theorem dX11_partOf_78 : decode cX11_partOf 78 = .ok (.iconst 1, 1) := by decide +kernel
theorem dX11_partOf_79 : decode cX11_partOf 79 = .ok (.iload 4, 2) := by decide +kernel
end
section
theorem dX11_partOf_81 : decode cX11_partOf 81 = .ok (.bipush 12, 2) := by decide +kernel
theorem dX11_partOf_83 : decode cX11_partOf 83 = .ok (.irem, 1) := by decide +kernel
theorem dX11_partOf_84 : decode cX11_partOf 84 = .ok (.ishl, 1) := by decide +kernel
theorem dX11_partOf_85 : decode cX11_partOf 85 = .ok (.ior, 1) := by decide +kernel
theorem dX11_partOf_86 : decode cX11_partOf 86 = .ok (.goto 4, 3) := by decide +kernel
theorem dX11_partOf_89 : decode cX11_partOf 89 = .ok (.iconst 0, 1) := by decide +kernel
theorem dX11_partOf_90 : decode cX11_partOf 90 = .ok (.ior, 1) := by decide +kernel
theorem dX11_partOf_91 : decode cX11_partOf 91 = .ok (.istore_n 2, 1) := by decide +kernel
theorem dX11_partOf_92 : decode cX11_partOf 92 = .ok (.iinc 4 1, 3) := by decide +kernel
theorem dX11_partOf_95 : decode cX11_partOf 95 = .ok (.goto (-80), 3) := by decide +kernel
theorem dX11_partOf_98 : decode cX11_partOf 98 = .ok (.iinc 3 1, 3) := by decide +kernel
theorem dX11_partOf_101 : decode cX11_partOf 101 = .ok (.goto (-95), 3) := by decide +kernel
theorem dX11_partOf_104 : decode cX11_partOf 104 = .ok (.iload_n 2, 1) := by decide +kernel
theorem dX11_partOf_105 : decode cX11_partOf 105 = .ok (.ireturn, 1) := by decide +kernel
theorem dX11_linesAt_0 : decode cX11_linesAt 0 = .ok (.iconst 0, 1) := by decide +kernel
theorem dX11_linesAt_1 : decode cX11_linesAt 1 = .ok (.istore_n 2, 1) := by decide +kernel
theorem dX11_linesAt_2 : decode cX11_linesAt 2 = .ok (.iconst 0, 1) := by decide +kernel
theorem dX11_linesAt_3 : decode cX11_linesAt 3 = .ok (.istore_n 3, 1) := by decide +kernel
theorem dX11_linesAt_4 : decode cX11_linesAt 4 = .ok (.iload_n 3, 1) := by decide +kernel
theorem dX11_linesAt_5 : decode cX11_linesAt 5 = .ok (.sipush 144, 3) := by decide +kernel
theorem dX11_linesAt_8 : decode cX11_linesAt 8 = .ok (.if_icmp .ge 38, 3) := by decide +kernel
theorem dX11_linesAt_11 : decode cX11_linesAt 11 = .ok (.iload_n 2, 1) := by decide +kernel
theorem dX11_linesAt_12 : decode cX11_linesAt 12 = .ok (.iload_n 3, 1) := by decide +kernel
theorem dX11_linesAt_13 : decode cX11_linesAt 13 = .ok (.bipush 12, 2) := by decide +kernel
theorem dX11_linesAt_15 : decode cX11_linesAt 15 = .ok (.idiv, 1) := by decide +kernel
theorem dX11_linesAt_16 : decode cX11_linesAt 16 = .ok (.iload_n 1, 1) := by decide +kernel
theorem dX11_linesAt_17 : decode cX11_linesAt 17 = .ok (.if_icmp .eq 11, 3) := by decide +kernel
theorem dX11_linesAt_20 : decode cX11_linesAt 20 = .ok (.iload_n 3, 1) := by decide +kernel
theorem dX11_linesAt_21 : decode cX11_linesAt 21 = .ok (.bipush 12, 2) := by decide +kernel
theorem dX11_linesAt_23 : decode cX11_linesAt 23 = .ok (.irem, 1) := by decide +kernel
theorem dX11_linesAt_24 : decode cX11_linesAt 24 = .ok (.iload_n 1, 1) := by decide +kernel
theorem dX11_linesAt_25 : decode cX11_linesAt 25 = .ok (.if_icmp .ne 12, 3) := by decide +kernel
theorem dX11_linesAt_28 : decode cX11_linesAt 28 = .ok (.aload_n 0, 1) := by decide +kernel
theorem dX11_linesAt_29 : decode cX11_linesAt 29 = .ok (.getfield 28, 3) := by decide +kernel
theorem dX11_linesAt_32 : decode cX11_linesAt 32 = .ok (.iload_n 3, 1) := by decide +kernel
theorem dX11_linesAt_33 : decode cX11_linesAt 33 = .ok (.iaload, 1) := by decide +kernel
theorem dX11_linesAt_34 : decode cX11_linesAt 34 = .ok (.goto 4, 3) := by decide +kernel
theorem dX11_linesAt_37 : decode cX11_linesAt 37 = .ok (.iconst 0, 1) := by decide +kernel
theorem dX11_linesAt_38 : decode cX11_linesAt 38 = .ok (.iadd, 1) := by decide +kernel
theorem dX11_linesAt_39 : decode cX11_linesAt 39 = .ok (.istore_n 2, 1) := by decide +kernel
theorem dX11_linesAt_40 : decode cX11_linesAt 40 = .ok (.iinc 3 1, 3) := by decide +kernel
theorem dX11_linesAt_43 : decode cX11_linesAt 43 = .ok (.goto (-39), 3) := by decide +kernel
theorem dX11_linesAt_46 : decode cX11_linesAt 46 = .ok (.iload_n 2, 1) := by decide +kernel
theorem dX11_linesAt_47 : decode cX11_linesAt 47 = .ok (.ireturn, 1) := by decide +kernel
theorem dX11_strokes_0 : decode cX11_strokes 0 = .ok (.aload_n 0, 1) := by decide +kernel
theorem dX11_strokes_1 : decode cX11_strokes 1 = .ok (.iconst 0, 1) := by decide +kernel
theorem dX11_strokes_2 : decode cX11_strokes 2 = .ok (.invokevirtual 210, 3) := by decide +kernel
theorem dX11_strokes_5 : decode cX11_strokes 5 = .ok (.iconst 0, 1) := by decide +kernel
theorem dX11_strokes_6 : decode cX11_strokes 6 = .ok (.istore_n 1, 1) := by decide +kernel
theorem dX11_strokes_7 : decode cX11_strokes 7 = .ok (.iconst 0, 1) := by decide +kernel
theorem dX11_strokes_8 : decode cX11_strokes 8 = .ok (.istore_n 2, 1) := by decide +kernel
theorem dX11_strokes_9 : decode cX11_strokes 9 = .ok (.iconst 0, 1) := by decide +kernel
theorem dX11_strokes_10 : decode cX11_strokes 10 = .ok (.istore_n 3, 1) := by decide +kernel
theorem dX11_strokes_11 : decode cX11_strokes 11 = .ok (.iload_n 3, 1) := by decide +kernel
theorem dX11_strokes_12 : decode cX11_strokes 12 = .ok (.bipush 12, 2) := by decide +kernel
theorem dX11_strokes_14 : decode cX11_strokes 14 = .ok (.if_icmp .ge 100, 3) := by decide +kernel
theorem dX11_strokes_17 : decode cX11_strokes 17 = .ok (.iload_n 2, 1) := by decide +kernel
theorem dX11_strokes_18 : decode cX11_strokes 18 = .ok (.iload_n 3, 1) := by decide +kernel
theorem dX11_strokes_19 : decode cX11_strokes 19 = .ok (.invokestatic 201, 3) := by decide +kernel
theorem dX11_strokes_22 : decode cX11_strokes 22 = .ok (.ifCond .ne 86, 3) := by decide +kernel
theorem dX11_strokes_25 : decode cX11_strokes 25 = .ok (.aload_n 0, 1) := by decide +kernel
theorem dX11_strokes_26 : decode cX11_strokes 26 = .ok (.iload_n 3, 1) := by decide +kernel
theorem dX11_strokes_27 : decode cX11_strokes 27 = .ok (.invokevirtual 216, 3) := by decide +kernel
theorem dX11_strokes_30 : decode cX11_strokes 30 = .ok (.ifCond .le 78, 3) := by decide +kernel
theorem dX11_strokes_33 : decode cX11_strokes 33 = .ok (.aload_n 0, 1) := by decide +kernel
theorem dX11_strokes_34 : decode cX11_strokes 34 = .ok (.iload_n 3, 1) := by decide +kernel
theorem dX11_strokes_35 : decode cX11_strokes 35 = .ok (.invokevirtual 219, 3) := by decide +kernel
theorem dX11_strokes_38 : decode cX11_strokes 38 = .ok (.istore 4, 2) := by decide +kernel
theorem dX11_strokes_40 : decode cX11_strokes 40 = .ok (.iconst 0, 1) := by decide +kernel
theorem dX11_strokes_41 : decode cX11_strokes 41 = .ok (.istore 5, 2) := by decide +kernel
theorem dX11_strokes_43 : decode cX11_strokes 43 = .ok (.iconst 0, 1) := by decide +kernel
theorem dX11_strokes_44 : decode cX11_strokes 44 = .ok (.istore 6, 2) := by decide +kernel
theorem dX11_strokes_46 : decode cX11_strokes 46 = .ok (.iload 6, 2) := by decide +kernel
theorem dX11_strokes_48 : decode cX11_strokes 48 = .ok (.bipush 12, 2) := by decide +kernel
theorem dX11_strokes_50 : decode cX11_strokes 50 = .ok (.if_icmp .ge 36, 3) := by decide +kernel
theorem dX11_strokes_53 : decode cX11_strokes 53 = .ok (.iload 5, 2) := by decide +kernel
theorem dX11_strokes_55 : decode cX11_strokes 55 = .ok (.iload 4, 2) := by decide +kernel
theorem dX11_strokes_57 : decode cX11_strokes 57 = .ok (.iload 6, 2) := by decide +kernel
theorem dX11_strokes_59 : decode cX11_strokes 59 = .ok (.invokestatic 201, 3) := by decide +kernel
theorem dX11_strokes_62 : decode cX11_strokes 62 = .ok (.ifCond .eq 14, 3) := by decide +kernel
theorem dX11_strokes_65 : decode cX11_strokes 65 = .ok (.aload_n 0, 1) := by decide +kernel
theorem dX11_strokes_66 : decode cX11_strokes 66 = .ok (.iload 6, 2) := by decide +kernel
theorem dX11_strokes_68 : decode cX11_strokes 68 = .ok (.invokevirtual 216, 3) := by decide +kernel
theorem dX11_strokes_71 : decode cX11_strokes 71 = .ok (.iconst 2, 1) := by decide +kernel
theorem dX11_strokes_72 : decode cX11_strokes 72 = .ok (.irem, 1) := by decide +kernel
theorem dX11_strokes_73 : decode cX11_strokes 73 = .ok (.goto 4, 3) := by decide +kernel
theorem dX11_strokes_76 : decode cX11_strokes 76 = .ok (.iconst 0, 1) := by decide +kernel
theorem dX11_strokes_77 : decode cX11_strokes 77 = .ok (.iadd, 1) := by decide +kernel
theorem dX11_strokes_78 : decode cX11_strokes 78 = .ok (.istore 5, 2) := by decide +kernel
theorem dX11_strokes_80 : decode cX11_strokes 80 = .ok (.iinc 6 1, 3) := by decide +kernel
theorem dX11_strokes_83 : decode cX11_strokes 83 = .ok (.goto (-37), 3) := by decide +kernel
theorem dX11_strokes_86 : decode cX11_strokes 86 = .ok (.iload_n 1, 1) := by decide +kernel
theorem dX11_strokes_87 : decode cX11_strokes 87 = .ok (.iload 5, 2) := by decide +kernel
theorem dX11_strokes_89 : decode cX11_strokes 89 = .ok (.iconst 2, 1) := by decide +kernel
theorem dX11_strokes_90 : decode cX11_strokes 90 = .ok (.if_icmp .ge 7, 3) := by decide +kernel
theorem dX11_strokes_93 : decode cX11_strokes 93 = .ok (.iconst 1, 1) := by decide +kernel
theorem dX11_strokes_94 : decode cX11_strokes 94 = .ok (.goto 7, 3) := by decide +kernel
theorem dX11_strokes_97 : decode cX11_strokes 97 = .ok (.iload 5, 2) := by decide +kernel
theorem dX11_strokes_99 : decode cX11_strokes 99 = .ok (.iconst 2, 1) := by decide +kernel
theorem dX11_strokes_100 : decode cX11_strokes 100 = .ok (.idiv, 1) := by decide +kernel
theorem dX11_strokes_101 : decode cX11_strokes 101 = .ok (.iadd, 1) := by decide +kernel
theorem dX11_strokes_102 : decode cX11_strokes 102 = .ok (.istore_n 1, 1) := by decide +kernel
theorem dX11_strokes_103 : decode cX11_strokes 103 = .ok (.iload_n 2, 1) := by decide +kernel
theorem dX11_strokes_104 : decode cX11_strokes 104 = .ok (.iload 4, 2) := by decide +kernel
theorem dX11_strokes_106 : decode cX11_strokes 106 = .ok (.ior, 1) := by decide +kernel
theorem dX11_strokes_107 : decode cX11_strokes 107 = .ok (.istore_n 2, 1) := by decide +kernel
theorem dX11_strokes_108 : decode cX11_strokes 108 = .ok (.iinc 3 1, 3) := by decide +kernel
theorem dX11_strokes_111 : decode cX11_strokes 111 = .ok (.goto (-100), 3) := by decide +kernel
theorem dX11_strokes_114 : decode cX11_strokes 114 = .ok (.iload_n 1, 1) := by decide +kernel
theorem dX11_strokes_115 : decode cX11_strokes 115 = .ok (.ireturn, 1) := by decide +kernel
theorem dX11_next_0 : decode cX11_next 0 = .ok (.aload_n 0, 1) := by decide +kernel
theorem dX11_next_1 : decode cX11_next 1 = .ok (.iload_n 1, 1) := by decide +kernel
theorem dX11_next_2 : decode cX11_next 2 = .ok (.invokevirtual 159, 3) := by decide +kernel
theorem dX11_next_5 : decode cX11_next 5 = .ok (.ifCond .ne 5, 3) := by decide +kernel
theorem dX11_next_8 : decode cX11_next 8 = .ok (.iconst (-1), 1) := by decide +kernel
theorem dX11_next_9 : decode cX11_next 9 = .ok (.ireturn, 1) := by decide +kernel
theorem dX11_next_10 : decode cX11_next 10 = .ok (.iload_n 2, 1) := by decide +kernel
theorem dX11_next_11 : decode cX11_next 11 = .ok (.i2l, 1) := by decide +kernel
theorem dX11_next_12 : decode cX11_next 12 = .ok (.lconst 0, 1) := by decide +kernel
theorem dX11_next_13 : decode cX11_next 13 = .ok (.lconst 1, 1) := by decide +kernel
theorem dX11_next_14 : decode cX11_next 14 = .ok (.invokestatic 49, 3) := by decide +kernel
theorem dX11_next_17 : decode cX11_next 17 = .ok (.ifCond .ne 6, 3) := by decide +kernel
theorem dX11_next_20 : decode cX11_next 20 = .ok (.bipush (-2), 2) := by decide +kernel
theorem dX11_next_22 : decode cX11_next 22 = .ok (.ireturn, 1) := by decide +kernel
theorem dX11_next_23 : decode cX11_next 23 = .ok (.bipush (-9), 2) := by decide +kernel
theorem dX11_next_25 : decode cX11_next 25 = .ok (.istore_n 3, 1) := by decide +kernel
theorem dX11_next_26 : decode cX11_next 26 = .ok (.bipush (-9), 2) := by decide +kernel
theorem dX11_next_28 : decode cX11_next 28 = .ok (.istore 4, 2) := by decide +kernel
theorem dX11_next_30 : decode cX11_next 30 = .ok (.iconst 0, 1) := by decide +kernel
theorem dX11_next_31 : decode cX11_next 31 = .ok (.istore 5, 2) := by decide +kernel
theorem dX11_next_33 : decode cX11_next 33 = .ok (.iload 5, 2) := by decide +kernel
theorem dX11_next_35 : decode cX11_next 35 = .ok (.bipush 12, 2) := by decide +kernel
theorem dX11_next_37 : decode cX11_next 37 = .ok (.if_icmp .ge 72, 3) := by decide +kernel
theorem dX11_next_40 : decode cX11_next 40 = .ok (.aload_n 0, 1) := by decide +kernel
theorem dX11_next_41 : decode cX11_next 41 = .ok (.iconst 0, 1) := by decide +kernel
theorem dX11_next_42 : decode cX11_next 42 = .ok (.iload_n 1, 1) := by decide +kernel
theorem dX11_next_43 : decode cX11_next 43 = .ok (.iload 5, 2) := by decide +kernel
theorem dX11_next_45 : decode cX11_next 45 = .ok (.invokevirtual 105, 3) := by decide +kernel
theorem dX11_next_48 : decode cX11_next 48 = .ok (.ifCond .eq 21, 3) := by decide +kernel
theorem dX11_next_51 : decode cX11_next 51 = .ok (.aload_n 0, 1) := by decide +kernel
theorem dX11_next_52 : decode cX11_next 52 = .ok (.iconst 0, 1) := by decide +kernel
theorem dX11_next_53 : decode cX11_next 53 = .ok (.bipush (-9), 2) := by decide +kernel
theorem dX11_next_55 : decode cX11_next 55 = .ok (.aload_n 0, 1) := by decide +kernel
theorem dX11_next_56 : decode cX11_next 56 = .ok (.getfield 13, 3) := by decide +kernel
theorem dX11_next_59 : decode cX11_next 59 = .ok (.iload_n 1, 1) := by decide +kernel
theorem dX11_next_60 : decode cX11_next 60 = .ok (.iaload, 1) := by decide +kernel
theorem dX11_next_61 : decode cX11_next 61 = .ok (.iload 5, 2) := by decide +kernel
theorem dX11_next_63 : decode cX11_next 63 = .ok (.invokevirtual 143, 3) := by decide +kernel
theorem dX11_next_66 : decode cX11_next 66 = .ok (.goto 5, 3) := by decide +kernel
theorem dX11_next_69 : decode cX11_next 69 = .ok (.bipush (-9), 2) := by decide +kernel
theorem dX11_next_71 : decode cX11_next 71 = .ok (.istore 6, 2) := by decide +kernel
theorem dX11_next_73 : decode cX11_next 73 = .ok (.iload 6, 2) := by decide +kernel
theorem dX11_next_75 : decode cX11_next 75 = .ok (.iload 4, 2) := by decide +kernel
theorem dX11_next_77 : decode cX11_next 77 = .ok (.if_icmp .le 8, 3) := by decide +kernel
theorem dX11_next_80 : decode cX11_next 80 = .ok (.iload 5, 2) := by decide +kernel
theorem dX11_next_82 : decode cX11_next 82 = .ok (.goto 4, 3) := by decide +kernel
theorem dX11_next_85 : decode cX11_next 85 = .ok (.iload_n 3, 1) := by decide +kernel
theorem dX11_next_86 : decode cX11_next 86 = .ok (.istore_n 3, 1) := by decide +kernel
theorem dX11_next_87 : decode cX11_next 87 = .ok (.iload 6, 2) := by decide +kernel
theorem dX11_next_89 : decode cX11_next 89 = .ok (.iload 4, 2) := by decide +kernel
theorem dX11_next_91 : decode cX11_next 91 = .ok (.if_icmp .le 8, 3) := by decide +kernel
theorem dX11_next_94 : decode cX11_next 94 = .ok (.iload 6, 2) := by decide +kernel
theorem dX11_next_96 : decode cX11_next 96 = .ok (.goto 5, 3) := by decide +kernel
theorem dX11_next_99 : decode cX11_next 99 = .ok (.iload 4, 2) := by decide +kernel
theorem dX11_next_101 : decode cX11_next 101 = .ok (.istore 4, 2) := by decide +kernel
theorem dX11_next_103 : decode cX11_next 103 = .ok (.iinc 5 1, 3) := by decide +kernel
theorem dX11_next_106 : decode cX11_next 106 = .ok (.goto (-73), 3) := by decide +kernel
theorem dX11_next_109 : decode cX11_next 109 = .ok (.iload_n 2, 1) := by decide +kernel
theorem dX11_next_110 : decode cX11_next 110 = .ok (.ifCond .ne 7, 3) := by decide +kernel
theorem dX11_next_113 : decode cX11_next 113 = .ok (.iload_n 3, 1) := by decide +kernel
theorem dX11_next_114 : decode cX11_next 114 = .ok (.goto 5, 3) := by decide +kernel
theorem dX11_next_117 : decode cX11_next 117 = .ok (.iload 4, 2) := by decide +kernel
theorem dX11_next_119 : decode cX11_next 119 = .ok (.ireturn, 1) := by decide +kernel
theorem dX11_star_0 : decode cX11_star 0 = .ok (.aload_n 0, 1) := by decide +kernel
theorem dX11_star_1 : decode cX11_star 1 = .ok (.iload_n 1, 1) := by decide +kernel
theorem dX11_star_2 : decode cX11_star 2 = .ok (.invokevirtual 159, 3) := by decide +kernel
theorem dX11_star_5 : decode cX11_star 5 = .ok (.ifCond .ne 5, 3) := by decide +kernel
theorem dX11_star_8 : decode cX11_star 8 = .ok (.iconst (-1), 1) := by decide +kernel
theorem dX11_star_9 : decode cX11_star 9 = .ok (.ireturn, 1) := by decide +kernel
theorem dX11_star_10 : decode cX11_star 10 = .ok (.iload_n 2, 1) := by decide +kernel
theorem dX11_star_11 : decode cX11_star 11 = .ok (.i2l, 1) := by decide +kernel
theorem dX11_star_12 : decode cX11_star 12 = .ok (.lconst 1, 1) := by decide +kernel
theorem dX11_star_13 : decode cX11_star 13 = .ok (.ldc2_w 47, 3) := by decide +kernel
theorem dX11_star_16 : decode cX11_star 16 = .ok (.invokestatic 49, 3) := by decide +kernel
theorem dX11_star_19 : decode cX11_star 19 = .ok (.ifCond .eq 28, 3) := by decide +kernel
theorem dX11_star_22 : decode cX11_star 22 = .ok (.iload_n 3, 1) := by decide +kernel
theorem dX11_star_23 : decode cX11_star 23 = .ok (.i2l, 1) := by decide +kernel
theorem dX11_star_24 : decode cX11_star 24 = .ok (.lconst 0, 1) := by decide +kernel
theorem dX11_star_25 : decode cX11_star 25 = .ok (.ldc2_w 222, 3) := by decide +kernel
theorem dX11_star_28 : decode cX11_star 28 = .ok (.invokestatic 49, 3) := by decide +kernel
theorem dX11_star_31 : decode cX11_star 31 = .ok (.ifCond .eq 16, 3) := by decide +kernel
theorem dX11_star_34 : decode cX11_star 34 = .ok (.iload 4, 2) := by decide +kernel
theorem dX11_star_36 : decode cX11_star 36 = .ok (.i2l, 1) := by decide +kernel
theorem dX11_star_37 : decode cX11_star 37 = .ok (.lconst 0, 1) := by decide +kernel
theorem dX11_star_38 : decode cX11_star 38 = .ok (.ldc2_w 224, 3) := by decide +kernel
theorem dX11_star_41 : decode cX11_star 41 = .ok (.invokestatic 49, 3) := by decide +kernel
theorem dX11_star_44 : decode cX11_star 44 = .ok (.ifCond .ne 6, 3) := by decide +kernel
theorem dX11_star_47 : decode cX11_star 47 = .ok (.bipush (-2), 2) := by decide +kernel
theorem dX11_star_49 : decode cX11_star 49 = .ok (.ireturn, 1) := by decide +kernel
theorem dX11_star_50 : decode cX11_star 50 = .ok (.aload_n 0, 1) := by decide +kernel
theorem dX11_star_51 : decode cX11_star 51 = .ok (.invokevirtual 226, 3) := by decide +kernel
theorem dX11_star_54 : decode cX11_star 54 = .ok (.iconst 0, 1) := by decide +kernel
theorem dX11_star_55 : decode cX11_star 55 = .ok (.istore 5, 2) := by decide +kernel
theorem dX11_star_57 : decode cX11_star 57 = .ok (.iconst 0, 1) := by decide +kernel
theorem dX11_star_58 : decode cX11_star 58 = .ok (.istore 6, 2) := by decide +kernel
theorem dX11_star_60 : decode cX11_star 60 = .ok (.iconst 1, 1) := by decide +kernel
theorem dX11_star_61 : decode cX11_star 61 = .ok (.istore 7, 2) := by decide +kernel
theorem dX11_star_63 : decode cX11_star 63 = .ok (.iconst 0, 1) := by decide +kernel
theorem dX11_star_64 : decode cX11_star 64 = .ok (.istore 8, 2) := by decide +kernel
theorem dX11_star_66 : decode cX11_star 66 = .ok (.iload 8, 2) := by decide +kernel
theorem dX11_star_68 : decode cX11_star 68 = .ok (.iload_n 3, 1) := by decide +kernel
theorem dX11_star_69 : decode cX11_star 69 = .ok (.if_icmp .ge 61, 3) := by decide +kernel
theorem dX11_star_72 : decode cX11_star 72 = .ok (.iload 7, 2) := by decide +kernel
theorem dX11_star_74 : decode cX11_star 74 = .ok (.ifCond .eq 56, 3) := by decide +kernel
theorem dX11_star_77 : decode cX11_star 77 = .ok (.aload_n 0, 1) := by decide +kernel
theorem dX11_star_78 : decode cX11_star 78 = .ok (.getfield 13, 3) := by decide +kernel
theorem dX11_star_81 : decode cX11_star 81 = .ok (.bipush 53, 2) := by decide +kernel
theorem dX11_star_83 : decode cX11_star 83 = .ok (.iload_n 1, 1) := by decide +kernel
theorem dX11_star_84 : decode cX11_star 84 = .ok (.iadd, 1) := by decide +kernel
theorem dX11_star_85 : decode cX11_star 85 = .ok (.iaload, 1) := by decide +kernel
theorem dX11_star_86 : decode cX11_star 86 = .ok (.iload_n 2, 1) := by decide +kernel
theorem dX11_star_87 : decode cX11_star 87 = .ok (.iadd, 1) := by decide +kernel
theorem dX11_star_88 : decode cX11_star 88 = .ok (.bipush 12, 2) := by decide +kernel
theorem dX11_star_90 : decode cX11_star 90 = .ok (.irem, 1) := by decide +kernel
theorem dX11_star_91 : decode cX11_star 91 = .ok (.istore 9, 2) := by decide +kernel
theorem dX11_star_93 : decode cX11_star 93 = .ok (.aload_n 0, 1) := by decide +kernel
theorem dX11_star_94 : decode cX11_star 94 = .ok (.iconst 1, 1) := by decide +kernel
theorem dX11_star_95 : decode cX11_star 95 = .ok (.iload_n 1, 1) := by decide +kernel
theorem dX11_star_96 : decode cX11_star 96 = .ok (.iload 9, 2) := by decide +kernel
theorem dX11_star_98 : decode cX11_star 98 = .ok (.invokevirtual 105, 3) := by decide +kernel
theorem dX11_star_101 : decode cX11_star 101 = .ok (.istore 7, 2) := by decide +kernel
theorem dX11_star_103 : decode cX11_star 103 = .ok (.iload 7, 2) := by decide +kernel
theorem dX11_star_105 : decode cX11_star 105 = .ok (.ifCond .eq 19, 3) := by decide +kernel
theorem dX11_star_108 : decode cX11_star 108 = .ok (.iload 6, 2) := by decide +kernel
theorem dX11_star_110 : decode cX11_star 110 = .ok (.aload_n 0, 1) := by decide +kernel
theorem dX11_star_111 : decode cX11_star 111 = .ok (.iconst 1, 1) := by decide +kernel
theorem dX11_star_112 : decode cX11_star 112 = .ok (.iload_n 1, 1) := by decide +kernel
theorem dX11_star_113 : decode cX11_star 113 = .ok (.iload 9, 2) := by decide +kernel
theorem dX11_star_115 : decode cX11_star 115 = .ok (.invokevirtual 108, 3) := by decide +kernel
theorem dX11_star_118 : decode cX11_star 118 = .ok (.iadd, 1) := by decide +kernel
theorem dX11_star_119 : decode cX11_star 119 = .ok (.istore 6, 2) := by decide +kernel
theorem dX11_star_121 : decode cX11_star 121 = .ok (.iinc 5 1, 3) := by decide +kernel
theorem dX11_star_124 : decode cX11_star 124 = .ok (.iinc 8 1, 3) := by decide +kernel
theorem dX11_star_127 : decode cX11_star 127 = .ok (.goto (-61), 3) := by decide +kernel
theorem dX11_star_130 : decode cX11_star 130 = .ok (.iload 4, 2) := by decide +kernel
theorem dX11_star_132 : decode cX11_star 132 = .ok (.ifCond .ne 8, 3) := by decide +kernel
theorem dX11_star_135 : decode cX11_star 135 = .ok (.iload 5, 2) := by decide +kernel
theorem dX11_star_137 : decode cX11_star 137 = .ok (.goto 23, 3) := by decide +kernel
theorem dX11_star_140 : decode cX11_star 140 = .ok (.iload 4, 2) := by decide +kernel
theorem dX11_star_142 : decode cX11_star 142 = .ok (.iconst 1, 1) := by decide +kernel
theorem dX11_star_143 : decode cX11_star 143 = .ok (.if_icmp .ne 15, 3) := by decide +kernel
theorem dX11_star_146 : decode cX11_star 146 = .ok (.aload_n 0, 1) := by decide +kernel
theorem dX11_star_147 : decode cX11_star 147 = .ok (.getfield 13, 3) := by decide +kernel
theorem dX11_star_150 : decode cX11_star 150 = .ok (.bipush 53, 2) := by decide +kernel
theorem dX11_star_152 : decode cX11_star 152 = .ok (.iload_n 1, 1) := by decide +kernel
theorem dX11_star_153 : decode cX11_star 153 = .ok (.iadd, 1) := by decide +kernel
theorem dX11_star_154 : decode cX11_star 154 = .ok (.iaload, 1) := by decide +kernel
theorem dX11_star_155 : decode cX11_star 155 = .ok (.goto 5, 3) := by decide +kernel
theorem dX11_star_158 : decode cX11_star 158 = .ok (.iload 6, 2) := by decide +kernel
theorem dX11_star_160 : decode cX11_star 160 = .ok (.ireturn, 1) := by decide +kernel
theorem dX11_tryThing_0 : decode cX11_tryThing 0 = .ok (.iload_n 1, 1) := by decide +kernel
theorem dX11_tryThing_1 : decode cX11_tryThing 1 = .ok (.tableswitch 260 1 7 #[43, 84, 118, 161, 161, 199, 241], 43) := by decide +kernel
theorem dX11_tryThing_44 : decode cX11_tryThing 44 = .ok (.aload_n 0, 1) := by decide +kernel
theorem dX11_tryThing_45 : decode cX11_tryThing 45 = .ok (.iload_n 2, 1) := by decide +kernel
theorem dX11_tryThing_46 : decode cX11_tryThing 46 = .ok (.invokevirtual 159, 3) := by decide +kernel
theorem dX11_tryThing_49 : decode cX11_tryThing 49 = .ok (.ifCond .eq 17, 3) := by decide +kernel
theorem dX11_tryThing_52 : decode cX11_tryThing 52 = .ok (.aload_n 0, 1) := by decide +kernel
theorem dX11_tryThing_53 : decode cX11_tryThing 53 = .ok (.iconst 1, 1) := by decide +kernel
theorem dX11_tryThing_54 : decode cX11_tryThing 54 = .ok (.iload_n 2, 1) := by decide +kernel
theorem dX11_tryThing_55 : decode cX11_tryThing 55 = .ok (.iload_n 3, 1) := by decide +kernel
theorem dX11_tryThing_56 : decode cX11_tryThing 56 = .ok (.invokevirtual 105, 3) := by decide +kernel
theorem dX11_tryThing_59 : decode cX11_tryThing 59 = .ok (.ifCond .eq 7, 3) := by decide +kernel
theorem dX11_tryThing_62 : decode cX11_tryThing 62 = .ok (.iconst 1, 1) := by decide +kernel
theorem dX11_tryThing_63 : decode cX11_tryThing 63 = .ok (.goto 4, 3) := by decide +kernel
theorem dX11_tryThing_66 : decode cX11_tryThing 66 = .ok (.iconst 0, 1) := by decide +kernel
theorem dX11_tryThing_67 : decode cX11_tryThing 67 = .ok (.istore 4, 2) := by decide +kernel
theorem dX11_tryThing_69 : decode cX11_tryThing 69 = .ok (.iload 4, 2) := by decide +kernel
theorem dX11_tryThing_71 : decode cX11_tryThing 71 = .ok (.ifCond .eq 11, 3) := by decide +kernel
theorem dX11_tryThing_74 : decode cX11_tryThing 74 = .ok (.aload_n 0, 1) := by decide +kernel
theorem dX11_tryThing_75 : decode cX11_tryThing 75 = .ok (.iconst 1, 1) := by decide +kernel
theorem dX11_tryThing_76 : decode cX11_tryThing 76 = .ok (.iload_n 2, 1) := by decide +kernel
theorem dX11_tryThing_77 : decode cX11_tryThing 77 = .ok (.iload_n 3, 1) := by decide +kernel
theorem dX11_tryThing_78 : decode cX11_tryThing 78 = .ok (.invokevirtual 108, 3) := by decide +kernel
theorem dX11_tryThing_81 : decode cX11_tryThing 81 = .ok (.pop, 1) := by decide +kernel
theorem dX11_tryThing_82 : decode cX11_tryThing 82 = .ok (.iload 4, 2) := by decide +kernel
theorem dX11_tryThing_84 : decode cX11_tryThing 84 = .ok (.ireturn, 1) := by decide +kernel
theorem dX11_tryThing_85 : decode cX11_tryThing 85 = .ok (.iload_n 2, 1) := by decide +kernel
theorem dX11_tryThing_86 : decode cX11_tryThing 86 = .ok (.ifCond .ne 16, 3) := by decide +kernel
theorem dX11_tryThing_89 : decode cX11_tryThing 89 = .ok (.aload_n 0, 1) := by decide +kernel
theorem dX11_tryThing_90 : decode cX11_tryThing 90 = .ok (.iconst 1, 1) := by decide +kernel
theorem dX11_tryThing_91 : decode cX11_tryThing 91 = .ok (.iload_n 3, 1) := by decide +kernel
theorem dX11_tryThing_92 : decode cX11_tryThing 92 = .ok (.invokevirtual 179, 3) := by decide +kernel
theorem dX11_tryThing_95 : decode cX11_tryThing 95 = .ok (.ifCond .eq 7, 3) := by decide +kernel
theorem dX11_tryThing_98 : decode cX11_tryThing 98 = .ok (.iconst 1, 1) := by decide +kernel
theorem dX11_tryThing_99 : decode cX11_tryThing 99 = .ok (.goto 4, 3) := by decide +kernel
theorem dX11_tryThing_102 : decode cX11_tryThing 102 = .ok (.iconst 0, 1) := by decide +kernel
theorem dX11_tryThing_103 : decode cX11_tryThing 103 = .ok (.istore 5, 2) := by decide +kernel
theorem dX11_tryThing_105 : decode cX11_tryThing 105 = .ok (.iload 5, 2) := by decide +kernel
theorem dX11_tryThing_107 : decode cX11_tryThing 107 = .ok (.ifCond .eq 9, 3) := by decide +kernel
theorem dX11_tryThing_110 : decode cX11_tryThing 110 = .ok (.aload_n 0, 1) := by decide +kernel
theorem dX11_tryThing_111 : decode cX11_tryThing 111 = .ok (.iconst 1, 1) := by decide +kernel
theorem dX11_tryThing_112 : decode cX11_tryThing 112 = .ok (.iload_n 3, 1) := by decide +kernel
theorem dX11_tryThing_113 : decode cX11_tryThing 113 = .ok (.invokevirtual 191, 3) := by decide +kernel
theorem dX11_tryThing_116 : decode cX11_tryThing 116 = .ok (.iload 5, 2) := by decide +kernel
theorem dX11_tryThing_118 : decode cX11_tryThing 118 = .ok (.ireturn, 1) := by decide +kernel
theorem dX11_tryThing_119 : decode cX11_tryThing 119 = .ok (.iload_n 2, 1) := by decide +kernel
theorem dX11_tryThing_120 : decode cX11_tryThing 120 = .ok (.ifCond .ne 24, 3) := by decide +kernel
theorem dX11_tryThing_123 : decode cX11_tryThing 123 = .ok (.aload_n 0, 1) := by decide +kernel
theorem dX11_tryThing_124 : decode cX11_tryThing 124 = .ok (.iload_n 3, 1) := by decide +kernel
theorem dX11_tryThing_125 : decode cX11_tryThing 125 = .ok (.invokevirtual 159, 3) := by decide +kernel
theorem dX11_tryThing_128 : decode cX11_tryThing 128 = .ok (.ifCond .eq 16, 3) := by decide +kernel
theorem dX11_tryThing_131 : decode cX11_tryThing 131 = .ok (.aload_n 0, 1) := by decide +kernel
theorem dX11_tryThing_132 : decode cX11_tryThing 132 = .ok (.iconst 1, 1) := by decide +kernel
theorem dX11_tryThing_133 : decode cX11_tryThing 133 = .ok (.iload_n 3, 1) := by decide +kernel
theorem dX11_tryThing_134 : decode cX11_tryThing 134 = .ok (.invokevirtual 137, 3) := by decide +kernel
theorem dX11_tryThing_137 : decode cX11_tryThing 137 = .ok (.ifCond .le 7, 3) := by decide +kernel
theorem dX11_tryThing_140 : decode cX11_tryThing 140 = .ok (.iconst 1, 1) := by decide +kernel
theorem dX11_tryThing_141 : decode cX11_tryThing 141 = .ok (.goto 4, 3) := by decide +kernel
theorem dX11_tryThing_144 : decode cX11_tryThing 144 = .ok (.iconst 0, 1) := by decide +kernel
theorem dX11_tryThing_145 : decode cX11_tryThing 145 = .ok (.istore 6, 2) := by decide +kernel
theorem dX11_tryThing_147 : decode cX11_tryThing 147 = .ok (.iload 6, 2) := by decide +kernel
theorem dX11_tryThing_149 : decode cX11_tryThing 149 = .ok (.ifCond .eq 10, 3) := by decide +kernel
theorem dX11_tryThing_152 : decode cX11_tryThing 152 = .ok (.aload_n 0, 1) := by decide +kernel
theorem dX11_tryThing_153 : decode cX11_tryThing 153 = .ok (.iconst 1, 1) := by decide +kernel
theorem dX11_tryThing_154 : decode cX11_tryThing 154 = .ok (.iload_n 3, 1) := by decide +kernel
theorem dX11_tryThing_155 : decode cX11_tryThing 155 = .ok (.invokevirtual 194, 3) := by decide +kernel
theorem dX11_tryThing_158 : decode cX11_tryThing 158 = .ok (.pop, 1) := by decide +kernel
theorem dX11_tryThing_159 : decode cX11_tryThing 159 = .ok (.iload 6, 2) := by decide +kernel
theorem dX11_tryThing_161 : decode cX11_tryThing 161 = .ok (.ireturn, 1) := by decide +kernel
theorem dX11_tryThing_162 : decode cX11_tryThing 162 = .ok (.iload_n 2, 1) := by decide +kernel
theorem dX11_tryThing_163 : decode cX11_tryThing 163 = .ok (.ifCond .ne 11, 3) := by decide +kernel
theorem dX11_tryThing_166 : decode cX11_tryThing 166 = .ok (.iload_n 3, 1) := by decide +kernel
theorem dX11_tryThing_167 : decode cX11_tryThing 167 = .ok (.ifCond .ne 7, 3) := by decide +kernel
theorem dX11_tryThing_170 : decode cX11_tryThing 170 = .ok (.iconst 1, 1) := by decide +kernel
theorem dX11_tryThing_171 : decode cX11_tryThing 171 = .ok (.goto 4, 3) := by decide +kernel
theorem dX11_tryThing_174 : decode cX11_tryThing 174 = .ok (.iconst 0, 1) := by decide +kernel
theorem dX11_tryThing_175 : decode cX11_tryThing 175 = .ok (.istore 7, 2) := by decide +kernel
theorem dX11_tryThing_177 : decode cX11_tryThing 177 = .ok (.iload 7, 2) := by decide +kernel
theorem dX11_tryThing_179 : decode cX11_tryThing 179 = .ok (.ifCond .eq 18, 3) := by decide +kernel
theorem dX11_tryThing_182 : decode cX11_tryThing 182 = .ok (.aload_n 0, 1) := by decide +kernel
theorem dX11_tryThing_183 : decode cX11_tryThing 183 = .ok (.iconst 1, 1) := by decide +kernel
theorem dX11_tryThing_184 : decode cX11_tryThing 184 = .ok (.iload_n 1, 1) := by decide +kernel
theorem dX11_tryThing_185 : decode cX11_tryThing 185 = .ok (.iconst 5, 1) := by decide +kernel
theorem dX11_tryThing_186 : decode cX11_tryThing 186 = .ok (.if_icmp .ne 7, 3) := by decide +kernel
theorem dX11_tryThing_189 : decode cX11_tryThing 189 = .ok (.iconst 1, 1) := by decide +kernel
theorem dX11_tryThing_190 : decode cX11_tryThing 190 = .ok (.goto 4, 3) := by decide +kernel
theorem dX11_tryThing_193 : decode cX11_tryThing 193 = .ok (.iconst 0, 1) := by decide +kernel
theorem dX11_tryThing_194 : decode cX11_tryThing 194 = .ok (.invokevirtual 197, 3) := by decide +kernel
theorem dX11_tryThing_197 : decode cX11_tryThing 197 = .ok (.iload 7, 2) := by decide +kernel
theorem dX11_tryThing_199 : decode cX11_tryThing 199 = .ok (.ireturn, 1) := by decide +kernel
theorem dX11_tryThing_200 : decode cX11_tryThing 200 = .ok (.aload_n 0, 1) := by decide +kernel
theorem dX11_tryThing_201 : decode cX11_tryThing 201 = .ok (.iload_n 2, 1) := by decide +kernel
theorem dX11_tryThing_202 : decode cX11_tryThing 202 = .ok (.invokevirtual 159, 3) := by decide +kernel
theorem dX11_tryThing_205 : decode cX11_tryThing 205 = .ok (.ifCond .eq 35, 3) := by decide +kernel
theorem dX11_tryThing_208 : decode cX11_tryThing 208 = .ok (.aload_n 0, 1) := by decide +kernel
theorem dX11_tryThing_209 : decode cX11_tryThing 209 = .ok (.iload_n 3, 1) := by decide +kernel
theorem dX11_tryThing_210 : decode cX11_tryThing 210 = .ok (.bipush 10, 2) := by decide +kernel
theorem dX11_tryThing_212 : decode cX11_tryThing 212 = .ok (.idiv, 1) := by decide +kernel
theorem dX11_tryThing_213 : decode cX11_tryThing 213 = .ok (.invokevirtual 159, 3) := by decide +kernel
theorem dX11_tryThing_216 : decode cX11_tryThing 216 = .ok (.ifCond .eq 24, 3) := by decide +kernel
theorem dX11_tryThing_219 : decode cX11_tryThing 219 = .ok (.aload_n 0, 1) := by decide +kernel
theorem dX11_tryThing_220 : decode cX11_tryThing 220 = .ok (.iconst 1, 1) := by decide +kernel
theorem dX11_tryThing_221 : decode cX11_tryThing 221 = .ok (.iload_n 2, 1) := by decide +kernel
theorem dX11_tryThing_222 : decode cX11_tryThing 222 = .ok (.iload_n 3, 1) := by decide +kernel
theorem dX11_tryThing_223 : decode cX11_tryThing 223 = .ok (.bipush 10, 2) := by decide +kernel
theorem dX11_tryThing_225 : decode cX11_tryThing 225 = .ok (.idiv, 1) := by decide +kernel
theorem dX11_tryThing_226 : decode cX11_tryThing 226 = .ok (.invokevirtual 207, 3) := by decide +kernel
theorem dX11_tryThing_229 : decode cX11_tryThing 229 = .ok (.iload_n 3, 1) := by decide +kernel
theorem dX11_tryThing_230 : decode cX11_tryThing 230 = .ok (.bipush 10, 2) := by decide +kernel
theorem dX11_tryThing_232 : decode cX11_tryThing 232 = .ok (.irem, 1) := by decide +kernel
theorem dX11_tryThing_233 : decode cX11_tryThing 233 = .ok (.if_icmp .lt 7, 3) := by decide +kernel
theorem dX11_tryThing_236 : decode cX11_tryThing 236 = .ok (.iconst 1, 1) := by decide +kernel
theorem dX11_tryThing_237 : decode cX11_tryThing 237 = .ok (.goto 4, 3) := by decide +kernel
theorem dX11_tryThing_240 : decode cX11_tryThing 240 = .ok (.iconst 0, 1) := by decide +kernel
theorem dX11_tryThing_241 : decode cX11_tryThing 241 = .ok (.ireturn, 1) := by decide +kernel
theorem dX11_tryThing_242 : decode cX11_tryThing 242 = .ok (.iload_n 2, 1) := by decide +kernel
theorem dX11_tryThing_243 : decode cX11_tryThing 243 = .ok (.ifCond .ne 16, 3) := by decide +kernel
theorem dX11_tryThing_246 : decode cX11_tryThing 246 = .ok (.aload_n 0, 1) := by decide +kernel
theorem dX11_tryThing_247 : decode cX11_tryThing 247 = .ok (.iconst 1, 1) := by decide +kernel
theorem dX11_tryThing_248 : decode cX11_tryThing 248 = .ok (.invokevirtual 213, 3) := by decide +kernel
theorem dX11_tryThing_251 : decode cX11_tryThing 251 = .ok (.iload_n 3, 1) := by decide +kernel
theorem dX11_tryThing_252 : decode cX11_tryThing 252 = .ok (.if_icmp .lt 7, 3) := by decide +kernel
theorem dX11_tryThing_255 : decode cX11_tryThing 255 = .ok (.iconst 1, 1) := by decide +kernel
theorem dX11_tryThing_256 : decode cX11_tryThing 256 = .ok (.goto 4, 3) := by decide +kernel
theorem dX11_tryThing_259 : decode cX11_tryThing 259 = .ok (.iconst 0, 1) := by decide +kernel
theorem dX11_tryThing_260 : decode cX11_tryThing 260 = .ok (.ireturn, 1) := by decide +kernel
theorem dX11_tryThing_261 : decode cX11_tryThing 261 = .ok (.iconst 0, 1) := by decide +kernel
theorem dX11_tryThing_262 : decode cX11_tryThing 262 = .ok (.ireturn, 1) := by decide +kernel
theorem dX11_tenThousandTo_0 : decode cX11_tenThousandTo 0 = .ok (.lconst 1, 1) := by decide +kernel
theorem dX11_tenThousandTo_1 : decode cX11_tenThousandTo 1 = .ok (.lstore_n 1, 1) := by decide +kernel
theorem dX11_tenThousandTo_2 : decode cX11_tenThousandTo 2 = .ok (.iconst 0, 1) := by decide +kernel
theorem dX11_tenThousandTo_3 : decode cX11_tenThousandTo 3 = .ok (.istore_n 3, 1) := by decide +kernel
theorem dX11_tenThousandTo_4 : decode cX11_tenThousandTo 4 = .ok (.iload_n 3, 1) := by decide +kernel
theorem dX11_tenThousandTo_5 : decode cX11_tenThousandTo 5 = .ok (.iload_n 0, 1) := by decide +kernel
theorem dX11_tenThousandTo_6 : decode cX11_tenThousandTo 6 = .ok (.if_icmp .ge 15, 3) := by decide +kernel
theorem dX11_tenThousandTo_9 : decode cX11_tenThousandTo 9 = .ok (.lload_n 1, 1) := by decide +kernel
theorem dX11_tenThousandTo_10 : decode cX11_tenThousandTo 10 = .ok (.ldc2_w 229, 3) := by decide +kernel
theorem dX11_tenThousandTo_13 : decode cX11_tenThousandTo 13 = .ok (.lmul, 1) := by decide +kernel
theorem dX11_tenThousandTo_14 : decode cX11_tenThousandTo 14 = .ok (.lstore_n 1, 1) := by decide +kernel
theorem dX11_tenThousandTo_15 : decode cX11_tenThousandTo 15 = .ok (.iinc 3 1, 3) := by decide +kernel
theorem dX11_tenThousandTo_18 : decode cX11_tenThousandTo 18 = .ok (.goto (-14), 3) := by decide +kernel
theorem dX11_tenThousandTo_21 : decode cX11_tenThousandTo 21 = .ok (.lload_n 1, 1) := by decide +kernel
theorem dX11_tenThousandTo_22 : decode cX11_tenThousandTo 22 = .ok (.lreturn, 1) := by decide +kernel
theorem dX11_judge_0 : decode cX11_judge 0 = .ok (.iload_n 1, 1) := by decide +kernel
theorem dX11_judge_1 : decode cX11_judge 1 = .ok (.i2l, 1) := by decide +kernel
theorem dX11_judge_2 : decode cX11_judge 2 = .ok (.lconst 1, 1) := by decide +kernel
theorem dX11_judge_3 : decode cX11_judge 3 = .ok (.ldc2_w 231, 3) := by decide +kernel
theorem dX11_judge_6 : decode cX11_judge 6 = .ok (.invokestatic 49, 3) := by decide +kernel
theorem dX11_judge_9 : decode cX11_judge 9 = .ok (.ifCond .eq 17, 3) := by decide +kernel
theorem dX11_judge_12 : decode cX11_judge 12 = .ok (.lload_n 2, 1) := by decide +kernel
theorem dX11_judge_13 : decode cX11_judge 13 = .ok (.lconst 0, 1) := by decide +kernel
theorem dX11_judge_14 : decode cX11_judge 14 = .ok (.iload_n 1, 1) := by decide +kernel
theorem dX11_judge_15 : decode cX11_judge 15 = .ok (.invokestatic 233, 3) := by decide +kernel
theorem dX11_judge_18 : decode cX11_judge 18 = .ok (.lconst 1, 1) := by decide +kernel
theorem dX11_judge_19 : decode cX11_judge 19 = .ok (.lsub, 1) := by decide +kernel
theorem dX11_judge_20 : decode cX11_judge 20 = .ok (.invokestatic 49, 3) := by decide +kernel
theorem dX11_judge_23 : decode cX11_judge 23 = .ok (.ifCond .ne 6, 3) := by decide +kernel
theorem dX11_judge_26 : decode cX11_judge 26 = .ok (.bipush (-2), 2) := by decide +kernel
theorem dX11_judge_28 : decode cX11_judge 28 = .ok (.ireturn, 1) := by decide +kernel
theorem dX11_judge_29 : decode cX11_judge 29 = .ok (.aload_n 0, 1) := by decide +kernel
theorem dX11_judge_30 : decode cX11_judge 30 = .ok (.invokevirtual 226, 3) := by decide +kernel
theorem dX11_judge_33 : decode cX11_judge 33 = .ok (.iconst 0, 1) := by decide +kernel
theorem dX11_judge_34 : decode cX11_judge 34 = .ok (.istore 4, 2) := by decide +kernel
theorem dX11_judge_36 : decode cX11_judge 36 = .ok (.iload 4, 2) := by decide +kernel
theorem dX11_judge_38 : decode cX11_judge 38 = .ok (.iload_n 1, 1) := by decide +kernel
theorem dX11_judge_39 : decode cX11_judge 39 = .ok (.if_icmp .ge 56, 3) := by decide +kernel
theorem dX11_judge_42 : decode cX11_judge 42 = .ok (.lload_n 2, 1) := by decide +kernel
theorem dX11_judge_43 : decode cX11_judge 43 = .ok (.iload_n 1, 1) := by decide +kernel
theorem dX11_judge_44 : decode cX11_judge 44 = .ok (.iconst 1, 1) := by decide +kernel
theorem dX11_judge_45 : decode cX11_judge 45 = .ok (.isub, 1) := by decide +kernel
theorem dX11_judge_46 : decode cX11_judge 46 = .ok (.iload 4, 2) := by decide +kernel
theorem dX11_judge_48 : decode cX11_judge 48 = .ok (.isub, 1) := by decide +kernel
theorem dX11_judge_49 : decode cX11_judge 49 = .ok (.invokestatic 233, 3) := by decide +kernel
theorem dX11_judge_52 : decode cX11_judge 52 = .ok (.ldiv, 1) := by decide +kernel
theorem dX11_judge_53 : decode cX11_judge 53 = .ok (.ldc2_w 229, 3) := by decide +kernel
theorem dX11_judge_56 : decode cX11_judge 56 = .ok (.lrem, 1) := by decide +kernel
theorem dX11_judge_57 : decode cX11_judge 57 = .ok (.l2i, 1) := by decide +kernel
theorem dX11_judge_58 : decode cX11_judge 58 = .ok (.istore 5, 2) := by decide +kernel
theorem dX11_judge_60 : decode cX11_judge 60 = .ok (.aload_n 0, 1) := by decide +kernel
theorem dX11_judge_61 : decode cX11_judge 61 = .ok (.iload 5, 2) := by decide +kernel
theorem dX11_judge_63 : decode cX11_judge 63 = .ok (.sipush 1000, 3) := by decide +kernel
theorem dX11_judge_66 : decode cX11_judge 66 = .ok (.idiv, 1) := by decide +kernel
theorem dX11_judge_67 : decode cX11_judge 67 = .ok (.iload 5, 2) := by decide +kernel
theorem dX11_judge_69 : decode cX11_judge 69 = .ok (.bipush 100, 2) := by decide +kernel
theorem dX11_judge_71 : decode cX11_judge 71 = .ok (.idiv, 1) := by decide +kernel
theorem dX11_judge_72 : decode cX11_judge 72 = .ok (.bipush 10, 2) := by decide +kernel
theorem dX11_judge_74 : decode cX11_judge 74 = .ok (.irem, 1) := by decide +kernel
theorem dX11_judge_75 : decode cX11_judge 75 = .ok (.iload 5, 2) := by decide +kernel
theorem dX11_judge_77 : decode cX11_judge 77 = .ok (.bipush 100, 2) := by decide +kernel
theorem dX11_judge_79 : decode cX11_judge 79 = .ok (.irem, 1) := by decide +kernel
theorem dX11_judge_80 : decode cX11_judge 80 = .ok (.invokevirtual 237, 3) := by decide +kernel
theorem dX11_judge_83 : decode cX11_judge 83 = .ok (.ifCond .ne 6, 3) := by decide +kernel
theorem dX11_judge_86 : decode cX11_judge 86 = .ok (.iload 4, 2) := by decide +kernel
theorem dX11_judge_88 : decode cX11_judge 88 = .ok (.ireturn, 1) := by decide +kernel
theorem dX11_judge_89 : decode cX11_judge 89 = .ok (.iinc 4 1, 3) := by decide +kernel
theorem dX11_judge_92 : decode cX11_judge 92 = .ok (.goto (-56), 3) := by decide +kernel
theorem dX11_judge_95 : decode cX11_judge 95 = .ok (.bipush (-9), 2) := by decide +kernel
theorem dX11_judge_97 : decode cX11_judge 97 = .ok (.ireturn, 1) := by decide +kernel
theorem dX11_see_0 : decode cX11_see 0 = .ok (.iload_n 2, 1) := by decide +kernel
theorem dX11_see_1 : decode cX11_see 1 = .ok (.invokestatic 133, 3) := by decide +kernel
theorem dX11_see_4 : decode cX11_see 4 = .ok (.ifCond .ne 5, 3) := by decide +kernel
theorem dX11_see_7 : decode cX11_see 7 = .ok (.iconst (-1), 1) := by decide +kernel
theorem dX11_see_8 : decode cX11_see 8 = .ok (.ireturn, 1) := by decide +kernel
theorem dX11_see_9 : decode cX11_see 9 = .ok (.iload_n 1, 1) := by decide +kernel
theorem dX11_see_10 : decode cX11_see 10 = .ok (.i2l, 1) := by decide +kernel
theorem dX11_see_11 : decode cX11_see 11 = .ok (.lconst 0, 1) := by decide +kernel
theorem dX11_see_12 : decode cX11_see 12 = .ok (.ldc2_w 222, 3) := by decide +kernel
theorem dX11_see_15 : decode cX11_see 15 = .ok (.invokestatic 49, 3) := by decide +kernel
theorem dX11_see_18 : decode cX11_see 18 = .ok (.ifCond .eq 13, 3) := by decide +kernel
theorem dX11_see_21 : decode cX11_see 21 = .ok (.iload_n 3, 1) := by decide +kernel
theorem dX11_see_22 : decode cX11_see 22 = .ok (.i2l, 1) := by decide +kernel
theorem dX11_see_23 : decode cX11_see 23 = .ok (.lconst 0, 1) := by decide +kernel
theorem dX11_see_24 : decode cX11_see 24 = .ok (.lconst 1, 1) := by decide +kernel
theorem dX11_see_25 : decode cX11_see 25 = .ok (.invokestatic 49, 3) := by decide +kernel
theorem dX11_see_28 : decode cX11_see 28 = .ok (.ifCond .ne 6, 3) := by decide +kernel
theorem dX11_see_31 : decode cX11_see 31 = .ok (.bipush (-2), 2) := by decide +kernel
theorem dX11_see_33 : decode cX11_see 33 = .ok (.ireturn, 1) := by decide +kernel
theorem dX11_see_34 : decode cX11_see 34 = .ok (.aload_n 0, 1) := by decide +kernel
theorem dX11_see_35 : decode cX11_see 35 = .ok (.getfield 240, 3) := by decide +kernel
theorem dX11_see_38 : decode cX11_see 38 = .ok (.bipush 6, 2) := by decide +kernel
theorem dX11_see_40 : decode cX11_see 40 = .ok (.if_icmp .ne 6, 3) := by decide +kernel
theorem dX11_see_43 : decode cX11_see 43 = .ok (.bipush (-4), 2) := by decide +kernel
theorem dX11_see_45 : decode cX11_see 45 = .ok (.ireturn, 1) := by decide +kernel
theorem dX11_see_46 : decode cX11_see 46 = .ok (.aload_n 0, 1) := by decide +kernel
theorem dX11_see_47 : decode cX11_see 47 = .ok (.getfield 31, 3) := by decide +kernel
theorem dX11_see_50 : decode cX11_see 50 = .ok (.aload_n 0, 1) := by decide +kernel
theorem dX11_see_51 : decode cX11_see 51 = .ok (.getfield 240, 3) := by decide +kernel
theorem dX11_see_54 : decode cX11_see 54 = .ok (.iload_n 1, 1) := by decide +kernel
theorem dX11_see_55 : decode cX11_see 55 = .ok (.iastore, 1) := by decide +kernel
theorem dX11_see_56 : decode cX11_see 56 = .ok (.aload_n 0, 1) := by decide +kernel
theorem dX11_see_57 : decode cX11_see 57 = .ok (.getfield 34, 3) := by decide +kernel
theorem dX11_see_60 : decode cX11_see 60 = .ok (.aload_n 0, 1) := by decide +kernel
theorem dX11_see_61 : decode cX11_see 61 = .ok (.getfield 240, 3) := by decide +kernel
theorem dX11_see_64 : decode cX11_see 64 = .ok (.iload_n 2, 1) := by decide +kernel
theorem dX11_see_65 : decode cX11_see 65 = .ok (.iastore, 1) := by decide +kernel
theorem dX11_see_66 : decode cX11_see 66 = .ok (.aload_n 0, 1) := by decide +kernel
theorem dX11_see_67 : decode cX11_see 67 = .ok (.getfield 37, 3) := by decide +kernel
theorem dX11_see_70 : decode cX11_see 70 = .ok (.aload_n 0, 1) := by decide +kernel
theorem dX11_see_71 : decode cX11_see 71 = .ok (.getfield 240, 3) := by decide +kernel
theorem dX11_see_74 : decode cX11_see 74 = .ok (.iload_n 3, 1) := by decide +kernel
theorem dX11_see_75 : decode cX11_see 75 = .ok (.iastore, 1) := by decide +kernel
theorem dX11_see_76 : decode cX11_see 76 = .ok (.aload_n 0, 1) := by decide +kernel
theorem dX11_see_77 : decode cX11_see 77 = .ok (.dup, 1) := by decide +kernel
theorem dX11_see_78 : decode cX11_see 78 = .ok (.getfield 240, 3) := by decide +kernel
theorem dX11_see_81 : decode cX11_see 81 = .ok (.iconst 1, 1) := by decide +kernel
theorem dX11_see_82 : decode cX11_see 82 = .ok (.iadd, 1) := by decide +kernel
theorem dX11_see_83 : decode cX11_see 83 = .ok (.putfield 240, 3) := by decide +kernel
theorem dX11_see_86 : decode cX11_see 86 = .ok (.aload_n 0, 1) := by decide +kernel
theorem dX11_see_87 : decode cX11_see 87 = .ok (.getfield 240, 3) := by decide +kernel
theorem dX11_see_90 : decode cX11_see 90 = .ok (.ireturn, 1) := by decide +kernel
theorem dX11_unsee_0 : decode cX11_unsee 0 = .ok (.aload_n 0, 1) := by decide +kernel
theorem dX11_unsee_1 : decode cX11_unsee 1 = .ok (.getfield 240, 3) := by decide +kernel
theorem dX11_unsee_4 : decode cX11_unsee 4 = .ok (.istore_n 1, 1) := by decide +kernel
theorem dX11_unsee_5 : decode cX11_unsee 5 = .ok (.aload_n 0, 1) := by decide +kernel
theorem dX11_unsee_6 : decode cX11_unsee 6 = .ok (.iconst 0, 1) := by decide +kernel
theorem dX11_unsee_7 : decode cX11_unsee 7 = .ok (.putfield 240, 3) := by decide +kernel
theorem dX11_unsee_10 : decode cX11_unsee 10 = .ok (.iload_n 1, 1) := by decide +kernel
theorem dX11_unsee_11 : decode cX11_unsee 11 = .ok (.ireturn, 1) := by decide +kernel
theorem dX11_stars_0 : decode cX11_stars 0 = .ok (.iload_n 1, 1) := by decide +kernel
theorem dX11_stars_1 : decode cX11_stars 1 = .ok (.i2l, 1) := by decide +kernel
theorem dX11_stars_2 : decode cX11_stars 2 = .ok (.lconst 0, 1) := by decide +kernel
theorem dX11_stars_3 : decode cX11_stars 3 = .ok (.lconst 1, 1) := by decide +kernel
theorem dX11_stars_4 : decode cX11_stars 4 = .ok (.invokestatic 49, 3) := by decide +kernel
theorem dX11_stars_7 : decode cX11_stars 7 = .ok (.ifCond .ne 6, 3) := by decide +kernel
theorem dX11_stars_10 : decode cX11_stars 10 = .ok (.bipush (-2), 2) := by decide +kernel
theorem dX11_stars_12 : decode cX11_stars 12 = .ok (.ireturn, 1) := by decide +kernel
theorem dX11_stars_13 : decode cX11_stars 13 = .ok (.iconst 0, 1) := by decide +kernel
theorem dX11_stars_14 : decode cX11_stars 14 = .ok (.istore_n 2, 1) := by decide +kernel
theorem dX11_stars_15 : decode cX11_stars 15 = .ok (.bipush (-9), 2) := by decide +kernel
theorem dX11_stars_17 : decode cX11_stars 17 = .ok (.istore_n 3, 1) := by decide +kernel
theorem dX11_stars_18 : decode cX11_stars 18 = .ok (.iconst 0, 1) := by decide +kernel
theorem dX11_stars_19 : decode cX11_stars 19 = .ok (.istore 4, 2) := by decide +kernel
theorem dX11_stars_21 : decode cX11_stars 21 = .ok (.iload 4, 2) := by decide +kernel
theorem dX11_stars_23 : decode cX11_stars 23 = .ok (.sipush 132, 3) := by decide +kernel
theorem dX11_stars_26 : decode cX11_stars 26 = .ok (.if_icmp .ge 143, 3) := by decide +kernel
theorem dX11_stars_29 : decode cX11_stars 29 = .ok (.iload 4, 2) := by decide +kernel
theorem dX11_stars_31 : decode cX11_stars 31 = .ok (.bipush 11, 2) := by decide +kernel
theorem dX11_stars_33 : decode cX11_stars 33 = .ok (.idiv, 1) := by decide +kernel
theorem dX11_stars_34 : decode cX11_stars 34 = .ok (.istore 5, 2) := by decide +kernel
theorem dX11_stars_36 : decode cX11_stars 36 = .ok (.iconst 1, 1) := by decide +kernel
theorem dX11_stars_37 : decode cX11_stars 37 = .ok (.iload 4, 2) := by decide +kernel
theorem dX11_stars_39 : decode cX11_stars 39 = .ok (.bipush 11, 2) := by decide +kernel
theorem dX11_stars_41 : decode cX11_stars 41 = .ok (.irem, 1) := by decide +kernel
theorem dX11_stars_42 : decode cX11_stars 42 = .ok (.iadd, 1) := by decide +kernel
theorem dX11_stars_43 : decode cX11_stars 43 = .ok (.istore 6, 2) := by decide +kernel
theorem dX11_stars_45 : decode cX11_stars 45 = .ok (.iconst 1, 1) := by decide +kernel
theorem dX11_stars_46 : decode cX11_stars 46 = .ok (.istore 7, 2) := by decide +kernel
theorem dX11_stars_48 : decode cX11_stars 48 = .ok (.iconst 0, 1) := by decide +kernel
theorem dX11_stars_49 : decode cX11_stars 49 = .ok (.istore 8, 2) := by decide +kernel
theorem dX11_stars_51 : decode cX11_stars 51 = .ok (.iload 8, 2) := by decide +kernel
theorem dX11_stars_53 : decode cX11_stars 53 = .ok (.aload_n 0, 1) := by decide +kernel
theorem dX11_stars_54 : decode cX11_stars 54 = .ok (.getfield 240, 3) := by decide +kernel
theorem dX11_stars_57 : decode cX11_stars 57 = .ok (.if_icmp .ge 71, 3) := by decide +kernel
theorem dX11_stars_60 : decode cX11_stars 60 = .ok (.iload 7, 2) := by decide +kernel
theorem dX11_stars_62 : decode cX11_stars 62 = .ok (.ifCond .eq 57, 3) := by decide +kernel
theorem dX11_stars_65 : decode cX11_stars 65 = .ok (.iload 5, 2) := by decide +kernel
theorem dX11_stars_67 : decode cX11_stars 67 = .ok (.iload 6, 2) := by decide +kernel
theorem dX11_stars_69 : decode cX11_stars 69 = .ok (.aload_n 0, 1) := by decide +kernel
theorem dX11_stars_70 : decode cX11_stars 70 = .ok (.getfield 31, 3) := by decide +kernel
theorem dX11_stars_73 : decode cX11_stars 73 = .ok (.iload 8, 2) := by decide +kernel
theorem dX11_stars_75 : decode cX11_stars 75 = .ok (.iaload, 1) := by decide +kernel
theorem dX11_stars_76 : decode cX11_stars 76 = .ok (.imul, 1) := by decide +kernel
theorem dX11_stars_77 : decode cX11_stars 77 = .ok (.iadd, 1) := by decide +kernel
theorem dX11_stars_78 : decode cX11_stars 78 = .ok (.bipush 12, 2) := by decide +kernel
theorem dX11_stars_80 : decode cX11_stars 80 = .ok (.irem, 1) := by decide +kernel
theorem dX11_stars_81 : decode cX11_stars 81 = .ok (.aload_n 0, 1) := by decide +kernel
theorem dX11_stars_82 : decode cX11_stars 82 = .ok (.getfield 34, 3) := by decide +kernel
theorem dX11_stars_85 : decode cX11_stars 85 = .ok (.iload 8, 2) := by decide +kernel
theorem dX11_stars_87 : decode cX11_stars 87 = .ok (.iaload, 1) := by decide +kernel
theorem dX11_stars_88 : decode cX11_stars 88 = .ok (.if_icmp .ne 7, 3) := by decide +kernel
theorem dX11_stars_91 : decode cX11_stars 91 = .ok (.iconst 1, 1) := by decide +kernel
theorem dX11_stars_92 : decode cX11_stars 92 = .ok (.goto 4, 3) := by decide +kernel
theorem dX11_stars_95 : decode cX11_stars 95 = .ok (.iconst 0, 1) := by decide +kernel
theorem dX11_stars_96 : decode cX11_stars 96 = .ok (.aload_n 0, 1) := by decide +kernel
theorem dX11_stars_97 : decode cX11_stars 97 = .ok (.getfield 37, 3) := by decide +kernel
theorem dX11_stars_100 : decode cX11_stars 100 = .ok (.iload 8, 2) := by decide +kernel
theorem dX11_stars_102 : decode cX11_stars 102 = .ok (.iaload, 1) := by decide +kernel
theorem dX11_stars_103 : decode cX11_stars 103 = .ok (.iconst 1, 1) := by decide +kernel
theorem dX11_stars_104 : decode cX11_stars 104 = .ok (.if_icmp .ne 7, 3) := by decide +kernel
theorem dX11_stars_107 : decode cX11_stars 107 = .ok (.iconst 1, 1) := by decide +kernel
theorem dX11_stars_108 : decode cX11_stars 108 = .ok (.goto 4, 3) := by decide +kernel
theorem dX11_stars_111 : decode cX11_stars 111 = .ok (.iconst 0, 1) := by decide +kernel
theorem dX11_stars_112 : decode cX11_stars 112 = .ok (.if_icmp .ne 7, 3) := by decide +kernel
theorem dX11_stars_115 : decode cX11_stars 115 = .ok (.iconst 1, 1) := by decide +kernel
theorem dX11_stars_116 : decode cX11_stars 116 = .ok (.goto 4, 3) := by decide +kernel
theorem dX11_stars_119 : decode cX11_stars 119 = .ok (.iconst 0, 1) := by decide +kernel
theorem dX11_stars_120 : decode cX11_stars 120 = .ok (.istore 7, 2) := by decide +kernel
theorem dX11_stars_122 : decode cX11_stars 122 = .ok (.iinc 8 1, 3) := by decide +kernel
theorem dX11_stars_125 : decode cX11_stars 125 = .ok (.goto (-74), 3) := by decide +kernel
theorem dX11_stars_128 : decode cX11_stars 128 = .ok (.iload 7, 2) := by decide +kernel
theorem dX11_stars_130 : decode cX11_stars 130 = .ok (.ifCond .eq 18, 3) := by decide +kernel
theorem dX11_stars_133 : decode cX11_stars 133 = .ok (.iload_n 2, 1) := by decide +kernel
theorem dX11_stars_134 : decode cX11_stars 134 = .ok (.ifCond .ne 14, 3) := by decide +kernel
theorem dX11_stars_137 : decode cX11_stars 137 = .ok (.bipush 100, 2) := by decide +kernel
theorem dX11_stars_139 : decode cX11_stars 139 = .ok (.iload 5, 2) := by decide +kernel
theorem dX11_stars_141 : decode cX11_stars 141 = .ok (.imul, 1) := by decide +kernel
theorem dX11_stars_142 : decode cX11_stars 142 = .ok (.iload 6, 2) := by decide +kernel
theorem dX11_stars_144 : decode cX11_stars 144 = .ok (.iadd, 1) := by decide +kernel
theorem dX11_stars_145 : decode cX11_stars 145 = .ok (.goto 4, 3) := by decide +kernel
theorem dX11_stars_148 : decode cX11_stars 148 = .ok (.iload_n 3, 1) := by decide +kernel
theorem dX11_stars_149 : decode cX11_stars 149 = .ok (.istore_n 3, 1) := by decide +kernel
theorem dX11_stars_150 : decode cX11_stars 150 = .ok (.iload_n 2, 1) := by decide +kernel
theorem dX11_stars_151 : decode cX11_stars 151 = .ok (.iload 7, 2) := by decide +kernel
theorem dX11_stars_153 : decode cX11_stars 153 = .ok (.ifCond .eq 7, 3) := by decide +kernel
theorem dX11_stars_156 : decode cX11_stars 156 = .ok (.iconst 1, 1) := by decide +kernel
theorem dX11_stars_157 : decode cX11_stars 157 = .ok (.goto 4, 3) := by decide +kernel
theorem dX11_stars_160 : decode cX11_stars 160 = .ok (.iconst 0, 1) := by decide +kernel
theorem dX11_stars_161 : decode cX11_stars 161 = .ok (.iadd, 1) := by decide +kernel
theorem dX11_stars_162 : decode cX11_stars 162 = .ok (.istore_n 2, 1) := by decide +kernel
theorem dX11_stars_163 : decode cX11_stars 163 = .ok (.iinc 4 1, 3) := by decide +kernel
theorem dX11_stars_166 : decode cX11_stars 166 = .ok (.goto (-145), 3) := by decide +kernel
theorem dX11_stars_169 : decode cX11_stars 169 = .ok (.iload_n 1, 1) := by decide +kernel
theorem dX11_stars_170 : decode cX11_stars 170 = .ok (.ifCond .ne 7, 3) := by decide +kernel
theorem dX11_stars_173 : decode cX11_stars 173 = .ok (.iload_n 2, 1) := by decide +kernel
theorem dX11_stars_174 : decode cX11_stars 174 = .ok (.goto 4, 3) := by decide +kernel
theorem dX11_stars_177 : decode cX11_stars 177 = .ok (.iload_n 3, 1) := by decide +kernel
theorem dX11_stars_178 : decode cX11_stars 178 = .ok (.ireturn, 1) := by decide +kernel
theorem dX11_factorial_0 : decode cX11_factorial 0 = .ok (.iconst 1, 1) := by decide +kernel
theorem dX11_factorial_1 : decode cX11_factorial 1 = .ok (.istore_n 1, 1) := by decide +kernel
theorem dX11_factorial_2 : decode cX11_factorial 2 = .ok (.iconst 2, 1) := by decide +kernel
theorem dX11_factorial_3 : decode cX11_factorial 3 = .ok (.istore_n 2, 1) := by decide +kernel
theorem dX11_factorial_4 : decode cX11_factorial 4 = .ok (.iload_n 2, 1) := by decide +kernel
theorem dX11_factorial_5 : decode cX11_factorial 5 = .ok (.iload_n 0, 1) := by decide +kernel
theorem dX11_factorial_6 : decode cX11_factorial 6 = .ok (.if_icmp .gt 13, 3) := by decide +kernel
theorem dX11_factorial_9 : decode cX11_factorial 9 = .ok (.iload_n 1, 1) := by decide +kernel
theorem dX11_factorial_10 : decode cX11_factorial 10 = .ok (.iload_n 2, 1) := by decide +kernel
theorem dX11_factorial_11 : decode cX11_factorial 11 = .ok (.imul, 1) := by decide +kernel
theorem dX11_factorial_12 : decode cX11_factorial 12 = .ok (.istore_n 1, 1) := by decide +kernel
theorem dX11_factorial_13 : decode cX11_factorial 13 = .ok (.iinc 2 1, 3) := by decide +kernel
theorem dX11_factorial_16 : decode cX11_factorial 16 = .ok (.goto (-12), 3) := by decide +kernel
theorem dX11_factorial_19 : decode cX11_factorial 19 = .ok (.iload_n 1, 1) := by decide +kernel
theorem dX11_factorial_20 : decode cX11_factorial 20 = .ok (.ireturn, 1) := by decide +kernel
theorem dX11_common_0 : decode cX11_common 0 = .ok (.iload_n 0, 1) := by decide +kernel
theorem dX11_common_1 : decode cX11_common 1 = .ok (.ifCond .ge 8, 3) := by decide +kernel
theorem dX11_common_4 : decode cX11_common 4 = .ok (.iload_n 0, 1) := by decide +kernel
theorem dX11_common_5 : decode cX11_common 5 = .ok (.ineg, 1) := by decide +kernel
theorem dX11_common_6 : decode cX11_common 6 = .ok (.goto 4, 3) := by decide +kernel
theorem dX11_common_9 : decode cX11_common 9 = .ok (.iload_n 0, 1) := by decide +kernel
theorem dX11_common_10 : decode cX11_common 10 = .ok (.istore_n 2, 1) := by decide +kernel
theorem dX11_common_11 : decode cX11_common 11 = .ok (.iload_n 1, 1) := by decide +kernel
theorem dX11_common_12 : decode cX11_common 12 = .ok (.istore_n 3, 1) := by decide +kernel
theorem dX11_common_13 : decode cX11_common 13 = .ok (.iload_n 3, 1) := by decide +kernel
theorem dX11_common_14 : decode cX11_common 14 = .ok (.ifCond .eq 16, 3) := by decide +kernel
theorem dX11_common_17 : decode cX11_common 17 = .ok (.iload_n 2, 1) := by decide +kernel
theorem dX11_common_18 : decode cX11_common 18 = .ok (.iload_n 3, 1) := by decide +kernel
theorem dX11_common_19 : decode cX11_common 19 = .ok (.irem, 1) := by decide +kernel
theorem dX11_common_20 : decode cX11_common 20 = .ok (.istore 4, 2) := by decide +kernel
theorem dX11_common_22 : decode cX11_common 22 = .ok (.iload_n 3, 1) := by decide +kernel
theorem dX11_common_23 : decode cX11_common 23 = .ok (.istore_n 2, 1) := by decide +kernel
theorem dX11_common_24 : decode cX11_common 24 = .ok (.iload 4, 2) := by decide +kernel
theorem dX11_common_26 : decode cX11_common 26 = .ok (.istore_n 3, 1) := by decide +kernel
theorem dX11_common_27 : decode cX11_common 27 = .ok (.goto (-14), 3) := by decide +kernel
theorem dX11_common_30 : decode cX11_common 30 = .ok (.iload_n 2, 1) := by decide +kernel
theorem dX11_common_31 : decode cX11_common 31 = .ok (.ireturn, 1) := by decide +kernel
theorem dX11_share_0 : decode cX11_share 0 = .ok (.aload_n 0, 1) := by decide +kernel
theorem dX11_share_1 : decode cX11_share 1 = .ok (.iload_n 1, 1) := by decide +kernel
theorem dX11_share_2 : decode cX11_share 2 = .ok (.invokevirtual 159, 3) := by decide +kernel
theorem dX11_share_5 : decode cX11_share 5 = .ok (.ifCond .ne 5, 3) := by decide +kernel
theorem dX11_share_8 : decode cX11_share 8 = .ok (.iconst (-1), 1) := by decide +kernel
theorem dX11_share_9 : decode cX11_share 9 = .ok (.ireturn, 1) := by decide +kernel
theorem dX11_share_10 : decode cX11_share 10 = .ok (.iconst 0, 1) := by decide +kernel
theorem dX11_share_11 : decode cX11_share 11 = .ok (.istore_n 3, 1) := by decide +kernel
theorem dX11_share_12 : decode cX11_share 12 = .ok (.iconst 0, 1) := by decide +kernel
theorem dX11_share_13 : decode cX11_share 13 = .ok (.istore 4, 2) := by decide +kernel
theorem dX11_share_15 : decode cX11_share 15 = .ok (.iload 4, 2) := by decide +kernel
theorem dX11_share_17 : decode cX11_share 17 = .ok (.iconst 1, 1) := by decide +kernel
theorem dX11_share_18 : decode cX11_share 18 = .ok (.aload_n 0, 1) := by decide +kernel
theorem dX11_share_19 : decode cX11_share 19 = .ok (.getfield 115, 3) := by decide +kernel
theorem dX11_share_22 : decode cX11_share 22 = .ok (.ishl, 1) := by decide +kernel
theorem dX11_share_23 : decode cX11_share 23 = .ok (.if_icmp .ge 69, 3) := by decide +kernel
theorem dX11_share_26 : decode cX11_share 26 = .ok (.iload 4, 2) := by decide +kernel
theorem dX11_share_28 : decode cX11_share 28 = .ok (.iload_n 1, 1) := by decide +kernel
theorem dX11_share_29 : decode cX11_share 29 = .ok (.invokestatic 201, 3) := by decide +kernel
theorem dX11_share_32 : decode cX11_share 32 = .ok (.ifCond .ne 54, 3) := by decide +kernel
theorem dX11_share_35 : decode cX11_share 35 = .ok (.iload 4, 2) := by decide +kernel
theorem dX11_share_37 : decode cX11_share 37 = .ok (.invokestatic 243, 3) := by decide +kernel
theorem dX11_share_40 : decode cX11_share 40 = .ok (.invokestatic 246, 3) := by decide +kernel
theorem dX11_share_43 : decode cX11_share 43 = .ok (.aload_n 0, 1) := by decide +kernel
theorem dX11_share_44 : decode cX11_share 44 = .ok (.getfield 115, 3) := by decide +kernel
theorem dX11_share_47 : decode cX11_share 47 = .ok (.iconst 1, 1) := by decide +kernel
theorem dX11_share_48 : decode cX11_share 48 = .ok (.isub, 1) := by decide +kernel
theorem dX11_share_49 : decode cX11_share 49 = .ok (.iload 4, 2) := by decide +kernel
theorem dX11_share_51 : decode cX11_share 51 = .ok (.invokestatic 243, 3) := by decide +kernel
theorem dX11_share_54 : decode cX11_share 54 = .ok (.isub, 1) := by decide +kernel
theorem dX11_share_55 : decode cX11_share 55 = .ok (.invokestatic 246, 3) := by decide +kernel
theorem dX11_share_58 : decode cX11_share 58 = .ok (.imul, 1) := by decide +kernel
theorem dX11_share_59 : decode cX11_share 59 = .ok (.istore 5, 2) := by decide +kernel
theorem dX11_share_61 : decode cX11_share 61 = .ok (.iload_n 3, 1) := by decide +kernel
theorem dX11_share_62 : decode cX11_share 62 = .ok (.iload 5, 2) := by decide +kernel
theorem dX11_share_64 : decode cX11_share 64 = .ok (.aload_n 0, 1) := by decide +kernel
theorem dX11_share_65 : decode cX11_share 65 = .ok (.iconst 0, 1) := by decide +kernel
theorem dX11_share_66 : decode cX11_share 66 = .ok (.iload 4, 2) := by decide +kernel
theorem dX11_share_68 : decode cX11_share 68 = .ok (.iconst 1, 1) := by decide +kernel
theorem dX11_share_69 : decode cX11_share 69 = .ok (.iload_n 1, 1) := by decide +kernel
theorem dX11_share_70 : decode cX11_share 70 = .ok (.ishl, 1) := by decide +kernel
theorem dX11_share_71 : decode cX11_share 71 = .ok (.ior, 1) := by decide +kernel
theorem dX11_share_72 : decode cX11_share 72 = .ok (.invokevirtual 204, 3) := by decide +kernel
theorem dX11_share_75 : decode cX11_share 75 = .ok (.aload_n 0, 1) := by decide +kernel
theorem dX11_share_76 : decode cX11_share 76 = .ok (.iconst 0, 1) := by decide +kernel
theorem dX11_share_77 : decode cX11_share 77 = .ok (.iload 4, 2) := by decide +kernel
theorem dX11_share_79 : decode cX11_share 79 = .ok (.invokevirtual 204, 3) := by decide +kernel
theorem dX11_share_82 : decode cX11_share 82 = .ok (.isub, 1) := by decide +kernel
theorem dX11_share_83 : decode cX11_share 83 = .ok (.imul, 1) := by decide +kernel
theorem dX11_share_84 : decode cX11_share 84 = .ok (.iadd, 1) := by decide +kernel
theorem dX11_share_85 : decode cX11_share 85 = .ok (.istore_n 3, 1) := by decide +kernel
theorem dX11_share_86 : decode cX11_share 86 = .ok (.iinc 4 1, 3) := by decide +kernel
theorem dX11_share_89 : decode cX11_share 89 = .ok (.goto (-74), 3) := by decide +kernel
theorem dX11_share_92 : decode cX11_share 92 = .ok (.iload_n 3, 1) := by decide +kernel
theorem dX11_share_93 : decode cX11_share 93 = .ok (.aload_n 0, 1) := by decide +kernel
theorem dX11_share_94 : decode cX11_share 94 = .ok (.getfield 115, 3) := by decide +kernel
theorem dX11_share_97 : decode cX11_share 97 = .ok (.invokestatic 246, 3) := by decide +kernel
theorem dX11_share_100 : decode cX11_share 100 = .ok (.invokestatic 249, 3) := by decide +kernel
theorem dX11_share_103 : decode cX11_share 103 = .ok (.istore 4, 2) := by decide +kernel
theorem dX11_share_105 : decode cX11_share 105 = .ok (.iload_n 2, 1) := by decide +kernel
theorem dX11_share_106 : decode cX11_share 106 = .ok (.ifCond .eq 10, 3) := by decide +kernel
theorem dX11_share_109 : decode cX11_share 109 = .ok (.iload_n 3, 1) := by decide +kernel
theorem dX11_share_110 : decode cX11_share 110 = .ok (.iload 4, 2) := by decide +kernel
theorem dX11_share_112 : decode cX11_share 112 = .ok (.idiv, 1) := by decide +kernel
theorem dX11_share_113 : decode cX11_share 113 = .ok (.goto 13, 3) := by decide +kernel
theorem dX11_share_116 : decode cX11_share 116 = .ok (.aload_n 0, 1) := by decide +kernel
theorem dX11_share_117 : decode cX11_share 117 = .ok (.getfield 115, 3) := by decide +kernel
theorem dX11_share_120 : decode cX11_share 120 = .ok (.invokestatic 246, 3) := by decide +kernel
theorem dX11_share_123 : decode cX11_share 123 = .ok (.iload 4, 2) := by decide +kernel
theorem dX11_share_125 : decode cX11_share 125 = .ok (.idiv, 1) := by decide +kernel
theorem dX11_share_126 : decode cX11_share 126 = .ok (.ireturn, 1) := by decide +kernel
theorem dX11_choose_0 : decode cX11_choose 0 = .ok (.aload_n 0, 1) := by decide +kernel
theorem dX11_choose_1 : decode cX11_choose 1 = .ok (.getfield 13, 3) := by decide +kernel
theorem dX11_choose_4 : decode cX11_choose 4 = .ok (.bipush 53, 2) := by decide +kernel
theorem dX11_choose_6 : decode cX11_choose 6 = .ok (.iload_n 1, 1) := by decide +kernel
theorem dX11_choose_7 : decode cX11_choose 7 = .ok (.iadd, 1) := by decide +kernel
theorem dX11_choose_8 : decode cX11_choose 8 = .ok (.iaload, 1) := by decide +kernel
theorem dX11_choose_9 : decode cX11_choose 9 = .ok (.iconst 5, 1) := by decide +kernel
theorem dX11_choose_10 : decode cX11_choose 10 = .ok (.iadd, 1) := by decide +kernel
theorem dX11_choose_11 : decode cX11_choose 11 = .ok (.bipush 12, 2) := by decide +kernel
theorem dX11_choose_13 : decode cX11_choose 13 = .ok (.irem, 1) := by decide +kernel
theorem dX11_choose_14 : decode cX11_choose 14 = .ok (.istore_n 3, 1) := by decide +kernel
theorem dX11_choose_15 : decode cX11_choose 15 = .ok (.iload_n 2, 1) := by decide +kernel
theorem dX11_choose_16 : decode cX11_choose 16 = .ok (.iconst 1, 1) := by decide +kernel
theorem dX11_choose_17 : decode cX11_choose 17 = .ok (.if_icmp .ne 21, 3) := by decide +kernel
theorem dX11_choose_20 : decode cX11_choose 20 = .ok (.aload_n 0, 1) := by decide +kernel
theorem dX11_choose_21 : decode cX11_choose 21 = .ok (.iconst 1, 1) := by decide +kernel
theorem dX11_choose_22 : decode cX11_choose 22 = .ok (.iload_n 1, 1) := by decide +kernel
theorem dX11_choose_23 : decode cX11_choose 23 = .ok (.iload_n 3, 1) := by decide +kernel
theorem dX11_choose_24 : decode cX11_choose 24 = .ok (.invokevirtual 105, 3) := by decide +kernel
theorem dX11_choose_27 : decode cX11_choose 27 = .ok (.ifCond .eq 11, 3) := by decide +kernel
theorem dX11_choose_30 : decode cX11_choose 30 = .ok (.aload_n 0, 1) := by decide +kernel
theorem dX11_choose_31 : decode cX11_choose 31 = .ok (.iconst 1, 1) := by decide +kernel
theorem dX11_choose_32 : decode cX11_choose 32 = .ok (.iload_n 1, 1) := by decide +kernel
theorem dX11_choose_33 : decode cX11_choose 33 = .ok (.iload_n 3, 1) := by decide +kernel
theorem dX11_choose_34 : decode cX11_choose 34 = .ok (.invokevirtual 108, 3) := by decide +kernel
theorem dX11_choose_37 : decode cX11_choose 37 = .ok (.pop, 1) := by decide +kernel
theorem dX11_choose_38 : decode cX11_choose 38 = .ok (.return_, 1) := by decide +kernel
theorem dX11_gain_0 : decode cX11_gain 0 = .ok (.aload_n 0, 1) := by decide +kernel
theorem dX11_gain_1 : decode cX11_gain 1 = .ok (.invokevirtual 226, 3) := by decide +kernel
theorem dX11_gain_4 : decode cX11_gain 4 = .ok (.aload_n 0, 1) := by decide +kernel
theorem dX11_gain_5 : decode cX11_gain 5 = .ok (.iload_n 1, 1) := by decide +kernel
theorem dX11_gain_6 : decode cX11_gain 6 = .ok (.iload_n 3, 1) := by decide +kernel
theorem dX11_gain_7 : decode cX11_gain 7 = .ok (.invokevirtual 252, 3) := by decide +kernel
theorem dX11_gain_10 : decode cX11_gain 10 = .ok (.aload_n 0, 1) := by decide +kernel
theorem dX11_gain_11 : decode cX11_gain 11 = .ok (.iload_n 2, 1) := by decide +kernel
theorem dX11_gain_12 : decode cX11_gain 12 = .ok (.iload 4, 2) := by decide +kernel
theorem dX11_gain_14 : decode cX11_gain 14 = .ok (.invokevirtual 252, 3) := by decide +kernel
theorem dX11_gain_17 : decode cX11_gain 17 = .ok (.aload_n 0, 1) := by decide +kernel
theorem dX11_gain_18 : decode cX11_gain 18 = .ok (.iconst 1, 1) := by decide +kernel
theorem dX11_gain_19 : decode cX11_gain 19 = .ok (.iload 5, 2) := by decide +kernel
theorem dX11_gain_21 : decode cX11_gain 21 = .ok (.invokevirtual 162, 3) := by decide +kernel
theorem dX11_gain_24 : decode cX11_gain 24 = .ok (.istore 6, 2) := by decide +kernel
theorem dX11_gain_26 : decode cX11_gain 26 = .ok (.iload 6, 2) := by decide +kernel
theorem dX11_gain_28 : decode cX11_gain 28 = .ok (.bipush (-9), 2) := by decide +kernel
theorem dX11_gain_30 : decode cX11_gain 30 = .ok (.if_icmp .ne 5, 3) := by decide +kernel
theorem dX11_gain_33 : decode cX11_gain 33 = .ok (.iconst 0, 1) := by decide +kernel
theorem dX11_gain_34 : decode cX11_gain 34 = .ok (.ireturn, 1) := by decide +kernel
theorem dX11_gain_35 : decode cX11_gain 35 = .ok (.aload_n 0, 1) := by decide +kernel
theorem dX11_gain_36 : decode cX11_gain 36 = .ok (.iconst 1, 1) := by decide +kernel
theorem dX11_gain_37 : decode cX11_gain 37 = .ok (.iload 6, 2) := by decide +kernel
theorem dX11_gain_39 : decode cX11_gain 39 = .ok (.invokevirtual 124, 3) := by decide +kernel
theorem dX11_gain_42 : decode cX11_gain 42 = .ok (.istore 7, 2) := by decide +kernel
theorem dX11_gain_44 : decode cX11_gain 44 = .ok (.iconst 3, 1) := by decide +kernel
theorem dX11_gain_45 : decode cX11_gain 45 = .ok (.aload_n 0, 1) := by decide +kernel
theorem dX11_gain_46 : decode cX11_gain 46 = .ok (.iconst 1, 1) := by decide +kernel
theorem dX11_gain_47 : decode cX11_gain 47 = .ok (.bipush (-9), 2) := by decide +kernel
theorem dX11_gain_49 : decode cX11_gain 49 = .ok (.iload 7, 2) := by decide +kernel
theorem dX11_gain_51 : decode cX11_gain 51 = .ok (.invokestatic 61, 3) := by decide +kernel
theorem dX11_gain_54 : decode cX11_gain 54 = .ok (.iload 7, 2) := by decide +kernel
theorem dX11_gain_56 : decode cX11_gain 56 = .ok (.invokestatic 65, 3) := by decide +kernel
theorem dX11_gain_59 : decode cX11_gain 59 = .ok (.invokevirtual 143, 3) := by decide +kernel
theorem dX11_gain_62 : decode cX11_gain 62 = .ok (.imul, 1) := by decide +kernel
theorem dX11_gain_63 : decode cX11_gain 63 = .ok (.iload 7, 2) := by decide +kernel
theorem dX11_gain_65 : decode cX11_gain 65 = .ok (.invokestatic 61, 3) := by decide +kernel
theorem dX11_gain_68 : decode cX11_gain 68 = .ok (.iload 7, 2) := by decide +kernel
theorem dX11_gain_70 : decode cX11_gain 70 = .ok (.invokestatic 65, 3) := by decide +kernel
theorem dX11_gain_73 : decode cX11_gain 73 = .ok (.invokestatic 130, 3) := by decide +kernel
theorem dX11_gain_76 : decode cX11_gain 76 = .ok (.iconst 5, 1) := by decide +kernel
theorem dX11_gain_77 : decode cX11_gain 77 = .ok (.idiv, 1) := by decide +kernel
theorem dX11_gain_78 : decode cX11_gain 78 = .ok (.isub, 1) := by decide +kernel
theorem dX11_gain_79 : decode cX11_gain 79 = .ok (.ireturn, 1) := by decide +kernel
theorem dX11_isRest_0 : decode cX11_isRest 0 = .ok (.aload_n 0, 1) := by decide +kernel
theorem dX11_isRest_1 : decode cX11_isRest 1 = .ok (.iload_n 1, 1) := by decide +kernel
theorem dX11_isRest_2 : decode cX11_isRest 2 = .ok (.iload_n 2, 1) := by decide +kernel
theorem dX11_isRest_3 : decode cX11_isRest 3 = .ok (.iconst 1, 1) := by decide +kernel
theorem dX11_isRest_4 : decode cX11_isRest 4 = .ok (.iload_n 3, 1) := by decide +kernel
theorem dX11_isRest_5 : decode cX11_isRest 5 = .ok (.isub, 1) := by decide +kernel
theorem dX11_isRest_6 : decode cX11_isRest 6 = .ok (.iload 4, 2) := by decide +kernel
theorem dX11_isRest_8 : decode cX11_isRest 8 = .ok (.iload_n 1, 1) := by decide +kernel
theorem dX11_isRest_9 : decode cX11_isRest 9 = .ok (.invokevirtual 255, 3) := by decide +kernel
theorem dX11_isRest_12 : decode cX11_isRest 12 = .ok (.aload_n 0, 1) := by decide +kernel
theorem dX11_isRest_13 : decode cX11_isRest 13 = .ok (.iload_n 1, 1) := by decide +kernel
theorem dX11_isRest_14 : decode cX11_isRest 14 = .ok (.iload_n 2, 1) := by decide +kernel
theorem dX11_isRest_15 : decode cX11_isRest 15 = .ok (.iload_n 3, 1) := by decide +kernel
theorem dX11_isRest_16 : decode cX11_isRest 16 = .ok (.iload 4, 2) := by decide +kernel
theorem dX11_isRest_18 : decode cX11_isRest 18 = .ok (.iload_n 1, 1) := by decide +kernel
theorem dX11_isRest_19 : decode cX11_isRest 19 = .ok (.invokevirtual 255, 3) := by decide +kernel
theorem dX11_isRest_22 : decode cX11_isRest 22 = .ok (.if_icmp .gt 32, 3) := by decide +kernel
theorem dX11_isRest_25 : decode cX11_isRest 25 = .ok (.aload_n 0, 1) := by decide +kernel
theorem dX11_isRest_26 : decode cX11_isRest 26 = .ok (.iload_n 1, 1) := by decide +kernel
theorem dX11_isRest_27 : decode cX11_isRest 27 = .ok (.iload_n 2, 1) := by decide +kernel
theorem dX11_isRest_28 : decode cX11_isRest 28 = .ok (.iload_n 3, 1) := by decide +kernel
theorem dX11_isRest_29 : decode cX11_isRest 29 = .ok (.iconst 1, 1) := by decide +kernel
theorem dX11_isRest_30 : decode cX11_isRest 30 = .ok (.iload 4, 2) := by decide +kernel
theorem dX11_isRest_32 : decode cX11_isRest 32 = .ok (.isub, 1) := by decide +kernel
theorem dX11_isRest_33 : decode cX11_isRest 33 = .ok (.iload_n 2, 1) := by decide +kernel
theorem dX11_isRest_34 : decode cX11_isRest 34 = .ok (.invokevirtual 255, 3) := by decide +kernel
theorem dX11_isRest_37 : decode cX11_isRest 37 = .ok (.aload_n 0, 1) := by decide +kernel
theorem dX11_isRest_38 : decode cX11_isRest 38 = .ok (.iload_n 1, 1) := by decide +kernel
theorem dX11_isRest_39 : decode cX11_isRest 39 = .ok (.iload_n 2, 1) := by decide +kernel
theorem dX11_isRest_40 : decode cX11_isRest 40 = .ok (.iload_n 3, 1) := by decide +kernel
theorem dX11_isRest_41 : decode cX11_isRest 41 = .ok (.iload 4, 2) := by decide +kernel
theorem dX11_isRest_43 : decode cX11_isRest 43 = .ok (.iload_n 2, 1) := by decide +kernel
theorem dX11_isRest_44 : decode cX11_isRest 44 = .ok (.invokevirtual 255, 3) := by decide +kernel
theorem dX11_isRest_47 : decode cX11_isRest 47 = .ok (.if_icmp .gt 7, 3) := by decide +kernel
theorem dX11_isRest_50 : decode cX11_isRest 50 = .ok (.iconst 1, 1) := by decide +kernel
theorem dX11_isRest_51 : decode cX11_isRest 51 = .ok (.goto 4, 3) := by decide +kernel
theorem dX11_isRest_54 : decode cX11_isRest 54 = .ok (.iconst 0, 1) := by decide +kernel
theorem dX11_isRest_55 : decode cX11_isRest 55 = .ok (.ireturn, 1) := by decide +kernel
theorem dX11_rests_0 : decode cX11_rests 0 = .ok (.aload_n 0, 1) := by decide +kernel
theorem dX11_rests_1 : decode cX11_rests 1 = .ok (.iload_n 1, 1) := by decide +kernel
theorem dX11_rests_2 : decode cX11_rests 2 = .ok (.invokevirtual 159, 3) := by decide +kernel
theorem dX11_rests_5 : decode cX11_rests 5 = .ok (.ifCond .eq 11, 3) := by decide +kernel
theorem dX11_rests_8 : decode cX11_rests 8 = .ok (.aload_n 0, 1) := by decide +kernel
theorem dX11_rests_9 : decode cX11_rests 9 = .ok (.iload_n 2, 1) := by decide +kernel
theorem dX11_rests_10 : decode cX11_rests 10 = .ok (.invokevirtual 159, 3) := by decide +kernel
theorem dX11_rests_13 : decode cX11_rests 13 = .ok (.ifCond .ne 5, 3) := by decide +kernel
theorem dX11_rests_16 : decode cX11_rests 16 = .ok (.iconst (-1), 1) := by decide +kernel
theorem dX11_rests_17 : decode cX11_rests 17 = .ok (.ireturn, 1) := by decide +kernel
theorem dX11_rests_18 : decode cX11_rests 18 = .ok (.iload_n 1, 1) := by decide +kernel
theorem dX11_rests_19 : decode cX11_rests 19 = .ok (.iload_n 2, 1) := by decide +kernel
theorem dX11_rests_20 : decode cX11_rests 20 = .ok (.if_icmp .eq 13, 3) := by decide +kernel
theorem dX11_rests_23 : decode cX11_rests 23 = .ok (.iload_n 3, 1) := by decide +kernel
theorem dX11_rests_24 : decode cX11_rests 24 = .ok (.i2l, 1) := by decide +kernel
theorem dX11_rests_25 : decode cX11_rests 25 = .ok (.lconst 0, 1) := by decide +kernel
theorem dX11_rests_26 : decode cX11_rests 26 = .ok (.lconst 1, 1) := by decide +kernel
theorem dX11_rests_27 : decode cX11_rests 27 = .ok (.invokestatic 49, 3) := by decide +kernel
theorem dX11_rests_30 : decode cX11_rests 30 = .ok (.ifCond .ne 6, 3) := by decide +kernel
theorem dX11_rests_33 : decode cX11_rests 33 = .ok (.bipush (-2), 2) := by decide +kernel
theorem dX11_rests_35 : decode cX11_rests 35 = .ok (.ireturn, 1) := by decide +kernel
theorem dX11_rests_36 : decode cX11_rests 36 = .ok (.iconst 0, 1) := by decide +kernel
theorem dX11_rests_37 : decode cX11_rests 37 = .ok (.istore 4, 2) := by decide +kernel
theorem dX11_rests_39 : decode cX11_rests 39 = .ok (.bipush (-9), 2) := by decide +kernel
theorem dX11_rests_41 : decode cX11_rests 41 = .ok (.istore 5, 2) := by decide +kernel
theorem dX11_rests_43 : decode cX11_rests 43 = .ok (.iconst 0, 1) := by decide +kernel
theorem dX11_rests_44 : decode cX11_rests 44 = .ok (.istore 6, 2) := by decide +kernel
theorem dX11_rests_46 : decode cX11_rests 46 = .ok (.iload 6, 2) := by decide +kernel
theorem dX11_rests_48 : decode cX11_rests 48 = .ok (.iconst 4, 1) := by decide +kernel
theorem dX11_rests_49 : decode cX11_rests 49 = .ok (.if_icmp .ge 53, 3) := by decide +kernel
theorem dX11_rests_52 : decode cX11_rests 52 = .ok (.aload_n 0, 1) := by decide +kernel
theorem dX11_rests_53 : decode cX11_rests 53 = .ok (.iload_n 1, 1) := by decide +kernel
theorem dX11_rests_54 : decode cX11_rests 54 = .ok (.iload_n 2, 1) := by decide +kernel
theorem dX11_rests_55 : decode cX11_rests 55 = .ok (.iload 6, 2) := by decide +kernel
theorem dX11_rests_57 : decode cX11_rests 57 = .ok (.iconst 2, 1) := by decide +kernel
theorem dX11_rests_58 : decode cX11_rests 58 = .ok (.idiv, 1) := by decide +kernel
theorem dX11_rests_59 : decode cX11_rests 59 = .ok (.iload 6, 2) := by decide +kernel
theorem dX11_rests_61 : decode cX11_rests 61 = .ok (.iconst 2, 1) := by decide +kernel
theorem dX11_rests_62 : decode cX11_rests 62 = .ok (.irem, 1) := by decide +kernel
theorem dX11_rests_63 : decode cX11_rests 63 = .ok (.invokevirtual 259, 3) := by decide +kernel
theorem dX11_rests_66 : decode cX11_rests 66 = .ok (.ifCond .eq 30, 3) := by decide +kernel
theorem dX11_rests_69 : decode cX11_rests 69 = .ok (.iload 4, 2) := by decide +kernel
theorem dX11_rests_71 : decode cX11_rests 71 = .ok (.ifCond .ne 18, 3) := by decide +kernel
theorem dX11_rests_74 : decode cX11_rests 74 = .ok (.bipush 10, 2) := by decide +kernel
theorem dX11_rests_76 : decode cX11_rests 76 = .ok (.iload 6, 2) := by decide +kernel
theorem dX11_rests_78 : decode cX11_rests 78 = .ok (.iconst 2, 1) := by decide +kernel
theorem dX11_rests_79 : decode cX11_rests 79 = .ok (.idiv, 1) := by decide +kernel
theorem dX11_rests_80 : decode cX11_rests 80 = .ok (.imul, 1) := by decide +kernel
theorem dX11_rests_81 : decode cX11_rests 81 = .ok (.iload 6, 2) := by decide +kernel
theorem dX11_rests_83 : decode cX11_rests 83 = .ok (.iconst 2, 1) := by decide +kernel
theorem dX11_rests_84 : decode cX11_rests 84 = .ok (.irem, 1) := by decide +kernel
theorem dX11_rests_85 : decode cX11_rests 85 = .ok (.iadd, 1) := by decide +kernel
theorem dX11_rests_86 : decode cX11_rests 86 = .ok (.goto 5, 3) := by decide +kernel
theorem dX11_rests_89 : decode cX11_rests 89 = .ok (.iload 5, 2) := by decide +kernel
theorem dX11_rests_91 : decode cX11_rests 91 = .ok (.istore 5, 2) := by decide +kernel
theorem dX11_rests_93 : decode cX11_rests 93 = .ok (.iinc 4 1, 3) := by decide +kernel
theorem dX11_rests_96 : decode cX11_rests 96 = .ok (.iinc 6 1, 3) := by decide +kernel
theorem dX11_rests_99 : decode cX11_rests 99 = .ok (.goto (-53), 3) := by decide +kernel
theorem dX11_rests_102 : decode cX11_rests 102 = .ok (.iload_n 3, 1) := by decide +kernel
theorem dX11_rests_103 : decode cX11_rests 103 = .ok (.ifCond .ne 8, 3) := by decide +kernel
theorem dX11_rests_106 : decode cX11_rests 106 = .ok (.iload 4, 2) := by decide +kernel
theorem dX11_rests_108 : decode cX11_rests 108 = .ok (.goto 5, 3) := by decide +kernel
theorem dX11_rests_111 : decode cX11_rests 111 = .ok (.iload 5, 2) := by decide +kernel
theorem dX11_rests_113 : decode cX11_rests 113 = .ok (.ireturn, 1) := by decide +kernel
theorem dX11_snaps_0 : decode cX11_snaps 0 = .ok (.iload_n 1, 1) := by decide +kernel
theorem dX11_snaps_1 : decode cX11_snaps 1 = .ok (.i2l, 1) := by decide +kernel
theorem dX11_snaps_2 : decode cX11_snaps 2 = .ok (.lconst 0, 1) := by decide +kernel
theorem dX11_snaps_3 : decode cX11_snaps 3 = .ok (.ldc2_w 262, 3) := by decide +kernel
theorem dX11_snaps_6 : decode cX11_snaps 6 = .ok (.invokestatic 49, 3) := by decide +kernel
theorem dX11_snaps_9 : decode cX11_snaps 9 = .ok (.ifCond .eq 15, 3) := by decide +kernel
theorem dX11_snaps_12 : decode cX11_snaps 12 = .ok (.iload_n 2, 1) := by decide +kernel
theorem dX11_snaps_13 : decode cX11_snaps 13 = .ok (.i2l, 1) := by decide +kernel
theorem dX11_snaps_14 : decode cX11_snaps 14 = .ok (.lconst 0, 1) := by decide +kernel
theorem dX11_snaps_15 : decode cX11_snaps 15 = .ok (.ldc2_w 264, 3) := by decide +kernel
theorem dX11_snaps_18 : decode cX11_snaps 18 = .ok (.invokestatic 49, 3) := by decide +kernel
theorem dX11_snaps_21 : decode cX11_snaps 21 = .ok (.ifCond .ne 6, 3) := by decide +kernel
theorem dX11_snaps_24 : decode cX11_snaps 24 = .ok (.bipush (-2), 2) := by decide +kernel
theorem dX11_snaps_26 : decode cX11_snaps 26 = .ok (.ireturn, 1) := by decide +kernel
theorem dX11_snaps_27 : decode cX11_snaps 27 = .ok (.iconst 0, 1) := by decide +kernel
theorem dX11_snaps_28 : decode cX11_snaps 28 = .ok (.istore 4, 2) := by decide +kernel
theorem dX11_snaps_30 : decode cX11_snaps 30 = .ok (.iconst 0, 1) := by decide +kernel
theorem dX11_snaps_31 : decode cX11_snaps 31 = .ok (.istore 5, 2) := by decide +kernel
theorem dX11_snaps_33 : decode cX11_snaps 33 = .ok (.iconst 0, 1) := by decide +kernel
theorem dX11_snaps_34 : decode cX11_snaps 34 = .ok (.istore 6, 2) := by decide +kernel
theorem dX11_snaps_36 : decode cX11_snaps 36 = .ok (.iload 6, 2) := by decide +kernel
theorem dX11_snaps_38 : decode cX11_snaps 38 = .ok (.iconst 1, 1) := by decide +kernel
theorem dX11_snaps_39 : decode cX11_snaps 39 = .ok (.aload_n 0, 1) := by decide +kernel
theorem dX11_snaps_40 : decode cX11_snaps 40 = .ok (.getfield 115, 3) := by decide +kernel
theorem dX11_snaps_43 : decode cX11_snaps 43 = .ok (.ishl, 1) := by decide +kernel
theorem dX11_snaps_44 : decode cX11_snaps 44 = .ok (.if_icmp .ge 82, 3) := by decide +kernel
theorem dX11_snaps_47 : decode cX11_snaps 47 = .ok (.iconst 1, 1) := by decide +kernel
theorem dX11_snaps_48 : decode cX11_snaps 48 = .ok (.istore 7, 2) := by decide +kernel
theorem dX11_snaps_50 : decode cX11_snaps 50 = .ok (.iconst 0, 1) := by decide +kernel
theorem dX11_snaps_51 : decode cX11_snaps 51 = .ok (.istore 8, 2) := by decide +kernel
theorem dX11_snaps_53 : decode cX11_snaps 53 = .ok (.iload 8, 2) := by decide +kernel
theorem dX11_snaps_55 : decode cX11_snaps 55 = .ok (.aload_n 0, 1) := by decide +kernel
theorem dX11_snaps_56 : decode cX11_snaps 56 = .ok (.getfield 115, 3) := by decide +kernel
theorem dX11_snaps_59 : decode cX11_snaps 59 = .ok (.if_icmp .ge 32, 3) := by decide +kernel
theorem dX11_snaps_62 : decode cX11_snaps 62 = .ok (.iload 7, 2) := by decide +kernel
theorem dX11_snaps_64 : decode cX11_snaps 64 = .ok (.iload 6, 2) := by decide +kernel
theorem dX11_snaps_66 : decode cX11_snaps 66 = .ok (.iload 8, 2) := by decide +kernel
theorem dX11_snaps_68 : decode cX11_snaps 68 = .ok (.invokestatic 201, 3) := by decide +kernel
theorem dX11_snaps_71 : decode cX11_snaps 71 = .ok (.ifCond .eq 10, 3) := by decide +kernel
theorem dX11_snaps_74 : decode cX11_snaps 74 = .ok (.bipush 10, 2) := by decide +kernel
theorem dX11_snaps_76 : decode cX11_snaps 76 = .ok (.iload_n 2, 1) := by decide +kernel
theorem dX11_snaps_77 : decode cX11_snaps 77 = .ok (.isub, 1) := by decide +kernel
theorem dX11_snaps_78 : decode cX11_snaps 78 = .ok (.goto 4, 3) := by decide +kernel
theorem dX11_snaps_81 : decode cX11_snaps 81 = .ok (.iload_n 2, 1) := by decide +kernel
theorem dX11_snaps_82 : decode cX11_snaps 82 = .ok (.imul, 1) := by decide +kernel
theorem dX11_snaps_83 : decode cX11_snaps 83 = .ok (.istore 7, 2) := by decide +kernel
theorem dX11_snaps_85 : decode cX11_snaps 85 = .ok (.iinc 8 1, 3) := by decide +kernel
theorem dX11_snaps_88 : decode cX11_snaps 88 = .ok (.goto (-35), 3) := by decide +kernel
theorem dX11_snaps_91 : decode cX11_snaps 91 = .ok (.iload 5, 2) := by decide +kernel
theorem dX11_snaps_93 : decode cX11_snaps 93 = .ok (.iload 7, 2) := by decide +kernel
theorem dX11_snaps_95 : decode cX11_snaps 95 = .ok (.iadd, 1) := by decide +kernel
theorem dX11_snaps_96 : decode cX11_snaps 96 = .ok (.istore 5, 2) := by decide +kernel
theorem dX11_snaps_98 : decode cX11_snaps 98 = .ok (.iload 4, 2) := by decide +kernel
theorem dX11_snaps_100 : decode cX11_snaps 100 = .ok (.aload_n 0, 1) := by decide +kernel
theorem dX11_snaps_101 : decode cX11_snaps 101 = .ok (.iconst 0, 1) := by decide +kernel
theorem dX11_snaps_102 : decode cX11_snaps 102 = .ok (.iload 6, 2) := by decide +kernel
theorem dX11_snaps_104 : decode cX11_snaps 104 = .ok (.invokevirtual 204, 3) := by decide +kernel
theorem dX11_snaps_107 : decode cX11_snaps 107 = .ok (.iload_n 1, 1) := by decide +kernel
theorem dX11_snaps_108 : decode cX11_snaps 108 = .ok (.if_icmp .lt 8, 3) := by decide +kernel
theorem dX11_snaps_111 : decode cX11_snaps 111 = .ok (.iload 7, 2) := by decide +kernel
theorem dX11_snaps_113 : decode cX11_snaps 113 = .ok (.goto 4, 3) := by decide +kernel
theorem dX11_snaps_116 : decode cX11_snaps 116 = .ok (.iconst 0, 1) := by decide +kernel
theorem dX11_snaps_117 : decode cX11_snaps 117 = .ok (.iadd, 1) := by decide +kernel
theorem dX11_snaps_118 : decode cX11_snaps 118 = .ok (.istore 4, 2) := by decide +kernel
theorem dX11_snaps_120 : decode cX11_snaps 120 = .ok (.iinc 6 1, 3) := by decide +kernel
theorem dX11_snaps_123 : decode cX11_snaps 123 = .ok (.goto (-87), 3) := by decide +kernel
theorem dX11_snaps_126 : decode cX11_snaps 126 = .ok (.iload 4, 2) := by decide +kernel
theorem dX11_snaps_128 : decode cX11_snaps 128 = .ok (.iload 5, 2) := by decide +kernel
theorem dX11_snaps_130 : decode cX11_snaps 130 = .ok (.invokestatic 249, 3) := by decide +kernel
theorem dX11_snaps_133 : decode cX11_snaps 133 = .ok (.istore 6, 2) := by decide +kernel
theorem dX11_snaps_135 : decode cX11_snaps 135 = .ok (.iload_n 3, 1) := by decide +kernel
theorem dX11_snaps_136 : decode cX11_snaps 136 = .ok (.ifCond .eq 11, 3) := by decide +kernel
theorem dX11_snaps_139 : decode cX11_snaps 139 = .ok (.iload 4, 2) := by decide +kernel
theorem dX11_snaps_141 : decode cX11_snaps 141 = .ok (.iload 6, 2) := by decide +kernel
theorem dX11_snaps_143 : decode cX11_snaps 143 = .ok (.idiv, 1) := by decide +kernel
theorem dX11_snaps_144 : decode cX11_snaps 144 = .ok (.goto 8, 3) := by decide +kernel
theorem dX11_snaps_147 : decode cX11_snaps 147 = .ok (.iload 5, 2) := by decide +kernel
theorem dX11_snaps_149 : decode cX11_snaps 149 = .ok (.iload 6, 2) := by decide +kernel
theorem dX11_snaps_151 : decode cX11_snaps 151 = .ok (.idiv, 1) := by decide +kernel
theorem dX11_snaps_152 : decode cX11_snaps 152 = .ok (.ireturn, 1) := by decide +kernel
theorem dX11_seed_0 : decode cX11_seed 0 = .ok (.aload_n 0, 1) := by decide +kernel
theorem dX11_seed_1 : decode cX11_seed 1 = .ok (.getfield 266, 3) := by decide +kernel
theorem dX11_seed_4 : decode cX11_seed 4 = .ok (.lstore_n 3, 1) := by decide +kernel
theorem dX11_seed_5 : decode cX11_seed 5 = .ok (.aload_n 0, 1) := by decide +kernel
theorem dX11_seed_6 : decode cX11_seed 6 = .ok (.lload_n 1, 1) := by decide +kernel
theorem dX11_seed_7 : decode cX11_seed 7 = .ok (.putfield 266, 3) := by decide +kernel
theorem dX11_seed_10 : decode cX11_seed 10 = .ok (.lload_n 3, 1) := by decide +kernel
theorem dX11_seed_11 : decode cX11_seed 11 = .ok (.lreturn, 1) := by decide +kernel
theorem dX11_years_0 : decode cX11_years 0 = .ok (.iload_n 1, 1) := by decide +kernel
theorem dX11_years_1 : decode cX11_years 1 = .ok (.i2l, 1) := by decide +kernel
theorem dX11_years_2 : decode cX11_years 2 = .ok (.lconst 1, 1) := by decide +kernel
theorem dX11_years_3 : decode cX11_years 3 = .ok (.ldc2_w 270, 3) := by decide +kernel
theorem dX11_years_6 : decode cX11_years 6 = .ok (.invokestatic 49, 3) := by decide +kernel
theorem dX11_years_9 : decode cX11_years 9 = .ok (.ifCond .ne 6, 3) := by decide +kernel
theorem dX11_years_12 : decode cX11_years 12 = .ok (.bipush (-2), 2) := by decide +kernel
theorem dX11_years_14 : decode cX11_years 14 = .ok (.ireturn, 1) := by decide +kernel
theorem dX11_years_15 : decode cX11_years 15 = .ok (.aload_n 0, 1) := by decide +kernel
theorem dX11_years_16 : decode cX11_years 16 = .ok (.invokevirtual 226, 3) := by decide +kernel
theorem dX11_years_19 : decode cX11_years 19 = .ok (.iconst 0, 1) := by decide +kernel
theorem dX11_years_20 : decode cX11_years 20 = .ok (.istore_n 2, 1) := by decide +kernel
theorem dX11_years_21 : decode cX11_years 21 = .ok (.iconst 0, 1) := by decide +kernel
theorem dX11_years_22 : decode cX11_years 22 = .ok (.istore_n 3, 1) := by decide +kernel
theorem dX11_years_23 : decode cX11_years 23 = .ok (.iload_n 3, 1) := by decide +kernel
theorem dX11_years_24 : decode cX11_years 24 = .ok (.iload_n 1, 1) := by decide +kernel
theorem dX11_years_25 : decode cX11_years 25 = .ok (.if_icmp .ge 136, 3) := by decide +kernel
theorem dX11_years_28 : decode cX11_years 28 = .ok (.aload_n 0, 1) := by decide +kernel
theorem dX11_years_29 : decode cX11_years 29 = .ok (.aload_n 0, 1) := by decide +kernel
theorem dX11_years_30 : decode cX11_years 30 = .ok (.getfield 266, 3) := by decide +kernel
theorem dX11_years_33 : decode cX11_years 33 = .ok (.ldc2_w 272, 3) := by decide +kernel
theorem dX11_years_36 : decode cX11_years 36 = .ok (.lmul, 1) := by decide +kernel
theorem dX11_years_37 : decode cX11_years 37 = .ok (.ldc2_w 274, 3) := by decide +kernel
end
section
theorem dX11_years_40 : decode cX11_years 40 = .ok (.ladd, 1) := by decide +kernel
theorem dX11_years_41 : decode cX11_years 41 = .ok (.putfield 266, 3) := by decide +kernel
theorem dX11_years_44 : decode cX11_years 44 = .ok (.aload_n 0, 1) := by decide +kernel
theorem dX11_years_45 : decode cX11_years 45 = .ok (.getfield 266, 3) := by decide +kernel
theorem dX11_years_48 : decode cX11_years 48 = .ok (.bipush 33, 2) := by decide +kernel
theorem dX11_years_50 : decode cX11_years 50 = .ok (.lushr, 1) := by decide +kernel
theorem dX11_years_51 : decode cX11_years 51 = .ok (.ldc2_w 276, 3) := by decide +kernel
theorem dX11_years_54 : decode cX11_years 54 = .ok (.lrem, 1) := by decide +kernel
theorem dX11_years_55 : decode cX11_years 55 = .ok (.l2i, 1) := by decide +kernel
theorem dX11_years_56 : decode cX11_years 56 = .ok (.istore 4, 2) := by decide +kernel
theorem dX11_years_58 : decode cX11_years 58 = .ok (.iload 4, 2) := by decide +kernel
theorem dX11_years_60 : decode cX11_years 60 = .ok (.bipush 53, 2) := by decide +kernel
theorem dX11_years_62 : decode cX11_years 62 = .ok (.if_icmp .le 23, 3) := by decide +kernel
theorem dX11_years_65 : decode cX11_years 65 = .ok (.aload_n 0, 1) := by decide +kernel
theorem dX11_years_66 : decode cX11_years 66 = .ok (.iconst 1, 1) := by decide +kernel
theorem dX11_years_67 : decode cX11_years 67 = .ok (.iload 4, 2) := by decide +kernel
theorem dX11_years_69 : decode cX11_years 69 = .ok (.bipush 56, 2) := by decide +kernel
theorem dX11_years_71 : decode cX11_years 71 = .ok (.if_icmp .le 7, 3) := by decide +kernel
theorem dX11_years_74 : decode cX11_years 74 = .ok (.iconst 1, 1) := by decide +kernel
theorem dX11_years_75 : decode cX11_years 75 = .ok (.goto 4, 3) := by decide +kernel
theorem dX11_years_78 : decode cX11_years 78 = .ok (.iconst 0, 1) := by decide +kernel
theorem dX11_years_79 : decode cX11_years 79 = .ok (.invokevirtual 197, 3) := by decide +kernel
theorem dX11_years_82 : decode cX11_years 82 = .ok (.goto 63, 3) := by decide +kernel
theorem dX11_years_85 : decode cX11_years 85 = .ok (.iload 4, 2) := by decide +kernel
theorem dX11_years_87 : decode cX11_years 87 = .ok (.bipush 51, 2) := by decide +kernel
theorem dX11_years_89 : decode cX11_years 89 = .ok (.if_icmp .le 18, 3) := by decide +kernel
theorem dX11_years_92 : decode cX11_years 92 = .ok (.aload_n 0, 1) := by decide +kernel
theorem dX11_years_93 : decode cX11_years 93 = .ok (.iconst 3, 1) := by decide +kernel
theorem dX11_years_94 : decode cX11_years 94 = .ok (.iconst 0, 1) := by decide +kernel
theorem dX11_years_95 : decode cX11_years 95 = .ok (.iload 4, 2) := by decide +kernel
theorem dX11_years_97 : decode cX11_years 97 = .ok (.bipush 52, 2) := by decide +kernel
theorem dX11_years_99 : decode cX11_years 99 = .ok (.isub, 1) := by decide +kernel
theorem dX11_years_100 : decode cX11_years 100 = .ok (.invokevirtual 237, 3) := by decide +kernel
theorem dX11_years_103 : decode cX11_years 103 = .ok (.pop, 1) := by decide +kernel
theorem dX11_years_104 : decode cX11_years 104 = .ok (.goto 41, 3) := by decide +kernel
theorem dX11_years_107 : decode cX11_years 107 = .ok (.iload 4, 2) := by decide +kernel
theorem dX11_years_109 : decode cX11_years 109 = .ok (.bipush 47, 2) := by decide +kernel
theorem dX11_years_111 : decode cX11_years 111 = .ok (.if_icmp .le 18, 3) := by decide +kernel
theorem dX11_years_114 : decode cX11_years 114 = .ok (.aload_n 0, 1) := by decide +kernel
theorem dX11_years_115 : decode cX11_years 115 = .ok (.iconst 2, 1) := by decide +kernel
theorem dX11_years_116 : decode cX11_years 116 = .ok (.iconst 0, 1) := by decide +kernel
theorem dX11_years_117 : decode cX11_years 117 = .ok (.iload 4, 2) := by decide +kernel
theorem dX11_years_119 : decode cX11_years 119 = .ok (.bipush 48, 2) := by decide +kernel
theorem dX11_years_121 : decode cX11_years 121 = .ok (.isub, 1) := by decide +kernel
theorem dX11_years_122 : decode cX11_years 122 = .ok (.invokevirtual 237, 3) := by decide +kernel
theorem dX11_years_125 : decode cX11_years 125 = .ok (.pop, 1) := by decide +kernel
theorem dX11_years_126 : decode cX11_years 126 = .ok (.goto 19, 3) := by decide +kernel
theorem dX11_years_129 : decode cX11_years 129 = .ok (.aload_n 0, 1) := by decide +kernel
theorem dX11_years_130 : decode cX11_years 130 = .ok (.iconst 1, 1) := by decide +kernel
theorem dX11_years_131 : decode cX11_years 131 = .ok (.iload 4, 2) := by decide +kernel
theorem dX11_years_133 : decode cX11_years 133 = .ok (.bipush 12, 2) := by decide +kernel
theorem dX11_years_135 : decode cX11_years 135 = .ok (.idiv, 1) := by decide +kernel
theorem dX11_years_136 : decode cX11_years 136 = .ok (.iload 4, 2) := by decide +kernel
theorem dX11_years_138 : decode cX11_years 138 = .ok (.bipush 12, 2) := by decide +kernel
theorem dX11_years_140 : decode cX11_years 140 = .ok (.irem, 1) := by decide +kernel
theorem dX11_years_141 : decode cX11_years 141 = .ok (.invokevirtual 237, 3) := by decide +kernel
theorem dX11_years_144 : decode cX11_years 144 = .ok (.pop, 1) := by decide +kernel
theorem dX11_years_145 : decode cX11_years 145 = .ok (.iload_n 2, 1) := by decide +kernel
theorem dX11_years_146 : decode cX11_years 146 = .ok (.aload_n 0, 1) := by decide +kernel
theorem dX11_years_147 : decode cX11_years 147 = .ok (.iconst 1, 1) := by decide +kernel
theorem dX11_years_148 : decode cX11_years 148 = .ok (.bipush 15, 2) := by decide +kernel
theorem dX11_years_150 : decode cX11_years 150 = .ok (.invokevirtual 204, 3) := by decide +kernel
theorem dX11_years_153 : decode cX11_years 153 = .ok (.iadd, 1) := by decide +kernel
theorem dX11_years_154 : decode cX11_years 154 = .ok (.istore_n 2, 1) := by decide +kernel
theorem dX11_years_155 : decode cX11_years 155 = .ok (.iinc 3 1, 3) := by decide +kernel
theorem dX11_years_158 : decode cX11_years 158 = .ok (.goto (-135), 3) := by decide +kernel
theorem dX11_years_161 : decode cX11_years 161 = .ok (.iload_n 2, 1) := by decide +kernel
theorem dX11_years_162 : decode cX11_years 162 = .ok (.ireturn, 1) := by decide +kernel
theorem dX11_keep_0 : decode cX11_keep 0 = .ok (.iload_n 1, 1) := by decide +kernel
theorem dX11_keep_1 : decode cX11_keep 1 = .ok (.i2l, 1) := by decide +kernel
theorem dX11_keep_2 : decode cX11_keep 2 = .ok (.lconst 0, 1) := by decide +kernel
theorem dX11_keep_3 : decode cX11_keep 3 = .ok (.lconst 1, 1) := by decide +kernel
theorem dX11_keep_4 : decode cX11_keep 4 = .ok (.invokestatic 49, 3) := by decide +kernel
theorem dX11_keep_7 : decode cX11_keep 7 = .ok (.ifCond .ne 5, 3) := by decide +kernel
theorem dX11_keep_10 : decode cX11_keep 10 = .ok (.iconst (-1), 1) := by decide +kernel
theorem dX11_keep_11 : decode cX11_keep 11 = .ok (.ireturn, 1) := by decide +kernel
theorem dX11_keep_12 : decode cX11_keep 12 = .ok (.aload_n 0, 1) := by decide +kernel
theorem dX11_keep_13 : decode cX11_keep 13 = .ok (.getfield 40, 3) := by decide +kernel
theorem dX11_keep_16 : decode cX11_keep 16 = .ok (.iload_n 1, 1) := by decide +kernel
theorem dX11_keep_17 : decode cX11_keep 17 = .ok (.iconst 1, 1) := by decide +kernel
theorem dX11_keep_18 : decode cX11_keep 18 = .ok (.bastore, 1) := by decide +kernel
theorem dX11_keep_19 : decode cX11_keep 19 = .ok (.iconst 0, 1) := by decide +kernel
theorem dX11_keep_20 : decode cX11_keep 20 = .ok (.istore_n 2, 1) := by decide +kernel
theorem dX11_keep_21 : decode cX11_keep 21 = .ok (.iload_n 2, 1) := by decide +kernel
theorem dX11_keep_22 : decode cX11_keep 22 = .ok (.bipush 53, 2) := by decide +kernel
theorem dX11_keep_24 : decode cX11_keep 24 = .ok (.if_icmp .ge 26, 3) := by decide +kernel
theorem dX11_keep_27 : decode cX11_keep 27 = .ok (.aload_n 0, 1) := by decide +kernel
theorem dX11_keep_28 : decode cX11_keep 28 = .ok (.getfield 44, 3) := by decide +kernel
theorem dX11_keep_31 : decode cX11_keep 31 = .ok (.bipush 53, 2) := by decide +kernel
theorem dX11_keep_33 : decode cX11_keep 33 = .ok (.iload_n 1, 1) := by decide +kernel
theorem dX11_keep_34 : decode cX11_keep 34 = .ok (.imul, 1) := by decide +kernel
theorem dX11_keep_35 : decode cX11_keep 35 = .ok (.iload_n 2, 1) := by decide +kernel
theorem dX11_keep_36 : decode cX11_keep 36 = .ok (.iadd, 1) := by decide +kernel
theorem dX11_keep_37 : decode cX11_keep 37 = .ok (.aload_n 0, 1) := by decide +kernel
theorem dX11_keep_38 : decode cX11_keep 38 = .ok (.getfield 13, 3) := by decide +kernel
theorem dX11_keep_41 : decode cX11_keep 41 = .ok (.iload_n 2, 1) := by decide +kernel
theorem dX11_keep_42 : decode cX11_keep 42 = .ok (.iaload, 1) := by decide +kernel
theorem dX11_keep_43 : decode cX11_keep 43 = .ok (.iastore, 1) := by decide +kernel
theorem dX11_keep_44 : decode cX11_keep 44 = .ok (.iinc 2 1, 3) := by decide +kernel
theorem dX11_keep_47 : decode cX11_keep 47 = .ok (.goto (-26), 3) := by decide +kernel
theorem dX11_keep_50 : decode cX11_keep 50 = .ok (.aload_n 0, 1) := by decide +kernel
theorem dX11_keep_51 : decode cX11_keep 51 = .ok (.iconst 0, 1) := by decide +kernel
theorem dX11_keep_52 : decode cX11_keep 52 = .ok (.invokevirtual 121, 3) := by decide +kernel
theorem dX11_keep_55 : decode cX11_keep 55 = .ok (.ireturn, 1) := by decide +kernel
theorem dX11_again_0 : decode cX11_again 0 = .ok (.iload_n 1, 1) := by decide +kernel
theorem dX11_again_1 : decode cX11_again 1 = .ok (.i2l, 1) := by decide +kernel
theorem dX11_again_2 : decode cX11_again 2 = .ok (.lconst 0, 1) := by decide +kernel
theorem dX11_again_3 : decode cX11_again 3 = .ok (.lconst 1, 1) := by decide +kernel
theorem dX11_again_4 : decode cX11_again 4 = .ok (.invokestatic 49, 3) := by decide +kernel
theorem dX11_again_7 : decode cX11_again 7 = .ok (.ifCond .ne 5, 3) := by decide +kernel
theorem dX11_again_10 : decode cX11_again 10 = .ok (.iconst (-1), 1) := by decide +kernel
theorem dX11_again_11 : decode cX11_again 11 = .ok (.ireturn, 1) := by decide +kernel
theorem dX11_again_12 : decode cX11_again 12 = .ok (.aload_n 0, 1) := by decide +kernel
theorem dX11_again_13 : decode cX11_again 13 = .ok (.getfield 40, 3) := by decide +kernel
theorem dX11_again_16 : decode cX11_again 16 = .ok (.iload_n 1, 1) := by decide +kernel
theorem dX11_again_17 : decode cX11_again 17 = .ok (.baload, 1) := by decide +kernel
theorem dX11_again_18 : decode cX11_again 18 = .ok (.ifCond .ne 6, 3) := by decide +kernel
theorem dX11_again_21 : decode cX11_again 21 = .ok (.bipush (-3), 2) := by decide +kernel
theorem dX11_again_23 : decode cX11_again 23 = .ok (.ireturn, 1) := by decide +kernel
theorem dX11_again_24 : decode cX11_again 24 = .ok (.iconst 0, 1) := by decide +kernel
theorem dX11_again_25 : decode cX11_again 25 = .ok (.istore_n 2, 1) := by decide +kernel
theorem dX11_again_26 : decode cX11_again 26 = .ok (.iload_n 2, 1) := by decide +kernel
theorem dX11_again_27 : decode cX11_again 27 = .ok (.bipush 53, 2) := by decide +kernel
theorem dX11_again_29 : decode cX11_again 29 = .ok (.if_icmp .ge 26, 3) := by decide +kernel
theorem dX11_again_32 : decode cX11_again 32 = .ok (.aload_n 0, 1) := by decide +kernel
theorem dX11_again_33 : decode cX11_again 33 = .ok (.getfield 13, 3) := by decide +kernel
theorem dX11_again_36 : decode cX11_again 36 = .ok (.iload_n 2, 1) := by decide +kernel
theorem dX11_again_37 : decode cX11_again 37 = .ok (.aload_n 0, 1) := by decide +kernel
theorem dX11_again_38 : decode cX11_again 38 = .ok (.getfield 44, 3) := by decide +kernel
theorem dX11_again_41 : decode cX11_again 41 = .ok (.bipush 53, 2) := by decide +kernel
theorem dX11_again_43 : decode cX11_again 43 = .ok (.iload_n 1, 1) := by decide +kernel
theorem dX11_again_44 : decode cX11_again 44 = .ok (.imul, 1) := by decide +kernel
theorem dX11_again_45 : decode cX11_again 45 = .ok (.iload_n 2, 1) := by decide +kernel
theorem dX11_again_46 : decode cX11_again 46 = .ok (.iadd, 1) := by decide +kernel
theorem dX11_again_47 : decode cX11_again 47 = .ok (.iaload, 1) := by decide +kernel
theorem dX11_again_48 : decode cX11_again 48 = .ok (.iastore, 1) := by decide +kernel
theorem dX11_again_49 : decode cX11_again 49 = .ok (.iinc 2 1, 3) := by decide +kernel
theorem dX11_again_52 : decode cX11_again 52 = .ok (.goto (-26), 3) := by decide +kernel
theorem dX11_again_55 : decode cX11_again 55 = .ok (.aload_n 0, 1) := by decide +kernel
theorem dX11_again_56 : decode cX11_again 56 = .ok (.iconst 0, 1) := by decide +kernel
theorem dX11_again_57 : decode cX11_again 57 = .ok (.putfield 118, 3) := by decide +kernel
theorem dX11_again_60 : decode cX11_again 60 = .ok (.aload_n 0, 1) := by decide +kernel
theorem dX11_again_61 : decode cX11_again 61 = .ok (.iconst 0, 1) := by decide +kernel
theorem dX11_again_62 : decode cX11_again 62 = .ok (.invokevirtual 121, 3) := by decide +kernel
theorem dX11_again_65 : decode cX11_again 65 = .ok (.ireturn, 1) := by decide +kernel
theorem dX11_usedNails_0 : decode cX11_usedNails 0 = .ok (.iconst 0, 1) := by decide +kernel
theorem dX11_usedNails_1 : decode cX11_usedNails 1 = .ok (.istore_n 1, 1) := by decide +kernel
theorem dX11_usedNails_2 : decode cX11_usedNails 2 = .ok (.iconst 0, 1) := by decide +kernel
theorem dX11_usedNails_3 : decode cX11_usedNails 3 = .ok (.istore_n 2, 1) := by decide +kernel
theorem dX11_usedNails_4 : decode cX11_usedNails 4 = .ok (.iload_n 2, 1) := by decide +kernel
theorem dX11_usedNails_5 : decode cX11_usedNails 5 = .ok (.aload_n 0, 1) := by decide +kernel
theorem dX11_usedNails_6 : decode cX11_usedNails 6 = .ok (.iconst 0, 1) := by decide +kernel
theorem dX11_usedNails_7 : decode cX11_usedNails 7 = .ok (.invokevirtual 121, 3) := by decide +kernel
theorem dX11_usedNails_10 : decode cX11_usedNails 10 = .ok (.if_icmp .ge 35, 3) := by decide +kernel
theorem dX11_usedNails_13 : decode cX11_usedNails 13 = .ok (.iload_n 1, 1) := by decide +kernel
theorem dX11_usedNails_14 : decode cX11_usedNails 14 = .ok (.iconst 1, 1) := by decide +kernel
theorem dX11_usedNails_15 : decode cX11_usedNails 15 = .ok (.aload_n 0, 1) := by decide +kernel
theorem dX11_usedNails_16 : decode cX11_usedNails 16 = .ok (.iconst 0, 1) := by decide +kernel
theorem dX11_usedNails_17 : decode cX11_usedNails 17 = .ok (.iload_n 2, 1) := by decide +kernel
theorem dX11_usedNails_18 : decode cX11_usedNails 18 = .ok (.invokevirtual 124, 3) := by decide +kernel
theorem dX11_usedNails_21 : decode cX11_usedNails 21 = .ok (.invokestatic 61, 3) := by decide +kernel
theorem dX11_usedNails_24 : decode cX11_usedNails 24 = .ok (.ishl, 1) := by decide +kernel
theorem dX11_usedNails_25 : decode cX11_usedNails 25 = .ok (.iconst 1, 1) := by decide +kernel
theorem dX11_usedNails_26 : decode cX11_usedNails 26 = .ok (.aload_n 0, 1) := by decide +kernel
theorem dX11_usedNails_27 : decode cX11_usedNails 27 = .ok (.iconst 0, 1) := by decide +kernel
theorem dX11_usedNails_28 : decode cX11_usedNails 28 = .ok (.iload_n 2, 1) := by decide +kernel
theorem dX11_usedNails_29 : decode cX11_usedNails 29 = .ok (.invokevirtual 124, 3) := by decide +kernel
theorem dX11_usedNails_32 : decode cX11_usedNails 32 = .ok (.invokestatic 65, 3) := by decide +kernel
theorem dX11_usedNails_35 : decode cX11_usedNails 35 = .ok (.ishl, 1) := by decide +kernel
theorem dX11_usedNails_36 : decode cX11_usedNails 36 = .ok (.ior, 1) := by decide +kernel
theorem dX11_usedNails_37 : decode cX11_usedNails 37 = .ok (.ior, 1) := by decide +kernel
theorem dX11_usedNails_38 : decode cX11_usedNails 38 = .ok (.istore_n 1, 1) := by decide +kernel
theorem dX11_usedNails_39 : decode cX11_usedNails 39 = .ok (.iinc 2 1, 3) := by decide +kernel
theorem dX11_usedNails_42 : decode cX11_usedNails 42 = .ok (.goto (-38), 3) := by decide +kernel
theorem dX11_usedNails_45 : decode cX11_usedNails 45 = .ok (.iload_n 1, 1) := by decide +kernel
theorem dX11_usedNails_46 : decode cX11_usedNails 46 = .ok (.ireturn, 1) := by decide +kernel
theorem dX11_count_0 : decode cX11_count 0 = .ok (.iload_n 1, 1) := by decide +kernel
theorem dX11_count_1 : decode cX11_count 1 = .ok (.tableswitch 114 0 7 #[47, 52, 57, 63, 71, 76, 104, 109], 47) := by decide +kernel
theorem dX11_count_48 : decode cX11_count 48 = .ok (.aload_n 0, 1) := by decide +kernel
theorem dX11_count_49 : decode cX11_count 49 = .ok (.getfield 74, 3) := by decide +kernel
theorem dX11_count_52 : decode cX11_count 52 = .ok (.ireturn, 1) := by decide +kernel
theorem dX11_count_53 : decode cX11_count 53 = .ok (.aload_n 0, 1) := by decide +kernel
theorem dX11_count_54 : decode cX11_count 54 = .ok (.getfield 115, 3) := by decide +kernel
theorem dX11_count_57 : decode cX11_count 57 = .ok (.ireturn, 1) := by decide +kernel
theorem dX11_count_58 : decode cX11_count 58 = .ok (.aload_n 0, 1) := by decide +kernel
theorem dX11_count_59 : decode cX11_count 59 = .ok (.iconst 0, 1) := by decide +kernel
theorem dX11_count_60 : decode cX11_count 60 = .ok (.invokevirtual 121, 3) := by decide +kernel
theorem dX11_count_63 : decode cX11_count 63 = .ok (.ireturn, 1) := by decide +kernel
theorem dX11_count_64 : decode cX11_count 64 = .ok (.aload_n 0, 1) := by decide +kernel
theorem dX11_count_65 : decode cX11_count 65 = .ok (.iconst 0, 1) := by decide +kernel
theorem dX11_count_66 : decode cX11_count 66 = .ok (.bipush 15, 2) := by decide +kernel
theorem dX11_count_68 : decode cX11_count 68 = .ok (.invokevirtual 204, 3) := by decide +kernel
theorem dX11_count_71 : decode cX11_count 71 = .ok (.ireturn, 1) := by decide +kernel
theorem dX11_count_72 : decode cX11_count 72 = .ok (.aload_n 0, 1) := by decide +kernel
theorem dX11_count_73 : decode cX11_count 73 = .ok (.invokevirtual 278, 3) := by decide +kernel
theorem dX11_count_76 : decode cX11_count 76 = .ok (.ireturn, 1) := by decide +kernel
theorem dX11_count_77 : decode cX11_count 77 = .ok (.aload_n 0, 1) := by decide +kernel
theorem dX11_count_78 : decode cX11_count 78 = .ok (.iconst 0, 1) := by decide +kernel
theorem dX11_count_79 : decode cX11_count 79 = .ok (.iconst 0, 1) := by decide +kernel
theorem dX11_count_80 : decode cX11_count 80 = .ok (.invokevirtual 147, 3) := by decide +kernel
theorem dX11_count_83 : decode cX11_count 83 = .ok (.aload_n 0, 1) := by decide +kernel
theorem dX11_count_84 : decode cX11_count 84 = .ok (.iconst 0, 1) := by decide +kernel
theorem dX11_count_85 : decode cX11_count 85 = .ok (.iconst 1, 1) := by decide +kernel
theorem dX11_count_86 : decode cX11_count 86 = .ok (.invokevirtual 147, 3) := by decide +kernel
theorem dX11_count_89 : decode cX11_count 89 = .ok (.iadd, 1) := by decide +kernel
theorem dX11_count_90 : decode cX11_count 90 = .ok (.aload_n 0, 1) := by decide +kernel
theorem dX11_count_91 : decode cX11_count 91 = .ok (.iconst 0, 1) := by decide +kernel
theorem dX11_count_92 : decode cX11_count 92 = .ok (.iconst 2, 1) := by decide +kernel
theorem dX11_count_93 : decode cX11_count 93 = .ok (.invokevirtual 147, 3) := by decide +kernel
theorem dX11_count_96 : decode cX11_count 96 = .ok (.iadd, 1) := by decide +kernel
theorem dX11_count_97 : decode cX11_count 97 = .ok (.aload_n 0, 1) := by decide +kernel
theorem dX11_count_98 : decode cX11_count 98 = .ok (.iconst 0, 1) := by decide +kernel
theorem dX11_count_99 : decode cX11_count 99 = .ok (.iconst 3, 1) := by decide +kernel
theorem dX11_count_100 : decode cX11_count 100 = .ok (.invokevirtual 147, 3) := by decide +kernel
theorem dX11_count_103 : decode cX11_count 103 = .ok (.iadd, 1) := by decide +kernel
theorem dX11_count_104 : decode cX11_count 104 = .ok (.ireturn, 1) := by decide +kernel
theorem dX11_count_105 : decode cX11_count 105 = .ok (.aload_n 0, 1) := by decide +kernel
theorem dX11_count_106 : decode cX11_count 106 = .ok (.getfield 118, 3) := by decide +kernel
theorem dX11_count_109 : decode cX11_count 109 = .ok (.ireturn, 1) := by decide +kernel
theorem dX11_count_110 : decode cX11_count 110 = .ok (.aload_n 0, 1) := by decide +kernel
theorem dX11_count_111 : decode cX11_count 111 = .ok (.getfield 240, 3) := by decide +kernel
theorem dX11_count_114 : decode cX11_count 114 = .ok (.ireturn, 1) := by decide +kernel
theorem dX11_count_115 : decode cX11_count 115 = .ok (.bipush (-2), 2) := by decide +kernel
theorem dX11_count_117 : decode cX11_count 117 = .ok (.ireturn, 1) := by decide +kernel
theorem dJ6_bitCount_0f7a4_0 : decode cJ6_bitCount_0f7a4 0 = .ok (.iload_n 0, 1) := by decide +kernel
theorem dJ6_bitCount_0f7a4_1 : decode cJ6_bitCount_0f7a4 1 = .ok (.iload_n 0, 1) := by decide +kernel
theorem dJ6_bitCount_0f7a4_2 : decode cJ6_bitCount_0f7a4 2 = .ok (.iconst 1, 1) := by decide +kernel
theorem dJ6_bitCount_0f7a4_3 : decode cJ6_bitCount_0f7a4 3 = .ok (.iushr, 1) := by decide +kernel
theorem dJ6_bitCount_0f7a4_4 : decode cJ6_bitCount_0f7a4 4 = .ok (.ldc_w 265, 3) := by decide +kernel
theorem dJ6_bitCount_0f7a4_7 : decode cJ6_bitCount_0f7a4 7 = .ok (.iand, 1) := by decide +kernel
theorem dJ6_bitCount_0f7a4_8 : decode cJ6_bitCount_0f7a4 8 = .ok (.isub, 1) := by decide +kernel
theorem dJ6_bitCount_0f7a4_9 : decode cJ6_bitCount_0f7a4 9 = .ok (.istore_n 0, 1) := by decide +kernel
theorem dJ6_bitCount_0f7a4_10 : decode cJ6_bitCount_0f7a4 10 = .ok (.iload_n 0, 1) := by decide +kernel
theorem dJ6_bitCount_0f7a4_11 : decode cJ6_bitCount_0f7a4 11 = .ok (.ldc_w 266, 3) := by decide +kernel
theorem dJ6_bitCount_0f7a4_14 : decode cJ6_bitCount_0f7a4 14 = .ok (.iand, 1) := by decide +kernel
theorem dJ6_bitCount_0f7a4_15 : decode cJ6_bitCount_0f7a4 15 = .ok (.iload_n 0, 1) := by decide +kernel
theorem dJ6_bitCount_0f7a4_16 : decode cJ6_bitCount_0f7a4 16 = .ok (.iconst 2, 1) := by decide +kernel
theorem dJ6_bitCount_0f7a4_17 : decode cJ6_bitCount_0f7a4 17 = .ok (.iushr, 1) := by decide +kernel
theorem dJ6_bitCount_0f7a4_18 : decode cJ6_bitCount_0f7a4 18 = .ok (.ldc_w 266, 3) := by decide +kernel
theorem dJ6_bitCount_0f7a4_21 : decode cJ6_bitCount_0f7a4 21 = .ok (.iand, 1) := by decide +kernel
theorem dJ6_bitCount_0f7a4_22 : decode cJ6_bitCount_0f7a4 22 = .ok (.iadd, 1) := by decide +kernel
theorem dJ6_bitCount_0f7a4_23 : decode cJ6_bitCount_0f7a4 23 = .ok (.istore_n 0, 1) := by decide +kernel
theorem dJ6_bitCount_0f7a4_24 : decode cJ6_bitCount_0f7a4 24 = .ok (.iload_n 0, 1) := by decide +kernel
theorem dJ6_bitCount_0f7a4_25 : decode cJ6_bitCount_0f7a4 25 = .ok (.iload_n 0, 1) := by decide +kernel
theorem dJ6_bitCount_0f7a4_26 : decode cJ6_bitCount_0f7a4 26 = .ok (.iconst 4, 1) := by decide +kernel
theorem dJ6_bitCount_0f7a4_27 : decode cJ6_bitCount_0f7a4 27 = .ok (.iushr, 1) := by decide +kernel
theorem dJ6_bitCount_0f7a4_28 : decode cJ6_bitCount_0f7a4 28 = .ok (.iadd, 1) := by decide +kernel
theorem dJ6_bitCount_0f7a4_29 : decode cJ6_bitCount_0f7a4 29 = .ok (.ldc_w 267, 3) := by decide +kernel
theorem dJ6_bitCount_0f7a4_32 : decode cJ6_bitCount_0f7a4 32 = .ok (.iand, 1) := by decide +kernel
theorem dJ6_bitCount_0f7a4_33 : decode cJ6_bitCount_0f7a4 33 = .ok (.istore_n 0, 1) := by decide +kernel
theorem dJ6_bitCount_0f7a4_34 : decode cJ6_bitCount_0f7a4 34 = .ok (.iload_n 0, 1) := by decide +kernel
theorem dJ6_bitCount_0f7a4_35 : decode cJ6_bitCount_0f7a4 35 = .ok (.iload_n 0, 1) := by decide +kernel
theorem dJ6_bitCount_0f7a4_36 : decode cJ6_bitCount_0f7a4 36 = .ok (.bipush 8, 2) := by decide +kernel
theorem dJ6_bitCount_0f7a4_38 : decode cJ6_bitCount_0f7a4 38 = .ok (.iushr, 1) := by decide +kernel
theorem dJ6_bitCount_0f7a4_39 : decode cJ6_bitCount_0f7a4 39 = .ok (.iadd, 1) := by decide +kernel
theorem dJ6_bitCount_0f7a4_40 : decode cJ6_bitCount_0f7a4 40 = .ok (.istore_n 0, 1) := by decide +kernel
theorem dJ6_bitCount_0f7a4_41 : decode cJ6_bitCount_0f7a4 41 = .ok (.iload_n 0, 1) := by decide +kernel
theorem dJ6_bitCount_0f7a4_42 : decode cJ6_bitCount_0f7a4 42 = .ok (.iload_n 0, 1) := by decide +kernel
theorem dJ6_bitCount_0f7a4_43 : decode cJ6_bitCount_0f7a4 43 = .ok (.bipush 16, 2) := by decide +kernel
theorem dJ6_bitCount_0f7a4_45 : decode cJ6_bitCount_0f7a4 45 = .ok (.iushr, 1) := by decide +kernel
theorem dJ6_bitCount_0f7a4_46 : decode cJ6_bitCount_0f7a4 46 = .ok (.iadd, 1) := by decide +kernel
theorem dJ6_bitCount_0f7a4_47 : decode cJ6_bitCount_0f7a4 47 = .ok (.istore_n 0, 1) := by decide +kernel
theorem dJ6_bitCount_0f7a4_48 : decode cJ6_bitCount_0f7a4 48 = .ok (.iload_n 0, 1) := by decide +kernel
theorem dJ6_bitCount_0f7a4_49 : decode cJ6_bitCount_0f7a4 49 = .ok (.bipush 63, 2) := by decide +kernel
theorem dJ6_bitCount_0f7a4_51 : decode cJ6_bitCount_0f7a4 51 = .ok (.iand, 1) := by decide +kernel
theorem dJ6_bitCount_0f7a4_52 : decode cJ6_bitCount_0f7a4 52 = .ok (.ireturn, 1) := by decide +kernel
theorem dJ13_bitCount_95d88_0 : decode cJ13_bitCount_95d88 0 = .ok (.lload_n 0, 1) := by decide +kernel
theorem dJ13_bitCount_95d88_1 : decode cJ13_bitCount_95d88 1 = .ok (.lload_n 0, 1) := by decide +kernel
theorem dJ13_bitCount_95d88_2 : decode cJ13_bitCount_95d88 2 = .ok (.iconst 1, 1) := by decide +kernel
theorem dJ13_bitCount_95d88_3 : decode cJ13_bitCount_95d88 3 = .ok (.lushr, 1) := by decide +kernel
theorem dJ13_bitCount_95d88_4 : decode cJ13_bitCount_95d88 4 = .ok (.ldc2_w 314, 3) := by decide +kernel
theorem dJ13_bitCount_95d88_7 : decode cJ13_bitCount_95d88 7 = .ok (.land, 1) := by decide +kernel
theorem dJ13_bitCount_95d88_8 : decode cJ13_bitCount_95d88 8 = .ok (.lsub, 1) := by decide +kernel
theorem dJ13_bitCount_95d88_9 : decode cJ13_bitCount_95d88 9 = .ok (.lstore_n 0, 1) := by decide +kernel
theorem dJ13_bitCount_95d88_10 : decode cJ13_bitCount_95d88 10 = .ok (.lload_n 0, 1) := by decide +kernel
theorem dJ13_bitCount_95d88_11 : decode cJ13_bitCount_95d88 11 = .ok (.ldc2_w 316, 3) := by decide +kernel
theorem dJ13_bitCount_95d88_14 : decode cJ13_bitCount_95d88 14 = .ok (.land, 1) := by decide +kernel
theorem dJ13_bitCount_95d88_15 : decode cJ13_bitCount_95d88 15 = .ok (.lload_n 0, 1) := by decide +kernel
theorem dJ13_bitCount_95d88_16 : decode cJ13_bitCount_95d88 16 = .ok (.iconst 2, 1) := by decide +kernel
theorem dJ13_bitCount_95d88_17 : decode cJ13_bitCount_95d88 17 = .ok (.lushr, 1) := by decide +kernel
theorem dJ13_bitCount_95d88_18 : decode cJ13_bitCount_95d88 18 = .ok (.ldc2_w 316, 3) := by decide +kernel
theorem dJ13_bitCount_95d88_21 : decode cJ13_bitCount_95d88 21 = .ok (.land, 1) := by decide +kernel
theorem dJ13_bitCount_95d88_22 : decode cJ13_bitCount_95d88 22 = .ok (.ladd, 1) := by decide +kernel
theorem dJ13_bitCount_95d88_23 : decode cJ13_bitCount_95d88 23 = .ok (.lstore_n 0, 1) := by decide +kernel
theorem dJ13_bitCount_95d88_24 : decode cJ13_bitCount_95d88 24 = .ok (.lload_n 0, 1) := by decide +kernel
theorem dJ13_bitCount_95d88_25 : decode cJ13_bitCount_95d88 25 = .ok (.lload_n 0, 1) := by decide +kernel
theorem dJ13_bitCount_95d88_26 : decode cJ13_bitCount_95d88 26 = .ok (.iconst 4, 1) := by decide +kernel
theorem dJ13_bitCount_95d88_27 : decode cJ13_bitCount_95d88 27 = .ok (.lushr, 1) := by decide +kernel
theorem dJ13_bitCount_95d88_28 : decode cJ13_bitCount_95d88 28 = .ok (.ladd, 1) := by decide +kernel
theorem dJ13_bitCount_95d88_29 : decode cJ13_bitCount_95d88 29 = .ok (.ldc2_w 318, 3) := by decide +kernel
theorem dJ13_bitCount_95d88_32 : decode cJ13_bitCount_95d88 32 = .ok (.land, 1) := by decide +kernel
theorem dJ13_bitCount_95d88_33 : decode cJ13_bitCount_95d88 33 = .ok (.lstore_n 0, 1) := by decide +kernel
theorem dJ13_bitCount_95d88_34 : decode cJ13_bitCount_95d88 34 = .ok (.lload_n 0, 1) := by decide +kernel
theorem dJ13_bitCount_95d88_35 : decode cJ13_bitCount_95d88 35 = .ok (.lload_n 0, 1) := by decide +kernel
theorem dJ13_bitCount_95d88_36 : decode cJ13_bitCount_95d88 36 = .ok (.bipush 8, 2) := by decide +kernel
theorem dJ13_bitCount_95d88_38 : decode cJ13_bitCount_95d88 38 = .ok (.lushr, 1) := by decide +kernel
theorem dJ13_bitCount_95d88_39 : decode cJ13_bitCount_95d88 39 = .ok (.ladd, 1) := by decide +kernel
theorem dJ13_bitCount_95d88_40 : decode cJ13_bitCount_95d88 40 = .ok (.lstore_n 0, 1) := by decide +kernel
theorem dJ13_bitCount_95d88_41 : decode cJ13_bitCount_95d88 41 = .ok (.lload_n 0, 1) := by decide +kernel
theorem dJ13_bitCount_95d88_42 : decode cJ13_bitCount_95d88 42 = .ok (.lload_n 0, 1) := by decide +kernel
theorem dJ13_bitCount_95d88_43 : decode cJ13_bitCount_95d88 43 = .ok (.bipush 16, 2) := by decide +kernel
theorem dJ13_bitCount_95d88_45 : decode cJ13_bitCount_95d88 45 = .ok (.lushr, 1) := by decide +kernel
theorem dJ13_bitCount_95d88_46 : decode cJ13_bitCount_95d88 46 = .ok (.ladd, 1) := by decide +kernel
theorem dJ13_bitCount_95d88_47 : decode cJ13_bitCount_95d88 47 = .ok (.lstore_n 0, 1) := by decide +kernel
theorem dJ13_bitCount_95d88_48 : decode cJ13_bitCount_95d88 48 = .ok (.lload_n 0, 1) := by decide +kernel
theorem dJ13_bitCount_95d88_49 : decode cJ13_bitCount_95d88 49 = .ok (.lload_n 0, 1) := by decide +kernel
theorem dJ13_bitCount_95d88_50 : decode cJ13_bitCount_95d88 50 = .ok (.bipush 32, 2) := by decide +kernel
theorem dJ13_bitCount_95d88_52 : decode cJ13_bitCount_95d88 52 = .ok (.lushr, 1) := by decide +kernel
theorem dJ13_bitCount_95d88_53 : decode cJ13_bitCount_95d88 53 = .ok (.ladd, 1) := by decide +kernel
theorem dJ13_bitCount_95d88_54 : decode cJ13_bitCount_95d88 54 = .ok (.lstore_n 0, 1) := by decide +kernel
theorem dJ13_bitCount_95d88_55 : decode cJ13_bitCount_95d88 55 = .ok (.lload_n 0, 1) := by decide +kernel
theorem dJ13_bitCount_95d88_56 : decode cJ13_bitCount_95d88 56 = .ok (.l2i, 1) := by decide +kernel
theorem dJ13_bitCount_95d88_57 : decode cJ13_bitCount_95d88 57 = .ok (.bipush 127, 2) := by decide +kernel
theorem dJ13_bitCount_95d88_59 : decode cJ13_bitCount_95d88 59 = .ok (.iand, 1) := by decide +kernel
theorem dJ13_bitCount_95d88_60 : decode cJ13_bitCount_95d88 60 = .ok (.ireturn, 1) := by decide +kernel
theorem dJ9_floorMod_7cf53_0 : decode cJ9_floorMod_7cf53 0 = .ok (.iload_n 0, 1) := by decide +kernel
theorem dJ9_floorMod_7cf53_1 : decode cJ9_floorMod_7cf53 1 = .ok (.iload_n 1, 1) := by decide +kernel
theorem dJ9_floorMod_7cf53_2 : decode cJ9_floorMod_7cf53 2 = .ok (.irem, 1) := by decide +kernel
theorem dJ9_floorMod_7cf53_3 : decode cJ9_floorMod_7cf53 3 = .ok (.istore_n 2, 1) := by decide +kernel
theorem dJ9_floorMod_7cf53_4 : decode cJ9_floorMod_7cf53 4 = .ok (.iload_n 0, 1) := by decide +kernel
theorem dJ9_floorMod_7cf53_5 : decode cJ9_floorMod_7cf53 5 = .ok (.iload_n 1, 1) := by decide +kernel
theorem dJ9_floorMod_7cf53_6 : decode cJ9_floorMod_7cf53 6 = .ok (.ixor, 1) := by decide +kernel
theorem dJ9_floorMod_7cf53_7 : decode cJ9_floorMod_7cf53 7 = .ok (.ifCond .ge 11, 3) := by decide +kernel
theorem dJ9_floorMod_7cf53_10 : decode cJ9_floorMod_7cf53 10 = .ok (.iload_n 2, 1) := by decide +kernel
theorem dJ9_floorMod_7cf53_11 : decode cJ9_floorMod_7cf53 11 = .ok (.ifCond .eq 7, 3) := by decide +kernel
theorem dJ9_floorMod_7cf53_14 : decode cJ9_floorMod_7cf53 14 = .ok (.iload_n 2, 1) := by decide +kernel
theorem dJ9_floorMod_7cf53_15 : decode cJ9_floorMod_7cf53 15 = .ok (.iload_n 1, 1) := by decide +kernel
theorem dJ9_floorMod_7cf53_16 : decode cJ9_floorMod_7cf53 16 = .ok (.iadd, 1) := by decide +kernel
theorem dJ9_floorMod_7cf53_17 : decode cJ9_floorMod_7cf53 17 = .ok (.ireturn, 1) := by decide +kernel
theorem dJ9_floorMod_7cf53_18 : decode cJ9_floorMod_7cf53 18 = .ok (.iload_n 2, 1) := by decide +kernel
theorem dJ9_floorMod_7cf53_19 : decode cJ9_floorMod_7cf53 19 = .ok (.ireturn, 1) := by decide +kernel
theorem dJ9_abs_0f7a4_0 : decode cJ9_abs_0f7a4 0 = .ok (.iload_n 0, 1) := by decide +kernel
theorem dJ9_abs_0f7a4_1 : decode cJ9_abs_0f7a4 1 = .ok (.ifCond .ge 8, 3) := by decide +kernel
theorem dJ9_abs_0f7a4_4 : decode cJ9_abs_0f7a4 4 = .ok (.iload_n 0, 1) := by decide +kernel
theorem dJ9_abs_0f7a4_5 : decode cJ9_abs_0f7a4 5 = .ok (.ineg, 1) := by decide +kernel
theorem dJ9_abs_0f7a4_6 : decode cJ9_abs_0f7a4 6 = .ok (.goto 4, 3) := by decide +kernel
theorem dJ9_abs_0f7a4_9 : decode cJ9_abs_0f7a4 9 = .ok (.iload_n 0, 1) := by decide +kernel
theorem dJ9_abs_0f7a4_10 : decode cJ9_abs_0f7a4 10 = .ok (.ireturn, 1) := by decide +kernel
theorem dJ9_max_7cf53_0 : decode cJ9_max_7cf53 0 = .ok (.iload_n 0, 1) := by decide +kernel
theorem dJ9_max_7cf53_1 : decode cJ9_max_7cf53 1 = .ok (.iload_n 1, 1) := by decide +kernel
theorem dJ9_max_7cf53_2 : decode cJ9_max_7cf53 2 = .ok (.if_icmp .lt 7, 3) := by decide +kernel
theorem dJ9_max_7cf53_5 : decode cJ9_max_7cf53 5 = .ok (.iload_n 0, 1) := by decide +kernel
theorem dJ9_max_7cf53_6 : decode cJ9_max_7cf53 6 = .ok (.goto 4, 3) := by decide +kernel
theorem dJ9_max_7cf53_9 : decode cJ9_max_7cf53 9 = .ok (.iload_n 1, 1) := by decide +kernel
theorem dJ9_max_7cf53_10 : decode cJ9_max_7cf53 10 = .ok (.ireturn, 1) := by decide +kernel
theorem dJ9_min_7cf53_0 : decode cJ9_min_7cf53 0 = .ok (.iload_n 0, 1) := by decide +kernel
theorem dJ9_min_7cf53_1 : decode cJ9_min_7cf53 1 = .ok (.iload_n 1, 1) := by decide +kernel
theorem dJ9_min_7cf53_2 : decode cJ9_min_7cf53 2 = .ok (.if_icmp .gt 7, 3) := by decide +kernel
theorem dJ9_min_7cf53_5 : decode cJ9_min_7cf53 5 = .ok (.iload_n 0, 1) := by decide +kernel
theorem dJ9_min_7cf53_6 : decode cJ9_min_7cf53 6 = .ok (.goto 4, 3) := by decide +kernel
theorem dJ9_min_7cf53_9 : decode cJ9_min_7cf53 9 = .ok (.iload_n 1, 1) := by decide +kernel
theorem dJ9_min_7cf53_10 : decode cJ9_min_7cf53 10 = .ok (.ireturn, 1) := by decide +kernel
theorem dL_law_0 : decode cL_law 0 = .ok (.new 7, 3) := by decide +kernel
theorem dL_law_3 : decode cL_law 3 = .ok (.dup, 1) := by decide +kernel
theorem dL_law_4 : decode cL_law 4 = .ok (.invokespecial 9, 3) := by decide +kernel
theorem dL_law_7 : decode cL_law 7 = .ok (.astore_n 1, 1) := by decide +kernel
theorem dL_law_8 : decode cL_law 8 = .ok (.new 10, 3) := by decide +kernel
theorem dL_law_11 : decode cL_law 11 = .ok (.dup, 1) := by decide +kernel
theorem dL_law_12 : decode cL_law 12 = .ok (.invokespecial 12, 3) := by decide +kernel
theorem dL_law_15 : decode cL_law 15 = .ok (.astore_n 2, 1) := by decide +kernel
theorem dL_law_16 : decode cL_law 16 = .ok (.iconst 0, 1) := by decide +kernel
theorem dL_law_17 : decode cL_law 17 = .ok (.istore_n 3, 1) := by decide +kernel
theorem dL_law_18 : decode cL_law 18 = .ok (.iload_n 3, 1) := by decide +kernel
theorem dL_law_19 : decode cL_law 19 = .ok (.aload_n 0, 1) := by decide +kernel
theorem dL_law_20 : decode cL_law 20 = .ok (.arraylength, 1) := by decide +kernel
theorem dL_law_21 : decode cL_law 21 = .ok (.iconst 5, 1) := by decide +kernel
theorem dL_law_22 : decode cL_law 22 = .ok (.isub, 1) := by decide +kernel
theorem dL_law_23 : decode cL_law 23 = .ok (.if_icmp .gt 977, 3) := by decide +kernel
theorem dL_law_26 : decode cL_law 26 = .ok (.aload_n 0, 1) := by decide +kernel
theorem dL_law_27 : decode cL_law 27 = .ok (.iload_n 3, 1) := by decide +kernel
theorem dL_law_28 : decode cL_law 28 = .ok (.iaload, 1) := by decide +kernel
theorem dL_law_29 : decode cL_law 29 = .ok (.bipush 31, 2) := by decide +kernel
theorem dL_law_31 : decode cL_law 31 = .ok (.iand, 1) := by decide +kernel
theorem dL_law_32 : decode cL_law 32 = .ok (.tableswitch 962 0 28 #[132, 155, 168, 181, 194, 227, 260, 293, 316, 339, 352, 365, 378, 411, 424, 437, 470, 523, 586, 629, 642, 665, 714, 757, 816, 870, 893, 916, 939], 132) := by decide +kernel
theorem dL_law_164 : decode cL_law 164 = .ok (.aload_n 1, 1) := by decide +kernel
theorem dL_law_165 : decode cL_law 165 = .ok (.aload_n 0, 1) := by decide +kernel
theorem dL_law_166 : decode cL_law 166 = .ok (.iload_n 3, 1) := by decide +kernel
theorem dL_law_167 : decode cL_law 167 = .ok (.iconst 1, 1) := by decide +kernel
theorem dL_law_168 : decode cL_law 168 = .ok (.iadd, 1) := by decide +kernel
theorem dL_law_169 : decode cL_law 169 = .ok (.iaload, 1) := by decide +kernel
theorem dL_law_170 : decode cL_law 170 = .ok (.invokevirtual 13, 3) := by decide +kernel
theorem dL_law_173 : decode cL_law 173 = .ok (.aload_n 2, 1) := by decide +kernel
theorem dL_law_174 : decode cL_law 174 = .ok (.aload_n 0, 1) := by decide +kernel
theorem dL_law_175 : decode cL_law 175 = .ok (.iload_n 3, 1) := by decide +kernel
theorem dL_law_176 : decode cL_law 176 = .ok (.iconst 1, 1) := by decide +kernel
theorem dL_law_177 : decode cL_law 177 = .ok (.iadd, 1) := by decide +kernel
theorem dL_law_178 : decode cL_law 178 = .ok (.iaload, 1) := by decide +kernel
theorem dL_law_179 : decode cL_law 179 = .ok (.invokevirtual 17, 3) := by decide +kernel
theorem dL_law_182 : decode cL_law 182 = .ok (.if_icmp .eq 812, 3) := by decide +kernel
theorem dL_law_185 : decode cL_law 185 = .ok (.iconst 0, 1) := by decide +kernel
theorem dL_law_186 : decode cL_law 186 = .ok (.ireturn, 1) := by decide +kernel
theorem dL_law_187 : decode cL_law 187 = .ok (.aload_n 1, 1) := by decide +kernel
theorem dL_law_188 : decode cL_law 188 = .ok (.invokevirtual 18, 3) := by decide +kernel
theorem dL_law_191 : decode cL_law 191 = .ok (.aload_n 2, 1) := by decide +kernel
theorem dL_law_192 : decode cL_law 192 = .ok (.invokevirtual 22, 3) := by decide +kernel
theorem dL_law_195 : decode cL_law 195 = .ok (.if_icmp .eq 799, 3) := by decide +kernel
theorem dL_law_198 : decode cL_law 198 = .ok (.iconst 0, 1) := by decide +kernel
theorem dL_law_199 : decode cL_law 199 = .ok (.ireturn, 1) := by decide +kernel
theorem dL_law_200 : decode cL_law 200 = .ok (.aload_n 1, 1) := by decide +kernel
theorem dL_law_201 : decode cL_law 201 = .ok (.invokevirtual 23, 3) := by decide +kernel
theorem dL_law_204 : decode cL_law 204 = .ok (.aload_n 2, 1) := by decide +kernel
theorem dL_law_205 : decode cL_law 205 = .ok (.invokevirtual 26, 3) := by decide +kernel
theorem dL_law_208 : decode cL_law 208 = .ok (.if_icmp .eq 786, 3) := by decide +kernel
theorem dL_law_211 : decode cL_law 211 = .ok (.iconst 0, 1) := by decide +kernel
theorem dL_law_212 : decode cL_law 212 = .ok (.ireturn, 1) := by decide +kernel
theorem dL_law_213 : decode cL_law 213 = .ok (.aload_n 1, 1) := by decide +kernel
theorem dL_law_214 : decode cL_law 214 = .ok (.invokevirtual 27, 3) := by decide +kernel
theorem dL_law_217 : decode cL_law 217 = .ok (.aload_n 2, 1) := by decide +kernel
theorem dL_law_218 : decode cL_law 218 = .ok (.invokevirtual 30, 3) := by decide +kernel
theorem dL_law_221 : decode cL_law 221 = .ok (.if_icmp .eq 773, 3) := by decide +kernel
theorem dL_law_224 : decode cL_law 224 = .ok (.iconst 0, 1) := by decide +kernel
theorem dL_law_225 : decode cL_law 225 = .ok (.ireturn, 1) := by decide +kernel
theorem dL_law_226 : decode cL_law 226 = .ok (.aload_n 1, 1) := by decide +kernel
theorem dL_law_227 : decode cL_law 227 = .ok (.aload_n 0, 1) := by decide +kernel
theorem dL_law_228 : decode cL_law 228 = .ok (.iload_n 3, 1) := by decide +kernel
theorem dL_law_229 : decode cL_law 229 = .ok (.iconst 1, 1) := by decide +kernel
theorem dL_law_230 : decode cL_law 230 = .ok (.iadd, 1) := by decide +kernel
theorem dL_law_231 : decode cL_law 231 = .ok (.iaload, 1) := by decide +kernel
theorem dL_law_232 : decode cL_law 232 = .ok (.aload_n 0, 1) := by decide +kernel
theorem dL_law_233 : decode cL_law 233 = .ok (.iload_n 3, 1) := by decide +kernel
theorem dL_law_234 : decode cL_law 234 = .ok (.iconst 2, 1) := by decide +kernel
theorem dL_law_235 : decode cL_law 235 = .ok (.iadd, 1) := by decide +kernel
theorem dL_law_236 : decode cL_law 236 = .ok (.iaload, 1) := by decide +kernel
theorem dL_law_237 : decode cL_law 237 = .ok (.invokevirtual 31, 3) := by decide +kernel
theorem dL_law_240 : decode cL_law 240 = .ok (.aload_n 2, 1) := by decide +kernel
theorem dL_law_241 : decode cL_law 241 = .ok (.aload_n 0, 1) := by decide +kernel
theorem dL_law_242 : decode cL_law 242 = .ok (.iload_n 3, 1) := by decide +kernel
theorem dL_law_243 : decode cL_law 243 = .ok (.iconst 1, 1) := by decide +kernel
theorem dL_law_244 : decode cL_law 244 = .ok (.iadd, 1) := by decide +kernel
theorem dL_law_245 : decode cL_law 245 = .ok (.iaload, 1) := by decide +kernel
theorem dL_law_246 : decode cL_law 246 = .ok (.aload_n 0, 1) := by decide +kernel
theorem dL_law_247 : decode cL_law 247 = .ok (.iload_n 3, 1) := by decide +kernel
theorem dL_law_248 : decode cL_law 248 = .ok (.iconst 2, 1) := by decide +kernel
theorem dL_law_249 : decode cL_law 249 = .ok (.iadd, 1) := by decide +kernel
theorem dL_law_250 : decode cL_law 250 = .ok (.iaload, 1) := by decide +kernel
theorem dL_law_251 : decode cL_law 251 = .ok (.invokevirtual 35, 3) := by decide +kernel
theorem dL_law_254 : decode cL_law 254 = .ok (.if_icmp .eq 740, 3) := by decide +kernel
theorem dL_law_257 : decode cL_law 257 = .ok (.iconst 0, 1) := by decide +kernel
theorem dL_law_258 : decode cL_law 258 = .ok (.ireturn, 1) := by decide +kernel
theorem dL_law_259 : decode cL_law 259 = .ok (.aload_n 1, 1) := by decide +kernel
theorem dL_law_260 : decode cL_law 260 = .ok (.aload_n 0, 1) := by decide +kernel
theorem dL_law_261 : decode cL_law 261 = .ok (.iload_n 3, 1) := by decide +kernel
theorem dL_law_262 : decode cL_law 262 = .ok (.iconst 1, 1) := by decide +kernel
theorem dL_law_263 : decode cL_law 263 = .ok (.iadd, 1) := by decide +kernel
theorem dL_law_264 : decode cL_law 264 = .ok (.iaload, 1) := by decide +kernel
theorem dL_law_265 : decode cL_law 265 = .ok (.aload_n 0, 1) := by decide +kernel
theorem dL_law_266 : decode cL_law 266 = .ok (.iload_n 3, 1) := by decide +kernel
theorem dL_law_267 : decode cL_law 267 = .ok (.iconst 2, 1) := by decide +kernel
theorem dL_law_268 : decode cL_law 268 = .ok (.iadd, 1) := by decide +kernel
theorem dL_law_269 : decode cL_law 269 = .ok (.iaload, 1) := by decide +kernel
theorem dL_law_270 : decode cL_law 270 = .ok (.invokevirtual 36, 3) := by decide +kernel
theorem dL_law_273 : decode cL_law 273 = .ok (.aload_n 2, 1) := by decide +kernel
theorem dL_law_274 : decode cL_law 274 = .ok (.aload_n 0, 1) := by decide +kernel
theorem dL_law_275 : decode cL_law 275 = .ok (.iload_n 3, 1) := by decide +kernel
theorem dL_law_276 : decode cL_law 276 = .ok (.iconst 1, 1) := by decide +kernel
theorem dL_law_277 : decode cL_law 277 = .ok (.iadd, 1) := by decide +kernel
theorem dL_law_278 : decode cL_law 278 = .ok (.iaload, 1) := by decide +kernel
theorem dL_law_279 : decode cL_law 279 = .ok (.aload_n 0, 1) := by decide +kernel
theorem dL_law_280 : decode cL_law 280 = .ok (.iload_n 3, 1) := by decide +kernel
theorem dL_law_281 : decode cL_law 281 = .ok (.iconst 2, 1) := by decide +kernel
theorem dL_law_282 : decode cL_law 282 = .ok (.iadd, 1) := by decide +kernel
theorem dL_law_283 : decode cL_law 283 = .ok (.iaload, 1) := by decide +kernel
theorem dL_law_284 : decode cL_law 284 = .ok (.invokevirtual 39, 3) := by decide +kernel
theorem dL_law_287 : decode cL_law 287 = .ok (.if_icmp .eq 707, 3) := by decide +kernel
theorem dL_law_290 : decode cL_law 290 = .ok (.iconst 0, 1) := by decide +kernel
theorem dL_law_291 : decode cL_law 291 = .ok (.ireturn, 1) := by decide +kernel
theorem dL_law_292 : decode cL_law 292 = .ok (.aload_n 1, 1) := by decide +kernel
theorem dL_law_293 : decode cL_law 293 = .ok (.aload_n 0, 1) := by decide +kernel
theorem dL_law_294 : decode cL_law 294 = .ok (.iload_n 3, 1) := by decide +kernel
theorem dL_law_295 : decode cL_law 295 = .ok (.iconst 1, 1) := by decide +kernel
theorem dL_law_296 : decode cL_law 296 = .ok (.iadd, 1) := by decide +kernel
theorem dL_law_297 : decode cL_law 297 = .ok (.iaload, 1) := by decide +kernel
theorem dL_law_298 : decode cL_law 298 = .ok (.aload_n 0, 1) := by decide +kernel
theorem dL_law_299 : decode cL_law 299 = .ok (.iload_n 3, 1) := by decide +kernel
theorem dL_law_300 : decode cL_law 300 = .ok (.iconst 2, 1) := by decide +kernel
theorem dL_law_301 : decode cL_law 301 = .ok (.iadd, 1) := by decide +kernel
theorem dL_law_302 : decode cL_law 302 = .ok (.iaload, 1) := by decide +kernel
theorem dL_law_303 : decode cL_law 303 = .ok (.invokevirtual 40, 3) := by decide +kernel
theorem dL_law_306 : decode cL_law 306 = .ok (.aload_n 2, 1) := by decide +kernel
theorem dL_law_307 : decode cL_law 307 = .ok (.aload_n 0, 1) := by decide +kernel
theorem dL_law_308 : decode cL_law 308 = .ok (.iload_n 3, 1) := by decide +kernel
theorem dL_law_309 : decode cL_law 309 = .ok (.iconst 1, 1) := by decide +kernel
theorem dL_law_310 : decode cL_law 310 = .ok (.iadd, 1) := by decide +kernel
theorem dL_law_311 : decode cL_law 311 = .ok (.iaload, 1) := by decide +kernel
theorem dL_law_312 : decode cL_law 312 = .ok (.aload_n 0, 1) := by decide +kernel
theorem dL_law_313 : decode cL_law 313 = .ok (.iload_n 3, 1) := by decide +kernel
theorem dL_law_314 : decode cL_law 314 = .ok (.iconst 2, 1) := by decide +kernel
theorem dL_law_315 : decode cL_law 315 = .ok (.iadd, 1) := by decide +kernel
theorem dL_law_316 : decode cL_law 316 = .ok (.iaload, 1) := by decide +kernel
theorem dL_law_317 : decode cL_law 317 = .ok (.invokevirtual 43, 3) := by decide +kernel
theorem dL_law_320 : decode cL_law 320 = .ok (.if_icmp .eq 674, 3) := by decide +kernel
theorem dL_law_323 : decode cL_law 323 = .ok (.iconst 0, 1) := by decide +kernel
theorem dL_law_324 : decode cL_law 324 = .ok (.ireturn, 1) := by decide +kernel
theorem dL_law_325 : decode cL_law 325 = .ok (.aload_n 1, 1) := by decide +kernel
theorem dL_law_326 : decode cL_law 326 = .ok (.aload_n 0, 1) := by decide +kernel
theorem dL_law_327 : decode cL_law 327 = .ok (.iload_n 3, 1) := by decide +kernel
theorem dL_law_328 : decode cL_law 328 = .ok (.iconst 1, 1) := by decide +kernel
theorem dL_law_329 : decode cL_law 329 = .ok (.iadd, 1) := by decide +kernel
theorem dL_law_330 : decode cL_law 330 = .ok (.iaload, 1) := by decide +kernel
theorem dL_law_331 : decode cL_law 331 = .ok (.invokevirtual 44, 3) := by decide +kernel
theorem dL_law_334 : decode cL_law 334 = .ok (.aload_n 2, 1) := by decide +kernel
theorem dL_law_335 : decode cL_law 335 = .ok (.aload_n 0, 1) := by decide +kernel
theorem dL_law_336 : decode cL_law 336 = .ok (.iload_n 3, 1) := by decide +kernel
theorem dL_law_337 : decode cL_law 337 = .ok (.iconst 1, 1) := by decide +kernel
theorem dL_law_338 : decode cL_law 338 = .ok (.iadd, 1) := by decide +kernel
theorem dL_law_339 : decode cL_law 339 = .ok (.iaload, 1) := by decide +kernel
theorem dL_law_340 : decode cL_law 340 = .ok (.invokevirtual 47, 3) := by decide +kernel
theorem dL_law_343 : decode cL_law 343 = .ok (.if_icmp .eq 651, 3) := by decide +kernel
theorem dL_law_346 : decode cL_law 346 = .ok (.iconst 0, 1) := by decide +kernel
theorem dL_law_347 : decode cL_law 347 = .ok (.ireturn, 1) := by decide +kernel
theorem dL_law_348 : decode cL_law 348 = .ok (.aload_n 1, 1) := by decide +kernel
theorem dL_law_349 : decode cL_law 349 = .ok (.aload_n 0, 1) := by decide +kernel
theorem dL_law_350 : decode cL_law 350 = .ok (.iload_n 3, 1) := by decide +kernel
theorem dL_law_351 : decode cL_law 351 = .ok (.iconst 1, 1) := by decide +kernel
theorem dL_law_352 : decode cL_law 352 = .ok (.iadd, 1) := by decide +kernel
theorem dL_law_353 : decode cL_law 353 = .ok (.iaload, 1) := by decide +kernel
theorem dL_law_354 : decode cL_law 354 = .ok (.invokevirtual 48, 3) := by decide +kernel
theorem dL_law_357 : decode cL_law 357 = .ok (.aload_n 2, 1) := by decide +kernel
theorem dL_law_358 : decode cL_law 358 = .ok (.aload_n 0, 1) := by decide +kernel
theorem dL_law_359 : decode cL_law 359 = .ok (.iload_n 3, 1) := by decide +kernel
theorem dL_law_360 : decode cL_law 360 = .ok (.iconst 1, 1) := by decide +kernel
theorem dL_law_361 : decode cL_law 361 = .ok (.iadd, 1) := by decide +kernel
theorem dL_law_362 : decode cL_law 362 = .ok (.iaload, 1) := by decide +kernel
theorem dL_law_363 : decode cL_law 363 = .ok (.invokevirtual 51, 3) := by decide +kernel
theorem dL_law_366 : decode cL_law 366 = .ok (.if_icmp .eq 628, 3) := by decide +kernel
theorem dL_law_369 : decode cL_law 369 = .ok (.iconst 0, 1) := by decide +kernel
theorem dL_law_370 : decode cL_law 370 = .ok (.ireturn, 1) := by decide +kernel
theorem dL_law_371 : decode cL_law 371 = .ok (.aload_n 1, 1) := by decide +kernel
theorem dL_law_372 : decode cL_law 372 = .ok (.invokevirtual 52, 3) := by decide +kernel
theorem dL_law_375 : decode cL_law 375 = .ok (.aload_n 2, 1) := by decide +kernel
theorem dL_law_376 : decode cL_law 376 = .ok (.invokevirtual 55, 3) := by decide +kernel
theorem dL_law_379 : decode cL_law 379 = .ok (.if_icmp .eq 615, 3) := by decide +kernel
theorem dL_law_382 : decode cL_law 382 = .ok (.iconst 0, 1) := by decide +kernel
theorem dL_law_383 : decode cL_law 383 = .ok (.ireturn, 1) := by decide +kernel
theorem dL_law_384 : decode cL_law 384 = .ok (.aload_n 1, 1) := by decide +kernel
theorem dL_law_385 : decode cL_law 385 = .ok (.invokevirtual 56, 3) := by decide +kernel
theorem dL_law_388 : decode cL_law 388 = .ok (.aload_n 2, 1) := by decide +kernel
theorem dL_law_389 : decode cL_law 389 = .ok (.invokevirtual 59, 3) := by decide +kernel
theorem dL_law_392 : decode cL_law 392 = .ok (.if_icmp .eq 602, 3) := by decide +kernel
theorem dL_law_395 : decode cL_law 395 = .ok (.iconst 0, 1) := by decide +kernel
theorem dL_law_396 : decode cL_law 396 = .ok (.ireturn, 1) := by decide +kernel
theorem dL_law_397 : decode cL_law 397 = .ok (.aload_n 1, 1) := by decide +kernel
theorem dL_law_398 : decode cL_law 398 = .ok (.invokevirtual 60, 3) := by decide +kernel
theorem dL_law_401 : decode cL_law 401 = .ok (.aload_n 2, 1) := by decide +kernel
theorem dL_law_402 : decode cL_law 402 = .ok (.invokevirtual 63, 3) := by decide +kernel
theorem dL_law_405 : decode cL_law 405 = .ok (.if_icmp .eq 589, 3) := by decide +kernel
theorem dL_law_408 : decode cL_law 408 = .ok (.iconst 0, 1) := by decide +kernel
theorem dL_law_409 : decode cL_law 409 = .ok (.ireturn, 1) := by decide +kernel
theorem dL_law_410 : decode cL_law 410 = .ok (.aload_n 1, 1) := by decide +kernel
theorem dL_law_411 : decode cL_law 411 = .ok (.aload_n 0, 1) := by decide +kernel
theorem dL_law_412 : decode cL_law 412 = .ok (.iload_n 3, 1) := by decide +kernel
theorem dL_law_413 : decode cL_law 413 = .ok (.iconst 1, 1) := by decide +kernel
theorem dL_law_414 : decode cL_law 414 = .ok (.iadd, 1) := by decide +kernel
theorem dL_law_415 : decode cL_law 415 = .ok (.iaload, 1) := by decide +kernel
theorem dL_law_416 : decode cL_law 416 = .ok (.aload_n 0, 1) := by decide +kernel
theorem dL_law_417 : decode cL_law 417 = .ok (.iload_n 3, 1) := by decide +kernel
theorem dL_law_418 : decode cL_law 418 = .ok (.iconst 2, 1) := by decide +kernel
theorem dL_law_419 : decode cL_law 419 = .ok (.iadd, 1) := by decide +kernel
theorem dL_law_420 : decode cL_law 420 = .ok (.iaload, 1) := by decide +kernel
theorem dL_law_421 : decode cL_law 421 = .ok (.invokevirtual 64, 3) := by decide +kernel
theorem dL_law_424 : decode cL_law 424 = .ok (.aload_n 2, 1) := by decide +kernel
theorem dL_law_425 : decode cL_law 425 = .ok (.aload_n 0, 1) := by decide +kernel
theorem dL_law_426 : decode cL_law 426 = .ok (.iload_n 3, 1) := by decide +kernel
theorem dL_law_427 : decode cL_law 427 = .ok (.iconst 1, 1) := by decide +kernel
theorem dL_law_428 : decode cL_law 428 = .ok (.iadd, 1) := by decide +kernel
theorem dL_law_429 : decode cL_law 429 = .ok (.iaload, 1) := by decide +kernel
theorem dL_law_430 : decode cL_law 430 = .ok (.aload_n 0, 1) := by decide +kernel
theorem dL_law_431 : decode cL_law 431 = .ok (.iload_n 3, 1) := by decide +kernel
theorem dL_law_432 : decode cL_law 432 = .ok (.iconst 2, 1) := by decide +kernel
theorem dL_law_433 : decode cL_law 433 = .ok (.iadd, 1) := by decide +kernel
theorem dL_law_434 : decode cL_law 434 = .ok (.iaload, 1) := by decide +kernel
theorem dL_law_435 : decode cL_law 435 = .ok (.invokevirtual 67, 3) := by decide +kernel
theorem dL_law_438 : decode cL_law 438 = .ok (.if_icmp .eq 556, 3) := by decide +kernel
theorem dL_law_441 : decode cL_law 441 = .ok (.iconst 0, 1) := by decide +kernel
theorem dL_law_442 : decode cL_law 442 = .ok (.ireturn, 1) := by decide +kernel
theorem dL_law_443 : decode cL_law 443 = .ok (.aload_n 1, 1) := by decide +kernel
theorem dL_law_444 : decode cL_law 444 = .ok (.invokevirtual 68, 3) := by decide +kernel
theorem dL_law_447 : decode cL_law 447 = .ok (.aload_n 2, 1) := by decide +kernel
theorem dL_law_448 : decode cL_law 448 = .ok (.invokevirtual 71, 3) := by decide +kernel
theorem dL_law_451 : decode cL_law 451 = .ok (.if_icmp .eq 543, 3) := by decide +kernel
theorem dL_law_454 : decode cL_law 454 = .ok (.iconst 0, 1) := by decide +kernel
theorem dL_law_455 : decode cL_law 455 = .ok (.ireturn, 1) := by decide +kernel
theorem dL_law_456 : decode cL_law 456 = .ok (.aload_n 1, 1) := by decide +kernel
theorem dL_law_457 : decode cL_law 457 = .ok (.invokevirtual 72, 3) := by decide +kernel
theorem dL_law_460 : decode cL_law 460 = .ok (.aload_n 2, 1) := by decide +kernel
theorem dL_law_461 : decode cL_law 461 = .ok (.invokevirtual 75, 3) := by decide +kernel
theorem dL_law_464 : decode cL_law 464 = .ok (.if_icmp .eq 530, 3) := by decide +kernel
theorem dL_law_467 : decode cL_law 467 = .ok (.iconst 0, 1) := by decide +kernel
theorem dL_law_468 : decode cL_law 468 = .ok (.ireturn, 1) := by decide +kernel
theorem dL_law_469 : decode cL_law 469 = .ok (.aload_n 1, 1) := by decide +kernel
theorem dL_law_470 : decode cL_law 470 = .ok (.aload_n 0, 1) := by decide +kernel
theorem dL_law_471 : decode cL_law 471 = .ok (.iload_n 3, 1) := by decide +kernel
theorem dL_law_472 : decode cL_law 472 = .ok (.iconst 1, 1) := by decide +kernel
theorem dL_law_473 : decode cL_law 473 = .ok (.iadd, 1) := by decide +kernel
theorem dL_law_474 : decode cL_law 474 = .ok (.iaload, 1) := by decide +kernel
theorem dL_law_475 : decode cL_law 475 = .ok (.aload_n 0, 1) := by decide +kernel
theorem dL_law_476 : decode cL_law 476 = .ok (.iload_n 3, 1) := by decide +kernel
theorem dL_law_477 : decode cL_law 477 = .ok (.iconst 2, 1) := by decide +kernel
theorem dL_law_478 : decode cL_law 478 = .ok (.iadd, 1) := by decide +kernel
theorem dL_law_479 : decode cL_law 479 = .ok (.iaload, 1) := by decide +kernel
theorem dL_law_480 : decode cL_law 480 = .ok (.invokevirtual 76, 3) := by decide +kernel
theorem dL_law_483 : decode cL_law 483 = .ok (.aload_n 2, 1) := by decide +kernel
theorem dL_law_484 : decode cL_law 484 = .ok (.aload_n 0, 1) := by decide +kernel
theorem dL_law_485 : decode cL_law 485 = .ok (.iload_n 3, 1) := by decide +kernel
theorem dL_law_486 : decode cL_law 486 = .ok (.iconst 1, 1) := by decide +kernel
theorem dL_law_487 : decode cL_law 487 = .ok (.iadd, 1) := by decide +kernel
theorem dL_law_488 : decode cL_law 488 = .ok (.iaload, 1) := by decide +kernel
theorem dL_law_489 : decode cL_law 489 = .ok (.aload_n 0, 1) := by decide +kernel
theorem dL_law_490 : decode cL_law 490 = .ok (.iload_n 3, 1) := by decide +kernel
theorem dL_law_491 : decode cL_law 491 = .ok (.iconst 2, 1) := by decide +kernel
theorem dL_law_492 : decode cL_law 492 = .ok (.iadd, 1) := by decide +kernel
theorem dL_law_493 : decode cL_law 493 = .ok (.iaload, 1) := by decide +kernel
theorem dL_law_494 : decode cL_law 494 = .ok (.invokevirtual 79, 3) := by decide +kernel
theorem dL_law_497 : decode cL_law 497 = .ok (.if_icmp .eq 497, 3) := by decide +kernel
theorem dL_law_500 : decode cL_law 500 = .ok (.iconst 0, 1) := by decide +kernel
theorem dL_law_501 : decode cL_law 501 = .ok (.ireturn, 1) := by decide +kernel
theorem dL_law_502 : decode cL_law 502 = .ok (.aload_n 1, 1) := by decide +kernel
theorem dL_law_503 : decode cL_law 503 = .ok (.aload_n 0, 1) := by decide +kernel
theorem dL_law_504 : decode cL_law 504 = .ok (.iload_n 3, 1) := by decide +kernel
theorem dL_law_505 : decode cL_law 505 = .ok (.iconst 1, 1) := by decide +kernel
theorem dL_law_506 : decode cL_law 506 = .ok (.iadd, 1) := by decide +kernel
theorem dL_law_507 : decode cL_law 507 = .ok (.iaload, 1) := by decide +kernel
theorem dL_law_508 : decode cL_law 508 = .ok (.aload_n 0, 1) := by decide +kernel
theorem dL_law_509 : decode cL_law 509 = .ok (.iload_n 3, 1) := by decide +kernel
theorem dL_law_510 : decode cL_law 510 = .ok (.iconst 2, 1) := by decide +kernel
theorem dL_law_511 : decode cL_law 511 = .ok (.iadd, 1) := by decide +kernel
theorem dL_law_512 : decode cL_law 512 = .ok (.iaload, 1) := by decide +kernel
theorem dL_law_513 : decode cL_law 513 = .ok (.aload_n 0, 1) := by decide +kernel
theorem dL_law_514 : decode cL_law 514 = .ok (.iload_n 3, 1) := by decide +kernel
theorem dL_law_515 : decode cL_law 515 = .ok (.iconst 3, 1) := by decide +kernel
theorem dL_law_516 : decode cL_law 516 = .ok (.iadd, 1) := by decide +kernel
theorem dL_law_517 : decode cL_law 517 = .ok (.iaload, 1) := by decide +kernel
theorem dL_law_518 : decode cL_law 518 = .ok (.aload_n 0, 1) := by decide +kernel
theorem dL_law_519 : decode cL_law 519 = .ok (.iload_n 3, 1) := by decide +kernel
theorem dL_law_520 : decode cL_law 520 = .ok (.iconst 4, 1) := by decide +kernel
theorem dL_law_521 : decode cL_law 521 = .ok (.iadd, 1) := by decide +kernel
theorem dL_law_522 : decode cL_law 522 = .ok (.iaload, 1) := by decide +kernel
theorem dL_law_523 : decode cL_law 523 = .ok (.invokevirtual 80, 3) := by decide +kernel
theorem dL_law_526 : decode cL_law 526 = .ok (.aload_n 2, 1) := by decide +kernel
theorem dL_law_527 : decode cL_law 527 = .ok (.aload_n 0, 1) := by decide +kernel
theorem dL_law_528 : decode cL_law 528 = .ok (.iload_n 3, 1) := by decide +kernel
theorem dL_law_529 : decode cL_law 529 = .ok (.iconst 1, 1) := by decide +kernel
theorem dL_law_530 : decode cL_law 530 = .ok (.iadd, 1) := by decide +kernel
theorem dL_law_531 : decode cL_law 531 = .ok (.iaload, 1) := by decide +kernel
theorem dL_law_532 : decode cL_law 532 = .ok (.aload_n 0, 1) := by decide +kernel
theorem dL_law_533 : decode cL_law 533 = .ok (.iload_n 3, 1) := by decide +kernel
theorem dL_law_534 : decode cL_law 534 = .ok (.iconst 2, 1) := by decide +kernel
theorem dL_law_535 : decode cL_law 535 = .ok (.iadd, 1) := by decide +kernel
theorem dL_law_536 : decode cL_law 536 = .ok (.iaload, 1) := by decide +kernel
theorem dL_law_537 : decode cL_law 537 = .ok (.aload_n 0, 1) := by decide +kernel
theorem dL_law_538 : decode cL_law 538 = .ok (.iload_n 3, 1) := by decide +kernel
theorem dL_law_539 : decode cL_law 539 = .ok (.iconst 3, 1) := by decide +kernel
theorem dL_law_540 : decode cL_law 540 = .ok (.iadd, 1) := by decide +kernel
theorem dL_law_541 : decode cL_law 541 = .ok (.iaload, 1) := by decide +kernel
theorem dL_law_542 : decode cL_law 542 = .ok (.aload_n 0, 1) := by decide +kernel
theorem dL_law_543 : decode cL_law 543 = .ok (.iload_n 3, 1) := by decide +kernel
theorem dL_law_544 : decode cL_law 544 = .ok (.iconst 4, 1) := by decide +kernel
theorem dL_law_545 : decode cL_law 545 = .ok (.iadd, 1) := by decide +kernel
theorem dL_law_546 : decode cL_law 546 = .ok (.iaload, 1) := by decide +kernel
theorem dL_law_547 : decode cL_law 547 = .ok (.invokevirtual 84, 3) := by decide +kernel
theorem dL_law_550 : decode cL_law 550 = .ok (.if_icmp .eq 444, 3) := by decide +kernel
theorem dL_law_553 : decode cL_law 553 = .ok (.iconst 0, 1) := by decide +kernel
theorem dL_law_554 : decode cL_law 554 = .ok (.ireturn, 1) := by decide +kernel
theorem dL_law_555 : decode cL_law 555 = .ok (.aload_n 1, 1) := by decide +kernel
theorem dL_law_556 : decode cL_law 556 = .ok (.aload_n 0, 1) := by decide +kernel
theorem dL_law_557 : decode cL_law 557 = .ok (.iload_n 3, 1) := by decide +kernel
theorem dL_law_558 : decode cL_law 558 = .ok (.iconst 1, 1) := by decide +kernel
theorem dL_law_559 : decode cL_law 559 = .ok (.iadd, 1) := by decide +kernel
theorem dL_law_560 : decode cL_law 560 = .ok (.iaload, 1) := by decide +kernel
theorem dL_law_561 : decode cL_law 561 = .ok (.aload_n 0, 1) := by decide +kernel
theorem dL_law_562 : decode cL_law 562 = .ok (.iload_n 3, 1) := by decide +kernel
theorem dL_law_563 : decode cL_law 563 = .ok (.iconst 2, 1) := by decide +kernel
theorem dL_law_564 : decode cL_law 564 = .ok (.iadd, 1) := by decide +kernel
theorem dL_law_565 : decode cL_law 565 = .ok (.iaload, 1) := by decide +kernel
theorem dL_law_566 : decode cL_law 566 = .ok (.i2l, 1) := by decide +kernel
theorem dL_law_567 : decode cL_law 567 = .ok (.bipush 32, 2) := by decide +kernel
theorem dL_law_569 : decode cL_law 569 = .ok (.lshl, 1) := by decide +kernel
theorem dL_law_570 : decode cL_law 570 = .ok (.aload_n 0, 1) := by decide +kernel
theorem dL_law_571 : decode cL_law 571 = .ok (.iload_n 3, 1) := by decide +kernel
theorem dL_law_572 : decode cL_law 572 = .ok (.iconst 3, 1) := by decide +kernel
theorem dL_law_573 : decode cL_law 573 = .ok (.iadd, 1) := by decide +kernel
theorem dL_law_574 : decode cL_law 574 = .ok (.iaload, 1) := by decide +kernel
theorem dL_law_575 : decode cL_law 575 = .ok (.i2l, 1) := by decide +kernel
theorem dL_law_576 : decode cL_law 576 = .ok (.ldc2_w 85, 3) := by decide +kernel
theorem dL_law_579 : decode cL_law 579 = .ok (.land, 1) := by decide +kernel
theorem dL_law_580 : decode cL_law 580 = .ok (.lor, 1) := by decide +kernel
theorem dL_law_581 : decode cL_law 581 = .ok (.invokevirtual 87, 3) := by decide +kernel
theorem dL_law_584 : decode cL_law 584 = .ok (.aload_n 2, 1) := by decide +kernel
theorem dL_law_585 : decode cL_law 585 = .ok (.aload_n 0, 1) := by decide +kernel
theorem dL_law_586 : decode cL_law 586 = .ok (.iload_n 3, 1) := by decide +kernel
theorem dL_law_587 : decode cL_law 587 = .ok (.iconst 1, 1) := by decide +kernel
theorem dL_law_588 : decode cL_law 588 = .ok (.iadd, 1) := by decide +kernel
theorem dL_law_589 : decode cL_law 589 = .ok (.iaload, 1) := by decide +kernel
theorem dL_law_590 : decode cL_law 590 = .ok (.aload_n 0, 1) := by decide +kernel
theorem dL_law_591 : decode cL_law 591 = .ok (.iload_n 3, 1) := by decide +kernel
theorem dL_law_592 : decode cL_law 592 = .ok (.iconst 2, 1) := by decide +kernel
theorem dL_law_593 : decode cL_law 593 = .ok (.iadd, 1) := by decide +kernel
theorem dL_law_594 : decode cL_law 594 = .ok (.iaload, 1) := by decide +kernel
theorem dL_law_595 : decode cL_law 595 = .ok (.i2l, 1) := by decide +kernel
theorem dL_law_596 : decode cL_law 596 = .ok (.bipush 32, 2) := by decide +kernel
theorem dL_law_598 : decode cL_law 598 = .ok (.lshl, 1) := by decide +kernel
theorem dL_law_599 : decode cL_law 599 = .ok (.aload_n 0, 1) := by decide +kernel
theorem dL_law_600 : decode cL_law 600 = .ok (.iload_n 3, 1) := by decide +kernel
theorem dL_law_601 : decode cL_law 601 = .ok (.iconst 3, 1) := by decide +kernel
theorem dL_law_602 : decode cL_law 602 = .ok (.iadd, 1) := by decide +kernel
theorem dL_law_603 : decode cL_law 603 = .ok (.iaload, 1) := by decide +kernel
theorem dL_law_604 : decode cL_law 604 = .ok (.i2l, 1) := by decide +kernel
theorem dL_law_605 : decode cL_law 605 = .ok (.ldc2_w 85, 3) := by decide +kernel
theorem dL_law_608 : decode cL_law 608 = .ok (.land, 1) := by decide +kernel
theorem dL_law_609 : decode cL_law 609 = .ok (.lor, 1) := by decide +kernel
theorem dL_law_610 : decode cL_law 610 = .ok (.invokevirtual 91, 3) := by decide +kernel
theorem dL_law_613 : decode cL_law 613 = .ok (.if_icmp .eq 381, 3) := by decide +kernel
theorem dL_law_616 : decode cL_law 616 = .ok (.iconst 0, 1) := by decide +kernel
theorem dL_law_617 : decode cL_law 617 = .ok (.ireturn, 1) := by decide +kernel
theorem dL_law_618 : decode cL_law 618 = .ok (.aload_n 1, 1) := by decide +kernel
theorem dL_law_619 : decode cL_law 619 = .ok (.aload_n 0, 1) := by decide +kernel
theorem dL_law_620 : decode cL_law 620 = .ok (.iload_n 3, 1) := by decide +kernel
theorem dL_law_621 : decode cL_law 621 = .ok (.iconst 1, 1) := by decide +kernel
theorem dL_law_622 : decode cL_law 622 = .ok (.iadd, 1) := by decide +kernel
theorem dL_law_623 : decode cL_law 623 = .ok (.iaload, 1) := by decide +kernel
theorem dL_law_624 : decode cL_law 624 = .ok (.aload_n 0, 1) := by decide +kernel
theorem dL_law_625 : decode cL_law 625 = .ok (.iload_n 3, 1) := by decide +kernel
theorem dL_law_626 : decode cL_law 626 = .ok (.iconst 2, 1) := by decide +kernel
theorem dL_law_627 : decode cL_law 627 = .ok (.iadd, 1) := by decide +kernel
theorem dL_law_628 : decode cL_law 628 = .ok (.iaload, 1) := by decide +kernel
theorem dL_law_629 : decode cL_law 629 = .ok (.aload_n 0, 1) := by decide +kernel
theorem dL_law_630 : decode cL_law 630 = .ok (.iload_n 3, 1) := by decide +kernel
theorem dL_law_631 : decode cL_law 631 = .ok (.iconst 3, 1) := by decide +kernel
theorem dL_law_632 : decode cL_law 632 = .ok (.iadd, 1) := by decide +kernel
theorem dL_law_633 : decode cL_law 633 = .ok (.iaload, 1) := by decide +kernel
theorem dL_law_634 : decode cL_law 634 = .ok (.invokevirtual 92, 3) := by decide +kernel
theorem dL_law_637 : decode cL_law 637 = .ok (.aload_n 2, 1) := by decide +kernel
theorem dL_law_638 : decode cL_law 638 = .ok (.aload_n 0, 1) := by decide +kernel
theorem dL_law_639 : decode cL_law 639 = .ok (.iload_n 3, 1) := by decide +kernel
theorem dL_law_640 : decode cL_law 640 = .ok (.iconst 1, 1) := by decide +kernel
theorem dL_law_641 : decode cL_law 641 = .ok (.iadd, 1) := by decide +kernel
theorem dL_law_642 : decode cL_law 642 = .ok (.iaload, 1) := by decide +kernel
theorem dL_law_643 : decode cL_law 643 = .ok (.aload_n 0, 1) := by decide +kernel
theorem dL_law_644 : decode cL_law 644 = .ok (.iload_n 3, 1) := by decide +kernel
theorem dL_law_645 : decode cL_law 645 = .ok (.iconst 2, 1) := by decide +kernel
theorem dL_law_646 : decode cL_law 646 = .ok (.iadd, 1) := by decide +kernel
theorem dL_law_647 : decode cL_law 647 = .ok (.iaload, 1) := by decide +kernel
theorem dL_law_648 : decode cL_law 648 = .ok (.aload_n 0, 1) := by decide +kernel
theorem dL_law_649 : decode cL_law 649 = .ok (.iload_n 3, 1) := by decide +kernel
theorem dL_law_650 : decode cL_law 650 = .ok (.iconst 3, 1) := by decide +kernel
theorem dL_law_651 : decode cL_law 651 = .ok (.iadd, 1) := by decide +kernel
theorem dL_law_652 : decode cL_law 652 = .ok (.iaload, 1) := by decide +kernel
theorem dL_law_653 : decode cL_law 653 = .ok (.invokevirtual 96, 3) := by decide +kernel
theorem dL_law_656 : decode cL_law 656 = .ok (.if_icmp .eq 338, 3) := by decide +kernel
theorem dL_law_659 : decode cL_law 659 = .ok (.iconst 0, 1) := by decide +kernel
theorem dL_law_660 : decode cL_law 660 = .ok (.ireturn, 1) := by decide +kernel
theorem dL_law_661 : decode cL_law 661 = .ok (.aload_n 1, 1) := by decide +kernel
theorem dL_law_662 : decode cL_law 662 = .ok (.invokevirtual 97, 3) := by decide +kernel
theorem dL_law_665 : decode cL_law 665 = .ok (.aload_n 2, 1) := by decide +kernel
theorem dL_law_666 : decode cL_law 666 = .ok (.invokevirtual 100, 3) := by decide +kernel
theorem dL_law_669 : decode cL_law 669 = .ok (.if_icmp .eq 325, 3) := by decide +kernel
theorem dL_law_672 : decode cL_law 672 = .ok (.iconst 0, 1) := by decide +kernel
theorem dL_law_673 : decode cL_law 673 = .ok (.ireturn, 1) := by decide +kernel
theorem dL_law_674 : decode cL_law 674 = .ok (.aload_n 1, 1) := by decide +kernel
theorem dL_law_675 : decode cL_law 675 = .ok (.aload_n 0, 1) := by decide +kernel
theorem dL_law_676 : decode cL_law 676 = .ok (.iload_n 3, 1) := by decide +kernel
theorem dL_law_677 : decode cL_law 677 = .ok (.iconst 1, 1) := by decide +kernel
theorem dL_law_678 : decode cL_law 678 = .ok (.iadd, 1) := by decide +kernel
theorem dL_law_679 : decode cL_law 679 = .ok (.iaload, 1) := by decide +kernel
theorem dL_law_680 : decode cL_law 680 = .ok (.invokevirtual 101, 3) := by decide +kernel
theorem dL_law_683 : decode cL_law 683 = .ok (.aload_n 2, 1) := by decide +kernel
theorem dL_law_684 : decode cL_law 684 = .ok (.aload_n 0, 1) := by decide +kernel
theorem dL_law_685 : decode cL_law 685 = .ok (.iload_n 3, 1) := by decide +kernel
theorem dL_law_686 : decode cL_law 686 = .ok (.iconst 1, 1) := by decide +kernel
theorem dL_law_687 : decode cL_law 687 = .ok (.iadd, 1) := by decide +kernel
theorem dL_law_688 : decode cL_law 688 = .ok (.iaload, 1) := by decide +kernel
theorem dL_law_689 : decode cL_law 689 = .ok (.invokevirtual 104, 3) := by decide +kernel
theorem dL_law_692 : decode cL_law 692 = .ok (.if_icmp .eq 302, 3) := by decide +kernel
theorem dL_law_695 : decode cL_law 695 = .ok (.iconst 0, 1) := by decide +kernel
theorem dL_law_696 : decode cL_law 696 = .ok (.ireturn, 1) := by decide +kernel
theorem dL_law_697 : decode cL_law 697 = .ok (.aload_n 1, 1) := by decide +kernel
theorem dL_law_698 : decode cL_law 698 = .ok (.aload_n 0, 1) := by decide +kernel
theorem dL_law_699 : decode cL_law 699 = .ok (.iload_n 3, 1) := by decide +kernel
theorem dL_law_700 : decode cL_law 700 = .ok (.iconst 1, 1) := by decide +kernel
theorem dL_law_701 : decode cL_law 701 = .ok (.iadd, 1) := by decide +kernel
theorem dL_law_702 : decode cL_law 702 = .ok (.iaload, 1) := by decide +kernel
theorem dL_law_703 : decode cL_law 703 = .ok (.aload_n 0, 1) := by decide +kernel
theorem dL_law_704 : decode cL_law 704 = .ok (.iload_n 3, 1) := by decide +kernel
theorem dL_law_705 : decode cL_law 705 = .ok (.iconst 2, 1) := by decide +kernel
theorem dL_law_706 : decode cL_law 706 = .ok (.iadd, 1) := by decide +kernel
theorem dL_law_707 : decode cL_law 707 = .ok (.iaload, 1) := by decide +kernel
theorem dL_law_708 : decode cL_law 708 = .ok (.ifCond .eq 7, 3) := by decide +kernel
theorem dL_law_711 : decode cL_law 711 = .ok (.iconst 1, 1) := by decide +kernel
theorem dL_law_712 : decode cL_law 712 = .ok (.goto 4, 3) := by decide +kernel
theorem dL_law_715 : decode cL_law 715 = .ok (.iconst 0, 1) := by decide +kernel
theorem dL_law_716 : decode cL_law 716 = .ok (.invokevirtual 105, 3) := by decide +kernel
theorem dL_law_719 : decode cL_law 719 = .ok (.aload_n 2, 1) := by decide +kernel
theorem dL_law_720 : decode cL_law 720 = .ok (.aload_n 0, 1) := by decide +kernel
theorem dL_law_721 : decode cL_law 721 = .ok (.iload_n 3, 1) := by decide +kernel
theorem dL_law_722 : decode cL_law 722 = .ok (.iconst 1, 1) := by decide +kernel
theorem dL_law_723 : decode cL_law 723 = .ok (.iadd, 1) := by decide +kernel
theorem dL_law_724 : decode cL_law 724 = .ok (.iaload, 1) := by decide +kernel
theorem dL_law_725 : decode cL_law 725 = .ok (.aload_n 0, 1) := by decide +kernel
theorem dL_law_726 : decode cL_law 726 = .ok (.iload_n 3, 1) := by decide +kernel
theorem dL_law_727 : decode cL_law 727 = .ok (.iconst 2, 1) := by decide +kernel
theorem dL_law_728 : decode cL_law 728 = .ok (.iadd, 1) := by decide +kernel
theorem dL_law_729 : decode cL_law 729 = .ok (.iaload, 1) := by decide +kernel
theorem dL_law_730 : decode cL_law 730 = .ok (.ifCond .eq 7, 3) := by decide +kernel
theorem dL_law_733 : decode cL_law 733 = .ok (.iconst 1, 1) := by decide +kernel
theorem dL_law_734 : decode cL_law 734 = .ok (.goto 4, 3) := by decide +kernel
theorem dL_law_737 : decode cL_law 737 = .ok (.iconst 0, 1) := by decide +kernel
theorem dL_law_738 : decode cL_law 738 = .ok (.invokevirtual 109, 3) := by decide +kernel
theorem dL_law_741 : decode cL_law 741 = .ok (.if_icmp .eq 253, 3) := by decide +kernel
theorem dL_law_744 : decode cL_law 744 = .ok (.iconst 0, 1) := by decide +kernel
theorem dL_law_745 : decode cL_law 745 = .ok (.ireturn, 1) := by decide +kernel
theorem dL_law_746 : decode cL_law 746 = .ok (.aload_n 1, 1) := by decide +kernel
theorem dL_law_747 : decode cL_law 747 = .ok (.aload_n 0, 1) := by decide +kernel
theorem dL_law_748 : decode cL_law 748 = .ok (.iload_n 3, 1) := by decide +kernel
theorem dL_law_749 : decode cL_law 749 = .ok (.iconst 1, 1) := by decide +kernel
theorem dL_law_750 : decode cL_law 750 = .ok (.iadd, 1) := by decide +kernel
theorem dL_law_751 : decode cL_law 751 = .ok (.iaload, 1) := by decide +kernel
theorem dL_law_752 : decode cL_law 752 = .ok (.aload_n 0, 1) := by decide +kernel
theorem dL_law_753 : decode cL_law 753 = .ok (.iload_n 3, 1) := by decide +kernel
theorem dL_law_754 : decode cL_law 754 = .ok (.iconst 2, 1) := by decide +kernel
theorem dL_law_755 : decode cL_law 755 = .ok (.iadd, 1) := by decide +kernel
theorem dL_law_756 : decode cL_law 756 = .ok (.iaload, 1) := by decide +kernel
theorem dL_law_757 : decode cL_law 757 = .ok (.aload_n 0, 1) := by decide +kernel
theorem dL_law_758 : decode cL_law 758 = .ok (.iload_n 3, 1) := by decide +kernel
theorem dL_law_759 : decode cL_law 759 = .ok (.iconst 3, 1) := by decide +kernel
theorem dL_law_760 : decode cL_law 760 = .ok (.iadd, 1) := by decide +kernel
theorem dL_law_761 : decode cL_law 761 = .ok (.iaload, 1) := by decide +kernel
theorem dL_law_762 : decode cL_law 762 = .ok (.invokevirtual 110, 3) := by decide +kernel
theorem dL_law_765 : decode cL_law 765 = .ok (.aload_n 2, 1) := by decide +kernel
theorem dL_law_766 : decode cL_law 766 = .ok (.aload_n 0, 1) := by decide +kernel
theorem dL_law_767 : decode cL_law 767 = .ok (.iload_n 3, 1) := by decide +kernel
theorem dL_law_768 : decode cL_law 768 = .ok (.iconst 1, 1) := by decide +kernel
theorem dL_law_769 : decode cL_law 769 = .ok (.iadd, 1) := by decide +kernel
theorem dL_law_770 : decode cL_law 770 = .ok (.iaload, 1) := by decide +kernel
theorem dL_law_771 : decode cL_law 771 = .ok (.aload_n 0, 1) := by decide +kernel
theorem dL_law_772 : decode cL_law 772 = .ok (.iload_n 3, 1) := by decide +kernel
theorem dL_law_773 : decode cL_law 773 = .ok (.iconst 2, 1) := by decide +kernel
theorem dL_law_774 : decode cL_law 774 = .ok (.iadd, 1) := by decide +kernel
theorem dL_law_775 : decode cL_law 775 = .ok (.iaload, 1) := by decide +kernel
theorem dL_law_776 : decode cL_law 776 = .ok (.aload_n 0, 1) := by decide +kernel
theorem dL_law_777 : decode cL_law 777 = .ok (.iload_n 3, 1) := by decide +kernel
theorem dL_law_778 : decode cL_law 778 = .ok (.iconst 3, 1) := by decide +kernel
theorem dL_law_779 : decode cL_law 779 = .ok (.iadd, 1) := by decide +kernel
theorem dL_law_780 : decode cL_law 780 = .ok (.iaload, 1) := by decide +kernel
theorem dL_law_781 : decode cL_law 781 = .ok (.invokevirtual 113, 3) := by decide +kernel
theorem dL_law_784 : decode cL_law 784 = .ok (.if_icmp .eq 210, 3) := by decide +kernel
theorem dL_law_787 : decode cL_law 787 = .ok (.iconst 0, 1) := by decide +kernel
theorem dL_law_788 : decode cL_law 788 = .ok (.ireturn, 1) := by decide +kernel
theorem dL_law_789 : decode cL_law 789 = .ok (.aload_n 1, 1) := by decide +kernel
theorem dL_law_790 : decode cL_law 790 = .ok (.aload_n 0, 1) := by decide +kernel
theorem dL_law_791 : decode cL_law 791 = .ok (.iload_n 3, 1) := by decide +kernel
theorem dL_law_792 : decode cL_law 792 = .ok (.iconst 1, 1) := by decide +kernel
theorem dL_law_793 : decode cL_law 793 = .ok (.iadd, 1) := by decide +kernel
theorem dL_law_794 : decode cL_law 794 = .ok (.iaload, 1) := by decide +kernel
theorem dL_law_795 : decode cL_law 795 = .ok (.aload_n 0, 1) := by decide +kernel
theorem dL_law_796 : decode cL_law 796 = .ok (.iload_n 3, 1) := by decide +kernel
theorem dL_law_797 : decode cL_law 797 = .ok (.iconst 2, 1) := by decide +kernel
theorem dL_law_798 : decode cL_law 798 = .ok (.iadd, 1) := by decide +kernel
theorem dL_law_799 : decode cL_law 799 = .ok (.iaload, 1) := by decide +kernel
theorem dL_law_800 : decode cL_law 800 = .ok (.aload_n 0, 1) := by decide +kernel
theorem dL_law_801 : decode cL_law 801 = .ok (.iload_n 3, 1) := by decide +kernel
theorem dL_law_802 : decode cL_law 802 = .ok (.iconst 3, 1) := by decide +kernel
theorem dL_law_803 : decode cL_law 803 = .ok (.iadd, 1) := by decide +kernel
theorem dL_law_804 : decode cL_law 804 = .ok (.iaload, 1) := by decide +kernel
theorem dL_law_805 : decode cL_law 805 = .ok (.ifCond .eq 7, 3) := by decide +kernel
theorem dL_law_808 : decode cL_law 808 = .ok (.iconst 1, 1) := by decide +kernel
theorem dL_law_809 : decode cL_law 809 = .ok (.goto 4, 3) := by decide +kernel
theorem dL_law_812 : decode cL_law 812 = .ok (.iconst 0, 1) := by decide +kernel
theorem dL_law_813 : decode cL_law 813 = .ok (.invokevirtual 114, 3) := by decide +kernel
theorem dL_law_816 : decode cL_law 816 = .ok (.aload_n 2, 1) := by decide +kernel
theorem dL_law_817 : decode cL_law 817 = .ok (.aload_n 0, 1) := by decide +kernel
theorem dL_law_818 : decode cL_law 818 = .ok (.iload_n 3, 1) := by decide +kernel
theorem dL_law_819 : decode cL_law 819 = .ok (.iconst 1, 1) := by decide +kernel
theorem dL_law_820 : decode cL_law 820 = .ok (.iadd, 1) := by decide +kernel
theorem dL_law_821 : decode cL_law 821 = .ok (.iaload, 1) := by decide +kernel
theorem dL_law_822 : decode cL_law 822 = .ok (.aload_n 0, 1) := by decide +kernel
theorem dL_law_823 : decode cL_law 823 = .ok (.iload_n 3, 1) := by decide +kernel
theorem dL_law_824 : decode cL_law 824 = .ok (.iconst 2, 1) := by decide +kernel
theorem dL_law_825 : decode cL_law 825 = .ok (.iadd, 1) := by decide +kernel
theorem dL_law_826 : decode cL_law 826 = .ok (.iaload, 1) := by decide +kernel
theorem dL_law_827 : decode cL_law 827 = .ok (.aload_n 0, 1) := by decide +kernel
theorem dL_law_828 : decode cL_law 828 = .ok (.iload_n 3, 1) := by decide +kernel
theorem dL_law_829 : decode cL_law 829 = .ok (.iconst 3, 1) := by decide +kernel
theorem dL_law_830 : decode cL_law 830 = .ok (.iadd, 1) := by decide +kernel
theorem dL_law_831 : decode cL_law 831 = .ok (.iaload, 1) := by decide +kernel
theorem dL_law_832 : decode cL_law 832 = .ok (.ifCond .eq 7, 3) := by decide +kernel
theorem dL_law_835 : decode cL_law 835 = .ok (.iconst 1, 1) := by decide +kernel
theorem dL_law_836 : decode cL_law 836 = .ok (.goto 4, 3) := by decide +kernel
theorem dL_law_839 : decode cL_law 839 = .ok (.iconst 0, 1) := by decide +kernel
theorem dL_law_840 : decode cL_law 840 = .ok (.invokevirtual 118, 3) := by decide +kernel
theorem dL_law_843 : decode cL_law 843 = .ok (.if_icmp .eq 151, 3) := by decide +kernel
theorem dL_law_846 : decode cL_law 846 = .ok (.iconst 0, 1) := by decide +kernel
theorem dL_law_847 : decode cL_law 847 = .ok (.ireturn, 1) := by decide +kernel
theorem dL_law_848 : decode cL_law 848 = .ok (.aload_n 1, 1) := by decide +kernel
theorem dL_law_849 : decode cL_law 849 = .ok (.aload_n 0, 1) := by decide +kernel
theorem dL_law_850 : decode cL_law 850 = .ok (.iload_n 3, 1) := by decide +kernel
theorem dL_law_851 : decode cL_law 851 = .ok (.iconst 1, 1) := by decide +kernel
theorem dL_law_852 : decode cL_law 852 = .ok (.iadd, 1) := by decide +kernel
theorem dL_law_853 : decode cL_law 853 = .ok (.iaload, 1) := by decide +kernel
theorem dL_law_854 : decode cL_law 854 = .ok (.i2l, 1) := by decide +kernel
theorem dL_law_855 : decode cL_law 855 = .ok (.bipush 32, 2) := by decide +kernel
theorem dL_law_857 : decode cL_law 857 = .ok (.lshl, 1) := by decide +kernel
theorem dL_law_858 : decode cL_law 858 = .ok (.aload_n 0, 1) := by decide +kernel
theorem dL_law_859 : decode cL_law 859 = .ok (.iload_n 3, 1) := by decide +kernel
theorem dL_law_860 : decode cL_law 860 = .ok (.iconst 2, 1) := by decide +kernel
theorem dL_law_861 : decode cL_law 861 = .ok (.iadd, 1) := by decide +kernel
theorem dL_law_862 : decode cL_law 862 = .ok (.iaload, 1) := by decide +kernel
theorem dL_law_863 : decode cL_law 863 = .ok (.i2l, 1) := by decide +kernel
theorem dL_law_864 : decode cL_law 864 = .ok (.ldc2_w 85, 3) := by decide +kernel
theorem dL_law_867 : decode cL_law 867 = .ok (.land, 1) := by decide +kernel
theorem dL_law_868 : decode cL_law 868 = .ok (.lor, 1) := by decide +kernel
theorem dL_law_869 : decode cL_law 869 = .ok (.invokevirtual 119, 3) := by decide +kernel
theorem dL_law_872 : decode cL_law 872 = .ok (.aload_n 2, 1) := by decide +kernel
theorem dL_law_873 : decode cL_law 873 = .ok (.aload_n 0, 1) := by decide +kernel
theorem dL_law_874 : decode cL_law 874 = .ok (.iload_n 3, 1) := by decide +kernel
theorem dL_law_875 : decode cL_law 875 = .ok (.iconst 1, 1) := by decide +kernel
theorem dL_law_876 : decode cL_law 876 = .ok (.iadd, 1) := by decide +kernel
theorem dL_law_877 : decode cL_law 877 = .ok (.iaload, 1) := by decide +kernel
theorem dL_law_878 : decode cL_law 878 = .ok (.i2l, 1) := by decide +kernel
theorem dL_law_879 : decode cL_law 879 = .ok (.bipush 32, 2) := by decide +kernel
theorem dL_law_881 : decode cL_law 881 = .ok (.lshl, 1) := by decide +kernel
theorem dL_law_882 : decode cL_law 882 = .ok (.aload_n 0, 1) := by decide +kernel
theorem dL_law_883 : decode cL_law 883 = .ok (.iload_n 3, 1) := by decide +kernel
theorem dL_law_884 : decode cL_law 884 = .ok (.iconst 2, 1) := by decide +kernel
theorem dL_law_885 : decode cL_law 885 = .ok (.iadd, 1) := by decide +kernel
theorem dL_law_886 : decode cL_law 886 = .ok (.iaload, 1) := by decide +kernel
theorem dL_law_887 : decode cL_law 887 = .ok (.i2l, 1) := by decide +kernel
theorem dL_law_888 : decode cL_law 888 = .ok (.ldc2_w 85, 3) := by decide +kernel
theorem dL_law_891 : decode cL_law 891 = .ok (.land, 1) := by decide +kernel
theorem dL_law_892 : decode cL_law 892 = .ok (.lor, 1) := by decide +kernel
theorem dL_law_893 : decode cL_law 893 = .ok (.invokevirtual 123, 3) := by decide +kernel
theorem dL_law_896 : decode cL_law 896 = .ok (.lcmp, 1) := by decide +kernel
theorem dL_law_897 : decode cL_law 897 = .ok (.ifCond .eq 97, 3) := by decide +kernel
theorem dL_law_900 : decode cL_law 900 = .ok (.iconst 0, 1) := by decide +kernel
theorem dL_law_901 : decode cL_law 901 = .ok (.ireturn, 1) := by decide +kernel
theorem dL_law_902 : decode cL_law 902 = .ok (.aload_n 1, 1) := by decide +kernel
theorem dL_law_903 : decode cL_law 903 = .ok (.aload_n 0, 1) := by decide +kernel
theorem dL_law_904 : decode cL_law 904 = .ok (.iload_n 3, 1) := by decide +kernel
theorem dL_law_905 : decode cL_law 905 = .ok (.iconst 1, 1) := by decide +kernel
theorem dL_law_906 : decode cL_law 906 = .ok (.iadd, 1) := by decide +kernel
theorem dL_law_907 : decode cL_law 907 = .ok (.iaload, 1) := by decide +kernel
theorem dL_law_908 : decode cL_law 908 = .ok (.invokevirtual 124, 3) := by decide +kernel
theorem dL_law_911 : decode cL_law 911 = .ok (.aload_n 2, 1) := by decide +kernel
theorem dL_law_912 : decode cL_law 912 = .ok (.aload_n 0, 1) := by decide +kernel
theorem dL_law_913 : decode cL_law 913 = .ok (.iload_n 3, 1) := by decide +kernel
theorem dL_law_914 : decode cL_law 914 = .ok (.iconst 1, 1) := by decide +kernel
theorem dL_law_915 : decode cL_law 915 = .ok (.iadd, 1) := by decide +kernel
theorem dL_law_916 : decode cL_law 916 = .ok (.iaload, 1) := by decide +kernel
theorem dL_law_917 : decode cL_law 917 = .ok (.invokevirtual 127, 3) := by decide +kernel
theorem dL_law_920 : decode cL_law 920 = .ok (.if_icmp .eq 74, 3) := by decide +kernel
theorem dL_law_923 : decode cL_law 923 = .ok (.iconst 0, 1) := by decide +kernel
theorem dL_law_924 : decode cL_law 924 = .ok (.ireturn, 1) := by decide +kernel
theorem dL_law_925 : decode cL_law 925 = .ok (.aload_n 1, 1) := by decide +kernel
theorem dL_law_926 : decode cL_law 926 = .ok (.aload_n 0, 1) := by decide +kernel
theorem dL_law_927 : decode cL_law 927 = .ok (.iload_n 3, 1) := by decide +kernel
theorem dL_law_928 : decode cL_law 928 = .ok (.iconst 1, 1) := by decide +kernel
theorem dL_law_929 : decode cL_law 929 = .ok (.iadd, 1) := by decide +kernel
theorem dL_law_930 : decode cL_law 930 = .ok (.iaload, 1) := by decide +kernel
theorem dL_law_931 : decode cL_law 931 = .ok (.invokevirtual 128, 3) := by decide +kernel
theorem dL_law_934 : decode cL_law 934 = .ok (.aload_n 2, 1) := by decide +kernel
theorem dL_law_935 : decode cL_law 935 = .ok (.aload_n 0, 1) := by decide +kernel
theorem dL_law_936 : decode cL_law 936 = .ok (.iload_n 3, 1) := by decide +kernel
theorem dL_law_937 : decode cL_law 937 = .ok (.iconst 1, 1) := by decide +kernel
theorem dL_law_938 : decode cL_law 938 = .ok (.iadd, 1) := by decide +kernel
theorem dL_law_939 : decode cL_law 939 = .ok (.iaload, 1) := by decide +kernel
theorem dL_law_940 : decode cL_law 940 = .ok (.invokevirtual 131, 3) := by decide +kernel
theorem dL_law_943 : decode cL_law 943 = .ok (.if_icmp .eq 51, 3) := by decide +kernel
theorem dL_law_946 : decode cL_law 946 = .ok (.iconst 0, 1) := by decide +kernel
theorem dL_law_947 : decode cL_law 947 = .ok (.ireturn, 1) := by decide +kernel
theorem dL_law_948 : decode cL_law 948 = .ok (.aload_n 1, 1) := by decide +kernel
theorem dL_law_949 : decode cL_law 949 = .ok (.aload_n 0, 1) := by decide +kernel
theorem dL_law_950 : decode cL_law 950 = .ok (.iload_n 3, 1) := by decide +kernel
theorem dL_law_951 : decode cL_law 951 = .ok (.iconst 1, 1) := by decide +kernel
theorem dL_law_952 : decode cL_law 952 = .ok (.iadd, 1) := by decide +kernel
theorem dL_law_953 : decode cL_law 953 = .ok (.iaload, 1) := by decide +kernel
theorem dL_law_954 : decode cL_law 954 = .ok (.invokevirtual 132, 3) := by decide +kernel
theorem dL_law_957 : decode cL_law 957 = .ok (.aload_n 2, 1) := by decide +kernel
theorem dL_law_958 : decode cL_law 958 = .ok (.aload_n 0, 1) := by decide +kernel
theorem dL_law_959 : decode cL_law 959 = .ok (.iload_n 3, 1) := by decide +kernel
theorem dL_law_960 : decode cL_law 960 = .ok (.iconst 1, 1) := by decide +kernel
theorem dL_law_961 : decode cL_law 961 = .ok (.iadd, 1) := by decide +kernel
theorem dL_law_962 : decode cL_law 962 = .ok (.iaload, 1) := by decide +kernel
theorem dL_law_963 : decode cL_law 963 = .ok (.invokevirtual 135, 3) := by decide +kernel
theorem dL_law_966 : decode cL_law 966 = .ok (.if_icmp .eq 28, 3) := by decide +kernel
theorem dL_law_969 : decode cL_law 969 = .ok (.iconst 0, 1) := by decide +kernel
theorem dL_law_970 : decode cL_law 970 = .ok (.ireturn, 1) := by decide +kernel
theorem dL_law_971 : decode cL_law 971 = .ok (.aload_n 1, 1) := by decide +kernel
theorem dL_law_972 : decode cL_law 972 = .ok (.aload_n 0, 1) := by decide +kernel
theorem dL_law_973 : decode cL_law 973 = .ok (.iload_n 3, 1) := by decide +kernel
theorem dL_law_974 : decode cL_law 974 = .ok (.iconst 1, 1) := by decide +kernel
theorem dL_law_975 : decode cL_law 975 = .ok (.iadd, 1) := by decide +kernel
theorem dL_law_976 : decode cL_law 976 = .ok (.iaload, 1) := by decide +kernel
theorem dL_law_977 : decode cL_law 977 = .ok (.invokevirtual 136, 3) := by decide +kernel
theorem dL_law_980 : decode cL_law 980 = .ok (.aload_n 2, 1) := by decide +kernel
theorem dL_law_981 : decode cL_law 981 = .ok (.aload_n 0, 1) := by decide +kernel
theorem dL_law_982 : decode cL_law 982 = .ok (.iload_n 3, 1) := by decide +kernel
theorem dL_law_983 : decode cL_law 983 = .ok (.iconst 1, 1) := by decide +kernel
theorem dL_law_984 : decode cL_law 984 = .ok (.iadd, 1) := by decide +kernel
theorem dL_law_985 : decode cL_law 985 = .ok (.iaload, 1) := by decide +kernel
theorem dL_law_986 : decode cL_law 986 = .ok (.invokevirtual 139, 3) := by decide +kernel
theorem dL_law_989 : decode cL_law 989 = .ok (.if_icmp .eq 5, 3) := by decide +kernel
theorem dL_law_992 : decode cL_law 992 = .ok (.iconst 0, 1) := by decide +kernel
theorem dL_law_993 : decode cL_law 993 = .ok (.ireturn, 1) := by decide +kernel
theorem dL_law_994 : decode cL_law 994 = .ok (.iinc 3 5, 3) := by decide +kernel
theorem dL_law_997 : decode cL_law 997 = .ok (.goto (-979), 3) := by decide +kernel
theorem dL_law_1000 : decode cL_law 1000 = .ok (.iconst 1, 1) := by decide +kernel
theorem dL_law_1001 : decode cL_law 1001 = .ok (.ireturn, 1) := by decide +kernel
end
section
/-! the store as numbers: cells are numbered from 1 (0: null); G: what kind of cell, how long, which cells it names, how many cells, how many slots; then whole numbers, long ones -/
abbrev xG : Type := (Nat → Nat) × (Nat → Nat) × (Nat → Nat → Nat) × Nat × Nat
abbrev xS : Type := (Nat → Nat → Int32) × (Nat → Nat → Int64)
/-- where the cells begin; the script's cell; the two tables' cells; numbers of kinds, of slots; numbers of the rows' kinds -/
abbrev xB : Type := Nat × Nat × Nat × Nat × (Nat → ClassId) × (Nat → Nat → Nat) × ClassId × ClassId × ClassId
abbrev xk (G : xG) (i : Nat) : Nat := G.1 i
abbrev xn (G : xG) (i : Nat) : Nat := G.2.1 i
abbrev xr (G : xG) (i k : Nat) : Nat := G.2.2.1 i k
abbrev xN (G : xG) : Nat := G.2.2.2.1
abbrev xZ (G : xG) : Nat := G.2.2.2.2
abbrev xcI (B : xB) : ClassId := B.2.2.2.2.2.2.1
abbrev xcZ (B : xB) : ClassId := B.2.2.2.2.2.2.2.1
abbrev xcB (B : xB) : ClassId := B.2.2.2.2.2.2.2.2
abbrev xD (B : xB) : va_G := (B.2.2.2.2.1, B.2.2.2.2.2.1)
abbrev xA (B : xB) : Nat → Prop := fun q => B.1 ≤ q
/-- a number of a cell as an address; the three tokens: the script and the two tables -/
def xv (B : xB) : Value → Value
  | .ref r => if r = 0 then .null else .ref (B.1 + (r - 1))
  | .float z => .ref (if z = 0 then B.2.1 else if z = 1 then B.2.2.1 else B.2.2.2.1)
  | v => v
theorem xv_cat (B : xB) (v : Value) : (xv B v).category = v.category := by
  cases v with
  | ref r =>
    by_cases h : r = 0
    · simp only [xv, if_pos h, Value.category]
    · simp only [xv, if_neg h, Value.category]
  | _ => rfl
theorem xv_ref (B : xB) {r : Nat} (h : 1 ≤ r) : xv B (.ref r) = .ref (B.1 + (r - 1)) := by
  simp only [xv]
  rw [if_neg (Nat.ne_of_gt h)]
def xty (q : Nat) : Nat → FieldType := match q with
  | 1 => tyX0
  | 2 => tyX1
  | 3 => tyX3
  | 4 => tyX4
  | 5 => tyX6
  | 6 => tyX7
  | 7 => tyX8
  | 8 => tyX9
  | 9 => tyX10
  | _ => tyX11
def xnf (q : Nat) : Nat := match q with
  | 1 => 7
  | 2 => 1
  | 3 => 3
  | 4 => 2
  | 5 => 4
  | 6 => 2
  | 7 => 4
  | 8 => 1
  | 9 => 10
  | _ => 20
def xfv (B : xB) (G : xG) (σ : xS) (i : Nat) (ty : FieldType) (k : Nat) : Value := match ty with
  | .int => .int (σ.1 i k)
  | .boolean => .int (σ.1 i k)
  | .long => .long (σ.2 i k)
  | _ => xv B (.ref (xr G i k))
/-- the fields of an object of kind q -/
def xfs (B : xB) (G : xG) (σ : xS) (i q : Nat) : List Value := (List.range (xnf q)).map (fun k => xfv B G σ i (xty q k) k)
def xro (B : xB) (r : Nat) : Option Nat := if r = 0 then none else some (B.1 + (r - 1))
def xce (B : xB) (G : xG) (σ : xS) (i : Nat) : va_E :=
  if xk G i = 11 then .inl (xcI B, xn G i, .inl (σ.1 i))
  else if xk G i = 12 then .inl (xcZ B, xn G i, .inl (σ.1 i))
  else if xk G i = 13 then .inl (xcB B, xn G i, .inr (.inr (.inr (.inr (fun k => xro B (xr G i k))))))
  else .inr (xk G i - 1, xfs B G σ i (xk G i))
def xw (B : xB) (G : xG) (σ : xS) : va_W := (List.range (xN G)).map (fun j => (B.1 + j, xce B G σ (j + 1)))
abbrev xtys (B : xB) : List (ClassId × FieldType) := [(xcI B, .int), (xcZ B, .boolean), (xcB B, .object "NailThreads$Board")]
def xWd (B : xB) (G : xG) (σ : xS) (H : Heap) : Prop := H.size = B.1 + xN G ∧ va_P (xD B) vwCl (xw B G σ) H ∧ ∀ i, xk G i ≠ 0 → 1 ≤ i ∧ i ≤ xN G
theorem xw_get {B : xB} {G : xG} {σ : xS} {i : Nat} (h1 : 1 ≤ i) (h2 : i ≤ xN G) : (xw B G σ)[i - 1]? = some (B.1 + (i - 1), xce B G σ i) := by
  unfold xw
  rw [List.getElem?_map, List.getElem?_range (by omega)]
  simp only [Option.map_some]
  rw [show i - 1 + 1 = i by omega]
theorem xw_at {B : xB} {G : xG} {σ : xS} {j : Nat} {q : Nat × va_E} (h : (xw B G σ)[j]? = some q) : j < xN G ∧ q = (B.1 + j, xce B G σ (j + 1)) := by
  unfold xw at h
  rw [List.getElem?_map] at h
  have hl : j < xN G := by
    rcases Nat.lt_or_ge j (xN G) with z | z
    · exact z
    · rw [List.getElem?_eq_none (by simpa using z)] at h
      cases h
  rw [List.getElem?_range hl] at h
  exact ⟨hl, (Option.some.inj h).symm⟩
theorem xw_D (B : xB) (G : xG) (σ : xS) : va_D (xA B) (xw B G σ) := by
  refine ⟨fun i j p q hi hj hpq => ?_, fun k q hk => ?_⟩
  · obtain ⟨-, rfl⟩ := xw_at hi
    obtain ⟨-, rfl⟩ := xw_at hj
    have : B.1 + i = B.1 + j := hpq
    omega
  · obtain ⟨-, rfl⟩ := xw_at hk
    show B.1 ≤ B.1 + k
    omega
theorem xw_set {B : xB} {G G' : xG} {σ σ' : xS} {i : Nat} (h1 : 1 ≤ i) (h2 : i ≤ xN G) (hN : xN G' = xN G) (ho : ∀ j, j ≠ i → xce B G' σ' j = xce B G σ j) : (xw B G σ).set (i - 1) (B.1 + (i - 1), xce B G' σ' i) = xw B G' σ' := by
  apply List.ext_getElem?
  intro j
  by_cases hj : j = i - 1
  · subst hj
    rw [List.getElem?_set_self (by simpa [xw] using (show i - 1 < xN G by omega)), xw_get h1 (by omega)]
  · rw [List.getElem?_set_ne (Ne.symm hj)]
    unfold xw
    rw [List.getElem?_map, List.getElem?_map, hN]
    by_cases hl : j < xN G
    · rw [List.getElem?_range hl]
      simp only [Option.map_some]
      rw [ho (j + 1) (by omega)]
    · rw [List.getElem?_eq_none (by simpa using hl)]
      rfl
theorem xw_push {B : xB} {G G' : xG} {σ σ' : xS} (hN : xN G' = xN G + 1) (ho : ∀ j, j ≤ xN G → xce B G' σ' j = xce B G σ j) : xw B G σ ++ [(B.1 + xN G, xce B G' σ' (xN G + 1))] = xw B G' σ' := by
  unfold xw
  rw [hN, List.range_succ, List.map_append]
  have e : (List.range (xN G)).map (fun j => (B.1 + j, xce B G σ (j + 1))) = (List.range (xN G)).map (fun j => (B.1 + j, xce B G' σ' (j + 1))) := List.map_congr_left fun j hj => by
    rw [ho (j + 1) (by have := List.mem_range.mp hj; omega)]
  rw [e]
  rfl
theorem xfs_get {B : xB} {G : xG} {σ : xS} {i q k : Nat} (hk : k < xnf q) : (xfs B G σ i q)[k]? = some (xfv B G σ i (xty q k) k) := by
  unfold xfs
  rw [List.getElem?_map, List.getElem?_range hk]
  rfl
theorem xfs_set {B : xB} {G G' : xG} {σ σ' : xS} {i q k : Nat} (hk : k < xnf q) (ho : ∀ j, j ≠ k → xfv B G' σ' i (xty q j) j = xfv B G σ i (xty q j) j) : (xfs B G σ i q).set k (xfv B G' σ' i (xty q k) k) = xfs B G' σ' i q := by
  apply List.ext_getElem?
  intro j
  by_cases hj : j = k
  · subst hj
    rw [List.getElem?_set_self (by simpa [xfs] using hk), xfs_get hk]
  · rw [List.getElem?_set_ne (Ne.symm hj)]
    unfold xfs
    rw [List.getElem?_map, List.getElem?_map]
    by_cases hl : j < xnf q
    · rw [List.getElem?_range hl]
      simp only [Option.map_some]
      rw [ho j hj]
    · rw [List.getElem?_eq_none (by simpa using hl)]
      rfl
theorem xfs_len {B : xB} {G : xG} {σ : xS} {i q : Nat} : (xfs B G σ i q).length = xnf q := by simp [xfs]
theorem xce_o {B : xB} {G : xG} {σ : xS} {i q : Nat} (hk : xk G i = q) (hq : q ≤ 10) : xce B G σ i = .inr (q - 1, xfs B G σ i q) := by
  unfold xce
  rw [hk, if_neg (by omega), if_neg (by omega), if_neg (by omega)]
theorem xce_i {B : xB} {G : xG} {σ : xS} {i : Nat} (hk : xk G i = 11) : xce B G σ i = .inl (xcI B, xn G i, .inl (σ.1 i)) := by
  unfold xce
  rw [if_pos hk]
theorem xce_z {B : xB} {G : xG} {σ : xS} {i : Nat} (hk : xk G i = 12) : xce B G σ i = .inl (xcZ B, xn G i, .inl (σ.1 i)) := by
  unfold xce
  rw [if_neg (by omega), if_pos hk]
theorem xce_q {B : xB} {G : xG} {σ : xS} {i : Nat} (hk : xk G i = 13) : xce B G σ i = .inl (xcB B, xn G i, .inr (.inr (.inr (.inr (fun k => xro B (xr G i k)))))) := by
  unfold xce
  rw [if_neg (by omega), if_neg (by omega), if_pos hk]
/-- one number of a cell is another one -/
def xpi (σ : xS) (i k : Nat) (x : Int32) : xS := (fun a => if a = i then upd (σ.1 i) k x else σ.1 a, σ.2)
def xpl (σ : xS) (i k : Nat) (x : Int64) : xS := (σ.1, fun a => if a = i then vp_updL (σ.2 i) k x else σ.2 a)
theorem xpi_at (σ : xS) (i k : Nat) (x : Int32) : (xpi σ i k x).1 i = upd (σ.1 i) k x := by
  show (if i = i then _ else _) = _
  rw [if_pos rfl]
theorem xpi_ne (σ : xS) {i j : Nat} (k : Nat) (x : Int32) (h : j ≠ i) : (xpi σ i k x).1 j = σ.1 j := by
  show (if j = i then _ else _) = _
  rw [if_neg h]
theorem xpl_at (σ : xS) (i k : Nat) (x : Int64) : (xpl σ i k x).2 i = vp_updL (σ.2 i) k x := by
  show (if i = i then _ else _) = _
  rw [if_pos rfl]
theorem xpl_ne (σ : xS) {i j : Nat} (k : Nat) (x : Int64) (h : j ≠ i) : (xpl σ i k x).2 j = σ.2 j := by
  show (if j = i then _ else _) = _
  rw [if_neg h]
theorem xfv_cong {B : xB} {G G' : xG} {σ σ' : xS} {i k : Nat} {ty : FieldType} (h1 : σ'.1 i k = σ.1 i k) (h2 : σ'.2 i k = σ.2 i k) (h3 : xr G' i k = xr G i k) : xfv B G' σ' i ty k = xfv B G σ i ty k := by
  unfold xfv
  cases ty <;> simp only [h1, h2, h3]
theorem xce_cong {B : xB} {G G' : xG} {σ σ' : xS} {i : Nat} (hk : xk G' i = xk G i) (hn : xn G' i = xn G i) (h1 : σ'.1 i = σ.1 i) (h2 : σ'.2 i = σ.2 i) (h3 : ∀ k, xr G' i k = xr G i k) : xce B G' σ' i = xce B G σ i := by
  have hf : ∀ q, xfs B G' σ' i q = xfs B G σ i q := fun q => List.map_congr_left fun k _ => xfv_cong (by rw [h1]) (by rw [h2]) (h3 k)
  unfold xce
  rw [hk, hn, h1, hf]
  simp only [h3]
theorem xce_pi {B : xB} {G : xG} {σ : xS} {i k : Nat} {x : Int32} : ∀ j, j ≠ i → xce B G (xpi σ i k x) j = xce B G σ j := fun j hj => xce_cong rfl rfl (xpi_ne σ k x hj) rfl (fun _ => rfl)
theorem xce_pl {B : xB} {G : xG} {σ : xS} {i k : Nat} {x : Int64} : ∀ j, j ≠ i → xce B G (xpl σ i k x) j = xce B G σ j := fun j hj => xce_cong rfl rfl rfl (xpl_ne σ k x hj) (fun _ => rfl)
end
section
/-! the judgement: from here the method comes to its end, with Q of its answer and of the store -/
def xlen (j : Nat) : Int32 := ([0, 5, 10, 14, 17, 19, 20, 19, 17, 14, 10, 5] : List Int32).getD j 0
def xpow (j : Nat) : Int64 := ([1, 10000, 100000000, 1000000000000, 10000000000000000] : List Int64).getD j 0
def xI (xs : Nat → Int32) (L : Nat) (B : xB) (s : State) : Prop :=
  B.1 ≤ s.heap.size ∧ va_K (xD B) vwCl (xtys B) s ∧ va_AO "NailThreads$Board" s ∧ va_Z "NailThreads$Ring" "LENGTHS" "[I" (.ref B.2.2.1) (xA B) s s.heap ∧ va_T .int B.2.2.1 12 (fun j => .int (xlen j)) (xA B) s s.heap ∧ va_Z "NailThreads$Doings" "POWERS" "[J" (.ref B.2.2.2.1) (xA B) s s.heap ∧ va_T .long B.2.2.2.1 5 (fun j => .long (xpow j)) (xA B) s s.heap ∧ va_X B.2.1 L xs s s.heap ∧ B.2.1 < B.1
theorem xI.go {xs : Nat → Int32} {L : Nat} {B : xB} {s U : State} {locs : List Loc} (h : xI xs L B s) (hS : va_S (xA B) s.heap U.heap locs) (hvm : s.vm.Alike U.vm) : xI xs L B U := by
  obtain ⟨h1, h2, h3, h4, h5, h6, h7, h8, h9⟩ := h
  have hb : B.2.1 < s.heap.size := Nat.lt_of_lt_of_le h9 h1
  exact ⟨Nat.le_trans h1 hS.1, h2.moved hvm, h3.moved hvm, (h4.kept hS.2.1).moved hvm, (h5.kept hS.2.1).moved hvm, (h6.kept hS.2.1).moved hvm, (h7.kept hS.2.1).moved hvm, (h8.kept (hS.2.1 _ hb (fun z => absurd h9 (Nat.not_lt.mpr z)))).moved hvm, h9⟩
def xCx (xs : Nat → Int32) (L : Nat) (M : xM) (B : xB) (p : Program) (s : State) (mid : MethodId) (args : Array Value) (meth : Method) (c : Code) : Prop :=
  p.tables.exec = Jvm.exec ∧ c.code = M.2.1 ∧ c.maxLocals = M.2.2.1 ∧ s.vm.findClass M.1.cls = some mid.cls ∧ (∀ w ∈ GT, w.before args s = true) ∧ (M.1.name = "<init>" → meth.name = "<init>") ∧ xI xs L B s
def xRm (M : xM) (B : xB) (s : State) (R : Room) (cells slots : Nat) (G G' : xG) : Prop := M.2.2.2.2.1 ≤ R.frames ∧ M.2.2.2.2.2 ≤ R.locals ∧ cells + (xN G' - xN G) ≤ R.cells ∧ slots + (xZ G' - xZ G) ≤ R.slots ∧ xN G ≤ xN G' ∧ xZ G ≤ xZ G' ∧ B.1 + xN G = s.heap.size + cells
def xLv (B : xB) (n : Nat) (lv : List Value) (ls : Array Slot) : Prop := ls.size = n ∧ lv_wf ls ∧ ∀ (i : Nat) (w : Value), lv[i]? = some w → w ≠ .null → ls[i]? = some (.val (xv B w))
def xRt (M : xM) (pc : Nat) (v : Option Value) : Prop := match v with
  | none => M.2.2.2.1 = none ∧ decode M.2.1 pc = .ok (.return_, 1)
  | some (.int x) => decode M.2.1 pc = .ok (.ireturn, 1) ∧ ∃ ty, M.2.2.2.1 = some ty ∧ narrow ty (.int x) = .int x
  | some (.long _) => M.2.2.2.1 = some .long ∧ decode M.2.1 pc = .ok (.lreturn, 1)
  | _ => False
def Ev (xs : Nat → Int32) (L : Nat) (M : xM) (pc : Nat) (lv st : List Value) (G : xG) (σ : xS) (G' : xG) (Q : Option Value → xS → Prop) : Prop :=
  ∀ (l : Launch) (B : xB) (p : Program) (e : Env) (R : Room) (s : State) (mid : MethodId) (args : Array Value) (below : List Frame) (meth : Method) (c : Code) (H : Heap) (locs : List Loc) (cells slots : Nat) (ls : Array Slot) (QQ : State → Prop),
    xCx xs L M B p s mid args meth c → xRm M B s R cells slots G G' → xWd B G σ H → va_S (xA B) s.heap H locs → xLv B M.2.2.1 lv ls →
    (∀ (v : Option Value) (σ' : xS) (H' : Heap) (locs' : List Loc) (ls' : Array Slot) (pc' : Nat), Q v σ' → xWd B G' σ' H' → va_S (xA B) s.heap H' locs' → xRt M pc' v → W p l e R s mid args below meth c H' locs' (cells + (xN G' - xN G)) (slots + (xZ G' - xZ G)) QQ (F0 mid pc' ls' v.toList)) →
    W p l e R s mid args below meth c H locs cells slots QQ (F0 mid pc ls (st.map (xv B)))
/-- the words of the slots, one behind the other; a long takes two -/
def xpos : List Value → List Value
  | [] => []
  | .long x :: r => .long x :: .null :: xpos r
  | .double x :: r => .double x :: .null :: xpos r
  | v :: r => v :: xpos r
/-- how a method begins with these arguments -/
def xent (n : Nat) (As : List Value) : List Value := xpos As ++ List.replicate (n - (xpos As).length) .null
def Cl (xs : Nat → Int32) (L : Nat) (M : xM) (As : List Value) (G : xG) (σ : xS) (G' : xG) (Q : Option Value → xS → Prop) : Prop := Ev xs L M 0 (xent M.2.2.1 As) [] G σ G' Q
/-- storing in a slot -/
def xst (lv : List Value) (i : Nat) (w : Value) : List Value := (match i with
  | 0 => lv
  | j + 1 => (match lv[j]? with
    | some (.long _) => lv.set j .null
    | some (.double _) => lv.set j .null
    | _ => lv)).set i w
def xas (B : xB) (lv : List Value) : List (Nat × Value) := (List.range lv.length).filterMap (fun i => match lv[i]? with
  | some w => if w = .null then none else some (i, xv B w)
  | none => none)
theorem xas_mem {B : xB} {lv : List Value} {i : Nat} {w : Value} (h : lv[i]? = some w) (hw : w ≠ .null) : (i, xv B w) ∈ xas B lv := by
  unfold xas
  refine List.mem_filterMap.mpr ⟨i, List.mem_range.mpr (List.getElem?_eq_some_iff.mp h).1, ?_⟩
  simp only [h, if_neg hw]
theorem xas_of {B : xB} {lv : List Value} {q : Nat × Value} (h : q ∈ xas B lv) : ∃ w, lv[q.1]? = some w ∧ w ≠ .null ∧ q.2 = xv B w := by
  unfold xas at h
  obtain ⟨i, -, hi⟩ := List.mem_filterMap.mp h
  cases hl : lv[i]? with
  | none => rw [hl] at hi; cases hi
  | some w =>
    rw [hl] at hi
    by_cases hw : w = .null
    · simp only [if_pos hw] at hi; cases hi
    · simp only [if_neg hw] at hi
      cases hi
      exact ⟨w, hl, hw, rfl⟩
theorem xLv.has {B : xB} {n : Nat} {lv : List Value} {ls : Array Slot} (h : xLv B n lv ls) : lv_has ls n (xas B lv) := ⟨h.1, h.2.1, fun q hq => by
  obtain ⟨w, h1, h2, h3⟩ := xas_of hq
  rw [h3]
  exact h.2.2 _ _ h1 h2⟩
theorem xst_at {lv : List Value} {i j : Nat} {w x : Value} (h : (xst lv i w)[j]? = some x) (hx : x ≠ .null) : (j = i ∧ x = w) ∨ (j ≠ i ∧ lv[j]? = some x ∧ ¬ (j + 1 = i ∧ x.category = 2)) := by
  by_cases hj : j = i
  · subst hj
    left
    refine ⟨rfl, ?_⟩
    unfold xst at h
    rcases Nat.lt_or_ge j (match j with
      | 0 => lv
      | k + 1 => (match lv[k]? with
        | some (.long _) => lv.set k .null
        | some (.double _) => lv.set k .null
        | _ => lv)).length with z | z
    · rw [List.getElem?_set_self z] at h
      exact (Option.some.inj h).symm
    · rw [List.getElem?_eq_none (by rw [List.length_set]; exact z)] at h
      cases h
  · right
    refine ⟨hj, ?_⟩
    unfold xst at h
    rw [List.getElem?_set_ne (Ne.symm hj)] at h
    cases i with
    | zero => exact ⟨h, fun z => by omega⟩
    | succ k =>
      dsimp only at h
      by_cases hk : j = k
      · subst hk
        cases hl : lv[j]? with
        | none => rw [hl] at h; dsimp only at h; rw [hl] at h; cases h
        | some y =>
          rw [hl] at h
          have hlt := (List.getElem?_eq_some_iff.mp hl).1
          cases y with
          | long z => dsimp only at h; rw [List.getElem?_set_self hlt] at h; exact absurd (Option.some.inj h).symm hx
          | double z => dsimp only at h; rw [List.getElem?_set_self hlt] at h; exact absurd (Option.some.inj h).symm hx
          | _ => dsimp only at h; rw [hl] at h; refine ⟨h, fun z => ?_⟩; cases h; exact absurd z.2 (by simp [Value.category])
      · refine ⟨?_, fun z => hk (by omega)⟩
        cases hl : lv[k]? with
        | none => rw [hl] at h; exact h
        | some y =>
          rw [hl] at h
          cases y with
          | long z => dsimp only at h; rw [List.getElem?_set_ne (Ne.symm hk)] at h; exact h
          | double z => dsimp only at h; rw [List.getElem?_set_ne (Ne.symm hk)] at h; exact h
          | _ => exact h
theorem xLv.st1 {B : xB} {n i : Nat} {lv : List Value} {ls' : Array Slot} {w : Value} (h : lv_has ls' n ((i, xv B w) :: (xas B lv).filter (fun q => !(q.1 == i) && !(q.1 + 1 == i && q.2.category == 2)))) : xLv B n (xst lv i w) ls' := by
  refine ⟨h.1, h.2.1, fun j x hj hx => ?_⟩
  rcases xst_at hj hx with ⟨rfl, rfl⟩ | ⟨h1, h2, h3⟩
  · exact h.2.2 (j, xv B x) (List.mem_cons_self ..)
  · refine h.2.2 (j, xv B x) (List.mem_cons_of_mem _ (List.mem_filter.mpr ⟨xas_mem h2 hx, ?_⟩))
    simp only [Bool.and_eq_true, Bool.not_eq_true', beq_eq_false_iff_ne, ne_eq, Bool.and_eq_false_iff]
    refine ⟨h1, ?_⟩
    by_cases hi : j + 1 = i
    · exact Or.inr (fun z => h3 ⟨hi, by rw [← xv_cat B]; exact z⟩)
    · exact Or.inl hi
theorem xLv.st2 {B : xB} {n i : Nat} {lv : List Value} {ls' : Array Slot} {w : Value} (h : lv_has ls' n ((i, xv B w) :: (xas B lv).filter (fun q => !(q.1 == i) && (!(q.1 == i + 1) && !(q.1 + 1 == i && q.2.category == 2))))) : xLv B n ((xst lv i w).set (i + 1) .null) ls' := by
  refine ⟨h.1, h.2.1, fun j x hj hx => ?_⟩
  by_cases hj1 : j = i + 1
  · subst hj1
    rcases Nat.lt_or_ge (i + 1) (xst lv i w).length with z | z
    · rw [List.getElem?_set_self z] at hj
      exact absurd (Option.some.inj hj).symm hx
    · rw [List.getElem?_eq_none (by rw [List.length_set]; exact z)] at hj
      cases hj
  · rw [List.getElem?_set_ne (Ne.symm hj1)] at hj
    rcases xst_at hj hx with ⟨rfl, rfl⟩ | ⟨h1, h2, h3⟩
    · exact h.2.2 (j, xv B x) (List.mem_cons_self ..)
    · refine h.2.2 (j, xv B x) (List.mem_cons_of_mem _ (List.mem_filter.mpr ⟨xas_mem h2 hx, ?_⟩))
      simp only [Bool.and_eq_true, Bool.not_eq_true', beq_eq_false_iff_ne, ne_eq, Bool.and_eq_false_iff]
      refine ⟨h1, hj1, ?_⟩
      by_cases hi : j + 1 = i
      · exact Or.inr (fun z => h3 ⟨hi, by rw [← xv_cat B]; exact z⟩)
      · exact Or.inl hi
section XE
variable {xs : Nat → Int32} {L : Nat} {M : xM} {pc : Nat} {lv st : List Value} {G G' : xG} {σ : xS} {Q : Option Value → xS → Prop}
theorem Ev.mono {Q2 : Option Value → xS → Prop} (h : ∀ v t, Q v t → Q2 v t) (k : Ev xs L M pc lv st G σ G' Q) : Ev xs L M pc lv st G σ G' Q2 := by
  intro l B p e R s mid args below meth c H locs cells slots ls QQ hC hR hW hS hL kr
  exact k l B p e R s mid args below meth c H locs cells slots ls QQ hC hR hW hS hL (fun v t H' locs' ls' pc' hq => kr v t H' locs' ls' pc' (h v t hq))
theorem xe_iconst {n : Int} {v : Int32} (hd : decode M.2.1 pc = .ok (.iconst n, 1)) (hv : Int32.ofInt n = v) (k : Ev xs L M (pc + 1) lv (.int v :: st) G σ G' Q) : Ev xs L M pc lv st G σ G' Q := by
  intro l B p e R s mid args below meth c H locs cells slots ls QQ hC hR hW hS hL kr
  exact lv_iconst hC.1 hC.2.1 hd hv (k l B p e R s mid args below meth c H locs cells slots ls QQ hC hR hW hS hL kr)
theorem xe_bipush {n : Int} {v : Int32} (hd : decode M.2.1 pc = .ok (.bipush n, 2)) (hv : (Int8.ofInt n).toInt32 = v) (k : Ev xs L M (pc + 2) lv (.int v :: st) G σ G' Q) : Ev xs L M pc lv st G σ G' Q := by
  intro l B p e R s mid args below meth c H locs cells slots ls QQ hC hR hW hS hL kr
  exact lv_bipush hC.1 hC.2.1 hd hv (k l B p e R s mid args below meth c H locs cells slots ls QQ hC hR hW hS hL kr)
theorem xe_sipush {n : Int} {v : Int32} (hd : decode M.2.1 pc = .ok (.sipush n, 3)) (hv : (Int16.ofInt n).toInt32 = v) (k : Ev xs L M (pc + 3) lv (.int v :: st) G σ G' Q) : Ev xs L M pc lv st G σ G' Q := by
  intro l B p e R s mid args below meth c H locs cells slots ls QQ hC hR hW hS hL kr
  exact lv_sipush hC.1 hC.2.1 hd hv (k l B p e R s mid args below meth c H locs cells slots ls QQ hC hR hW hS hL kr)
theorem xe_lconst {n : Fin 2} {v : Int64} (hd : decode M.2.1 pc = .ok (.lconst n, 1)) (hv : Int64.ofNat (n : Nat) = v) (k : Ev xs L M (pc + 1) lv (.long v :: st) G σ G' Q) : Ev xs L M pc lv st G σ G' Q := by
  intro l B p e R s mid args below meth c H locs cells slots ls QQ hC hR hW hS hL kr
  exact lv_lconst hC.1 hC.2.1 hd hv (k l B p e R s mid args below meth c H locs cells slots ls QQ hC hR hW hS hL kr)
theorem xe_iload_n {i : Fin 4} {x : Int32} (hd : decode M.2.1 pc = .ok (.iload_n i, 1)) (hl : lv[(i : Nat)]? = some (.int x)) (k : Ev xs L M (pc + 1) lv (.int x :: st) G σ G' Q) : Ev xs L M pc lv st G σ G' Q := by
  intro l B p e R s mid args below meth c H locs cells slots ls QQ hC hR hW hS hL kr
  exact lv_iload_n hC.1 hC.2.1 hd rfl (hL.2.2 _ _ hl (fun z => by cases z)) (k l B p e R s mid args below meth c H locs cells slots ls QQ hC hR hW hS hL kr)
theorem xe_iload {i : Nat} {x : Int32} (hd : decode M.2.1 pc = .ok (.iload i, 2)) (hl : lv[i]? = some (.int x)) (k : Ev xs L M (pc + 2) lv (.int x :: st) G σ G' Q) : Ev xs L M pc lv st G σ G' Q := by
  intro l B p e R s mid args below meth c H locs cells slots ls QQ hC hR hW hS hL kr
  exact lv_iload hC.1 hC.2.1 hd (hL.2.2 _ _ hl (fun z => by cases z)) (k l B p e R s mid args below meth c H locs cells slots ls QQ hC hR hW hS hL kr)
theorem xe_lload_n {i : Fin 4} {x : Int64} (hd : decode M.2.1 pc = .ok (.lload_n i, 1)) (hl : lv[(i : Nat)]? = some (.long x)) (k : Ev xs L M (pc + 1) lv (.long x :: st) G σ G' Q) : Ev xs L M pc lv st G σ G' Q := by
  intro l B p e R s mid args below meth c H locs cells slots ls QQ hC hR hW hS hL kr
  exact lv_lload_n hC.1 hC.2.1 hd rfl (hL.2.2 _ _ hl (fun z => by cases z)) (k l B p e R s mid args below meth c H locs cells slots ls QQ hC hR hW hS hL kr)
theorem xe_lload {i : Nat} {x : Int64} (hd : decode M.2.1 pc = .ok (.lload i, 2)) (hl : lv[i]? = some (.long x)) (k : Ev xs L M (pc + 2) lv (.long x :: st) G σ G' Q) : Ev xs L M pc lv st G σ G' Q := by
  intro l B p e R s mid args below meth c H locs cells slots ls QQ hC hR hW hS hL kr
  exact lv_lload hC.1 hC.2.1 hd (hL.2.2 _ _ hl (fun z => by cases z)) (k l B p e R s mid args below meth c H locs cells slots ls QQ hC hR hW hS hL kr)
theorem xe_aload_n {i : Fin 4} {r : Nat} (hd : decode M.2.1 pc = .ok (.aload_n i, 1)) (hl : lv[(i : Nat)]? = some (.ref r)) (k : Ev xs L M (pc + 1) lv (.ref r :: st) G σ G' Q) : Ev xs L M pc lv st G σ G' Q := by
  intro l B p e R s mid args below meth c H locs cells slots ls QQ hC hR hW hS hL kr
  have hg := hL.2.2 _ _ hl (fun z => by cases z)
  have k := k l B p e R s mid args below meth c H locs cells slots ls QQ hC hR hW hS hL kr
  by_cases hr : r = 0
  · have e1 : xv B (.ref r) = .null := by simp only [xv, if_pos hr]
    rw [e1] at hg
    rw [List.map_cons, e1] at k
    exact lv_aload_nN hC.1 hC.2.1 hd rfl hg k
  · have e1 : xv B (.ref r) = .ref (B.1 + (r - 1)) := by simp only [xv, if_neg hr]
    rw [e1] at hg
    rw [List.map_cons, e1] at k
    exact lv_aload_n hC.1 hC.2.1 hd rfl hg k
theorem xe_aload_nT {i : Fin 4} {z : UInt32} (hd : decode M.2.1 pc = .ok (.aload_n i, 1)) (hl : lv[(i : Nat)]? = some (.float z)) (k : Ev xs L M (pc + 1) lv (.float z :: st) G σ G' Q) : Ev xs L M pc lv st G σ G' Q := by
  intro l B p e R s mid args below meth c H locs cells slots ls QQ hC hR hW hS hL kr
  exact lv_aload_n hC.1 hC.2.1 hd rfl (hL.2.2 _ _ hl (fun z => by cases z)) (k l B p e R s mid args below meth c H locs cells slots ls QQ hC hR hW hS hL kr)
theorem xe_aload {i : Nat} {r : Nat} (hd : decode M.2.1 pc = .ok (.aload i, 2)) (hl : lv[i]? = some (.ref r)) (k : Ev xs L M (pc + 2) lv (.ref r :: st) G σ G' Q) : Ev xs L M pc lv st G σ G' Q := by
  intro l B p e R s mid args below meth c H locs cells slots ls QQ hC hR hW hS hL kr
  have hg := hL.2.2 _ _ hl (fun z => by cases z)
  have k := k l B p e R s mid args below meth c H locs cells slots ls QQ hC hR hW hS hL kr
  by_cases hr : r = 0
  · have e1 : xv B (.ref r) = .null := by simp only [xv, if_pos hr]
    rw [e1] at hg
    rw [List.map_cons, e1] at k
    exact lv_aloadN hC.1 hC.2.1 hd hg k
  · have e1 : xv B (.ref r) = .ref (B.1 + (r - 1)) := by simp only [xv, if_neg hr]
    rw [e1] at hg
    rw [List.map_cons, e1] at k
    exact lv_aload hC.1 hC.2.1 hd hg k
theorem xe_aloadT {i : Nat} {z : UInt32} (hd : decode M.2.1 pc = .ok (.aload i, 2)) (hl : lv[i]? = some (.float z)) (k : Ev xs L M (pc + 2) lv (.float z :: st) G σ G' Q) : Ev xs L M pc lv st G σ G' Q := by
  intro l B p e R s mid args below meth c H locs cells slots ls QQ hC hR hW hS hL kr
  exact lv_aload hC.1 hC.2.1 hd (hL.2.2 _ _ hl (fun z => by cases z)) (k l B p e R s mid args below meth c H locs cells slots ls QQ hC hR hW hS hL kr)
theorem xe_istore_n {i : Fin 4} {x : Int32} (hd : decode M.2.1 pc = .ok (.istore_n i, 1)) (hn : (i : Nat) < M.2.2.1) (k : Ev xs L M (pc + 1) (xst lv i (.int x)) st G σ G' Q) : Ev xs L M pc lv (.int x :: st) G σ G' Q := by
  intro l B p e R s mid args below meth c H locs cells slots ls QQ hC hR hW hS hL kr
  exact lv_istore_n hC.1 hC.2.1 hd rfl hL.has hn rfl (fun ls2 h2 => (k l B p e R s mid args below meth c H locs cells slots ls2 QQ hC hR hW hS (xLv.st1 (w := .int x) h2) kr))
theorem xe_istore {i : Nat} {x : Int32} (hd : decode M.2.1 pc = .ok (.istore i, 2)) (hn : i < M.2.2.1) (k : Ev xs L M (pc + 2) (xst lv i (.int x)) st G σ G' Q) : Ev xs L M pc lv (.int x :: st) G σ G' Q := by
  intro l B p e R s mid args below meth c H locs cells slots ls QQ hC hR hW hS hL kr
  exact lv_istore hC.1 hC.2.1 hd hL.has hn rfl (fun ls2 h2 => (k l B p e R s mid args below meth c H locs cells slots ls2 QQ hC hR hW hS (xLv.st1 (w := .int x) h2) kr))
theorem xe_lstore_n {i : Fin 4} {x : Int64} (hd : decode M.2.1 pc = .ok (.lstore_n i, 1)) (hn : (i : Nat) + 1 < M.2.2.1) (k : Ev xs L M (pc + 1) ((xst lv i (.long x)).set ((i : Nat) + 1) .null) st G σ G' Q) : Ev xs L M pc lv (.long x :: st) G σ G' Q := by
  intro l B p e R s mid args below meth c H locs cells slots ls QQ hC hR hW hS hL kr
  exact lv_lstore_n hC.1 hC.2.1 hd rfl hL.has hn rfl (fun ls2 h2 => (k l B p e R s mid args below meth c H locs cells slots ls2 QQ hC hR hW hS (xLv.st2 (w := .long x) h2) kr))
theorem xe_astore_n {i : Fin 4} {r : Nat} (hd : decode M.2.1 pc = .ok (.astore_n i, 1)) (hn : (i : Nat) < M.2.2.1) (k : Ev xs L M (pc + 1) (xst lv i (.ref r)) st G σ G' Q) : Ev xs L M pc lv (.ref r :: st) G σ G' Q := by
  intro l B p e R s mid args below meth c H locs cells slots ls QQ hC hR hW hS hL kr
  by_cases hr : r = 0
  · have e1 : xv B (.ref r) = .null := by simp only [xv, if_pos hr]
    rw [List.map_cons, e1]
    exact lv_astore_nN hC.1 hC.2.1 hd rfl hL.has hn rfl (fun ls2 h2 => (k l B p e R s mid args below meth c H locs cells slots ls2 QQ hC hR hW hS (xLv.st1 (w := .ref r) (by rw [e1]; exact h2)) kr))
  · have e1 : xv B (.ref r) = .ref (B.1 + (r - 1)) := by simp only [xv, if_neg hr]
    rw [List.map_cons, e1]
    exact lv_astore_n hC.1 hC.2.1 hd rfl hL.has hn rfl (fun ls2 h2 => (k l B p e R s mid args below meth c H locs cells slots ls2 QQ hC hR hW hS (xLv.st1 (w := .ref r) (by rw [e1]; exact h2)) kr))
theorem xe_iinc {i : Nat} {n : Int} {x v : Int32} (hd : decode M.2.1 pc = .ok (.iinc i n, 3)) (hl : lv[i]? = some (.int x)) (hv : x + Int32.ofInt n = v) (hn : i < M.2.2.1) (k : Ev xs L M (pc + 3) (xst lv i (.int v)) st G σ G' Q) : Ev xs L M pc lv st G σ G' Q := by
  intro l B p e R s mid args below meth c H locs cells slots ls QQ hC hR hW hS hL kr
  obtain ⟨q, hq⟩ := List.getElem?_of_mem (xas_mem (B := B) hl (fun z => by cases z))
  exact lv_iinc hC.1 hC.2.1 hd hL.has hq hv hn rfl (fun ls2 h2 => (k l B p e R s mid args below meth c H locs cells slots ls2 QQ hC hR hW hS (xLv.st1 (w := .int v) h2) kr))
theorem xe_iadd {x y : Int32} (hd : decode M.2.1 pc = .ok (.iadd, 1)) (k : Ev xs L M (pc + 1) lv (.int (x + y) :: st) G σ G' Q) : Ev xs L M pc lv (.int y :: .int x :: st) G σ G' Q := by
  intro l B p e R s mid args below meth c H locs cells slots ls QQ hC hR hW hS hL kr
  exact lv_iadd hC.1 hC.2.1 hd (k l B p e R s mid args below meth c H locs cells slots ls QQ hC hR hW hS hL kr)
theorem xe_isub {x y : Int32} (hd : decode M.2.1 pc = .ok (.isub, 1)) (k : Ev xs L M (pc + 1) lv (.int (x - y) :: st) G σ G' Q) : Ev xs L M pc lv (.int y :: .int x :: st) G σ G' Q := by
  intro l B p e R s mid args below meth c H locs cells slots ls QQ hC hR hW hS hL kr
  exact lv_isub hC.1 hC.2.1 hd (k l B p e R s mid args below meth c H locs cells slots ls QQ hC hR hW hS hL kr)
theorem xe_imul {x y : Int32} (hd : decode M.2.1 pc = .ok (.imul, 1)) (k : Ev xs L M (pc + 1) lv (.int (x * y) :: st) G σ G' Q) : Ev xs L M pc lv (.int y :: .int x :: st) G σ G' Q := by
  intro l B p e R s mid args below meth c H locs cells slots ls QQ hC hR hW hS hL kr
  exact lv_imul hC.1 hC.2.1 hd (k l B p e R s mid args below meth c H locs cells slots ls QQ hC hR hW hS hL kr)
theorem xe_iand {x y : Int32} (hd : decode M.2.1 pc = .ok (.iand, 1)) (k : Ev xs L M (pc + 1) lv (.int (x &&& y) :: st) G σ G' Q) : Ev xs L M pc lv (.int y :: .int x :: st) G σ G' Q := by
  intro l B p e R s mid args below meth c H locs cells slots ls QQ hC hR hW hS hL kr
  exact lv_iand hC.1 hC.2.1 hd (k l B p e R s mid args below meth c H locs cells slots ls QQ hC hR hW hS hL kr)
theorem xe_ior {x y : Int32} (hd : decode M.2.1 pc = .ok (.ior, 1)) (k : Ev xs L M (pc + 1) lv (.int (x ||| y) :: st) G σ G' Q) : Ev xs L M pc lv (.int y :: .int x :: st) G σ G' Q := by
  intro l B p e R s mid args below meth c H locs cells slots ls QQ hC hR hW hS hL kr
  exact lv_ior hC.1 hC.2.1 hd (k l B p e R s mid args below meth c H locs cells slots ls QQ hC hR hW hS hL kr)
theorem xe_ixor {x y : Int32} (hd : decode M.2.1 pc = .ok (.ixor, 1)) (k : Ev xs L M (pc + 1) lv (.int (x ^^^ y) :: st) G σ G' Q) : Ev xs L M pc lv (.int y :: .int x :: st) G σ G' Q := by
  intro l B p e R s mid args below meth c H locs cells slots ls QQ hC hR hW hS hL kr
  exact lv_ixor hC.1 hC.2.1 hd (k l B p e R s mid args below meth c H locs cells slots ls QQ hC hR hW hS hL kr)
theorem xe_ishl {x y : Int32} (hd : decode M.2.1 pc = .ok (.ishl, 1)) (k : Ev xs L M (pc + 1) lv (.int (x <<< (y &&& 31)) :: st) G σ G' Q) : Ev xs L M pc lv (.int y :: .int x :: st) G σ G' Q := by
  intro l B p e R s mid args below meth c H locs cells slots ls QQ hC hR hW hS hL kr
  exact lv_ishl hC.1 hC.2.1 hd (k l B p e R s mid args below meth c H locs cells slots ls QQ hC hR hW hS hL kr)
theorem xe_ishr {x y : Int32} (hd : decode M.2.1 pc = .ok (.ishr, 1)) (k : Ev xs L M (pc + 1) lv (.int (x >>> (y &&& 31)) :: st) G σ G' Q) : Ev xs L M pc lv (.int y :: .int x :: st) G σ G' Q := by
  intro l B p e R s mid args below meth c H locs cells slots ls QQ hC hR hW hS hL kr
  exact lv_ishr hC.1 hC.2.1 hd (k l B p e R s mid args below meth c H locs cells slots ls QQ hC hR hW hS hL kr)
theorem xe_idiv {x y : Int32} (hd : decode M.2.1 pc = .ok (.idiv, 1)) (hne : ¬ y = 0) (k : Ev xs L M (pc + 1) lv (.int (x / y) :: st) G σ G' Q) : Ev xs L M pc lv (.int y :: .int x :: st) G σ G' Q := by
  intro l B p e R s mid args below meth c H locs cells slots ls QQ hC hR hW hS hL kr
  exact lv_idiv hC.1 hC.2.1 hd hne (k l B p e R s mid args below meth c H locs cells slots ls QQ hC hR hW hS hL kr)
theorem xe_irem {x y : Int32} (hd : decode M.2.1 pc = .ok (.irem, 1)) (hne : ¬ y = 0) (k : Ev xs L M (pc + 1) lv (.int (x - x / y * y) :: st) G σ G' Q) : Ev xs L M pc lv (.int y :: .int x :: st) G σ G' Q := by
  intro l B p e R s mid args below meth c H locs cells slots ls QQ hC hR hW hS hL kr
  exact lv_irem hC.1 hC.2.1 hd hne (k l B p e R s mid args below meth c H locs cells slots ls QQ hC hR hW hS hL kr)
theorem xe_ineg {x : Int32} (hd : decode M.2.1 pc = .ok (.ineg, 1)) (k : Ev xs L M (pc + 1) lv (.int (-x) :: st) G σ G' Q) : Ev xs L M pc lv (.int x :: st) G σ G' Q := by
  intro l B p e R s mid args below meth c H locs cells slots ls QQ hC hR hW hS hL kr
  exact lv_ineg hC.1 hC.2.1 hd (k l B p e R s mid args below meth c H locs cells slots ls QQ hC hR hW hS hL kr)
theorem xe_iushr {x y : Int32} (hd : decode M.2.1 pc = .ok (.iushr, 1)) (k : Ev xs L M (pc + 1) lv (.int (x.toUInt32 >>> (y.toUInt32 &&& Int32.toUInt32 31)).toInt32 :: st) G σ G' Q) : Ev xs L M pc lv (.int y :: .int x :: st) G σ G' Q := by
  intro l B p e R s mid args below meth c H locs cells slots ls QQ hC hR hW hS hL kr
  exact lv_iushr hC.1 hC.2.1 hd rfl (k l B p e R s mid args below meth c H locs cells slots ls QQ hC hR hW hS hL kr)
theorem xe_ladd {x y : Int64} (hd : decode M.2.1 pc = .ok (.ladd, 1)) (k : Ev xs L M (pc + 1) lv (.long (x + y) :: st) G σ G' Q) : Ev xs L M pc lv (.long y :: .long x :: st) G σ G' Q := by
  intro l B p e R s mid args below meth c H locs cells slots ls QQ hC hR hW hS hL kr
  exact lv_ladd hC.1 hC.2.1 hd (k l B p e R s mid args below meth c H locs cells slots ls QQ hC hR hW hS hL kr)
theorem xe_lsub {x y : Int64} (hd : decode M.2.1 pc = .ok (.lsub, 1)) (k : Ev xs L M (pc + 1) lv (.long (x - y) :: st) G σ G' Q) : Ev xs L M pc lv (.long y :: .long x :: st) G σ G' Q := by
  intro l B p e R s mid args below meth c H locs cells slots ls QQ hC hR hW hS hL kr
  exact lv_lsub hC.1 hC.2.1 hd (k l B p e R s mid args below meth c H locs cells slots ls QQ hC hR hW hS hL kr)
theorem xe_lmul {x y : Int64} (hd : decode M.2.1 pc = .ok (.lmul, 1)) (k : Ev xs L M (pc + 1) lv (.long (x * y) :: st) G σ G' Q) : Ev xs L M pc lv (.long y :: .long x :: st) G σ G' Q := by
  intro l B p e R s mid args below meth c H locs cells slots ls QQ hC hR hW hS hL kr
  exact lv_lmul hC.1 hC.2.1 hd (k l B p e R s mid args below meth c H locs cells slots ls QQ hC hR hW hS hL kr)
theorem xe_land {x y : Int64} (hd : decode M.2.1 pc = .ok (.land, 1)) (k : Ev xs L M (pc + 1) lv (.long (x &&& y) :: st) G σ G' Q) : Ev xs L M pc lv (.long y :: .long x :: st) G σ G' Q := by
  intro l B p e R s mid args below meth c H locs cells slots ls QQ hC hR hW hS hL kr
  exact lv_land hC.1 hC.2.1 hd (k l B p e R s mid args below meth c H locs cells slots ls QQ hC hR hW hS hL kr)
theorem xe_lor {x y : Int64} (hd : decode M.2.1 pc = .ok (.lor, 1)) (k : Ev xs L M (pc + 1) lv (.long (x ||| y) :: st) G σ G' Q) : Ev xs L M pc lv (.long y :: .long x :: st) G σ G' Q := by
  intro l B p e R s mid args below meth c H locs cells slots ls QQ hC hR hW hS hL kr
  exact lv_lor hC.1 hC.2.1 hd (k l B p e R s mid args below meth c H locs cells slots ls QQ hC hR hW hS hL kr)
theorem xe_ldiv {x y : Int64} (hd : decode M.2.1 pc = .ok (.ldiv, 1)) (hne : ¬ y = 0) (k : Ev xs L M (pc + 1) lv (.long (x / y) :: st) G σ G' Q) : Ev xs L M pc lv (.long y :: .long x :: st) G σ G' Q := by
  intro l B p e R s mid args below meth c H locs cells slots ls QQ hC hR hW hS hL kr
  exact lv_ldiv hC.1 hC.2.1 hd hne (k l B p e R s mid args below meth c H locs cells slots ls QQ hC hR hW hS hL kr)
theorem xe_lrem {x y : Int64} (hd : decode M.2.1 pc = .ok (.lrem, 1)) (hne : ¬ y = 0) (k : Ev xs L M (pc + 1) lv (.long (x - x / y * y) :: st) G σ G' Q) : Ev xs L M pc lv (.long y :: .long x :: st) G σ G' Q := by
  intro l B p e R s mid args below meth c H locs cells slots ls QQ hC hR hW hS hL kr
  exact lv_lrem hC.1 hC.2.1 hd hne (k l B p e R s mid args below meth c H locs cells slots ls QQ hC hR hW hS hL kr)
theorem xe_lshl {x : Int64} {y : Int32} (hd : decode M.2.1 pc = .ok (.lshl, 1)) (k : Ev xs L M (pc + 1) lv (.long (x <<< (y.toInt64 &&& 63)) :: st) G σ G' Q) : Ev xs L M pc lv (.int y :: .long x :: st) G σ G' Q := by
  intro l B p e R s mid args below meth c H locs cells slots ls QQ hC hR hW hS hL kr
  exact lv_lshl hC.1 hC.2.1 hd rfl (k l B p e R s mid args below meth c H locs cells slots ls QQ hC hR hW hS hL kr)
theorem xe_lshr {x : Int64} {y : Int32} (hd : decode M.2.1 pc = .ok (.lshr, 1)) (k : Ev xs L M (pc + 1) lv (.long (x >>> (y.toInt64 &&& 63)) :: st) G σ G' Q) : Ev xs L M pc lv (.int y :: .long x :: st) G σ G' Q := by
  intro l B p e R s mid args below meth c H locs cells slots ls QQ hC hR hW hS hL kr
  exact lv_lshr hC.1 hC.2.1 hd rfl (k l B p e R s mid args below meth c H locs cells slots ls QQ hC hR hW hS hL kr)
theorem xe_lushr {x : Int64} {y : Int32} (hd : decode M.2.1 pc = .ok (.lushr, 1)) (k : Ev xs L M (pc + 1) lv (.long ((x.toUInt64 >>> (y.toInt64.toUInt64 &&& Int64.toUInt64 63)).toInt64) :: st) G σ G' Q) : Ev xs L M pc lv (.int y :: .long x :: st) G σ G' Q := by
  intro l B p e R s mid args below meth c H locs cells slots ls QQ hC hR hW hS hL kr
  exact lv_lushr hC.1 hC.2.1 hd rfl (k l B p e R s mid args below meth c H locs cells slots ls QQ hC hR hW hS hL kr)
theorem xe_i2l {x : Int32} (hd : decode M.2.1 pc = .ok (.i2l, 1)) (k : Ev xs L M (pc + 1) lv (.long x.toInt64 :: st) G σ G' Q) : Ev xs L M pc lv (.int x :: st) G σ G' Q := by
  intro l B p e R s mid args below meth c H locs cells slots ls QQ hC hR hW hS hL kr
  exact lv_i2l hC.1 hC.2.1 hd rfl (k l B p e R s mid args below meth c H locs cells slots ls QQ hC hR hW hS hL kr)
theorem xe_l2i {x : Int64} (hd : decode M.2.1 pc = .ok (.l2i, 1)) (k : Ev xs L M (pc + 1) lv (.int x.toInt32 :: st) G σ G' Q) : Ev xs L M pc lv (.long x :: st) G σ G' Q := by
  intro l B p e R s mid args below meth c H locs cells slots ls QQ hC hR hW hS hL kr
  exact lv_l2i hC.1 hC.2.1 hd rfl (k l B p e R s mid args below meth c H locs cells slots ls QQ hC hR hW hS hL kr)
theorem xe_lcmp {x y : Int64} (hd : decode M.2.1 pc = .ok (.lcmp, 1)) (k : Ev xs L M (pc + 1) lv (.int (lg_cmp x y) :: st) G σ G' Q) : Ev xs L M pc lv (.long y :: .long x :: st) G σ G' Q := by
  intro l B p e R s mid args below meth c H locs cells slots ls QQ hC hR hW hS hL kr
  exact W.lcmp hC.1 hC.2.1 hd (k l B p e R s mid args below meth c H locs cells slots ls QQ hC hR hW hS hL kr)
theorem xe_dup {v : Value} (hd : decode M.2.1 pc = .ok (.dup, 1)) (hv : v.category = 1) (k : Ev xs L M (pc + 1) lv (v :: v :: st) G σ G' Q) : Ev xs L M pc lv (v :: st) G σ G' Q := by
  intro l B p e R s mid args below meth c H locs cells slots ls QQ hC hR hW hS hL kr
  exact lv_dup hC.1 hC.2.1 hd ((xv_cat B v).trans hv) (k l B p e R s mid args below meth c H locs cells slots ls QQ hC hR hW hS hL kr)
theorem xe_pop {v : Value} (hd : decode M.2.1 pc = .ok (.pop, 1)) (hv : v.category = 1) (k : Ev xs L M (pc + 1) lv st G σ G' Q) : Ev xs L M pc lv (v :: st) G σ G' Q := by
  intro l B p e R s mid args below meth c H locs cells slots ls QQ hC hR hW hS hL kr
  exact lv_pop hC.1 hC.2.1 hd ((xv_cat B v).trans hv) (k l B p e R s mid args below meth c H locs cells slots ls QQ hC hR hW hS hL kr)
theorem xe_dup2 {v w : Value} (hd : decode M.2.1 pc = .ok (.dup2, 1)) (hv : v.category = 1) (hw : w.category = 1) (k : Ev xs L M (pc + 1) lv (v :: w :: v :: w :: st) G σ G' Q) : Ev xs L M pc lv (v :: w :: st) G σ G' Q := by
  intro l B p e R s mid args below meth c H locs cells slots ls QQ hC hR hW hS hL kr
  exact lv_dup2_11 hC.1 hC.2.1 hd ((xv_cat B v).trans hv) ((xv_cat B w).trans hw) (k l B p e R s mid args below meth c H locs cells slots ls QQ hC hR hW hS hL kr)
theorem xe_icmp_eq {x y : Int32} {off : Int} (tgt : Nat) (hd : decode M.2.1 pc = .ok (.if_icmp .eq off, 3)) (ht : (pc : Int) + off = (tgt : Int)) (k1 : x = y → Ev xs L M tgt lv st G σ G' Q) (k2 : ¬ x = y → Ev xs L M (pc + 3) lv st G σ G' Q) : Ev xs L M pc lv (.int y :: .int x :: st) G σ G' Q := by
  intro l B p e R s mid args below meth c H locs cells slots ls QQ hC hR hW hS hL kr
  exact lv_icmp_eq hC.1 hC.2.1 hd ht (fun h => k1 h l B p e R s mid args below meth c H locs cells slots ls QQ hC hR hW hS hL kr) (fun h => k2 h l B p e R s mid args below meth c H locs cells slots ls QQ hC hR hW hS hL kr)
theorem xe_if_eq {x : Int32} {off : Int} (tgt : Nat) (hd : decode M.2.1 pc = .ok (.ifCond .eq off, 3)) (ht : (pc : Int) + off = (tgt : Int)) (k1 : x = 0 → Ev xs L M tgt lv st G σ G' Q) (k2 : ¬ x = 0 → Ev xs L M (pc + 3) lv st G σ G' Q) : Ev xs L M pc lv (.int x :: st) G σ G' Q := by
  intro l B p e R s mid args below meth c H locs cells slots ls QQ hC hR hW hS hL kr
  exact lv_if_eq hC.1 hC.2.1 hd ht (fun h => k1 h l B p e R s mid args below meth c H locs cells slots ls QQ hC hR hW hS hL kr) (fun h => k2 h l B p e R s mid args below meth c H locs cells slots ls QQ hC hR hW hS hL kr)
theorem xe_icmp_ne {x y : Int32} {off : Int} (tgt : Nat) (hd : decode M.2.1 pc = .ok (.if_icmp .ne off, 3)) (ht : (pc : Int) + off = (tgt : Int)) (k1 : ¬ x = y → Ev xs L M tgt lv st G σ G' Q) (k2 : x = y → Ev xs L M (pc + 3) lv st G σ G' Q) : Ev xs L M pc lv (.int y :: .int x :: st) G σ G' Q := by
  intro l B p e R s mid args below meth c H locs cells slots ls QQ hC hR hW hS hL kr
  exact lv_icmp_ne hC.1 hC.2.1 hd ht (fun h => k1 h l B p e R s mid args below meth c H locs cells slots ls QQ hC hR hW hS hL kr) (fun h => k2 h l B p e R s mid args below meth c H locs cells slots ls QQ hC hR hW hS hL kr)
theorem xe_if_ne {x : Int32} {off : Int} (tgt : Nat) (hd : decode M.2.1 pc = .ok (.ifCond .ne off, 3)) (ht : (pc : Int) + off = (tgt : Int)) (k1 : ¬ x = 0 → Ev xs L M tgt lv st G σ G' Q) (k2 : x = 0 → Ev xs L M (pc + 3) lv st G σ G' Q) : Ev xs L M pc lv (.int x :: st) G σ G' Q := by
  intro l B p e R s mid args below meth c H locs cells slots ls QQ hC hR hW hS hL kr
  exact lv_if_ne hC.1 hC.2.1 hd ht (fun h => k1 h l B p e R s mid args below meth c H locs cells slots ls QQ hC hR hW hS hL kr) (fun h => k2 h l B p e R s mid args below meth c H locs cells slots ls QQ hC hR hW hS hL kr)
theorem xe_icmp_lt {x y : Int32} {off : Int} (tgt : Nat) (hd : decode M.2.1 pc = .ok (.if_icmp .lt off, 3)) (ht : (pc : Int) + off = (tgt : Int)) (k1 : x < y → Ev xs L M tgt lv st G σ G' Q) (k2 : ¬ x < y → Ev xs L M (pc + 3) lv st G σ G' Q) : Ev xs L M pc lv (.int y :: .int x :: st) G σ G' Q := by
  intro l B p e R s mid args below meth c H locs cells slots ls QQ hC hR hW hS hL kr
  exact lv_icmp_lt hC.1 hC.2.1 hd ht (fun h => k1 h l B p e R s mid args below meth c H locs cells slots ls QQ hC hR hW hS hL kr) (fun h => k2 h l B p e R s mid args below meth c H locs cells slots ls QQ hC hR hW hS hL kr)
theorem xe_if_lt {x : Int32} {off : Int} (tgt : Nat) (hd : decode M.2.1 pc = .ok (.ifCond .lt off, 3)) (ht : (pc : Int) + off = (tgt : Int)) (k1 : x < 0 → Ev xs L M tgt lv st G σ G' Q) (k2 : ¬ x < 0 → Ev xs L M (pc + 3) lv st G σ G' Q) : Ev xs L M pc lv (.int x :: st) G σ G' Q := by
  intro l B p e R s mid args below meth c H locs cells slots ls QQ hC hR hW hS hL kr
  exact lv_if_lt hC.1 hC.2.1 hd ht (fun h => k1 h l B p e R s mid args below meth c H locs cells slots ls QQ hC hR hW hS hL kr) (fun h => k2 h l B p e R s mid args below meth c H locs cells slots ls QQ hC hR hW hS hL kr)
theorem xe_icmp_ge {x y : Int32} {off : Int} (tgt : Nat) (hd : decode M.2.1 pc = .ok (.if_icmp .ge off, 3)) (ht : (pc : Int) + off = (tgt : Int)) (k1 : y ≤ x → Ev xs L M tgt lv st G σ G' Q) (k2 : ¬ y ≤ x → Ev xs L M (pc + 3) lv st G σ G' Q) : Ev xs L M pc lv (.int y :: .int x :: st) G σ G' Q := by
  intro l B p e R s mid args below meth c H locs cells slots ls QQ hC hR hW hS hL kr
  exact lv_icmp_ge hC.1 hC.2.1 hd ht (fun h => k1 h l B p e R s mid args below meth c H locs cells slots ls QQ hC hR hW hS hL kr) (fun h => k2 h l B p e R s mid args below meth c H locs cells slots ls QQ hC hR hW hS hL kr)
theorem xe_if_ge {x : Int32} {off : Int} (tgt : Nat) (hd : decode M.2.1 pc = .ok (.ifCond .ge off, 3)) (ht : (pc : Int) + off = (tgt : Int)) (k1 : 0 ≤ x → Ev xs L M tgt lv st G σ G' Q) (k2 : ¬ 0 ≤ x → Ev xs L M (pc + 3) lv st G σ G' Q) : Ev xs L M pc lv (.int x :: st) G σ G' Q := by
  intro l B p e R s mid args below meth c H locs cells slots ls QQ hC hR hW hS hL kr
  exact lv_if_ge hC.1 hC.2.1 hd ht (fun h => k1 h l B p e R s mid args below meth c H locs cells slots ls QQ hC hR hW hS hL kr) (fun h => k2 h l B p e R s mid args below meth c H locs cells slots ls QQ hC hR hW hS hL kr)
theorem xe_icmp_gt {x y : Int32} {off : Int} (tgt : Nat) (hd : decode M.2.1 pc = .ok (.if_icmp .gt off, 3)) (ht : (pc : Int) + off = (tgt : Int)) (k1 : y < x → Ev xs L M tgt lv st G σ G' Q) (k2 : ¬ y < x → Ev xs L M (pc + 3) lv st G σ G' Q) : Ev xs L M pc lv (.int y :: .int x :: st) G σ G' Q := by
  intro l B p e R s mid args below meth c H locs cells slots ls QQ hC hR hW hS hL kr
  exact lv_icmp_gt hC.1 hC.2.1 hd ht (fun h => k1 h l B p e R s mid args below meth c H locs cells slots ls QQ hC hR hW hS hL kr) (fun h => k2 h l B p e R s mid args below meth c H locs cells slots ls QQ hC hR hW hS hL kr)
theorem xe_if_gt {x : Int32} {off : Int} (tgt : Nat) (hd : decode M.2.1 pc = .ok (.ifCond .gt off, 3)) (ht : (pc : Int) + off = (tgt : Int)) (k1 : 0 < x → Ev xs L M tgt lv st G σ G' Q) (k2 : ¬ 0 < x → Ev xs L M (pc + 3) lv st G σ G' Q) : Ev xs L M pc lv (.int x :: st) G σ G' Q := by
  intro l B p e R s mid args below meth c H locs cells slots ls QQ hC hR hW hS hL kr
  exact lv_if_gt hC.1 hC.2.1 hd ht (fun h => k1 h l B p e R s mid args below meth c H locs cells slots ls QQ hC hR hW hS hL kr) (fun h => k2 h l B p e R s mid args below meth c H locs cells slots ls QQ hC hR hW hS hL kr)
theorem xe_icmp_le {x y : Int32} {off : Int} (tgt : Nat) (hd : decode M.2.1 pc = .ok (.if_icmp .le off, 3)) (ht : (pc : Int) + off = (tgt : Int)) (k1 : x ≤ y → Ev xs L M tgt lv st G σ G' Q) (k2 : ¬ x ≤ y → Ev xs L M (pc + 3) lv st G σ G' Q) : Ev xs L M pc lv (.int y :: .int x :: st) G σ G' Q := by
  intro l B p e R s mid args below meth c H locs cells slots ls QQ hC hR hW hS hL kr
  exact lv_icmp_le hC.1 hC.2.1 hd ht (fun h => k1 h l B p e R s mid args below meth c H locs cells slots ls QQ hC hR hW hS hL kr) (fun h => k2 h l B p e R s mid args below meth c H locs cells slots ls QQ hC hR hW hS hL kr)
theorem xe_if_le {x : Int32} {off : Int} (tgt : Nat) (hd : decode M.2.1 pc = .ok (.ifCond .le off, 3)) (ht : (pc : Int) + off = (tgt : Int)) (k1 : x ≤ 0 → Ev xs L M tgt lv st G σ G' Q) (k2 : ¬ x ≤ 0 → Ev xs L M (pc + 3) lv st G σ G' Q) : Ev xs L M pc lv (.int x :: st) G σ G' Q := by
  intro l B p e R s mid args below meth c H locs cells slots ls QQ hC hR hW hS hL kr
  exact lv_if_le hC.1 hC.2.1 hd ht (fun h => k1 h l B p e R s mid args below meth c H locs cells slots ls QQ hC hR hW hS hL kr) (fun h => k2 h l B p e R s mid args below meth c H locs cells slots ls QQ hC hR hW hS hL kr)
theorem xe_goto {off : Int} (tgt : Nat) (hd : decode M.2.1 pc = .ok (.goto off, 3)) (ht : (pc : Int) + off = (tgt : Int)) (k : Ev xs L M tgt lv st G σ G' Q) : Ev xs L M pc lv st G σ G' Q := by
  intro l B p e R s mid args below meth c H locs cells slots ls QQ hC hR hW hS hL kr
  exact lv_goto hC.1 hC.2.1 hd ht (k l B p e R s mid args below meth c H locs cells slots ls QQ hC hR hW hS hL kr)
theorem xe_lookup {dflt off : Int} {ps : Array (Int × Int)} {len : Nat} {x : Int32} (tgt : Nat) (hd : decode M.2.1 pc = .ok (.lookupswitch dflt ps, len)) (hp : (ps.toList.zip (ps.toList.drop 1)).all (fun (a, next) => a.1 < next.1) = true) (ho : Op.lookupswitch.offset ps.toList dflt x.toInt = off) (ht : (pc : Int) + off = (tgt : Int)) (k : Ev xs L M tgt lv st G σ G' Q) : Ev xs L M pc lv (.int x :: st) G σ G' Q := by
  intro l B p e R s mid args below meth c H locs cells slots ls QQ hC hR hW hS hL kr
  exact lv_lookup hC.1 hC.2.1 hd hp ho ht (k l B p e R s mid args below meth c H locs cells slots ls QQ hC hR hW hS hL kr)
theorem xe_tableOut {dflt lo hi : Int} {offs : Array Int} {len : Nat} {x : Int32} (tgt : Nat) (hd : decode M.2.1 pc = .ok (.tableswitch dflt lo hi offs, len)) (h : x.toInt < lo ∨ hi < x.toInt) (ht : (pc : Int) + dflt = (tgt : Int)) (k : Ev xs L M tgt lv st G σ G' Q) : Ev xs L M pc lv (.int x :: st) G σ G' Q := by
  intro l B p e R s mid args below meth c H locs cells slots ls QQ hC hR hW hS hL kr
  exact lv_tableOut hC.1 hC.2.1 hd h ht (k l B p e R s mid args below meth c H locs cells slots ls QQ hC hR hW hS hL kr)
theorem xe_tableIn {dflt lo hi off : Int} {offs : Array Int} {len : Nat} {x : Int32} (tgt : Nat) (hd : decode M.2.1 pc = .ok (.tableswitch dflt lo hi offs, len)) (h1 : ¬ x.toInt < lo) (h2 : ¬ hi < x.toInt) (ho : offs[(x.toInt - lo).toNat]? = some off) (ht : (pc : Int) + off = (tgt : Int)) (k : Ev xs L M tgt lv st G σ G' Q) : Ev xs L M pc lv (.int x :: st) G σ G' Q := by
  intro l B p e R s mid args below meth c H locs cells slots ls QQ hC hR hW hS hL kr
  exact lv_tableIn hC.1 hC.2.1 hd h1 h2 ho ht (k l B p e R s mid args below meth c H locs cells slots ls QQ hC hR hW hS hL kr)
theorem xe_ldc2 {idx : Nat} {v : Int64} (hd : decode M.2.1 pc = .ok (.ldc2_w idx, 3)) (hw : Cond.constantLong M.1.cls idx v ∈ GT) (k : Ev xs L M (pc + 3) lv (.long v :: st) G σ G' Q) : Ev xs L M pc lv st G σ G' Q := by
  intro l B p e R s mid args below meth c H locs cells slots ls QQ hC hR hW hS hL kr
  exact lv_ldc2 hC.1 hC.2.1 hC.2.2.2.1 (hC.2.2.2.2.1 _ hw) hd (k l B p e R s mid args below meth c H locs cells slots ls QQ hC hR hW hS hL kr)
theorem xe_ldcw {idx : Nat} {v : Int32} (hd : decode M.2.1 pc = .ok (.ldc_w idx, 3)) (hw : Cond.constant M.1.cls idx v ∈ GT) (k : Ev xs L M (pc + 3) lv (.int v :: st) G σ G' Q) : Ev xs L M pc lv st G σ G' Q := by
  intro l B p e R s mid args below meth c H locs cells slots ls QQ hC hR hW hS hL kr
  exact lv_ldcw hC.1 hC.2.1 hC.2.2.2.1 (hC.2.2.2.2.1 _ hw) hd (k l B p e R s mid args below meth c H locs cells slots ls QQ hC hR hW hS hL kr)
theorem xe_iret {x : Int32} (hd : decode M.2.1 pc = .ok (.ireturn, 1)) (hr : M.2.2.2.1 = some .int) (hq : Q (some (.int x)) σ) : Ev xs L M pc lv [.int x] G σ G Q := by
  intro l B p e R s mid args below meth c H locs cells slots ls QQ hC hR hW hS hL kr
  have := kr (some (.int x)) σ H locs ls pc hq hW hS ⟨hd, .int, hr, rfl⟩
  rwa [Nat.sub_self, Nat.sub_self, Nat.add_zero, Nat.add_zero] at this
theorem xe_zret {x : Int32} (hd : decode M.2.1 pc = .ok (.ireturn, 1)) (hr : M.2.2.2.1 = some .boolean) (hz : x = 0 ∨ x = 1) (hq : Q (some (.int x)) σ) : Ev xs L M pc lv [.int x] G σ G Q := by
  intro l B p e R s mid args below meth c H locs cells slots ls QQ hC hR hW hS hL kr
  have := kr (some (.int x)) σ H locs ls pc hq hW hS ⟨hd, .boolean, hr, by rcases hz with rfl | rfl <;> rfl⟩
  rwa [Nat.sub_self, Nat.sub_self, Nat.add_zero, Nat.add_zero] at this
theorem xe_lret {x : Int64} (hd : decode M.2.1 pc = .ok (.lreturn, 1)) (hr : M.2.2.2.1 = some .long) (hq : Q (some (.long x)) σ) : Ev xs L M pc lv [.long x] G σ G Q := by
  intro l B p e R s mid args below meth c H locs cells slots ls QQ hC hR hW hS hL kr
  have := kr (some (.long x)) σ H locs ls pc hq hW hS ⟨hr, hd⟩
  rwa [Nat.sub_self, Nat.sub_self, Nat.add_zero, Nat.add_zero] at this
theorem xe_vret (hd : decode M.2.1 pc = .ok (.return_, 1)) (hr : M.2.2.2.1 = none) (hq : Q none σ) : Ev xs L M pc lv [] G σ G Q := by
  intro l B p e R s mid args below meth c H locs cells slots ls QQ hC hR hW hS hL kr
  have := kr none σ H locs ls pc hq hW hS ⟨hr, hd⟩
  rwa [Nat.sub_self, Nat.sub_self, Nat.add_zero, Nat.add_zero] at this
end XE
end
section
/-! rows that reach cells -/
def xCf (q : Nat) (C : String) (T : u_T) : Prop := vwCl[q - 1]? = some (C, T, xnf q) ∧ 1 ≤ q ∧ q ≤ 10 ∧ (∀ w ∈ u_ws C T (xnf q), w ∈ GT) ∧ (∀ k, k < xnf q → parseFieldDescriptor (T k).2.2.1 = some (xty q k)) ∧ (∀ a, a < xnf q → ∀ b, b < xnf q → a ≠ b → (T a).2.1 ≠ (T b).2.1) ∧ Cond.instantiable C (xnf q) ∈ GT ∧ Cond.initialized C ∈ GT
def xFd (own : String) (idx q k : Nat) (fin : Bool) : Prop := ∃ (C : String) (T : u_T), xCf q C T ∧ k < xnf q ∧ Cond.fieldLink own idx (T k).1 (T k).2.1 (T k).2.2.1 ∈ GT ∧ (T k).2.2.2 = fin ∧ (T k).1 = C
/-- what a field holds, as numbers -/
def xfa (G : xG) (σ : xS) (i : Nat) (ty : FieldType) (k : Nat) : Value := match ty with
  | .int => .int (σ.1 i k)
  | .boolean => .int (σ.1 i k)
  | .long => .long (σ.2 i k)
  | _ => .ref (xr G i k)
theorem xfa_v (B : xB) (G : xG) (σ : xS) (i : Nat) (ty : FieldType) (k : Nat) : xv B (xfa G σ i ty k) = xfv B G σ i ty k := by
  cases ty <;> rfl
theorem xty_ok (q j : Nat) : xty q j = .int ∨ xty q j = .boolean ∨ xty q j = .long ∨ (∃ t, xty q j = .array t) ∨ ∃ c, xty q j = .object c := by
  unfold xty
  split
  · unfold tyX0; split <;> simp
  · unfold tyX1; split <;> simp
  · unfold tyX3; split <;> simp
  · unfold tyX4; split <;> simp
  · unfold tyX6; split <;> simp
  · unfold tyX7; split <;> simp
  · unfold tyX8; split <;> simp
  · unfold tyX9; split <;> simp
  · unfold tyX10; split <;> simp
  · unfold tyX11; split <;> simp
theorem xput_w {B : xB} {G G2 : xG} {σ σ2 : xS} {r q k : Nat} {v : Value} (hq : q ≤ 10) (r1 : 1 ≤ r) (r2 : r ≤ xN G) (hkn : k < xnf q) (hN : xN G2 = xN G) (hk2 : xk G2 r = q) (ho : ∀ j, j ≠ r → xce B G2 σ2 j = xce B G σ j) (hv : xfv B G2 σ2 r (xty q k) k = v) (hof : ∀ j, j ≠ k → xfv B G2 σ2 r (xty q j) j = xfv B G σ r (xty q j) j) : (xw B G σ).set (r - 1) (B.1 + (r - 1), .inr (q - 1, (xfs B G σ r q).set k v)) = xw B G2 σ2 := by
  rw [← xw_set r1 r2 hN ho, xce_o hk2 hq, ← xfs_set hkn hof, hv]
theorem xS_self {A : Nat → Prop} {H0 H : Heap} {locs : List Loc} (h : va_S A H0 H locs) : va_S A H H locs := ⟨Nat.le_refl _, fun _ _ _ => rfl, h.2.2⟩
theorem xS_trans {A : Nat → Prop} {H0 H H1 : Heap} {locs locs1 : List Loc} (h : va_S A H0 H locs) (h1 : va_S A H H1 locs1) : va_S A H0 H1 locs1 := ⟨Nat.le_trans h.1 h1.1, fun q a b => (h1.2.1 q (Nat.lt_of_lt_of_le a h.1) b).trans (h.2.1 q a b), h1.2.2⟩
/-- the room tells how large the store can be -/
theorem xW_le {p : Program} {l : Launch} {e : Env} {R : Room} {s : State} {m : MethodId} {args : Array Value} {below : List Frame} {meth : Method} {c : Code} {H : Heap} {locs : List Loc} {cells slots : Nat} {Q : State → Prop} {g : JFrame} (k : H.size ≤ s.heap.size + cells → W p l e R s m args below meth c H locs cells slots Q g) : W p l e R s m args below meth c H locs cells slots Q g := fun T hT X => k (by rw [← hT]; exact X.same.2.2.1) T hT X
section XC
variable {xs : Nat → Int32} {L : Nat} {M : xM} {pc : Nat} {lv st : List Value} {G G' : xG} {σ : xS} {Q : Option Value → xS → Prop}
theorem xe_get {r idx q k : Nat} {fin : Bool} (hd : decode M.2.1 pc = .ok (.getfield idx, 3)) (hf : xFd M.1.cls idx q k fin) (hk : xk G r = q) (kk : Ev xs L M (pc + 3) lv (xfa G σ r (xty q k) k :: st) G σ G' Q) : Ev xs L M pc lv (.ref r :: st) G σ G' Q := by
  intro l B p e R s mid args below meth c H locs cells slots ls QQ hC hR hW hS hL kr
  obtain ⟨C, T, ⟨hcl, hq1, hq10, hin, hty, hnm, hins, hini⟩, hkn, hlk, hfi, hde⟩ := hf
  obtain ⟨r1, r2⟩ := hW.2.2 r (by rw [hk]; omega)
  have kk := kk l B p e R s mid args below meth c H locs cells slots ls QQ hC hR hW hS hL kr
  rw [List.map_cons, xfa_v] at kk
  rw [List.map_cons, xv_ref B r1]
  exact va_get hC.1 hC.2.1 hC.2.2.2.2.1 hin hC.2.2.2.1 hC.2.2.2.2.2.2.2.1 hW.2.1 (r - 1) (fs := xfs B G σ r q) (by rw [xw_get r1 r2, xce_o hk hq10]) hcl k hkn (hC.2.2.2.2.1 _ hlk) (fun x h => h) (xfs_get hkn) hd kk
theorem xe_getI {r idx q k : Nat} {fin : Bool} (hd : decode M.2.1 pc = .ok (.getfield idx, 3)) (hf : xFd M.1.cls idx q k fin) (ht : xty q k = .int) (hk : xk G r = q) (kk : Ev xs L M (pc + 3) lv (.int (σ.1 r k) :: st) G σ G' Q) : Ev xs L M pc lv (.ref r :: st) G σ G' Q := xe_get hd hf hk (by rw [ht]; exact kk)
theorem xe_getZ {r idx q k : Nat} {fin : Bool} (hd : decode M.2.1 pc = .ok (.getfield idx, 3)) (hf : xFd M.1.cls idx q k fin) (ht : xty q k = .boolean) (hk : xk G r = q) (kk : Ev xs L M (pc + 3) lv (.int (σ.1 r k) :: st) G σ G' Q) : Ev xs L M pc lv (.ref r :: st) G σ G' Q := xe_get hd hf hk (by rw [ht]; exact kk)
theorem xe_getJ {r idx q k : Nat} {fin : Bool} (hd : decode M.2.1 pc = .ok (.getfield idx, 3)) (hf : xFd M.1.cls idx q k fin) (ht : xty q k = .long) (hk : xk G r = q) (kk : Ev xs L M (pc + 3) lv (.long (σ.2 r k) :: st) G σ G' Q) : Ev xs L M pc lv (.ref r :: st) G σ G' Q := xe_get hd hf hk (by rw [ht]; exact kk)
theorem xe_getA {r idx q k : Nat} {fin : Bool} {t : FieldType} (hd : decode M.2.1 pc = .ok (.getfield idx, 3)) (hf : xFd M.1.cls idx q k fin) (ht : xty q k = .array t) (hk : xk G r = q) (kk : Ev xs L M (pc + 3) lv (.ref (xr G r k) :: st) G σ G' Q) : Ev xs L M pc lv (.ref r :: st) G σ G' Q := xe_get hd hf hk (by rw [ht]; exact kk)
theorem xe_getO {r idx q k : Nat} {fin : Bool} {t : String} (hd : decode M.2.1 pc = .ok (.getfield idx, 3)) (hf : xFd M.1.cls idx q k fin) (ht : xty q k = .object t) (hk : xk G r = q) (kk : Ev xs L M (pc + 3) lv (.ref (xr G r k) :: st) G σ G' Q) : Ev xs L M pc lv (.ref r :: st) G σ G' Q := xe_get hd hf hk (by rw [ht]; exact kk)
/-- a field that may change -/
theorem xe_putW {r idx q k : Nat} {v : Value} {G2 : xG} {σ2 : xS} (hd : decode M.2.1 pc = .ok (.putfield idx, 3)) (hf : xFd M.1.cls idx q k false) (hk : xk G r = q) (hn : ∀ B, narrow (xty q k) (xv B v) = xv B v) (hfit : ∀ B, fits (xty q k) (xv B v) = true) (hN : xN G2 = xN G) (hZ : xZ G2 = xZ G) (hk2 : ∀ i, xk G2 i = xk G i) (ho : ∀ B j, j ≠ r → xce B G2 σ2 j = xce B G σ j) (hv : ∀ B, xfv B G2 σ2 r (xty q k) k = xv B v) (hof : ∀ B j, j ≠ k → xfv B G2 σ2 r (xty q j) j = xfv B G σ r (xty q j) j) (kk : Ev xs L M (pc + 3) lv st G2 σ2 G' Q) : Ev xs L M pc lv (v :: .ref r :: st) G σ G' Q := by
  intro l B p e R s mid args below meth c H locs cells slots ls QQ hC hR hW hS hL kr
  obtain ⟨C, T, ⟨hcl, hq1, hq10, hin, hty, hnm, hins, hini⟩, hkn, hlk, hfi, hde⟩ := hf
  obtain ⟨r1, r2⟩ := hW.2.2 r (by rw [hk]; omega)
  rw [List.map_cons, List.map_cons, xv_ref B r1]
  refine va_put hC.1 hC.2.1 hC.2.2.2.2.1 hin (xty q) hty hnm hC.2.2.2.1 hC.2.2.2.2.2.2.2.1 hW.2.1 (xw_D B G σ) (xS_self hS) (r - 1) (fs := xfs B G σ r q) (by rw [xw_get r1 r2, xce_o hk hq10]) hcl k hkn (hC.2.2.2.2.1 _ hlk) (fun x h => h) hfi (hty k hkn) (hn B) (hfit B) (by rw [xfs_len]; exact hkn) hd (fun H1 locs1 hP1 hD1 hS1 => ?_)
  rw [xput_w hq10 r1 r2 hkn hN ((hk2 r).trans hk) (ho B) (hv B) (hof B)] at hP1
  refine xW_le (fun hle => ?_)
  obtain ⟨a1, a2, a3, a4, a5, a6, a7⟩ := hR
  have hsz := hW.1
  have hlo := hS1.1
  refine kk l B p e R s mid args below meth c H1 locs1 cells slots ls QQ hC ⟨a1, a2, by rw [hN]; exact a3, by rw [hZ]; exact a4, by rw [hN]; exact a5, by rw [hZ]; exact a6, by rw [hN]; exact a7⟩ ⟨by rw [hN]; omega, hP1, fun i hi => by rw [hN]; exact hW.2.2 i (by rw [← hk2]; exact hi)⟩ (xS_trans hS hS1) hL ?_
  rw [hN, hZ]
  exact kr
theorem xe_putI {r idx q k : Nat} {x : Int32} (hd : decode M.2.1 pc = .ok (.putfield idx, 3)) (hf : xFd M.1.cls idx q k false) (ht : xty q k = .int) (hk : xk G r = q) (kk : Ev xs L M (pc + 3) lv st G (xpi σ r k x) G' Q) : Ev xs L M pc lv (.int x :: .ref r :: st) G σ G' Q := by
  refine xe_putW hd hf hk (fun _ => by rw [ht]; rfl) (fun _ => by rw [ht]; rfl) rfl rfl (fun _ => rfl) (fun B => xce_pi) (fun B => ?_) (fun B j hj => ?_) kk
  · rw [ht]
    show Value.int _ = .int x
    rw [xpi_at, pk_us]
  · exact xfv_cong (by rw [xpi_at, pk_un hj]) rfl rfl
theorem xe_putZ {r idx q k : Nat} {x : Int32} (hd : decode M.2.1 pc = .ok (.putfield idx, 3)) (hf : xFd M.1.cls idx q k false) (ht : xty q k = .boolean) (hx : x = 0 ∨ x = 1) (hk : xk G r = q) (kk : Ev xs L M (pc + 3) lv st G (xpi σ r k x) G' Q) : Ev xs L M pc lv (.int x :: .ref r :: st) G σ G' Q := by
  refine xe_putW hd hf hk (fun _ => by rw [ht]; rcases hx with rfl | rfl <;> rfl) (fun _ => by rw [ht]; rcases hx with rfl | rfl <;> rfl) rfl rfl (fun _ => rfl) (fun B => xce_pi) (fun B => ?_) (fun B j hj => ?_) kk
  · rw [ht]
    show Value.int _ = .int x
    rw [xpi_at, pk_us]
  · exact xfv_cong (by rw [xpi_at, pk_un hj]) rfl rfl
theorem xe_putJ {r idx q k : Nat} {x : Int64} (hd : decode M.2.1 pc = .ok (.putfield idx, 3)) (hf : xFd M.1.cls idx q k false) (ht : xty q k = .long) (hk : xk G r = q) (kk : Ev xs L M (pc + 3) lv st G (xpl σ r k x) G' Q) : Ev xs L M pc lv (.long x :: .ref r :: st) G σ G' Q := by
  refine xe_putW hd hf hk (fun _ => by rw [ht]; rfl) (fun _ => by rw [ht]; rfl) rfl rfl (fun _ => rfl) (fun B => xce_pl) (fun B => ?_) (fun B j hj => ?_) kk
  · rw [ht]
    show Value.long _ = .long x
    rw [xpl_at, pk_uLs]
  · exact xfv_cong rfl (by rw [xpl_at, pk_uLn hj]) rfl
/-- one cell names another one -/
def xgr (G : xG) (i k j : Nat) : xG := (G.1, G.2.1, fun a b => if a = i ∧ b = k then j else G.2.2.1 a b, G.2.2.2)
theorem xgr_at (G : xG) (i k j : Nat) : xr (xgr G i k j) i k = j := by
  show (if i = i ∧ k = k then j else _) = j
  rw [if_pos ⟨rfl, rfl⟩]
theorem xgr_ne (G : xG) {i k j a b : Nat} (h : ¬ (a = i ∧ b = k)) : xr (xgr G i k j) a b = xr G a b := by
  show (if a = i ∧ b = k then j else _) = _
  rw [if_neg h]
/-- a field that is set where it is made -/
theorem xe_putR {r idx q k j : Nat} (hd : decode M.2.1 pc = .ok (.putfield idx, 3)) (hf : xFd M.1.cls idx q k true) (ht : (∃ t, xty q k = .array t) ∨ ∃ t, xty q k = .object t) (hin : M.1.name = "<init>") (hq : ∀ C T, xCf q C T → C = M.1.cls) (hk : xk G r = q) (kk : Ev xs L M (pc + 3) lv st (xgr G r k j) σ G' Q) : Ev xs L M pc lv (.ref j :: .ref r :: st) G σ G' Q := by
  intro l B p e R s mid args below meth c H locs cells slots ls QQ hC hR hW hS hL kr
  obtain ⟨C, T, hcf, hkn, hlk, hfi, hde⟩ := hf
  have hC2 := hq C T hcf
  obtain ⟨hcl, hq1, hq10, hin2, hty, hnm, hins, hini⟩ := hcf
  obtain ⟨r1, r2⟩ := hW.2.2 r (by rw [hk]; omega)
  have hnv : narrow (xty q k) (xv B (.ref j)) = xv B (.ref j) := by
    by_cases hj : j = 0
    · have e1 : xv B (.ref j) = .null := by simp only [xv, if_pos hj]
      rw [e1]
      rcases ht with ⟨t, ht⟩ | ⟨t, ht⟩ <;> rw [ht] <;> rfl
    · have e1 : xv B (.ref j) = .ref (B.1 + (j - 1)) := by simp only [xv, if_neg hj]
      rw [e1]
      rcases ht with ⟨t, ht⟩ | ⟨t, ht⟩ <;> rw [ht] <;> rfl
  have hft : fits (xty q k) (xv B (.ref j)) = true := by
    by_cases hj : j = 0
    · have e1 : xv B (.ref j) = .null := by simp only [xv, if_pos hj]
      rw [e1]
      rcases ht with ⟨t, ht⟩ | ⟨t, ht⟩ <;> rw [ht] <;> rfl
    · have e1 : xv B (.ref j) = .ref (B.1 + (j - 1)) := by simp only [xv, if_neg hj]
      rw [e1]
      rcases ht with ⟨t, ht⟩ | ⟨t, ht⟩ <;> rw [ht] <;> rfl
  rw [List.map_cons, List.map_cons, xv_ref B r1]
  refine va_putF hC.1 hC.2.1 hC.2.2.2.2.1 hin2 (xty q) hty hnm hC.2.2.2.1 hC.2.2.2.2.2.2.2.1 hW.2.1 (xw_D B G σ) (xS_self hS) (r - 1) (fs := xfs B G σ r q) (by rw [xw_get r1 r2, xce_o hk hq10]) hcl k hkn (hC.2.2.2.2.1 _ hlk) (fun x h => h) hfi (hC.2.2.2.2.2.1 hin) (hde.trans hC2) (hty k hkn) hnv hft (by rw [xfs_len]; exact hkn) hd (fun H1 locs1 hP1 hD1 hS1 => ?_)
  rw [xput_w (G2 := xgr G r k j) (σ2 := σ) hq10 r1 r2 hkn rfl hk (fun i hi => xce_cong rfl rfl rfl rfl (fun b => xgr_ne G (fun z => hi z.1))) (by
      have e2 : xr (xgr G r k j) r k = j := xgr_at G r k j
      rcases ht with ⟨t, ht⟩ | ⟨t, ht⟩ <;> rw [ht] <;> show xv B (.ref (xr (xgr G r k j) r k)) = _ <;> rw [e2]) (fun i hi => xfv_cong rfl rfl (xgr_ne G (fun z => hi z.2)))] at hP1
  refine xW_le (fun hle => ?_)
  have hsz := hW.1
  have hlo := hS1.1
  have h7 := hR.2.2.2.2.2.2
  exact kk l B p e R s mid args below meth c H1 locs1 cells slots ls QQ hC hR ⟨by show H1.size = B.1 + xN G; omega, hP1, hW.2.2⟩ (xS_trans hS hS1) hL kr
end XC
end
section
/-! rows of arrays, tables, the script, and of what is made -/
section XA
variable {xs : Nat → Int32} {L : Nat} {M : xM} {pc : Nat} {lv st : List Value} {G G' : xG} {σ : xS} {Q : Option Value → xS → Prop}
theorem xe_iald {a : Nat} {i : Int32} (hd : decode M.2.1 pc = .ok (.iaload, 1)) (hk : xk G a = 11) (hi : vp_in i (xn G a)) (kk : Ev xs L M (pc + 1) lv (.int (σ.1 a i.toNatClampNeg) :: st) G σ G' Q) : Ev xs L M pc lv (.int i :: .ref a :: st) G σ G' Q := by
  intro l B p e R s mid args below meth c H locs cells slots ls QQ hC hR hW hS hL kr
  obtain ⟨r1, r2⟩ := hW.2.2 a (by rw [hk]; omega)
  have kk := kk l B p e R s mid args below meth c H locs cells slots ls QQ hC hR hW hS hL kr
  rw [List.map_cons, List.map_cons, xv_ref B r1]
  exact va_iald hC.1 hC.2.1 hC.2.2.2.2.2.2.2.1 hW.2.1 (a - 1) 0 (by rw [xw_get r1 r2, xce_i hk]) rfl hi hd kk
theorem xe_bald {a : Nat} {i : Int32} (hd : decode M.2.1 pc = .ok (.baload, 1)) (hk : xk G a = 12) (hi : vp_in i (xn G a)) (kk : Ev xs L M (pc + 1) lv (.int (σ.1 a i.toNatClampNeg) :: st) G σ G' Q) : Ev xs L M pc lv (.int i :: .ref a :: st) G σ G' Q := by
  intro l B p e R s mid args below meth c H locs cells slots ls QQ hC hR hW hS hL kr
  obtain ⟨r1, r2⟩ := hW.2.2 a (by rw [hk]; omega)
  have kk := kk l B p e R s mid args below meth c H locs cells slots ls QQ hC hR hW hS hL kr
  rw [List.map_cons, List.map_cons, xv_ref B r1]
  exact va_zald hC.1 hC.2.1 hC.2.2.2.2.2.2.2.1 hW.2.1 (a - 1) 1 (by rw [xw_get r1 r2, xce_z hk]) rfl hi hd kk
theorem xro_v (B : xB) (r : Nat) : va_rf (xro B r) = xv B (.ref r) := by
  unfold xro
  by_cases h : r = 0
  · rw [if_pos h]
    simp only [xv, if_pos h]
    rfl
  · rw [if_neg h]
    simp only [xv, if_neg h]
    rfl
theorem xe_aald {a : Nat} {i : Int32} (hd : decode M.2.1 pc = .ok (.aaload, 1)) (hk : xk G a = 13) (hi : vp_in i (xn G a)) (kk : Ev xs L M (pc + 1) lv (.ref (xr G a i.toNatClampNeg) :: st) G σ G' Q) : Ev xs L M pc lv (.int i :: .ref a :: st) G σ G' Q := by
  intro l B p e R s mid args below meth c H locs cells slots ls QQ hC hR hW hS hL kr
  obtain ⟨r1, r2⟩ := hW.2.2 a (by rw [hk]; omega)
  have kk := kk l B p e R s mid args below meth c H locs cells slots ls QQ hC hR hW hS hL kr
  rw [List.map_cons, ← xro_v] at kk
  rw [List.map_cons, List.map_cons, xv_ref B r1]
  exact va_aldq hC.1 hC.2.1 hC.2.2.2.2.2.2.2.1 hW.2.1 (a - 1) 2 (by rw [xw_get r1 r2, xce_q hk]) rfl hi hd kk
theorem xe_iast {a : Nat} {i x : Int32} (hd : decode M.2.1 pc = .ok (.iastore, 1)) (hk : xk G a = 11) (hi : vp_in i (xn G a)) (kk : Ev xs L M (pc + 1) lv st G (xpi σ a i.toNatClampNeg x) G' Q) : Ev xs L M pc lv (.int x :: .int i :: .ref a :: st) G σ G' Q := by
  intro l B p e R s mid args below meth c H locs cells slots ls QQ hC hR hW hS hL kr
  obtain ⟨r1, r2⟩ := hW.2.2 a (by rw [hk]; omega)
  rw [List.map_cons, List.map_cons, List.map_cons, xv_ref B r1]
  refine va_iast hC.1 hC.2.1 hC.2.2.2.2.2.2.2.1 hW.2.1 (xw_D B G σ) (xS_self hS) (a - 1) 0 (by rw [xw_get r1 r2, xce_i hk]) rfl hi hd (fun H1 locs1 hP1 hD1 hS1 => ?_)
  rw [show (xw B G σ).set (a - 1) (B.1 + (a - 1), .inl (xcI B, xn G a, .inl (upd (σ.1 a) i.toNatClampNeg x))) = xw B G (xpi σ a i.toNatClampNeg x) by
    rw [← xw_set (G' := G) (σ' := xpi σ a i.toNatClampNeg x) r1 r2 rfl xce_pi, xce_i hk, xpi_at]] at hP1
  refine xW_le (fun hle => ?_)
  have hsz := hW.1
  have hlo := hS1.1
  have h7 := hR.2.2.2.2.2.2
  exact kk l B p e R s mid args below meth c H1 locs1 cells slots ls QQ hC hR ⟨by omega, hP1, hW.2.2⟩ (xS_trans hS hS1) hL kr
theorem xe_bast {a : Nat} {i x : Int32} (hd : decode M.2.1 pc = .ok (.bastore, 1)) (hk : xk G a = 12) (hi : vp_in i (xn G a)) (kk : Ev xs L M (pc + 1) lv st G (xpi σ a i.toNatClampNeg (x &&& 1)) G' Q) : Ev xs L M pc lv (.int x :: .int i :: .ref a :: st) G σ G' Q := by
  intro l B p e R s mid args below meth c H locs cells slots ls QQ hC hR hW hS hL kr
  obtain ⟨r1, r2⟩ := hW.2.2 a (by rw [hk]; omega)
  rw [List.map_cons, List.map_cons, List.map_cons, xv_ref B r1]
  refine va_zast hC.1 hC.2.1 hC.2.2.2.2.2.2.2.1 hW.2.1 (xw_D B G σ) (xS_self hS) (a - 1) 1 (by rw [xw_get r1 r2, xce_z hk]) rfl hi hd (fun H1 locs1 hP1 hD1 hS1 => ?_)
  rw [show (xw B G σ).set (a - 1) (B.1 + (a - 1), .inl (xcZ B, xn G a, .inl (upd (σ.1 a) i.toNatClampNeg (vp_nar .boolean x)))) = xw B G (xpi σ a i.toNatClampNeg (x &&& 1)) by
    rw [← xw_set (G' := G) (σ' := xpi σ a i.toNatClampNeg (x &&& 1)) r1 r2 rfl xce_pi, xce_z hk, xpi_at]
    rfl] at hP1
  refine xW_le (fun hle => ?_)
  have hsz := hW.1
  have hlo := hS1.1
  have h7 := hR.2.2.2.2.2.2
  exact kk l B p e R s mid args below meth c H1 locs1 cells slots ls QQ hC hR ⟨by omega, hP1, hW.2.2⟩ (xS_trans hS hS1) hL kr
theorem xe_aast {a j : Nat} {i : Int32} (hd : decode M.2.1 pc = .ok (.aastore, 1)) (hk : xk G a = 13) (hj : xk G j = 1) (hi : vp_in i (xn G a)) (kk : Ev xs L M (pc + 1) lv st (xgr G a i.toNatClampNeg j) σ G' Q) : Ev xs L M pc lv (.ref j :: .int i :: .ref a :: st) G σ G' Q := by
  intro l B p e R s mid args below meth c H locs cells slots ls QQ hC hR hW hS hL kr
  obtain ⟨r1, r2⟩ := hW.2.2 a (by rw [hk]; omega)
  obtain ⟨j1, j2⟩ := hW.2.2 j (by rw [hj]; omega)
  rw [List.map_cons, List.map_cons, List.map_cons, xv_ref B r1, xv_ref B j1]
  refine va_astq hC.1 hC.2.1 hC.2.2.2.2.2.2.2.1 hW.2.1 (xw_D B G σ) (xS_self hS) (a - 1) 2 (j - 1) 0 (r := (RX0, TX0, 7)) (by rw [xw_get r1 r2, xce_q hk]) rfl (by rw [xw_get j1 j2, xce_o hj (by omega)]) rfl hi hd (fun H1 locs1 hP1 hD1 hS1 => ?_)
  rw [show (xw B G σ).set (a - 1) (B.1 + (a - 1), .inl (xcB B, xn G a, .inr (.inr (.inr (.inr (va_up (fun k => xro B (xr G a k)) i.toNatClampNeg (some (B.1 + (j - 1))))))))) = xw B (xgr G a i.toNatClampNeg j) σ by
    have ef : va_up (fun k => xro B (xr G a k)) i.toNatClampNeg (some (B.1 + (j - 1))) = fun k => xro B (xr (xgr G a i.toNatClampNeg j) a k) := by
      funext k
      by_cases hk2 : k = i.toNatClampNeg
      · subst hk2
        rw [xgr_at, show xro B j = some (B.1 + (j - 1)) from if_neg (Nat.ne_of_gt j1)]
        exact if_pos rfl
      · rw [xgr_ne G (fun z => hk2 z.2)]
        simp only [va_up, if_neg hk2]
    rw [← xw_set (G' := xgr G a i.toNatClampNeg j) (σ' := σ) r1 r2 rfl (fun b hb => xce_cong rfl rfl rfl rfl (fun k => xgr_ne G (fun z => hb z.1))), xce_q (G := xgr G a i.toNatClampNeg j) hk, ef]
    rfl] at hP1
  refine xW_le (fun hle => ?_)
  have hsz := hW.1
  have hlo := hS1.1
  have h7 := hR.2.2.2.2.2.2
  exact kk l B p e R s mid args below meth c H1 locs1 cells slots ls QQ hC hR ⟨by show H1.size = B.1 + xN G; omega, hP1, hW.2.2⟩ (xS_trans hS hS1) hL kr
/-- the script -/
theorem xe_sald {i : Int32} (hd : decode M.2.1 pc = .ok (.iaload, 1)) (hi : vp_in i L) (kk : Ev xs L M (pc + 1) lv (.int (xs i.toNatClampNeg) :: st) G σ G' Q) : Ev xs L M pc lv (.int i :: .float 0 :: st) G σ G' Q := by
  intro l B p e R s mid args below meth c H locs cells slots ls QQ hC hR hW hS hL kr
  have hI := hC.2.2.2.2.2.2
  exact va_sld hC.1 hC.2.1 hI.2.2.2.2.2.2.2.1 (Nat.lt_of_lt_of_le hI.2.2.2.2.2.2.2.2 hI.1) (fun z => absurd hI.2.2.2.2.2.2.2.2 (Nat.not_lt.mpr z)) hS hi hd (kk l B p e R s mid args below meth c H locs cells slots ls QQ hC hR hW hS hL kr)
theorem xe_slen (hd : decode M.2.1 pc = .ok (.arraylength, 1)) (kk : Ev xs L M (pc + 1) lv (.int (Int32.ofNat L) :: st) G σ G' Q) : Ev xs L M pc lv (.float 0 :: st) G σ G' Q := by
  intro l B p e R s mid args below meth c H locs cells slots ls QQ hC hR hW hS hL kr
  have hI := hC.2.2.2.2.2.2
  exact va_slen hC.1 hC.2.1 hI.2.2.2.2.2.2.2.1 (Nat.lt_of_lt_of_le hI.2.2.2.2.2.2.2.2 hI.1) (fun z => absurd hI.2.2.2.2.2.2.2.2 (Nat.not_lt.mpr z)) hS hd (kk l B p e R s mid args below meth c H locs cells slots ls QQ hC hR hW hS hL kr)
/-- the two tables -/
theorem xe_gets1 {idx : Nat} (hd : decode M.2.1 pc = .ok (.getstatic idx, 3)) (hl : Cond.fieldLink M.1.cls idx "NailThreads$Ring" "LENGTHS" "[I" ∈ GT) (kk : Ev xs L M (pc + 3) lv (.float 1 :: st) G σ G' Q) : Ev xs L M pc lv st G σ G' Q := by
  intro l B p e R s mid args below meth c H locs cells slots ls QQ hC hR hW hS hL kr
  have hI := hC.2.2.2.2.2.2
  exact va_gets hC.1 hC.2.1 hI.2.2.2.1 hS hC.2.2.2.1 (hC.2.2.2.2.1 _ hl) (fun x h => h) hd (kk l B p e R s mid args below meth c H locs cells slots ls QQ hC hR hW hS hL kr)
theorem xe_gets2 {idx : Nat} (hd : decode M.2.1 pc = .ok (.getstatic idx, 3)) (hl : Cond.fieldLink M.1.cls idx "NailThreads$Doings" "POWERS" "[J" ∈ GT) (kk : Ev xs L M (pc + 3) lv (.float 2 :: st) G σ G' Q) : Ev xs L M pc lv st G σ G' Q := by
  intro l B p e R s mid args below meth c H locs cells slots ls QQ hC hR hW hS hL kr
  have hI := hC.2.2.2.2.2.2
  exact va_gets hC.1 hC.2.1 hI.2.2.2.2.2.1 hS hC.2.2.2.1 (hC.2.2.2.2.1 _ hl) (fun x h => h) hd (kk l B p e R s mid args below meth c H locs cells slots ls QQ hC hR hW hS hL kr)
theorem xe_tald {i : Int32} (hd : decode M.2.1 pc = .ok (.iaload, 1)) (hi : vp_in i 12) (kk : Ev xs L M (pc + 1) lv (.int (xlen i.toNatClampNeg) :: st) G σ G' Q) : Ev xs L M pc lv (.int i :: .float 1 :: st) G σ G' Q := by
  intro l B p e R s mid args below meth c H locs cells slots ls QQ hC hR hW hS hL kr
  have hI := hC.2.2.2.2.2.2
  exact va_ti hC.1 hC.2.1 hI.2.2.2.2.1 hS hi rfl hd (kk l B p e R s mid args below meth c H locs cells slots ls QQ hC hR hW hS hL kr)
theorem xe_tlen (hd : decode M.2.1 pc = .ok (.arraylength, 1)) (kk : Ev xs L M (pc + 1) lv (.int 12 :: st) G σ G' Q) : Ev xs L M pc lv (.float 1 :: st) G σ G' Q := by
  intro l B p e R s mid args below meth c H locs cells slots ls QQ hC hR hW hS hL kr
  have hI := hC.2.2.2.2.2.2
  exact va_tlen hC.1 hC.2.1 hI.2.2.2.2.1 hS rfl hd (kk l B p e R s mid args below meth c H locs cells slots ls QQ hC hR hW hS hL kr)
theorem xe_pald {i : Int32} (hd : decode M.2.1 pc = .ok (.laload, 1)) (hi : vp_in i 5) (kk : Ev xs L M (pc + 1) lv (.long (xpow i.toNatClampNeg) :: st) G σ G' Q) : Ev xs L M pc lv (.int i :: .float 2 :: st) G σ G' Q := by
  intro l B p e R s mid args below meth c H locs cells slots ls QQ hC hR hW hS hL kr
  have hI := hC.2.2.2.2.2.2
  exact va_tl hC.1 hC.2.1 hI.2.2.2.2.2.2.1 hS hi rfl hd (kk l B p e R s mid args below meth c H locs cells slots ls QQ hC hR hW hS hL kr)
/-- one cell more: of kind q, n long, of z slots -/
def xgk (G : xG) (q n z : Nat) : xG := (fun i => if i = xN G + 1 then q else xk G i, fun i => if i = xN G + 1 then n else xn G i, fun i => if i = xN G + 1 then fun _ => 0 else xr G i, xN G + 1, xZ G + z)
def xs0 (σ : xS) (i : Nat) : xS := (fun a => if a = i then fun _ => 0 else σ.1 a, fun a => if a = i then fun _ => 0 else σ.2 a)
theorem xgk_old {B : xB} {G : xG} {σ : xS} {q n z : Nat} : ∀ j, j ≤ xN G → xce B (xgk G q n z) (xs0 σ (xN G + 1)) j = xce B G σ j := by
  intro j hj
  have hne : ¬ j = xN G + 1 := by omega
  refine xce_cong ?_ ?_ ?_ ?_ (fun k => ?_)
  · show (if j = xN G + 1 then q else _) = _
    rw [if_neg hne]
  · show (if j = xN G + 1 then n else _) = _
    rw [if_neg hne]
  · show (if j = xN G + 1 then _ else _) = _
    rw [if_neg hne]
  · show (if j = xN G + 1 then _ else _) = _
    rw [if_neg hne]
  · show (if j = xN G + 1 then (fun _ => 0) else xr G j) k = _
    rw [if_neg hne]
theorem xgk_wd {B : xB} {G : xG} {σ : xS} {q n z : Nat} {H H1 : Heap} (hW : xWd B G σ H) (hs : H1.size = H.size + 1) (ho : ∀ x, x < H.size → H1[x]? = H[x]?) (hc : va_at (xD B) vwCl (H.size, xce B (xgk G q n z) (xs0 σ (xN G + 1)) (xN G + 1)) H1) : xWd B (xgk G q n z) (xs0 σ (xN G + 1)) H1 := by
  refine ⟨by show H1.size = B.1 + (xN G + 1); rw [hs, hW.1]; omega, ?_, fun i hi => ?_⟩
  · rw [← xw_push (G := G) (σ := σ) rfl xgk_old]
    refine va_P.app (hW.2.1.kept (fun k x hx => ho x.1 ((hW.2.1 k x hx).lt))) (fun k x hx => ?_)
    have hz : k < 1 := (List.getElem?_eq_some_iff.mp hx).1
    rw [show k = 0 by omega] at hx
    cases hx
    have e : B.1 + xN G = H.size := hW.1.symm
    rw [e]
    exact hc
  · show 1 ≤ i ∧ i ≤ xN G + 1
    by_cases hj : i = xN G + 1
    · omega
    · have h2 : xk G i ≠ 0 := by
        intro z
        apply hi
        show (if i = xN G + 1 then q else xk G i) = 0
        rw [if_neg hj]
        exact z
      have := hW.2.2 i h2
      omega
theorem xgk_k (G : xG) (q n z : Nat) : xk (xgk G q n z) (xN G + 1) = q := by
  show (if xN G + 1 = xN G + 1 then q else _) = q
  rw [if_pos rfl]
theorem xgk_n (G : xG) (q n z : Nat) : xn (xgk G q n z) (xN G + 1) = n := by
  show (if xN G + 1 = xN G + 1 then n else _) = n
  rw [if_pos rfl]
theorem xgk_r (G : xG) (q n z k : Nat) : xr (xgk G q n z) (xN G + 1) k = 0 := by
  show (if xN G + 1 = xN G + 1 then (fun _ => 0) else _) k = 0
  rw [if_pos rfl]
theorem xs0_i (σ : xS) (i : Nat) : (xs0 σ i).1 i = fun _ => 0 := by
  show (if i = i then _ else _) = _
  rw [if_pos rfl]
theorem xs0_l (σ : xS) (i : Nat) : (xs0 σ i).2 i = fun _ => 0 := by
  show (if i = i then _ else _) = _
  rw [if_pos rfl]
/-- how the room goes on behind one cell more -/
theorem xRm.more {M : xM} {B : xB} {s : State} {R : Room} {cells slots : Nat} {G G2 : xG} {q n z : Nat} (hR : xRm M B s R cells slots G G2) (h1 : xN G + 1 ≤ xN G2) (h2 : xZ G + z ≤ xZ G2) : cells + 1 ≤ R.cells ∧ slots + z ≤ R.slots ∧ xRm M B s R (cells + 1) (slots + z) (xgk G q n z) G2 ∧ cells + 1 + (xN G2 - xN (xgk G q n z)) = cells + (xN G2 - xN G) ∧ slots + z + (xZ G2 - xZ (xgk G q n z)) = slots + (xZ G2 - xZ G) := by
  obtain ⟨a1, a2, a3, a4, a5, a6, a7⟩ := hR
  have e1 : xN (xgk G q n z) = xN G + 1 := rfl
  have e2 : xZ (xgk G q n z) = xZ G + z := rfl
  refine ⟨by omega, by omega, ⟨a1, a2, by rw [e1]; omega, by rw [e2]; omega, by rw [e1]; omega, by rw [e2]; omega, by rw [e1]; omega⟩, by rw [e1]; omega, by rw [e2]; omega⟩
theorem xe_new {idx q : Nat} {C : String} {T : u_T} (hd : decode M.2.1 pc = .ok (.new idx, 3)) (hcf : xCf q C T) (hcl : Cond.classLink M.1.cls idx C ∈ GT) (h1 : xN G + 1 ≤ xN G') (h2 : xZ G + xnf q ≤ xZ G') (kk : Ev xs L M (pc + 3) lv (.ref (xN G + 1) :: st) (xgk G q 0 (xnf q)) (xs0 σ (xN G + 1)) G' Q) : Ev xs L M pc lv st G σ G' Q := by
  intro l B p e R s mid args below meth c H locs cells slots ls QQ hC hR hW hS hL kr
  obtain ⟨hcl2, hq1, hq10, hin, hty, hnm, hins, hini⟩ := hcf
  obtain ⟨b1, b2, b3, b4, b5⟩ := hR.more (q := q) (n := 0) (z := xnf q) h1 h2
  have hKn := hC.2.2.2.2.2.2.2.1.1 (q - 1) _ hcl2
  refine W.newcK hC.1 hC.2.1 hC.2.2.2.1 (hC.2.2.2.2.1 _ hcl) (hC.2.2.2.2.1 _ hins) (hC.2.2.2.2.1 _ hini) rfl hd b1 b2 hKn.2.1 rfl fun H1 kC hkC e1 z1 o1 => ?_
  have hWd : xWd B (xgk G q 0 (xnf q)) (xs0 σ (xN G + 1)) H1 := by
    refine xgk_wd hW z1 o1 ?_
    rw [xce_o (xgk_k G q 0 (xnf q)) hq10]
    refine ⟨_, hcl2, (u_born (xty q) hC.2.2.2.2.1 hin hKn hkC e1 hty).to (fun j hj => ?_)⟩
    show _ = (xfs B _ _ _ q).getD j .null
    rw [List.getD_eq_getElem?_getD, xfs_get hj, Option.getD_some]
    rcases xty_ok q j with h | h | h | ⟨t, h⟩ | ⟨t, h⟩ <;> rw [h]
    · show Value.int 0 = .int ((xs0 σ (xN G + 1)).1 (xN G + 1) j)
      rw [xs0_i]
    · show Value.int 0 = .int ((xs0 σ (xN G + 1)).1 (xN G + 1) j)
      rw [xs0_i]
    · show Value.long 0 = .long ((xs0 σ (xN G + 1)).2 (xN G + 1) j)
      rw [xs0_l]
    · show Value.null = xv B (.ref (xr (xgk G q 0 (xnf q)) (xN G + 1) j))
      rw [xgk_r]
      simp only [xv, if_true]
    · show Value.null = xv B (.ref (xr (xgk G q 0 (xnf q)) (xN G + 1) j))
      rw [xgk_r]
      simp only [xv, if_true]
  have hS1 : va_S (xA B) s.heap H1 locs := ⟨by rw [z1]; exact Nat.le_succ_of_le hS.1, fun x a b => (o1 x (Nat.lt_of_lt_of_le a hS.1)).trans (hS.2.1 x a b), hS.2.2⟩
  have kk := kk l B p e R s mid args below meth c H1 locs (cells + 1) (slots + xnf q) ls QQ hC b3 hWd hS1 hL (by rw [b4, b5]; exact kr)
  rw [List.map_cons, xv_ref B (by omega), show B.1 + (xN G + 1 - 1) = H.size by rw [hW.1]; omega] at kk
  exact kk
theorem xe_newI {n : Int32} {N : Nat} (hd : decode M.2.1 pc = .ok (.newarray .int, 2)) (hw : Cond.arrayClass .int ∈ GT) (hn : ¬ n < 0) (hN : n.toNatClampNeg = N) (hb : N ≤ 1000000) (h1 : xN G + 1 ≤ xN G') (h2 : xZ G + N ≤ xZ G') (kk : Ev xs L M (pc + 2) lv (.ref (xN G + 1) :: st) (xgk G 11 N N) (xs0 σ (xN G + 1)) G' Q) : Ev xs L M pc lv (.int n :: st) G σ G' Q := by
  intro l B p e R s mid args below meth c H locs cells slots ls QQ hC hR hW hS hL kr
  obtain ⟨b1, b2, b3, b4, b5⟩ := hR.more (q := 11) (n := N) (z := N) h1 h2
  refine va_newaK (atype := .int) hC.1 hC.2.1 (hC.2.2.2.2.1 _ hw) rfl hd rfl hn hN (by show N * 4 ≤ _; omega) b1 b2 rfl fun H1 cA e1 z1 o1 hAr hNm => ?_
  have hcA : cA = xcI B := Option.some.inj (hNm.symm.trans (hC.2.2.2.2.2.2.2.1.2 0 _ rfl).2)
  subst hcA
  have hWd : xWd B (xgk G 11 N N) (xs0 σ (xN G + 1)) H1 := by
    refine xgk_wd hW z1 o1 ?_
    rw [xce_i (xgk_k G 11 N N), xgk_n, xs0_i]
    exact e1
  have hS1 : va_S (xA B) s.heap H1 locs := ⟨by rw [z1]; exact Nat.le_succ_of_le hS.1, fun x a b => (o1 x (Nat.lt_of_lt_of_le a hS.1)).trans (hS.2.1 x a b), hS.2.2⟩
  have kk := kk l B p e R s mid args below meth c H1 locs (cells + 1) (slots + N) ls QQ hC b3 hWd hS1 hL (by rw [b4, b5]; exact kr)
  rw [List.map_cons, xv_ref B (by omega), show B.1 + (xN G + 1 - 1) = H.size by rw [hW.1]; omega] at kk
  exact kk
theorem xe_newZ {n : Int32} {N : Nat} (hd : decode M.2.1 pc = .ok (.newarray .boolean, 2)) (hw : Cond.arrayClass .boolean ∈ GT) (hn : ¬ n < 0) (hN : n.toNatClampNeg = N) (hb : N ≤ 1000000) (h1 : xN G + 1 ≤ xN G') (h2 : xZ G + N ≤ xZ G') (kk : Ev xs L M (pc + 2) lv (.ref (xN G + 1) :: st) (xgk G 12 N N) (xs0 σ (xN G + 1)) G' Q) : Ev xs L M pc lv (.int n :: st) G σ G' Q := by
  intro l B p e R s mid args below meth c H locs cells slots ls QQ hC hR hW hS hL kr
  obtain ⟨b1, b2, b3, b4, b5⟩ := hR.more (q := 12) (n := N) (z := N) h1 h2
  refine va_newaK (atype := .boolean) hC.1 hC.2.1 (hC.2.2.2.2.1 _ hw) rfl hd rfl hn hN (by show N * 1 ≤ _; omega) b1 b2 rfl fun H1 cA e1 z1 o1 hAr hNm => ?_
  have hcA : cA = xcZ B := Option.some.inj (hNm.symm.trans (hC.2.2.2.2.2.2.2.1.2 1 _ rfl).2)
  subst hcA
  have hWd : xWd B (xgk G 12 N N) (xs0 σ (xN G + 1)) H1 := by
    refine xgk_wd hW z1 o1 ?_
    rw [xce_z (xgk_k G 12 N N), xgk_n, xs0_i]
    exact e1
  have hS1 : va_S (xA B) s.heap H1 locs := ⟨by rw [z1]; exact Nat.le_succ_of_le hS.1, fun x a b => (o1 x (Nat.lt_of_lt_of_le a hS.1)).trans (hS.2.1 x a b), hS.2.2⟩
  have kk := kk l B p e R s mid args below meth c H1 locs (cells + 1) (slots + N) ls QQ hC b3 hWd hS1 hL (by rw [b4, b5]; exact kr)
  rw [List.map_cons, xv_ref B (by omega), show B.1 + (xN G + 1 - 1) = H.size by rw [hW.1]; omega] at kk
  exact kk
theorem xe_newQ {n : Int32} {N idx : Nat} (hd : decode M.2.1 pc = .ok (.anewarray idx, 3)) (hcl : Cond.classLink M.1.cls idx "NailThreads$Board" ∈ GT) (hn : ¬ n < 0) (hN : n.toNatClampNeg = N) (hb : N ≤ 1000000) (h1 : xN G + 1 ≤ xN G') (h2 : xZ G + N ≤ xZ G') (kk : Ev xs L M (pc + 3) lv (.ref (xN G + 1) :: st) (xgk G 13 N N) (xs0 σ (xN G + 1)) G' Q) : Ev xs L M pc lv (.int n :: st) G σ G' Q := by
  intro l B p e R s mid args below meth c H locs cells slots ls QQ hC hR hW hS hL kr
  obtain ⟨b1, b2, b3, b4, b5⟩ := hR.more (q := 13) (n := N) (z := N) h1 h2
  subst hN
  refine W.anew hC.1 hC.2.1 hC.2.2.2.1 (hC.2.2.2.2.1 _ hcl) (va_AO.use hC.2.2.2.2.2.2.2.2.1) rfl hd rfl hn (by omega) b1 b2 fun cA kA comp f1 f2 f3 f4 => ?_
  generalize hH1 : H.push ({ cls := cA, slots := Array.replicate n.toNatClampNeg .null, vm := .none } : Cell) = H1
  have z1 : H1.size = H.size + 1 := by rw [← hH1, Array.size_push]
  have e1 : H1[H.size]? = some (arrV cA n.toNatClampNeg (fun _ => .null)) := by rw [← hH1, Array.getElem?_push_size, ← arrV_new]
  have o1 : ∀ x, x < H.size → H1[x]? = H[x]? := fun x hx => by rw [← hH1, Array.getElem?_push, if_neg (Nat.ne_of_lt hx)]
  obtain ⟨_, _, _, _, _, hNm⟩ := (hC.2.2.2.2.2.2.2.1.2 2 _ rfl).2
  have hcA : cA = xcB B := by
    first
      | exact Option.some.inj (f1.symm.trans hNm)
      | exact Option.some.inj (f2.symm.trans hNm)
      | exact Option.some.inj (f3.symm.trans hNm)
      | exact Option.some.inj (f4.symm.trans hNm)
  subst hcA
  have hWd : xWd B (xgk G 13 n.toNatClampNeg n.toNatClampNeg) (xs0 σ (xN G + 1)) H1 := by
    refine xgk_wd hW z1 o1 ?_
    rw [xce_q (xgk_k G 13 n.toNatClampNeg n.toNatClampNeg), xgk_n]
    have ef : (fun k => xro B (xr (xgk G 13 n.toNatClampNeg n.toNatClampNeg) (xN G + 1) k)) = fun _ => none := funext fun k => by
      rw [xgk_r]
      rfl
    rw [ef]
    exact e1
  have hS1 : va_S (xA B) s.heap H1 locs := ⟨by rw [z1]; exact Nat.le_succ_of_le hS.1, fun x a b => (o1 x (Nat.lt_of_lt_of_le a hS.1)).trans (hS.2.1 x a b), hS.2.2⟩
  have kk := kk l B p e R s mid args below meth c H1 locs (cells + 1) (slots + n.toNatClampNeg) ls QQ hC b3 hWd hS1 hL (by rw [b4, b5]; exact kr)
  rw [List.map_cons, xv_ref B (by omega), show B.1 + (xN G + 1 - 1) = H.size by rw [hW.1]; omega] at kk
  exact kk
end XA
end
section
/-! rows of calls -/
def xCd (M : xM) : Prop := Cond.code M.1 M.2.1 M.2.2.1 M.2.2.2.1 ∈ GT ∧ Cond.initialized M.1.cls ∈ GT ∧ plainName M.1.cls = true ∧ M.1.cls ≠ "java/lang/invoke/MethodHandle" ∧ M.1.cls ≠ "java/lang/invoke/VarHandle"
def xCn (M : xM) (n : Nat) : Prop := (parseMethodDescriptor M.1.desc).map (fun d => d.parameters.length) = some n
def xCv (own : String) (idx : Nat) (M2 : xM) (n q : Nat) : Prop := xCd M2 ∧ xCn M2 n ∧ Cond.methodLink own idx M2.1 ∈ GT ∧ Cond.instanceMethod M2.1 ∈ GT ∧ Cond.selects M2.1.cls M2.1 M2.1 ∈ GT ∧ ∃ T, xCf q M2.1.cls T
def xCs (own : String) (idx : Nat) (M2 : xM) (n : Nat) : Prop := xCd M2 ∧ xCn M2 n ∧ (Cond.methodLink own idx M2.1 ∈ GT ∨ ∃ host, Cond.methodLinkNest own idx M2.1 host ∈ GT) ∧ Cond.static M2.1 ∈ GT
def xCi (own : String) (idx : Nat) (M2 : xM) (n : Nat) : Prop := xCd M2 ∧ xCn M2 n ∧ Cond.methodLink own idx M2.1 ∈ GT ∧ Cond.instanceMethod M2.1 ∈ GT ∧ M2.1.name = "<init>" ∧ M2.2.2.2.1 = none
abbrev xWs (M : xM) : List Cond := Cond.code M.1 M.2.1 M.2.2.1 M.2.2.2.1 :: GT
abbrev xRo (M : xM) (G G1 : xG) : Room := { frames := M.2.2.2.2.1, cells := xN G1 - xN G, slots := xZ G1 - xZ G, locals := M.2.2.2.2.2 }
abbrev xPc (xs : Nat → Int32) (L : Nat) (B : xB) (As : List Value) (G : xG) (σ : xS) : Array Value → State → Prop := va_Pc (As.map (xv B)) (fun U => xI xs L B U ∧ xWd B G σ U.heap)
def xQc (B : xB) (G1 : xG) (Q : Option Value → xS → Prop) : Array Value → State → Outcome → State → Prop := fun _ st oc t => (∃ (v : Option Value) (σ1 : xS), oc = .returned v ∧ Q v σ1 ∧ v.toList.map (xv B) = v.toList ∧ xWd B G1 σ1 t.heap) ∧ va_F (xA B) st t
theorem xpos_len (B : xB) : ∀ As : List Value, (lg_sl (As.map (xv B))).length = (xpos As).length
  | [] => rfl
  | v :: r => by
    have ih := xpos_len B r
    have hc := xv_cat B v
    have e : lg_sl ((v :: r).map (xv B)) = lg_sl [xv B v] ++ lg_sl (r.map (xv B)) := by simp [lg_sl]
    rw [e, List.length_append, ih]
    cases v with
    | ref a =>
      by_cases h : a = 0
      · have e1 : xv B (.ref a) = .null := by simp only [xv, if_pos h]
        rw [e1]
        simp [lg_sl, xpos, Value.category]
        omega
      · have e1 : xv B (.ref a) = .ref (B.1 + (a - 1)) := by simp only [xv, if_neg h]
        rw [e1]
        simp [lg_sl, xpos, Value.category]
        omega
    | _ => simp [lg_sl, xpos, Value.category, xv]; omega
theorem xpos_at (B : xB) : ∀ (As : List Value) (off i : Nat) (w : Value), (xpos As)[i]? = some w → w ≠ .null → (off + i, xv B w) ∈ lv_args off (As.map (xv B))
  | [], off, i, w, h, _ => by simp [xpos] at h
  | v :: r, off, i, w, h, hw => by
    have ih := xpos_at B r
    have hc := xv_cat B v
    have one : v.category = 1 → xpos (v :: r) = v :: xpos r → (off + i, xv B w) ∈ lv_args off ((v :: r).map (xv B)) := by
      intro h1 h2
      rw [h2] at h
      rw [List.map_cons]
      show _ ∈ (off, xv B v) :: lv_args (if (xv B v).category = 2 then off + 2 else off + 1) (r.map (xv B))
      rw [hc, h1, if_neg (by omega)]
      cases i with
      | zero =>
        cases h
        exact List.mem_cons_self ..
      | succ k =>
        have := ih (off + 1) k w h hw
        rw [show off + (k + 1) = off + 1 + k by omega]
        exact List.mem_cons_of_mem _ this
    have two : v.category = 2 → xpos (v :: r) = v :: .null :: xpos r → (off + i, xv B w) ∈ lv_args off ((v :: r).map (xv B)) := by
      intro h1 h2
      rw [h2] at h
      rw [List.map_cons]
      show _ ∈ (off, xv B v) :: lv_args (if (xv B v).category = 2 then off + 2 else off + 1) (r.map (xv B))
      rw [hc, h1, if_pos rfl]
      match i, h with
      | 0, h =>
        cases h
        exact List.mem_cons_self ..
      | 1, h =>
        cases h
        exact absurd rfl hw
      | k + 2, h =>
        have := ih (off + 2) k w h hw
        rw [show off + (k + 2) = off + 2 + k by omega]
        exact List.mem_cons_of_mem _ this
    cases v with
    | long x => exact two rfl rfl
    | double x => exact two rfl rfl
    | _ => exact one rfl rfl
theorem xent_at (B : xB) {n : Nat} {As : List Value} {i : Nat} {w : Value} (h : (xent n As)[i]? = some w) (hw : w ≠ .null) : (i, xv B w) ∈ lv_args 0 (As.map (xv B)) := by
  unfold xent at h
  by_cases hi : i < (xpos As).length
  · rw [List.getElem?_append_left hi] at h
    have := xpos_at B As 0 i w h hw
    rwa [Nat.zero_add] at this
  · rw [List.getElem?_append_right (by omega)] at h
    exact absurd (List.eq_of_mem_replicate (List.mem_of_getElem? h)) hw
theorem xe_met {xs : Nat → Int32} {L : Nat} {M : xM} {As : List Value} {G G1 : xG} {σ : xS} {Q : Option Value → xS → Prop} (l : Launch) (B : xB) (hE : Cl xs L M As G σ G1 Q) (hc : xCd M) (hA : (xpos As).length ≤ M.2.2.1) (hN : xN G ≤ xN G1) (hZ : xZ G ≤ xZ G1) : Met l M.1 (xWs M) (xRo M G G1) (xPc xs L B As G σ) (xQc B G1 Q) (xN G1 - xN G) (xZ G1 - xZ G) (xA B) := by
  refine Met.ofW (cc := M.2.1) (maxL := M.2.2.1) (ret := M.2.2.2.1) hc.2.2.1 rfl ?_
  intro p e s m args below meth c s₁ Bd hml hv
  obtain ⟨rfl, hI, hWd⟩ := hv
  have hts := atoms_spec (ws := xWs M) Bd.pre
  have hown : s.vm.findClass M.1.cls = some m.cls := findClass_of_methodNamed Bd.named
  have hlocks := Bd.notSynchronized
  have hret := Bd.returns
  have hin : meth.name = M.1.name := (name_of_methodNamed Bd.named Bd.method).1
  have hl := lv_entry (As.map (xv B)) (n := M.2.2.1) (by rw [xpos_len]; exact hA)
  rw [lg_entry_eq]
  generalize (lg_sl (As.map (xv B)) ++ List.replicate (M.2.2.1 - (lg_sl (As.map (xv B))).length) Slot.unset).toArray = ls at hl ⊢
  refine hE l B p e _ s m _ below meth c s.heap [] 0 0 ls _ ⟨Bd.exec, Bd.bytes, hml, hown, fun w hw => hts w (List.mem_cons_of_mem _ hw), fun h => hin.trans h, hI⟩ ⟨Nat.le_refl _, Nat.le_refl _, by show 0 + _ ≤ _; rw [Nat.zero_add]; exact Nat.le_refl _, by show 0 + _ ≤ _; rw [Nat.zero_add]; exact Nat.le_refl _, hN, hZ, by rw [Nat.add_zero]; exact hWd.1.symm⟩ hWd va_S.rf ⟨hl.1, hl.2.1, fun i w h hw => hl.2.2 (i, xv B w) (xent_at B h hw)⟩ ?_
  intro v σ' H' locs' ls' pc' hq hWd' hS' hr
  rw [Nat.zero_add, Nat.zero_add]
  cases v with
  | none =>
    exact W.vret (Qc := xQc B G1 Q) (free := xA B) Bd.exec Bd.bytes (hret.trans hr.1) (fun t ht _ => ⟨⟨none, σ', rfl, hq, rfl, by rw [ht]; exact hWd'⟩, hS'.F ht⟩) hS'.2.2 hr.2 hlocks
  | some v =>
    cases v with
    | int x =>
      obtain ⟨hd, ty, hty, hn⟩ := hr
      exact W.zret (Qc := xQc B G1 Q) (free := xA B) Bd.exec Bd.bytes (hret.trans hty) hn (fun t ht _ => ⟨⟨some (.int x), σ', rfl, hq, rfl, by rw [ht]; exact hWd'⟩, hS'.F ht⟩) hS'.2.2 hd hlocks
    | long x =>
      exact W.lret (Qc := xQc B G1 Q) (free := xA B) Bd.exec Bd.bytes (hret.trans hr.1) (fun t ht _ => ⟨⟨some (.long x), σ', rfl, hq, rfl, by rw [ht]; exact hWd'⟩, hS'.F ht⟩) hS'.2.2 hr.2 hlocks
    | _ => exact hr.elim
theorem xblind {xs : Nat → Int32} {L : Nat} {B : xB} {As : List Value} {G : xG} {σ : xS} : FrameBlind (xPc xs L B As G σ) := fun a U g mk q => by
  obtain ⟨q0, qI, qW⟩ := q
  exact ⟨q0, qI.go (U := U.calling g mk a) (locs := []) va_S.rf (Vm.Alike.refl U.vm), qW⟩
theorem xgood {M : xM} (hc : xCd M) : GoodIn GT (xWs M) := fun w hw => by
  rcases List.mem_cons.mp hw with rfl | h
  · exact ⟨hc.1, (gt_good _ hc.1).2⟩
  · exact ⟨h, (gt_good _ h).2⟩
section XK
variable {xs : Nat → Int32} {L : Nat} {M M2 : xM} {pc : Nat} {lv st : List Value} {G G' G1 : xG} {σ : xS} {Q Q1 : Option Value → xS → Prop}
/-- behind a call -/
theorem xe_after {p : Program} {l : Launch} {e : Env} {R : Room} {s : State} {mid : MethodId} {args : Array Value} {below : List Frame} {meth : Method} {c : Code} {H : Heap} {locs : List Loc} {cells slots : Nat} {QQ : State → Prop} {B : xB} {ls : Array Slot} {st0 rest : List Value} {a : Array Value}
    (hr : va_Run p l e R s mid args below meth c H locs cells slots (xN G1 - xN G) (xZ G1 - xZ G) (F0 mid pc ls st0) (rest.map (xv B)) (xQc B G1 Q1 a) (xA B)) (hC : xCx xs L M B p s mid args meth c) (hR : xRm M B s R cells slots G G') (hW : xWd B G σ H) (hS : va_S (xA B) s.heap H locs) (hL : xLv B M.2.2.1 lv ls) (hN : xN G ≤ xN G1) (hZ : xZ G ≤ xZ G1) (hN2 : xN G1 ≤ xN G') (hZ2 : xZ G1 ≤ xZ G')
    (kr : ∀ (v : Option Value) (σ' : xS) (H' : Heap) (locs' : List Loc) (ls' : Array Slot) (pc' : Nat), Q v σ' → xWd B G' σ' H' → va_S (xA B) s.heap H' locs' → xRt M pc' v → W p l e R s mid args below meth c H' locs' (cells + (xN G' - xN G)) (slots + (xZ G' - xZ G)) QQ (F0 mid pc' ls' v.toList))
    (kk : ∀ (v : Option Value) (t : xS), Q1 v t → Ev xs L M (pc + 3) lv (v.toList ++ rest) G1 t G' Q) : W p l e R s mid args below meth c H locs cells slots QQ (F0 mid pc ls st0) := by
  intro T hT X
  obtain ⟨v, st₀, t, T', L', h0, X', hL', e1, e2, ⟨⟨v', σ1, hv, hq, hvt, hwd⟩, hz, hF⟩, st1⟩ := hr T hT X
  cases hv
  rw [h0] at hz hF
  rw [← e1] at hz hF hwd
  obtain ⟨a1, a2, a3, a4, a5, a6, a7⟩ := hR
  have hS1 : va_S (xA B) s.heap T'.heap (locs ++ L') := ⟨Nat.le_trans hS.1 hz, fun q h1 h2 => (hF q (Nat.lt_of_lt_of_le h1 hS.1) h2).trans (hS.2.1 q h1 h2), fun q hq' => by
    rcases List.mem_append.mp hq' with h | h
    · exact hS.2.2 q h
    · exact hL' q h⟩
  have d1 : cells + (xN G1 - xN G) + (xN G' - xN G1) = cells + (xN G' - xN G) := by omega
  have d2 : slots + (xZ G1 - xZ G) + (xZ G' - xZ G1) = slots + (xZ G' - xZ G) := by omega
  have key := kk v σ1 hq l B p e R s mid args below meth c T'.heap (locs ++ L') (cells + (xN G1 - xN G)) (slots + (xZ G1 - xZ G)) ls QQ hC ⟨a1, a2, by omega, by omega, hN2, hZ2, by omega⟩ hwd hS1 hL (by rw [d1, d2]; exact kr)
  rw [List.map_append, hvt] at key
  obtain ⟨t2, c1, c2⟩ := key T' rfl X'
  exact ⟨t2, st1 t2 c1, c2⟩
theorem xe_callV' {idx n q r : Nat} {As rest : List Value} (hE : Cl xs L M2 (.ref r :: As) G σ G1 Q1) (hd : decode M.2.1 pc = .ok (.invokevirtual idx, 3)) (hc : xCv M.1.cls idx M2 n q) (hst : st = As.reverse ++ .ref r :: rest) (hk : xk G r = q) (hn : As.length = n) (hA : (xpos (.ref r :: As)).length ≤ M2.2.2.1) (hw : (rest.map fun v => v.category).sum ≤ 8) (hf : M2.2.2.2.2.1 + 1 ≤ M.2.2.2.2.1 ∧ 8 + (M2.2.2.1 + 11) + M2.2.2.2.2.2 ≤ M.2.2.2.2.2) (hN : xN G ≤ xN G1) (hZ : xZ G ≤ xZ G1) (hN2 : xN G1 ≤ xN G') (hZ2 : xZ G1 ≤ xZ G') (kk : ∀ (v : Option Value) (t : xS), Q1 v t → Ev xs L M (pc + 3) lv (v.toList ++ rest) G1 t G' Q) : Ev xs L M pc lv st G σ G' Q := by
  intro l B p e R s mid args below meth c H locs cells slots ls QQ hC hR hW hS hL kr
  obtain ⟨hcd, hcn, hlk, hin, hse, T, hcf⟩ := hc
  obtain ⟨r1, r2⟩ := hW.2.2 r (by rw [hk]; have := hcf.2.1; omega)
  have hq10 := hcf.2.2.1
  subst hst
  refine xe_after (va_runV (As := As.map (xv B)) (b := B.1 + (r - 1)) (C := M2.1.cls) (Ts := GT) (own := M.1.cls) (nL := M.2.2.1) ⟨hC.1, hC.2.1, hC.2.2.1, hC.2.2.2.1, hC.2.2.2.2.1⟩ (xe_met l B hE hcd hA hN hZ) (cwV n hC.2.2.2.2.1 ?_ rfl rfl rfl ⟨rfl, hcd.2.2.2.1, hcd.2.2.2.2, hcn⟩ ⟨Nat.le_trans hf.1 hR.1, Nat.le_trans hf.2 hR.2.1⟩) ⟨xblind, va_recv hC.2.2.2.2.2.2.2.1 hW.2.1 (ci := q - 1) (q0 := r - 1) (q := (M2.1.cls, T, xnf q)) hcf.1 (by rw [xw_get r1 r2, xce_o hk hq10]), fun U hU hWm => ?_⟩ rfl (by rw [List.length_map]; exact hn) hL.1 ?_ ?_ hd ⟨?_, ?_⟩) hC hR hW hS hL hN hZ hN2 hZ2 kr kk
  · intro w hw
    rcases List.mem_append.mp hw with h | h
    · simp only [List.mem_cons, List.not_mem_nil, or_false] at h
      rcases h with rfl | rfl | rfl | rfl
      · exact ⟨hlk, (gt_good _ hlk).2⟩
      · exact ⟨hin, (gt_good _ hin).2⟩
      · exact ⟨hse, (gt_good _ hse).2⟩
      · exact ⟨hcd.2.1, (gt_good _ hcd.2.1).2⟩
    · exact xgood hcd w h
  · refine ⟨by rw [List.map_cons, xv_ref B r1], hC.2.2.2.2.2.2.go (U := U) (locs := locs) (by rw [hU]; exact hS) hWm.alike, by rw [hU]; exact hW⟩
  · show List.map (xv B) (As.reverse ++ .ref r :: rest) = _
    rw [List.map_append, List.map_reverse, List.map_cons, xv_ref B r1]
  · refine lv_room ?_
    rw [List.map_map]
    have e1 : (fun v : Value => v.category) ∘ xv B = fun v => v.category := funext fun v => xv_cat B v
    rw [e1]
    exact hw
  · have := hR.2.2.1
    omega
  · have := hR.2.2.2.1
    omega
theorem xe_callS' {idx n : Nat} {As rest : List Value} (hE : Cl xs L M2 As G σ G1 Q1) (hd : decode M.2.1 pc = .ok (.invokestatic idx, 3)) (hc : xCs M.1.cls idx M2 n) (hst : st = As.reverse ++ rest) (hn : As.length = n) (hA : (xpos As).length ≤ M2.2.2.1) (hw : (rest.map fun v => v.category).sum ≤ 8) (hf : M2.2.2.2.2.1 + 1 ≤ M.2.2.2.2.1 ∧ 8 + (M2.2.2.1 + 11) + M2.2.2.2.2.2 ≤ M.2.2.2.2.2) (hN : xN G ≤ xN G1) (hZ : xZ G ≤ xZ G1) (hN2 : xN G1 ≤ xN G') (hZ2 : xZ G1 ≤ xZ G') (kk : ∀ (v : Option Value) (t : xS), Q1 v t → Ev xs L M (pc + 3) lv (v.toList ++ rest) G1 t G' Q) : Ev xs L M pc lv st G σ G' Q := by
  intro l B p e R s mid args below meth c H locs cells slots ls QQ hC hR hW hS hL kr
  obtain ⟨hcd, hcn, hlk, hsa⟩ := hc
  subst hst
  have hstack : List.map (xv B) (As.reverse ++ rest) = (As.map (xv B)).reverse ++ rest.map (xv B) := by rw [List.map_append, List.map_reverse]
  have hroom : 2 * (F0 mid pc ls (List.map (xv B) (As.reverse ++ rest))).monitorRoom + ((rest.map (xv B)).map fun v => v.category).sum ≤ 8 := by
    refine lv_room ?_
    rw [List.map_map]
    have e1 : (fun v : Value => v.category) ∘ xv B = fun v => v.category := funext fun v => xv_cat B v
    rw [e1]
    exact hw
  have hpre : PreS s H (xPc xs L B As G σ) (As.map (xv B)) := ⟨xblind, fun U hU hWm => ⟨rfl, hC.2.2.2.2.2.2.go (U := U) (locs := locs) (by rw [hU]; exact hS) hWm.alike, by rw [hU]; exact hW⟩⟩
  have hcel : cells + (xN G1 - xN G) ≤ R.cells ∧ slots + (xZ G1 - xZ G) ≤ R.slots := ⟨by have := hR.2.2.1; omega, by have := hR.2.2.2.1; omega⟩
  rcases hlk with hlk | ⟨host, hlk⟩
  · refine xe_after (va_runS (As := As.map (xv B)) (Ts := GT) (own := M.1.cls) (nL := M.2.2.1) ⟨hC.1, hC.2.1, hC.2.2.1, hC.2.2.2.1, hC.2.2.2.2.1⟩ (xe_met l B hE hcd hA hN hZ) (va_cwS n hC.2.2.2.2.1 ?_ rfl rfl rfl ⟨hcd.2.2.2.1, hcd.2.2.2.2, hcn⟩ ⟨Nat.le_trans hf.1 hR.1, Nat.le_trans hf.2 hR.2.1⟩) hpre rfl (by rw [List.length_map]; exact hn) hL.1 hstack hroom hd hcel) hC hR hW hS hL hN hZ hN2 hZ2 kr kk
    intro w hw
    rcases List.mem_append.mp hw with h | h
    · simp only [List.mem_cons, List.not_mem_nil, or_false] at h
      rcases h with rfl | rfl | rfl
      · exact ⟨hlk, (gt_good _ hlk).2⟩
      · exact ⟨hsa, (gt_good _ hsa).2⟩
      · exact ⟨hcd.2.1, (gt_good _ hcd.2.1).2⟩
    · exact xgood hcd w h
  · exact xe_after (va_runSN (As := As.map (xv B)) (Ts := GT) (own := M.1.cls) (host := host) (nL := M.2.2.1) ⟨hC.1, hC.2.1, hC.2.2.1, hC.2.2.2.1, hC.2.2.2.2.1⟩ (xe_met l B hE hcd hA hN hZ) ⟨va_cnB n hC.2.2.2.2.1 (xgood hcd) rfl rfl rfl (va_Nw.of rfl (hC.2.2.2.2.1 _ hlk)) (hC.2.2.2.2.1 _ hcd.2.1) ⟨hcd.2.2.2.1, hcd.2.2.2.2, hcn⟩ ⟨Nat.le_trans hf.1 hR.1, Nat.le_trans hf.2 hR.2.1⟩, hC.2.2.2.2.1 _ hsa, trivial⟩ hpre rfl (by rw [List.length_map]; exact hn) hL.1 hstack hroom hd hcel) hC hR hW hS hL hN hZ hN2 hZ2 kr kk
theorem xe_callI' {idx n r : Nat} {As rest : List Value} (hE : Cl xs L M2 (.ref r :: As) G σ G1 Q1) (hd : decode M.2.1 pc = .ok (.invokespecial idx, 3)) (hc : xCi M.1.cls idx M2 n) (hst : st = As.reverse ++ .ref r :: rest) (hk : 1 ≤ r) (hn : As.length = n) (hA : (xpos (.ref r :: As)).length ≤ M2.2.2.1) (hw : (rest.map fun v => v.category).sum ≤ 8) (hf : M2.2.2.2.2.1 + 1 ≤ M.2.2.2.2.1 ∧ 8 + (M2.2.2.1 + 11) + M2.2.2.2.2.2 ≤ M.2.2.2.2.2) (hN : xN G ≤ xN G1) (hZ : xZ G ≤ xZ G1) (hN2 : xN G1 ≤ xN G') (hZ2 : xZ G1 ≤ xZ G') (kk : ∀ (v : Option Value) (t : xS), Q1 v t → Ev xs L M (pc + 3) lv (v.toList ++ rest) G1 t G' Q) : Ev xs L M pc lv st G σ G' Q := by
  intro l B p e R s mid args below meth c H locs cells slots ls QQ hC hR hW hS hL kr
  obtain ⟨hcd, hcn, hlk, hin, hnm, hrt⟩ := hc
  subst hst
  have hstack : List.map (xv B) (As.reverse ++ .ref r :: rest) = (As.map (xv B)).reverse ++ .ref (B.1 + (r - 1)) :: rest.map (xv B) := by rw [List.map_append, List.map_reverse, List.map_cons, xv_ref B hk]
  have hroom : 2 * (F0 mid pc ls (List.map (xv B) (As.reverse ++ .ref r :: rest))).monitorRoom + ((rest.map (xv B)).map fun v => v.category).sum ≤ 8 := by
    refine lv_room ?_
    rw [List.map_map]
    have e1 : (fun v : Value => v.category) ∘ xv B = fun v => v.category := funext fun v => xv_cat B v
    rw [e1]
    exact hw
  have hcel : cells + (xN G1 - xN G) ≤ R.cells ∧ slots + (xZ G1 - xZ G) ≤ R.slots := ⟨by have := hR.2.2.1; omega, by have := hR.2.2.2.1; omega⟩
  refine xe_after (va_runI (As := As.map (xv B)) (b := B.1 + (r - 1)) (Ts := GT) (own := M.1.cls) (nL := M.2.2.1) ⟨hC.1, hC.2.1, hC.2.2.1, hC.2.2.2.1, hC.2.2.2.2.1⟩ (xe_met l B hE hcd hA hN hZ) (cwI n hC.2.2.2.2.1 (xgood hcd) (show xWs M2 = Cond.code M2.1 M2.2.1 M2.2.2.1 none :: GT by show Cond.code M2.1 M2.2.1 M2.2.2.1 M2.2.2.2.1 :: GT = _; rw [hrt]) rfl rfl (hC.2.2.2.2.1 _ hcd.2.1) (hC.2.2.2.2.1 _ hlk) (hC.2.2.2.2.1 _ hin) hnm ⟨hcd.2.2.2.1, hcd.2.2.2.2, hcn⟩ ⟨Nat.le_trans hf.1 hR.1, Nat.le_trans hf.2 hR.2.1⟩) ⟨xblind, fun U hU hWm => ?_⟩ rfl (by rw [List.length_map]; exact hn) hL.1 hstack hroom hd hcel) hC hR hW hS hL hN hZ hN2 hZ2 kr kk
  exact ⟨by rw [List.map_cons, xv_ref B hk], hC.2.2.2.2.2.2.go (U := U) (locs := locs) (by rw [hU]; exact hS) hWm.alike, by rw [hU]; exact hW⟩
theorem xe_objInit {idx r : Nat} (hd : decode M.2.1 pc = .ok (.invokespecial idx, 3)) (hl : Cond.methodLink M.1.cls idx Lib.objectInit ∈ GT) (hi : Cond.instanceMethod Lib.objectInit ∈ GT) (hcd : Cond.code Lib.objectInit ⟨#[0xb1]⟩ 1 none ∈ GT) (hr : 1 ≤ r) (hw : (st.map fun v => v.category).sum + 12 ≤ M.2.2.2.2.2) (hf : 1 ≤ M.2.2.2.2.1) (kk : Ev xs L M (pc + 3) lv st G σ G' Q) : Ev xs L M pc lv (.ref r :: st) G σ G' Q := by
  intro l B p e R s mid args below meth c H locs cells slots ls QQ hC hR hW hS hL kr
  rw [List.map_cons, xv_ref B hr]
  refine W.objInit hC.1 hC.2.1 hC.2.2.2.1 (hC.2.2.2.2.1 _ hl) (hC.2.2.2.2.1 _ hi) (hC.2.2.2.2.1 _ hcd) rfl (hL.1.trans hC.2.2.1.symm) rfl hd (Nat.le_trans hf hR.1) ?_ (kk l B p e R s mid args below meth c H locs cells slots ls QQ hC hR hW hS hL kr)
  have e1 : (fun v : Value => v.category) ∘ xv B = fun v => v.category := funext fun v => xv_cat B v
  show 2 * 0 + _ + 12 ≤ _
  rw [List.map_map, e1]
  have := hR.2.1
  omega
theorem xe_copy {idx a0 a : Nat} {sp dp n : Int32} (hd : decode M.2.1 pc = .ok (.invokestatic idx, 3)) (hl : Cond.methodLink M.1.cls idx arraycopyName ∈ GT) (hna : Cond.native arraycopyName ∈ GT) (hsa : Cond.static arraycopyName ∈ GT) (hini : Cond.initialized "java/lang/System" ∈ GT) (k0 : xk G a0 = 11) (k1 : xk G a = 11) (h1 : ¬ sp < 0) (h2 : ¬ dp < 0) (h3 : ¬ n < 0) (h4 : sp.toNatClampNeg + n.toNatClampNeg ≤ xn G a0) (h5 : dp.toNatClampNeg + n.toNatClampNeg ≤ xn G a) (hw : (st.map fun v => v.category).sum + 18 ≤ M.2.2.2.2.2) (hf : 1 ≤ M.2.2.2.2.1) (kk : Ev xs L M (pc + 3) lv st G (fun b => if b = a then va_cpy (σ.1 a0) (σ.1 a) sp.toNatClampNeg dp.toNatClampNeg n.toNatClampNeg else σ.1 b, σ.2) G' Q) : Ev xs L M pc lv (.int n :: .int dp :: .ref a :: .int sp :: .ref a0 :: st) G σ G' Q := by
  intro l B p e R s mid args below meth c H locs cells slots ls QQ hC hR hW hS hL kr
  obtain ⟨r1, r2⟩ := hW.2.2 a (by rw [k1]; omega)
  obtain ⟨q1, q2⟩ := hW.2.2 a0 (by rw [k0]; omega)
  rw [List.map_cons, List.map_cons, List.map_cons, List.map_cons, List.map_cons, xv_ref B r1, xv_ref B q1]
  refine va_copyi hC.1 hC.2.1 (hC.2.2.1.trans hL.1.symm) hC.2.2.2.1 (hC.2.2.2.2.1 _ hl) (hC.2.2.2.2.1 _ hna) (hC.2.2.2.2.1 _ hsa) (hC.2.2.2.2.1 _ hini) hC.2.2.2.2.2.2.2.1 hW.2.1 (xw_D B G σ) (xS_self hS) (a0 - 1) (a - 1) 0 0 (by rw [xw_get q1 q2, xce_i k0]) (by rw [xw_get r1 r2, xce_i k1]) rfl rfl rfl h1 h2 h3 h4 h5 (fun _ _ => rfl) (Nat.le_trans hf hR.1) ?_ hd (fun H1 locs1 hP1 hD1 hS1 => ?_)
  · have e1 : (fun v : Value => v.category) ∘ xv B = fun v => v.category := funext fun v => xv_cat B v
    rw [List.map_map, e1, show nativeFrameWords "java/lang/System" "arraycopy" 5 + 11 = 18 by decide]
    exact Nat.le_trans hw hR.2.1
  · rw [show (xw B G σ).set (a - 1) (B.1 + (a - 1), .inl (xcI B, xn G a, .inl (va_cpy (σ.1 a0) (σ.1 a) sp.toNatClampNeg dp.toNatClampNeg n.toNatClampNeg))) = xw B G (fun b => if b = a then va_cpy (σ.1 a0) (σ.1 a) sp.toNatClampNeg dp.toNatClampNeg n.toNatClampNeg else σ.1 b, σ.2) by
      rw [← xw_set (G' := G) (σ' := (fun b => if b = a then va_cpy (σ.1 a0) (σ.1 a) sp.toNatClampNeg dp.toNatClampNeg n.toNatClampNeg else σ.1 b, σ.2)) r1 r2 rfl (fun j hj => xce_cong rfl rfl (if_neg hj) rfl (fun _ => rfl)), xce_i k1]
      simp only [if_pos]] at hP1
    refine xW_le (fun hle => ?_)
    have hsz := hW.1
    have hlo := hS1.1
    have h7 := hR.2.2.2.2.2.2
    exact kk l B p e R s mid args below meth c H1 locs1 cells slots ls QQ hC hR ⟨by omega, hP1, hW.2.2⟩ (xS_trans hS hS1) hL kr
end XK
end
