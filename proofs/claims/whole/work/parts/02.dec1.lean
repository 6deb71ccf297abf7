theorem dX0_init_0 : decode cX0_init 0 = .ok (.aload_n 0, 1) := by decide +kernel
theorem dX0_init_1 : decode cX0_init 1 = .ok (.invokespecial 3, 3) := by decide +kernel
theorem dX0_init_4 : decode cX0_init 4 = .ok (.aload_n 0, 1) := by decide +kernel
theorem dX0_init_5 : decode cX0_init 5 = .ok (.iconst 4, 1) := by decide +kernel
theorem dX0_init_6 : decode cX0_init 6 = .ok (.newarray .int, 2) := by decide +kernel
theorem dX0_init_8 : decode cX0_init 8 = .ok (.putfield 9, 3) := by decide +kernel
theorem dX0_init_11 : decode cX0_init 11 = .ok (.aload_n 0, 1) := by decide +kernel
theorem dX0_init_12 : decode cX0_init 12 = .ok (.iconst 4, 1) := by decide +kernel
theorem dX0_init_13 : decode cX0_init 13 = .ok (.newarray .int, 2) := by decide +kernel
theorem dX0_init_15 : decode cX0_init 15 = .ok (.putfield 15, 3) := by decide +kernel
theorem dX0_init_18 : decode cX0_init 18 = .ok (.aload_n 0, 1) := by decide +kernel
theorem dX0_init_19 : decode cX0_init 19 = .ok (.iconst 4, 1) := by decide +kernel
theorem dX0_init_20 : decode cX0_init 20 = .ok (.newarray .int, 2) := by decide +kernel
theorem dX0_init_22 : decode cX0_init 22 = .ok (.putfield 18, 3) := by decide +kernel
theorem dX0_init_25 : decode cX0_init 25 = .ok (.aload_n 0, 1) := by decide +kernel
theorem dX0_init_26 : decode cX0_init 26 = .ok (.bipush 48, 2) := by decide +kernel
theorem dX0_init_28 : decode cX0_init 28 = .ok (.newarray .int, 2) := by decide +kernel
theorem dX0_init_30 : decode cX0_init 30 = .ok (.putfield 21, 3) := by decide +kernel
theorem dX0_init_33 : decode cX0_init 33 = .ok (.aload_n 0, 1) := by decide +kernel
theorem dX0_init_34 : decode cX0_init 34 = .ok (.iconst 0, 1) := by decide +kernel
theorem dX0_init_35 : decode cX0_init 35 = .ok (.putfield 24, 3) := by decide +kernel
theorem dX0_init_38 : decode cX0_init 38 = .ok (.aload_n 0, 1) := by decide +kernel
theorem dX0_init_39 : decode cX0_init 39 = .ok (.iconst 0, 1) := by decide +kernel
theorem dX0_init_40 : decode cX0_init 40 = .ok (.putfield 28, 3) := by decide +kernel
theorem dX0_init_43 : decode cX0_init 43 = .ok (.aload_n 0, 1) := by decide +kernel
theorem dX0_init_44 : decode cX0_init 44 = .ok (.iconst 0, 1) := by decide +kernel
theorem dX0_init_45 : decode cX0_init 45 = .ok (.putfield 31, 3) := by decide +kernel
theorem dX0_init_48 : decode cX0_init 48 = .ok (.return_, 1) := by decide +kernel
theorem dX0_clear_0 : decode cX0_clear 0 = .ok (.aload_n 0, 1) := by decide +kernel
theorem dX0_clear_1 : decode cX0_clear 1 = .ok (.iconst 0, 1) := by decide +kernel
theorem dX0_clear_2 : decode cX0_clear 2 = .ok (.putfield 24, 3) := by decide +kernel
theorem dX0_clear_5 : decode cX0_clear 5 = .ok (.aload_n 0, 1) := by decide +kernel
theorem dX0_clear_6 : decode cX0_clear 6 = .ok (.iconst 0, 1) := by decide +kernel
theorem dX0_clear_7 : decode cX0_clear 7 = .ok (.putfield 28, 3) := by decide +kernel
theorem dX0_clear_10 : decode cX0_clear 10 = .ok (.aload_n 0, 1) := by decide +kernel
theorem dX0_clear_11 : decode cX0_clear 11 = .ok (.iconst 0, 1) := by decide +kernel
theorem dX0_clear_12 : decode cX0_clear 12 = .ok (.putfield 31, 3) := by decide +kernel
theorem dX0_clear_15 : decode cX0_clear 15 = .ok (.return_, 1) := by decide +kernel
theorem dX0_becomeLike_0 : decode cX0_becomeLike 0 = .ok (.aload_n 0, 1) := by decide +kernel
theorem dX0_becomeLike_1 : decode cX0_becomeLike 1 = .ok (.aload_n 1, 1) := by decide +kernel
theorem dX0_becomeLike_2 : decode cX0_becomeLike 2 = .ok (.getfield 24, 3) := by decide +kernel
theorem dX0_becomeLike_5 : decode cX0_becomeLike 5 = .ok (.putfield 24, 3) := by decide +kernel
theorem dX0_becomeLike_8 : decode cX0_becomeLike 8 = .ok (.aload_n 0, 1) := by decide +kernel
theorem dX0_becomeLike_9 : decode cX0_becomeLike 9 = .ok (.aload_n 1, 1) := by decide +kernel
theorem dX0_becomeLike_10 : decode cX0_becomeLike 10 = .ok (.getfield 28, 3) := by decide +kernel
theorem dX0_becomeLike_13 : decode cX0_becomeLike 13 = .ok (.putfield 28, 3) := by decide +kernel
theorem dX0_becomeLike_16 : decode cX0_becomeLike 16 = .ok (.aload_n 0, 1) := by decide +kernel
theorem dX0_becomeLike_17 : decode cX0_becomeLike 17 = .ok (.aload_n 1, 1) := by decide +kernel
theorem dX0_becomeLike_18 : decode cX0_becomeLike 18 = .ok (.getfield 31, 3) := by decide +kernel
theorem dX0_becomeLike_21 : decode cX0_becomeLike 21 = .ok (.putfield 31, 3) := by decide +kernel
theorem dX0_becomeLike_24 : decode cX0_becomeLike 24 = .ok (.aload_n 1, 1) := by decide +kernel
theorem dX0_becomeLike_25 : decode cX0_becomeLike 25 = .ok (.getfield 9, 3) := by decide +kernel
theorem dX0_becomeLike_28 : decode cX0_becomeLike 28 = .ok (.iconst 0, 1) := by decide +kernel
theorem dX0_becomeLike_29 : decode cX0_becomeLike 29 = .ok (.aload_n 0, 1) := by decide +kernel
theorem dX0_becomeLike_30 : decode cX0_becomeLike 30 = .ok (.getfield 9, 3) := by decide +kernel
theorem dX0_becomeLike_33 : decode cX0_becomeLike 33 = .ok (.iconst 0, 1) := by decide +kernel
theorem dX0_becomeLike_34 : decode cX0_becomeLike 34 = .ok (.iconst 4, 1) := by decide +kernel
theorem dX0_becomeLike_35 : decode cX0_becomeLike 35 = .ok (.invokestatic 34, 3) := by decide +kernel
theorem dX0_becomeLike_38 : decode cX0_becomeLike 38 = .ok (.aload_n 1, 1) := by decide +kernel
theorem dX0_becomeLike_39 : decode cX0_becomeLike 39 = .ok (.getfield 15, 3) := by decide +kernel
theorem dX0_becomeLike_42 : decode cX0_becomeLike 42 = .ok (.iconst 0, 1) := by decide +kernel
theorem dX0_becomeLike_43 : decode cX0_becomeLike 43 = .ok (.aload_n 0, 1) := by decide +kernel
theorem dX0_becomeLike_44 : decode cX0_becomeLike 44 = .ok (.getfield 15, 3) := by decide +kernel
theorem dX0_becomeLike_47 : decode cX0_becomeLike 47 = .ok (.iconst 0, 1) := by decide +kernel
theorem dX0_becomeLike_48 : decode cX0_becomeLike 48 = .ok (.iconst 4, 1) := by decide +kernel
theorem dX0_becomeLike_49 : decode cX0_becomeLike 49 = .ok (.invokestatic 34, 3) := by decide +kernel
theorem dX0_becomeLike_52 : decode cX0_becomeLike 52 = .ok (.aload_n 1, 1) := by decide +kernel
theorem dX0_becomeLike_53 : decode cX0_becomeLike 53 = .ok (.getfield 18, 3) := by decide +kernel
theorem dX0_becomeLike_56 : decode cX0_becomeLike 56 = .ok (.iconst 0, 1) := by decide +kernel
theorem dX0_becomeLike_57 : decode cX0_becomeLike 57 = .ok (.aload_n 0, 1) := by decide +kernel
theorem dX0_becomeLike_58 : decode cX0_becomeLike 58 = .ok (.getfield 18, 3) := by decide +kernel
theorem dX0_becomeLike_61 : decode cX0_becomeLike 61 = .ok (.iconst 0, 1) := by decide +kernel
theorem dX0_becomeLike_62 : decode cX0_becomeLike 62 = .ok (.iconst 4, 1) := by decide +kernel
theorem dX0_becomeLike_63 : decode cX0_becomeLike 63 = .ok (.invokestatic 34, 3) := by decide +kernel
theorem dX0_becomeLike_66 : decode cX0_becomeLike 66 = .ok (.iconst 0, 1) := by decide +kernel
theorem dX0_becomeLike_67 : decode cX0_becomeLike 67 = .ok (.istore_n 2, 1) := by decide +kernel
theorem dX0_becomeLike_68 : decode cX0_becomeLike 68 = .ok (.iload_n 2, 1) := by decide +kernel
theorem dX0_becomeLike_69 : decode cX0_becomeLike 69 = .ok (.aload_n 0, 1) := by decide +kernel
theorem dX0_becomeLike_70 : decode cX0_becomeLike 70 = .ok (.getfield 28, 3) := by decide +kernel
theorem dX0_becomeLike_73 : decode cX0_becomeLike 73 = .ok (.if_icmp .ge 21, 3) := by decide +kernel
theorem dX0_becomeLike_76 : decode cX0_becomeLike 76 = .ok (.aload_n 0, 1) := by decide +kernel
theorem dX0_becomeLike_77 : decode cX0_becomeLike 77 = .ok (.getfield 21, 3) := by decide +kernel
theorem dX0_becomeLike_80 : decode cX0_becomeLike 80 = .ok (.iload_n 2, 1) := by decide +kernel
theorem dX0_becomeLike_81 : decode cX0_becomeLike 81 = .ok (.aload_n 1, 1) := by decide +kernel
theorem dX0_becomeLike_82 : decode cX0_becomeLike 82 = .ok (.getfield 21, 3) := by decide +kernel
theorem dX0_becomeLike_85 : decode cX0_becomeLike 85 = .ok (.iload_n 2, 1) := by decide +kernel
theorem dX0_becomeLike_86 : decode cX0_becomeLike 86 = .ok (.iaload, 1) := by decide +kernel
theorem dX0_becomeLike_87 : decode cX0_becomeLike 87 = .ok (.iastore, 1) := by decide +kernel
theorem dX0_becomeLike_88 : decode cX0_becomeLike 88 = .ok (.iinc 2 1, 3) := by decide +kernel
theorem dX0_becomeLike_91 : decode cX0_becomeLike 91 = .ok (.goto (-23), 3) := by decide +kernel
theorem dX0_becomeLike_94 : decode cX0_becomeLike 94 = .ok (.return_, 1) := by decide +kernel
theorem dX0_tie_0 : decode cX0_tie 0 = .ok (.aload_n 0, 1) := by decide +kernel
theorem dX0_tie_1 : decode cX0_tie 1 = .ok (.getfield 24, 3) := by decide +kernel
theorem dX0_tie_4 : decode cX0_tie 4 = .ok (.iconst 4, 1) := by decide +kernel
theorem dX0_tie_5 : decode cX0_tie 5 = .ok (.if_icmp .lt 5, 3) := by decide +kernel
theorem dX0_tie_8 : decode cX0_tie 8 = .ok (.iconst 0, 1) := by decide +kernel
theorem dX0_tie_9 : decode cX0_tie 9 = .ok (.ireturn, 1) := by decide +kernel
theorem dX0_tie_10 : decode cX0_tie 10 = .ok (.aload_n 0, 1) := by decide +kernel
theorem dX0_tie_11 : decode cX0_tie 11 = .ok (.getfield 9, 3) := by decide +kernel
theorem dX0_tie_14 : decode cX0_tie 14 = .ok (.aload_n 0, 1) := by decide +kernel
theorem dX0_tie_15 : decode cX0_tie 15 = .ok (.getfield 24, 3) := by decide +kernel
theorem dX0_tie_18 : decode cX0_tie 18 = .ok (.iload_n 1, 1) := by decide +kernel
theorem dX0_tie_19 : decode cX0_tie 19 = .ok (.iastore, 1) := by decide +kernel
theorem dX0_tie_20 : decode cX0_tie 20 = .ok (.aload_n 0, 1) := by decide +kernel
theorem dX0_tie_21 : decode cX0_tie 21 = .ok (.getfield 15, 3) := by decide +kernel
theorem dX0_tie_24 : decode cX0_tie 24 = .ok (.aload_n 0, 1) := by decide +kernel
theorem dX0_tie_25 : decode cX0_tie 25 = .ok (.getfield 24, 3) := by decide +kernel
theorem dX0_tie_28 : decode cX0_tie 28 = .ok (.iload_n 2, 1) := by decide +kernel
theorem dX0_tie_29 : decode cX0_tie 29 = .ok (.iastore, 1) := by decide +kernel
theorem dX0_tie_30 : decode cX0_tie 30 = .ok (.aload_n 0, 1) := by decide +kernel
theorem dX0_tie_31 : decode cX0_tie 31 = .ok (.getfield 18, 3) := by decide +kernel
theorem dX0_tie_34 : decode cX0_tie 34 = .ok (.aload_n 0, 1) := by decide +kernel
theorem dX0_tie_35 : decode cX0_tie 35 = .ok (.getfield 24, 3) := by decide +kernel
theorem dX0_tie_38 : decode cX0_tie 38 = .ok (.iconst 0, 1) := by decide +kernel
theorem dX0_tie_39 : decode cX0_tie 39 = .ok (.iastore, 1) := by decide +kernel
theorem dX0_tie_40 : decode cX0_tie 40 = .ok (.aload_n 0, 1) := by decide +kernel
theorem dX0_tie_41 : decode cX0_tie 41 = .ok (.dup, 1) := by decide +kernel
theorem dX0_tie_42 : decode cX0_tie 42 = .ok (.getfield 24, 3) := by decide +kernel
theorem dX0_tie_45 : decode cX0_tie 45 = .ok (.iconst 1, 1) := by decide +kernel
theorem dX0_tie_46 : decode cX0_tie 46 = .ok (.iadd, 1) := by decide +kernel
theorem dX0_tie_47 : decode cX0_tie 47 = .ok (.putfield 24, 3) := by decide +kernel
theorem dX0_tie_50 : decode cX0_tie 50 = .ok (.iconst 1, 1) := by decide +kernel
theorem dX0_tie_51 : decode cX0_tie 51 = .ok (.ireturn, 1) := by decide +kernel
theorem dX0_threads_0 : decode cX0_threads 0 = .ok (.aload_n 0, 1) := by decide +kernel
theorem dX0_threads_1 : decode cX0_threads 1 = .ok (.getfield 24, 3) := by decide +kernel
theorem dX0_threads_4 : decode cX0_threads 4 = .ok (.ireturn, 1) := by decide +kernel
theorem dX0_size_0 : decode cX0_size 0 = .ok (.aload_n 0, 1) := by decide +kernel
theorem dX0_size_1 : decode cX0_size 1 = .ok (.getfield 28, 3) := by decide +kernel
theorem dX0_size_4 : decode cX0_size 4 = .ok (.ireturn, 1) := by decide +kernel
theorem dX0_hasThread_0 : decode cX0_hasThread 0 = .ok (.iload_n 1, 1) := by decide +kernel
theorem dX0_hasThread_1 : decode cX0_hasThread 1 = .ok (.ifCond .lt 15, 3) := by decide +kernel
theorem dX0_hasThread_4 : decode cX0_hasThread 4 = .ok (.iload_n 1, 1) := by decide +kernel
theorem dX0_hasThread_5 : decode cX0_hasThread 5 = .ok (.aload_n 0, 1) := by decide +kernel
theorem dX0_hasThread_6 : decode cX0_hasThread 6 = .ok (.getfield 24, 3) := by decide +kernel
theorem dX0_hasThread_9 : decode cX0_hasThread 9 = .ok (.if_icmp .ge 7, 3) := by decide +kernel
theorem dX0_hasThread_12 : decode cX0_hasThread 12 = .ok (.iconst 1, 1) := by decide +kernel
theorem dX0_hasThread_13 : decode cX0_hasThread 13 = .ok (.goto 4, 3) := by decide +kernel
theorem dX0_hasThread_16 : decode cX0_hasThread 16 = .ok (.iconst 0, 1) := by decide +kernel
theorem dX0_hasThread_17 : decode cX0_hasThread 17 = .ok (.ireturn, 1) := by decide +kernel
theorem dX0_hasStretch_0 : decode cX0_hasStretch 0 = .ok (.iload_n 1, 1) := by decide +kernel
theorem dX0_hasStretch_1 : decode cX0_hasStretch 1 = .ok (.ifCond .lt 15, 3) := by decide +kernel
theorem dX0_hasStretch_4 : decode cX0_hasStretch 4 = .ok (.iload_n 1, 1) := by decide +kernel
theorem dX0_hasStretch_5 : decode cX0_hasStretch 5 = .ok (.aload_n 0, 1) := by decide +kernel
theorem dX0_hasStretch_6 : decode cX0_hasStretch 6 = .ok (.getfield 28, 3) := by decide +kernel
theorem dX0_hasStretch_9 : decode cX0_hasStretch 9 = .ok (.if_icmp .ge 7, 3) := by decide +kernel
theorem dX0_hasStretch_12 : decode cX0_hasStretch 12 = .ok (.iconst 1, 1) := by decide +kernel
theorem dX0_hasStretch_13 : decode cX0_hasStretch 13 = .ok (.goto 4, 3) := by decide +kernel
theorem dX0_hasStretch_16 : decode cX0_hasStretch 16 = .ok (.iconst 0, 1) := by decide +kernel
theorem dX0_hasStretch_17 : decode cX0_hasStretch 17 = .ok (.ireturn, 1) := by decide +kernel
theorem dX0_nailOf_0 : decode cX0_nailOf 0 = .ok (.aload_n 0, 1) := by decide +kernel
theorem dX0_nailOf_1 : decode cX0_nailOf 1 = .ok (.iload_n 1, 1) := by decide +kernel
theorem dX0_nailOf_2 : decode cX0_nailOf 2 = .ok (.invokevirtual 40, 3) := by decide +kernel
theorem dX0_nailOf_5 : decode cX0_nailOf 5 = .ok (.ifCond .eq 12, 3) := by decide +kernel
theorem dX0_nailOf_8 : decode cX0_nailOf 8 = .ok (.aload_n 0, 1) := by decide +kernel
theorem dX0_nailOf_9 : decode cX0_nailOf 9 = .ok (.getfield 15, 3) := by decide +kernel
theorem dX0_nailOf_12 : decode cX0_nailOf 12 = .ok (.iload_n 1, 1) := by decide +kernel
theorem dX0_nailOf_13 : decode cX0_nailOf 13 = .ok (.iaload, 1) := by decide +kernel
theorem dX0_nailOf_14 : decode cX0_nailOf 14 = .ok (.goto 4, 3) := by decide +kernel
theorem dX0_nailOf_17 : decode cX0_nailOf 17 = .ok (.iconst (-1), 1) := by decide +kernel
theorem dX0_nailOf_18 : decode cX0_nailOf 18 = .ok (.ireturn, 1) := by decide +kernel
theorem dX0_kindOf_0 : decode cX0_kindOf 0 = .ok (.aload_n 0, 1) := by decide +kernel
theorem dX0_kindOf_1 : decode cX0_kindOf 1 = .ok (.iload_n 1, 1) := by decide +kernel
theorem dX0_kindOf_2 : decode cX0_kindOf 2 = .ok (.invokevirtual 40, 3) := by decide +kernel
theorem dX0_kindOf_5 : decode cX0_kindOf 5 = .ok (.ifCond .eq 12, 3) := by decide +kernel
theorem dX0_kindOf_8 : decode cX0_kindOf 8 = .ok (.aload_n 0, 1) := by decide +kernel
theorem dX0_kindOf_9 : decode cX0_kindOf 9 = .ok (.getfield 9, 3) := by decide +kernel
theorem dX0_kindOf_12 : decode cX0_kindOf 12 = .ok (.iload_n 1, 1) := by decide +kernel
theorem dX0_kindOf_13 : decode cX0_kindOf 13 = .ok (.iaload, 1) := by decide +kernel
theorem dX0_kindOf_14 : decode cX0_kindOf 14 = .ok (.goto 4, 3) := by decide +kernel
theorem dX0_kindOf_17 : decode cX0_kindOf 17 = .ok (.iconst (-1), 1) := by decide +kernel
theorem dX0_kindOf_18 : decode cX0_kindOf 18 = .ok (.ireturn, 1) := by decide +kernel
theorem dX0_stretchesOf_0 : decode cX0_stretchesOf 0 = .ok (.aload_n 0, 1) := by decide +kernel
theorem dX0_stretchesOf_1 : decode cX0_stretchesOf 1 = .ok (.iload_n 1, 1) := by decide +kernel
theorem dX0_stretchesOf_2 : decode cX0_stretchesOf 2 = .ok (.invokevirtual 40, 3) := by decide +kernel
theorem dX0_stretchesOf_5 : decode cX0_stretchesOf 5 = .ok (.ifCond .eq 12, 3) := by decide +kernel
theorem dX0_stretchesOf_8 : decode cX0_stretchesOf 8 = .ok (.aload_n 0, 1) := by decide +kernel
theorem dX0_stretchesOf_9 : decode cX0_stretchesOf 9 = .ok (.getfield 18, 3) := by decide +kernel
theorem dX0_stretchesOf_12 : decode cX0_stretchesOf 12 = .ok (.iload_n 1, 1) := by decide +kernel
theorem dX0_stretchesOf_13 : decode cX0_stretchesOf 13 = .ok (.iaload, 1) := by decide +kernel
theorem dX0_stretchesOf_14 : decode cX0_stretchesOf 14 = .ok (.goto 4, 3) := by decide +kernel
theorem dX0_stretchesOf_17 : decode cX0_stretchesOf 17 = .ok (.iconst 0, 1) := by decide +kernel
theorem dX0_stretchesOf_18 : decode cX0_stretchesOf 18 = .ok (.ireturn, 1) := by decide +kernel
theorem dX0_threadAt_0 : decode cX0_threadAt 0 = .ok (.iload_n 1, 1) := by decide +kernel
theorem dX0_threadAt_1 : decode cX0_threadAt 1 = .ok (.ifCond .lt 23, 3) := by decide +kernel
theorem dX0_threadAt_4 : decode cX0_threadAt 4 = .ok (.iload_n 1, 1) := by decide +kernel
theorem dX0_threadAt_5 : decode cX0_threadAt 5 = .ok (.aload_n 0, 1) := by decide +kernel
theorem dX0_threadAt_6 : decode cX0_threadAt 6 = .ok (.getfield 28, 3) := by decide +kernel
theorem dX0_threadAt_9 : decode cX0_threadAt 9 = .ok (.if_icmp .ge 15, 3) := by decide +kernel
theorem dX0_threadAt_12 : decode cX0_threadAt 12 = .ok (.aload_n 0, 1) := by decide +kernel
theorem dX0_threadAt_13 : decode cX0_threadAt 13 = .ok (.getfield 21, 3) := by decide +kernel
theorem dX0_threadAt_16 : decode cX0_threadAt 16 = .ok (.iload_n 1, 1) := by decide +kernel
theorem dX0_threadAt_17 : decode cX0_threadAt 17 = .ok (.iaload, 1) := by decide +kernel
theorem dX0_threadAt_18 : decode cX0_threadAt 18 = .ok (.bipush 15, 2) := by decide +kernel
theorem dX0_threadAt_20 : decode cX0_threadAt 20 = .ok (.iand, 1) := by decide +kernel
theorem dX0_threadAt_21 : decode cX0_threadAt 21 = .ok (.goto 4, 3) := by decide +kernel
theorem dX0_threadAt_24 : decode cX0_threadAt 24 = .ok (.iconst (-1), 1) := by decide +kernel
theorem dX0_threadAt_25 : decode cX0_threadAt 25 = .ok (.ireturn, 1) := by decide +kernel
theorem dX0_fromAt_0 : decode cX0_fromAt 0 = .ok (.iload_n 1, 1) := by decide +kernel
theorem dX0_fromAt_1 : decode cX0_fromAt 1 = .ok (.ifCond .lt 25, 3) := by decide +kernel
theorem dX0_fromAt_4 : decode cX0_fromAt 4 = .ok (.iload_n 1, 1) := by decide +kernel
theorem dX0_fromAt_5 : decode cX0_fromAt 5 = .ok (.aload_n 0, 1) := by decide +kernel
theorem dX0_fromAt_6 : decode cX0_fromAt 6 = .ok (.getfield 28, 3) := by decide +kernel
theorem dX0_fromAt_9 : decode cX0_fromAt 9 = .ok (.if_icmp .ge 17, 3) := by decide +kernel
theorem dX0_fromAt_12 : decode cX0_fromAt 12 = .ok (.aload_n 0, 1) := by decide +kernel
theorem dX0_fromAt_13 : decode cX0_fromAt 13 = .ok (.getfield 21, 3) := by decide +kernel
theorem dX0_fromAt_16 : decode cX0_fromAt 16 = .ok (.iload_n 1, 1) := by decide +kernel
theorem dX0_fromAt_17 : decode cX0_fromAt 17 = .ok (.iaload, 1) := by decide +kernel
theorem dX0_fromAt_18 : decode cX0_fromAt 18 = .ok (.iconst 4, 1) := by decide +kernel
theorem dX0_fromAt_19 : decode cX0_fromAt 19 = .ok (.ishr, 1) := by decide +kernel
theorem dX0_fromAt_20 : decode cX0_fromAt 20 = .ok (.bipush 15, 2) := by decide +kernel
theorem dX0_fromAt_22 : decode cX0_fromAt 22 = .ok (.iand, 1) := by decide +kernel
theorem dX0_fromAt_23 : decode cX0_fromAt 23 = .ok (.goto 4, 3) := by decide +kernel
theorem dX0_fromAt_26 : decode cX0_fromAt 26 = .ok (.iconst (-1), 1) := by decide +kernel
theorem dX0_fromAt_27 : decode cX0_fromAt 27 = .ok (.ireturn, 1) := by decide +kernel
theorem dX0_toAt_0 : decode cX0_toAt 0 = .ok (.iload_n 1, 1) := by decide +kernel
theorem dX0_toAt_1 : decode cX0_toAt 1 = .ok (.ifCond .lt 26, 3) := by decide +kernel
theorem dX0_toAt_4 : decode cX0_toAt 4 = .ok (.iload_n 1, 1) := by decide +kernel
theorem dX0_toAt_5 : decode cX0_toAt 5 = .ok (.aload_n 0, 1) := by decide +kernel
theorem dX0_toAt_6 : decode cX0_toAt 6 = .ok (.getfield 28, 3) := by decide +kernel
theorem dX0_toAt_9 : decode cX0_toAt 9 = .ok (.if_icmp .ge 18, 3) := by decide +kernel
theorem dX0_toAt_12 : decode cX0_toAt 12 = .ok (.aload_n 0, 1) := by decide +kernel
theorem dX0_toAt_13 : decode cX0_toAt 13 = .ok (.getfield 21, 3) := by decide +kernel
theorem dX0_toAt_16 : decode cX0_toAt 16 = .ok (.iload_n 1, 1) := by decide +kernel
theorem dX0_toAt_17 : decode cX0_toAt 17 = .ok (.iaload, 1) := by decide +kernel
theorem dX0_toAt_18 : decode cX0_toAt 18 = .ok (.bipush 8, 2) := by decide +kernel
theorem dX0_toAt_20 : decode cX0_toAt 20 = .ok (.ishr, 1) := by decide +kernel
theorem dX0_toAt_21 : decode cX0_toAt 21 = .ok (.bipush 15, 2) := by decide +kernel
theorem dX0_toAt_23 : decode cX0_toAt 23 = .ok (.iand, 1) := by decide +kernel
theorem dX0_toAt_24 : decode cX0_toAt 24 = .ok (.goto 4, 3) := by decide +kernel
theorem dX0_toAt_27 : decode cX0_toAt 27 = .ok (.iconst (-1), 1) := by decide +kernel
theorem dX0_toAt_28 : decode cX0_toAt 28 = .ok (.ireturn, 1) := by decide +kernel
theorem dX0_placeAt_0 : decode cX0_placeAt 0 = .ok (.iload_n 1, 1) := by decide +kernel
theorem dX0_placeAt_1 : decode cX0_placeAt 1 = .ok (.ifCond .lt 26, 3) := by decide +kernel
theorem dX0_placeAt_4 : decode cX0_placeAt 4 = .ok (.iload_n 1, 1) := by decide +kernel
theorem dX0_placeAt_5 : decode cX0_placeAt 5 = .ok (.aload_n 0, 1) := by decide +kernel
theorem dX0_placeAt_6 : decode cX0_placeAt 6 = .ok (.getfield 28, 3) := by decide +kernel
theorem dX0_placeAt_9 : decode cX0_placeAt 9 = .ok (.if_icmp .ge 18, 3) := by decide +kernel
theorem dX0_placeAt_12 : decode cX0_placeAt 12 = .ok (.aload_n 0, 1) := by decide +kernel
theorem dX0_placeAt_13 : decode cX0_placeAt 13 = .ok (.getfield 21, 3) := by decide +kernel
theorem dX0_placeAt_16 : decode cX0_placeAt 16 = .ok (.iload_n 1, 1) := by decide +kernel
theorem dX0_placeAt_17 : decode cX0_placeAt 17 = .ok (.iaload, 1) := by decide +kernel
theorem dX0_placeAt_18 : decode cX0_placeAt 18 = .ok (.bipush 12, 2) := by decide +kernel
theorem dX0_placeAt_20 : decode cX0_placeAt 20 = .ok (.ishr, 1) := by decide +kernel
theorem dX0_placeAt_21 : decode cX0_placeAt 21 = .ok (.bipush 15, 2) := by decide +kernel
theorem dX0_placeAt_23 : decode cX0_placeAt 23 = .ok (.iand, 1) := by decide +kernel
theorem dX0_placeAt_24 : decode cX0_placeAt 24 = .ok (.goto 4, 3) := by decide +kernel
theorem dX0_placeAt_27 : decode cX0_placeAt 27 = .ok (.iconst (-1), 1) := by decide +kernel
theorem dX0_placeAt_28 : decode cX0_placeAt 28 = .ok (.ireturn, 1) := by decide +kernel
theorem dX0_packed_0 : decode cX0_packed 0 = .ok (.iload_n 0, 1) := by decide +kernel
theorem dX0_packed_1 : decode cX0_packed 1 = .ok (.iload_n 1, 1) := by decide +kernel
theorem dX0_packed_2 : decode cX0_packed 2 = .ok (.iconst 4, 1) := by decide +kernel
theorem dX0_packed_3 : decode cX0_packed 3 = .ok (.ishl, 1) := by decide +kernel
theorem dX0_packed_4 : decode cX0_packed 4 = .ok (.ior, 1) := by decide +kernel
theorem dX0_packed_5 : decode cX0_packed 5 = .ok (.iload_n 2, 1) := by decide +kernel
theorem dX0_packed_6 : decode cX0_packed 6 = .ok (.bipush 8, 2) := by decide +kernel
theorem dX0_packed_8 : decode cX0_packed 8 = .ok (.ishl, 1) := by decide +kernel
theorem dX0_packed_9 : decode cX0_packed 9 = .ok (.ior, 1) := by decide +kernel
theorem dX0_packed_10 : decode cX0_packed 10 = .ok (.iload_n 3, 1) := by decide +kernel
theorem dX0_packed_11 : decode cX0_packed 11 = .ok (.bipush 12, 2) := by decide +kernel
theorem dX0_packed_13 : decode cX0_packed 13 = .ok (.ishl, 1) := by decide +kernel
theorem dX0_packed_14 : decode cX0_packed 14 = .ok (.ior, 1) := by decide +kernel
theorem dX0_packed_15 : decode cX0_packed 15 = .ok (.ireturn, 1) := by decide +kernel
theorem dX0_lengthOf_0 : decode cX0_lengthOf 0 = .ok (.iconst 0, 1) := by decide +kernel
theorem dX0_lengthOf_1 : decode cX0_lengthOf 1 = .ok (.istore_n 2, 1) := by decide +kernel
theorem dX0_lengthOf_2 : decode cX0_lengthOf 2 = .ok (.iconst 0, 1) := by decide +kernel
theorem dX0_lengthOf_3 : decode cX0_lengthOf 3 = .ok (.istore_n 3, 1) := by decide +kernel
theorem dX0_lengthOf_4 : decode cX0_lengthOf 4 = .ok (.iload_n 3, 1) := by decide +kernel
theorem dX0_lengthOf_5 : decode cX0_lengthOf 5 = .ok (.aload_n 0, 1) := by decide +kernel
theorem dX0_lengthOf_6 : decode cX0_lengthOf 6 = .ok (.getfield 28, 3) := by decide +kernel
theorem dX0_lengthOf_9 : decode cX0_lengthOf 9 = .ok (.if_icmp .ge 34, 3) := by decide +kernel
theorem dX0_lengthOf_12 : decode cX0_lengthOf 12 = .ok (.aload_n 0, 1) := by decide +kernel
theorem dX0_lengthOf_13 : decode cX0_lengthOf 13 = .ok (.iload_n 3, 1) := by decide +kernel
theorem dX0_lengthOf_14 : decode cX0_lengthOf 14 = .ok (.invokevirtual 44, 3) := by decide +kernel
theorem dX0_lengthOf_17 : decode cX0_lengthOf 17 = .ok (.iload_n 1, 1) := by decide +kernel
theorem dX0_lengthOf_18 : decode cX0_lengthOf 18 = .ok (.if_icmp .ne 19, 3) := by decide +kernel
theorem dX0_lengthOf_21 : decode cX0_lengthOf 21 = .ok (.iload_n 2, 1) := by decide +kernel
theorem dX0_lengthOf_22 : decode cX0_lengthOf 22 = .ok (.aload_n 0, 1) := by decide +kernel
theorem dX0_lengthOf_23 : decode cX0_lengthOf 23 = .ok (.iload_n 3, 1) := by decide +kernel
theorem dX0_lengthOf_24 : decode cX0_lengthOf 24 = .ok (.invokevirtual 48, 3) := by decide +kernel
theorem dX0_lengthOf_27 : decode cX0_lengthOf 27 = .ok (.aload_n 0, 1) := by decide +kernel
theorem dX0_lengthOf_28 : decode cX0_lengthOf 28 = .ok (.iload_n 3, 1) := by decide +kernel
theorem dX0_lengthOf_29 : decode cX0_lengthOf 29 = .ok (.invokevirtual 51, 3) := by decide +kernel
theorem dX0_lengthOf_32 : decode cX0_lengthOf 32 = .ok (.invokestatic 54, 3) := by decide +kernel
theorem dX0_lengthOf_35 : decode cX0_lengthOf 35 = .ok (.iadd, 1) := by decide +kernel
theorem dX0_lengthOf_36 : decode cX0_lengthOf 36 = .ok (.istore_n 2, 1) := by decide +kernel
theorem dX0_lengthOf_37 : decode cX0_lengthOf 37 = .ok (.iinc 3 1, 3) := by decide +kernel
theorem dX0_lengthOf_40 : decode cX0_lengthOf 40 = .ok (.goto (-36), 3) := by decide +kernel
theorem dX0_lengthOf_43 : decode cX0_lengthOf 43 = .ok (.iload_n 2, 1) := by decide +kernel
theorem dX0_lengthOf_44 : decode cX0_lengthOf 44 = .ok (.ireturn, 1) := by decide +kernel
theorem dX0_lengthOfAll_0 : decode cX0_lengthOfAll 0 = .ok (.iconst 0, 1) := by decide +kernel
theorem dX0_lengthOfAll_1 : decode cX0_lengthOfAll 1 = .ok (.istore_n 1, 1) := by decide +kernel
theorem dX0_lengthOfAll_2 : decode cX0_lengthOfAll 2 = .ok (.iconst 0, 1) := by decide +kernel
theorem dX0_lengthOfAll_3 : decode cX0_lengthOfAll 3 = .ok (.istore_n 2, 1) := by decide +kernel
theorem dX0_lengthOfAll_4 : decode cX0_lengthOfAll 4 = .ok (.iload_n 2, 1) := by decide +kernel
theorem dX0_lengthOfAll_5 : decode cX0_lengthOfAll 5 = .ok (.aload_n 0, 1) := by decide +kernel
theorem dX0_lengthOfAll_6 : decode cX0_lengthOfAll 6 = .ok (.getfield 28, 3) := by decide +kernel
theorem dX0_lengthOfAll_9 : decode cX0_lengthOfAll 9 = .ok (.if_icmp .ge 25, 3) := by decide +kernel
theorem dX0_lengthOfAll_12 : decode cX0_lengthOfAll 12 = .ok (.iload_n 1, 1) := by decide +kernel
theorem dX0_lengthOfAll_13 : decode cX0_lengthOfAll 13 = .ok (.aload_n 0, 1) := by decide +kernel
theorem dX0_lengthOfAll_14 : decode cX0_lengthOfAll 14 = .ok (.iload_n 2, 1) := by decide +kernel
theorem dX0_lengthOfAll_15 : decode cX0_lengthOfAll 15 = .ok (.invokevirtual 48, 3) := by decide +kernel
theorem dX0_lengthOfAll_18 : decode cX0_lengthOfAll 18 = .ok (.aload_n 0, 1) := by decide +kernel
theorem dX0_lengthOfAll_19 : decode cX0_lengthOfAll 19 = .ok (.iload_n 2, 1) := by decide +kernel
theorem dX0_lengthOfAll_20 : decode cX0_lengthOfAll 20 = .ok (.invokevirtual 51, 3) := by decide +kernel
theorem dX0_lengthOfAll_23 : decode cX0_lengthOfAll 23 = .ok (.invokestatic 54, 3) := by decide +kernel
theorem dX0_lengthOfAll_26 : decode cX0_lengthOfAll 26 = .ok (.iadd, 1) := by decide +kernel
theorem dX0_lengthOfAll_27 : decode cX0_lengthOfAll 27 = .ok (.istore_n 1, 1) := by decide +kernel
theorem dX0_lengthOfAll_28 : decode cX0_lengthOfAll 28 = .ok (.iinc 2 1, 3) := by decide +kernel
theorem dX0_lengthOfAll_31 : decode cX0_lengthOfAll 31 = .ok (.goto (-27), 3) := by decide +kernel
theorem dX0_lengthOfAll_34 : decode cX0_lengthOfAll 34 = .ok (.iload_n 1, 1) := by decide +kernel
theorem dX0_lengthOfAll_35 : decode cX0_lengthOfAll 35 = .ok (.ireturn, 1) := by decide +kernel
theorem dX0_endNails_0 : decode cX0_endNails 0 = .ok (.iconst 0, 1) := by decide +kernel
theorem dX0_endNails_1 : decode cX0_endNails 1 = .ok (.istore_n 1, 1) := by decide +kernel
theorem dX0_endNails_2 : decode cX0_endNails 2 = .ok (.iconst 0, 1) := by decide +kernel
theorem dX0_endNails_3 : decode cX0_endNails 3 = .ok (.istore_n 2, 1) := by decide +kernel
theorem dX0_endNails_4 : decode cX0_endNails 4 = .ok (.iload_n 2, 1) := by decide +kernel
theorem dX0_endNails_5 : decode cX0_endNails 5 = .ok (.aload_n 0, 1) := by decide +kernel
theorem dX0_endNails_6 : decode cX0_endNails 6 = .ok (.getfield 28, 3) := by decide +kernel
theorem dX0_endNails_9 : decode cX0_endNails 9 = .ok (.if_icmp .ge 27, 3) := by decide +kernel
theorem dX0_endNails_12 : decode cX0_endNails 12 = .ok (.iload_n 1, 1) := by decide +kernel
theorem dX0_endNails_13 : decode cX0_endNails 13 = .ok (.iconst 1, 1) := by decide +kernel
theorem dX0_endNails_14 : decode cX0_endNails 14 = .ok (.aload_n 0, 1) := by decide +kernel
theorem dX0_endNails_15 : decode cX0_endNails 15 = .ok (.iload_n 2, 1) := by decide +kernel
theorem dX0_endNails_16 : decode cX0_endNails 16 = .ok (.invokevirtual 48, 3) := by decide +kernel
theorem dX0_endNails_19 : decode cX0_endNails 19 = .ok (.ishl, 1) := by decide +kernel
theorem dX0_endNails_20 : decode cX0_endNails 20 = .ok (.iconst 1, 1) := by decide +kernel
theorem dX0_endNails_21 : decode cX0_endNails 21 = .ok (.aload_n 0, 1) := by decide +kernel
theorem dX0_endNails_22 : decode cX0_endNails 22 = .ok (.iload_n 2, 1) := by decide +kernel
theorem dX0_endNails_23 : decode cX0_endNails 23 = .ok (.invokevirtual 51, 3) := by decide +kernel
theorem dX0_endNails_26 : decode cX0_endNails 26 = .ok (.ishl, 1) := by decide +kernel
theorem dX0_endNails_27 : decode cX0_endNails 27 = .ok (.ior, 1) := by decide +kernel
theorem dX0_endNails_28 : decode cX0_endNails 28 = .ok (.ior, 1) := by decide +kernel
theorem dX0_endNails_29 : decode cX0_endNails 29 = .ok (.istore_n 1, 1) := by decide +kernel
theorem dX0_endNails_30 : decode cX0_endNails 30 = .ok (.iinc 2 1, 3) := by decide +kernel
theorem dX0_endNails_33 : decode cX0_endNails 33 = .ok (.goto (-29), 3) := by decide +kernel
theorem dX0_endNails_36 : decode cX0_endNails 36 = .ok (.iload_n 1, 1) := by decide +kernel
theorem dX0_endNails_37 : decode cX0_endNails 37 = .ok (.ireturn, 1) := by decide +kernel
theorem dX0_mayWind_0 : decode cX0_mayWind 0 = .ok (.aload_n 0, 1) := by decide +kernel
theorem dX0_mayWind_1 : decode cX0_mayWind 1 = .ok (.iload_n 1, 1) := by decide +kernel
theorem dX0_mayWind_2 : decode cX0_mayWind 2 = .ok (.invokevirtual 40, 3) := by decide +kernel
theorem dX0_mayWind_5 : decode cX0_mayWind 5 = .ok (.ifCond .eq 13, 3) := by decide +kernel
theorem dX0_mayWind_8 : decode cX0_mayWind 8 = .ok (.iload_n 2, 1) := by decide +kernel
theorem dX0_mayWind_9 : decode cX0_mayWind 9 = .ok (.iconst 0, 1) := by decide +kernel
theorem dX0_mayWind_10 : decode cX0_mayWind 10 = .ok (.bipush 11, 2) := by decide +kernel
theorem dX0_mayWind_12 : decode cX0_mayWind 12 = .ok (.invokestatic 60, 3) := by decide +kernel
theorem dX0_mayWind_15 : decode cX0_mayWind 15 = .ok (.ifCond .eq 5, 3) := by decide +kernel
theorem dX0_mayWind_18 : decode cX0_mayWind 18 = .ok (.iconst 0, 1) := by decide +kernel
theorem dX0_mayWind_19 : decode cX0_mayWind 19 = .ok (.ireturn, 1) := by decide +kernel
theorem dX0_mayWind_20 : decode cX0_mayWind 20 = .ok (.aload_n 0, 1) := by decide +kernel
theorem dX0_mayWind_21 : decode cX0_mayWind 21 = .ok (.getfield 15, 3) := by decide +kernel
theorem dX0_mayWind_24 : decode cX0_mayWind 24 = .ok (.iload_n 1, 1) := by decide +kernel
theorem dX0_mayWind_25 : decode cX0_mayWind 25 = .ok (.iaload, 1) := by decide +kernel
theorem dX0_mayWind_26 : decode cX0_mayWind 26 = .ok (.istore_n 3, 1) := by decide +kernel
theorem dX0_mayWind_27 : decode cX0_mayWind 27 = .ok (.iload_n 2, 1) := by decide +kernel
theorem dX0_mayWind_28 : decode cX0_mayWind 28 = .ok (.iload_n 3, 1) := by decide +kernel
theorem dX0_mayWind_29 : decode cX0_mayWind 29 = .ok (.if_icmp .eq 14, 3) := by decide +kernel
theorem dX0_mayWind_32 : decode cX0_mayWind 32 = .ok (.aload_n 0, 1) := by decide +kernel
theorem dX0_mayWind_33 : decode cX0_mayWind 33 = .ok (.getfield 18, 3) := by decide +kernel
theorem dX0_mayWind_36 : decode cX0_mayWind 36 = .ok (.iload_n 1, 1) := by decide +kernel
theorem dX0_mayWind_37 : decode cX0_mayWind 37 = .ok (.iaload, 1) := by decide +kernel
theorem dX0_mayWind_38 : decode cX0_mayWind 38 = .ok (.bipush 12, 2) := by decide +kernel
theorem dX0_mayWind_40 : decode cX0_mayWind 40 = .ok (.if_icmp .lt 5, 3) := by decide +kernel
theorem dX0_mayWind_43 : decode cX0_mayWind 43 = .ok (.iconst 0, 1) := by decide +kernel
theorem dX0_mayWind_44 : decode cX0_mayWind 44 = .ok (.ireturn, 1) := by decide +kernel
theorem dX0_mayWind_45 : decode cX0_mayWind 45 = .ok (.aload_n 0, 1) := by decide +kernel
theorem dX0_mayWind_46 : decode cX0_mayWind 46 = .ok (.getfield 9, 3) := by decide +kernel
theorem dX0_mayWind_49 : decode cX0_mayWind 49 = .ok (.iload_n 1, 1) := by decide +kernel
theorem dX0_mayWind_50 : decode cX0_mayWind 50 = .ok (.iaload, 1) := by decide +kernel
theorem dX0_mayWind_51 : decode cX0_mayWind 51 = .ok (.tableswitch 59 0 2 #[25, 27, 42], 25) := by decide +kernel
theorem dX0_mayWind_76 : decode cX0_mayWind 76 = .ok (.iconst 1, 1) := by decide +kernel
theorem dX0_mayWind_77 : decode cX0_mayWind 77 = .ok (.ireturn, 1) := by decide +kernel
theorem dX0_mayWind_78 : decode cX0_mayWind 78 = .ok (.iload_n 3, 1) := by decide +kernel
theorem dX0_mayWind_79 : decode cX0_mayWind 79 = .ok (.iload_n 2, 1) := by decide +kernel
theorem dX0_mayWind_80 : decode cX0_mayWind 80 = .ok (.invokestatic 64, 3) := by decide +kernel
theorem dX0_mayWind_83 : decode cX0_mayWind 83 = .ok (.iconst 1, 1) := by decide +kernel
theorem dX0_mayWind_84 : decode cX0_mayWind 84 = .ok (.if_icmp .eq 7, 3) := by decide +kernel
theorem dX0_mayWind_87 : decode cX0_mayWind 87 = .ok (.iconst 1, 1) := by decide +kernel
theorem dX0_mayWind_88 : decode cX0_mayWind 88 = .ok (.goto 4, 3) := by decide +kernel
theorem dX0_mayWind_91 : decode cX0_mayWind 91 = .ok (.iconst 0, 1) := by decide +kernel
theorem dX0_mayWind_92 : decode cX0_mayWind 92 = .ok (.ireturn, 1) := by decide +kernel
theorem dX0_mayWind_93 : decode cX0_mayWind 93 = .ok (.aload_n 0, 1) := by decide +kernel
theorem dX0_mayWind_94 : decode cX0_mayWind 94 = .ok (.iconst 0, 1) := by decide +kernel
theorem dX0_mayWind_95 : decode cX0_mayWind 95 = .ok (.iload_n 1, 1) := by decide +kernel
theorem dX0_mayWind_96 : decode cX0_mayWind 96 = .ok (.iload_n 3, 1) := by decide +kernel
theorem dX0_mayWind_97 : decode cX0_mayWind 97 = .ok (.iload_n 2, 1) := by decide +kernel
theorem dX0_mayWind_98 : decode cX0_mayWind 98 = .ok (.invokevirtual 67, 3) := by decide +kernel
theorem dX0_mayWind_101 : decode cX0_mayWind 101 = .ok (.ifCond .ne 7, 3) := by decide +kernel
theorem dX0_mayWind_104 : decode cX0_mayWind 104 = .ok (.iconst 1, 1) := by decide +kernel
theorem dX0_mayWind_105 : decode cX0_mayWind 105 = .ok (.goto 4, 3) := by decide +kernel
theorem dX0_mayWind_108 : decode cX0_mayWind 108 = .ok (.iconst 0, 1) := by decide +kernel
theorem dX0_mayWind_109 : decode cX0_mayWind 109 = .ok (.ireturn, 1) := by decide +kernel
theorem dX0_mayWind_110 : decode cX0_mayWind 110 = .ok (.iload_n 3, 1) := by decide +kernel
theorem dX0_mayWind_111 : decode cX0_mayWind 111 = .ok (.iload_n 2, 1) := by decide +kernel
theorem dX0_mayWind_112 : decode cX0_mayWind 112 = .ok (.invokestatic 64, 3) := by decide +kernel
theorem dX0_mayWind_115 : decode cX0_mayWind 115 = .ok (.iconst 1, 1) := by decide +kernel
theorem dX0_mayWind_116 : decode cX0_mayWind 116 = .ok (.if_icmp .eq 23, 3) := by decide +kernel
theorem dX0_mayWind_119 : decode cX0_mayWind 119 = .ok (.aload_n 0, 1) := by decide +kernel
theorem dX0_mayWind_120 : decode cX0_mayWind 120 = .ok (.iload_n 1, 1) := by decide +kernel
theorem dX0_mayWind_121 : decode cX0_mayWind 121 = .ok (.invokevirtual 71, 3) := by decide +kernel
theorem dX0_mayWind_124 : decode cX0_mayWind 124 = .ok (.iload_n 3, 1) := by decide +kernel
theorem dX0_mayWind_125 : decode cX0_mayWind 125 = .ok (.iload_n 2, 1) := by decide +kernel
theorem dX0_mayWind_126 : decode cX0_mayWind 126 = .ok (.invokestatic 54, 3) := by decide +kernel
theorem dX0_mayWind_129 : decode cX0_mayWind 129 = .ok (.iadd, 1) := by decide +kernel
theorem dX0_mayWind_130 : decode cX0_mayWind 130 = .ok (.bipush 80, 2) := by decide +kernel
theorem dX0_mayWind_132 : decode cX0_mayWind 132 = .ok (.if_icmp .gt 7, 3) := by decide +kernel
theorem dX0_mayWind_135 : decode cX0_mayWind 135 = .ok (.iconst 1, 1) := by decide +kernel
theorem dX0_mayWind_136 : decode cX0_mayWind 136 = .ok (.goto 4, 3) := by decide +kernel
theorem dX0_mayWind_139 : decode cX0_mayWind 139 = .ok (.iconst 0, 1) := by decide +kernel
theorem dX0_mayWind_140 : decode cX0_mayWind 140 = .ok (.ireturn, 1) := by decide +kernel
theorem dX0_openNails_0 : decode cX0_openNails 0 = .ok (.iconst 0, 1) := by decide +kernel
theorem dX0_openNails_1 : decode cX0_openNails 1 = .ok (.istore_n 2, 1) := by decide +kernel
theorem dX0_openNails_2 : decode cX0_openNails 2 = .ok (.iconst 0, 1) := by decide +kernel
theorem dX0_openNails_3 : decode cX0_openNails 3 = .ok (.istore_n 3, 1) := by decide +kernel
theorem dX0_openNails_4 : decode cX0_openNails 4 = .ok (.iload_n 3, 1) := by decide +kernel
theorem dX0_openNails_5 : decode cX0_openNails 5 = .ok (.bipush 12, 2) := by decide +kernel
theorem dX0_openNails_7 : decode cX0_openNails 7 = .ok (.if_icmp .ge 24, 3) := by decide +kernel
theorem dX0_openNails_10 : decode cX0_openNails 10 = .ok (.aload_n 0, 1) := by decide +kernel
theorem dX0_openNails_11 : decode cX0_openNails 11 = .ok (.iload_n 1, 1) := by decide +kernel
theorem dX0_openNails_12 : decode cX0_openNails 12 = .ok (.iload_n 3, 1) := by decide +kernel
theorem dX0_openNails_13 : decode cX0_openNails 13 = .ok (.invokevirtual 74, 3) := by decide +kernel
theorem dX0_openNails_16 : decode cX0_openNails 16 = .ok (.ifCond .eq 9, 3) := by decide +kernel
theorem dX0_openNails_19 : decode cX0_openNails 19 = .ok (.iload_n 2, 1) := by decide +kernel
theorem dX0_openNails_20 : decode cX0_openNails 20 = .ok (.iconst 1, 1) := by decide +kernel
theorem dX0_openNails_21 : decode cX0_openNails 21 = .ok (.iload_n 3, 1) := by decide +kernel
theorem dX0_openNails_22 : decode cX0_openNails 22 = .ok (.ishl, 1) := by decide +kernel
theorem dX0_openNails_23 : decode cX0_openNails 23 = .ok (.ior, 1) := by decide +kernel
theorem dX0_openNails_24 : decode cX0_openNails 24 = .ok (.istore_n 2, 1) := by decide +kernel
theorem dX0_openNails_25 : decode cX0_openNails 25 = .ok (.iinc 3 1, 3) := by decide +kernel
theorem dX0_openNails_28 : decode cX0_openNails 28 = .ok (.goto (-24), 3) := by decide +kernel
theorem dX0_openNails_31 : decode cX0_openNails 31 = .ok (.iload_n 2, 1) := by decide +kernel
theorem dX0_openNails_32 : decode cX0_openNails 32 = .ok (.ireturn, 1) := by decide +kernel
theorem dX0_bestNail_0 : decode cX0_bestNail 0 = .ok (.iconst (-1), 1) := by decide +kernel
theorem dX0_bestNail_1 : decode cX0_bestNail 1 = .ok (.istore_n 2, 1) := by decide +kernel
theorem dX0_bestNail_2 : decode cX0_bestNail 2 = .ok (.iconst (-1), 1) := by decide +kernel
theorem dX0_bestNail_3 : decode cX0_bestNail 3 = .ok (.istore_n 3, 1) := by decide +kernel
theorem dX0_bestNail_4 : decode cX0_bestNail 4 = .ok (.iconst 0, 1) := by decide +kernel
theorem dX0_bestNail_5 : decode cX0_bestNail 5 = .ok (.istore 4, 2) := by decide +kernel
theorem dX0_bestNail_7 : decode cX0_bestNail 7 = .ok (.iload 4, 2) := by decide +kernel
theorem dX0_bestNail_9 : decode cX0_bestNail 9 = .ok (.bipush 12, 2) := by decide +kernel
theorem dX0_bestNail_11 : decode cX0_bestNail 11 = .ok (.if_icmp .ge 44, 3) := by decide +kernel
theorem dX0_bestNail_14 : decode cX0_bestNail 14 = .ok (.aload_n 0, 1) := by decide +kernel
theorem dX0_bestNail_15 : decode cX0_bestNail 15 = .ok (.iload_n 1, 1) := by decide +kernel
theorem dX0_bestNail_16 : decode cX0_bestNail 16 = .ok (.iload 4, 2) := by decide +kernel
theorem dX0_bestNail_18 : decode cX0_bestNail 18 = .ok (.invokevirtual 74, 3) := by decide +kernel
theorem dX0_bestNail_21 : decode cX0_bestNail 21 = .ok (.ifCond .eq 28, 3) := by decide +kernel
theorem dX0_bestNail_24 : decode cX0_bestNail 24 = .ok (.aload_n 0, 1) := by decide +kernel
theorem dX0_bestNail_25 : decode cX0_bestNail 25 = .ok (.aload_n 0, 1) := by decide +kernel
theorem dX0_bestNail_26 : decode cX0_bestNail 26 = .ok (.iload_n 1, 1) := by decide +kernel
theorem dX0_bestNail_27 : decode cX0_bestNail 27 = .ok (.invokevirtual 78, 3) := by decide +kernel
theorem dX0_bestNail_30 : decode cX0_bestNail 30 = .ok (.iload 4, 2) := by decide +kernel
theorem dX0_bestNail_32 : decode cX0_bestNail 32 = .ok (.invokevirtual 81, 3) := by decide +kernel
theorem dX0_bestNail_35 : decode cX0_bestNail 35 = .ok (.istore 5, 2) := by decide +kernel
theorem dX0_bestNail_37 : decode cX0_bestNail 37 = .ok (.iload 5, 2) := by decide +kernel
theorem dX0_bestNail_39 : decode cX0_bestNail 39 = .ok (.iload_n 3, 1) := by decide +kernel
theorem dX0_bestNail_40 : decode cX0_bestNail 40 = .ok (.if_icmp .le 9, 3) := by decide +kernel
theorem dX0_bestNail_43 : decode cX0_bestNail 43 = .ok (.iload 4, 2) := by decide +kernel
theorem dX0_bestNail_45 : decode cX0_bestNail 45 = .ok (.istore_n 2, 1) := by decide +kernel
theorem dX0_bestNail_46 : decode cX0_bestNail 46 = .ok (.iload 5, 2) := by decide +kernel
theorem dX0_bestNail_48 : decode cX0_bestNail 48 = .ok (.istore_n 3, 1) := by decide +kernel
theorem dX0_bestNail_49 : decode cX0_bestNail 49 = .ok (.iinc 4 1, 3) := by decide +kernel
theorem dX0_bestNail_52 : decode cX0_bestNail 52 = .ok (.goto (-45), 3) := by decide +kernel
theorem dX0_bestNail_55 : decode cX0_bestNail 55 = .ok (.iload_n 2, 1) := by decide +kernel
theorem dX0_bestNail_56 : decode cX0_bestNail 56 = .ok (.ireturn, 1) := by decide +kernel
theorem dX0_crossed_0 : decode cX0_crossed 0 = .ok (.iconst 0, 1) := by decide +kernel
theorem dX0_crossed_1 : decode cX0_crossed 1 = .ok (.istore 5, 2) := by decide +kernel
theorem dX0_crossed_3 : decode cX0_crossed 3 = .ok (.iload_n 1, 1) := by decide +kernel
theorem dX0_crossed_4 : decode cX0_crossed 4 = .ok (.ifCond .ge 7, 3) := by decide +kernel
theorem dX0_crossed_7 : decode cX0_crossed 7 = .ok (.iconst 0, 1) := by decide +kernel
theorem dX0_crossed_8 : decode cX0_crossed 8 = .ok (.goto 4, 3) := by decide +kernel
theorem dX0_crossed_11 : decode cX0_crossed 11 = .ok (.iload_n 1, 1) := by decide +kernel
theorem dX0_crossed_12 : decode cX0_crossed 12 = .ok (.istore 6, 2) := by decide +kernel
theorem dX0_crossed_14 : decode cX0_crossed 14 = .ok (.iload 6, 2) := by decide +kernel
theorem dX0_crossed_16 : decode cX0_crossed 16 = .ok (.aload_n 0, 1) := by decide +kernel
theorem dX0_crossed_17 : decode cX0_crossed 17 = .ok (.getfield 28, 3) := by decide +kernel
theorem dX0_crossed_20 : decode cX0_crossed 20 = .ok (.if_icmp .ge 48, 3) := by decide +kernel
theorem dX0_crossed_23 : decode cX0_crossed 23 = .ok (.iload_n 2, 1) := by decide +kernel
theorem dX0_crossed_24 : decode cX0_crossed 24 = .ok (.iconst (-1), 1) := by decide +kernel
theorem dX0_crossed_25 : decode cX0_crossed 25 = .ok (.if_icmp .eq 13, 3) := by decide +kernel
theorem dX0_crossed_28 : decode cX0_crossed 28 = .ok (.aload_n 0, 1) := by decide +kernel
theorem dX0_crossed_29 : decode cX0_crossed 29 = .ok (.iload 6, 2) := by decide +kernel
theorem dX0_crossed_31 : decode cX0_crossed 31 = .ok (.invokevirtual 44, 3) := by decide +kernel
theorem dX0_crossed_34 : decode cX0_crossed 34 = .ok (.iload_n 2, 1) := by decide +kernel
theorem dX0_crossed_35 : decode cX0_crossed 35 = .ok (.if_icmp .ne 27, 3) := by decide +kernel
theorem dX0_crossed_38 : decode cX0_crossed 38 = .ok (.aload_n 0, 1) := by decide +kernel
theorem dX0_crossed_39 : decode cX0_crossed 39 = .ok (.iload 6, 2) := by decide +kernel
theorem dX0_crossed_41 : decode cX0_crossed 41 = .ok (.invokevirtual 48, 3) := by decide +kernel
theorem dX0_crossed_44 : decode cX0_crossed 44 = .ok (.aload_n 0, 1) := by decide +kernel
theorem dX0_crossed_45 : decode cX0_crossed 45 = .ok (.iload 6, 2) := by decide +kernel
theorem dX0_crossed_47 : decode cX0_crossed 47 = .ok (.invokevirtual 51, 3) := by decide +kernel
theorem dX0_crossed_50 : decode cX0_crossed 50 = .ok (.iload_n 3, 1) := by decide +kernel
theorem dX0_crossed_51 : decode cX0_crossed 51 = .ok (.iload 4, 2) := by decide +kernel
theorem dX0_crossed_53 : decode cX0_crossed 53 = .ok (.invokestatic 84, 3) := by decide +kernel
theorem dX0_crossed_56 : decode cX0_crossed 56 = .ok (.ifCond .eq 6, 3) := by decide +kernel
theorem dX0_crossed_59 : decode cX0_crossed 59 = .ok (.iinc 5 1, 3) := by decide +kernel
theorem dX0_crossed_62 : decode cX0_crossed 62 = .ok (.iinc 6 1, 3) := by decide +kernel
theorem dX0_crossed_65 : decode cX0_crossed 65 = .ok (.goto (-51), 3) := by decide +kernel
theorem dX0_crossed_68 : decode cX0_crossed 68 = .ok (.iload 5, 2) := by decide +kernel
theorem dX0_crossed_70 : decode cX0_crossed 70 = .ok (.ireturn, 1) := by decide +kernel
theorem dX0_crossedBetween_0 : decode cX0_crossedBetween 0 = .ok (.aload_n 0, 1) := by decide +kernel
theorem dX0_crossedBetween_1 : decode cX0_crossedBetween 1 = .ok (.iconst 0, 1) := by decide +kernel
theorem dX0_crossedBetween_2 : decode cX0_crossedBetween 2 = .ok (.iconst (-1), 1) := by decide +kernel
theorem dX0_crossedBetween_3 : decode cX0_crossedBetween 3 = .ok (.iload_n 1, 1) := by decide +kernel
theorem dX0_crossedBetween_4 : decode cX0_crossedBetween 4 = .ok (.iload_n 2, 1) := by decide +kernel
theorem dX0_crossedBetween_5 : decode cX0_crossedBetween 5 = .ok (.invokevirtual 67, 3) := by decide +kernel
theorem dX0_crossedBetween_8 : decode cX0_crossedBetween 8 = .ok (.ireturn, 1) := by decide +kernel
theorem dX0_crossingFrom_0 : decode cX0_crossingFrom 0 = .ok (.aload_n 0, 1) := by decide +kernel
theorem dX0_crossingFrom_1 : decode cX0_crossingFrom 1 = .ok (.iload_n 1, 1) := by decide +kernel
theorem dX0_crossingFrom_2 : decode cX0_crossingFrom 2 = .ok (.iconst (-1), 1) := by decide +kernel
theorem dX0_crossingFrom_3 : decode cX0_crossingFrom 3 = .ok (.aload_n 0, 1) := by decide +kernel
theorem dX0_crossingFrom_4 : decode cX0_crossingFrom 4 = .ok (.iload_n 2, 1) := by decide +kernel
theorem dX0_crossingFrom_5 : decode cX0_crossingFrom 5 = .ok (.invokevirtual 48, 3) := by decide +kernel
theorem dX0_crossingFrom_8 : decode cX0_crossingFrom 8 = .ok (.aload_n 0, 1) := by decide +kernel
theorem dX0_crossingFrom_9 : decode cX0_crossingFrom 9 = .ok (.iload_n 2, 1) := by decide +kernel
theorem dX0_crossingFrom_10 : decode cX0_crossingFrom 10 = .ok (.invokevirtual 51, 3) := by decide +kernel
theorem dX0_crossingFrom_13 : decode cX0_crossingFrom 13 = .ok (.invokevirtual 67, 3) := by decide +kernel
theorem dX0_crossingFrom_16 : decode cX0_crossingFrom 16 = .ok (.ireturn, 1) := by decide +kernel
theorem dX0_aboveOf_0 : decode cX0_aboveOf 0 = .ok (.aload_n 0, 1) := by decide +kernel
theorem dX0_aboveOf_1 : decode cX0_aboveOf 1 = .ok (.iload_n 1, 1) := by decide +kernel
theorem dX0_aboveOf_2 : decode cX0_aboveOf 2 = .ok (.invokevirtual 88, 3) := by decide +kernel
theorem dX0_aboveOf_5 : decode cX0_aboveOf 5 = .ok (.ifCond .ne 5, 3) := by decide +kernel
theorem dX0_aboveOf_8 : decode cX0_aboveOf 8 = .ok (.iconst 0, 1) := by decide +kernel
theorem dX0_aboveOf_9 : decode cX0_aboveOf 9 = .ok (.ireturn, 1) := by decide +kernel
theorem dX0_aboveOf_10 : decode cX0_aboveOf 10 = .ok (.lconst 1, 1) := by decide +kernel
theorem dX0_aboveOf_11 : decode cX0_aboveOf 11 = .ok (.iload_n 1, 1) := by decide +kernel
theorem dX0_aboveOf_12 : decode cX0_aboveOf 12 = .ok (.lshl, 1) := by decide +kernel
theorem dX0_aboveOf_13 : decode cX0_aboveOf 13 = .ok (.lstore_n 2, 1) := by decide +kernel
theorem dX0_aboveOf_14 : decode cX0_aboveOf 14 = .ok (.iload_n 1, 1) := by decide +kernel
theorem dX0_aboveOf_15 : decode cX0_aboveOf 15 = .ok (.iconst 1, 1) := by decide +kernel
theorem dX0_aboveOf_16 : decode cX0_aboveOf 16 = .ok (.iadd, 1) := by decide +kernel
theorem dX0_aboveOf_17 : decode cX0_aboveOf 17 = .ok (.istore 4, 2) := by decide +kernel
theorem dX0_aboveOf_19 : decode cX0_aboveOf 19 = .ok (.iload 4, 2) := by decide +kernel
theorem dX0_aboveOf_21 : decode cX0_aboveOf 21 = .ok (.aload_n 0, 1) := by decide +kernel
theorem dX0_aboveOf_22 : decode cX0_aboveOf 22 = .ok (.getfield 28, 3) := by decide +kernel
theorem dX0_aboveOf_25 : decode cX0_aboveOf 25 = .ok (.if_icmp .ge 26, 3) := by decide +kernel
theorem dX0_aboveOf_28 : decode cX0_aboveOf 28 = .ok (.aload_n 0, 1) := by decide +kernel
theorem dX0_aboveOf_29 : decode cX0_aboveOf 29 = .ok (.lload_n 2, 1) := by decide +kernel
theorem dX0_aboveOf_30 : decode cX0_aboveOf 30 = .ok (.iload 4, 2) := by decide +kernel
theorem dX0_aboveOf_32 : decode cX0_aboveOf 32 = .ok (.invokevirtual 91, 3) := by decide +kernel
theorem dX0_aboveOf_35 : decode cX0_aboveOf 35 = .ok (.ifCond .eq 10, 3) := by decide +kernel
theorem dX0_aboveOf_38 : decode cX0_aboveOf 38 = .ok (.lload_n 2, 1) := by decide +kernel
theorem dX0_aboveOf_39 : decode cX0_aboveOf 39 = .ok (.lconst 1, 1) := by decide +kernel
theorem dX0_aboveOf_40 : decode cX0_aboveOf 40 = .ok (.iload 4, 2) := by decide +kernel
theorem dX0_aboveOf_42 : decode cX0_aboveOf 42 = .ok (.lshl, 1) := by decide +kernel
theorem dX0_aboveOf_43 : decode cX0_aboveOf 43 = .ok (.lor, 1) := by decide +kernel
theorem dX0_aboveOf_44 : decode cX0_aboveOf 44 = .ok (.lstore_n 2, 1) := by decide +kernel
theorem dX0_aboveOf_45 : decode cX0_aboveOf 45 = .ok (.iinc 4 1, 3) := by decide +kernel
theorem dX0_aboveOf_48 : decode cX0_aboveOf 48 = .ok (.goto (-29), 3) := by decide +kernel
theorem dX0_aboveOf_51 : decode cX0_aboveOf 51 = .ok (.lload_n 2, 1) := by decide +kernel
theorem dX0_aboveOf_52 : decode cX0_aboveOf 52 = .ok (.invokestatic 95, 3) := by decide +kernel
theorem dX0_aboveOf_55 : decode cX0_aboveOf 55 = .ok (.iconst 1, 1) := by decide +kernel
theorem dX0_aboveOf_56 : decode cX0_aboveOf 56 = .ok (.isub, 1) := by decide +kernel
theorem dX0_aboveOf_57 : decode cX0_aboveOf 57 = .ok (.ireturn, 1) := by decide +kernel
theorem dX0_crossesOneOf_0 : decode cX0_crossesOneOf 0 = .ok (.iconst 0, 1) := by decide +kernel
theorem dX0_crossesOneOf_1 : decode cX0_crossesOneOf 1 = .ok (.istore 4, 2) := by decide +kernel
theorem dX0_crossesOneOf_3 : decode cX0_crossesOneOf 3 = .ok (.iload 4, 2) := by decide +kernel
theorem dX0_crossesOneOf_5 : decode cX0_crossesOneOf 5 = .ok (.iload_n 3, 1) := by decide +kernel
theorem dX0_crossesOneOf_6 : decode cX0_crossesOneOf 6 = .ok (.if_icmp .ge 50, 3) := by decide +kernel
theorem dX0_crossesOneOf_9 : decode cX0_crossesOneOf 9 = .ok (.lload_n 1, 1) := by decide +kernel
theorem dX0_crossesOneOf_10 : decode cX0_crossesOneOf 10 = .ok (.iload 4, 2) := by decide +kernel
theorem dX0_crossesOneOf_12 : decode cX0_crossesOneOf 12 = .ok (.lshr, 1) := by decide +kernel
theorem dX0_crossesOneOf_13 : decode cX0_crossesOneOf 13 = .ok (.lconst 1, 1) := by decide +kernel
theorem dX0_crossesOneOf_14 : decode cX0_crossesOneOf 14 = .ok (.land, 1) := by decide +kernel
theorem dX0_crossesOneOf_15 : decode cX0_crossesOneOf 15 = .ok (.lconst 1, 1) := by decide +kernel
theorem dX0_crossesOneOf_16 : decode cX0_crossesOneOf 16 = .ok (.lcmp, 1) := by decide +kernel
theorem dX0_crossesOneOf_17 : decode cX0_crossesOneOf 17 = .ok (.ifCond .ne 33, 3) := by decide +kernel
theorem dX0_crossesOneOf_20 : decode cX0_crossesOneOf 20 = .ok (.aload_n 0, 1) := by decide +kernel
theorem dX0_crossesOneOf_21 : decode cX0_crossesOneOf 21 = .ok (.iload 4, 2) := by decide +kernel
theorem dX0_crossesOneOf_23 : decode cX0_crossesOneOf 23 = .ok (.invokevirtual 48, 3) := by decide +kernel
theorem dX0_crossesOneOf_26 : decode cX0_crossesOneOf 26 = .ok (.aload_n 0, 1) := by decide +kernel
theorem dX0_crossesOneOf_27 : decode cX0_crossesOneOf 27 = .ok (.iload 4, 2) := by decide +kernel
theorem dX0_crossesOneOf_29 : decode cX0_crossesOneOf 29 = .ok (.invokevirtual 51, 3) := by decide +kernel
theorem dX0_crossesOneOf_32 : decode cX0_crossesOneOf 32 = .ok (.aload_n 0, 1) := by decide +kernel
theorem dX0_crossesOneOf_33 : decode cX0_crossesOneOf 33 = .ok (.iload_n 3, 1) := by decide +kernel
theorem dX0_crossesOneOf_34 : decode cX0_crossesOneOf 34 = .ok (.invokevirtual 48, 3) := by decide +kernel
theorem dX0_crossesOneOf_37 : decode cX0_crossesOneOf 37 = .ok (.aload_n 0, 1) := by decide +kernel
theorem dX0_crossesOneOf_38 : decode cX0_crossesOneOf 38 = .ok (.iload_n 3, 1) := by decide +kernel
theorem dX0_crossesOneOf_39 : decode cX0_crossesOneOf 39 = .ok (.invokevirtual 51, 3) := by decide +kernel
theorem dX0_crossesOneOf_42 : decode cX0_crossesOneOf 42 = .ok (.invokestatic 84, 3) := by decide +kernel
theorem dX0_crossesOneOf_45 : decode cX0_crossesOneOf 45 = .ok (.ifCond .eq 5, 3) := by decide +kernel
theorem dX0_crossesOneOf_48 : decode cX0_crossesOneOf 48 = .ok (.iconst 1, 1) := by decide +kernel
theorem dX0_crossesOneOf_49 : decode cX0_crossesOneOf 49 = .ok (.ireturn, 1) := by decide +kernel
theorem dX0_crossesOneOf_50 : decode cX0_crossesOneOf 50 = .ok (.iinc 4 1, 3) := by decide +kernel
theorem dX0_crossesOneOf_53 : decode cX0_crossesOneOf 53 = .ok (.goto (-50), 3) := by decide +kernel
theorem dX0_crossesOneOf_56 : decode cX0_crossesOneOf 56 = .ok (.iconst 0, 1) := by decide +kernel
theorem dX0_crossesOneOf_57 : decode cX0_crossesOneOf 57 = .ok (.ireturn, 1) := by decide +kernel
theorem dX0_crossingsOf_0 : decode cX0_crossingsOf 0 = .ok (.iconst 0, 1) := by decide +kernel
theorem dX0_crossingsOf_1 : decode cX0_crossingsOf 1 = .ok (.istore_n 3, 1) := by decide +kernel
theorem dX0_crossingsOf_2 : decode cX0_crossingsOf 2 = .ok (.iconst 0, 1) := by decide +kernel
theorem dX0_crossingsOf_3 : decode cX0_crossingsOf 3 = .ok (.istore 4, 2) := by decide +kernel
theorem dX0_crossingsOf_5 : decode cX0_crossingsOf 5 = .ok (.iload 4, 2) := by decide +kernel
theorem dX0_crossingsOf_7 : decode cX0_crossingsOf 7 = .ok (.aload_n 0, 1) := by decide +kernel
theorem dX0_crossingsOf_8 : decode cX0_crossingsOf 8 = .ok (.getfield 28, 3) := by decide +kernel
theorem dX0_crossingsOf_11 : decode cX0_crossingsOf 11 = .ok (.if_icmp .ge 52, 3) := by decide +kernel
theorem dX0_crossingsOf_14 : decode cX0_crossingsOf 14 = .ok (.aload_n 0, 1) := by decide +kernel
theorem dX0_crossingsOf_15 : decode cX0_crossingsOf 15 = .ok (.iload 4, 2) := by decide +kernel
theorem dX0_crossingsOf_17 : decode cX0_crossingsOf 17 = .ok (.invokevirtual 44, 3) := by decide +kernel
theorem dX0_crossingsOf_20 : decode cX0_crossingsOf 20 = .ok (.iload_n 1, 1) := by decide +kernel
theorem dX0_crossingsOf_21 : decode cX0_crossingsOf 21 = .ok (.if_icmp .ne 36, 3) := by decide +kernel
theorem dX0_crossingsOf_24 : decode cX0_crossingsOf 24 = .ok (.iload_n 3, 1) := by decide +kernel
theorem dX0_crossingsOf_25 : decode cX0_crossingsOf 25 = .ok (.aload_n 0, 1) := by decide +kernel
theorem dX0_crossingsOf_26 : decode cX0_crossingsOf 26 = .ok (.iload_n 1, 1) := by decide +kernel
theorem dX0_crossingsOf_27 : decode cX0_crossingsOf 27 = .ok (.iload_n 2, 1) := by decide +kernel
theorem dX0_crossingsOf_28 : decode cX0_crossingsOf 28 = .ok (.if_icmp .ne 10, 3) := by decide +kernel
theorem dX0_crossingsOf_31 : decode cX0_crossingsOf 31 = .ok (.iload 4, 2) := by decide +kernel
theorem dX0_crossingsOf_33 : decode cX0_crossingsOf 33 = .ok (.iconst 1, 1) := by decide +kernel
theorem dX0_crossingsOf_34 : decode cX0_crossingsOf 34 = .ok (.iadd, 1) := by decide +kernel
theorem dX0_crossingsOf_35 : decode cX0_crossingsOf 35 = .ok (.goto 4, 3) := by decide +kernel
theorem dX0_crossingsOf_38 : decode cX0_crossingsOf 38 = .ok (.iconst 0, 1) := by decide +kernel
theorem dX0_crossingsOf_39 : decode cX0_crossingsOf 39 = .ok (.iload_n 2, 1) := by decide +kernel
theorem dX0_crossingsOf_40 : decode cX0_crossingsOf 40 = .ok (.aload_n 0, 1) := by decide +kernel
theorem dX0_crossingsOf_41 : decode cX0_crossingsOf 41 = .ok (.iload 4, 2) := by decide +kernel
theorem dX0_crossingsOf_43 : decode cX0_crossingsOf 43 = .ok (.invokevirtual 48, 3) := by decide +kernel
theorem dX0_crossingsOf_46 : decode cX0_crossingsOf 46 = .ok (.aload_n 0, 1) := by decide +kernel
theorem dX0_crossingsOf_47 : decode cX0_crossingsOf 47 = .ok (.iload 4, 2) := by decide +kernel
theorem dX0_crossingsOf_49 : decode cX0_crossingsOf 49 = .ok (.invokevirtual 51, 3) := by decide +kernel
theorem dX0_crossingsOf_52 : decode cX0_crossingsOf 52 = .ok (.invokevirtual 67, 3) := by decide +kernel
theorem dX0_crossingsOf_55 : decode cX0_crossingsOf 55 = .ok (.iadd, 1) := by decide +kernel
theorem dX0_crossingsOf_56 : decode cX0_crossingsOf 56 = .ok (.istore_n 3, 1) := by decide +kernel
theorem dX0_crossingsOf_57 : decode cX0_crossingsOf 57 = .ok (.iinc 4 1, 3) := by decide +kernel
theorem dX0_crossingsOf_60 : decode cX0_crossingsOf 60 = .ok (.goto (-55), 3) := by decide +kernel
theorem dX0_crossingsOf_63 : decode cX0_crossingsOf 63 = .ok (.iload_n 3, 1) := by decide +kernel
theorem dX0_crossingsOf_64 : decode cX0_crossingsOf 64 = .ok (.ireturn, 1) := by decide +kernel
theorem dX0_allCrossings_0 : decode cX0_allCrossings 0 = .ok (.aload_n 0, 1) := by decide +kernel
theorem dX0_allCrossings_1 : decode cX0_allCrossings 1 = .ok (.getfield 31, 3) := by decide +kernel
theorem dX0_allCrossings_4 : decode cX0_allCrossings 4 = .ok (.ireturn, 1) := by decide +kernel
theorem dX0_lastOf_0 : decode cX0_lastOf 0 = .ok (.aload_n 0, 1) := by decide +kernel
theorem dX0_lastOf_1 : decode cX0_lastOf 1 = .ok (.iload_n 1, 1) := by decide +kernel
theorem dX0_lastOf_2 : decode cX0_lastOf 2 = .ok (.invokevirtual 40, 3) := by decide +kernel
theorem dX0_lastOf_5 : decode cX0_lastOf 5 = .ok (.ifCond .ne 5, 3) := by decide +kernel
theorem dX0_lastOf_8 : decode cX0_lastOf 8 = .ok (.iconst (-1), 1) := by decide +kernel
theorem dX0_lastOf_9 : decode cX0_lastOf 9 = .ok (.ireturn, 1) := by decide +kernel
theorem dX0_lastOf_10 : decode cX0_lastOf 10 = .ok (.iconst 0, 1) := by decide +kernel
theorem dX0_lastOf_11 : decode cX0_lastOf 11 = .ok (.istore_n 2, 1) := by decide +kernel
theorem dX0_lastOf_12 : decode cX0_lastOf 12 = .ok (.iload_n 2, 1) := by decide +kernel
theorem dX0_lastOf_13 : decode cX0_lastOf 13 = .ok (.aload_n 0, 1) := by decide +kernel
theorem dX0_lastOf_14 : decode cX0_lastOf 14 = .ok (.getfield 28, 3) := by decide +kernel
theorem dX0_lastOf_17 : decode cX0_lastOf 17 = .ok (.if_icmp .ge 36, 3) := by decide +kernel
theorem dX0_lastOf_20 : decode cX0_lastOf 20 = .ok (.aload_n 0, 1) := by decide +kernel
theorem dX0_lastOf_21 : decode cX0_lastOf 21 = .ok (.iload_n 2, 1) := by decide +kernel
theorem dX0_lastOf_22 : decode cX0_lastOf 22 = .ok (.invokevirtual 44, 3) := by decide +kernel
theorem dX0_lastOf_25 : decode cX0_lastOf 25 = .ok (.iload_n 1, 1) := by decide +kernel
theorem dX0_lastOf_26 : decode cX0_lastOf 26 = .ok (.if_icmp .ne 21, 3) := by decide +kernel
theorem dX0_lastOf_29 : decode cX0_lastOf 29 = .ok (.aload_n 0, 1) := by decide +kernel
theorem dX0_lastOf_30 : decode cX0_lastOf 30 = .ok (.iload_n 2, 1) := by decide +kernel
theorem dX0_lastOf_31 : decode cX0_lastOf 31 = .ok (.invokevirtual 101, 3) := by decide +kernel
theorem dX0_lastOf_34 : decode cX0_lastOf 34 = .ok (.aload_n 0, 1) := by decide +kernel
theorem dX0_lastOf_35 : decode cX0_lastOf 35 = .ok (.getfield 18, 3) := by decide +kernel
theorem dX0_lastOf_38 : decode cX0_lastOf 38 = .ok (.iload_n 1, 1) := by decide +kernel
theorem dX0_lastOf_39 : decode cX0_lastOf 39 = .ok (.iaload, 1) := by decide +kernel
theorem dX0_lastOf_40 : decode cX0_lastOf 40 = .ok (.iconst 1, 1) := by decide +kernel
theorem dX0_lastOf_41 : decode cX0_lastOf 41 = .ok (.isub, 1) := by decide +kernel
theorem dX0_lastOf_42 : decode cX0_lastOf 42 = .ok (.if_icmp .ne 5, 3) := by decide +kernel
theorem dX0_lastOf_45 : decode cX0_lastOf 45 = .ok (.iload_n 2, 1) := by decide +kernel
theorem dX0_lastOf_46 : decode cX0_lastOf 46 = .ok (.ireturn, 1) := by decide +kernel
theorem dX0_lastOf_47 : decode cX0_lastOf 47 = .ok (.iinc 2 1, 3) := by decide +kernel
theorem dX0_lastOf_50 : decode cX0_lastOf 50 = .ok (.goto (-38), 3) := by decide +kernel
theorem dX0_lastOf_53 : decode cX0_lastOf 53 = .ok (.iconst (-1), 1) := by decide +kernel
theorem dX0_lastOf_54 : decode cX0_lastOf 54 = .ok (.ireturn, 1) := by decide +kernel
theorem dX0_worthOf_0 : decode cX0_worthOf 0 = .ok (.aload_n 0, 1) := by decide +kernel
theorem dX0_worthOf_1 : decode cX0_worthOf 1 = .ok (.iload_n 1, 1) := by decide +kernel
theorem dX0_worthOf_2 : decode cX0_worthOf 2 = .ok (.invokevirtual 104, 3) := by decide +kernel
theorem dX0_worthOf_5 : decode cX0_worthOf 5 = .ok (.istore_n 2, 1) := by decide +kernel
theorem dX0_worthOf_6 : decode cX0_worthOf 6 = .ok (.iload_n 2, 1) := by decide +kernel
theorem dX0_worthOf_7 : decode cX0_worthOf 7 = .ok (.iconst (-1), 1) := by decide +kernel
theorem dX0_worthOf_8 : decode cX0_worthOf 8 = .ok (.if_icmp .ne 5, 3) := by decide +kernel
theorem dX0_worthOf_11 : decode cX0_worthOf 11 = .ok (.iconst 0, 1) := by decide +kernel
theorem dX0_worthOf_12 : decode cX0_worthOf 12 = .ok (.ireturn, 1) := by decide +kernel
theorem dX0_worthOf_13 : decode cX0_worthOf 13 = .ok (.iconst 3, 1) := by decide +kernel
theorem dX0_worthOf_14 : decode cX0_worthOf 14 = .ok (.aload_n 0, 1) := by decide +kernel
theorem dX0_worthOf_15 : decode cX0_worthOf 15 = .ok (.iconst 0, 1) := by decide +kernel
theorem dX0_worthOf_16 : decode cX0_worthOf 16 = .ok (.iload_n 2, 1) := by decide +kernel
theorem dX0_worthOf_17 : decode cX0_worthOf 17 = .ok (.invokevirtual 107, 3) := by decide +kernel
theorem dX0_worthOf_20 : decode cX0_worthOf 20 = .ok (.imul, 1) := by decide +kernel
theorem dX0_worthOf_21 : decode cX0_worthOf 21 = .ok (.aload_n 0, 1) := by decide +kernel
theorem dX0_worthOf_22 : decode cX0_worthOf 22 = .ok (.iload_n 2, 1) := by decide +kernel
theorem dX0_worthOf_23 : decode cX0_worthOf 23 = .ok (.invokevirtual 48, 3) := by decide +kernel
theorem dX0_worthOf_26 : decode cX0_worthOf 26 = .ok (.aload_n 0, 1) := by decide +kernel
theorem dX0_worthOf_27 : decode cX0_worthOf 27 = .ok (.iload_n 2, 1) := by decide +kernel
theorem dX0_worthOf_28 : decode cX0_worthOf 28 = .ok (.invokevirtual 51, 3) := by decide +kernel
theorem dX0_worthOf_31 : decode cX0_worthOf 31 = .ok (.invokestatic 54, 3) := by decide +kernel
theorem dX0_worthOf_34 : decode cX0_worthOf 34 = .ok (.iconst 5, 1) := by decide +kernel
theorem dX0_worthOf_35 : decode cX0_worthOf 35 = .ok (.idiv, 1) := by decide +kernel
theorem dX0_worthOf_36 : decode cX0_worthOf 36 = .ok (.isub, 1) := by decide +kernel
theorem dX0_worthOf_37 : decode cX0_worthOf 37 = .ok (.ireturn, 1) := by decide +kernel
theorem dX0_windOn_0 : decode cX0_windOn 0 = .ok (.aload_n 0, 1) := by decide +kernel
theorem dX0_windOn_1 : decode cX0_windOn 1 = .ok (.iload_n 1, 1) := by decide +kernel
theorem dX0_windOn_2 : decode cX0_windOn 2 = .ok (.invokevirtual 40, 3) := by decide +kernel
theorem dX0_windOn_5 : decode cX0_windOn 5 = .ok (.ifCond .eq 12, 3) := by decide +kernel
theorem dX0_windOn_8 : decode cX0_windOn 8 = .ok (.aload_n 0, 1) := by decide +kernel
theorem dX0_windOn_9 : decode cX0_windOn 9 = .ok (.getfield 28, 3) := by decide +kernel
theorem dX0_windOn_12 : decode cX0_windOn 12 = .ok (.bipush 48, 2) := by decide +kernel
theorem dX0_windOn_14 : decode cX0_windOn 14 = .ok (.if_icmp .lt 5, 3) := by decide +kernel
theorem dX0_windOn_17 : decode cX0_windOn 17 = .ok (.iconst 0, 1) := by decide +kernel
theorem dX0_windOn_18 : decode cX0_windOn 18 = .ok (.ireturn, 1) := by decide +kernel
theorem dX0_windOn_19 : decode cX0_windOn 19 = .ok (.aload_n 0, 1) := by decide +kernel
theorem dX0_windOn_20 : decode cX0_windOn 20 = .ok (.getfield 15, 3) := by decide +kernel
theorem dX0_windOn_23 : decode cX0_windOn 23 = .ok (.iload_n 1, 1) := by decide +kernel
theorem dX0_windOn_24 : decode cX0_windOn 24 = .ok (.iaload, 1) := by decide +kernel
theorem dX0_windOn_25 : decode cX0_windOn 25 = .ok (.istore_n 3, 1) := by decide +kernel
theorem dX0_windOn_26 : decode cX0_windOn 26 = .ok (.aload_n 0, 1) := by decide +kernel
theorem dX0_windOn_27 : decode cX0_windOn 27 = .ok (.iconst 0, 1) := by decide +kernel
theorem dX0_windOn_28 : decode cX0_windOn 28 = .ok (.iconst (-1), 1) := by decide +kernel
theorem dX0_windOn_29 : decode cX0_windOn 29 = .ok (.iload_n 3, 1) := by decide +kernel
theorem dX0_windOn_30 : decode cX0_windOn 30 = .ok (.iload_n 2, 1) := by decide +kernel
theorem dX0_windOn_31 : decode cX0_windOn 31 = .ok (.invokevirtual 67, 3) := by decide +kernel
theorem dX0_windOn_34 : decode cX0_windOn 34 = .ok (.istore 4, 2) := by decide +kernel
theorem dX0_windOn_36 : decode cX0_windOn 36 = .ok (.aload_n 0, 1) := by decide +kernel
theorem dX0_windOn_37 : decode cX0_windOn 37 = .ok (.getfield 21, 3) := by decide +kernel
theorem dX0_windOn_40 : decode cX0_windOn 40 = .ok (.aload_n 0, 1) := by decide +kernel
theorem dX0_windOn_41 : decode cX0_windOn 41 = .ok (.getfield 28, 3) := by decide +kernel
theorem dX0_windOn_44 : decode cX0_windOn 44 = .ok (.iload_n 1, 1) := by decide +kernel
theorem dX0_windOn_45 : decode cX0_windOn 45 = .ok (.iload_n 3, 1) := by decide +kernel
theorem dX0_windOn_46 : decode cX0_windOn 46 = .ok (.iload_n 2, 1) := by decide +kernel
theorem dX0_windOn_47 : decode cX0_windOn 47 = .ok (.aload_n 0, 1) := by decide +kernel
theorem dX0_windOn_48 : decode cX0_windOn 48 = .ok (.getfield 18, 3) := by decide +kernel
theorem dX0_windOn_51 : decode cX0_windOn 51 = .ok (.iload_n 1, 1) := by decide +kernel
theorem dX0_windOn_52 : decode cX0_windOn 52 = .ok (.iaload, 1) := by decide +kernel
theorem dX0_windOn_53 : decode cX0_windOn 53 = .ok (.invokestatic 110, 3) := by decide +kernel
theorem dX0_windOn_56 : decode cX0_windOn 56 = .ok (.iastore, 1) := by decide +kernel
theorem dX0_windOn_57 : decode cX0_windOn 57 = .ok (.aload_n 0, 1) := by decide +kernel
theorem dX0_windOn_58 : decode cX0_windOn 58 = .ok (.dup, 1) := by decide +kernel
theorem dX0_windOn_59 : decode cX0_windOn 59 = .ok (.getfield 28, 3) := by decide +kernel
theorem dX0_windOn_62 : decode cX0_windOn 62 = .ok (.iconst 1, 1) := by decide +kernel
theorem dX0_windOn_63 : decode cX0_windOn 63 = .ok (.iadd, 1) := by decide +kernel
theorem dX0_windOn_64 : decode cX0_windOn 64 = .ok (.putfield 28, 3) := by decide +kernel
theorem dX0_windOn_67 : decode cX0_windOn 67 = .ok (.aload_n 0, 1) := by decide +kernel
theorem dX0_windOn_68 : decode cX0_windOn 68 = .ok (.getfield 18, 3) := by decide +kernel
theorem dX0_windOn_71 : decode cX0_windOn 71 = .ok (.iload_n 1, 1) := by decide +kernel
theorem dX0_windOn_72 : decode cX0_windOn 72 = .ok (.dup2, 1) := by decide +kernel
theorem dX0_windOn_73 : decode cX0_windOn 73 = .ok (.iaload, 1) := by decide +kernel
theorem dX0_windOn_74 : decode cX0_windOn 74 = .ok (.iconst 1, 1) := by decide +kernel
theorem dX0_windOn_75 : decode cX0_windOn 75 = .ok (.iadd, 1) := by decide +kernel
theorem dX0_windOn_76 : decode cX0_windOn 76 = .ok (.iastore, 1) := by decide +kernel
theorem dX0_windOn_77 : decode cX0_windOn 77 = .ok (.aload_n 0, 1) := by decide +kernel
theorem dX0_windOn_78 : decode cX0_windOn 78 = .ok (.getfield 15, 3) := by decide +kernel
theorem dX0_windOn_81 : decode cX0_windOn 81 = .ok (.iload_n 1, 1) := by decide +kernel
theorem dX0_windOn_82 : decode cX0_windOn 82 = .ok (.iload_n 2, 1) := by decide +kernel
theorem dX0_windOn_83 : decode cX0_windOn 83 = .ok (.iastore, 1) := by decide +kernel
theorem dX0_windOn_84 : decode cX0_windOn 84 = .ok (.aload_n 0, 1) := by decide +kernel
theorem dX0_windOn_85 : decode cX0_windOn 85 = .ok (.dup, 1) := by decide +kernel
theorem dX0_windOn_86 : decode cX0_windOn 86 = .ok (.getfield 31, 3) := by decide +kernel
theorem dX0_windOn_89 : decode cX0_windOn 89 = .ok (.iload 4, 2) := by decide +kernel
theorem dX0_windOn_91 : decode cX0_windOn 91 = .ok (.iadd, 1) := by decide +kernel
theorem dX0_windOn_92 : decode cX0_windOn 92 = .ok (.putfield 31, 3) := by decide +kernel
theorem dX0_windOn_95 : decode cX0_windOn 95 = .ok (.iload 4, 2) := by decide +kernel
theorem dX0_windOn_97 : decode cX0_windOn 97 = .ok (.ireturn, 1) := by decide +kernel
theorem dX0_windStar_0 : decode cX0_windStar 0 = .ok (.iconst 0, 1) := by decide +kernel
theorem dX0_windStar_1 : decode cX0_windStar 1 = .ok (.istore 4, 2) := by decide +kernel
theorem dX0_windStar_3 : decode cX0_windStar 3 = .ok (.iconst 0, 1) := by decide +kernel
theorem dX0_windStar_4 : decode cX0_windStar 4 = .ok (.istore 5, 2) := by decide +kernel
theorem dX0_windStar_6 : decode cX0_windStar 6 = .ok (.iload 5, 2) := by decide +kernel
theorem dX0_windStar_8 : decode cX0_windStar 8 = .ok (.iload_n 3, 1) := by decide +kernel
theorem dX0_windStar_9 : decode cX0_windStar 9 = .ok (.if_icmp .ge 45, 3) := by decide +kernel
theorem dX0_windStar_12 : decode cX0_windStar 12 = .ok (.aload_n 0, 1) := by decide +kernel
theorem dX0_windStar_13 : decode cX0_windStar 13 = .ok (.iload_n 1, 1) := by decide +kernel
theorem dX0_windStar_14 : decode cX0_windStar 14 = .ok (.invokevirtual 78, 3) := by decide +kernel
theorem dX0_windStar_17 : decode cX0_windStar 17 = .ok (.iload_n 2, 1) := by decide +kernel
theorem dX0_windStar_18 : decode cX0_windStar 18 = .ok (.invokestatic 113, 3) := by decide +kernel
theorem dX0_windStar_21 : decode cX0_windStar 21 = .ok (.istore 6, 2) := by decide +kernel
theorem dX0_windStar_23 : decode cX0_windStar 23 = .ok (.aload_n 0, 1) := by decide +kernel
theorem dX0_windStar_24 : decode cX0_windStar 24 = .ok (.iload_n 1, 1) := by decide +kernel
theorem dX0_windStar_25 : decode cX0_windStar 25 = .ok (.iload 6, 2) := by decide +kernel
theorem dX0_windStar_27 : decode cX0_windStar 27 = .ok (.invokevirtual 74, 3) := by decide +kernel
theorem dX0_windStar_30 : decode cX0_windStar 30 = .ok (.ifCond .ne 6, 3) := by decide +kernel
theorem dX0_windStar_33 : decode cX0_windStar 33 = .ok (.iload 4, 2) := by decide +kernel
theorem dX0_windStar_35 : decode cX0_windStar 35 = .ok (.ireturn, 1) := by decide +kernel
theorem dX0_windStar_36 : decode cX0_windStar 36 = .ok (.iload 4, 2) := by decide +kernel
theorem dX0_windStar_38 : decode cX0_windStar 38 = .ok (.aload_n 0, 1) := by decide +kernel
theorem dX0_windStar_39 : decode cX0_windStar 39 = .ok (.iload_n 1, 1) := by decide +kernel
theorem dX0_windStar_40 : decode cX0_windStar 40 = .ok (.iload 6, 2) := by decide +kernel
theorem dX0_windStar_42 : decode cX0_windStar 42 = .ok (.invokevirtual 116, 3) := by decide +kernel
theorem dX0_windStar_45 : decode cX0_windStar 45 = .ok (.iadd, 1) := by decide +kernel
theorem dX0_windStar_46 : decode cX0_windStar 46 = .ok (.istore 4, 2) := by decide +kernel
theorem dX0_windStar_48 : decode cX0_windStar 48 = .ok (.iinc 5 1, 3) := by decide +kernel
theorem dX0_windStar_51 : decode cX0_windStar 51 = .ok (.goto (-45), 3) := by decide +kernel
theorem dX0_windStar_54 : decode cX0_windStar 54 = .ok (.iload 4, 2) := by decide +kernel
theorem dX0_windStar_56 : decode cX0_windStar 56 = .ok (.ireturn, 1) := by decide +kernel
theorem dX0_mayUnwind_0 : decode cX0_mayUnwind 0 = .ok (.aload_n 0, 1) := by decide +kernel
theorem dX0_mayUnwind_1 : decode cX0_mayUnwind 1 = .ok (.iload_n 1, 1) := by decide +kernel
theorem dX0_mayUnwind_2 : decode cX0_mayUnwind 2 = .ok (.invokevirtual 104, 3) := by decide +kernel
theorem dX0_mayUnwind_5 : decode cX0_mayUnwind 5 = .ok (.istore_n 2, 1) := by decide +kernel
theorem dX0_mayUnwind_6 : decode cX0_mayUnwind 6 = .ok (.iload_n 2, 1) := by decide +kernel
theorem dX0_mayUnwind_7 : decode cX0_mayUnwind 7 = .ok (.iconst (-1), 1) := by decide +kernel
theorem dX0_mayUnwind_8 : decode cX0_mayUnwind 8 = .ok (.if_icmp .eq 28, 3) := by decide +kernel
theorem dX0_mayUnwind_11 : decode cX0_mayUnwind 11 = .ok (.aload_n 0, 1) := by decide +kernel
theorem dX0_mayUnwind_12 : decode cX0_mayUnwind 12 = .ok (.iload_n 2, 1) := by decide +kernel
theorem dX0_mayUnwind_13 : decode cX0_mayUnwind 13 = .ok (.iconst 1, 1) := by decide +kernel
theorem dX0_mayUnwind_14 : decode cX0_mayUnwind 14 = .ok (.iadd, 1) := by decide +kernel
theorem dX0_mayUnwind_15 : decode cX0_mayUnwind 15 = .ok (.iconst (-1), 1) := by decide +kernel
theorem dX0_mayUnwind_16 : decode cX0_mayUnwind 16 = .ok (.aload_n 0, 1) := by decide +kernel
theorem dX0_mayUnwind_17 : decode cX0_mayUnwind 17 = .ok (.iload_n 2, 1) := by decide +kernel
theorem dX0_mayUnwind_18 : decode cX0_mayUnwind 18 = .ok (.invokevirtual 48, 3) := by decide +kernel
theorem dX0_mayUnwind_21 : decode cX0_mayUnwind 21 = .ok (.aload_n 0, 1) := by decide +kernel
theorem dX0_mayUnwind_22 : decode cX0_mayUnwind 22 = .ok (.iload_n 2, 1) := by decide +kernel
theorem dX0_mayUnwind_23 : decode cX0_mayUnwind 23 = .ok (.invokevirtual 51, 3) := by decide +kernel
theorem dX0_mayUnwind_26 : decode cX0_mayUnwind 26 = .ok (.invokevirtual 67, 3) := by decide +kernel
theorem dX0_mayUnwind_29 : decode cX0_mayUnwind 29 = .ok (.ifCond .ne 7, 3) := by decide +kernel
theorem dX0_mayUnwind_32 : decode cX0_mayUnwind 32 = .ok (.iconst 1, 1) := by decide +kernel
theorem dX0_mayUnwind_33 : decode cX0_mayUnwind 33 = .ok (.goto 4, 3) := by decide +kernel
theorem dX0_mayUnwind_36 : decode cX0_mayUnwind 36 = .ok (.iconst 0, 1) := by decide +kernel
theorem dX0_mayUnwind_37 : decode cX0_mayUnwind 37 = .ok (.ireturn, 1) := by decide +kernel
theorem dX0_unwindLast_0 : decode cX0_unwindLast 0 = .ok (.aload_n 0, 1) := by decide +kernel
theorem dX0_unwindLast_1 : decode cX0_unwindLast 1 = .ok (.iload_n 1, 1) := by decide +kernel
theorem dX0_unwindLast_2 : decode cX0_unwindLast 2 = .ok (.invokevirtual 104, 3) := by decide +kernel
theorem dX0_unwindLast_5 : decode cX0_unwindLast 5 = .ok (.istore_n 2, 1) := by decide +kernel
theorem dX0_unwindLast_6 : decode cX0_unwindLast 6 = .ok (.aload_n 0, 1) := by decide +kernel
theorem dX0_unwindLast_7 : decode cX0_unwindLast 7 = .ok (.iload_n 1, 1) := by decide +kernel
theorem dX0_unwindLast_8 : decode cX0_unwindLast 8 = .ok (.invokevirtual 40, 3) := by decide +kernel
theorem dX0_unwindLast_11 : decode cX0_unwindLast 11 = .ok (.ifCond .eq 8, 3) := by decide +kernel
theorem dX0_unwindLast_14 : decode cX0_unwindLast 14 = .ok (.iload_n 2, 1) := by decide +kernel
theorem dX0_unwindLast_15 : decode cX0_unwindLast 15 = .ok (.iconst (-1), 1) := by decide +kernel
theorem dX0_unwindLast_16 : decode cX0_unwindLast 16 = .ok (.if_icmp .ne 5, 3) := by decide +kernel
theorem dX0_unwindLast_19 : decode cX0_unwindLast 19 = .ok (.iconst (-1), 1) := by decide +kernel
theorem dX0_unwindLast_20 : decode cX0_unwindLast 20 = .ok (.ireturn, 1) := by decide +kernel
theorem dX0_unwindLast_21 : decode cX0_unwindLast 21 = .ok (.aload_n 0, 1) := by decide +kernel
theorem dX0_unwindLast_22 : decode cX0_unwindLast 22 = .ok (.dup, 1) := by decide +kernel
theorem dX0_unwindLast_23 : decode cX0_unwindLast 23 = .ok (.getfield 31, 3) := by decide +kernel
theorem dX0_unwindLast_26 : decode cX0_unwindLast 26 = .ok (.aload_n 0, 1) := by decide +kernel
theorem dX0_unwindLast_27 : decode cX0_unwindLast 27 = .ok (.iconst 0, 1) := by decide +kernel
theorem dX0_unwindLast_28 : decode cX0_unwindLast 28 = .ok (.iconst (-1), 1) := by decide +kernel
theorem dX0_unwindLast_29 : decode cX0_unwindLast 29 = .ok (.aload_n 0, 1) := by decide +kernel
theorem dX0_unwindLast_30 : decode cX0_unwindLast 30 = .ok (.iload_n 2, 1) := by decide +kernel
theorem dX0_unwindLast_31 : decode cX0_unwindLast 31 = .ok (.invokevirtual 48, 3) := by decide +kernel
theorem dX0_unwindLast_34 : decode cX0_unwindLast 34 = .ok (.aload_n 0, 1) := by decide +kernel
theorem dX0_unwindLast_35 : decode cX0_unwindLast 35 = .ok (.iload_n 2, 1) := by decide +kernel
theorem dX0_unwindLast_36 : decode cX0_unwindLast 36 = .ok (.invokevirtual 51, 3) := by decide +kernel
theorem dX0_unwindLast_39 : decode cX0_unwindLast 39 = .ok (.invokevirtual 67, 3) := by decide +kernel
theorem dX0_unwindLast_42 : decode cX0_unwindLast 42 = .ok (.isub, 1) := by decide +kernel
theorem dX0_unwindLast_43 : decode cX0_unwindLast 43 = .ok (.putfield 31, 3) := by decide +kernel
theorem dX0_unwindLast_46 : decode cX0_unwindLast 46 = .ok (.aload_n 0, 1) := by decide +kernel
theorem dX0_unwindLast_47 : decode cX0_unwindLast 47 = .ok (.getfield 15, 3) := by decide +kernel
theorem dX0_unwindLast_50 : decode cX0_unwindLast 50 = .ok (.iload_n 1, 1) := by decide +kernel
theorem dX0_unwindLast_51 : decode cX0_unwindLast 51 = .ok (.aload_n 0, 1) := by decide +kernel
theorem dX0_unwindLast_52 : decode cX0_unwindLast 52 = .ok (.iload_n 2, 1) := by decide +kernel
theorem dX0_unwindLast_53 : decode cX0_unwindLast 53 = .ok (.invokevirtual 48, 3) := by decide +kernel
theorem dX0_unwindLast_56 : decode cX0_unwindLast 56 = .ok (.iastore, 1) := by decide +kernel
theorem dX0_unwindLast_57 : decode cX0_unwindLast 57 = .ok (.aload_n 0, 1) := by decide +kernel
theorem dX0_unwindLast_58 : decode cX0_unwindLast 58 = .ok (.getfield 18, 3) := by decide +kernel
theorem dX0_unwindLast_61 : decode cX0_unwindLast 61 = .ok (.iload_n 1, 1) := by decide +kernel
theorem dX0_unwindLast_62 : decode cX0_unwindLast 62 = .ok (.dup2, 1) := by decide +kernel
theorem dX0_unwindLast_63 : decode cX0_unwindLast 63 = .ok (.iaload, 1) := by decide +kernel
theorem dX0_unwindLast_64 : decode cX0_unwindLast 64 = .ok (.iconst 1, 1) := by decide +kernel
theorem dX0_unwindLast_65 : decode cX0_unwindLast 65 = .ok (.isub, 1) := by decide +kernel
theorem dX0_unwindLast_66 : decode cX0_unwindLast 66 = .ok (.iastore, 1) := by decide +kernel
theorem dX0_unwindLast_67 : decode cX0_unwindLast 67 = .ok (.iload_n 2, 1) := by decide +kernel
theorem dX0_unwindLast_68 : decode cX0_unwindLast 68 = .ok (.iconst 1, 1) := by decide +kernel
theorem dX0_unwindLast_69 : decode cX0_unwindLast 69 = .ok (.iadd, 1) := by decide +kernel
theorem dX0_unwindLast_70 : decode cX0_unwindLast 70 = .ok (.istore_n 3, 1) := by decide +kernel
theorem dX0_unwindLast_71 : decode cX0_unwindLast 71 = .ok (.iload_n 3, 1) := by decide +kernel
theorem dX0_unwindLast_72 : decode cX0_unwindLast 72 = .ok (.aload_n 0, 1) := by decide +kernel
theorem dX0_unwindLast_73 : decode cX0_unwindLast 73 = .ok (.getfield 28, 3) := by decide +kernel
theorem dX0_unwindLast_76 : decode cX0_unwindLast 76 = .ok (.if_icmp .ge 23, 3) := by decide +kernel
theorem dX0_unwindLast_79 : decode cX0_unwindLast 79 = .ok (.aload_n 0, 1) := by decide +kernel
theorem dX0_unwindLast_80 : decode cX0_unwindLast 80 = .ok (.getfield 21, 3) := by decide +kernel
theorem dX0_unwindLast_83 : decode cX0_unwindLast 83 = .ok (.iload_n 3, 1) := by decide +kernel
theorem dX0_unwindLast_84 : decode cX0_unwindLast 84 = .ok (.iconst 1, 1) := by decide +kernel
theorem dX0_unwindLast_85 : decode cX0_unwindLast 85 = .ok (.isub, 1) := by decide +kernel
theorem dX0_unwindLast_86 : decode cX0_unwindLast 86 = .ok (.aload_n 0, 1) := by decide +kernel
theorem dX0_unwindLast_87 : decode cX0_unwindLast 87 = .ok (.getfield 21, 3) := by decide +kernel
theorem dX0_unwindLast_90 : decode cX0_unwindLast 90 = .ok (.iload_n 3, 1) := by decide +kernel
theorem dX0_unwindLast_91 : decode cX0_unwindLast 91 = .ok (.iaload, 1) := by decide +kernel
theorem dX0_unwindLast_92 : decode cX0_unwindLast 92 = .ok (.iastore, 1) := by decide +kernel
theorem dX0_unwindLast_93 : decode cX0_unwindLast 93 = .ok (.iinc 3 1, 3) := by decide +kernel
theorem dX0_unwindLast_96 : decode cX0_unwindLast 96 = .ok (.goto (-25), 3) := by decide +kernel
theorem dX0_unwindLast_99 : decode cX0_unwindLast 99 = .ok (.aload_n 0, 1) := by decide +kernel
theorem dX0_unwindLast_100 : decode cX0_unwindLast 100 = .ok (.dup, 1) := by decide +kernel
theorem dX0_unwindLast_101 : decode cX0_unwindLast 101 = .ok (.getfield 28, 3) := by decide +kernel
theorem dX0_unwindLast_104 : decode cX0_unwindLast 104 = .ok (.iconst 1, 1) := by decide +kernel
theorem dX0_unwindLast_105 : decode cX0_unwindLast 105 = .ok (.isub, 1) := by decide +kernel
theorem dX0_unwindLast_106 : decode cX0_unwindLast 106 = .ok (.putfield 28, 3) := by decide +kernel
theorem dX0_unwindLast_109 : decode cX0_unwindLast 109 = .ok (.aload_n 0, 1) := by decide +kernel
theorem dX0_unwindLast_110 : decode cX0_unwindLast 110 = .ok (.getfield 15, 3) := by decide +kernel
theorem dX0_unwindLast_113 : decode cX0_unwindLast 113 = .ok (.iload_n 1, 1) := by decide +kernel
theorem dX0_unwindLast_114 : decode cX0_unwindLast 114 = .ok (.iaload, 1) := by decide +kernel
theorem dX0_unwindLast_115 : decode cX0_unwindLast 115 = .ok (.ireturn, 1) := by decide +kernel
theorem dX0_mayCut_0 : decode cX0_mayCut 0 = .ok (.aload_n 0, 1) := by decide +kernel
theorem dX0_mayCut_1 : decode cX0_mayCut 1 = .ok (.iload_n 1, 1) := by decide +kernel
theorem dX0_mayCut_2 : decode cX0_mayCut 2 = .ok (.invokevirtual 119, 3) := by decide +kernel
theorem dX0_mayCut_5 : decode cX0_mayCut 5 = .ok (.ifCond .le 7, 3) := by decide +kernel
theorem dX0_mayCut_8 : decode cX0_mayCut 8 = .ok (.iconst 1, 1) := by decide +kernel
theorem dX0_mayCut_9 : decode cX0_mayCut 9 = .ok (.goto 4, 3) := by decide +kernel
theorem dX0_mayCut_12 : decode cX0_mayCut 12 = .ok (.iconst 0, 1) := by decide +kernel
theorem dX0_mayCut_13 : decode cX0_mayCut 13 = .ok (.ireturn, 1) := by decide +kernel
theorem dX0_cutOff_0 : decode cX0_cutOff 0 = .ok (.aload_n 0, 1) := by decide +kernel
theorem dX0_cutOff_1 : decode cX0_cutOff 1 = .ok (.iload_n 1, 1) := by decide +kernel
theorem dX0_cutOff_2 : decode cX0_cutOff 2 = .ok (.invokevirtual 40, 3) := by decide +kernel
theorem dX0_cutOff_5 : decode cX0_cutOff 5 = .ok (.ifCond .ne 5, 3) := by decide +kernel
theorem dX0_cutOff_8 : decode cX0_cutOff 8 = .ok (.iconst 0, 1) := by decide +kernel
theorem dX0_cutOff_9 : decode cX0_cutOff 9 = .ok (.ireturn, 1) := by decide +kernel
theorem dX0_cutOff_10 : decode cX0_cutOff 10 = .ok (.iconst 0, 1) := by decide +kernel
theorem dX0_cutOff_11 : decode cX0_cutOff 11 = .ok (.istore_n 2, 1) := by decide +kernel
theorem dX0_cutOff_12 : decode cX0_cutOff 12 = .ok (.iconst 0, 1) := by decide +kernel
theorem dX0_cutOff_13 : decode cX0_cutOff 13 = .ok (.istore_n 3, 1) := by decide +kernel
theorem dX0_cutOff_14 : decode cX0_cutOff 14 = .ok (.iload_n 3, 1) := by decide +kernel
theorem dX0_cutOff_15 : decode cX0_cutOff 15 = .ok (.aload_n 0, 1) := by decide +kernel
theorem dX0_cutOff_16 : decode cX0_cutOff 16 = .ok (.getfield 28, 3) := by decide +kernel
theorem dX0_cutOff_19 : decode cX0_cutOff 19 = .ok (.if_icmp .ge 33, 3) := by decide +kernel
theorem dX0_cutOff_22 : decode cX0_cutOff 22 = .ok (.aload_n 0, 1) := by decide +kernel
theorem dX0_cutOff_23 : decode cX0_cutOff 23 = .ok (.iload_n 3, 1) := by decide +kernel
theorem dX0_cutOff_24 : decode cX0_cutOff 24 = .ok (.invokevirtual 44, 3) := by decide +kernel
theorem dX0_cutOff_27 : decode cX0_cutOff 27 = .ok (.iload_n 1, 1) := by decide +kernel
theorem dX0_cutOff_28 : decode cX0_cutOff 28 = .ok (.if_icmp .eq 18, 3) := by decide +kernel
theorem dX0_cutOff_31 : decode cX0_cutOff 31 = .ok (.aload_n 0, 1) := by decide +kernel
theorem dX0_cutOff_32 : decode cX0_cutOff 32 = .ok (.getfield 21, 3) := by decide +kernel
theorem dX0_cutOff_35 : decode cX0_cutOff 35 = .ok (.iload_n 2, 1) := by decide +kernel
theorem dX0_cutOff_36 : decode cX0_cutOff 36 = .ok (.aload_n 0, 1) := by decide +kernel
theorem dX0_cutOff_37 : decode cX0_cutOff 37 = .ok (.getfield 21, 3) := by decide +kernel
theorem dX0_cutOff_40 : decode cX0_cutOff 40 = .ok (.iload_n 3, 1) := by decide +kernel
theorem dX0_cutOff_41 : decode cX0_cutOff 41 = .ok (.iaload, 1) := by decide +kernel
theorem dX0_cutOff_42 : decode cX0_cutOff 42 = .ok (.iastore, 1) := by decide +kernel
theorem dX0_cutOff_43 : decode cX0_cutOff 43 = .ok (.iinc 2 1, 3) := by decide +kernel
theorem dX0_cutOff_46 : decode cX0_cutOff 46 = .ok (.iinc 3 1, 3) := by decide +kernel
theorem dX0_cutOff_49 : decode cX0_cutOff 49 = .ok (.goto (-35), 3) := by decide +kernel
theorem dX0_cutOff_52 : decode cX0_cutOff 52 = .ok (.aload_n 0, 1) := by decide +kernel
theorem dX0_cutOff_53 : decode cX0_cutOff 53 = .ok (.getfield 28, 3) := by decide +kernel
theorem dX0_cutOff_56 : decode cX0_cutOff 56 = .ok (.iload_n 2, 1) := by decide +kernel
theorem dX0_cutOff_57 : decode cX0_cutOff 57 = .ok (.isub, 1) := by decide +kernel
theorem dX0_cutOff_58 : decode cX0_cutOff 58 = .ok (.istore_n 3, 1) := by decide +kernel
theorem dX0_cutOff_59 : decode cX0_cutOff 59 = .ok (.aload_n 0, 1) := by decide +kernel
theorem dX0_cutOff_60 : decode cX0_cutOff 60 = .ok (.iload_n 2, 1) := by decide +kernel
theorem dX0_cutOff_61 : decode cX0_cutOff 61 = .ok (.putfield 28, 3) := by decide +kernel
theorem dX0_cutOff_64 : decode cX0_cutOff 64 = .ok (.aload_n 0, 1) := by decide +kernel
theorem dX0_cutOff_65 : decode cX0_cutOff 65 = .ok (.getfield 18, 3) := by decide +kernel
theorem dX0_cutOff_68 : decode cX0_cutOff 68 = .ok (.iload_n 1, 1) := by decide +kernel
theorem dX0_cutOff_69 : decode cX0_cutOff 69 = .ok (.iconst 0, 1) := by decide +kernel
theorem dX0_cutOff_70 : decode cX0_cutOff 70 = .ok (.iastore, 1) := by decide +kernel
theorem dX0_cutOff_71 : decode cX0_cutOff 71 = .ok (.aload_n 0, 1) := by decide +kernel
theorem dX0_cutOff_72 : decode cX0_cutOff 72 = .ok (.iconst 0, 1) := by decide +kernel
theorem dX0_cutOff_73 : decode cX0_cutOff 73 = .ok (.putfield 31, 3) := by decide +kernel
theorem dX0_cutOff_76 : decode cX0_cutOff 76 = .ok (.iconst 0, 1) := by decide +kernel
theorem dX0_cutOff_77 : decode cX0_cutOff 77 = .ok (.istore 4, 2) := by decide +kernel
theorem dX0_cutOff_79 : decode cX0_cutOff 79 = .ok (.iload 4, 2) := by decide +kernel
theorem dX0_cutOff_81 : decode cX0_cutOff 81 = .ok (.aload_n 0, 1) := by decide +kernel
theorem dX0_cutOff_82 : decode cX0_cutOff 82 = .ok (.getfield 28, 3) := by decide +kernel
theorem dX0_cutOff_85 : decode cX0_cutOff 85 = .ok (.if_icmp .ge 39, 3) := by decide +kernel
theorem dX0_cutOff_88 : decode cX0_cutOff 88 = .ok (.aload_n 0, 1) := by decide +kernel
theorem dX0_cutOff_89 : decode cX0_cutOff 89 = .ok (.dup, 1) := by decide +kernel
theorem dX0_cutOff_90 : decode cX0_cutOff 90 = .ok (.getfield 31, 3) := by decide +kernel
theorem dX0_cutOff_93 : decode cX0_cutOff 93 = .ok (.aload_n 0, 1) := by decide +kernel
theorem dX0_cutOff_94 : decode cX0_cutOff 94 = .ok (.iload 4, 2) := by decide +kernel
theorem dX0_cutOff_96 : decode cX0_cutOff 96 = .ok (.iconst 1, 1) := by decide +kernel
theorem dX0_cutOff_97 : decode cX0_cutOff 97 = .ok (.iadd, 1) := by decide +kernel
theorem dX0_cutOff_98 : decode cX0_cutOff 98 = .ok (.iconst (-1), 1) := by decide +kernel
theorem dX0_cutOff_99 : decode cX0_cutOff 99 = .ok (.aload_n 0, 1) := by decide +kernel
theorem dX0_cutOff_100 : decode cX0_cutOff 100 = .ok (.iload 4, 2) := by decide +kernel
theorem dX0_cutOff_102 : decode cX0_cutOff 102 = .ok (.invokevirtual 48, 3) := by decide +kernel
theorem dX0_cutOff_105 : decode cX0_cutOff 105 = .ok (.aload_n 0, 1) := by decide +kernel
theorem dX0_cutOff_106 : decode cX0_cutOff 106 = .ok (.iload 4, 2) := by decide +kernel
theorem dX0_cutOff_108 : decode cX0_cutOff 108 = .ok (.invokevirtual 51, 3) := by decide +kernel
theorem dX0_cutOff_111 : decode cX0_cutOff 111 = .ok (.invokevirtual 67, 3) := by decide +kernel
theorem dX0_cutOff_114 : decode cX0_cutOff 114 = .ok (.iadd, 1) := by decide +kernel
theorem dX0_cutOff_115 : decode cX0_cutOff 115 = .ok (.putfield 31, 3) := by decide +kernel
theorem dX0_cutOff_118 : decode cX0_cutOff 118 = .ok (.iinc 4 1, 3) := by decide +kernel
theorem dX0_cutOff_121 : decode cX0_cutOff 121 = .ok (.goto (-42), 3) := by decide +kernel
theorem dX0_cutOff_124 : decode cX0_cutOff 124 = .ok (.iload_n 3, 1) := by decide +kernel
theorem dX0_cutOff_125 : decode cX0_cutOff 125 = .ok (.ireturn, 1) := by decide +kernel
theorem dX0_turnByOne_0 : decode cX0_turnByOne 0 = .ok (.iconst 0, 1) := by decide +kernel
theorem dX0_turnByOne_1 : decode cX0_turnByOne 1 = .ok (.istore_n 1, 1) := by decide +kernel
theorem dX0_turnByOne_2 : decode cX0_turnByOne 2 = .ok (.iload_n 1, 1) := by decide +kernel
theorem dX0_turnByOne_3 : decode cX0_turnByOne 3 = .ok (.aload_n 0, 1) := by decide +kernel
theorem dX0_turnByOne_4 : decode cX0_turnByOne 4 = .ok (.getfield 24, 3) := by decide +kernel
theorem dX0_turnByOne_7 : decode cX0_turnByOne 7 = .ok (.if_icmp .ge 25, 3) := by decide +kernel
theorem dX0_turnByOne_10 : decode cX0_turnByOne 10 = .ok (.aload_n 0, 1) := by decide +kernel
theorem dX0_turnByOne_11 : decode cX0_turnByOne 11 = .ok (.getfield 15, 3) := by decide +kernel
theorem dX0_turnByOne_14 : decode cX0_turnByOne 14 = .ok (.iload_n 1, 1) := by decide +kernel
theorem dX0_turnByOne_15 : decode cX0_turnByOne 15 = .ok (.aload_n 0, 1) := by decide +kernel
theorem dX0_turnByOne_16 : decode cX0_turnByOne 16 = .ok (.getfield 15, 3) := by decide +kernel
theorem dX0_turnByOne_19 : decode cX0_turnByOne 19 = .ok (.iload_n 1, 1) := by decide +kernel
theorem dX0_turnByOne_20 : decode cX0_turnByOne 20 = .ok (.iaload, 1) := by decide +kernel
theorem dX0_turnByOne_21 : decode cX0_turnByOne 21 = .ok (.iconst 1, 1) := by decide +kernel
theorem dX0_turnByOne_22 : decode cX0_turnByOne 22 = .ok (.invokestatic 113, 3) := by decide +kernel
theorem dX0_turnByOne_25 : decode cX0_turnByOne 25 = .ok (.iastore, 1) := by decide +kernel
theorem dX0_turnByOne_26 : decode cX0_turnByOne 26 = .ok (.iinc 1 1, 3) := by decide +kernel
theorem dX0_turnByOne_29 : decode cX0_turnByOne 29 = .ok (.goto (-27), 3) := by decide +kernel
theorem dX0_turnByOne_32 : decode cX0_turnByOne 32 = .ok (.iconst 0, 1) := by decide +kernel
theorem dX0_turnByOne_33 : decode cX0_turnByOne 33 = .ok (.istore_n 1, 1) := by decide +kernel
theorem dX0_turnByOne_34 : decode cX0_turnByOne 34 = .ok (.iload_n 1, 1) := by decide +kernel
theorem dX0_turnByOne_35 : decode cX0_turnByOne 35 = .ok (.aload_n 0, 1) := by decide +kernel
theorem dX0_turnByOne_36 : decode cX0_turnByOne 36 = .ok (.getfield 28, 3) := by decide +kernel
theorem dX0_turnByOne_39 : decode cX0_turnByOne 39 = .ok (.if_icmp .ge 46, 3) := by decide +kernel
theorem dX0_turnByOne_42 : decode cX0_turnByOne 42 = .ok (.aload_n 0, 1) := by decide +kernel
theorem dX0_turnByOne_43 : decode cX0_turnByOne 43 = .ok (.getfield 21, 3) := by decide +kernel
theorem dX0_turnByOne_46 : decode cX0_turnByOne 46 = .ok (.iload_n 1, 1) := by decide +kernel
theorem dX0_turnByOne_47 : decode cX0_turnByOne 47 = .ok (.aload_n 0, 1) := by decide +kernel
theorem dX0_turnByOne_48 : decode cX0_turnByOne 48 = .ok (.iload_n 1, 1) := by decide +kernel
theorem dX0_turnByOne_49 : decode cX0_turnByOne 49 = .ok (.invokevirtual 44, 3) := by decide +kernel
theorem dX0_turnByOne_52 : decode cX0_turnByOne 52 = .ok (.aload_n 0, 1) := by decide +kernel
theorem dX0_turnByOne_53 : decode cX0_turnByOne 53 = .ok (.iload_n 1, 1) := by decide +kernel
theorem dX0_turnByOne_54 : decode cX0_turnByOne 54 = .ok (.invokevirtual 48, 3) := by decide +kernel
theorem dX0_turnByOne_57 : decode cX0_turnByOne 57 = .ok (.iconst 1, 1) := by decide +kernel
theorem dX0_turnByOne_58 : decode cX0_turnByOne 58 = .ok (.invokestatic 113, 3) := by decide +kernel
theorem dX0_turnByOne_61 : decode cX0_turnByOne 61 = .ok (.aload_n 0, 1) := by decide +kernel
theorem dX0_turnByOne_62 : decode cX0_turnByOne 62 = .ok (.iload_n 1, 1) := by decide +kernel
theorem dX0_turnByOne_63 : decode cX0_turnByOne 63 = .ok (.invokevirtual 51, 3) := by decide +kernel
theorem dX0_turnByOne_66 : decode cX0_turnByOne 66 = .ok (.iconst 1, 1) := by decide +kernel
theorem dX0_turnByOne_67 : decode cX0_turnByOne 67 = .ok (.invokestatic 113, 3) := by decide +kernel
theorem dX0_turnByOne_70 : decode cX0_turnByOne 70 = .ok (.aload_n 0, 1) := by decide +kernel
theorem dX0_turnByOne_71 : decode cX0_turnByOne 71 = .ok (.iload_n 1, 1) := by decide +kernel
theorem dX0_turnByOne_72 : decode cX0_turnByOne 72 = .ok (.invokevirtual 101, 3) := by decide +kernel
theorem dX0_turnByOne_75 : decode cX0_turnByOne 75 = .ok (.invokestatic 110, 3) := by decide +kernel
theorem dX0_turnByOne_78 : decode cX0_turnByOne 78 = .ok (.iastore, 1) := by decide +kernel
theorem dX0_turnByOne_79 : decode cX0_turnByOne 79 = .ok (.iinc 1 1, 3) := by decide +kernel
theorem dX0_turnByOne_82 : decode cX0_turnByOne 82 = .ok (.goto (-48), 3) := by decide +kernel
theorem dX0_turnByOne_85 : decode cX0_turnByOne 85 = .ok (.return_, 1) := by decide +kernel
theorem dX0_turnOver_0 : decode cX0_turnOver 0 = .ok (.iconst 0, 1) := by decide +kernel
theorem dX0_turnOver_1 : decode cX0_turnOver 1 = .ok (.istore_n 1, 1) := by decide +kernel
theorem dX0_turnOver_2 : decode cX0_turnOver 2 = .ok (.iload_n 1, 1) := by decide +kernel
theorem dX0_turnOver_3 : decode cX0_turnOver 3 = .ok (.aload_n 0, 1) := by decide +kernel
theorem dX0_turnOver_4 : decode cX0_turnOver 4 = .ok (.getfield 24, 3) := by decide +kernel
