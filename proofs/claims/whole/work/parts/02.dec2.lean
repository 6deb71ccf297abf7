theorem dX0_turnOver_7 : decode cX0_turnOver 7 = .ok (.if_icmp .ge 26, 3) := by decide +kernel
theorem dX0_turnOver_10 : decode cX0_turnOver 10 = .ok (.aload_n 0, 1) := by decide +kernel
theorem dX0_turnOver_11 : decode cX0_turnOver 11 = .ok (.getfield 15, 3) := by decide +kernel
theorem dX0_turnOver_14 : decode cX0_turnOver 14 = .ok (.iload_n 1, 1) := by decide +kernel
theorem dX0_turnOver_15 : decode cX0_turnOver 15 = .ok (.iconst 0, 1) := by decide +kernel
theorem dX0_turnOver_16 : decode cX0_turnOver 16 = .ok (.aload_n 0, 1) := by decide +kernel
theorem dX0_turnOver_17 : decode cX0_turnOver 17 = .ok (.getfield 15, 3) := by decide +kernel
theorem dX0_turnOver_20 : decode cX0_turnOver 20 = .ok (.iload_n 1, 1) := by decide +kernel
theorem dX0_turnOver_21 : decode cX0_turnOver 21 = .ok (.iaload, 1) := by decide +kernel
theorem dX0_turnOver_22 : decode cX0_turnOver 22 = .ok (.ineg, 1) := by decide +kernel
theorem dX0_turnOver_23 : decode cX0_turnOver 23 = .ok (.invokestatic 113, 3) := by decide +kernel
theorem dX0_turnOver_26 : decode cX0_turnOver 26 = .ok (.iastore, 1) := by decide +kernel
theorem dX0_turnOver_27 : decode cX0_turnOver 27 = .ok (.iinc 1 1, 3) := by decide +kernel
theorem dX0_turnOver_30 : decode cX0_turnOver 30 = .ok (.goto (-28), 3) := by decide +kernel
theorem dX0_turnOver_33 : decode cX0_turnOver 33 = .ok (.iconst 0, 1) := by decide +kernel
theorem dX0_turnOver_34 : decode cX0_turnOver 34 = .ok (.istore_n 1, 1) := by decide +kernel
theorem dX0_turnOver_35 : decode cX0_turnOver 35 = .ok (.iload_n 1, 1) := by decide +kernel
theorem dX0_turnOver_36 : decode cX0_turnOver 36 = .ok (.aload_n 0, 1) := by decide +kernel
theorem dX0_turnOver_37 : decode cX0_turnOver 37 = .ok (.getfield 28, 3) := by decide +kernel
theorem dX0_turnOver_40 : decode cX0_turnOver 40 = .ok (.if_icmp .ge 48, 3) := by decide +kernel
theorem dX0_turnOver_43 : decode cX0_turnOver 43 = .ok (.aload_n 0, 1) := by decide +kernel
theorem dX0_turnOver_44 : decode cX0_turnOver 44 = .ok (.getfield 21, 3) := by decide +kernel
theorem dX0_turnOver_47 : decode cX0_turnOver 47 = .ok (.iload_n 1, 1) := by decide +kernel
theorem dX0_turnOver_48 : decode cX0_turnOver 48 = .ok (.aload_n 0, 1) := by decide +kernel
theorem dX0_turnOver_49 : decode cX0_turnOver 49 = .ok (.iload_n 1, 1) := by decide +kernel
theorem dX0_turnOver_50 : decode cX0_turnOver 50 = .ok (.invokevirtual 44, 3) := by decide +kernel
theorem dX0_turnOver_53 : decode cX0_turnOver 53 = .ok (.iconst 0, 1) := by decide +kernel
theorem dX0_turnOver_54 : decode cX0_turnOver 54 = .ok (.aload_n 0, 1) := by decide +kernel
theorem dX0_turnOver_55 : decode cX0_turnOver 55 = .ok (.iload_n 1, 1) := by decide +kernel
theorem dX0_turnOver_56 : decode cX0_turnOver 56 = .ok (.invokevirtual 48, 3) := by decide +kernel
theorem dX0_turnOver_59 : decode cX0_turnOver 59 = .ok (.ineg, 1) := by decide +kernel
theorem dX0_turnOver_60 : decode cX0_turnOver 60 = .ok (.invokestatic 113, 3) := by decide +kernel
theorem dX0_turnOver_63 : decode cX0_turnOver 63 = .ok (.iconst 0, 1) := by decide +kernel
theorem dX0_turnOver_64 : decode cX0_turnOver 64 = .ok (.aload_n 0, 1) := by decide +kernel
theorem dX0_turnOver_65 : decode cX0_turnOver 65 = .ok (.iload_n 1, 1) := by decide +kernel
theorem dX0_turnOver_66 : decode cX0_turnOver 66 = .ok (.invokevirtual 51, 3) := by decide +kernel
theorem dX0_turnOver_69 : decode cX0_turnOver 69 = .ok (.ineg, 1) := by decide +kernel
theorem dX0_turnOver_70 : decode cX0_turnOver 70 = .ok (.invokestatic 113, 3) := by decide +kernel
theorem dX0_turnOver_73 : decode cX0_turnOver 73 = .ok (.aload_n 0, 1) := by decide +kernel
theorem dX0_turnOver_74 : decode cX0_turnOver 74 = .ok (.iload_n 1, 1) := by decide +kernel
theorem dX0_turnOver_75 : decode cX0_turnOver 75 = .ok (.invokevirtual 101, 3) := by decide +kernel
theorem dX0_turnOver_78 : decode cX0_turnOver 78 = .ok (.invokestatic 110, 3) := by decide +kernel
theorem dX0_turnOver_81 : decode cX0_turnOver 81 = .ok (.iastore, 1) := by decide +kernel
theorem dX0_turnOver_82 : decode cX0_turnOver 82 = .ok (.iinc 1 1, 3) := by decide +kernel
theorem dX0_turnOver_85 : decode cX0_turnOver 85 = .ok (.goto (-50), 3) := by decide +kernel
theorem dX0_turnOver_88 : decode cX0_turnOver 88 = .ok (.iconst 0, 1) := by decide +kernel
theorem dX0_turnOver_89 : decode cX0_turnOver 89 = .ok (.istore_n 1, 1) := by decide +kernel
theorem dX0_turnOver_90 : decode cX0_turnOver 90 = .ok (.aload_n 0, 1) := by decide +kernel
theorem dX0_turnOver_91 : decode cX0_turnOver 91 = .ok (.getfield 28, 3) := by decide +kernel
theorem dX0_turnOver_94 : decode cX0_turnOver 94 = .ok (.iconst 1, 1) := by decide +kernel
theorem dX0_turnOver_95 : decode cX0_turnOver 95 = .ok (.isub, 1) := by decide +kernel
theorem dX0_turnOver_96 : decode cX0_turnOver 96 = .ok (.istore_n 2, 1) := by decide +kernel
theorem dX0_turnOver_97 : decode cX0_turnOver 97 = .ok (.iload_n 1, 1) := by decide +kernel
theorem dX0_turnOver_98 : decode cX0_turnOver 98 = .ok (.iload_n 2, 1) := by decide +kernel
theorem dX0_turnOver_99 : decode cX0_turnOver 99 = .ok (.if_icmp .ge 38, 3) := by decide +kernel
theorem dX0_turnOver_102 : decode cX0_turnOver 102 = .ok (.aload_n 0, 1) := by decide +kernel
theorem dX0_turnOver_103 : decode cX0_turnOver 103 = .ok (.getfield 21, 3) := by decide +kernel
theorem dX0_turnOver_106 : decode cX0_turnOver 106 = .ok (.iload_n 1, 1) := by decide +kernel
theorem dX0_turnOver_107 : decode cX0_turnOver 107 = .ok (.iaload, 1) := by decide +kernel
theorem dX0_turnOver_108 : decode cX0_turnOver 108 = .ok (.istore_n 3, 1) := by decide +kernel
theorem dX0_turnOver_109 : decode cX0_turnOver 109 = .ok (.aload_n 0, 1) := by decide +kernel
theorem dX0_turnOver_110 : decode cX0_turnOver 110 = .ok (.getfield 21, 3) := by decide +kernel
theorem dX0_turnOver_113 : decode cX0_turnOver 113 = .ok (.iload_n 1, 1) := by decide +kernel
theorem dX0_turnOver_114 : decode cX0_turnOver 114 = .ok (.aload_n 0, 1) := by decide +kernel
theorem dX0_turnOver_115 : decode cX0_turnOver 115 = .ok (.getfield 21, 3) := by decide +kernel
theorem dX0_turnOver_118 : decode cX0_turnOver 118 = .ok (.iload_n 2, 1) := by decide +kernel
theorem dX0_turnOver_119 : decode cX0_turnOver 119 = .ok (.iaload, 1) := by decide +kernel
theorem dX0_turnOver_120 : decode cX0_turnOver 120 = .ok (.iastore, 1) := by decide +kernel
theorem dX0_turnOver_121 : decode cX0_turnOver 121 = .ok (.aload_n 0, 1) := by decide +kernel
theorem dX0_turnOver_122 : decode cX0_turnOver 122 = .ok (.getfield 21, 3) := by decide +kernel
theorem dX0_turnOver_125 : decode cX0_turnOver 125 = .ok (.iload_n 2, 1) := by decide +kernel
theorem dX0_turnOver_126 : decode cX0_turnOver 126 = .ok (.iload_n 3, 1) := by decide +kernel
theorem dX0_turnOver_127 : decode cX0_turnOver 127 = .ok (.iastore, 1) := by decide +kernel
theorem dX0_turnOver_128 : decode cX0_turnOver 128 = .ok (.iinc 1 1, 3) := by decide +kernel
theorem dX0_turnOver_131 : decode cX0_turnOver 131 = .ok (.iinc 2 (-1), 3) := by decide +kernel
theorem dX0_turnOver_134 : decode cX0_turnOver 134 = .ok (.goto (-37), 3) := by decide +kernel
theorem dX0_turnOver_137 : decode cX0_turnOver 137 = .ok (.return_, 1) := by decide +kernel
theorem dX1_init_0 : decode cX1_init 0 = .ok (.aload_n 0, 1) := by decide +kernel
theorem dX1_init_1 : decode cX1_init 1 = .ok (.invokespecial 3, 3) := by decide +kernel
theorem dX1_init_4 : decode cX1_init 4 = .ok (.aload_n 0, 1) := by decide +kernel
theorem dX1_init_5 : decode cX1_init 5 = .ok (.bipush 16, 2) := by decide +kernel
theorem dX1_init_7 : decode cX1_init 7 = .ok (.newarray .int, 2) := by decide +kernel
theorem dX1_init_9 : decode cX1_init 9 = .ok (.putfield 9, 3) := by decide +kernel
theorem dX1_init_12 : decode cX1_init 12 = .ok (.return_, 1) := by decide +kernel
theorem dX1_toldFraction_0 : decode cX1_toldFraction 0 = .ok (.iconst 1, 1) := by decide +kernel
theorem dX1_toldFraction_1 : decode cX1_toldFraction 1 = .ok (.iload_n 0, 1) := by decide +kernel
theorem dX1_toldFraction_2 : decode cX1_toldFraction 2 = .ok (.iload_n 1, 1) := by decide +kernel
theorem dX1_toldFraction_3 : decode cX1_toldFraction 3 = .ok (.invokestatic 15, 3) := by decide +kernel
theorem dX1_toldFraction_6 : decode cX1_toldFraction 6 = .ok (.invokestatic 19, 3) := by decide +kernel
theorem dX1_toldFraction_9 : decode cX1_toldFraction 9 = .ok (.istore_n 3, 1) := by decide +kernel
theorem dX1_toldFraction_10 : decode cX1_toldFraction 10 = .ok (.iload_n 2, 1) := by decide +kernel
theorem dX1_toldFraction_11 : decode cX1_toldFraction 11 = .ok (.ifCond .eq 9, 3) := by decide +kernel
theorem dX1_toldFraction_14 : decode cX1_toldFraction 14 = .ok (.iload_n 0, 1) := by decide +kernel
theorem dX1_toldFraction_15 : decode cX1_toldFraction 15 = .ok (.iload_n 3, 1) := by decide +kernel
theorem dX1_toldFraction_16 : decode cX1_toldFraction 16 = .ok (.idiv, 1) := by decide +kernel
theorem dX1_toldFraction_17 : decode cX1_toldFraction 17 = .ok (.goto 6, 3) := by decide +kernel
theorem dX1_toldFraction_20 : decode cX1_toldFraction 20 = .ok (.iload_n 1, 1) := by decide +kernel
theorem dX1_toldFraction_21 : decode cX1_toldFraction 21 = .ok (.iload_n 3, 1) := by decide +kernel
theorem dX1_toldFraction_22 : decode cX1_toldFraction 22 = .ok (.idiv, 1) := by decide +kernel
theorem dX1_toldFraction_23 : decode cX1_toldFraction 23 = .ok (.ireturn, 1) := by decide +kernel
theorem dX1_commonDivisor_0 : decode cX1_commonDivisor 0 = .ok (.iload_n 0, 1) := by decide +kernel
theorem dX1_commonDivisor_1 : decode cX1_commonDivisor 1 = .ok (.istore_n 2, 1) := by decide +kernel
theorem dX1_commonDivisor_2 : decode cX1_commonDivisor 2 = .ok (.iload_n 1, 1) := by decide +kernel
theorem dX1_commonDivisor_3 : decode cX1_commonDivisor 3 = .ok (.istore_n 3, 1) := by decide +kernel
theorem dX1_commonDivisor_4 : decode cX1_commonDivisor 4 = .ok (.iconst 0, 1) := by decide +kernel
theorem dX1_commonDivisor_5 : decode cX1_commonDivisor 5 = .ok (.istore 4, 2) := by decide +kernel
theorem dX1_commonDivisor_7 : decode cX1_commonDivisor 7 = .ok (.iload 4, 2) := by decide +kernel
theorem dX1_commonDivisor_9 : decode cX1_commonDivisor 9 = .ok (.bipush 64, 2) := by decide +kernel
theorem dX1_commonDivisor_11 : decode cX1_commonDivisor 11 = .ok (.if_icmp .ge 23, 3) := by decide +kernel
theorem dX1_commonDivisor_14 : decode cX1_commonDivisor 14 = .ok (.iload_n 3, 1) := by decide +kernel
theorem dX1_commonDivisor_15 : decode cX1_commonDivisor 15 = .ok (.ifCond .eq 19, 3) := by decide +kernel
theorem dX1_commonDivisor_18 : decode cX1_commonDivisor 18 = .ok (.iload_n 2, 1) := by decide +kernel
theorem dX1_commonDivisor_19 : decode cX1_commonDivisor 19 = .ok (.iload_n 3, 1) := by decide +kernel
theorem dX1_commonDivisor_20 : decode cX1_commonDivisor 20 = .ok (.irem, 1) := by decide +kernel
theorem dX1_commonDivisor_21 : decode cX1_commonDivisor 21 = .ok (.istore 5, 2) := by decide +kernel
theorem dX1_commonDivisor_23 : decode cX1_commonDivisor 23 = .ok (.iload_n 3, 1) := by decide +kernel
theorem dX1_commonDivisor_24 : decode cX1_commonDivisor 24 = .ok (.istore_n 2, 1) := by decide +kernel
theorem dX1_commonDivisor_25 : decode cX1_commonDivisor 25 = .ok (.iload 5, 2) := by decide +kernel
theorem dX1_commonDivisor_27 : decode cX1_commonDivisor 27 = .ok (.istore_n 3, 1) := by decide +kernel
theorem dX1_commonDivisor_28 : decode cX1_commonDivisor 28 = .ok (.iinc 4 1, 3) := by decide +kernel
theorem dX1_commonDivisor_31 : decode cX1_commonDivisor 31 = .ok (.goto (-24), 3) := by decide +kernel
theorem dX1_commonDivisor_34 : decode cX1_commonDivisor 34 = .ok (.iload_n 2, 1) := by decide +kernel
theorem dX1_commonDivisor_35 : decode cX1_commonDivisor 35 = .ok (.invokestatic 24, 3) := by decide +kernel
theorem dX1_commonDivisor_38 : decode cX1_commonDivisor 38 = .ok (.ireturn, 1) := by decide +kernel
theorem dX1_twiceShare_0 : decode cX1_twiceShare 0 = .ok (.iconst 0, 1) := by decide +kernel
theorem dX1_twiceShare_1 : decode cX1_twiceShare 1 = .ok (.istore_n 2, 1) := by decide +kernel
theorem dX1_twiceShare_2 : decode cX1_twiceShare 2 = .ok (.iconst 0, 1) := by decide +kernel
theorem dX1_twiceShare_3 : decode cX1_twiceShare 3 = .ok (.istore_n 3, 1) := by decide +kernel
theorem dX1_twiceShare_4 : decode cX1_twiceShare 4 = .ok (.iload_n 3, 1) := by decide +kernel
theorem dX1_twiceShare_5 : decode cX1_twiceShare 5 = .ok (.aload_n 0, 1) := by decide +kernel
theorem dX1_twiceShare_6 : decode cX1_twiceShare 6 = .ok (.invokevirtual 28, 3) := by decide +kernel
theorem dX1_twiceShare_9 : decode cX1_twiceShare 9 = .ok (.if_icmp .ge 34, 3) := by decide +kernel
theorem dX1_twiceShare_12 : decode cX1_twiceShare 12 = .ok (.aload_n 0, 1) := by decide +kernel
theorem dX1_twiceShare_13 : decode cX1_twiceShare 13 = .ok (.iload_n 1, 1) := by decide +kernel
theorem dX1_twiceShare_14 : decode cX1_twiceShare 14 = .ok (.iload_n 3, 1) := by decide +kernel
theorem dX1_twiceShare_15 : decode cX1_twiceShare 15 = .ok (.invokevirtual 34, 3) := by decide +kernel
theorem dX1_twiceShare_18 : decode cX1_twiceShare 18 = .ok (.istore 4, 2) := by decide +kernel
theorem dX1_twiceShare_20 : decode cX1_twiceShare 20 = .ok (.iload_n 2, 1) := by decide +kernel
theorem dX1_twiceShare_21 : decode cX1_twiceShare 21 = .ok (.iload_n 3, 1) := by decide +kernel
theorem dX1_twiceShare_22 : decode cX1_twiceShare 22 = .ok (.iload_n 1, 1) := by decide +kernel
theorem dX1_twiceShare_23 : decode cX1_twiceShare 23 = .ok (.if_icmp .ne 10, 3) := by decide +kernel
theorem dX1_twiceShare_26 : decode cX1_twiceShare 26 = .ok (.iconst 2, 1) := by decide +kernel
theorem dX1_twiceShare_27 : decode cX1_twiceShare 27 = .ok (.iload 4, 2) := by decide +kernel
theorem dX1_twiceShare_29 : decode cX1_twiceShare 29 = .ok (.imul, 1) := by decide +kernel
theorem dX1_twiceShare_30 : decode cX1_twiceShare 30 = .ok (.goto 5, 3) := by decide +kernel
theorem dX1_twiceShare_33 : decode cX1_twiceShare 33 = .ok (.iload 4, 2) := by decide +kernel
theorem dX1_twiceShare_35 : decode cX1_twiceShare 35 = .ok (.iadd, 1) := by decide +kernel
theorem dX1_twiceShare_36 : decode cX1_twiceShare 36 = .ok (.istore_n 2, 1) := by decide +kernel
theorem dX1_twiceShare_37 : decode cX1_twiceShare 37 = .ok (.iinc 3 1, 3) := by decide +kernel
theorem dX1_twiceShare_40 : decode cX1_twiceShare 40 = .ok (.goto (-36), 3) := by decide +kernel
theorem dX1_twiceShare_43 : decode cX1_twiceShare 43 = .ok (.iload_n 2, 1) := by decide +kernel
theorem dX1_twiceShare_44 : decode cX1_twiceShare 44 = .ok (.ireturn, 1) := by decide +kernel
theorem dX1_allWeight_0 : decode cX1_allWeight 0 = .ok (.iconst 1, 1) := by decide +kernel
theorem dX1_allWeight_1 : decode cX1_allWeight 1 = .ok (.istore_n 1, 1) := by decide +kernel
theorem dX1_allWeight_2 : decode cX1_allWeight 2 = .ok (.iconst 0, 1) := by decide +kernel
theorem dX1_allWeight_3 : decode cX1_allWeight 3 = .ok (.istore_n 2, 1) := by decide +kernel
theorem dX1_allWeight_4 : decode cX1_allWeight 4 = .ok (.iload_n 2, 1) := by decide +kernel
theorem dX1_allWeight_5 : decode cX1_allWeight 5 = .ok (.aload_n 0, 1) := by decide +kernel
theorem dX1_allWeight_6 : decode cX1_allWeight 6 = .ok (.invokevirtual 28, 3) := by decide +kernel
theorem dX1_allWeight_9 : decode cX1_allWeight 9 = .ok (.if_icmp .ge 14, 3) := by decide +kernel
theorem dX1_allWeight_12 : decode cX1_allWeight 12 = .ok (.iload_n 1, 1) := by decide +kernel
theorem dX1_allWeight_13 : decode cX1_allWeight 13 = .ok (.bipush 10, 2) := by decide +kernel
theorem dX1_allWeight_15 : decode cX1_allWeight 15 = .ok (.imul, 1) := by decide +kernel
theorem dX1_allWeight_16 : decode cX1_allWeight 16 = .ok (.istore_n 1, 1) := by decide +kernel
theorem dX1_allWeight_17 : decode cX1_allWeight 17 = .ok (.iinc 2 1, 3) := by decide +kernel
theorem dX1_allWeight_20 : decode cX1_allWeight 20 = .ok (.goto (-16), 3) := by decide +kernel
theorem dX1_allWeight_23 : decode cX1_allWeight 23 = .ok (.iload_n 1, 1) := by decide +kernel
theorem dX1_allWeight_24 : decode cX1_allWeight 24 = .ok (.ireturn, 1) := by decide +kernel
theorem dX1_weightOfSnaps_0 : decode cX1_weightOfSnaps 0 = .ok (.aload_n 0, 1) := by decide +kernel
theorem dX1_weightOfSnaps_1 : decode cX1_weightOfSnaps 1 = .ok (.aload_n 1, 1) := by decide +kernel
theorem dX1_weightOfSnaps_2 : decode cX1_weightOfSnaps 2 = .ok (.invokevirtual 37, 3) := by decide +kernel
theorem dX1_weightOfSnaps_5 : decode cX1_weightOfSnaps 5 = .ok (.iconst 0, 1) := by decide +kernel
theorem dX1_weightOfSnaps_6 : decode cX1_weightOfSnaps 6 = .ok (.istore 4, 2) := by decide +kernel
theorem dX1_weightOfSnaps_8 : decode cX1_weightOfSnaps 8 = .ok (.iconst 0, 1) := by decide +kernel
theorem dX1_weightOfSnaps_9 : decode cX1_weightOfSnaps 9 = .ok (.istore 5, 2) := by decide +kernel
theorem dX1_weightOfSnaps_11 : decode cX1_weightOfSnaps 11 = .ok (.iload 5, 2) := by decide +kernel
theorem dX1_weightOfSnaps_13 : decode cX1_weightOfSnaps 13 = .ok (.iconst 1, 1) := by decide +kernel
theorem dX1_weightOfSnaps_14 : decode cX1_weightOfSnaps 14 = .ok (.aload_n 1, 1) := by decide +kernel
theorem dX1_weightOfSnaps_15 : decode cX1_weightOfSnaps 15 = .ok (.invokevirtual 28, 3) := by decide +kernel
theorem dX1_weightOfSnaps_18 : decode cX1_weightOfSnaps 18 = .ok (.ishl, 1) := by decide +kernel
theorem dX1_weightOfSnaps_19 : decode cX1_weightOfSnaps 19 = .ok (.if_icmp .ge 31, 3) := by decide +kernel
theorem dX1_weightOfSnaps_22 : decode cX1_weightOfSnaps 22 = .ok (.aload_n 0, 1) := by decide +kernel
theorem dX1_weightOfSnaps_23 : decode cX1_weightOfSnaps 23 = .ok (.iload 5, 2) := by decide +kernel
theorem dX1_weightOfSnaps_25 : decode cX1_weightOfSnaps 25 = .ok (.invokevirtual 41, 3) := by decide +kernel
theorem dX1_weightOfSnaps_28 : decode cX1_weightOfSnaps 28 = .ok (.iload_n 2, 1) := by decide +kernel
theorem dX1_weightOfSnaps_29 : decode cX1_weightOfSnaps 29 = .ok (.if_icmp .lt 15, 3) := by decide +kernel
theorem dX1_weightOfSnaps_32 : decode cX1_weightOfSnaps 32 = .ok (.iload 4, 2) := by decide +kernel
theorem dX1_weightOfSnaps_34 : decode cX1_weightOfSnaps 34 = .ok (.aload_n 1, 1) := by decide +kernel
theorem dX1_weightOfSnaps_35 : decode cX1_weightOfSnaps 35 = .ok (.iload 5, 2) := by decide +kernel
theorem dX1_weightOfSnaps_37 : decode cX1_weightOfSnaps 37 = .ok (.iload_n 3, 1) := by decide +kernel
theorem dX1_weightOfSnaps_38 : decode cX1_weightOfSnaps 38 = .ok (.invokestatic 44, 3) := by decide +kernel
theorem dX1_weightOfSnaps_41 : decode cX1_weightOfSnaps 41 = .ok (.iadd, 1) := by decide +kernel
theorem dX1_weightOfSnaps_42 : decode cX1_weightOfSnaps 42 = .ok (.istore 4, 2) := by decide +kernel
theorem dX1_weightOfSnaps_44 : decode cX1_weightOfSnaps 44 = .ok (.iinc 5 1, 3) := by decide +kernel
theorem dX1_weightOfSnaps_47 : decode cX1_weightOfSnaps 47 = .ok (.goto (-36), 3) := by decide +kernel
theorem dX1_weightOfSnaps_50 : decode cX1_weightOfSnaps 50 = .ok (.iload 4, 2) := by decide +kernel
theorem dX1_weightOfSnaps_52 : decode cX1_weightOfSnaps 52 = .ok (.ireturn, 1) := by decide +kernel
theorem dX1_countBetween_0 : decode cX1_countBetween 0 = .ok (.iconst 0, 1) := by decide +kernel
theorem dX1_countBetween_1 : decode cX1_countBetween 1 = .ok (.istore_n 2, 1) := by decide +kernel
theorem dX1_countBetween_2 : decode cX1_countBetween 2 = .ok (.iload_n 2, 1) := by decide +kernel
theorem dX1_countBetween_3 : decode cX1_countBetween 3 = .ok (.iconst 4, 1) := by decide +kernel
theorem dX1_countBetween_4 : decode cX1_countBetween 4 = .ok (.if_icmp .ge 38, 3) := by decide +kernel
theorem dX1_countBetween_7 : decode cX1_countBetween 7 = .ok (.iload_n 2, 1) := by decide +kernel
theorem dX1_countBetween_8 : decode cX1_countBetween 8 = .ok (.istore_n 3, 1) := by decide +kernel
theorem dX1_countBetween_9 : decode cX1_countBetween 9 = .ok (.iload_n 3, 1) := by decide +kernel
theorem dX1_countBetween_10 : decode cX1_countBetween 10 = .ok (.iconst 4, 1) := by decide +kernel
theorem dX1_countBetween_11 : decode cX1_countBetween 11 = .ok (.if_icmp .ge 25, 3) := by decide +kernel
theorem dX1_countBetween_14 : decode cX1_countBetween 14 = .ok (.aload_n 0, 1) := by decide +kernel
theorem dX1_countBetween_15 : decode cX1_countBetween 15 = .ok (.getfield 9, 3) := by decide +kernel
theorem dX1_countBetween_18 : decode cX1_countBetween 18 = .ok (.iload_n 2, 1) := by decide +kernel
theorem dX1_countBetween_19 : decode cX1_countBetween 19 = .ok (.iconst 4, 1) := by decide +kernel
theorem dX1_countBetween_20 : decode cX1_countBetween 20 = .ok (.imul, 1) := by decide +kernel
theorem dX1_countBetween_21 : decode cX1_countBetween 21 = .ok (.iload_n 3, 1) := by decide +kernel
theorem dX1_countBetween_22 : decode cX1_countBetween 22 = .ok (.iadd, 1) := by decide +kernel
theorem dX1_countBetween_23 : decode cX1_countBetween 23 = .ok (.aload_n 1, 1) := by decide +kernel
theorem dX1_countBetween_24 : decode cX1_countBetween 24 = .ok (.iload_n 2, 1) := by decide +kernel
theorem dX1_countBetween_25 : decode cX1_countBetween 25 = .ok (.iload_n 3, 1) := by decide +kernel
theorem dX1_countBetween_26 : decode cX1_countBetween 26 = .ok (.invokevirtual 34, 3) := by decide +kernel
theorem dX1_countBetween_29 : decode cX1_countBetween 29 = .ok (.iastore, 1) := by decide +kernel
theorem dX1_countBetween_30 : decode cX1_countBetween 30 = .ok (.iinc 3 1, 3) := by decide +kernel
theorem dX1_countBetween_33 : decode cX1_countBetween 33 = .ok (.goto (-24), 3) := by decide +kernel
theorem dX1_countBetween_36 : decode cX1_countBetween 36 = .ok (.iinc 2 1, 3) := by decide +kernel
theorem dX1_countBetween_39 : decode cX1_countBetween 39 = .ok (.goto (-37), 3) := by decide +kernel
theorem dX1_countBetween_42 : decode cX1_countBetween 42 = .ok (.return_, 1) := by decide +kernel
theorem dX1_crossingsAmong_0 : decode cX1_crossingsAmong 0 = .ok (.iconst 0, 1) := by decide +kernel
theorem dX1_crossingsAmong_1 : decode cX1_crossingsAmong 1 = .ok (.istore_n 2, 1) := by decide +kernel
theorem dX1_crossingsAmong_2 : decode cX1_crossingsAmong 2 = .ok (.iconst 0, 1) := by decide +kernel
theorem dX1_crossingsAmong_3 : decode cX1_crossingsAmong 3 = .ok (.istore_n 3, 1) := by decide +kernel
theorem dX1_crossingsAmong_4 : decode cX1_crossingsAmong 4 = .ok (.iload_n 3, 1) := by decide +kernel
theorem dX1_crossingsAmong_5 : decode cX1_crossingsAmong 5 = .ok (.iconst 4, 1) := by decide +kernel
theorem dX1_crossingsAmong_6 : decode cX1_crossingsAmong 6 = .ok (.if_icmp .ge 57, 3) := by decide +kernel
theorem dX1_crossingsAmong_9 : decode cX1_crossingsAmong 9 = .ok (.iload_n 3, 1) := by decide +kernel
theorem dX1_crossingsAmong_10 : decode cX1_crossingsAmong 10 = .ok (.istore 4, 2) := by decide +kernel
theorem dX1_crossingsAmong_12 : decode cX1_crossingsAmong 12 = .ok (.iload 4, 2) := by decide +kernel
theorem dX1_crossingsAmong_14 : decode cX1_crossingsAmong 14 = .ok (.iconst 4, 1) := by decide +kernel
theorem dX1_crossingsAmong_15 : decode cX1_crossingsAmong 15 = .ok (.if_icmp .ge 42, 3) := by decide +kernel
theorem dX1_crossingsAmong_18 : decode cX1_crossingsAmong 18 = .ok (.iload_n 1, 1) := by decide +kernel
theorem dX1_crossingsAmong_19 : decode cX1_crossingsAmong 19 = .ok (.iload_n 3, 1) := by decide +kernel
theorem dX1_crossingsAmong_20 : decode cX1_crossingsAmong 20 = .ok (.ishr, 1) := by decide +kernel
theorem dX1_crossingsAmong_21 : decode cX1_crossingsAmong 21 = .ok (.iconst 1, 1) := by decide +kernel
theorem dX1_crossingsAmong_22 : decode cX1_crossingsAmong 22 = .ok (.iand, 1) := by decide +kernel
theorem dX1_crossingsAmong_23 : decode cX1_crossingsAmong 23 = .ok (.iconst 1, 1) := by decide +kernel
theorem dX1_crossingsAmong_24 : decode cX1_crossingsAmong 24 = .ok (.if_icmp .ne 27, 3) := by decide +kernel
theorem dX1_crossingsAmong_27 : decode cX1_crossingsAmong 27 = .ok (.iload_n 1, 1) := by decide +kernel
theorem dX1_crossingsAmong_28 : decode cX1_crossingsAmong 28 = .ok (.iload 4, 2) := by decide +kernel
theorem dX1_crossingsAmong_30 : decode cX1_crossingsAmong 30 = .ok (.ishr, 1) := by decide +kernel
theorem dX1_crossingsAmong_31 : decode cX1_crossingsAmong 31 = .ok (.iconst 1, 1) := by decide +kernel
theorem dX1_crossingsAmong_32 : decode cX1_crossingsAmong 32 = .ok (.iand, 1) := by decide +kernel
theorem dX1_crossingsAmong_33 : decode cX1_crossingsAmong 33 = .ok (.iconst 1, 1) := by decide +kernel
theorem dX1_crossingsAmong_34 : decode cX1_crossingsAmong 34 = .ok (.if_icmp .ne 17, 3) := by decide +kernel
theorem dX1_crossingsAmong_37 : decode cX1_crossingsAmong 37 = .ok (.iload_n 2, 1) := by decide +kernel
theorem dX1_crossingsAmong_38 : decode cX1_crossingsAmong 38 = .ok (.aload_n 0, 1) := by decide +kernel
theorem dX1_crossingsAmong_39 : decode cX1_crossingsAmong 39 = .ok (.getfield 9, 3) := by decide +kernel
theorem dX1_crossingsAmong_42 : decode cX1_crossingsAmong 42 = .ok (.iload_n 3, 1) := by decide +kernel
theorem dX1_crossingsAmong_43 : decode cX1_crossingsAmong 43 = .ok (.iconst 4, 1) := by decide +kernel
theorem dX1_crossingsAmong_44 : decode cX1_crossingsAmong 44 = .ok (.imul, 1) := by decide +kernel
theorem dX1_crossingsAmong_45 : decode cX1_crossingsAmong 45 = .ok (.iload 4, 2) := by decide +kernel
theorem dX1_crossingsAmong_47 : decode cX1_crossingsAmong 47 = .ok (.iadd, 1) := by decide +kernel
theorem dX1_crossingsAmong_48 : decode cX1_crossingsAmong 48 = .ok (.iaload, 1) := by decide +kernel
theorem dX1_crossingsAmong_49 : decode cX1_crossingsAmong 49 = .ok (.iadd, 1) := by decide +kernel
theorem dX1_crossingsAmong_50 : decode cX1_crossingsAmong 50 = .ok (.istore_n 2, 1) := by decide +kernel
theorem dX1_crossingsAmong_51 : decode cX1_crossingsAmong 51 = .ok (.iinc 4 1, 3) := by decide +kernel
theorem dX1_crossingsAmong_54 : decode cX1_crossingsAmong 54 = .ok (.goto (-42), 3) := by decide +kernel
theorem dX1_crossingsAmong_57 : decode cX1_crossingsAmong 57 = .ok (.iinc 3 1, 3) := by decide +kernel
theorem dX1_crossingsAmong_60 : decode cX1_crossingsAmong 60 = .ok (.goto (-56), 3) := by decide +kernel
theorem dX1_crossingsAmong_63 : decode cX1_crossingsAmong 63 = .ok (.iload_n 2, 1) := by decide +kernel
theorem dX1_crossingsAmong_64 : decode cX1_crossingsAmong 64 = .ok (.ireturn, 1) := by decide +kernel
theorem dX1_weightOf_0 : decode cX1_weightOf 0 = .ok (.iconst 1, 1) := by decide +kernel
theorem dX1_weightOf_1 : decode cX1_weightOf 1 = .ok (.istore_n 3, 1) := by decide +kernel
theorem dX1_weightOf_2 : decode cX1_weightOf 2 = .ok (.iconst 0, 1) := by decide +kernel
theorem dX1_weightOf_3 : decode cX1_weightOf 3 = .ok (.istore 4, 2) := by decide +kernel
theorem dX1_weightOf_5 : decode cX1_weightOf 5 = .ok (.iload 4, 2) := by decide +kernel
theorem dX1_weightOf_7 : decode cX1_weightOf 7 = .ok (.aload_n 0, 1) := by decide +kernel
theorem dX1_weightOf_8 : decode cX1_weightOf 8 = .ok (.invokevirtual 28, 3) := by decide +kernel
theorem dX1_weightOf_11 : decode cX1_weightOf 11 = .ok (.if_icmp .ge 30, 3) := by decide +kernel
theorem dX1_weightOf_14 : decode cX1_weightOf 14 = .ok (.iload_n 3, 1) := by decide +kernel
theorem dX1_weightOf_15 : decode cX1_weightOf 15 = .ok (.iload_n 1, 1) := by decide +kernel
theorem dX1_weightOf_16 : decode cX1_weightOf 16 = .ok (.iload 4, 2) := by decide +kernel
theorem dX1_weightOf_18 : decode cX1_weightOf 18 = .ok (.ishr, 1) := by decide +kernel
theorem dX1_weightOf_19 : decode cX1_weightOf 19 = .ok (.iconst 1, 1) := by decide +kernel
theorem dX1_weightOf_20 : decode cX1_weightOf 20 = .ok (.iand, 1) := by decide +kernel
theorem dX1_weightOf_21 : decode cX1_weightOf 21 = .ok (.iconst 1, 1) := by decide +kernel
theorem dX1_weightOf_22 : decode cX1_weightOf 22 = .ok (.if_icmp .ne 10, 3) := by decide +kernel
theorem dX1_weightOf_25 : decode cX1_weightOf 25 = .ok (.bipush 10, 2) := by decide +kernel
theorem dX1_weightOf_27 : decode cX1_weightOf 27 = .ok (.iload_n 2, 1) := by decide +kernel
theorem dX1_weightOf_28 : decode cX1_weightOf 28 = .ok (.isub, 1) := by decide +kernel
theorem dX1_weightOf_29 : decode cX1_weightOf 29 = .ok (.goto 4, 3) := by decide +kernel
theorem dX1_weightOf_32 : decode cX1_weightOf 32 = .ok (.iload_n 2, 1) := by decide +kernel
theorem dX1_weightOf_33 : decode cX1_weightOf 33 = .ok (.imul, 1) := by decide +kernel
theorem dX1_weightOf_34 : decode cX1_weightOf 34 = .ok (.istore_n 3, 1) := by decide +kernel
theorem dX1_weightOf_35 : decode cX1_weightOf 35 = .ok (.iinc 4 1, 3) := by decide +kernel
theorem dX1_weightOf_38 : decode cX1_weightOf 38 = .ok (.goto (-33), 3) := by decide +kernel
theorem dX1_weightOf_41 : decode cX1_weightOf 41 = .ok (.iload_n 3, 1) := by decide +kernel
theorem dX1_weightOf_42 : decode cX1_weightOf 42 = .ok (.ireturn, 1) := by decide +kernel
theorem dX1_drawnFrom_0 : decode cX1_drawnFrom 0 = .ok (.lload_n 0, 1) := by decide +kernel
theorem dX1_drawnFrom_1 : decode cX1_drawnFrom 1 = .ok (.ldc2_w 48, 3) := by decide +kernel
theorem dX1_drawnFrom_4 : decode cX1_drawnFrom 4 = .ok (.lmul, 1) := by decide +kernel
theorem dX1_drawnFrom_5 : decode cX1_drawnFrom 5 = .ok (.ldc2_w 50, 3) := by decide +kernel
theorem dX1_drawnFrom_8 : decode cX1_drawnFrom 8 = .ok (.ladd, 1) := by decide +kernel
theorem dX1_drawnFrom_9 : decode cX1_drawnFrom 9 = .ok (.lreturn, 1) := by decide +kernel
theorem dX1_liveYear_0 : decode cX1_liveYear 0 = .ok (.lload_n 1, 1) := by decide +kernel
theorem dX1_liveYear_1 : decode cX1_liveYear 1 = .ok (.bipush 33, 2) := by decide +kernel
theorem dX1_liveYear_3 : decode cX1_liveYear 3 = .ok (.lushr, 1) := by decide +kernel
theorem dX1_liveYear_4 : decode cX1_liveYear 4 = .ok (.ldc2_w 52, 3) := by decide +kernel
theorem dX1_liveYear_7 : decode cX1_liveYear 7 = .ok (.lrem, 1) := by decide +kernel
theorem dX1_liveYear_8 : decode cX1_liveYear 8 = .ok (.l2i, 1) := by decide +kernel
theorem dX1_liveYear_9 : decode cX1_liveYear 9 = .ok (.istore_n 3, 1) := by decide +kernel
theorem dX1_liveYear_10 : decode cX1_liveYear 10 = .ok (.iload_n 3, 1) := by decide +kernel
theorem dX1_liveYear_11 : decode cX1_liveYear 11 = .ok (.bipush 48, 2) := by decide +kernel
theorem dX1_liveYear_13 : decode cX1_liveYear 13 = .ok (.if_icmp .ge 19, 3) := by decide +kernel
theorem dX1_liveYear_16 : decode cX1_liveYear 16 = .ok (.aload_n 0, 1) := by decide +kernel
theorem dX1_liveYear_17 : decode cX1_liveYear 17 = .ok (.iload_n 3, 1) := by decide +kernel
theorem dX1_liveYear_18 : decode cX1_liveYear 18 = .ok (.bipush 12, 2) := by decide +kernel
theorem dX1_liveYear_20 : decode cX1_liveYear 20 = .ok (.idiv, 1) := by decide +kernel
theorem dX1_liveYear_21 : decode cX1_liveYear 21 = .ok (.iload_n 3, 1) := by decide +kernel
theorem dX1_liveYear_22 : decode cX1_liveYear 22 = .ok (.bipush 12, 2) := by decide +kernel
theorem dX1_liveYear_24 : decode cX1_liveYear 24 = .ok (.irem, 1) := by decide +kernel
theorem dX1_liveYear_25 : decode cX1_liveYear 25 = .ok (.invokestatic 54, 3) := by decide +kernel
theorem dX1_liveYear_28 : decode cX1_liveYear 28 = .ok (.pop, 1) := by decide +kernel
theorem dX1_liveYear_29 : decode cX1_liveYear 29 = .ok (.goto 56, 3) := by decide +kernel
theorem dX1_liveYear_32 : decode cX1_liveYear 32 = .ok (.iload_n 3, 1) := by decide +kernel
theorem dX1_liveYear_33 : decode cX1_liveYear 33 = .ok (.bipush 52, 2) := by decide +kernel
theorem dX1_liveYear_35 : decode cX1_liveYear 35 = .ok (.if_icmp .ge 15, 3) := by decide +kernel
theorem dX1_liveYear_38 : decode cX1_liveYear 38 = .ok (.aload_n 0, 1) := by decide +kernel
theorem dX1_liveYear_39 : decode cX1_liveYear 39 = .ok (.iload_n 3, 1) := by decide +kernel
theorem dX1_liveYear_40 : decode cX1_liveYear 40 = .ok (.bipush 48, 2) := by decide +kernel
theorem dX1_liveYear_42 : decode cX1_liveYear 42 = .ok (.isub, 1) := by decide +kernel
theorem dX1_liveYear_43 : decode cX1_liveYear 43 = .ok (.invokestatic 60, 3) := by decide +kernel
theorem dX1_liveYear_46 : decode cX1_liveYear 46 = .ok (.pop, 1) := by decide +kernel
theorem dX1_liveYear_47 : decode cX1_liveYear 47 = .ok (.goto 38, 3) := by decide +kernel
theorem dX1_liveYear_50 : decode cX1_liveYear 50 = .ok (.iload_n 3, 1) := by decide +kernel
theorem dX1_liveYear_51 : decode cX1_liveYear 51 = .ok (.bipush 54, 2) := by decide +kernel
theorem dX1_liveYear_53 : decode cX1_liveYear 53 = .ok (.if_icmp .ge 15, 3) := by decide +kernel
theorem dX1_liveYear_56 : decode cX1_liveYear 56 = .ok (.aload_n 0, 1) := by decide +kernel
theorem dX1_liveYear_57 : decode cX1_liveYear 57 = .ok (.iload_n 3, 1) := by decide +kernel
theorem dX1_liveYear_58 : decode cX1_liveYear 58 = .ok (.bipush 52, 2) := by decide +kernel
theorem dX1_liveYear_60 : decode cX1_liveYear 60 = .ok (.isub, 1) := by decide +kernel
theorem dX1_liveYear_61 : decode cX1_liveYear 61 = .ok (.invokestatic 64, 3) := by decide +kernel
theorem dX1_liveYear_64 : decode cX1_liveYear 64 = .ok (.pop, 1) := by decide +kernel
theorem dX1_liveYear_65 : decode cX1_liveYear 65 = .ok (.goto 20, 3) := by decide +kernel
theorem dX1_liveYear_68 : decode cX1_liveYear 68 = .ok (.iload_n 3, 1) := by decide +kernel
theorem dX1_liveYear_69 : decode cX1_liveYear 69 = .ok (.bipush 57, 2) := by decide +kernel
theorem dX1_liveYear_71 : decode cX1_liveYear 71 = .ok (.if_icmp .ge 10, 3) := by decide +kernel
theorem dX1_liveYear_74 : decode cX1_liveYear 74 = .ok (.aload_n 0, 1) := by decide +kernel
theorem dX1_liveYear_75 : decode cX1_liveYear 75 = .ok (.invokevirtual 67, 3) := by decide +kernel
theorem dX1_liveYear_78 : decode cX1_liveYear 78 = .ok (.goto 7, 3) := by decide +kernel
theorem dX1_liveYear_81 : decode cX1_liveYear 81 = .ok (.aload_n 0, 1) := by decide +kernel
theorem dX1_liveYear_82 : decode cX1_liveYear 82 = .ok (.invokevirtual 70, 3) := by decide +kernel
theorem dX1_liveYear_85 : decode cX1_liveYear 85 = .ok (.return_, 1) := by decide +kernel
theorem dX2_isTooLong_0 : decode cX2_isTooLong 0 = .ok (.iload_n 0, 1) := by decide +kernel
theorem dX2_isTooLong_1 : decode cX2_isTooLong 1 = .ok (.iconst 0, 1) := by decide +kernel
theorem dX2_isTooLong_2 : decode cX2_isTooLong 2 = .ok (.iconst 4, 1) := by decide +kernel
theorem dX2_isTooLong_3 : decode cX2_isTooLong 3 = .ok (.invokestatic 9, 3) := by decide +kernel
theorem dX2_isTooLong_6 : decode cX2_isTooLong 6 = .ok (.ifCond .ne 19, 3) := by decide +kernel
theorem dX2_isTooLong_9 : decode cX2_isTooLong 9 = .ok (.lload_n 1, 1) := by decide +kernel
theorem dX2_isTooLong_10 : decode cX2_isTooLong 10 = .ok (.lconst 0, 1) := by decide +kernel
theorem dX2_isTooLong_11 : decode cX2_isTooLong 11 = .ok (.lcmp, 1) := by decide +kernel
theorem dX2_isTooLong_12 : decode cX2_isTooLong 12 = .ok (.ifCond .lt 13, 3) := by decide +kernel
theorem dX2_isTooLong_15 : decode cX2_isTooLong 15 = .ok (.lload_n 1, 1) := by decide +kernel
theorem dX2_isTooLong_16 : decode cX2_isTooLong 16 = .ok (.getstatic 13, 3) := by decide +kernel
theorem dX2_isTooLong_19 : decode cX2_isTooLong 19 = .ok (.iload_n 0, 1) := by decide +kernel
theorem dX2_isTooLong_20 : decode cX2_isTooLong 20 = .ok (.laload, 1) := by decide +kernel
theorem dX2_isTooLong_21 : decode cX2_isTooLong 21 = .ok (.lcmp, 1) := by decide +kernel
theorem dX2_isTooLong_22 : decode cX2_isTooLong 22 = .ok (.ifCond .lt 7, 3) := by decide +kernel
theorem dX2_isTooLong_25 : decode cX2_isTooLong 25 = .ok (.iconst 1, 1) := by decide +kernel
theorem dX2_isTooLong_26 : decode cX2_isTooLong 26 = .ok (.goto 4, 3) := by decide +kernel
theorem dX2_isTooLong_29 : decode cX2_isTooLong 29 = .ok (.iconst 0, 1) := by decide +kernel
theorem dX2_isTooLong_30 : decode cX2_isTooLong 30 = .ok (.ireturn, 1) := by decide +kernel
theorem dX2_firstWrong_0 : decode cX2_firstWrong 0 = .ok (.iconst 0, 1) := by decide +kernel
theorem dX2_firstWrong_1 : decode cX2_firstWrong 1 = .ok (.istore 5, 2) := by decide +kernel
theorem dX2_firstWrong_3 : decode cX2_firstWrong 3 = .ok (.iload 5, 2) := by decide +kernel
theorem dX2_firstWrong_5 : decode cX2_firstWrong 5 = .ok (.iload_n 0, 1) := by decide +kernel
theorem dX2_firstWrong_6 : decode cX2_firstWrong 6 = .ok (.if_icmp .ge 47, 3) := by decide +kernel
theorem dX2_firstWrong_9 : decode cX2_firstWrong 9 = .ok (.iload 5, 2) := by decide +kernel
theorem dX2_firstWrong_11 : decode cX2_firstWrong 11 = .ok (.iconst 4, 1) := by decide +kernel
theorem dX2_firstWrong_12 : decode cX2_firstWrong 12 = .ok (.if_icmp .ge 41, 3) := by decide +kernel
theorem dX2_firstWrong_15 : decode cX2_firstWrong 15 = .ok (.lload_n 1, 1) := by decide +kernel
theorem dX2_firstWrong_16 : decode cX2_firstWrong 16 = .ok (.iload_n 0, 1) := by decide +kernel
theorem dX2_firstWrong_17 : decode cX2_firstWrong 17 = .ok (.iconst 1, 1) := by decide +kernel
theorem dX2_firstWrong_18 : decode cX2_firstWrong 18 = .ok (.isub, 1) := by decide +kernel
theorem dX2_firstWrong_19 : decode cX2_firstWrong 19 = .ok (.iload 5, 2) := by decide +kernel
theorem dX2_firstWrong_21 : decode cX2_firstWrong 21 = .ok (.isub, 1) := by decide +kernel
theorem dX2_firstWrong_22 : decode cX2_firstWrong 22 = .ok (.invokestatic 19, 3) := by decide +kernel
theorem dX2_firstWrong_25 : decode cX2_firstWrong 25 = .ok (.ldiv, 1) := by decide +kernel
theorem dX2_firstWrong_26 : decode cX2_firstWrong 26 = .ok (.ldc2_w 23, 3) := by decide +kernel
theorem dX2_firstWrong_29 : decode cX2_firstWrong 29 = .ok (.lrem, 1) := by decide +kernel
theorem dX2_firstWrong_30 : decode cX2_firstWrong 30 = .ok (.l2i, 1) := by decide +kernel
theorem dX2_firstWrong_31 : decode cX2_firstWrong 31 = .ok (.istore 6, 2) := by decide +kernel
theorem dX2_firstWrong_33 : decode cX2_firstWrong 33 = .ok (.iload 6, 2) := by decide +kernel
theorem dX2_firstWrong_35 : decode cX2_firstWrong 35 = .ok (.aload_n 3, 1) := by decide +kernel
theorem dX2_firstWrong_36 : decode cX2_firstWrong 36 = .ok (.aload 4, 2) := by decide +kernel
theorem dX2_firstWrong_38 : decode cX2_firstWrong 38 = .ok (.invokestatic 25, 3) := by decide +kernel
theorem dX2_firstWrong_41 : decode cX2_firstWrong 41 = .ok (.ifCond .ne 6, 3) := by decide +kernel
theorem dX2_firstWrong_44 : decode cX2_firstWrong 44 = .ok (.iload 5, 2) := by decide +kernel
theorem dX2_firstWrong_46 : decode cX2_firstWrong 46 = .ok (.ireturn, 1) := by decide +kernel
theorem dX2_firstWrong_47 : decode cX2_firstWrong 47 = .ok (.iinc 5 1, 3) := by decide +kernel
theorem dX2_firstWrong_50 : decode cX2_firstWrong 50 = .ok (.goto (-47), 3) := by decide +kernel
theorem dX2_firstWrong_53 : decode cX2_firstWrong 53 = .ok (.bipush (-9), 2) := by decide +kernel
theorem dX2_firstWrong_55 : decode cX2_firstWrong 55 = .ok (.ireturn, 1) := by decide +kernel
theorem dX2_powerAt_0 : decode cX2_powerAt 0 = .ok (.iload_n 0, 1) := by decide +kernel
theorem dX2_powerAt_1 : decode cX2_powerAt 1 = .ok (.iconst 0, 1) := by decide +kernel
theorem dX2_powerAt_2 : decode cX2_powerAt 2 = .ok (.iconst 4, 1) := by decide +kernel
theorem dX2_powerAt_3 : decode cX2_powerAt 3 = .ok (.invokestatic 9, 3) := by decide +kernel
theorem dX2_powerAt_6 : decode cX2_powerAt 6 = .ok (.ifCond .eq 7, 3) := by decide +kernel
theorem dX2_powerAt_9 : decode cX2_powerAt 9 = .ok (.lconst 1, 1) := by decide +kernel
theorem dX2_powerAt_10 : decode cX2_powerAt 10 = .ok (.goto 8, 3) := by decide +kernel
theorem dX2_powerAt_13 : decode cX2_powerAt 13 = .ok (.getstatic 13, 3) := by decide +kernel
theorem dX2_powerAt_16 : decode cX2_powerAt 16 = .ok (.iload_n 0, 1) := by decide +kernel
theorem dX2_powerAt_17 : decode cX2_powerAt 17 = .ok (.laload, 1) := by decide +kernel
theorem dX2_powerAt_18 : decode cX2_powerAt 18 = .ok (.lreturn, 1) := by decide +kernel
theorem dX2_comesTrue_0 : decode cX2_comesTrue 0 = .ok (.iload_n 0, 1) := by decide +kernel
theorem dX2_comesTrue_1 : decode cX2_comesTrue 1 = .ok (.sipush 1000, 3) := by decide +kernel
theorem dX2_comesTrue_4 : decode cX2_comesTrue 4 = .ok (.idiv, 1) := by decide +kernel
theorem dX2_comesTrue_5 : decode cX2_comesTrue 5 = .ok (.tableswitch 195 1 7 #[43, 59, 83, 107, 127, 147, 170], 43) := by decide +kernel
theorem dX2_comesTrue_48 : decode cX2_comesTrue 48 = .ok (.aload_n 1, 1) := by decide +kernel
theorem dX2_comesTrue_49 : decode cX2_comesTrue 49 = .ok (.iload_n 0, 1) := by decide +kernel
theorem dX2_comesTrue_50 : decode cX2_comesTrue 50 = .ok (.bipush 100, 2) := by decide +kernel
theorem dX2_comesTrue_52 : decode cX2_comesTrue 52 = .ok (.idiv, 1) := by decide +kernel
theorem dX2_comesTrue_53 : decode cX2_comesTrue 53 = .ok (.bipush 10, 2) := by decide +kernel
theorem dX2_comesTrue_55 : decode cX2_comesTrue 55 = .ok (.irem, 1) := by decide +kernel
theorem dX2_comesTrue_56 : decode cX2_comesTrue 56 = .ok (.iload_n 0, 1) := by decide +kernel
theorem dX2_comesTrue_57 : decode cX2_comesTrue 57 = .ok (.bipush 100, 2) := by decide +kernel
theorem dX2_comesTrue_59 : decode cX2_comesTrue 59 = .ok (.irem, 1) := by decide +kernel
theorem dX2_comesTrue_60 : decode cX2_comesTrue 60 = .ok (.invokestatic 29, 3) := by decide +kernel
theorem dX2_comesTrue_63 : decode cX2_comesTrue 63 = .ok (.ireturn, 1) := by decide +kernel
theorem dX2_comesTrue_64 : decode cX2_comesTrue 64 = .ok (.iload_n 0, 1) := by decide +kernel
theorem dX2_comesTrue_65 : decode cX2_comesTrue 65 = .ok (.sipush 2010, 3) := by decide +kernel
theorem dX2_comesTrue_68 : decode cX2_comesTrue 68 = .ok (.if_icmp .ge 18, 3) := by decide +kernel
theorem dX2_comesTrue_71 : decode cX2_comesTrue 71 = .ok (.aload_n 1, 1) := by decide +kernel
theorem dX2_comesTrue_72 : decode cX2_comesTrue 72 = .ok (.iload_n 0, 1) := by decide +kernel
theorem dX2_comesTrue_73 : decode cX2_comesTrue 73 = .ok (.bipush 10, 2) := by decide +kernel
theorem dX2_comesTrue_75 : decode cX2_comesTrue 75 = .ok (.irem, 1) := by decide +kernel
theorem dX2_comesTrue_76 : decode cX2_comesTrue 76 = .ok (.invokestatic 33, 3) := by decide +kernel
theorem dX2_comesTrue_79 : decode cX2_comesTrue 79 = .ok (.ifCond .eq 7, 3) := by decide +kernel
theorem dX2_comesTrue_82 : decode cX2_comesTrue 82 = .ok (.iconst 1, 1) := by decide +kernel
theorem dX2_comesTrue_83 : decode cX2_comesTrue 83 = .ok (.goto 4, 3) := by decide +kernel
theorem dX2_comesTrue_86 : decode cX2_comesTrue 86 = .ok (.iconst 0, 1) := by decide +kernel
theorem dX2_comesTrue_87 : decode cX2_comesTrue 87 = .ok (.ireturn, 1) := by decide +kernel
theorem dX2_comesTrue_88 : decode cX2_comesTrue 88 = .ok (.iload_n 0, 1) := by decide +kernel
theorem dX2_comesTrue_89 : decode cX2_comesTrue 89 = .ok (.sipush 3010, 3) := by decide +kernel
theorem dX2_comesTrue_92 : decode cX2_comesTrue 92 = .ok (.if_icmp .ge 18, 3) := by decide +kernel
theorem dX2_comesTrue_95 : decode cX2_comesTrue 95 = .ok (.aload_n 1, 1) := by decide +kernel
theorem dX2_comesTrue_96 : decode cX2_comesTrue 96 = .ok (.iload_n 0, 1) := by decide +kernel
theorem dX2_comesTrue_97 : decode cX2_comesTrue 97 = .ok (.bipush 10, 2) := by decide +kernel
theorem dX2_comesTrue_99 : decode cX2_comesTrue 99 = .ok (.irem, 1) := by decide +kernel
theorem dX2_comesTrue_100 : decode cX2_comesTrue 100 = .ok (.invokestatic 37, 3) := by decide +kernel
theorem dX2_comesTrue_103 : decode cX2_comesTrue 103 = .ok (.ifCond .eq 7, 3) := by decide +kernel
theorem dX2_comesTrue_106 : decode cX2_comesTrue 106 = .ok (.iconst 1, 1) := by decide +kernel
theorem dX2_comesTrue_107 : decode cX2_comesTrue 107 = .ok (.goto 4, 3) := by decide +kernel
theorem dX2_comesTrue_110 : decode cX2_comesTrue 110 = .ok (.iconst 0, 1) := by decide +kernel
theorem dX2_comesTrue_111 : decode cX2_comesTrue 111 = .ok (.ireturn, 1) := by decide +kernel
theorem dX2_comesTrue_112 : decode cX2_comesTrue 112 = .ok (.iload_n 0, 1) := by decide +kernel
theorem dX2_comesTrue_113 : decode cX2_comesTrue 113 = .ok (.sipush 4000, 3) := by decide +kernel
theorem dX2_comesTrue_116 : decode cX2_comesTrue 116 = .ok (.if_icmp .ne 14, 3) := by decide +kernel
theorem dX2_comesTrue_119 : decode cX2_comesTrue 119 = .ok (.aload_n 1, 1) := by decide +kernel
theorem dX2_comesTrue_120 : decode cX2_comesTrue 120 = .ok (.invokestatic 40, 3) := by decide +kernel
theorem dX2_comesTrue_123 : decode cX2_comesTrue 123 = .ok (.ifCond .eq 7, 3) := by decide +kernel
theorem dX2_comesTrue_126 : decode cX2_comesTrue 126 = .ok (.iconst 1, 1) := by decide +kernel
theorem dX2_comesTrue_127 : decode cX2_comesTrue 127 = .ok (.goto 4, 3) := by decide +kernel
theorem dX2_comesTrue_130 : decode cX2_comesTrue 130 = .ok (.iconst 0, 1) := by decide +kernel
theorem dX2_comesTrue_131 : decode cX2_comesTrue 131 = .ok (.ireturn, 1) := by decide +kernel
theorem dX2_comesTrue_132 : decode cX2_comesTrue 132 = .ok (.iload_n 0, 1) := by decide +kernel
theorem dX2_comesTrue_133 : decode cX2_comesTrue 133 = .ok (.sipush 5000, 3) := by decide +kernel
theorem dX2_comesTrue_136 : decode cX2_comesTrue 136 = .ok (.if_icmp .ne 14, 3) := by decide +kernel
theorem dX2_comesTrue_139 : decode cX2_comesTrue 139 = .ok (.aload_n 1, 1) := by decide +kernel
theorem dX2_comesTrue_140 : decode cX2_comesTrue 140 = .ok (.invokestatic 44, 3) := by decide +kernel
theorem dX2_comesTrue_143 : decode cX2_comesTrue 143 = .ok (.ifCond .eq 7, 3) := by decide +kernel
theorem dX2_comesTrue_146 : decode cX2_comesTrue 146 = .ok (.iconst 1, 1) := by decide +kernel
theorem dX2_comesTrue_147 : decode cX2_comesTrue 147 = .ok (.goto 4, 3) := by decide +kernel
theorem dX2_comesTrue_150 : decode cX2_comesTrue 150 = .ok (.iconst 0, 1) := by decide +kernel
theorem dX2_comesTrue_151 : decode cX2_comesTrue 151 = .ok (.ireturn, 1) := by decide +kernel
theorem dX2_comesTrue_152 : decode cX2_comesTrue 152 = .ok (.aload_n 1, 1) := by decide +kernel
theorem dX2_comesTrue_153 : decode cX2_comesTrue 153 = .ok (.iload_n 0, 1) := by decide +kernel
theorem dX2_comesTrue_154 : decode cX2_comesTrue 154 = .ok (.bipush 100, 2) := by decide +kernel
theorem dX2_comesTrue_156 : decode cX2_comesTrue 156 = .ok (.idiv, 1) := by decide +kernel
theorem dX2_comesTrue_157 : decode cX2_comesTrue 157 = .ok (.bipush 10, 2) := by decide +kernel
theorem dX2_comesTrue_159 : decode cX2_comesTrue 159 = .ok (.irem, 1) := by decide +kernel
theorem dX2_comesTrue_160 : decode cX2_comesTrue 160 = .ok (.iload_n 0, 1) := by decide +kernel
theorem dX2_comesTrue_161 : decode cX2_comesTrue 161 = .ok (.bipush 10, 2) := by decide +kernel
theorem dX2_comesTrue_163 : decode cX2_comesTrue 163 = .ok (.idiv, 1) := by decide +kernel
theorem dX2_comesTrue_164 : decode cX2_comesTrue 164 = .ok (.bipush 10, 2) := by decide +kernel
theorem dX2_comesTrue_166 : decode cX2_comesTrue 166 = .ok (.irem, 1) := by decide +kernel
theorem dX2_comesTrue_167 : decode cX2_comesTrue 167 = .ok (.iload_n 0, 1) := by decide +kernel
theorem dX2_comesTrue_168 : decode cX2_comesTrue 168 = .ok (.bipush 10, 2) := by decide +kernel
theorem dX2_comesTrue_170 : decode cX2_comesTrue 170 = .ok (.irem, 1) := by decide +kernel
theorem dX2_comesTrue_171 : decode cX2_comesTrue 171 = .ok (.invokestatic 47, 3) := by decide +kernel
theorem dX2_comesTrue_174 : decode cX2_comesTrue 174 = .ok (.ireturn, 1) := by decide +kernel
theorem dX2_comesTrue_175 : decode cX2_comesTrue 175 = .ok (.iload_n 0, 1) := by decide +kernel
theorem dX2_comesTrue_176 : decode cX2_comesTrue 176 = .ok (.sipush 7100, 3) := by decide +kernel
theorem dX2_comesTrue_179 : decode cX2_comesTrue 179 = .ok (.if_icmp .ge 19, 3) := by decide +kernel
theorem dX2_comesTrue_182 : decode cX2_comesTrue 182 = .ok (.aload_n 2, 1) := by decide +kernel
theorem dX2_comesTrue_183 : decode cX2_comesTrue 183 = .ok (.aload_n 1, 1) := by decide +kernel
theorem dX2_comesTrue_184 : decode cX2_comesTrue 184 = .ok (.invokevirtual 51, 3) := by decide +kernel
theorem dX2_comesTrue_187 : decode cX2_comesTrue 187 = .ok (.iload_n 0, 1) := by decide +kernel
theorem dX2_comesTrue_188 : decode cX2_comesTrue 188 = .ok (.bipush 100, 2) := by decide +kernel
theorem dX2_comesTrue_190 : decode cX2_comesTrue 190 = .ok (.irem, 1) := by decide +kernel
theorem dX2_comesTrue_191 : decode cX2_comesTrue 191 = .ok (.if_icmp .lt 7, 3) := by decide +kernel
theorem dX2_comesTrue_194 : decode cX2_comesTrue 194 = .ok (.iconst 1, 1) := by decide +kernel
theorem dX2_comesTrue_195 : decode cX2_comesTrue 195 = .ok (.goto 4, 3) := by decide +kernel
theorem dX2_comesTrue_198 : decode cX2_comesTrue 198 = .ok (.iconst 0, 1) := by decide +kernel
theorem dX2_comesTrue_199 : decode cX2_comesTrue 199 = .ok (.ireturn, 1) := by decide +kernel
theorem dX2_comesTrue_200 : decode cX2_comesTrue 200 = .ok (.iconst 0, 1) := by decide +kernel
theorem dX2_comesTrue_201 : decode cX2_comesTrue 201 = .ok (.ireturn, 1) := by decide +kernel
theorem dX2_winds_0 : decode cX2_winds 0 = .ok (.aload_n 0, 1) := by decide +kernel
theorem dX2_winds_1 : decode cX2_winds 1 = .ok (.iload_n 1, 1) := by decide +kernel
theorem dX2_winds_2 : decode cX2_winds 2 = .ok (.iload_n 2, 1) := by decide +kernel
theorem dX2_winds_3 : decode cX2_winds 3 = .ok (.invokevirtual 57, 3) := by decide +kernel
theorem dX2_winds_6 : decode cX2_winds 6 = .ok (.ifCond .ne 5, 3) := by decide +kernel
theorem dX2_winds_9 : decode cX2_winds 9 = .ok (.iconst 0, 1) := by decide +kernel
theorem dX2_winds_10 : decode cX2_winds 10 = .ok (.ireturn, 1) := by decide +kernel
theorem dX2_winds_11 : decode cX2_winds 11 = .ok (.aload_n 0, 1) := by decide +kernel
theorem dX2_winds_12 : decode cX2_winds 12 = .ok (.iload_n 1, 1) := by decide +kernel
theorem dX2_winds_13 : decode cX2_winds 13 = .ok (.iload_n 2, 1) := by decide +kernel
theorem dX2_winds_14 : decode cX2_winds 14 = .ok (.invokevirtual 63, 3) := by decide +kernel
theorem dX2_winds_17 : decode cX2_winds 17 = .ok (.pop, 1) := by decide +kernel
theorem dX2_winds_18 : decode cX2_winds 18 = .ok (.iconst 1, 1) := by decide +kernel
theorem dX2_winds_19 : decode cX2_winds 19 = .ok (.ireturn, 1) := by decide +kernel
theorem dX2_unwinds_0 : decode cX2_unwinds 0 = .ok (.aload_n 0, 1) := by decide +kernel
theorem dX2_unwinds_1 : decode cX2_unwinds 1 = .ok (.iload_n 1, 1) := by decide +kernel
theorem dX2_unwinds_2 : decode cX2_unwinds 2 = .ok (.invokevirtual 67, 3) := by decide +kernel
theorem dX2_unwinds_5 : decode cX2_unwinds 5 = .ok (.ifCond .ne 5, 3) := by decide +kernel
theorem dX2_unwinds_8 : decode cX2_unwinds 8 = .ok (.iconst 0, 1) := by decide +kernel
theorem dX2_unwinds_9 : decode cX2_unwinds 9 = .ok (.ireturn, 1) := by decide +kernel
theorem dX2_unwinds_10 : decode cX2_unwinds 10 = .ok (.aload_n 0, 1) := by decide +kernel
theorem dX2_unwinds_11 : decode cX2_unwinds 11 = .ok (.iload_n 1, 1) := by decide +kernel
theorem dX2_unwinds_12 : decode cX2_unwinds 12 = .ok (.invokevirtual 71, 3) := by decide +kernel
theorem dX2_unwinds_15 : decode cX2_unwinds 15 = .ok (.pop, 1) := by decide +kernel
theorem dX2_unwinds_16 : decode cX2_unwinds 16 = .ok (.iconst 1, 1) := by decide +kernel
theorem dX2_unwinds_17 : decode cX2_unwinds 17 = .ok (.ireturn, 1) := by decide +kernel
theorem dX2_cuts_0 : decode cX2_cuts 0 = .ok (.aload_n 0, 1) := by decide +kernel
theorem dX2_cuts_1 : decode cX2_cuts 1 = .ok (.iload_n 1, 1) := by decide +kernel
theorem dX2_cuts_2 : decode cX2_cuts 2 = .ok (.invokevirtual 75, 3) := by decide +kernel
theorem dX2_cuts_5 : decode cX2_cuts 5 = .ok (.ifCond .ne 5, 3) := by decide +kernel
theorem dX2_cuts_8 : decode cX2_cuts 8 = .ok (.iconst 0, 1) := by decide +kernel
theorem dX2_cuts_9 : decode cX2_cuts 9 = .ok (.ireturn, 1) := by decide +kernel
theorem dX2_cuts_10 : decode cX2_cuts 10 = .ok (.aload_n 0, 1) := by decide +kernel
theorem dX2_cuts_11 : decode cX2_cuts 11 = .ok (.iload_n 1, 1) := by decide +kernel
theorem dX2_cuts_12 : decode cX2_cuts 12 = .ok (.invokevirtual 78, 3) := by decide +kernel
theorem dX2_cuts_15 : decode cX2_cuts 15 = .ok (.pop, 1) := by decide +kernel
theorem dX2_cuts_16 : decode cX2_cuts 16 = .ok (.iconst 1, 1) := by decide +kernel
theorem dX2_cuts_17 : decode cX2_cuts 17 = .ok (.ireturn, 1) := by decide +kernel
theorem dX2_turns_0 : decode cX2_turns 0 = .ok (.aload_n 0, 1) := by decide +kernel
theorem dX2_turns_1 : decode cX2_turns 1 = .ok (.invokevirtual 81, 3) := by decide +kernel
theorem dX2_turns_4 : decode cX2_turns 4 = .ok (.iconst 1, 1) := by decide +kernel
theorem dX2_turns_5 : decode cX2_turns 5 = .ok (.ireturn, 1) := by decide +kernel
theorem dX2_turnsOver_0 : decode cX2_turnsOver 0 = .ok (.aload_n 0, 1) := by decide +kernel
theorem dX2_turnsOver_1 : decode cX2_turnsOver 1 = .ok (.invokevirtual 84, 3) := by decide +kernel
theorem dX2_turnsOver_4 : decode cX2_turnsOver 4 = .ok (.iconst 1, 1) := by decide +kernel
theorem dX2_turnsOver_5 : decode cX2_turnsOver 5 = .ok (.ireturn, 1) := by decide +kernel
theorem dX2_doCross_0 : decode cX2_doCross 0 = .ok (.aload_n 0, 1) := by decide +kernel
theorem dX2_doCross_1 : decode cX2_doCross 1 = .ok (.iload_n 1, 1) := by decide +kernel
theorem dX2_doCross_2 : decode cX2_doCross 2 = .ok (.invokevirtual 87, 3) := by decide +kernel
theorem dX2_doCross_5 : decode cX2_doCross 5 = .ok (.ifCond .eq 25, 3) := by decide +kernel
theorem dX2_doCross_8 : decode cX2_doCross 8 = .ok (.aload_n 0, 1) := by decide +kernel
theorem dX2_doCross_9 : decode cX2_doCross 9 = .ok (.iload_n 2, 1) := by decide +kernel
theorem dX2_doCross_10 : decode cX2_doCross 10 = .ok (.invokevirtual 87, 3) := by decide +kernel
theorem dX2_doCross_13 : decode cX2_doCross 13 = .ok (.ifCond .eq 17, 3) := by decide +kernel
theorem dX2_doCross_16 : decode cX2_doCross 16 = .ok (.aload_n 0, 1) := by decide +kernel
theorem dX2_doCross_17 : decode cX2_doCross 17 = .ok (.iload_n 1, 1) := by decide +kernel
theorem dX2_doCross_18 : decode cX2_doCross 18 = .ok (.iload_n 2, 1) := by decide +kernel
theorem dX2_doCross_19 : decode cX2_doCross 19 = .ok (.invokevirtual 90, 3) := by decide +kernel
theorem dX2_doCross_22 : decode cX2_doCross 22 = .ok (.iload_n 3, 1) := by decide +kernel
theorem dX2_doCross_23 : decode cX2_doCross 23 = .ok (.if_icmp .lt 7, 3) := by decide +kernel
theorem dX2_doCross_26 : decode cX2_doCross 26 = .ok (.iconst 1, 1) := by decide +kernel
theorem dX2_doCross_27 : decode cX2_doCross 27 = .ok (.goto 4, 3) := by decide +kernel
theorem dX2_doCross_30 : decode cX2_doCross 30 = .ok (.iconst 0, 1) := by decide +kernel
theorem dX2_doCross_31 : decode cX2_doCross 31 = .ok (.ireturn, 1) := by decide +kernel
theorem dX3_init_0 : decode cX3_init 0 = .ok (.aload_n 0, 1) := by decide +kernel
theorem dX3_init_1 : decode cX3_init 1 = .ok (.invokespecial 3, 3) := by decide +kernel
theorem dX3_init_4 : decode cX3_init 4 = .ok (.aload_n 0, 1) := by decide +kernel
theorem dX3_init_5 : decode cX3_init 5 = .ok (.bipush 14, 2) := by decide +kernel
theorem dX3_init_7 : decode cX3_init 7 = .ok (.anewarray 9, 3) := by decide +kernel
theorem dX3_init_10 : decode cX3_init 10 = .ok (.putfield 11, 3) := by decide +kernel
theorem dX3_init_13 : decode cX3_init 13 = .ok (.iconst 0, 1) := by decide +kernel
theorem dX3_init_14 : decode cX3_init 14 = .ok (.istore_n 1, 1) := by decide +kernel
theorem dX3_init_15 : decode cX3_init 15 = .ok (.iload_n 1, 1) := by decide +kernel
theorem dX3_init_16 : decode cX3_init 16 = .ok (.bipush 14, 2) := by decide +kernel
theorem dX3_init_18 : decode cX3_init 18 = .ok (.if_icmp .ge 22, 3) := by decide +kernel
theorem dX3_init_21 : decode cX3_init 21 = .ok (.aload_n 0, 1) := by decide +kernel
theorem dX3_init_22 : decode cX3_init 22 = .ok (.getfield 11, 3) := by decide +kernel
theorem dX3_init_25 : decode cX3_init 25 = .ok (.iload_n 1, 1) := by decide +kernel
theorem dX3_init_26 : decode cX3_init 26 = .ok (.new 9, 3) := by decide +kernel
theorem dX3_init_29 : decode cX3_init 29 = .ok (.dup, 1) := by decide +kernel
theorem dX3_init_30 : decode cX3_init 30 = .ok (.invokespecial 17, 3) := by decide +kernel
theorem dX3_init_33 : decode cX3_init 33 = .ok (.aastore, 1) := by decide +kernel
theorem dX3_init_34 : decode cX3_init 34 = .ok (.iinc 1 1, 3) := by decide +kernel
theorem dX3_init_37 : decode cX3_init 37 = .ok (.goto (-22), 3) := by decide +kernel
theorem dX3_init_40 : decode cX3_init 40 = .ok (.aload_n 0, 1) := by decide +kernel
theorem dX3_init_41 : decode cX3_init 41 = .ok (.iconst 0, 1) := by decide +kernel
theorem dX3_init_42 : decode cX3_init 42 = .ok (.putfield 18, 3) := by decide +kernel
theorem dX3_init_45 : decode cX3_init 45 = .ok (.aload_n 0, 1) := by decide +kernel
theorem dX3_init_46 : decode cX3_init 46 = .ok (.iconst 0, 1) := by decide +kernel
theorem dX3_init_47 : decode cX3_init 47 = .ok (.putfield 22, 3) := by decide +kernel
theorem dX3_init_50 : decode cX3_init 50 = .ok (.return_, 1) := by decide +kernel
theorem dX3_size_0 : decode cX3_size 0 = .ok (.aload_n 0, 1) := by decide +kernel
theorem dX3_size_1 : decode cX3_size 1 = .ok (.getfield 22, 3) := by decide +kernel
theorem dX3_size_4 : decode cX3_size 4 = .ok (.ireturn, 1) := by decide +kernel
theorem dX3_clear_0 : decode cX3_clear 0 = .ok (.aload_n 0, 1) := by decide +kernel
theorem dX3_clear_1 : decode cX3_clear 1 = .ok (.iconst 0, 1) := by decide +kernel
theorem dX3_clear_2 : decode cX3_clear 2 = .ok (.putfield 18, 3) := by decide +kernel
theorem dX3_clear_5 : decode cX3_clear 5 = .ok (.aload_n 0, 1) := by decide +kernel
theorem dX3_clear_6 : decode cX3_clear 6 = .ok (.iconst 0, 1) := by decide +kernel
theorem dX3_clear_7 : decode cX3_clear 7 = .ok (.putfield 22, 3) := by decide +kernel
theorem dX3_clear_10 : decode cX3_clear 10 = .ok (.return_, 1) := by decide +kernel
theorem dX3_add_0 : decode cX3_add 0 = .ok (.aload_n 0, 1) := by decide +kernel
theorem dX3_add_1 : decode cX3_add 1 = .ok (.getfield 22, 3) := by decide +kernel
theorem dX3_add_4 : decode cX3_add 4 = .ok (.bipush 14, 2) := by decide +kernel
theorem dX3_add_6 : decode cX3_add 6 = .ok (.if_icmp .lt 26, 3) := by decide +kernel
theorem dX3_add_9 : decode cX3_add 9 = .ok (.aload_n 0, 1) := by decide +kernel
theorem dX3_add_10 : decode cX3_add 10 = .ok (.aload_n 0, 1) := by decide +kernel
theorem dX3_add_11 : decode cX3_add 11 = .ok (.getfield 18, 3) := by decide +kernel
theorem dX3_add_14 : decode cX3_add 14 = .ok (.iconst 1, 1) := by decide +kernel
theorem dX3_add_15 : decode cX3_add 15 = .ok (.iadd, 1) := by decide +kernel
theorem dX3_add_16 : decode cX3_add 16 = .ok (.bipush 14, 2) := by decide +kernel
theorem dX3_add_18 : decode cX3_add 18 = .ok (.irem, 1) := by decide +kernel
theorem dX3_add_19 : decode cX3_add 19 = .ok (.putfield 18, 3) := by decide +kernel
theorem dX3_add_22 : decode cX3_add 22 = .ok (.aload_n 0, 1) := by decide +kernel
theorem dX3_add_23 : decode cX3_add 23 = .ok (.dup, 1) := by decide +kernel
theorem dX3_add_24 : decode cX3_add 24 = .ok (.getfield 22, 3) := by decide +kernel
theorem dX3_add_27 : decode cX3_add 27 = .ok (.iconst 1, 1) := by decide +kernel
theorem dX3_add_28 : decode cX3_add 28 = .ok (.isub, 1) := by decide +kernel
theorem dX3_add_29 : decode cX3_add 29 = .ok (.putfield 22, 3) := by decide +kernel
theorem dX3_add_32 : decode cX3_add 32 = .ok (.aload_n 0, 1) := by decide +kernel
theorem dX3_add_33 : decode cX3_add 33 = .ok (.getfield 11, 3) := by decide +kernel
theorem dX3_add_36 : decode cX3_add 36 = .ok (.aload_n 0, 1) := by decide +kernel
theorem dX3_add_37 : decode cX3_add 37 = .ok (.getfield 18, 3) := by decide +kernel
theorem dX3_add_40 : decode cX3_add 40 = .ok (.aload_n 0, 1) := by decide +kernel
theorem dX3_add_41 : decode cX3_add 41 = .ok (.getfield 22, 3) := by decide +kernel
theorem dX3_add_44 : decode cX3_add 44 = .ok (.iadd, 1) := by decide +kernel
theorem dX3_add_45 : decode cX3_add 45 = .ok (.bipush 14, 2) := by decide +kernel
theorem dX3_add_47 : decode cX3_add 47 = .ok (.irem, 1) := by decide +kernel
theorem dX3_add_48 : decode cX3_add 48 = .ok (.aaload, 1) := by decide +kernel
theorem dX3_add_49 : decode cX3_add 49 = .ok (.aload_n 1, 1) := by decide +kernel
theorem dX3_add_50 : decode cX3_add 50 = .ok (.invokevirtual 25, 3) := by decide +kernel
theorem dX3_add_53 : decode cX3_add 53 = .ok (.aload_n 0, 1) := by decide +kernel
theorem dX3_add_54 : decode cX3_add 54 = .ok (.dup, 1) := by decide +kernel
theorem dX3_add_55 : decode cX3_add 55 = .ok (.getfield 22, 3) := by decide +kernel
theorem dX3_add_58 : decode cX3_add 58 = .ok (.iconst 1, 1) := by decide +kernel
theorem dX3_add_59 : decode cX3_add 59 = .ok (.iadd, 1) := by decide +kernel
theorem dX3_add_60 : decode cX3_add 60 = .ok (.putfield 22, 3) := by decide +kernel
theorem dX3_add_63 : decode cX3_add 63 = .ok (.return_, 1) := by decide +kernel
theorem dX3_takeBack_0 : decode cX3_takeBack 0 = .ok (.aload_n 0, 1) := by decide +kernel
theorem dX3_takeBack_1 : decode cX3_takeBack 1 = .ok (.getfield 22, 3) := by decide +kernel
theorem dX3_takeBack_4 : decode cX3_takeBack 4 = .ok (.ifCond .gt 5, 3) := by decide +kernel
theorem dX3_takeBack_7 : decode cX3_takeBack 7 = .ok (.iconst 0, 1) := by decide +kernel
theorem dX3_takeBack_8 : decode cX3_takeBack 8 = .ok (.ireturn, 1) := by decide +kernel
theorem dX3_takeBack_9 : decode cX3_takeBack 9 = .ok (.aload_n 0, 1) := by decide +kernel
theorem dX3_takeBack_10 : decode cX3_takeBack 10 = .ok (.dup, 1) := by decide +kernel
theorem dX3_takeBack_11 : decode cX3_takeBack 11 = .ok (.getfield 22, 3) := by decide +kernel
theorem dX3_takeBack_14 : decode cX3_takeBack 14 = .ok (.iconst 1, 1) := by decide +kernel
theorem dX3_takeBack_15 : decode cX3_takeBack 15 = .ok (.isub, 1) := by decide +kernel
theorem dX3_takeBack_16 : decode cX3_takeBack 16 = .ok (.putfield 22, 3) := by decide +kernel
theorem dX3_takeBack_19 : decode cX3_takeBack 19 = .ok (.aload_n 1, 1) := by decide +kernel
theorem dX3_takeBack_20 : decode cX3_takeBack 20 = .ok (.aload_n 0, 1) := by decide +kernel
theorem dX3_takeBack_21 : decode cX3_takeBack 21 = .ok (.getfield 11, 3) := by decide +kernel
theorem dX3_takeBack_24 : decode cX3_takeBack 24 = .ok (.aload_n 0, 1) := by decide +kernel
theorem dX3_takeBack_25 : decode cX3_takeBack 25 = .ok (.getfield 18, 3) := by decide +kernel
theorem dX3_takeBack_28 : decode cX3_takeBack 28 = .ok (.aload_n 0, 1) := by decide +kernel
theorem dX3_takeBack_29 : decode cX3_takeBack 29 = .ok (.getfield 22, 3) := by decide +kernel
theorem dX3_takeBack_32 : decode cX3_takeBack 32 = .ok (.iadd, 1) := by decide +kernel
theorem dX3_takeBack_33 : decode cX3_takeBack 33 = .ok (.bipush 14, 2) := by decide +kernel
theorem dX3_takeBack_35 : decode cX3_takeBack 35 = .ok (.irem, 1) := by decide +kernel
theorem dX3_takeBack_36 : decode cX3_takeBack 36 = .ok (.aaload, 1) := by decide +kernel
theorem dX3_takeBack_37 : decode cX3_takeBack 37 = .ok (.invokevirtual 25, 3) := by decide +kernel
theorem dX3_takeBack_40 : decode cX3_takeBack 40 = .ok (.iconst 1, 1) := by decide +kernel
theorem dX3_takeBack_41 : decode cX3_takeBack 41 = .ok (.ireturn, 1) := by decide +kernel
theorem dX4_init_0 : decode cX4_init 0 = .ok (.aload_n 0, 1) := by decide +kernel
theorem dX4_init_1 : decode cX4_init 1 = .ok (.invokespecial 3, 3) := by decide +kernel
theorem dX4_init_4 : decode cX4_init 4 = .ok (.aload_n 0, 1) := by decide +kernel
theorem dX4_init_5 : decode cX4_init 5 = .ok (.iconst 4, 1) := by decide +kernel
theorem dX4_init_6 : decode cX4_init 6 = .ok (.newarray .int, 2) := by decide +kernel
theorem dX4_init_8 : decode cX4_init 8 = .ok (.putfield 11, 3) := by decide +kernel
theorem dX4_init_11 : decode cX4_init 11 = .ok (.aload_n 0, 1) := by decide +kernel
theorem dX4_init_12 : decode cX4_init 12 = .ok (.iconst 4, 1) := by decide +kernel
theorem dX4_init_13 : decode cX4_init 13 = .ok (.newarray .int, 2) := by decide +kernel
theorem dX4_init_15 : decode cX4_init 15 = .ok (.putfield 15, 3) := by decide +kernel
theorem dX4_init_18 : decode cX4_init 18 = .ok (.return_, 1) := by decide +kernel
theorem dX4_tryAll_0 : decode cX4_tryAll 0 = .ok (.iconst 0, 1) := by decide +kernel
theorem dX4_tryAll_1 : decode cX4_tryAll 1 = .ok (.istore 5, 2) := by decide +kernel
theorem dX4_tryAll_3 : decode cX4_tryAll 3 = .ok (.iload 5, 2) := by decide +kernel
theorem dX4_tryAll_5 : decode cX4_tryAll 5 = .ok (.iconst 4, 1) := by decide +kernel
theorem dX4_tryAll_6 : decode cX4_tryAll 6 = .ok (.if_icmp .ge 62, 3) := by decide +kernel
theorem dX4_tryAll_9 : decode cX4_tryAll 9 = .ok (.aload_n 2, 1) := by decide +kernel
theorem dX4_tryAll_10 : decode cX4_tryAll 10 = .ok (.aload_n 1, 1) := by decide +kernel
theorem dX4_tryAll_11 : decode cX4_tryAll 11 = .ok (.invokevirtual 18, 3) := by decide +kernel
theorem dX4_tryAll_14 : decode cX4_tryAll 14 = .ok (.aload_n 2, 1) := by decide +kernel
theorem dX4_tryAll_15 : decode cX4_tryAll 15 = .ok (.iload_n 3, 1) := by decide +kernel
theorem dX4_tryAll_16 : decode cX4_tryAll 16 = .ok (.iconst 5, 1) := by decide +kernel
theorem dX4_tryAll_17 : decode cX4_tryAll 17 = .ok (.iload 5, 2) := by decide +kernel
theorem dX4_tryAll_19 : decode cX4_tryAll 19 = .ok (.iconst 2, 1) := by decide +kernel
theorem dX4_tryAll_20 : decode cX4_tryAll 20 = .ok (.idiv, 1) := by decide +kernel
theorem dX4_tryAll_21 : decode cX4_tryAll 21 = .ok (.invokevirtual 24, 3) := by decide +kernel
theorem dX4_tryAll_24 : decode cX4_tryAll 24 = .ok (.pop, 1) := by decide +kernel
theorem dX4_tryAll_25 : decode cX4_tryAll 25 = .ok (.aload_n 2, 1) := by decide +kernel
theorem dX4_tryAll_26 : decode cX4_tryAll 26 = .ok (.iload 4, 2) := by decide +kernel
theorem dX4_tryAll_28 : decode cX4_tryAll 28 = .ok (.iconst 5, 1) := by decide +kernel
theorem dX4_tryAll_29 : decode cX4_tryAll 29 = .ok (.iload 5, 2) := by decide +kernel
theorem dX4_tryAll_31 : decode cX4_tryAll 31 = .ok (.iconst 2, 1) := by decide +kernel
theorem dX4_tryAll_32 : decode cX4_tryAll 32 = .ok (.irem, 1) := by decide +kernel
theorem dX4_tryAll_33 : decode cX4_tryAll 33 = .ok (.invokevirtual 24, 3) := by decide +kernel
theorem dX4_tryAll_36 : decode cX4_tryAll 36 = .ok (.pop, 1) := by decide +kernel
theorem dX4_tryAll_37 : decode cX4_tryAll 37 = .ok (.aload_n 0, 1) := by decide +kernel
theorem dX4_tryAll_38 : decode cX4_tryAll 38 = .ok (.getfield 11, 3) := by decide +kernel
theorem dX4_tryAll_41 : decode cX4_tryAll 41 = .ok (.iload 5, 2) := by decide +kernel
theorem dX4_tryAll_43 : decode cX4_tryAll 43 = .ok (.aload_n 2, 1) := by decide +kernel
theorem dX4_tryAll_44 : decode cX4_tryAll 44 = .ok (.iload_n 3, 1) := by decide +kernel
theorem dX4_tryAll_45 : decode cX4_tryAll 45 = .ok (.invokevirtual 28, 3) := by decide +kernel
theorem dX4_tryAll_48 : decode cX4_tryAll 48 = .ok (.iastore, 1) := by decide +kernel
theorem dX4_tryAll_49 : decode cX4_tryAll 49 = .ok (.aload_n 0, 1) := by decide +kernel
theorem dX4_tryAll_50 : decode cX4_tryAll 50 = .ok (.getfield 15, 3) := by decide +kernel
theorem dX4_tryAll_53 : decode cX4_tryAll 53 = .ok (.iload 5, 2) := by decide +kernel
theorem dX4_tryAll_55 : decode cX4_tryAll 55 = .ok (.aload_n 2, 1) := by decide +kernel
theorem dX4_tryAll_56 : decode cX4_tryAll 56 = .ok (.iload 4, 2) := by decide +kernel
theorem dX4_tryAll_58 : decode cX4_tryAll 58 = .ok (.invokevirtual 28, 3) := by decide +kernel
theorem dX4_tryAll_61 : decode cX4_tryAll 61 = .ok (.iastore, 1) := by decide +kernel
theorem dX4_tryAll_62 : decode cX4_tryAll 62 = .ok (.iinc 5 1, 3) := by decide +kernel
theorem dX4_tryAll_65 : decode cX4_tryAll 65 = .ok (.goto (-62), 3) := by decide +kernel
theorem dX4_tryAll_68 : decode cX4_tryAll 68 = .ok (.return_, 1) := by decide +kernel
theorem dX4_isAtRest_0 : decode cX4_isAtRest 0 = .ok (.aload_n 0, 1) := by decide +kernel
theorem dX4_isAtRest_1 : decode cX4_isAtRest 1 = .ok (.getfield 11, 3) := by decide +kernel
theorem dX4_isAtRest_4 : decode cX4_isAtRest 4 = .ok (.iload_n 1, 1) := by decide +kernel
theorem dX4_isAtRest_5 : decode cX4_isAtRest 5 = .ok (.iaload, 1) := by decide +kernel
theorem dX4_isAtRest_6 : decode cX4_isAtRest 6 = .ok (.aload_n 0, 1) := by decide +kernel
theorem dX4_isAtRest_7 : decode cX4_isAtRest 7 = .ok (.getfield 11, 3) := by decide +kernel
theorem dX4_isAtRest_10 : decode cX4_isAtRest 10 = .ok (.iload_n 1, 1) := by decide +kernel
theorem dX4_isAtRest_11 : decode cX4_isAtRest 11 = .ok (.iconst 2, 1) := by decide +kernel
theorem dX4_isAtRest_12 : decode cX4_isAtRest 12 = .ok (.ixor, 1) := by decide +kernel
theorem dX4_isAtRest_13 : decode cX4_isAtRest 13 = .ok (.iaload, 1) := by decide +kernel
theorem dX4_isAtRest_14 : decode cX4_isAtRest 14 = .ok (.if_icmp .lt 24, 3) := by decide +kernel
theorem dX4_isAtRest_17 : decode cX4_isAtRest 17 = .ok (.aload_n 0, 1) := by decide +kernel
theorem dX4_isAtRest_18 : decode cX4_isAtRest 18 = .ok (.getfield 15, 3) := by decide +kernel
theorem dX4_isAtRest_21 : decode cX4_isAtRest 21 = .ok (.iload_n 1, 1) := by decide +kernel
theorem dX4_isAtRest_22 : decode cX4_isAtRest 22 = .ok (.iaload, 1) := by decide +kernel
theorem dX4_isAtRest_23 : decode cX4_isAtRest 23 = .ok (.aload_n 0, 1) := by decide +kernel
theorem dX4_isAtRest_24 : decode cX4_isAtRest 24 = .ok (.getfield 15, 3) := by decide +kernel
theorem dX4_isAtRest_27 : decode cX4_isAtRest 27 = .ok (.iload_n 1, 1) := by decide +kernel
theorem dX4_isAtRest_28 : decode cX4_isAtRest 28 = .ok (.iconst 1, 1) := by decide +kernel
theorem dX4_isAtRest_29 : decode cX4_isAtRest 29 = .ok (.ixor, 1) := by decide +kernel
theorem dX4_isAtRest_30 : decode cX4_isAtRest 30 = .ok (.iaload, 1) := by decide +kernel
theorem dX4_isAtRest_31 : decode cX4_isAtRest 31 = .ok (.if_icmp .lt 7, 3) := by decide +kernel
theorem dX4_isAtRest_34 : decode cX4_isAtRest 34 = .ok (.iconst 1, 1) := by decide +kernel
theorem dX4_isAtRest_35 : decode cX4_isAtRest 35 = .ok (.goto 4, 3) := by decide +kernel
theorem dX4_isAtRest_38 : decode cX4_isAtRest 38 = .ok (.iconst 0, 1) := by decide +kernel
theorem dX4_isAtRest_39 : decode cX4_isAtRest 39 = .ok (.ireturn, 1) := by decide +kernel
theorem dX4_howMany_0 : decode cX4_howMany 0 = .ok (.iconst 0, 1) := by decide +kernel
theorem dX4_howMany_1 : decode cX4_howMany 1 = .ok (.istore_n 1, 1) := by decide +kernel
theorem dX4_howMany_2 : decode cX4_howMany 2 = .ok (.iconst 0, 1) := by decide +kernel
theorem dX4_howMany_3 : decode cX4_howMany 3 = .ok (.istore_n 2, 1) := by decide +kernel
theorem dX4_howMany_4 : decode cX4_howMany 4 = .ok (.iload_n 2, 1) := by decide +kernel
theorem dX4_howMany_5 : decode cX4_howMany 5 = .ok (.iconst 4, 1) := by decide +kernel
theorem dX4_howMany_6 : decode cX4_howMany 6 = .ok (.if_icmp .ge 20, 3) := by decide +kernel
theorem dX4_howMany_9 : decode cX4_howMany 9 = .ok (.aload_n 0, 1) := by decide +kernel
theorem dX4_howMany_10 : decode cX4_howMany 10 = .ok (.iload_n 2, 1) := by decide +kernel
theorem dX4_howMany_11 : decode cX4_howMany 11 = .ok (.invokevirtual 32, 3) := by decide +kernel
theorem dX4_howMany_14 : decode cX4_howMany 14 = .ok (.ifCond .eq 6, 3) := by decide +kernel
theorem dX4_howMany_17 : decode cX4_howMany 17 = .ok (.iinc 1 1, 3) := by decide +kernel
theorem dX4_howMany_20 : decode cX4_howMany 20 = .ok (.iinc 2 1, 3) := by decide +kernel
theorem dX4_howMany_23 : decode cX4_howMany 23 = .ok (.goto (-19), 3) := by decide +kernel
theorem dX4_howMany_26 : decode cX4_howMany 26 = .ok (.iload_n 1, 1) := by decide +kernel
theorem dX4_howMany_27 : decode cX4_howMany 27 = .ok (.ireturn, 1) := by decide +kernel
theorem dX4_firstPair_0 : decode cX4_firstPair 0 = .ok (.iconst 0, 1) := by decide +kernel
theorem dX4_firstPair_1 : decode cX4_firstPair 1 = .ok (.istore_n 1, 1) := by decide +kernel
theorem dX4_firstPair_2 : decode cX4_firstPair 2 = .ok (.iload_n 1, 1) := by decide +kernel
theorem dX4_firstPair_3 : decode cX4_firstPair 3 = .ok (.iconst 4, 1) := by decide +kernel
theorem dX4_firstPair_4 : decode cX4_firstPair 4 = .ok (.if_icmp .ge 28, 3) := by decide +kernel
theorem dX4_firstPair_7 : decode cX4_firstPair 7 = .ok (.aload_n 0, 1) := by decide +kernel
theorem dX4_firstPair_8 : decode cX4_firstPair 8 = .ok (.iload_n 1, 1) := by decide +kernel
theorem dX4_firstPair_9 : decode cX4_firstPair 9 = .ok (.invokevirtual 32, 3) := by decide +kernel
theorem dX4_firstPair_12 : decode cX4_firstPair 12 = .ok (.ifCond .eq 14, 3) := by decide +kernel
theorem dX4_firstPair_15 : decode cX4_firstPair 15 = .ok (.bipush 10, 2) := by decide +kernel
theorem dX4_firstPair_17 : decode cX4_firstPair 17 = .ok (.iload_n 1, 1) := by decide +kernel
theorem dX4_firstPair_18 : decode cX4_firstPair 18 = .ok (.iconst 2, 1) := by decide +kernel
theorem dX4_firstPair_19 : decode cX4_firstPair 19 = .ok (.idiv, 1) := by decide +kernel
theorem dX4_firstPair_20 : decode cX4_firstPair 20 = .ok (.imul, 1) := by decide +kernel
theorem dX4_firstPair_21 : decode cX4_firstPair 21 = .ok (.iload_n 1, 1) := by decide +kernel
theorem dX4_firstPair_22 : decode cX4_firstPair 22 = .ok (.iconst 2, 1) := by decide +kernel
theorem dX4_firstPair_23 : decode cX4_firstPair 23 = .ok (.irem, 1) := by decide +kernel
theorem dX4_firstPair_24 : decode cX4_firstPair 24 = .ok (.iadd, 1) := by decide +kernel
theorem dX4_firstPair_25 : decode cX4_firstPair 25 = .ok (.ireturn, 1) := by decide +kernel
theorem dX4_firstPair_26 : decode cX4_firstPair 26 = .ok (.iinc 1 1, 3) := by decide +kernel
theorem dX4_firstPair_29 : decode cX4_firstPair 29 = .ok (.goto (-27), 3) := by decide +kernel
theorem dX4_firstPair_32 : decode cX4_firstPair 32 = .ok (.bipush (-9), 2) := by decide +kernel
theorem dX4_firstPair_34 : decode cX4_firstPair 34 = .ok (.ireturn, 1) := by decide +kernel
theorem dX5_stepsOn_0 : decode cX5_stepsOn 0 = .ok (.iload_n 0, 1) := by decide +kernel
theorem dX5_stepsOn_1 : decode cX5_stepsOn 1 = .ok (.iload_n 1, 1) := by decide +kernel
theorem dX5_stepsOn_2 : decode cX5_stepsOn 2 = .ok (.iadd, 1) := by decide +kernel
theorem dX5_stepsOn_3 : decode cX5_stepsOn 3 = .ok (.bipush 12, 2) := by decide +kernel
theorem dX5_stepsOn_5 : decode cX5_stepsOn 5 = .ok (.invokestatic 9, 3) := by decide +kernel
theorem dX5_stepsOn_8 : decode cX5_stepsOn 8 = .ok (.ireturn, 1) := by decide +kernel
theorem dX5_apart_0 : decode cX5_apart 0 = .ok (.iload_n 1, 1) := by decide +kernel
theorem dX5_apart_1 : decode cX5_apart 1 = .ok (.iload_n 0, 1) := by decide +kernel
theorem dX5_apart_2 : decode cX5_apart 2 = .ok (.isub, 1) := by decide +kernel
theorem dX5_apart_3 : decode cX5_apart 3 = .ok (.bipush 12, 2) := by decide +kernel
theorem dX5_apart_5 : decode cX5_apart 5 = .ok (.invokestatic 9, 3) := by decide +kernel
theorem dX5_apart_8 : decode cX5_apart 8 = .ok (.istore_n 2, 1) := by decide +kernel
theorem dX5_apart_9 : decode cX5_apart 9 = .ok (.iload_n 2, 1) := by decide +kernel
theorem dX5_apart_10 : decode cX5_apart 10 = .ok (.bipush 12, 2) := by decide +kernel
theorem dX5_apart_12 : decode cX5_apart 12 = .ok (.iload_n 2, 1) := by decide +kernel
theorem dX5_apart_13 : decode cX5_apart 13 = .ok (.isub, 1) := by decide +kernel
theorem dX5_apart_14 : decode cX5_apart 14 = .ok (.invokestatic 15, 3) := by decide +kernel
theorem dX5_apart_17 : decode cX5_apart 17 = .ok (.ireturn, 1) := by decide +kernel
theorem dX5_lengthBetween_0 : decode cX5_lengthBetween 0 = .ok (.iload_n 0, 1) := by decide +kernel
theorem dX5_lengthBetween_1 : decode cX5_lengthBetween 1 = .ok (.iload_n 1, 1) := by decide +kernel
theorem dX5_lengthBetween_2 : decode cX5_lengthBetween 2 = .ok (.if_icmp .ge 9, 3) := by decide +kernel
theorem dX5_lengthBetween_5 : decode cX5_lengthBetween 5 = .ok (.iload_n 1, 1) := by decide +kernel
theorem dX5_lengthBetween_6 : decode cX5_lengthBetween 6 = .ok (.iload_n 0, 1) := by decide +kernel
theorem dX5_lengthBetween_7 : decode cX5_lengthBetween 7 = .ok (.isub, 1) := by decide +kernel
theorem dX5_lengthBetween_8 : decode cX5_lengthBetween 8 = .ok (.goto 6, 3) := by decide +kernel
theorem dX5_lengthBetween_11 : decode cX5_lengthBetween 11 = .ok (.iload_n 0, 1) := by decide +kernel
theorem dX5_lengthBetween_12 : decode cX5_lengthBetween 12 = .ok (.iload_n 1, 1) := by decide +kernel
theorem dX5_lengthBetween_13 : decode cX5_lengthBetween 13 = .ok (.isub, 1) := by decide +kernel
theorem dX5_lengthBetween_14 : decode cX5_lengthBetween 14 = .ok (.istore_n 2, 1) := by decide +kernel
theorem dX5_lengthBetween_15 : decode cX5_lengthBetween 15 = .ok (.iload_n 2, 1) := by decide +kernel
theorem dX5_lengthBetween_16 : decode cX5_lengthBetween 16 = .ok (.getstatic 18, 3) := by decide +kernel
theorem dX5_lengthBetween_19 : decode cX5_lengthBetween 19 = .ok (.arraylength, 1) := by decide +kernel
theorem dX5_lengthBetween_20 : decode cX5_lengthBetween 20 = .ok (.if_icmp .ge 11, 3) := by decide +kernel
theorem dX5_lengthBetween_23 : decode cX5_lengthBetween 23 = .ok (.getstatic 18, 3) := by decide +kernel
theorem dX5_lengthBetween_26 : decode cX5_lengthBetween 26 = .ok (.iload_n 2, 1) := by decide +kernel
theorem dX5_lengthBetween_27 : decode cX5_lengthBetween 27 = .ok (.iaload, 1) := by decide +kernel
theorem dX5_lengthBetween_28 : decode cX5_lengthBetween 28 = .ok (.goto 4, 3) := by decide +kernel
theorem dX5_lengthBetween_31 : decode cX5_lengthBetween 31 = .ok (.iconst 0, 1) := by decide +kernel
theorem dX5_lengthBetween_32 : decode cX5_lengthBetween 32 = .ok (.ireturn, 1) := by decide +kernel
theorem dX5_doCross_0 : decode cX5_doCross 0 = .ok (.iload_n 0, 1) := by decide +kernel
theorem dX5_doCross_1 : decode cX5_doCross 1 = .ok (.iload_n 2, 1) := by decide +kernel
theorem dX5_doCross_2 : decode cX5_doCross 2 = .ok (.if_icmp .eq 18, 3) := by decide +kernel
theorem dX5_doCross_5 : decode cX5_doCross 5 = .ok (.iload_n 0, 1) := by decide +kernel
theorem dX5_doCross_6 : decode cX5_doCross 6 = .ok (.iload_n 3, 1) := by decide +kernel
theorem dX5_doCross_7 : decode cX5_doCross 7 = .ok (.if_icmp .eq 13, 3) := by decide +kernel
theorem dX5_doCross_10 : decode cX5_doCross 10 = .ok (.iload_n 1, 1) := by decide +kernel
theorem dX5_doCross_11 : decode cX5_doCross 11 = .ok (.iload_n 2, 1) := by decide +kernel
theorem dX5_doCross_12 : decode cX5_doCross 12 = .ok (.if_icmp .eq 8, 3) := by decide +kernel
theorem dX5_doCross_15 : decode cX5_doCross 15 = .ok (.iload_n 1, 1) := by decide +kernel
theorem dX5_doCross_16 : decode cX5_doCross 16 = .ok (.iload_n 3, 1) := by decide +kernel
theorem dX5_doCross_17 : decode cX5_doCross 17 = .ok (.if_icmp .ne 5, 3) := by decide +kernel
theorem dX5_doCross_20 : decode cX5_doCross 20 = .ok (.iconst 0, 1) := by decide +kernel
theorem dX5_doCross_21 : decode cX5_doCross 21 = .ok (.ireturn, 1) := by decide +kernel
theorem dX5_doCross_22 : decode cX5_doCross 22 = .ok (.iload_n 0, 1) := by decide +kernel
theorem dX5_doCross_23 : decode cX5_doCross 23 = .ok (.iload_n 1, 1) := by decide +kernel
theorem dX5_doCross_24 : decode cX5_doCross 24 = .ok (.if_icmp .ge 7, 3) := by decide +kernel
theorem dX5_doCross_27 : decode cX5_doCross 27 = .ok (.iload_n 0, 1) := by decide +kernel
theorem dX5_doCross_28 : decode cX5_doCross 28 = .ok (.goto 4, 3) := by decide +kernel
theorem dX5_doCross_31 : decode cX5_doCross 31 = .ok (.iload_n 1, 1) := by decide +kernel
theorem dX5_doCross_32 : decode cX5_doCross 32 = .ok (.istore 4, 2) := by decide +kernel
theorem dX5_doCross_34 : decode cX5_doCross 34 = .ok (.iload_n 0, 1) := by decide +kernel
theorem dX5_doCross_35 : decode cX5_doCross 35 = .ok (.iload_n 1, 1) := by decide +kernel
theorem dX5_doCross_36 : decode cX5_doCross 36 = .ok (.if_icmp .ge 7, 3) := by decide +kernel
theorem dX5_doCross_39 : decode cX5_doCross 39 = .ok (.iload_n 1, 1) := by decide +kernel
theorem dX5_doCross_40 : decode cX5_doCross 40 = .ok (.goto 4, 3) := by decide +kernel
theorem dX5_doCross_43 : decode cX5_doCross 43 = .ok (.iload_n 0, 1) := by decide +kernel
theorem dX5_doCross_44 : decode cX5_doCross 44 = .ok (.istore 5, 2) := by decide +kernel
theorem dX5_doCross_46 : decode cX5_doCross 46 = .ok (.iload 4, 2) := by decide +kernel
theorem dX5_doCross_48 : decode cX5_doCross 48 = .ok (.iload_n 2, 1) := by decide +kernel
theorem dX5_doCross_49 : decode cX5_doCross 49 = .ok (.if_icmp .ge 13, 3) := by decide +kernel
theorem dX5_doCross_52 : decode cX5_doCross 52 = .ok (.iload_n 2, 1) := by decide +kernel
theorem dX5_doCross_53 : decode cX5_doCross 53 = .ok (.iload 5, 2) := by decide +kernel
theorem dX5_doCross_55 : decode cX5_doCross 55 = .ok (.if_icmp .ge 7, 3) := by decide +kernel
theorem dX5_doCross_58 : decode cX5_doCross 58 = .ok (.iconst 1, 1) := by decide +kernel
theorem dX5_doCross_59 : decode cX5_doCross 59 = .ok (.goto 4, 3) := by decide +kernel
theorem dX5_doCross_62 : decode cX5_doCross 62 = .ok (.iconst 0, 1) := by decide +kernel
theorem dX5_doCross_63 : decode cX5_doCross 63 = .ok (.iload 4, 2) := by decide +kernel
theorem dX5_doCross_65 : decode cX5_doCross 65 = .ok (.iload_n 3, 1) := by decide +kernel
theorem dX5_doCross_66 : decode cX5_doCross 66 = .ok (.if_icmp .ge 13, 3) := by decide +kernel
theorem dX5_doCross_69 : decode cX5_doCross 69 = .ok (.iload_n 3, 1) := by decide +kernel
theorem dX5_doCross_70 : decode cX5_doCross 70 = .ok (.iload 5, 2) := by decide +kernel
theorem dX5_doCross_72 : decode cX5_doCross 72 = .ok (.if_icmp .ge 7, 3) := by decide +kernel
theorem dX5_doCross_75 : decode cX5_doCross 75 = .ok (.iconst 1, 1) := by decide +kernel
theorem dX5_doCross_76 : decode cX5_doCross 76 = .ok (.goto 4, 3) := by decide +kernel
theorem dX5_doCross_79 : decode cX5_doCross 79 = .ok (.iconst 0, 1) := by decide +kernel
theorem dX5_doCross_80 : decode cX5_doCross 80 = .ok (.if_icmp .eq 7, 3) := by decide +kernel
theorem dX5_doCross_83 : decode cX5_doCross 83 = .ok (.iconst 1, 1) := by decide +kernel
theorem dX5_doCross_84 : decode cX5_doCross 84 = .ok (.goto 4, 3) := by decide +kernel
theorem dX5_doCross_87 : decode cX5_doCross 87 = .ok (.iconst 0, 1) := by decide +kernel
theorem dX5_doCross_88 : decode cX5_doCross 88 = .ok (.ireturn, 1) := by decide +kernel
theorem dX6_init_0 : decode cX6_init 0 = .ok (.aload_n 0, 1) := by decide +kernel
theorem dX6_init_1 : decode cX6_init 1 = .ok (.invokespecial 3, 3) := by decide +kernel
theorem dX6_init_4 : decode cX6_init 4 = .ok (.aload_n 0, 1) := by decide +kernel
theorem dX6_init_5 : decode cX6_init 5 = .ok (.bipush 6, 2) := by decide +kernel
theorem dX6_init_7 : decode cX6_init 7 = .ok (.newarray .int, 2) := by decide +kernel
theorem dX6_init_9 : decode cX6_init 9 = .ok (.putfield 9, 3) := by decide +kernel
theorem dX6_init_12 : decode cX6_init 12 = .ok (.aload_n 0, 1) := by decide +kernel
theorem dX6_init_13 : decode cX6_init 13 = .ok (.bipush 6, 2) := by decide +kernel
theorem dX6_init_15 : decode cX6_init 15 = .ok (.newarray .int, 2) := by decide +kernel
theorem dX6_init_17 : decode cX6_init 17 = .ok (.putfield 15, 3) := by decide +kernel
theorem dX6_init_20 : decode cX6_init 20 = .ok (.aload_n 0, 1) := by decide +kernel
theorem dX6_init_21 : decode cX6_init 21 = .ok (.bipush 6, 2) := by decide +kernel
theorem dX6_init_23 : decode cX6_init 23 = .ok (.newarray .int, 2) := by decide +kernel
theorem dX6_init_25 : decode cX6_init 25 = .ok (.putfield 18, 3) := by decide +kernel
theorem dX6_init_28 : decode cX6_init 28 = .ok (.aload_n 0, 1) := by decide +kernel
theorem dX6_init_29 : decode cX6_init 29 = .ok (.iconst 0, 1) := by decide +kernel
theorem dX6_init_30 : decode cX6_init 30 = .ok (.putfield 21, 3) := by decide +kernel
theorem dX6_init_33 : decode cX6_init 33 = .ok (.return_, 1) := by decide +kernel
theorem dX6_size_0 : decode cX6_size 0 = .ok (.aload_n 0, 1) := by decide +kernel
theorem dX6_size_1 : decode cX6_size 1 = .ok (.getfield 21, 3) := by decide +kernel
theorem dX6_size_4 : decode cX6_size 4 = .ok (.ireturn, 1) := by decide +kernel
theorem dX6_clear_0 : decode cX6_clear 0 = .ok (.aload_n 0, 1) := by decide +kernel
theorem dX6_clear_1 : decode cX6_clear 1 = .ok (.iconst 0, 1) := by decide +kernel
theorem dX6_clear_2 : decode cX6_clear 2 = .ok (.putfield 21, 3) := by decide +kernel
theorem dX6_clear_5 : decode cX6_clear 5 = .ok (.return_, 1) := by decide +kernel
theorem dX6_add_0 : decode cX6_add 0 = .ok (.aload_n 0, 1) := by decide +kernel
theorem dX6_add_1 : decode cX6_add 1 = .ok (.getfield 21, 3) := by decide +kernel
theorem dX6_add_4 : decode cX6_add 4 = .ok (.bipush 6, 2) := by decide +kernel
theorem dX6_add_6 : decode cX6_add 6 = .ok (.if_icmp .lt 5, 3) := by decide +kernel
theorem dX6_add_9 : decode cX6_add 9 = .ok (.iconst 0, 1) := by decide +kernel
theorem dX6_add_10 : decode cX6_add 10 = .ok (.ireturn, 1) := by decide +kernel
theorem dX6_add_11 : decode cX6_add 11 = .ok (.aload_n 0, 1) := by decide +kernel
theorem dX6_add_12 : decode cX6_add 12 = .ok (.getfield 9, 3) := by decide +kernel
theorem dX6_add_15 : decode cX6_add 15 = .ok (.aload_n 0, 1) := by decide +kernel
theorem dX6_add_16 : decode cX6_add 16 = .ok (.getfield 21, 3) := by decide +kernel
theorem dX6_add_19 : decode cX6_add 19 = .ok (.iload_n 1, 1) := by decide +kernel
theorem dX6_add_20 : decode cX6_add 20 = .ok (.iastore, 1) := by decide +kernel
theorem dX6_add_21 : decode cX6_add 21 = .ok (.aload_n 0, 1) := by decide +kernel
theorem dX6_add_22 : decode cX6_add 22 = .ok (.getfield 15, 3) := by decide +kernel
theorem dX6_add_25 : decode cX6_add 25 = .ok (.aload_n 0, 1) := by decide +kernel
theorem dX6_add_26 : decode cX6_add 26 = .ok (.getfield 21, 3) := by decide +kernel
theorem dX6_add_29 : decode cX6_add 29 = .ok (.iload_n 2, 1) := by decide +kernel
theorem dX6_add_30 : decode cX6_add 30 = .ok (.iastore, 1) := by decide +kernel
theorem dX6_add_31 : decode cX6_add 31 = .ok (.aload_n 0, 1) := by decide +kernel
theorem dX6_add_32 : decode cX6_add 32 = .ok (.getfield 18, 3) := by decide +kernel
theorem dX6_add_35 : decode cX6_add 35 = .ok (.aload_n 0, 1) := by decide +kernel
theorem dX6_add_36 : decode cX6_add 36 = .ok (.getfield 21, 3) := by decide +kernel
theorem dX6_add_39 : decode cX6_add 39 = .ok (.iload_n 3, 1) := by decide +kernel
theorem dX6_add_40 : decode cX6_add 40 = .ok (.iastore, 1) := by decide +kernel
theorem dX6_add_41 : decode cX6_add 41 = .ok (.aload_n 0, 1) := by decide +kernel
theorem dX6_add_42 : decode cX6_add 42 = .ok (.dup, 1) := by decide +kernel
theorem dX6_add_43 : decode cX6_add 43 = .ok (.getfield 21, 3) := by decide +kernel
theorem dX6_add_46 : decode cX6_add 46 = .ok (.iconst 1, 1) := by decide +kernel
theorem dX6_add_47 : decode cX6_add 47 = .ok (.iadd, 1) := by decide +kernel
theorem dX6_add_48 : decode cX6_add 48 = .ok (.putfield 21, 3) := by decide +kernel
theorem dX6_add_51 : decode cX6_add 51 = .ok (.iconst 1, 1) := by decide +kernel
theorem dX6_add_52 : decode cX6_add 52 = .ok (.ireturn, 1) := by decide +kernel
theorem dX6_fits_0 : decode cX6_fits 0 = .ok (.iconst 0, 1) := by decide +kernel
theorem dX6_fits_1 : decode cX6_fits 1 = .ok (.istore_n 3, 1) := by decide +kernel
theorem dX6_fits_2 : decode cX6_fits 2 = .ok (.iload_n 3, 1) := by decide +kernel
theorem dX6_fits_3 : decode cX6_fits 3 = .ok (.aload_n 0, 1) := by decide +kernel
theorem dX6_fits_4 : decode cX6_fits 4 = .ok (.getfield 21, 3) := by decide +kernel
theorem dX6_fits_7 : decode cX6_fits 7 = .ok (.if_icmp .ge 59, 3) := by decide +kernel
theorem dX6_fits_10 : decode cX6_fits 10 = .ok (.iload_n 1, 1) := by decide +kernel
theorem dX6_fits_11 : decode cX6_fits 11 = .ok (.iload_n 2, 1) := by decide +kernel
theorem dX6_fits_12 : decode cX6_fits 12 = .ok (.aload_n 0, 1) := by decide +kernel
theorem dX6_fits_13 : decode cX6_fits 13 = .ok (.getfield 9, 3) := by decide +kernel
theorem dX6_fits_16 : decode cX6_fits 16 = .ok (.iload_n 3, 1) := by decide +kernel
theorem dX6_fits_17 : decode cX6_fits 17 = .ok (.iaload, 1) := by decide +kernel
theorem dX6_fits_18 : decode cX6_fits 18 = .ok (.imul, 1) := by decide +kernel
theorem dX6_fits_19 : decode cX6_fits 19 = .ok (.invokestatic 25, 3) := by decide +kernel
theorem dX6_fits_22 : decode cX6_fits 22 = .ok (.aload_n 0, 1) := by decide +kernel
theorem dX6_fits_23 : decode cX6_fits 23 = .ok (.getfield 15, 3) := by decide +kernel
theorem dX6_fits_26 : decode cX6_fits 26 = .ok (.iload_n 3, 1) := by decide +kernel
theorem dX6_fits_27 : decode cX6_fits 27 = .ok (.iaload, 1) := by decide +kernel
theorem dX6_fits_28 : decode cX6_fits 28 = .ok (.if_icmp .ne 7, 3) := by decide +kernel
theorem dX6_fits_31 : decode cX6_fits 31 = .ok (.iconst 1, 1) := by decide +kernel
theorem dX6_fits_32 : decode cX6_fits 32 = .ok (.goto 4, 3) := by decide +kernel
theorem dX6_fits_35 : decode cX6_fits 35 = .ok (.iconst 0, 1) := by decide +kernel
theorem dX6_fits_36 : decode cX6_fits 36 = .ok (.istore 4, 2) := by decide +kernel
theorem dX6_fits_38 : decode cX6_fits 38 = .ok (.iload 4, 2) := by decide +kernel
theorem dX6_fits_40 : decode cX6_fits 40 = .ok (.aload_n 0, 1) := by decide +kernel
theorem dX6_fits_41 : decode cX6_fits 41 = .ok (.getfield 18, 3) := by decide +kernel
theorem dX6_fits_44 : decode cX6_fits 44 = .ok (.iload_n 3, 1) := by decide +kernel
theorem dX6_fits_45 : decode cX6_fits 45 = .ok (.iaload, 1) := by decide +kernel
theorem dX6_fits_46 : decode cX6_fits 46 = .ok (.iconst 1, 1) := by decide +kernel
theorem dX6_fits_47 : decode cX6_fits 47 = .ok (.if_icmp .ne 7, 3) := by decide +kernel
theorem dX6_fits_50 : decode cX6_fits 50 = .ok (.iconst 1, 1) := by decide +kernel
theorem dX6_fits_51 : decode cX6_fits 51 = .ok (.goto 4, 3) := by decide +kernel
theorem dX6_fits_54 : decode cX6_fits 54 = .ok (.iconst 0, 1) := by decide +kernel
theorem dX6_fits_55 : decode cX6_fits 55 = .ok (.if_icmp .eq 5, 3) := by decide +kernel
theorem dX6_fits_58 : decode cX6_fits 58 = .ok (.iconst 0, 1) := by decide +kernel
theorem dX6_fits_59 : decode cX6_fits 59 = .ok (.ireturn, 1) := by decide +kernel
theorem dX6_fits_60 : decode cX6_fits 60 = .ok (.iinc 3 1, 3) := by decide +kernel
theorem dX6_fits_63 : decode cX6_fits 63 = .ok (.goto (-61), 3) := by decide +kernel
theorem dX6_fits_66 : decode cX6_fits 66 = .ok (.iconst 1, 1) := by decide +kernel
theorem dX6_fits_67 : decode cX6_fits 67 = .ok (.ireturn, 1) := by decide +kernel
theorem dX6_howMany_0 : decode cX6_howMany 0 = .ok (.iconst 0, 1) := by decide +kernel
theorem dX6_howMany_1 : decode cX6_howMany 1 = .ok (.istore_n 1, 1) := by decide +kernel
theorem dX6_howMany_2 : decode cX6_howMany 2 = .ok (.iconst 0, 1) := by decide +kernel
theorem dX6_howMany_3 : decode cX6_howMany 3 = .ok (.istore_n 2, 1) := by decide +kernel
theorem dX6_howMany_4 : decode cX6_howMany 4 = .ok (.iload_n 2, 1) := by decide +kernel
theorem dX6_howMany_5 : decode cX6_howMany 5 = .ok (.bipush 12, 2) := by decide +kernel
theorem dX6_howMany_7 : decode cX6_howMany 7 = .ok (.if_icmp .ge 35, 3) := by decide +kernel
theorem dX6_howMany_10 : decode cX6_howMany 10 = .ok (.iconst 1, 1) := by decide +kernel
theorem dX6_howMany_11 : decode cX6_howMany 11 = .ok (.istore_n 3, 1) := by decide +kernel
theorem dX6_howMany_12 : decode cX6_howMany 12 = .ok (.iload_n 3, 1) := by decide +kernel
theorem dX6_howMany_13 : decode cX6_howMany 13 = .ok (.bipush 12, 2) := by decide +kernel
theorem dX6_howMany_15 : decode cX6_howMany 15 = .ok (.if_icmp .ge 21, 3) := by decide +kernel
theorem dX6_howMany_18 : decode cX6_howMany 18 = .ok (.aload_n 0, 1) := by decide +kernel
theorem dX6_howMany_19 : decode cX6_howMany 19 = .ok (.iload_n 2, 1) := by decide +kernel
theorem dX6_howMany_20 : decode cX6_howMany 20 = .ok (.iload_n 3, 1) := by decide +kernel
theorem dX6_howMany_21 : decode cX6_howMany 21 = .ok (.invokevirtual 31, 3) := by decide +kernel
theorem dX6_howMany_24 : decode cX6_howMany 24 = .ok (.ifCond .eq 6, 3) := by decide +kernel
theorem dX6_howMany_27 : decode cX6_howMany 27 = .ok (.iinc 1 1, 3) := by decide +kernel
theorem dX6_howMany_30 : decode cX6_howMany 30 = .ok (.iinc 3 1, 3) := by decide +kernel
theorem dX6_howMany_33 : decode cX6_howMany 33 = .ok (.goto (-21), 3) := by decide +kernel
theorem dX6_howMany_36 : decode cX6_howMany 36 = .ok (.iinc 2 1, 3) := by decide +kernel
theorem dX6_howMany_39 : decode cX6_howMany 39 = .ok (.goto (-35), 3) := by decide +kernel
theorem dX6_howMany_42 : decode cX6_howMany 42 = .ok (.iload_n 1, 1) := by decide +kernel
theorem dX6_howMany_43 : decode cX6_howMany 43 = .ok (.ireturn, 1) := by decide +kernel
theorem dX6_firstStar_0 : decode cX6_firstStar 0 = .ok (.iconst 0, 1) := by decide +kernel
theorem dX6_firstStar_1 : decode cX6_firstStar 1 = .ok (.istore_n 1, 1) := by decide +kernel
theorem dX6_firstStar_2 : decode cX6_firstStar 2 = .ok (.iload_n 1, 1) := by decide +kernel
theorem dX6_firstStar_3 : decode cX6_firstStar 3 = .ok (.bipush 12, 2) := by decide +kernel
theorem dX6_firstStar_5 : decode cX6_firstStar 5 = .ok (.if_icmp .ge 39, 3) := by decide +kernel
theorem dX6_firstStar_8 : decode cX6_firstStar 8 = .ok (.iconst 1, 1) := by decide +kernel
theorem dX6_firstStar_9 : decode cX6_firstStar 9 = .ok (.istore_n 2, 1) := by decide +kernel
theorem dX6_firstStar_10 : decode cX6_firstStar 10 = .ok (.iload_n 2, 1) := by decide +kernel
theorem dX6_firstStar_11 : decode cX6_firstStar 11 = .ok (.bipush 12, 2) := by decide +kernel
theorem dX6_firstStar_13 : decode cX6_firstStar 13 = .ok (.if_icmp .ge 25, 3) := by decide +kernel
theorem dX6_firstStar_16 : decode cX6_firstStar 16 = .ok (.aload_n 0, 1) := by decide +kernel
theorem dX6_firstStar_17 : decode cX6_firstStar 17 = .ok (.iload_n 1, 1) := by decide +kernel
theorem dX6_firstStar_18 : decode cX6_firstStar 18 = .ok (.iload_n 2, 1) := by decide +kernel
theorem dX6_firstStar_19 : decode cX6_firstStar 19 = .ok (.invokevirtual 31, 3) := by decide +kernel
theorem dX6_firstStar_22 : decode cX6_firstStar 22 = .ok (.ifCond .eq 10, 3) := by decide +kernel
