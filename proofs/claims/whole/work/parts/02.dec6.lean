theorem dX11_partOf_81 : decode cX11_partOf 81 = .ok (.bipush 12, 2) := by decide +kernel
theorem dX11_partOf_83 : decode cX11_partOf 83 = .ok (.irem, 1) := by decide +kernel
theorem dX11_partOf_84 : decode cX11_partOf 84 = .ok (.ishl, 1) := by decide +kernel
theorem dX11_partOf_85 : decode cX11_partOf 85 = .ok (.ior, 1) := by decide +kernel
theorem dX11_partOf_86 : decode cX11_partOf 86 = .ok (.goto 4, 3) := by decide +kernel
theorem dX11_partOf_89 : decode cX11_partOf 89 = .ok (.iconst 0, 1) := by decide +kernel
theorem dX11_partOf_90 : decode cX11_partOf 90 = .ok (.ior, 1) := by decide +kernel
theorem dX11_partOf_91 : decode cX11_partOf 91 = .ok (.istore_n 2, 1) := by decide +kernel
theorem dX11_partOf_92 : decode cX11_partOf 92 = .ok (.iinc 4 1, 3) := by decide +kernel
theorem dX11_partOf_95 : decode cX11_partOf 95 = .ok (.goto (-80), 3) := by decide +kernel
theorem dX11_partOf_98 : decode cX11_partOf 98 = .ok (.iinc 3 1, 3) := by decide +kernel
theorem dX11_partOf_101 : decode cX11_partOf 101 = .ok (.goto (-95), 3) := by decide +kernel
theorem dX11_partOf_104 : decode cX11_partOf 104 = .ok (.iload_n 2, 1) := by decide +kernel
theorem dX11_partOf_105 : decode cX11_partOf 105 = .ok (.ireturn, 1) := by decide +kernel
theorem dX11_linesAt_0 : decode cX11_linesAt 0 = .ok (.iconst 0, 1) := by decide +kernel
theorem dX11_linesAt_1 : decode cX11_linesAt 1 = .ok (.istore_n 2, 1) := by decide +kernel
theorem dX11_linesAt_2 : decode cX11_linesAt 2 = .ok (.iconst 0, 1) := by decide +kernel
theorem dX11_linesAt_3 : decode cX11_linesAt 3 = .ok (.istore_n 3, 1) := by decide +kernel
theorem dX11_linesAt_4 : decode cX11_linesAt 4 = .ok (.iload_n 3, 1) := by decide +kernel
theorem dX11_linesAt_5 : decode cX11_linesAt 5 = .ok (.sipush 144, 3) := by decide +kernel
theorem dX11_linesAt_8 : decode cX11_linesAt 8 = .ok (.if_icmp .ge 38, 3) := by decide +kernel
theorem dX11_linesAt_11 : decode cX11_linesAt 11 = .ok (.iload_n 2, 1) := by decide +kernel
theorem dX11_linesAt_12 : decode cX11_linesAt 12 = .ok (.iload_n 3, 1) := by decide +kernel
theorem dX11_linesAt_13 : decode cX11_linesAt 13 = .ok (.bipush 12, 2) := by decide +kernel
theorem dX11_linesAt_15 : decode cX11_linesAt 15 = .ok (.idiv, 1) := by decide +kernel
theorem dX11_linesAt_16 : decode cX11_linesAt 16 = .ok (.iload_n 1, 1) := by decide +kernel
theorem dX11_linesAt_17 : decode cX11_linesAt 17 = .ok (.if_icmp .eq 11, 3) := by decide +kernel
theorem dX11_linesAt_20 : decode cX11_linesAt 20 = .ok (.iload_n 3, 1) := by decide +kernel
theorem dX11_linesAt_21 : decode cX11_linesAt 21 = .ok (.bipush 12, 2) := by decide +kernel
theorem dX11_linesAt_23 : decode cX11_linesAt 23 = .ok (.irem, 1) := by decide +kernel
theorem dX11_linesAt_24 : decode cX11_linesAt 24 = .ok (.iload_n 1, 1) := by decide +kernel
theorem dX11_linesAt_25 : decode cX11_linesAt 25 = .ok (.if_icmp .ne 12, 3) := by decide +kernel
theorem dX11_linesAt_28 : decode cX11_linesAt 28 = .ok (.aload_n 0, 1) := by decide +kernel
theorem dX11_linesAt_29 : decode cX11_linesAt 29 = .ok (.getfield 28, 3) := by decide +kernel
theorem dX11_linesAt_32 : decode cX11_linesAt 32 = .ok (.iload_n 3, 1) := by decide +kernel
theorem dX11_linesAt_33 : decode cX11_linesAt 33 = .ok (.iaload, 1) := by decide +kernel
theorem dX11_linesAt_34 : decode cX11_linesAt 34 = .ok (.goto 4, 3) := by decide +kernel
theorem dX11_linesAt_37 : decode cX11_linesAt 37 = .ok (.iconst 0, 1) := by decide +kernel
theorem dX11_linesAt_38 : decode cX11_linesAt 38 = .ok (.iadd, 1) := by decide +kernel
theorem dX11_linesAt_39 : decode cX11_linesAt 39 = .ok (.istore_n 2, 1) := by decide +kernel
theorem dX11_linesAt_40 : decode cX11_linesAt 40 = .ok (.iinc 3 1, 3) := by decide +kernel
theorem dX11_linesAt_43 : decode cX11_linesAt 43 = .ok (.goto (-39), 3) := by decide +kernel
theorem dX11_linesAt_46 : decode cX11_linesAt 46 = .ok (.iload_n 2, 1) := by decide +kernel
theorem dX11_linesAt_47 : decode cX11_linesAt 47 = .ok (.ireturn, 1) := by decide +kernel
theorem dX11_strokes_0 : decode cX11_strokes 0 = .ok (.aload_n 0, 1) := by decide +kernel
theorem dX11_strokes_1 : decode cX11_strokes 1 = .ok (.iconst 0, 1) := by decide +kernel
theorem dX11_strokes_2 : decode cX11_strokes 2 = .ok (.invokevirtual 210, 3) := by decide +kernel
theorem dX11_strokes_5 : decode cX11_strokes 5 = .ok (.iconst 0, 1) := by decide +kernel
theorem dX11_strokes_6 : decode cX11_strokes 6 = .ok (.istore_n 1, 1) := by decide +kernel
theorem dX11_strokes_7 : decode cX11_strokes 7 = .ok (.iconst 0, 1) := by decide +kernel
theorem dX11_strokes_8 : decode cX11_strokes 8 = .ok (.istore_n 2, 1) := by decide +kernel
theorem dX11_strokes_9 : decode cX11_strokes 9 = .ok (.iconst 0, 1) := by decide +kernel
theorem dX11_strokes_10 : decode cX11_strokes 10 = .ok (.istore_n 3, 1) := by decide +kernel
theorem dX11_strokes_11 : decode cX11_strokes 11 = .ok (.iload_n 3, 1) := by decide +kernel
theorem dX11_strokes_12 : decode cX11_strokes 12 = .ok (.bipush 12, 2) := by decide +kernel
theorem dX11_strokes_14 : decode cX11_strokes 14 = .ok (.if_icmp .ge 100, 3) := by decide +kernel
theorem dX11_strokes_17 : decode cX11_strokes 17 = .ok (.iload_n 2, 1) := by decide +kernel
theorem dX11_strokes_18 : decode cX11_strokes 18 = .ok (.iload_n 3, 1) := by decide +kernel
theorem dX11_strokes_19 : decode cX11_strokes 19 = .ok (.invokestatic 201, 3) := by decide +kernel
theorem dX11_strokes_22 : decode cX11_strokes 22 = .ok (.ifCond .ne 86, 3) := by decide +kernel
theorem dX11_strokes_25 : decode cX11_strokes 25 = .ok (.aload_n 0, 1) := by decide +kernel
theorem dX11_strokes_26 : decode cX11_strokes 26 = .ok (.iload_n 3, 1) := by decide +kernel
theorem dX11_strokes_27 : decode cX11_strokes 27 = .ok (.invokevirtual 216, 3) := by decide +kernel
theorem dX11_strokes_30 : decode cX11_strokes 30 = .ok (.ifCond .le 78, 3) := by decide +kernel
theorem dX11_strokes_33 : decode cX11_strokes 33 = .ok (.aload_n 0, 1) := by decide +kernel
theorem dX11_strokes_34 : decode cX11_strokes 34 = .ok (.iload_n 3, 1) := by decide +kernel
theorem dX11_strokes_35 : decode cX11_strokes 35 = .ok (.invokevirtual 219, 3) := by decide +kernel
theorem dX11_strokes_38 : decode cX11_strokes 38 = .ok (.istore 4, 2) := by decide +kernel
theorem dX11_strokes_40 : decode cX11_strokes 40 = .ok (.iconst 0, 1) := by decide +kernel
theorem dX11_strokes_41 : decode cX11_strokes 41 = .ok (.istore 5, 2) := by decide +kernel
theorem dX11_strokes_43 : decode cX11_strokes 43 = .ok (.iconst 0, 1) := by decide +kernel
theorem dX11_strokes_44 : decode cX11_strokes 44 = .ok (.istore 6, 2) := by decide +kernel
theorem dX11_strokes_46 : decode cX11_strokes 46 = .ok (.iload 6, 2) := by decide +kernel
theorem dX11_strokes_48 : decode cX11_strokes 48 = .ok (.bipush 12, 2) := by decide +kernel
theorem dX11_strokes_50 : decode cX11_strokes 50 = .ok (.if_icmp .ge 36, 3) := by decide +kernel
theorem dX11_strokes_53 : decode cX11_strokes 53 = .ok (.iload 5, 2) := by decide +kernel
theorem dX11_strokes_55 : decode cX11_strokes 55 = .ok (.iload 4, 2) := by decide +kernel
theorem dX11_strokes_57 : decode cX11_strokes 57 = .ok (.iload 6, 2) := by decide +kernel
theorem dX11_strokes_59 : decode cX11_strokes 59 = .ok (.invokestatic 201, 3) := by decide +kernel
theorem dX11_strokes_62 : decode cX11_strokes 62 = .ok (.ifCond .eq 14, 3) := by decide +kernel
theorem dX11_strokes_65 : decode cX11_strokes 65 = .ok (.aload_n 0, 1) := by decide +kernel
theorem dX11_strokes_66 : decode cX11_strokes 66 = .ok (.iload 6, 2) := by decide +kernel
theorem dX11_strokes_68 : decode cX11_strokes 68 = .ok (.invokevirtual 216, 3) := by decide +kernel
theorem dX11_strokes_71 : decode cX11_strokes 71 = .ok (.iconst 2, 1) := by decide +kernel
theorem dX11_strokes_72 : decode cX11_strokes 72 = .ok (.irem, 1) := by decide +kernel
theorem dX11_strokes_73 : decode cX11_strokes 73 = .ok (.goto 4, 3) := by decide +kernel
theorem dX11_strokes_76 : decode cX11_strokes 76 = .ok (.iconst 0, 1) := by decide +kernel
theorem dX11_strokes_77 : decode cX11_strokes 77 = .ok (.iadd, 1) := by decide +kernel
theorem dX11_strokes_78 : decode cX11_strokes 78 = .ok (.istore 5, 2) := by decide +kernel
theorem dX11_strokes_80 : decode cX11_strokes 80 = .ok (.iinc 6 1, 3) := by decide +kernel
theorem dX11_strokes_83 : decode cX11_strokes 83 = .ok (.goto (-37), 3) := by decide +kernel
theorem dX11_strokes_86 : decode cX11_strokes 86 = .ok (.iload_n 1, 1) := by decide +kernel
theorem dX11_strokes_87 : decode cX11_strokes 87 = .ok (.iload 5, 2) := by decide +kernel
theorem dX11_strokes_89 : decode cX11_strokes 89 = .ok (.iconst 2, 1) := by decide +kernel
theorem dX11_strokes_90 : decode cX11_strokes 90 = .ok (.if_icmp .ge 7, 3) := by decide +kernel
theorem dX11_strokes_93 : decode cX11_strokes 93 = .ok (.iconst 1, 1) := by decide +kernel
theorem dX11_strokes_94 : decode cX11_strokes 94 = .ok (.goto 7, 3) := by decide +kernel
theorem dX11_strokes_97 : decode cX11_strokes 97 = .ok (.iload 5, 2) := by decide +kernel
theorem dX11_strokes_99 : decode cX11_strokes 99 = .ok (.iconst 2, 1) := by decide +kernel
theorem dX11_strokes_100 : decode cX11_strokes 100 = .ok (.idiv, 1) := by decide +kernel
theorem dX11_strokes_101 : decode cX11_strokes 101 = .ok (.iadd, 1) := by decide +kernel
theorem dX11_strokes_102 : decode cX11_strokes 102 = .ok (.istore_n 1, 1) := by decide +kernel
theorem dX11_strokes_103 : decode cX11_strokes 103 = .ok (.iload_n 2, 1) := by decide +kernel
theorem dX11_strokes_104 : decode cX11_strokes 104 = .ok (.iload 4, 2) := by decide +kernel
theorem dX11_strokes_106 : decode cX11_strokes 106 = .ok (.ior, 1) := by decide +kernel
theorem dX11_strokes_107 : decode cX11_strokes 107 = .ok (.istore_n 2, 1) := by decide +kernel
theorem dX11_strokes_108 : decode cX11_strokes 108 = .ok (.iinc 3 1, 3) := by decide +kernel
theorem dX11_strokes_111 : decode cX11_strokes 111 = .ok (.goto (-100), 3) := by decide +kernel
theorem dX11_strokes_114 : decode cX11_strokes 114 = .ok (.iload_n 1, 1) := by decide +kernel
theorem dX11_strokes_115 : decode cX11_strokes 115 = .ok (.ireturn, 1) := by decide +kernel
theorem dX11_next_0 : decode cX11_next 0 = .ok (.aload_n 0, 1) := by decide +kernel
theorem dX11_next_1 : decode cX11_next 1 = .ok (.iload_n 1, 1) := by decide +kernel
theorem dX11_next_2 : decode cX11_next 2 = .ok (.invokevirtual 159, 3) := by decide +kernel
theorem dX11_next_5 : decode cX11_next 5 = .ok (.ifCond .ne 5, 3) := by decide +kernel
theorem dX11_next_8 : decode cX11_next 8 = .ok (.iconst (-1), 1) := by decide +kernel
theorem dX11_next_9 : decode cX11_next 9 = .ok (.ireturn, 1) := by decide +kernel
theorem dX11_next_10 : decode cX11_next 10 = .ok (.iload_n 2, 1) := by decide +kernel
theorem dX11_next_11 : decode cX11_next 11 = .ok (.i2l, 1) := by decide +kernel
theorem dX11_next_12 : decode cX11_next 12 = .ok (.lconst 0, 1) := by decide +kernel
theorem dX11_next_13 : decode cX11_next 13 = .ok (.lconst 1, 1) := by decide +kernel
theorem dX11_next_14 : decode cX11_next 14 = .ok (.invokestatic 49, 3) := by decide +kernel
theorem dX11_next_17 : decode cX11_next 17 = .ok (.ifCond .ne 6, 3) := by decide +kernel
theorem dX11_next_20 : decode cX11_next 20 = .ok (.bipush (-2), 2) := by decide +kernel
theorem dX11_next_22 : decode cX11_next 22 = .ok (.ireturn, 1) := by decide +kernel
theorem dX11_next_23 : decode cX11_next 23 = .ok (.bipush (-9), 2) := by decide +kernel
theorem dX11_next_25 : decode cX11_next 25 = .ok (.istore_n 3, 1) := by decide +kernel
theorem dX11_next_26 : decode cX11_next 26 = .ok (.bipush (-9), 2) := by decide +kernel
theorem dX11_next_28 : decode cX11_next 28 = .ok (.istore 4, 2) := by decide +kernel
theorem dX11_next_30 : decode cX11_next 30 = .ok (.iconst 0, 1) := by decide +kernel
theorem dX11_next_31 : decode cX11_next 31 = .ok (.istore 5, 2) := by decide +kernel
theorem dX11_next_33 : decode cX11_next 33 = .ok (.iload 5, 2) := by decide +kernel
theorem dX11_next_35 : decode cX11_next 35 = .ok (.bipush 12, 2) := by decide +kernel
theorem dX11_next_37 : decode cX11_next 37 = .ok (.if_icmp .ge 72, 3) := by decide +kernel
theorem dX11_next_40 : decode cX11_next 40 = .ok (.aload_n 0, 1) := by decide +kernel
theorem dX11_next_41 : decode cX11_next 41 = .ok (.iconst 0, 1) := by decide +kernel
theorem dX11_next_42 : decode cX11_next 42 = .ok (.iload_n 1, 1) := by decide +kernel
theorem dX11_next_43 : decode cX11_next 43 = .ok (.iload 5, 2) := by decide +kernel
theorem dX11_next_45 : decode cX11_next 45 = .ok (.invokevirtual 105, 3) := by decide +kernel
theorem dX11_next_48 : decode cX11_next 48 = .ok (.ifCond .eq 21, 3) := by decide +kernel
theorem dX11_next_51 : decode cX11_next 51 = .ok (.aload_n 0, 1) := by decide +kernel
theorem dX11_next_52 : decode cX11_next 52 = .ok (.iconst 0, 1) := by decide +kernel
theorem dX11_next_53 : decode cX11_next 53 = .ok (.bipush (-9), 2) := by decide +kernel
theorem dX11_next_55 : decode cX11_next 55 = .ok (.aload_n 0, 1) := by decide +kernel
theorem dX11_next_56 : decode cX11_next 56 = .ok (.getfield 13, 3) := by decide +kernel
theorem dX11_next_59 : decode cX11_next 59 = .ok (.iload_n 1, 1) := by decide +kernel
theorem dX11_next_60 : decode cX11_next 60 = .ok (.iaload, 1) := by decide +kernel
theorem dX11_next_61 : decode cX11_next 61 = .ok (.iload 5, 2) := by decide +kernel
theorem dX11_next_63 : decode cX11_next 63 = .ok (.invokevirtual 143, 3) := by decide +kernel
theorem dX11_next_66 : decode cX11_next 66 = .ok (.goto 5, 3) := by decide +kernel
theorem dX11_next_69 : decode cX11_next 69 = .ok (.bipush (-9), 2) := by decide +kernel
theorem dX11_next_71 : decode cX11_next 71 = .ok (.istore 6, 2) := by decide +kernel
theorem dX11_next_73 : decode cX11_next 73 = .ok (.iload 6, 2) := by decide +kernel
theorem dX11_next_75 : decode cX11_next 75 = .ok (.iload 4, 2) := by decide +kernel
theorem dX11_next_77 : decode cX11_next 77 = .ok (.if_icmp .le 8, 3) := by decide +kernel
theorem dX11_next_80 : decode cX11_next 80 = .ok (.iload 5, 2) := by decide +kernel
theorem dX11_next_82 : decode cX11_next 82 = .ok (.goto 4, 3) := by decide +kernel
theorem dX11_next_85 : decode cX11_next 85 = .ok (.iload_n 3, 1) := by decide +kernel
theorem dX11_next_86 : decode cX11_next 86 = .ok (.istore_n 3, 1) := by decide +kernel
theorem dX11_next_87 : decode cX11_next 87 = .ok (.iload 6, 2) := by decide +kernel
theorem dX11_next_89 : decode cX11_next 89 = .ok (.iload 4, 2) := by decide +kernel
theorem dX11_next_91 : decode cX11_next 91 = .ok (.if_icmp .le 8, 3) := by decide +kernel
theorem dX11_next_94 : decode cX11_next 94 = .ok (.iload 6, 2) := by decide +kernel
theorem dX11_next_96 : decode cX11_next 96 = .ok (.goto 5, 3) := by decide +kernel
theorem dX11_next_99 : decode cX11_next 99 = .ok (.iload 4, 2) := by decide +kernel
theorem dX11_next_101 : decode cX11_next 101 = .ok (.istore 4, 2) := by decide +kernel
theorem dX11_next_103 : decode cX11_next 103 = .ok (.iinc 5 1, 3) := by decide +kernel
theorem dX11_next_106 : decode cX11_next 106 = .ok (.goto (-73), 3) := by decide +kernel
theorem dX11_next_109 : decode cX11_next 109 = .ok (.iload_n 2, 1) := by decide +kernel
theorem dX11_next_110 : decode cX11_next 110 = .ok (.ifCond .ne 7, 3) := by decide +kernel
theorem dX11_next_113 : decode cX11_next 113 = .ok (.iload_n 3, 1) := by decide +kernel
theorem dX11_next_114 : decode cX11_next 114 = .ok (.goto 5, 3) := by decide +kernel
theorem dX11_next_117 : decode cX11_next 117 = .ok (.iload 4, 2) := by decide +kernel
theorem dX11_next_119 : decode cX11_next 119 = .ok (.ireturn, 1) := by decide +kernel
theorem dX11_star_0 : decode cX11_star 0 = .ok (.aload_n 0, 1) := by decide +kernel
theorem dX11_star_1 : decode cX11_star 1 = .ok (.iload_n 1, 1) := by decide +kernel
theorem dX11_star_2 : decode cX11_star 2 = .ok (.invokevirtual 159, 3) := by decide +kernel
theorem dX11_star_5 : decode cX11_star 5 = .ok (.ifCond .ne 5, 3) := by decide +kernel
theorem dX11_star_8 : decode cX11_star 8 = .ok (.iconst (-1), 1) := by decide +kernel
theorem dX11_star_9 : decode cX11_star 9 = .ok (.ireturn, 1) := by decide +kernel
theorem dX11_star_10 : decode cX11_star 10 = .ok (.iload_n 2, 1) := by decide +kernel
theorem dX11_star_11 : decode cX11_star 11 = .ok (.i2l, 1) := by decide +kernel
theorem dX11_star_12 : decode cX11_star 12 = .ok (.lconst 1, 1) := by decide +kernel
theorem dX11_star_13 : decode cX11_star 13 = .ok (.ldc2_w 47, 3) := by decide +kernel
theorem dX11_star_16 : decode cX11_star 16 = .ok (.invokestatic 49, 3) := by decide +kernel
theorem dX11_star_19 : decode cX11_star 19 = .ok (.ifCond .eq 28, 3) := by decide +kernel
theorem dX11_star_22 : decode cX11_star 22 = .ok (.iload_n 3, 1) := by decide +kernel
theorem dX11_star_23 : decode cX11_star 23 = .ok (.i2l, 1) := by decide +kernel
theorem dX11_star_24 : decode cX11_star 24 = .ok (.lconst 0, 1) := by decide +kernel
theorem dX11_star_25 : decode cX11_star 25 = .ok (.ldc2_w 222, 3) := by decide +kernel
theorem dX11_star_28 : decode cX11_star 28 = .ok (.invokestatic 49, 3) := by decide +kernel
theorem dX11_star_31 : decode cX11_star 31 = .ok (.ifCond .eq 16, 3) := by decide +kernel
theorem dX11_star_34 : decode cX11_star 34 = .ok (.iload 4, 2) := by decide +kernel
theorem dX11_star_36 : decode cX11_star 36 = .ok (.i2l, 1) := by decide +kernel
theorem dX11_star_37 : decode cX11_star 37 = .ok (.lconst 0, 1) := by decide +kernel
theorem dX11_star_38 : decode cX11_star 38 = .ok (.ldc2_w 224, 3) := by decide +kernel
theorem dX11_star_41 : decode cX11_star 41 = .ok (.invokestatic 49, 3) := by decide +kernel
theorem dX11_star_44 : decode cX11_star 44 = .ok (.ifCond .ne 6, 3) := by decide +kernel
theorem dX11_star_47 : decode cX11_star 47 = .ok (.bipush (-2), 2) := by decide +kernel
theorem dX11_star_49 : decode cX11_star 49 = .ok (.ireturn, 1) := by decide +kernel
theorem dX11_star_50 : decode cX11_star 50 = .ok (.aload_n 0, 1) := by decide +kernel
theorem dX11_star_51 : decode cX11_star 51 = .ok (.invokevirtual 226, 3) := by decide +kernel
theorem dX11_star_54 : decode cX11_star 54 = .ok (.iconst 0, 1) := by decide +kernel
theorem dX11_star_55 : decode cX11_star 55 = .ok (.istore 5, 2) := by decide +kernel
theorem dX11_star_57 : decode cX11_star 57 = .ok (.iconst 0, 1) := by decide +kernel
theorem dX11_star_58 : decode cX11_star 58 = .ok (.istore 6, 2) := by decide +kernel
theorem dX11_star_60 : decode cX11_star 60 = .ok (.iconst 1, 1) := by decide +kernel
theorem dX11_star_61 : decode cX11_star 61 = .ok (.istore 7, 2) := by decide +kernel
theorem dX11_star_63 : decode cX11_star 63 = .ok (.iconst 0, 1) := by decide +kernel
theorem dX11_star_64 : decode cX11_star 64 = .ok (.istore 8, 2) := by decide +kernel
theorem dX11_star_66 : decode cX11_star 66 = .ok (.iload 8, 2) := by decide +kernel
theorem dX11_star_68 : decode cX11_star 68 = .ok (.iload_n 3, 1) := by decide +kernel
theorem dX11_star_69 : decode cX11_star 69 = .ok (.if_icmp .ge 61, 3) := by decide +kernel
theorem dX11_star_72 : decode cX11_star 72 = .ok (.iload 7, 2) := by decide +kernel
theorem dX11_star_74 : decode cX11_star 74 = .ok (.ifCond .eq 56, 3) := by decide +kernel
theorem dX11_star_77 : decode cX11_star 77 = .ok (.aload_n 0, 1) := by decide +kernel
theorem dX11_star_78 : decode cX11_star 78 = .ok (.getfield 13, 3) := by decide +kernel
theorem dX11_star_81 : decode cX11_star 81 = .ok (.bipush 53, 2) := by decide +kernel
theorem dX11_star_83 : decode cX11_star 83 = .ok (.iload_n 1, 1) := by decide +kernel
theorem dX11_star_84 : decode cX11_star 84 = .ok (.iadd, 1) := by decide +kernel
theorem dX11_star_85 : decode cX11_star 85 = .ok (.iaload, 1) := by decide +kernel
theorem dX11_star_86 : decode cX11_star 86 = .ok (.iload_n 2, 1) := by decide +kernel
theorem dX11_star_87 : decode cX11_star 87 = .ok (.iadd, 1) := by decide +kernel
theorem dX11_star_88 : decode cX11_star 88 = .ok (.bipush 12, 2) := by decide +kernel
theorem dX11_star_90 : decode cX11_star 90 = .ok (.irem, 1) := by decide +kernel
theorem dX11_star_91 : decode cX11_star 91 = .ok (.istore 9, 2) := by decide +kernel
theorem dX11_star_93 : decode cX11_star 93 = .ok (.aload_n 0, 1) := by decide +kernel
theorem dX11_star_94 : decode cX11_star 94 = .ok (.iconst 1, 1) := by decide +kernel
theorem dX11_star_95 : decode cX11_star 95 = .ok (.iload_n 1, 1) := by decide +kernel
theorem dX11_star_96 : decode cX11_star 96 = .ok (.iload 9, 2) := by decide +kernel
theorem dX11_star_98 : decode cX11_star 98 = .ok (.invokevirtual 105, 3) := by decide +kernel
theorem dX11_star_101 : decode cX11_star 101 = .ok (.istore 7, 2) := by decide +kernel
theorem dX11_star_103 : decode cX11_star 103 = .ok (.iload 7, 2) := by decide +kernel
theorem dX11_star_105 : decode cX11_star 105 = .ok (.ifCond .eq 19, 3) := by decide +kernel
theorem dX11_star_108 : decode cX11_star 108 = .ok (.iload 6, 2) := by decide +kernel
theorem dX11_star_110 : decode cX11_star 110 = .ok (.aload_n 0, 1) := by decide +kernel
theorem dX11_star_111 : decode cX11_star 111 = .ok (.iconst 1, 1) := by decide +kernel
theorem dX11_star_112 : decode cX11_star 112 = .ok (.iload_n 1, 1) := by decide +kernel
theorem dX11_star_113 : decode cX11_star 113 = .ok (.iload 9, 2) := by decide +kernel
theorem dX11_star_115 : decode cX11_star 115 = .ok (.invokevirtual 108, 3) := by decide +kernel
theorem dX11_star_118 : decode cX11_star 118 = .ok (.iadd, 1) := by decide +kernel
theorem dX11_star_119 : decode cX11_star 119 = .ok (.istore 6, 2) := by decide +kernel
theorem dX11_star_121 : decode cX11_star 121 = .ok (.iinc 5 1, 3) := by decide +kernel
theorem dX11_star_124 : decode cX11_star 124 = .ok (.iinc 8 1, 3) := by decide +kernel
theorem dX11_star_127 : decode cX11_star 127 = .ok (.goto (-61), 3) := by decide +kernel
theorem dX11_star_130 : decode cX11_star 130 = .ok (.iload 4, 2) := by decide +kernel
theorem dX11_star_132 : decode cX11_star 132 = .ok (.ifCond .ne 8, 3) := by decide +kernel
theorem dX11_star_135 : decode cX11_star 135 = .ok (.iload 5, 2) := by decide +kernel
theorem dX11_star_137 : decode cX11_star 137 = .ok (.goto 23, 3) := by decide +kernel
theorem dX11_star_140 : decode cX11_star 140 = .ok (.iload 4, 2) := by decide +kernel
theorem dX11_star_142 : decode cX11_star 142 = .ok (.iconst 1, 1) := by decide +kernel
theorem dX11_star_143 : decode cX11_star 143 = .ok (.if_icmp .ne 15, 3) := by decide +kernel
theorem dX11_star_146 : decode cX11_star 146 = .ok (.aload_n 0, 1) := by decide +kernel
theorem dX11_star_147 : decode cX11_star 147 = .ok (.getfield 13, 3) := by decide +kernel
theorem dX11_star_150 : decode cX11_star 150 = .ok (.bipush 53, 2) := by decide +kernel
theorem dX11_star_152 : decode cX11_star 152 = .ok (.iload_n 1, 1) := by decide +kernel
theorem dX11_star_153 : decode cX11_star 153 = .ok (.iadd, 1) := by decide +kernel
theorem dX11_star_154 : decode cX11_star 154 = .ok (.iaload, 1) := by decide +kernel
theorem dX11_star_155 : decode cX11_star 155 = .ok (.goto 5, 3) := by decide +kernel
theorem dX11_star_158 : decode cX11_star 158 = .ok (.iload 6, 2) := by decide +kernel
theorem dX11_star_160 : decode cX11_star 160 = .ok (.ireturn, 1) := by decide +kernel
theorem dX11_tryThing_0 : decode cX11_tryThing 0 = .ok (.iload_n 1, 1) := by decide +kernel
theorem dX11_tryThing_1 : decode cX11_tryThing 1 = .ok (.tableswitch 260 1 7 #[43, 84, 118, 161, 161, 199, 241], 43) := by decide +kernel
theorem dX11_tryThing_44 : decode cX11_tryThing 44 = .ok (.aload_n 0, 1) := by decide +kernel
theorem dX11_tryThing_45 : decode cX11_tryThing 45 = .ok (.iload_n 2, 1) := by decide +kernel
theorem dX11_tryThing_46 : decode cX11_tryThing 46 = .ok (.invokevirtual 159, 3) := by decide +kernel
theorem dX11_tryThing_49 : decode cX11_tryThing 49 = .ok (.ifCond .eq 17, 3) := by decide +kernel
theorem dX11_tryThing_52 : decode cX11_tryThing 52 = .ok (.aload_n 0, 1) := by decide +kernel
theorem dX11_tryThing_53 : decode cX11_tryThing 53 = .ok (.iconst 1, 1) := by decide +kernel
theorem dX11_tryThing_54 : decode cX11_tryThing 54 = .ok (.iload_n 2, 1) := by decide +kernel
theorem dX11_tryThing_55 : decode cX11_tryThing 55 = .ok (.iload_n 3, 1) := by decide +kernel
theorem dX11_tryThing_56 : decode cX11_tryThing 56 = .ok (.invokevirtual 105, 3) := by decide +kernel
theorem dX11_tryThing_59 : decode cX11_tryThing 59 = .ok (.ifCond .eq 7, 3) := by decide +kernel
theorem dX11_tryThing_62 : decode cX11_tryThing 62 = .ok (.iconst 1, 1) := by decide +kernel
theorem dX11_tryThing_63 : decode cX11_tryThing 63 = .ok (.goto 4, 3) := by decide +kernel
theorem dX11_tryThing_66 : decode cX11_tryThing 66 = .ok (.iconst 0, 1) := by decide +kernel
theorem dX11_tryThing_67 : decode cX11_tryThing 67 = .ok (.istore 4, 2) := by decide +kernel
theorem dX11_tryThing_69 : decode cX11_tryThing 69 = .ok (.iload 4, 2) := by decide +kernel
theorem dX11_tryThing_71 : decode cX11_tryThing 71 = .ok (.ifCond .eq 11, 3) := by decide +kernel
theorem dX11_tryThing_74 : decode cX11_tryThing 74 = .ok (.aload_n 0, 1) := by decide +kernel
theorem dX11_tryThing_75 : decode cX11_tryThing 75 = .ok (.iconst 1, 1) := by decide +kernel
theorem dX11_tryThing_76 : decode cX11_tryThing 76 = .ok (.iload_n 2, 1) := by decide +kernel
theorem dX11_tryThing_77 : decode cX11_tryThing 77 = .ok (.iload_n 3, 1) := by decide +kernel
theorem dX11_tryThing_78 : decode cX11_tryThing 78 = .ok (.invokevirtual 108, 3) := by decide +kernel
theorem dX11_tryThing_81 : decode cX11_tryThing 81 = .ok (.pop, 1) := by decide +kernel
theorem dX11_tryThing_82 : decode cX11_tryThing 82 = .ok (.iload 4, 2) := by decide +kernel
theorem dX11_tryThing_84 : decode cX11_tryThing 84 = .ok (.ireturn, 1) := by decide +kernel
theorem dX11_tryThing_85 : decode cX11_tryThing 85 = .ok (.iload_n 2, 1) := by decide +kernel
theorem dX11_tryThing_86 : decode cX11_tryThing 86 = .ok (.ifCond .ne 16, 3) := by decide +kernel
theorem dX11_tryThing_89 : decode cX11_tryThing 89 = .ok (.aload_n 0, 1) := by decide +kernel
theorem dX11_tryThing_90 : decode cX11_tryThing 90 = .ok (.iconst 1, 1) := by decide +kernel
theorem dX11_tryThing_91 : decode cX11_tryThing 91 = .ok (.iload_n 3, 1) := by decide +kernel
theorem dX11_tryThing_92 : decode cX11_tryThing 92 = .ok (.invokevirtual 179, 3) := by decide +kernel
theorem dX11_tryThing_95 : decode cX11_tryThing 95 = .ok (.ifCond .eq 7, 3) := by decide +kernel
theorem dX11_tryThing_98 : decode cX11_tryThing 98 = .ok (.iconst 1, 1) := by decide +kernel
theorem dX11_tryThing_99 : decode cX11_tryThing 99 = .ok (.goto 4, 3) := by decide +kernel
theorem dX11_tryThing_102 : decode cX11_tryThing 102 = .ok (.iconst 0, 1) := by decide +kernel
theorem dX11_tryThing_103 : decode cX11_tryThing 103 = .ok (.istore 5, 2) := by decide +kernel
theorem dX11_tryThing_105 : decode cX11_tryThing 105 = .ok (.iload 5, 2) := by decide +kernel
theorem dX11_tryThing_107 : decode cX11_tryThing 107 = .ok (.ifCond .eq 9, 3) := by decide +kernel
theorem dX11_tryThing_110 : decode cX11_tryThing 110 = .ok (.aload_n 0, 1) := by decide +kernel
theorem dX11_tryThing_111 : decode cX11_tryThing 111 = .ok (.iconst 1, 1) := by decide +kernel
theorem dX11_tryThing_112 : decode cX11_tryThing 112 = .ok (.iload_n 3, 1) := by decide +kernel
theorem dX11_tryThing_113 : decode cX11_tryThing 113 = .ok (.invokevirtual 191, 3) := by decide +kernel
theorem dX11_tryThing_116 : decode cX11_tryThing 116 = .ok (.iload 5, 2) := by decide +kernel
theorem dX11_tryThing_118 : decode cX11_tryThing 118 = .ok (.ireturn, 1) := by decide +kernel
theorem dX11_tryThing_119 : decode cX11_tryThing 119 = .ok (.iload_n 2, 1) := by decide +kernel
theorem dX11_tryThing_120 : decode cX11_tryThing 120 = .ok (.ifCond .ne 24, 3) := by decide +kernel
theorem dX11_tryThing_123 : decode cX11_tryThing 123 = .ok (.aload_n 0, 1) := by decide +kernel
theorem dX11_tryThing_124 : decode cX11_tryThing 124 = .ok (.iload_n 3, 1) := by decide +kernel
theorem dX11_tryThing_125 : decode cX11_tryThing 125 = .ok (.invokevirtual 159, 3) := by decide +kernel
theorem dX11_tryThing_128 : decode cX11_tryThing 128 = .ok (.ifCond .eq 16, 3) := by decide +kernel
theorem dX11_tryThing_131 : decode cX11_tryThing 131 = .ok (.aload_n 0, 1) := by decide +kernel
theorem dX11_tryThing_132 : decode cX11_tryThing 132 = .ok (.iconst 1, 1) := by decide +kernel
theorem dX11_tryThing_133 : decode cX11_tryThing 133 = .ok (.iload_n 3, 1) := by decide +kernel
theorem dX11_tryThing_134 : decode cX11_tryThing 134 = .ok (.invokevirtual 137, 3) := by decide +kernel
theorem dX11_tryThing_137 : decode cX11_tryThing 137 = .ok (.ifCond .le 7, 3) := by decide +kernel
theorem dX11_tryThing_140 : decode cX11_tryThing 140 = .ok (.iconst 1, 1) := by decide +kernel
theorem dX11_tryThing_141 : decode cX11_tryThing 141 = .ok (.goto 4, 3) := by decide +kernel
theorem dX11_tryThing_144 : decode cX11_tryThing 144 = .ok (.iconst 0, 1) := by decide +kernel
theorem dX11_tryThing_145 : decode cX11_tryThing 145 = .ok (.istore 6, 2) := by decide +kernel
theorem dX11_tryThing_147 : decode cX11_tryThing 147 = .ok (.iload 6, 2) := by decide +kernel
theorem dX11_tryThing_149 : decode cX11_tryThing 149 = .ok (.ifCond .eq 10, 3) := by decide +kernel
theorem dX11_tryThing_152 : decode cX11_tryThing 152 = .ok (.aload_n 0, 1) := by decide +kernel
theorem dX11_tryThing_153 : decode cX11_tryThing 153 = .ok (.iconst 1, 1) := by decide +kernel
theorem dX11_tryThing_154 : decode cX11_tryThing 154 = .ok (.iload_n 3, 1) := by decide +kernel
theorem dX11_tryThing_155 : decode cX11_tryThing 155 = .ok (.invokevirtual 194, 3) := by decide +kernel
theorem dX11_tryThing_158 : decode cX11_tryThing 158 = .ok (.pop, 1) := by decide +kernel
theorem dX11_tryThing_159 : decode cX11_tryThing 159 = .ok (.iload 6, 2) := by decide +kernel
theorem dX11_tryThing_161 : decode cX11_tryThing 161 = .ok (.ireturn, 1) := by decide +kernel
theorem dX11_tryThing_162 : decode cX11_tryThing 162 = .ok (.iload_n 2, 1) := by decide +kernel
theorem dX11_tryThing_163 : decode cX11_tryThing 163 = .ok (.ifCond .ne 11, 3) := by decide +kernel
theorem dX11_tryThing_166 : decode cX11_tryThing 166 = .ok (.iload_n 3, 1) := by decide +kernel
theorem dX11_tryThing_167 : decode cX11_tryThing 167 = .ok (.ifCond .ne 7, 3) := by decide +kernel
theorem dX11_tryThing_170 : decode cX11_tryThing 170 = .ok (.iconst 1, 1) := by decide +kernel
theorem dX11_tryThing_171 : decode cX11_tryThing 171 = .ok (.goto 4, 3) := by decide +kernel
theorem dX11_tryThing_174 : decode cX11_tryThing 174 = .ok (.iconst 0, 1) := by decide +kernel
theorem dX11_tryThing_175 : decode cX11_tryThing 175 = .ok (.istore 7, 2) := by decide +kernel
theorem dX11_tryThing_177 : decode cX11_tryThing 177 = .ok (.iload 7, 2) := by decide +kernel
theorem dX11_tryThing_179 : decode cX11_tryThing 179 = .ok (.ifCond .eq 18, 3) := by decide +kernel
theorem dX11_tryThing_182 : decode cX11_tryThing 182 = .ok (.aload_n 0, 1) := by decide +kernel
theorem dX11_tryThing_183 : decode cX11_tryThing 183 = .ok (.iconst 1, 1) := by decide +kernel
theorem dX11_tryThing_184 : decode cX11_tryThing 184 = .ok (.iload_n 1, 1) := by decide +kernel
theorem dX11_tryThing_185 : decode cX11_tryThing 185 = .ok (.iconst 5, 1) := by decide +kernel
theorem dX11_tryThing_186 : decode cX11_tryThing 186 = .ok (.if_icmp .ne 7, 3) := by decide +kernel
theorem dX11_tryThing_189 : decode cX11_tryThing 189 = .ok (.iconst 1, 1) := by decide +kernel
theorem dX11_tryThing_190 : decode cX11_tryThing 190 = .ok (.goto 4, 3) := by decide +kernel
theorem dX11_tryThing_193 : decode cX11_tryThing 193 = .ok (.iconst 0, 1) := by decide +kernel
theorem dX11_tryThing_194 : decode cX11_tryThing 194 = .ok (.invokevirtual 197, 3) := by decide +kernel
theorem dX11_tryThing_197 : decode cX11_tryThing 197 = .ok (.iload 7, 2) := by decide +kernel
theorem dX11_tryThing_199 : decode cX11_tryThing 199 = .ok (.ireturn, 1) := by decide +kernel
theorem dX11_tryThing_200 : decode cX11_tryThing 200 = .ok (.aload_n 0, 1) := by decide +kernel
theorem dX11_tryThing_201 : decode cX11_tryThing 201 = .ok (.iload_n 2, 1) := by decide +kernel
theorem dX11_tryThing_202 : decode cX11_tryThing 202 = .ok (.invokevirtual 159, 3) := by decide +kernel
theorem dX11_tryThing_205 : decode cX11_tryThing 205 = .ok (.ifCond .eq 35, 3) := by decide +kernel
theorem dX11_tryThing_208 : decode cX11_tryThing 208 = .ok (.aload_n 0, 1) := by decide +kernel
theorem dX11_tryThing_209 : decode cX11_tryThing 209 = .ok (.iload_n 3, 1) := by decide +kernel
theorem dX11_tryThing_210 : decode cX11_tryThing 210 = .ok (.bipush 10, 2) := by decide +kernel
theorem dX11_tryThing_212 : decode cX11_tryThing 212 = .ok (.idiv, 1) := by decide +kernel
theorem dX11_tryThing_213 : decode cX11_tryThing 213 = .ok (.invokevirtual 159, 3) := by decide +kernel
theorem dX11_tryThing_216 : decode cX11_tryThing 216 = .ok (.ifCond .eq 24, 3) := by decide +kernel
theorem dX11_tryThing_219 : decode cX11_tryThing 219 = .ok (.aload_n 0, 1) := by decide +kernel
theorem dX11_tryThing_220 : decode cX11_tryThing 220 = .ok (.iconst 1, 1) := by decide +kernel
theorem dX11_tryThing_221 : decode cX11_tryThing 221 = .ok (.iload_n 2, 1) := by decide +kernel
theorem dX11_tryThing_222 : decode cX11_tryThing 222 = .ok (.iload_n 3, 1) := by decide +kernel
theorem dX11_tryThing_223 : decode cX11_tryThing 223 = .ok (.bipush 10, 2) := by decide +kernel
theorem dX11_tryThing_225 : decode cX11_tryThing 225 = .ok (.idiv, 1) := by decide +kernel
theorem dX11_tryThing_226 : decode cX11_tryThing 226 = .ok (.invokevirtual 207, 3) := by decide +kernel
theorem dX11_tryThing_229 : decode cX11_tryThing 229 = .ok (.iload_n 3, 1) := by decide +kernel
theorem dX11_tryThing_230 : decode cX11_tryThing 230 = .ok (.bipush 10, 2) := by decide +kernel
theorem dX11_tryThing_232 : decode cX11_tryThing 232 = .ok (.irem, 1) := by decide +kernel
theorem dX11_tryThing_233 : decode cX11_tryThing 233 = .ok (.if_icmp .lt 7, 3) := by decide +kernel
theorem dX11_tryThing_236 : decode cX11_tryThing 236 = .ok (.iconst 1, 1) := by decide +kernel
theorem dX11_tryThing_237 : decode cX11_tryThing 237 = .ok (.goto 4, 3) := by decide +kernel
theorem dX11_tryThing_240 : decode cX11_tryThing 240 = .ok (.iconst 0, 1) := by decide +kernel
theorem dX11_tryThing_241 : decode cX11_tryThing 241 = .ok (.ireturn, 1) := by decide +kernel
theorem dX11_tryThing_242 : decode cX11_tryThing 242 = .ok (.iload_n 2, 1) := by decide +kernel
theorem dX11_tryThing_243 : decode cX11_tryThing 243 = .ok (.ifCond .ne 16, 3) := by decide +kernel
theorem dX11_tryThing_246 : decode cX11_tryThing 246 = .ok (.aload_n 0, 1) := by decide +kernel
theorem dX11_tryThing_247 : decode cX11_tryThing 247 = .ok (.iconst 1, 1) := by decide +kernel
theorem dX11_tryThing_248 : decode cX11_tryThing 248 = .ok (.invokevirtual 213, 3) := by decide +kernel
theorem dX11_tryThing_251 : decode cX11_tryThing 251 = .ok (.iload_n 3, 1) := by decide +kernel
theorem dX11_tryThing_252 : decode cX11_tryThing 252 = .ok (.if_icmp .lt 7, 3) := by decide +kernel
theorem dX11_tryThing_255 : decode cX11_tryThing 255 = .ok (.iconst 1, 1) := by decide +kernel
theorem dX11_tryThing_256 : decode cX11_tryThing 256 = .ok (.goto 4, 3) := by decide +kernel
theorem dX11_tryThing_259 : decode cX11_tryThing 259 = .ok (.iconst 0, 1) := by decide +kernel
theorem dX11_tryThing_260 : decode cX11_tryThing 260 = .ok (.ireturn, 1) := by decide +kernel
theorem dX11_tryThing_261 : decode cX11_tryThing 261 = .ok (.iconst 0, 1) := by decide +kernel
theorem dX11_tryThing_262 : decode cX11_tryThing 262 = .ok (.ireturn, 1) := by decide +kernel
theorem dX11_tenThousandTo_0 : decode cX11_tenThousandTo 0 = .ok (.lconst 1, 1) := by decide +kernel
theorem dX11_tenThousandTo_1 : decode cX11_tenThousandTo 1 = .ok (.lstore_n 1, 1) := by decide +kernel
theorem dX11_tenThousandTo_2 : decode cX11_tenThousandTo 2 = .ok (.iconst 0, 1) := by decide +kernel
theorem dX11_tenThousandTo_3 : decode cX11_tenThousandTo 3 = .ok (.istore_n 3, 1) := by decide +kernel
theorem dX11_tenThousandTo_4 : decode cX11_tenThousandTo 4 = .ok (.iload_n 3, 1) := by decide +kernel
theorem dX11_tenThousandTo_5 : decode cX11_tenThousandTo 5 = .ok (.iload_n 0, 1) := by decide +kernel
theorem dX11_tenThousandTo_6 : decode cX11_tenThousandTo 6 = .ok (.if_icmp .ge 15, 3) := by decide +kernel
theorem dX11_tenThousandTo_9 : decode cX11_tenThousandTo 9 = .ok (.lload_n 1, 1) := by decide +kernel
theorem dX11_tenThousandTo_10 : decode cX11_tenThousandTo 10 = .ok (.ldc2_w 229, 3) := by decide +kernel
theorem dX11_tenThousandTo_13 : decode cX11_tenThousandTo 13 = .ok (.lmul, 1) := by decide +kernel
theorem dX11_tenThousandTo_14 : decode cX11_tenThousandTo 14 = .ok (.lstore_n 1, 1) := by decide +kernel
theorem dX11_tenThousandTo_15 : decode cX11_tenThousandTo 15 = .ok (.iinc 3 1, 3) := by decide +kernel
theorem dX11_tenThousandTo_18 : decode cX11_tenThousandTo 18 = .ok (.goto (-14), 3) := by decide +kernel
theorem dX11_tenThousandTo_21 : decode cX11_tenThousandTo 21 = .ok (.lload_n 1, 1) := by decide +kernel
theorem dX11_tenThousandTo_22 : decode cX11_tenThousandTo 22 = .ok (.lreturn, 1) := by decide +kernel
theorem dX11_judge_0 : decode cX11_judge 0 = .ok (.iload_n 1, 1) := by decide +kernel
theorem dX11_judge_1 : decode cX11_judge 1 = .ok (.i2l, 1) := by decide +kernel
theorem dX11_judge_2 : decode cX11_judge 2 = .ok (.lconst 1, 1) := by decide +kernel
theorem dX11_judge_3 : decode cX11_judge 3 = .ok (.ldc2_w 231, 3) := by decide +kernel
theorem dX11_judge_6 : decode cX11_judge 6 = .ok (.invokestatic 49, 3) := by decide +kernel
theorem dX11_judge_9 : decode cX11_judge 9 = .ok (.ifCond .eq 17, 3) := by decide +kernel
theorem dX11_judge_12 : decode cX11_judge 12 = .ok (.lload_n 2, 1) := by decide +kernel
theorem dX11_judge_13 : decode cX11_judge 13 = .ok (.lconst 0, 1) := by decide +kernel
theorem dX11_judge_14 : decode cX11_judge 14 = .ok (.iload_n 1, 1) := by decide +kernel
theorem dX11_judge_15 : decode cX11_judge 15 = .ok (.invokestatic 233, 3) := by decide +kernel
theorem dX11_judge_18 : decode cX11_judge 18 = .ok (.lconst 1, 1) := by decide +kernel
theorem dX11_judge_19 : decode cX11_judge 19 = .ok (.lsub, 1) := by decide +kernel
theorem dX11_judge_20 : decode cX11_judge 20 = .ok (.invokestatic 49, 3) := by decide +kernel
theorem dX11_judge_23 : decode cX11_judge 23 = .ok (.ifCond .ne 6, 3) := by decide +kernel
theorem dX11_judge_26 : decode cX11_judge 26 = .ok (.bipush (-2), 2) := by decide +kernel
theorem dX11_judge_28 : decode cX11_judge 28 = .ok (.ireturn, 1) := by decide +kernel
theorem dX11_judge_29 : decode cX11_judge 29 = .ok (.aload_n 0, 1) := by decide +kernel
theorem dX11_judge_30 : decode cX11_judge 30 = .ok (.invokevirtual 226, 3) := by decide +kernel
theorem dX11_judge_33 : decode cX11_judge 33 = .ok (.iconst 0, 1) := by decide +kernel
theorem dX11_judge_34 : decode cX11_judge 34 = .ok (.istore 4, 2) := by decide +kernel
theorem dX11_judge_36 : decode cX11_judge 36 = .ok (.iload 4, 2) := by decide +kernel
theorem dX11_judge_38 : decode cX11_judge 38 = .ok (.iload_n 1, 1) := by decide +kernel
theorem dX11_judge_39 : decode cX11_judge 39 = .ok (.if_icmp .ge 56, 3) := by decide +kernel
theorem dX11_judge_42 : decode cX11_judge 42 = .ok (.lload_n 2, 1) := by decide +kernel
theorem dX11_judge_43 : decode cX11_judge 43 = .ok (.iload_n 1, 1) := by decide +kernel
theorem dX11_judge_44 : decode cX11_judge 44 = .ok (.iconst 1, 1) := by decide +kernel
theorem dX11_judge_45 : decode cX11_judge 45 = .ok (.isub, 1) := by decide +kernel
theorem dX11_judge_46 : decode cX11_judge 46 = .ok (.iload 4, 2) := by decide +kernel
theorem dX11_judge_48 : decode cX11_judge 48 = .ok (.isub, 1) := by decide +kernel
theorem dX11_judge_49 : decode cX11_judge 49 = .ok (.invokestatic 233, 3) := by decide +kernel
theorem dX11_judge_52 : decode cX11_judge 52 = .ok (.ldiv, 1) := by decide +kernel
theorem dX11_judge_53 : decode cX11_judge 53 = .ok (.ldc2_w 229, 3) := by decide +kernel
theorem dX11_judge_56 : decode cX11_judge 56 = .ok (.lrem, 1) := by decide +kernel
theorem dX11_judge_57 : decode cX11_judge 57 = .ok (.l2i, 1) := by decide +kernel
theorem dX11_judge_58 : decode cX11_judge 58 = .ok (.istore 5, 2) := by decide +kernel
theorem dX11_judge_60 : decode cX11_judge 60 = .ok (.aload_n 0, 1) := by decide +kernel
theorem dX11_judge_61 : decode cX11_judge 61 = .ok (.iload 5, 2) := by decide +kernel
theorem dX11_judge_63 : decode cX11_judge 63 = .ok (.sipush 1000, 3) := by decide +kernel
theorem dX11_judge_66 : decode cX11_judge 66 = .ok (.idiv, 1) := by decide +kernel
theorem dX11_judge_67 : decode cX11_judge 67 = .ok (.iload 5, 2) := by decide +kernel
theorem dX11_judge_69 : decode cX11_judge 69 = .ok (.bipush 100, 2) := by decide +kernel
theorem dX11_judge_71 : decode cX11_judge 71 = .ok (.idiv, 1) := by decide +kernel
theorem dX11_judge_72 : decode cX11_judge 72 = .ok (.bipush 10, 2) := by decide +kernel
theorem dX11_judge_74 : decode cX11_judge 74 = .ok (.irem, 1) := by decide +kernel
theorem dX11_judge_75 : decode cX11_judge 75 = .ok (.iload 5, 2) := by decide +kernel
theorem dX11_judge_77 : decode cX11_judge 77 = .ok (.bipush 100, 2) := by decide +kernel
theorem dX11_judge_79 : decode cX11_judge 79 = .ok (.irem, 1) := by decide +kernel
theorem dX11_judge_80 : decode cX11_judge 80 = .ok (.invokevirtual 237, 3) := by decide +kernel
theorem dX11_judge_83 : decode cX11_judge 83 = .ok (.ifCond .ne 6, 3) := by decide +kernel
theorem dX11_judge_86 : decode cX11_judge 86 = .ok (.iload 4, 2) := by decide +kernel
theorem dX11_judge_88 : decode cX11_judge 88 = .ok (.ireturn, 1) := by decide +kernel
theorem dX11_judge_89 : decode cX11_judge 89 = .ok (.iinc 4 1, 3) := by decide +kernel
theorem dX11_judge_92 : decode cX11_judge 92 = .ok (.goto (-56), 3) := by decide +kernel
theorem dX11_judge_95 : decode cX11_judge 95 = .ok (.bipush (-9), 2) := by decide +kernel
theorem dX11_judge_97 : decode cX11_judge 97 = .ok (.ireturn, 1) := by decide +kernel
theorem dX11_see_0 : decode cX11_see 0 = .ok (.iload_n 2, 1) := by decide +kernel
theorem dX11_see_1 : decode cX11_see 1 = .ok (.invokestatic 133, 3) := by decide +kernel
theorem dX11_see_4 : decode cX11_see 4 = .ok (.ifCond .ne 5, 3) := by decide +kernel
theorem dX11_see_7 : decode cX11_see 7 = .ok (.iconst (-1), 1) := by decide +kernel
theorem dX11_see_8 : decode cX11_see 8 = .ok (.ireturn, 1) := by decide +kernel
theorem dX11_see_9 : decode cX11_see 9 = .ok (.iload_n 1, 1) := by decide +kernel
theorem dX11_see_10 : decode cX11_see 10 = .ok (.i2l, 1) := by decide +kernel
theorem dX11_see_11 : decode cX11_see 11 = .ok (.lconst 0, 1) := by decide +kernel
theorem dX11_see_12 : decode cX11_see 12 = .ok (.ldc2_w 222, 3) := by decide +kernel
theorem dX11_see_15 : decode cX11_see 15 = .ok (.invokestatic 49, 3) := by decide +kernel
theorem dX11_see_18 : decode cX11_see 18 = .ok (.ifCond .eq 13, 3) := by decide +kernel
theorem dX11_see_21 : decode cX11_see 21 = .ok (.iload_n 3, 1) := by decide +kernel
theorem dX11_see_22 : decode cX11_see 22 = .ok (.i2l, 1) := by decide +kernel
theorem dX11_see_23 : decode cX11_see 23 = .ok (.lconst 0, 1) := by decide +kernel
theorem dX11_see_24 : decode cX11_see 24 = .ok (.lconst 1, 1) := by decide +kernel
theorem dX11_see_25 : decode cX11_see 25 = .ok (.invokestatic 49, 3) := by decide +kernel
theorem dX11_see_28 : decode cX11_see 28 = .ok (.ifCond .ne 6, 3) := by decide +kernel
theorem dX11_see_31 : decode cX11_see 31 = .ok (.bipush (-2), 2) := by decide +kernel
theorem dX11_see_33 : decode cX11_see 33 = .ok (.ireturn, 1) := by decide +kernel
theorem dX11_see_34 : decode cX11_see 34 = .ok (.aload_n 0, 1) := by decide +kernel
theorem dX11_see_35 : decode cX11_see 35 = .ok (.getfield 240, 3) := by decide +kernel
theorem dX11_see_38 : decode cX11_see 38 = .ok (.bipush 6, 2) := by decide +kernel
theorem dX11_see_40 : decode cX11_see 40 = .ok (.if_icmp .ne 6, 3) := by decide +kernel
theorem dX11_see_43 : decode cX11_see 43 = .ok (.bipush (-4), 2) := by decide +kernel
theorem dX11_see_45 : decode cX11_see 45 = .ok (.ireturn, 1) := by decide +kernel
theorem dX11_see_46 : decode cX11_see 46 = .ok (.aload_n 0, 1) := by decide +kernel
theorem dX11_see_47 : decode cX11_see 47 = .ok (.getfield 31, 3) := by decide +kernel
theorem dX11_see_50 : decode cX11_see 50 = .ok (.aload_n 0, 1) := by decide +kernel
theorem dX11_see_51 : decode cX11_see 51 = .ok (.getfield 240, 3) := by decide +kernel
theorem dX11_see_54 : decode cX11_see 54 = .ok (.iload_n 1, 1) := by decide +kernel
theorem dX11_see_55 : decode cX11_see 55 = .ok (.iastore, 1) := by decide +kernel
theorem dX11_see_56 : decode cX11_see 56 = .ok (.aload_n 0, 1) := by decide +kernel
theorem dX11_see_57 : decode cX11_see 57 = .ok (.getfield 34, 3) := by decide +kernel
theorem dX11_see_60 : decode cX11_see 60 = .ok (.aload_n 0, 1) := by decide +kernel
theorem dX11_see_61 : decode cX11_see 61 = .ok (.getfield 240, 3) := by decide +kernel
theorem dX11_see_64 : decode cX11_see 64 = .ok (.iload_n 2, 1) := by decide +kernel
theorem dX11_see_65 : decode cX11_see 65 = .ok (.iastore, 1) := by decide +kernel
theorem dX11_see_66 : decode cX11_see 66 = .ok (.aload_n 0, 1) := by decide +kernel
theorem dX11_see_67 : decode cX11_see 67 = .ok (.getfield 37, 3) := by decide +kernel
theorem dX11_see_70 : decode cX11_see 70 = .ok (.aload_n 0, 1) := by decide +kernel
theorem dX11_see_71 : decode cX11_see 71 = .ok (.getfield 240, 3) := by decide +kernel
theorem dX11_see_74 : decode cX11_see 74 = .ok (.iload_n 3, 1) := by decide +kernel
theorem dX11_see_75 : decode cX11_see 75 = .ok (.iastore, 1) := by decide +kernel
theorem dX11_see_76 : decode cX11_see 76 = .ok (.aload_n 0, 1) := by decide +kernel
theorem dX11_see_77 : decode cX11_see 77 = .ok (.dup, 1) := by decide +kernel
theorem dX11_see_78 : decode cX11_see 78 = .ok (.getfield 240, 3) := by decide +kernel
theorem dX11_see_81 : decode cX11_see 81 = .ok (.iconst 1, 1) := by decide +kernel
theorem dX11_see_82 : decode cX11_see 82 = .ok (.iadd, 1) := by decide +kernel
theorem dX11_see_83 : decode cX11_see 83 = .ok (.putfield 240, 3) := by decide +kernel
theorem dX11_see_86 : decode cX11_see 86 = .ok (.aload_n 0, 1) := by decide +kernel
theorem dX11_see_87 : decode cX11_see 87 = .ok (.getfield 240, 3) := by decide +kernel
theorem dX11_see_90 : decode cX11_see 90 = .ok (.ireturn, 1) := by decide +kernel
theorem dX11_unsee_0 : decode cX11_unsee 0 = .ok (.aload_n 0, 1) := by decide +kernel
theorem dX11_unsee_1 : decode cX11_unsee 1 = .ok (.getfield 240, 3) := by decide +kernel
theorem dX11_unsee_4 : decode cX11_unsee 4 = .ok (.istore_n 1, 1) := by decide +kernel
theorem dX11_unsee_5 : decode cX11_unsee 5 = .ok (.aload_n 0, 1) := by decide +kernel
theorem dX11_unsee_6 : decode cX11_unsee 6 = .ok (.iconst 0, 1) := by decide +kernel
theorem dX11_unsee_7 : decode cX11_unsee 7 = .ok (.putfield 240, 3) := by decide +kernel
theorem dX11_unsee_10 : decode cX11_unsee 10 = .ok (.iload_n 1, 1) := by decide +kernel
theorem dX11_unsee_11 : decode cX11_unsee 11 = .ok (.ireturn, 1) := by decide +kernel
theorem dX11_stars_0 : decode cX11_stars 0 = .ok (.iload_n 1, 1) := by decide +kernel
theorem dX11_stars_1 : decode cX11_stars 1 = .ok (.i2l, 1) := by decide +kernel
theorem dX11_stars_2 : decode cX11_stars 2 = .ok (.lconst 0, 1) := by decide +kernel
theorem dX11_stars_3 : decode cX11_stars 3 = .ok (.lconst 1, 1) := by decide +kernel
theorem dX11_stars_4 : decode cX11_stars 4 = .ok (.invokestatic 49, 3) := by decide +kernel
theorem dX11_stars_7 : decode cX11_stars 7 = .ok (.ifCond .ne 6, 3) := by decide +kernel
theorem dX11_stars_10 : decode cX11_stars 10 = .ok (.bipush (-2), 2) := by decide +kernel
theorem dX11_stars_12 : decode cX11_stars 12 = .ok (.ireturn, 1) := by decide +kernel
theorem dX11_stars_13 : decode cX11_stars 13 = .ok (.iconst 0, 1) := by decide +kernel
theorem dX11_stars_14 : decode cX11_stars 14 = .ok (.istore_n 2, 1) := by decide +kernel
theorem dX11_stars_15 : decode cX11_stars 15 = .ok (.bipush (-9), 2) := by decide +kernel
theorem dX11_stars_17 : decode cX11_stars 17 = .ok (.istore_n 3, 1) := by decide +kernel
theorem dX11_stars_18 : decode cX11_stars 18 = .ok (.iconst 0, 1) := by decide +kernel
theorem dX11_stars_19 : decode cX11_stars 19 = .ok (.istore 4, 2) := by decide +kernel
theorem dX11_stars_21 : decode cX11_stars 21 = .ok (.iload 4, 2) := by decide +kernel
theorem dX11_stars_23 : decode cX11_stars 23 = .ok (.sipush 132, 3) := by decide +kernel
theorem dX11_stars_26 : decode cX11_stars 26 = .ok (.if_icmp .ge 143, 3) := by decide +kernel
theorem dX11_stars_29 : decode cX11_stars 29 = .ok (.iload 4, 2) := by decide +kernel
theorem dX11_stars_31 : decode cX11_stars 31 = .ok (.bipush 11, 2) := by decide +kernel
theorem dX11_stars_33 : decode cX11_stars 33 = .ok (.idiv, 1) := by decide +kernel
theorem dX11_stars_34 : decode cX11_stars 34 = .ok (.istore 5, 2) := by decide +kernel
theorem dX11_stars_36 : decode cX11_stars 36 = .ok (.iconst 1, 1) := by decide +kernel
theorem dX11_stars_37 : decode cX11_stars 37 = .ok (.iload 4, 2) := by decide +kernel
theorem dX11_stars_39 : decode cX11_stars 39 = .ok (.bipush 11, 2) := by decide +kernel
theorem dX11_stars_41 : decode cX11_stars 41 = .ok (.irem, 1) := by decide +kernel
theorem dX11_stars_42 : decode cX11_stars 42 = .ok (.iadd, 1) := by decide +kernel
theorem dX11_stars_43 : decode cX11_stars 43 = .ok (.istore 6, 2) := by decide +kernel
theorem dX11_stars_45 : decode cX11_stars 45 = .ok (.iconst 1, 1) := by decide +kernel
theorem dX11_stars_46 : decode cX11_stars 46 = .ok (.istore 7, 2) := by decide +kernel
theorem dX11_stars_48 : decode cX11_stars 48 = .ok (.iconst 0, 1) := by decide +kernel
theorem dX11_stars_49 : decode cX11_stars 49 = .ok (.istore 8, 2) := by decide +kernel
theorem dX11_stars_51 : decode cX11_stars 51 = .ok (.iload 8, 2) := by decide +kernel
theorem dX11_stars_53 : decode cX11_stars 53 = .ok (.aload_n 0, 1) := by decide +kernel
theorem dX11_stars_54 : decode cX11_stars 54 = .ok (.getfield 240, 3) := by decide +kernel
theorem dX11_stars_57 : decode cX11_stars 57 = .ok (.if_icmp .ge 71, 3) := by decide +kernel
theorem dX11_stars_60 : decode cX11_stars 60 = .ok (.iload 7, 2) := by decide +kernel
theorem dX11_stars_62 : decode cX11_stars 62 = .ok (.ifCond .eq 57, 3) := by decide +kernel
theorem dX11_stars_65 : decode cX11_stars 65 = .ok (.iload 5, 2) := by decide +kernel
theorem dX11_stars_67 : decode cX11_stars 67 = .ok (.iload 6, 2) := by decide +kernel
theorem dX11_stars_69 : decode cX11_stars 69 = .ok (.aload_n 0, 1) := by decide +kernel
theorem dX11_stars_70 : decode cX11_stars 70 = .ok (.getfield 31, 3) := by decide +kernel
theorem dX11_stars_73 : decode cX11_stars 73 = .ok (.iload 8, 2) := by decide +kernel
theorem dX11_stars_75 : decode cX11_stars 75 = .ok (.iaload, 1) := by decide +kernel
theorem dX11_stars_76 : decode cX11_stars 76 = .ok (.imul, 1) := by decide +kernel
theorem dX11_stars_77 : decode cX11_stars 77 = .ok (.iadd, 1) := by decide +kernel
theorem dX11_stars_78 : decode cX11_stars 78 = .ok (.bipush 12, 2) := by decide +kernel
theorem dX11_stars_80 : decode cX11_stars 80 = .ok (.irem, 1) := by decide +kernel
theorem dX11_stars_81 : decode cX11_stars 81 = .ok (.aload_n 0, 1) := by decide +kernel
theorem dX11_stars_82 : decode cX11_stars 82 = .ok (.getfield 34, 3) := by decide +kernel
theorem dX11_stars_85 : decode cX11_stars 85 = .ok (.iload 8, 2) := by decide +kernel
theorem dX11_stars_87 : decode cX11_stars 87 = .ok (.iaload, 1) := by decide +kernel
theorem dX11_stars_88 : decode cX11_stars 88 = .ok (.if_icmp .ne 7, 3) := by decide +kernel
theorem dX11_stars_91 : decode cX11_stars 91 = .ok (.iconst 1, 1) := by decide +kernel
theorem dX11_stars_92 : decode cX11_stars 92 = .ok (.goto 4, 3) := by decide +kernel
theorem dX11_stars_95 : decode cX11_stars 95 = .ok (.iconst 0, 1) := by decide +kernel
theorem dX11_stars_96 : decode cX11_stars 96 = .ok (.aload_n 0, 1) := by decide +kernel
theorem dX11_stars_97 : decode cX11_stars 97 = .ok (.getfield 37, 3) := by decide +kernel
theorem dX11_stars_100 : decode cX11_stars 100 = .ok (.iload 8, 2) := by decide +kernel
theorem dX11_stars_102 : decode cX11_stars 102 = .ok (.iaload, 1) := by decide +kernel
theorem dX11_stars_103 : decode cX11_stars 103 = .ok (.iconst 1, 1) := by decide +kernel
theorem dX11_stars_104 : decode cX11_stars 104 = .ok (.if_icmp .ne 7, 3) := by decide +kernel
theorem dX11_stars_107 : decode cX11_stars 107 = .ok (.iconst 1, 1) := by decide +kernel
theorem dX11_stars_108 : decode cX11_stars 108 = .ok (.goto 4, 3) := by decide +kernel
theorem dX11_stars_111 : decode cX11_stars 111 = .ok (.iconst 0, 1) := by decide +kernel
theorem dX11_stars_112 : decode cX11_stars 112 = .ok (.if_icmp .ne 7, 3) := by decide +kernel
theorem dX11_stars_115 : decode cX11_stars 115 = .ok (.iconst 1, 1) := by decide +kernel
theorem dX11_stars_116 : decode cX11_stars 116 = .ok (.goto 4, 3) := by decide +kernel
theorem dX11_stars_119 : decode cX11_stars 119 = .ok (.iconst 0, 1) := by decide +kernel
theorem dX11_stars_120 : decode cX11_stars 120 = .ok (.istore 7, 2) := by decide +kernel
theorem dX11_stars_122 : decode cX11_stars 122 = .ok (.iinc 8 1, 3) := by decide +kernel
theorem dX11_stars_125 : decode cX11_stars 125 = .ok (.goto (-74), 3) := by decide +kernel
theorem dX11_stars_128 : decode cX11_stars 128 = .ok (.iload 7, 2) := by decide +kernel
theorem dX11_stars_130 : decode cX11_stars 130 = .ok (.ifCond .eq 18, 3) := by decide +kernel
theorem dX11_stars_133 : decode cX11_stars 133 = .ok (.iload_n 2, 1) := by decide +kernel
theorem dX11_stars_134 : decode cX11_stars 134 = .ok (.ifCond .ne 14, 3) := by decide +kernel
theorem dX11_stars_137 : decode cX11_stars 137 = .ok (.bipush 100, 2) := by decide +kernel
theorem dX11_stars_139 : decode cX11_stars 139 = .ok (.iload 5, 2) := by decide +kernel
theorem dX11_stars_141 : decode cX11_stars 141 = .ok (.imul, 1) := by decide +kernel
theorem dX11_stars_142 : decode cX11_stars 142 = .ok (.iload 6, 2) := by decide +kernel
theorem dX11_stars_144 : decode cX11_stars 144 = .ok (.iadd, 1) := by decide +kernel
theorem dX11_stars_145 : decode cX11_stars 145 = .ok (.goto 4, 3) := by decide +kernel
theorem dX11_stars_148 : decode cX11_stars 148 = .ok (.iload_n 3, 1) := by decide +kernel
theorem dX11_stars_149 : decode cX11_stars 149 = .ok (.istore_n 3, 1) := by decide +kernel
theorem dX11_stars_150 : decode cX11_stars 150 = .ok (.iload_n 2, 1) := by decide +kernel
theorem dX11_stars_151 : decode cX11_stars 151 = .ok (.iload 7, 2) := by decide +kernel
theorem dX11_stars_153 : decode cX11_stars 153 = .ok (.ifCond .eq 7, 3) := by decide +kernel
theorem dX11_stars_156 : decode cX11_stars 156 = .ok (.iconst 1, 1) := by decide +kernel
theorem dX11_stars_157 : decode cX11_stars 157 = .ok (.goto 4, 3) := by decide +kernel
theorem dX11_stars_160 : decode cX11_stars 160 = .ok (.iconst 0, 1) := by decide +kernel
theorem dX11_stars_161 : decode cX11_stars 161 = .ok (.iadd, 1) := by decide +kernel
theorem dX11_stars_162 : decode cX11_stars 162 = .ok (.istore_n 2, 1) := by decide +kernel
theorem dX11_stars_163 : decode cX11_stars 163 = .ok (.iinc 4 1, 3) := by decide +kernel
theorem dX11_stars_166 : decode cX11_stars 166 = .ok (.goto (-145), 3) := by decide +kernel
theorem dX11_stars_169 : decode cX11_stars 169 = .ok (.iload_n 1, 1) := by decide +kernel
theorem dX11_stars_170 : decode cX11_stars 170 = .ok (.ifCond .ne 7, 3) := by decide +kernel
theorem dX11_stars_173 : decode cX11_stars 173 = .ok (.iload_n 2, 1) := by decide +kernel
theorem dX11_stars_174 : decode cX11_stars 174 = .ok (.goto 4, 3) := by decide +kernel
theorem dX11_stars_177 : decode cX11_stars 177 = .ok (.iload_n 3, 1) := by decide +kernel
theorem dX11_stars_178 : decode cX11_stars 178 = .ok (.ireturn, 1) := by decide +kernel
theorem dX11_factorial_0 : decode cX11_factorial 0 = .ok (.iconst 1, 1) := by decide +kernel
theorem dX11_factorial_1 : decode cX11_factorial 1 = .ok (.istore_n 1, 1) := by decide +kernel
theorem dX11_factorial_2 : decode cX11_factorial 2 = .ok (.iconst 2, 1) := by decide +kernel
theorem dX11_factorial_3 : decode cX11_factorial 3 = .ok (.istore_n 2, 1) := by decide +kernel
theorem dX11_factorial_4 : decode cX11_factorial 4 = .ok (.iload_n 2, 1) := by decide +kernel
theorem dX11_factorial_5 : decode cX11_factorial 5 = .ok (.iload_n 0, 1) := by decide +kernel
theorem dX11_factorial_6 : decode cX11_factorial 6 = .ok (.if_icmp .gt 13, 3) := by decide +kernel
theorem dX11_factorial_9 : decode cX11_factorial 9 = .ok (.iload_n 1, 1) := by decide +kernel
theorem dX11_factorial_10 : decode cX11_factorial 10 = .ok (.iload_n 2, 1) := by decide +kernel
theorem dX11_factorial_11 : decode cX11_factorial 11 = .ok (.imul, 1) := by decide +kernel
theorem dX11_factorial_12 : decode cX11_factorial 12 = .ok (.istore_n 1, 1) := by decide +kernel
theorem dX11_factorial_13 : decode cX11_factorial 13 = .ok (.iinc 2 1, 3) := by decide +kernel
theorem dX11_factorial_16 : decode cX11_factorial 16 = .ok (.goto (-12), 3) := by decide +kernel
theorem dX11_factorial_19 : decode cX11_factorial 19 = .ok (.iload_n 1, 1) := by decide +kernel
theorem dX11_factorial_20 : decode cX11_factorial 20 = .ok (.ireturn, 1) := by decide +kernel
theorem dX11_common_0 : decode cX11_common 0 = .ok (.iload_n 0, 1) := by decide +kernel
theorem dX11_common_1 : decode cX11_common 1 = .ok (.ifCond .ge 8, 3) := by decide +kernel
theorem dX11_common_4 : decode cX11_common 4 = .ok (.iload_n 0, 1) := by decide +kernel
theorem dX11_common_5 : decode cX11_common 5 = .ok (.ineg, 1) := by decide +kernel
theorem dX11_common_6 : decode cX11_common 6 = .ok (.goto 4, 3) := by decide +kernel
theorem dX11_common_9 : decode cX11_common 9 = .ok (.iload_n 0, 1) := by decide +kernel
theorem dX11_common_10 : decode cX11_common 10 = .ok (.istore_n 2, 1) := by decide +kernel
theorem dX11_common_11 : decode cX11_common 11 = .ok (.iload_n 1, 1) := by decide +kernel
theorem dX11_common_12 : decode cX11_common 12 = .ok (.istore_n 3, 1) := by decide +kernel
theorem dX11_common_13 : decode cX11_common 13 = .ok (.iload_n 3, 1) := by decide +kernel
theorem dX11_common_14 : decode cX11_common 14 = .ok (.ifCond .eq 16, 3) := by decide +kernel
theorem dX11_common_17 : decode cX11_common 17 = .ok (.iload_n 2, 1) := by decide +kernel
theorem dX11_common_18 : decode cX11_common 18 = .ok (.iload_n 3, 1) := by decide +kernel
theorem dX11_common_19 : decode cX11_common 19 = .ok (.irem, 1) := by decide +kernel
theorem dX11_common_20 : decode cX11_common 20 = .ok (.istore 4, 2) := by decide +kernel
theorem dX11_common_22 : decode cX11_common 22 = .ok (.iload_n 3, 1) := by decide +kernel
theorem dX11_common_23 : decode cX11_common 23 = .ok (.istore_n 2, 1) := by decide +kernel
theorem dX11_common_24 : decode cX11_common 24 = .ok (.iload 4, 2) := by decide +kernel
theorem dX11_common_26 : decode cX11_common 26 = .ok (.istore_n 3, 1) := by decide +kernel
theorem dX11_common_27 : decode cX11_common 27 = .ok (.goto (-14), 3) := by decide +kernel
theorem dX11_common_30 : decode cX11_common 30 = .ok (.iload_n 2, 1) := by decide +kernel
theorem dX11_common_31 : decode cX11_common 31 = .ok (.ireturn, 1) := by decide +kernel
theorem dX11_share_0 : decode cX11_share 0 = .ok (.aload_n 0, 1) := by decide +kernel
theorem dX11_share_1 : decode cX11_share 1 = .ok (.iload_n 1, 1) := by decide +kernel
theorem dX11_share_2 : decode cX11_share 2 = .ok (.invokevirtual 159, 3) := by decide +kernel
theorem dX11_share_5 : decode cX11_share 5 = .ok (.ifCond .ne 5, 3) := by decide +kernel
theorem dX11_share_8 : decode cX11_share 8 = .ok (.iconst (-1), 1) := by decide +kernel
theorem dX11_share_9 : decode cX11_share 9 = .ok (.ireturn, 1) := by decide +kernel
theorem dX11_share_10 : decode cX11_share 10 = .ok (.iconst 0, 1) := by decide +kernel
theorem dX11_share_11 : decode cX11_share 11 = .ok (.istore_n 3, 1) := by decide +kernel
theorem dX11_share_12 : decode cX11_share 12 = .ok (.iconst 0, 1) := by decide +kernel
theorem dX11_share_13 : decode cX11_share 13 = .ok (.istore 4, 2) := by decide +kernel
theorem dX11_share_15 : decode cX11_share 15 = .ok (.iload 4, 2) := by decide +kernel
theorem dX11_share_17 : decode cX11_share 17 = .ok (.iconst 1, 1) := by decide +kernel
theorem dX11_share_18 : decode cX11_share 18 = .ok (.aload_n 0, 1) := by decide +kernel
theorem dX11_share_19 : decode cX11_share 19 = .ok (.getfield 115, 3) := by decide +kernel
theorem dX11_share_22 : decode cX11_share 22 = .ok (.ishl, 1) := by decide +kernel
theorem dX11_share_23 : decode cX11_share 23 = .ok (.if_icmp .ge 69, 3) := by decide +kernel
theorem dX11_share_26 : decode cX11_share 26 = .ok (.iload 4, 2) := by decide +kernel
theorem dX11_share_28 : decode cX11_share 28 = .ok (.iload_n 1, 1) := by decide +kernel
theorem dX11_share_29 : decode cX11_share 29 = .ok (.invokestatic 201, 3) := by decide +kernel
theorem dX11_share_32 : decode cX11_share 32 = .ok (.ifCond .ne 54, 3) := by decide +kernel
theorem dX11_share_35 : decode cX11_share 35 = .ok (.iload 4, 2) := by decide +kernel
theorem dX11_share_37 : decode cX11_share 37 = .ok (.invokestatic 243, 3) := by decide +kernel
theorem dX11_share_40 : decode cX11_share 40 = .ok (.invokestatic 246, 3) := by decide +kernel
theorem dX11_share_43 : decode cX11_share 43 = .ok (.aload_n 0, 1) := by decide +kernel
theorem dX11_share_44 : decode cX11_share 44 = .ok (.getfield 115, 3) := by decide +kernel
theorem dX11_share_47 : decode cX11_share 47 = .ok (.iconst 1, 1) := by decide +kernel
theorem dX11_share_48 : decode cX11_share 48 = .ok (.isub, 1) := by decide +kernel
theorem dX11_share_49 : decode cX11_share 49 = .ok (.iload 4, 2) := by decide +kernel
theorem dX11_share_51 : decode cX11_share 51 = .ok (.invokestatic 243, 3) := by decide +kernel
theorem dX11_share_54 : decode cX11_share 54 = .ok (.isub, 1) := by decide +kernel
theorem dX11_share_55 : decode cX11_share 55 = .ok (.invokestatic 246, 3) := by decide +kernel
theorem dX11_share_58 : decode cX11_share 58 = .ok (.imul, 1) := by decide +kernel
theorem dX11_share_59 : decode cX11_share 59 = .ok (.istore 5, 2) := by decide +kernel
theorem dX11_share_61 : decode cX11_share 61 = .ok (.iload_n 3, 1) := by decide +kernel
theorem dX11_share_62 : decode cX11_share 62 = .ok (.iload 5, 2) := by decide +kernel
theorem dX11_share_64 : decode cX11_share 64 = .ok (.aload_n 0, 1) := by decide +kernel
theorem dX11_share_65 : decode cX11_share 65 = .ok (.iconst 0, 1) := by decide +kernel
theorem dX11_share_66 : decode cX11_share 66 = .ok (.iload 4, 2) := by decide +kernel
theorem dX11_share_68 : decode cX11_share 68 = .ok (.iconst 1, 1) := by decide +kernel
theorem dX11_share_69 : decode cX11_share 69 = .ok (.iload_n 1, 1) := by decide +kernel
theorem dX11_share_70 : decode cX11_share 70 = .ok (.ishl, 1) := by decide +kernel
theorem dX11_share_71 : decode cX11_share 71 = .ok (.ior, 1) := by decide +kernel
theorem dX11_share_72 : decode cX11_share 72 = .ok (.invokevirtual 204, 3) := by decide +kernel
theorem dX11_share_75 : decode cX11_share 75 = .ok (.aload_n 0, 1) := by decide +kernel
theorem dX11_share_76 : decode cX11_share 76 = .ok (.iconst 0, 1) := by decide +kernel
theorem dX11_share_77 : decode cX11_share 77 = .ok (.iload 4, 2) := by decide +kernel
theorem dX11_share_79 : decode cX11_share 79 = .ok (.invokevirtual 204, 3) := by decide +kernel
theorem dX11_share_82 : decode cX11_share 82 = .ok (.isub, 1) := by decide +kernel
theorem dX11_share_83 : decode cX11_share 83 = .ok (.imul, 1) := by decide +kernel
theorem dX11_share_84 : decode cX11_share 84 = .ok (.iadd, 1) := by decide +kernel
theorem dX11_share_85 : decode cX11_share 85 = .ok (.istore_n 3, 1) := by decide +kernel
theorem dX11_share_86 : decode cX11_share 86 = .ok (.iinc 4 1, 3) := by decide +kernel
theorem dX11_share_89 : decode cX11_share 89 = .ok (.goto (-74), 3) := by decide +kernel
theorem dX11_share_92 : decode cX11_share 92 = .ok (.iload_n 3, 1) := by decide +kernel
theorem dX11_share_93 : decode cX11_share 93 = .ok (.aload_n 0, 1) := by decide +kernel
theorem dX11_share_94 : decode cX11_share 94 = .ok (.getfield 115, 3) := by decide +kernel
theorem dX11_share_97 : decode cX11_share 97 = .ok (.invokestatic 246, 3) := by decide +kernel
theorem dX11_share_100 : decode cX11_share 100 = .ok (.invokestatic 249, 3) := by decide +kernel
theorem dX11_share_103 : decode cX11_share 103 = .ok (.istore 4, 2) := by decide +kernel
theorem dX11_share_105 : decode cX11_share 105 = .ok (.iload_n 2, 1) := by decide +kernel
theorem dX11_share_106 : decode cX11_share 106 = .ok (.ifCond .eq 10, 3) := by decide +kernel
theorem dX11_share_109 : decode cX11_share 109 = .ok (.iload_n 3, 1) := by decide +kernel
theorem dX11_share_110 : decode cX11_share 110 = .ok (.iload 4, 2) := by decide +kernel
theorem dX11_share_112 : decode cX11_share 112 = .ok (.idiv, 1) := by decide +kernel
theorem dX11_share_113 : decode cX11_share 113 = .ok (.goto 13, 3) := by decide +kernel
theorem dX11_share_116 : decode cX11_share 116 = .ok (.aload_n 0, 1) := by decide +kernel
theorem dX11_share_117 : decode cX11_share 117 = .ok (.getfield 115, 3) := by decide +kernel
theorem dX11_share_120 : decode cX11_share 120 = .ok (.invokestatic 246, 3) := by decide +kernel
theorem dX11_share_123 : decode cX11_share 123 = .ok (.iload 4, 2) := by decide +kernel
theorem dX11_share_125 : decode cX11_share 125 = .ok (.idiv, 1) := by decide +kernel
theorem dX11_share_126 : decode cX11_share 126 = .ok (.ireturn, 1) := by decide +kernel
theorem dX11_choose_0 : decode cX11_choose 0 = .ok (.aload_n 0, 1) := by decide +kernel
theorem dX11_choose_1 : decode cX11_choose 1 = .ok (.getfield 13, 3) := by decide +kernel
theorem dX11_choose_4 : decode cX11_choose 4 = .ok (.bipush 53, 2) := by decide +kernel
theorem dX11_choose_6 : decode cX11_choose 6 = .ok (.iload_n 1, 1) := by decide +kernel
theorem dX11_choose_7 : decode cX11_choose 7 = .ok (.iadd, 1) := by decide +kernel
theorem dX11_choose_8 : decode cX11_choose 8 = .ok (.iaload, 1) := by decide +kernel
theorem dX11_choose_9 : decode cX11_choose 9 = .ok (.iconst 5, 1) := by decide +kernel
theorem dX11_choose_10 : decode cX11_choose 10 = .ok (.iadd, 1) := by decide +kernel
theorem dX11_choose_11 : decode cX11_choose 11 = .ok (.bipush 12, 2) := by decide +kernel
theorem dX11_choose_13 : decode cX11_choose 13 = .ok (.irem, 1) := by decide +kernel
theorem dX11_choose_14 : decode cX11_choose 14 = .ok (.istore_n 3, 1) := by decide +kernel
theorem dX11_choose_15 : decode cX11_choose 15 = .ok (.iload_n 2, 1) := by decide +kernel
theorem dX11_choose_16 : decode cX11_choose 16 = .ok (.iconst 1, 1) := by decide +kernel
theorem dX11_choose_17 : decode cX11_choose 17 = .ok (.if_icmp .ne 21, 3) := by decide +kernel
theorem dX11_choose_20 : decode cX11_choose 20 = .ok (.aload_n 0, 1) := by decide +kernel
theorem dX11_choose_21 : decode cX11_choose 21 = .ok (.iconst 1, 1) := by decide +kernel
theorem dX11_choose_22 : decode cX11_choose 22 = .ok (.iload_n 1, 1) := by decide +kernel
theorem dX11_choose_23 : decode cX11_choose 23 = .ok (.iload_n 3, 1) := by decide +kernel
theorem dX11_choose_24 : decode cX11_choose 24 = .ok (.invokevirtual 105, 3) := by decide +kernel
theorem dX11_choose_27 : decode cX11_choose 27 = .ok (.ifCond .eq 11, 3) := by decide +kernel
theorem dX11_choose_30 : decode cX11_choose 30 = .ok (.aload_n 0, 1) := by decide +kernel
theorem dX11_choose_31 : decode cX11_choose 31 = .ok (.iconst 1, 1) := by decide +kernel
theorem dX11_choose_32 : decode cX11_choose 32 = .ok (.iload_n 1, 1) := by decide +kernel
theorem dX11_choose_33 : decode cX11_choose 33 = .ok (.iload_n 3, 1) := by decide +kernel
theorem dX11_choose_34 : decode cX11_choose 34 = .ok (.invokevirtual 108, 3) := by decide +kernel
theorem dX11_choose_37 : decode cX11_choose 37 = .ok (.pop, 1) := by decide +kernel
theorem dX11_choose_38 : decode cX11_choose 38 = .ok (.return_, 1) := by decide +kernel
theorem dX11_gain_0 : decode cX11_gain 0 = .ok (.aload_n 0, 1) := by decide +kernel
theorem dX11_gain_1 : decode cX11_gain 1 = .ok (.invokevirtual 226, 3) := by decide +kernel
theorem dX11_gain_4 : decode cX11_gain 4 = .ok (.aload_n 0, 1) := by decide +kernel
theorem dX11_gain_5 : decode cX11_gain 5 = .ok (.iload_n 1, 1) := by decide +kernel
theorem dX11_gain_6 : decode cX11_gain 6 = .ok (.iload_n 3, 1) := by decide +kernel
theorem dX11_gain_7 : decode cX11_gain 7 = .ok (.invokevirtual 252, 3) := by decide +kernel
theorem dX11_gain_10 : decode cX11_gain 10 = .ok (.aload_n 0, 1) := by decide +kernel
theorem dX11_gain_11 : decode cX11_gain 11 = .ok (.iload_n 2, 1) := by decide +kernel
theorem dX11_gain_12 : decode cX11_gain 12 = .ok (.iload 4, 2) := by decide +kernel
theorem dX11_gain_14 : decode cX11_gain 14 = .ok (.invokevirtual 252, 3) := by decide +kernel
theorem dX11_gain_17 : decode cX11_gain 17 = .ok (.aload_n 0, 1) := by decide +kernel
theorem dX11_gain_18 : decode cX11_gain 18 = .ok (.iconst 1, 1) := by decide +kernel
theorem dX11_gain_19 : decode cX11_gain 19 = .ok (.iload 5, 2) := by decide +kernel
theorem dX11_gain_21 : decode cX11_gain 21 = .ok (.invokevirtual 162, 3) := by decide +kernel
theorem dX11_gain_24 : decode cX11_gain 24 = .ok (.istore 6, 2) := by decide +kernel
theorem dX11_gain_26 : decode cX11_gain 26 = .ok (.iload 6, 2) := by decide +kernel
theorem dX11_gain_28 : decode cX11_gain 28 = .ok (.bipush (-9), 2) := by decide +kernel
theorem dX11_gain_30 : decode cX11_gain 30 = .ok (.if_icmp .ne 5, 3) := by decide +kernel
theorem dX11_gain_33 : decode cX11_gain 33 = .ok (.iconst 0, 1) := by decide +kernel
theorem dX11_gain_34 : decode cX11_gain 34 = .ok (.ireturn, 1) := by decide +kernel
theorem dX11_gain_35 : decode cX11_gain 35 = .ok (.aload_n 0, 1) := by decide +kernel
theorem dX11_gain_36 : decode cX11_gain 36 = .ok (.iconst 1, 1) := by decide +kernel
theorem dX11_gain_37 : decode cX11_gain 37 = .ok (.iload 6, 2) := by decide +kernel
theorem dX11_gain_39 : decode cX11_gain 39 = .ok (.invokevirtual 124, 3) := by decide +kernel
theorem dX11_gain_42 : decode cX11_gain 42 = .ok (.istore 7, 2) := by decide +kernel
theorem dX11_gain_44 : decode cX11_gain 44 = .ok (.iconst 3, 1) := by decide +kernel
theorem dX11_gain_45 : decode cX11_gain 45 = .ok (.aload_n 0, 1) := by decide +kernel
theorem dX11_gain_46 : decode cX11_gain 46 = .ok (.iconst 1, 1) := by decide +kernel
theorem dX11_gain_47 : decode cX11_gain 47 = .ok (.bipush (-9), 2) := by decide +kernel
theorem dX11_gain_49 : decode cX11_gain 49 = .ok (.iload 7, 2) := by decide +kernel
theorem dX11_gain_51 : decode cX11_gain 51 = .ok (.invokestatic 61, 3) := by decide +kernel
theorem dX11_gain_54 : decode cX11_gain 54 = .ok (.iload 7, 2) := by decide +kernel
theorem dX11_gain_56 : decode cX11_gain 56 = .ok (.invokestatic 65, 3) := by decide +kernel
theorem dX11_gain_59 : decode cX11_gain 59 = .ok (.invokevirtual 143, 3) := by decide +kernel
theorem dX11_gain_62 : decode cX11_gain 62 = .ok (.imul, 1) := by decide +kernel
theorem dX11_gain_63 : decode cX11_gain 63 = .ok (.iload 7, 2) := by decide +kernel
theorem dX11_gain_65 : decode cX11_gain 65 = .ok (.invokestatic 61, 3) := by decide +kernel
theorem dX11_gain_68 : decode cX11_gain 68 = .ok (.iload 7, 2) := by decide +kernel
theorem dX11_gain_70 : decode cX11_gain 70 = .ok (.invokestatic 65, 3) := by decide +kernel
theorem dX11_gain_73 : decode cX11_gain 73 = .ok (.invokestatic 130, 3) := by decide +kernel
theorem dX11_gain_76 : decode cX11_gain 76 = .ok (.iconst 5, 1) := by decide +kernel
theorem dX11_gain_77 : decode cX11_gain 77 = .ok (.idiv, 1) := by decide +kernel
theorem dX11_gain_78 : decode cX11_gain 78 = .ok (.isub, 1) := by decide +kernel
theorem dX11_gain_79 : decode cX11_gain 79 = .ok (.ireturn, 1) := by decide +kernel
theorem dX11_isRest_0 : decode cX11_isRest 0 = .ok (.aload_n 0, 1) := by decide +kernel
theorem dX11_isRest_1 : decode cX11_isRest 1 = .ok (.iload_n 1, 1) := by decide +kernel
theorem dX11_isRest_2 : decode cX11_isRest 2 = .ok (.iload_n 2, 1) := by decide +kernel
theorem dX11_isRest_3 : decode cX11_isRest 3 = .ok (.iconst 1, 1) := by decide +kernel
theorem dX11_isRest_4 : decode cX11_isRest 4 = .ok (.iload_n 3, 1) := by decide +kernel
theorem dX11_isRest_5 : decode cX11_isRest 5 = .ok (.isub, 1) := by decide +kernel
theorem dX11_isRest_6 : decode cX11_isRest 6 = .ok (.iload 4, 2) := by decide +kernel
theorem dX11_isRest_8 : decode cX11_isRest 8 = .ok (.iload_n 1, 1) := by decide +kernel
theorem dX11_isRest_9 : decode cX11_isRest 9 = .ok (.invokevirtual 255, 3) := by decide +kernel
theorem dX11_isRest_12 : decode cX11_isRest 12 = .ok (.aload_n 0, 1) := by decide +kernel
theorem dX11_isRest_13 : decode cX11_isRest 13 = .ok (.iload_n 1, 1) := by decide +kernel
theorem dX11_isRest_14 : decode cX11_isRest 14 = .ok (.iload_n 2, 1) := by decide +kernel
theorem dX11_isRest_15 : decode cX11_isRest 15 = .ok (.iload_n 3, 1) := by decide +kernel
theorem dX11_isRest_16 : decode cX11_isRest 16 = .ok (.iload 4, 2) := by decide +kernel
theorem dX11_isRest_18 : decode cX11_isRest 18 = .ok (.iload_n 1, 1) := by decide +kernel
theorem dX11_isRest_19 : decode cX11_isRest 19 = .ok (.invokevirtual 255, 3) := by decide +kernel
theorem dX11_isRest_22 : decode cX11_isRest 22 = .ok (.if_icmp .gt 32, 3) := by decide +kernel
theorem dX11_isRest_25 : decode cX11_isRest 25 = .ok (.aload_n 0, 1) := by decide +kernel
theorem dX11_isRest_26 : decode cX11_isRest 26 = .ok (.iload_n 1, 1) := by decide +kernel
theorem dX11_isRest_27 : decode cX11_isRest 27 = .ok (.iload_n 2, 1) := by decide +kernel
theorem dX11_isRest_28 : decode cX11_isRest 28 = .ok (.iload_n 3, 1) := by decide +kernel
theorem dX11_isRest_29 : decode cX11_isRest 29 = .ok (.iconst 1, 1) := by decide +kernel
theorem dX11_isRest_30 : decode cX11_isRest 30 = .ok (.iload 4, 2) := by decide +kernel
theorem dX11_isRest_32 : decode cX11_isRest 32 = .ok (.isub, 1) := by decide +kernel
theorem dX11_isRest_33 : decode cX11_isRest 33 = .ok (.iload_n 2, 1) := by decide +kernel
theorem dX11_isRest_34 : decode cX11_isRest 34 = .ok (.invokevirtual 255, 3) := by decide +kernel
theorem dX11_isRest_37 : decode cX11_isRest 37 = .ok (.aload_n 0, 1) := by decide +kernel
theorem dX11_isRest_38 : decode cX11_isRest 38 = .ok (.iload_n 1, 1) := by decide +kernel
theorem dX11_isRest_39 : decode cX11_isRest 39 = .ok (.iload_n 2, 1) := by decide +kernel
theorem dX11_isRest_40 : decode cX11_isRest 40 = .ok (.iload_n 3, 1) := by decide +kernel
theorem dX11_isRest_41 : decode cX11_isRest 41 = .ok (.iload 4, 2) := by decide +kernel
theorem dX11_isRest_43 : decode cX11_isRest 43 = .ok (.iload_n 2, 1) := by decide +kernel
theorem dX11_isRest_44 : decode cX11_isRest 44 = .ok (.invokevirtual 255, 3) := by decide +kernel
theorem dX11_isRest_47 : decode cX11_isRest 47 = .ok (.if_icmp .gt 7, 3) := by decide +kernel
theorem dX11_isRest_50 : decode cX11_isRest 50 = .ok (.iconst 1, 1) := by decide +kernel
theorem dX11_isRest_51 : decode cX11_isRest 51 = .ok (.goto 4, 3) := by decide +kernel
theorem dX11_isRest_54 : decode cX11_isRest 54 = .ok (.iconst 0, 1) := by decide +kernel
theorem dX11_isRest_55 : decode cX11_isRest 55 = .ok (.ireturn, 1) := by decide +kernel
theorem dX11_rests_0 : decode cX11_rests 0 = .ok (.aload_n 0, 1) := by decide +kernel
theorem dX11_rests_1 : decode cX11_rests 1 = .ok (.iload_n 1, 1) := by decide +kernel
theorem dX11_rests_2 : decode cX11_rests 2 = .ok (.invokevirtual 159, 3) := by decide +kernel
theorem dX11_rests_5 : decode cX11_rests 5 = .ok (.ifCond .eq 11, 3) := by decide +kernel
theorem dX11_rests_8 : decode cX11_rests 8 = .ok (.aload_n 0, 1) := by decide +kernel
theorem dX11_rests_9 : decode cX11_rests 9 = .ok (.iload_n 2, 1) := by decide +kernel
theorem dX11_rests_10 : decode cX11_rests 10 = .ok (.invokevirtual 159, 3) := by decide +kernel
theorem dX11_rests_13 : decode cX11_rests 13 = .ok (.ifCond .ne 5, 3) := by decide +kernel
theorem dX11_rests_16 : decode cX11_rests 16 = .ok (.iconst (-1), 1) := by decide +kernel
theorem dX11_rests_17 : decode cX11_rests 17 = .ok (.ireturn, 1) := by decide +kernel
theorem dX11_rests_18 : decode cX11_rests 18 = .ok (.iload_n 1, 1) := by decide +kernel
theorem dX11_rests_19 : decode cX11_rests 19 = .ok (.iload_n 2, 1) := by decide +kernel
theorem dX11_rests_20 : decode cX11_rests 20 = .ok (.if_icmp .eq 13, 3) := by decide +kernel
theorem dX11_rests_23 : decode cX11_rests 23 = .ok (.iload_n 3, 1) := by decide +kernel
theorem dX11_rests_24 : decode cX11_rests 24 = .ok (.i2l, 1) := by decide +kernel
theorem dX11_rests_25 : decode cX11_rests 25 = .ok (.lconst 0, 1) := by decide +kernel
theorem dX11_rests_26 : decode cX11_rests 26 = .ok (.lconst 1, 1) := by decide +kernel
theorem dX11_rests_27 : decode cX11_rests 27 = .ok (.invokestatic 49, 3) := by decide +kernel
theorem dX11_rests_30 : decode cX11_rests 30 = .ok (.ifCond .ne 6, 3) := by decide +kernel
theorem dX11_rests_33 : decode cX11_rests 33 = .ok (.bipush (-2), 2) := by decide +kernel
theorem dX11_rests_35 : decode cX11_rests 35 = .ok (.ireturn, 1) := by decide +kernel
theorem dX11_rests_36 : decode cX11_rests 36 = .ok (.iconst 0, 1) := by decide +kernel
theorem dX11_rests_37 : decode cX11_rests 37 = .ok (.istore 4, 2) := by decide +kernel
theorem dX11_rests_39 : decode cX11_rests 39 = .ok (.bipush (-9), 2) := by decide +kernel
theorem dX11_rests_41 : decode cX11_rests 41 = .ok (.istore 5, 2) := by decide +kernel
theorem dX11_rests_43 : decode cX11_rests 43 = .ok (.iconst 0, 1) := by decide +kernel
theorem dX11_rests_44 : decode cX11_rests 44 = .ok (.istore 6, 2) := by decide +kernel
theorem dX11_rests_46 : decode cX11_rests 46 = .ok (.iload 6, 2) := by decide +kernel
theorem dX11_rests_48 : decode cX11_rests 48 = .ok (.iconst 4, 1) := by decide +kernel
theorem dX11_rests_49 : decode cX11_rests 49 = .ok (.if_icmp .ge 53, 3) := by decide +kernel
theorem dX11_rests_52 : decode cX11_rests 52 = .ok (.aload_n 0, 1) := by decide +kernel
theorem dX11_rests_53 : decode cX11_rests 53 = .ok (.iload_n 1, 1) := by decide +kernel
theorem dX11_rests_54 : decode cX11_rests 54 = .ok (.iload_n 2, 1) := by decide +kernel
theorem dX11_rests_55 : decode cX11_rests 55 = .ok (.iload 6, 2) := by decide +kernel
theorem dX11_rests_57 : decode cX11_rests 57 = .ok (.iconst 2, 1) := by decide +kernel
theorem dX11_rests_58 : decode cX11_rests 58 = .ok (.idiv, 1) := by decide +kernel
theorem dX11_rests_59 : decode cX11_rests 59 = .ok (.iload 6, 2) := by decide +kernel
theorem dX11_rests_61 : decode cX11_rests 61 = .ok (.iconst 2, 1) := by decide +kernel
theorem dX11_rests_62 : decode cX11_rests 62 = .ok (.irem, 1) := by decide +kernel
theorem dX11_rests_63 : decode cX11_rests 63 = .ok (.invokevirtual 259, 3) := by decide +kernel
theorem dX11_rests_66 : decode cX11_rests 66 = .ok (.ifCond .eq 30, 3) := by decide +kernel
theorem dX11_rests_69 : decode cX11_rests 69 = .ok (.iload 4, 2) := by decide +kernel
theorem dX11_rests_71 : decode cX11_rests 71 = .ok (.ifCond .ne 18, 3) := by decide +kernel
theorem dX11_rests_74 : decode cX11_rests 74 = .ok (.bipush 10, 2) := by decide +kernel
theorem dX11_rests_76 : decode cX11_rests 76 = .ok (.iload 6, 2) := by decide +kernel
theorem dX11_rests_78 : decode cX11_rests 78 = .ok (.iconst 2, 1) := by decide +kernel
theorem dX11_rests_79 : decode cX11_rests 79 = .ok (.idiv, 1) := by decide +kernel
theorem dX11_rests_80 : decode cX11_rests 80 = .ok (.imul, 1) := by decide +kernel
theorem dX11_rests_81 : decode cX11_rests 81 = .ok (.iload 6, 2) := by decide +kernel
theorem dX11_rests_83 : decode cX11_rests 83 = .ok (.iconst 2, 1) := by decide +kernel
theorem dX11_rests_84 : decode cX11_rests 84 = .ok (.irem, 1) := by decide +kernel
theorem dX11_rests_85 : decode cX11_rests 85 = .ok (.iadd, 1) := by decide +kernel
theorem dX11_rests_86 : decode cX11_rests 86 = .ok (.goto 5, 3) := by decide +kernel
theorem dX11_rests_89 : decode cX11_rests 89 = .ok (.iload 5, 2) := by decide +kernel
theorem dX11_rests_91 : decode cX11_rests 91 = .ok (.istore 5, 2) := by decide +kernel
theorem dX11_rests_93 : decode cX11_rests 93 = .ok (.iinc 4 1, 3) := by decide +kernel
theorem dX11_rests_96 : decode cX11_rests 96 = .ok (.iinc 6 1, 3) := by decide +kernel
theorem dX11_rests_99 : decode cX11_rests 99 = .ok (.goto (-53), 3) := by decide +kernel
theorem dX11_rests_102 : decode cX11_rests 102 = .ok (.iload_n 3, 1) := by decide +kernel
theorem dX11_rests_103 : decode cX11_rests 103 = .ok (.ifCond .ne 8, 3) := by decide +kernel
theorem dX11_rests_106 : decode cX11_rests 106 = .ok (.iload 4, 2) := by decide +kernel
theorem dX11_rests_108 : decode cX11_rests 108 = .ok (.goto 5, 3) := by decide +kernel
theorem dX11_rests_111 : decode cX11_rests 111 = .ok (.iload 5, 2) := by decide +kernel
theorem dX11_rests_113 : decode cX11_rests 113 = .ok (.ireturn, 1) := by decide +kernel
theorem dX11_snaps_0 : decode cX11_snaps 0 = .ok (.iload_n 1, 1) := by decide +kernel
theorem dX11_snaps_1 : decode cX11_snaps 1 = .ok (.i2l, 1) := by decide +kernel
theorem dX11_snaps_2 : decode cX11_snaps 2 = .ok (.lconst 0, 1) := by decide +kernel
theorem dX11_snaps_3 : decode cX11_snaps 3 = .ok (.ldc2_w 262, 3) := by decide +kernel
theorem dX11_snaps_6 : decode cX11_snaps 6 = .ok (.invokestatic 49, 3) := by decide +kernel
theorem dX11_snaps_9 : decode cX11_snaps 9 = .ok (.ifCond .eq 15, 3) := by decide +kernel
theorem dX11_snaps_12 : decode cX11_snaps 12 = .ok (.iload_n 2, 1) := by decide +kernel
theorem dX11_snaps_13 : decode cX11_snaps 13 = .ok (.i2l, 1) := by decide +kernel
theorem dX11_snaps_14 : decode cX11_snaps 14 = .ok (.lconst 0, 1) := by decide +kernel
theorem dX11_snaps_15 : decode cX11_snaps 15 = .ok (.ldc2_w 264, 3) := by decide +kernel
theorem dX11_snaps_18 : decode cX11_snaps 18 = .ok (.invokestatic 49, 3) := by decide +kernel
theorem dX11_snaps_21 : decode cX11_snaps 21 = .ok (.ifCond .ne 6, 3) := by decide +kernel
theorem dX11_snaps_24 : decode cX11_snaps 24 = .ok (.bipush (-2), 2) := by decide +kernel
theorem dX11_snaps_26 : decode cX11_snaps 26 = .ok (.ireturn, 1) := by decide +kernel
theorem dX11_snaps_27 : decode cX11_snaps 27 = .ok (.iconst 0, 1) := by decide +kernel
theorem dX11_snaps_28 : decode cX11_snaps 28 = .ok (.istore 4, 2) := by decide +kernel
theorem dX11_snaps_30 : decode cX11_snaps 30 = .ok (.iconst 0, 1) := by decide +kernel
theorem dX11_snaps_31 : decode cX11_snaps 31 = .ok (.istore 5, 2) := by decide +kernel
theorem dX11_snaps_33 : decode cX11_snaps 33 = .ok (.iconst 0, 1) := by decide +kernel
theorem dX11_snaps_34 : decode cX11_snaps 34 = .ok (.istore 6, 2) := by decide +kernel
theorem dX11_snaps_36 : decode cX11_snaps 36 = .ok (.iload 6, 2) := by decide +kernel
theorem dX11_snaps_38 : decode cX11_snaps 38 = .ok (.iconst 1, 1) := by decide +kernel
theorem dX11_snaps_39 : decode cX11_snaps 39 = .ok (.aload_n 0, 1) := by decide +kernel
theorem dX11_snaps_40 : decode cX11_snaps 40 = .ok (.getfield 115, 3) := by decide +kernel
theorem dX11_snaps_43 : decode cX11_snaps 43 = .ok (.ishl, 1) := by decide +kernel
theorem dX11_snaps_44 : decode cX11_snaps 44 = .ok (.if_icmp .ge 82, 3) := by decide +kernel
theorem dX11_snaps_47 : decode cX11_snaps 47 = .ok (.iconst 1, 1) := by decide +kernel
theorem dX11_snaps_48 : decode cX11_snaps 48 = .ok (.istore 7, 2) := by decide +kernel
theorem dX11_snaps_50 : decode cX11_snaps 50 = .ok (.iconst 0, 1) := by decide +kernel
theorem dX11_snaps_51 : decode cX11_snaps 51 = .ok (.istore 8, 2) := by decide +kernel
theorem dX11_snaps_53 : decode cX11_snaps 53 = .ok (.iload 8, 2) := by decide +kernel
theorem dX11_snaps_55 : decode cX11_snaps 55 = .ok (.aload_n 0, 1) := by decide +kernel
theorem dX11_snaps_56 : decode cX11_snaps 56 = .ok (.getfield 115, 3) := by decide +kernel
theorem dX11_snaps_59 : decode cX11_snaps 59 = .ok (.if_icmp .ge 32, 3) := by decide +kernel
theorem dX11_snaps_62 : decode cX11_snaps 62 = .ok (.iload 7, 2) := by decide +kernel
theorem dX11_snaps_64 : decode cX11_snaps 64 = .ok (.iload 6, 2) := by decide +kernel
theorem dX11_snaps_66 : decode cX11_snaps 66 = .ok (.iload 8, 2) := by decide +kernel
theorem dX11_snaps_68 : decode cX11_snaps 68 = .ok (.invokestatic 201, 3) := by decide +kernel
theorem dX11_snaps_71 : decode cX11_snaps 71 = .ok (.ifCond .eq 10, 3) := by decide +kernel
theorem dX11_snaps_74 : decode cX11_snaps 74 = .ok (.bipush 10, 2) := by decide +kernel
theorem dX11_snaps_76 : decode cX11_snaps 76 = .ok (.iload_n 2, 1) := by decide +kernel
theorem dX11_snaps_77 : decode cX11_snaps 77 = .ok (.isub, 1) := by decide +kernel
theorem dX11_snaps_78 : decode cX11_snaps 78 = .ok (.goto 4, 3) := by decide +kernel
theorem dX11_snaps_81 : decode cX11_snaps 81 = .ok (.iload_n 2, 1) := by decide +kernel
theorem dX11_snaps_82 : decode cX11_snaps 82 = .ok (.imul, 1) := by decide +kernel
theorem dX11_snaps_83 : decode cX11_snaps 83 = .ok (.istore 7, 2) := by decide +kernel
theorem dX11_snaps_85 : decode cX11_snaps 85 = .ok (.iinc 8 1, 3) := by decide +kernel
theorem dX11_snaps_88 : decode cX11_snaps 88 = .ok (.goto (-35), 3) := by decide +kernel
theorem dX11_snaps_91 : decode cX11_snaps 91 = .ok (.iload 5, 2) := by decide +kernel
theorem dX11_snaps_93 : decode cX11_snaps 93 = .ok (.iload 7, 2) := by decide +kernel
theorem dX11_snaps_95 : decode cX11_snaps 95 = .ok (.iadd, 1) := by decide +kernel
theorem dX11_snaps_96 : decode cX11_snaps 96 = .ok (.istore 5, 2) := by decide +kernel
theorem dX11_snaps_98 : decode cX11_snaps 98 = .ok (.iload 4, 2) := by decide +kernel
theorem dX11_snaps_100 : decode cX11_snaps 100 = .ok (.aload_n 0, 1) := by decide +kernel
theorem dX11_snaps_101 : decode cX11_snaps 101 = .ok (.iconst 0, 1) := by decide +kernel
theorem dX11_snaps_102 : decode cX11_snaps 102 = .ok (.iload 6, 2) := by decide +kernel
theorem dX11_snaps_104 : decode cX11_snaps 104 = .ok (.invokevirtual 204, 3) := by decide +kernel
theorem dX11_snaps_107 : decode cX11_snaps 107 = .ok (.iload_n 1, 1) := by decide +kernel
theorem dX11_snaps_108 : decode cX11_snaps 108 = .ok (.if_icmp .lt 8, 3) := by decide +kernel
theorem dX11_snaps_111 : decode cX11_snaps 111 = .ok (.iload 7, 2) := by decide +kernel
theorem dX11_snaps_113 : decode cX11_snaps 113 = .ok (.goto 4, 3) := by decide +kernel
theorem dX11_snaps_116 : decode cX11_snaps 116 = .ok (.iconst 0, 1) := by decide +kernel
theorem dX11_snaps_117 : decode cX11_snaps 117 = .ok (.iadd, 1) := by decide +kernel
theorem dX11_snaps_118 : decode cX11_snaps 118 = .ok (.istore 4, 2) := by decide +kernel
theorem dX11_snaps_120 : decode cX11_snaps 120 = .ok (.iinc 6 1, 3) := by decide +kernel
theorem dX11_snaps_123 : decode cX11_snaps 123 = .ok (.goto (-87), 3) := by decide +kernel
theorem dX11_snaps_126 : decode cX11_snaps 126 = .ok (.iload 4, 2) := by decide +kernel
theorem dX11_snaps_128 : decode cX11_snaps 128 = .ok (.iload 5, 2) := by decide +kernel
theorem dX11_snaps_130 : decode cX11_snaps 130 = .ok (.invokestatic 249, 3) := by decide +kernel
theorem dX11_snaps_133 : decode cX11_snaps 133 = .ok (.istore 6, 2) := by decide +kernel
theorem dX11_snaps_135 : decode cX11_snaps 135 = .ok (.iload_n 3, 1) := by decide +kernel
theorem dX11_snaps_136 : decode cX11_snaps 136 = .ok (.ifCond .eq 11, 3) := by decide +kernel
theorem dX11_snaps_139 : decode cX11_snaps 139 = .ok (.iload 4, 2) := by decide +kernel
theorem dX11_snaps_141 : decode cX11_snaps 141 = .ok (.iload 6, 2) := by decide +kernel
theorem dX11_snaps_143 : decode cX11_snaps 143 = .ok (.idiv, 1) := by decide +kernel
theorem dX11_snaps_144 : decode cX11_snaps 144 = .ok (.goto 8, 3) := by decide +kernel
theorem dX11_snaps_147 : decode cX11_snaps 147 = .ok (.iload 5, 2) := by decide +kernel
theorem dX11_snaps_149 : decode cX11_snaps 149 = .ok (.iload 6, 2) := by decide +kernel
theorem dX11_snaps_151 : decode cX11_snaps 151 = .ok (.idiv, 1) := by decide +kernel
theorem dX11_snaps_152 : decode cX11_snaps 152 = .ok (.ireturn, 1) := by decide +kernel
theorem dX11_seed_0 : decode cX11_seed 0 = .ok (.aload_n 0, 1) := by decide +kernel
theorem dX11_seed_1 : decode cX11_seed 1 = .ok (.getfield 266, 3) := by decide +kernel
theorem dX11_seed_4 : decode cX11_seed 4 = .ok (.lstore_n 3, 1) := by decide +kernel
theorem dX11_seed_5 : decode cX11_seed 5 = .ok (.aload_n 0, 1) := by decide +kernel
theorem dX11_seed_6 : decode cX11_seed 6 = .ok (.lload_n 1, 1) := by decide +kernel
theorem dX11_seed_7 : decode cX11_seed 7 = .ok (.putfield 266, 3) := by decide +kernel
theorem dX11_seed_10 : decode cX11_seed 10 = .ok (.lload_n 3, 1) := by decide +kernel
theorem dX11_seed_11 : decode cX11_seed 11 = .ok (.lreturn, 1) := by decide +kernel
theorem dX11_years_0 : decode cX11_years 0 = .ok (.iload_n 1, 1) := by decide +kernel
theorem dX11_years_1 : decode cX11_years 1 = .ok (.i2l, 1) := by decide +kernel
theorem dX11_years_2 : decode cX11_years 2 = .ok (.lconst 1, 1) := by decide +kernel
theorem dX11_years_3 : decode cX11_years 3 = .ok (.ldc2_w 270, 3) := by decide +kernel
theorem dX11_years_6 : decode cX11_years 6 = .ok (.invokestatic 49, 3) := by decide +kernel
theorem dX11_years_9 : decode cX11_years 9 = .ok (.ifCond .ne 6, 3) := by decide +kernel
theorem dX11_years_12 : decode cX11_years 12 = .ok (.bipush (-2), 2) := by decide +kernel
theorem dX11_years_14 : decode cX11_years 14 = .ok (.ireturn, 1) := by decide +kernel
theorem dX11_years_15 : decode cX11_years 15 = .ok (.aload_n 0, 1) := by decide +kernel
theorem dX11_years_16 : decode cX11_years 16 = .ok (.invokevirtual 226, 3) := by decide +kernel
theorem dX11_years_19 : decode cX11_years 19 = .ok (.iconst 0, 1) := by decide +kernel
theorem dX11_years_20 : decode cX11_years 20 = .ok (.istore_n 2, 1) := by decide +kernel
theorem dX11_years_21 : decode cX11_years 21 = .ok (.iconst 0, 1) := by decide +kernel
theorem dX11_years_22 : decode cX11_years 22 = .ok (.istore_n 3, 1) := by decide +kernel
theorem dX11_years_23 : decode cX11_years 23 = .ok (.iload_n 3, 1) := by decide +kernel
theorem dX11_years_24 : decode cX11_years 24 = .ok (.iload_n 1, 1) := by decide +kernel
theorem dX11_years_25 : decode cX11_years 25 = .ok (.if_icmp .ge 136, 3) := by decide +kernel
theorem dX11_years_28 : decode cX11_years 28 = .ok (.aload_n 0, 1) := by decide +kernel
theorem dX11_years_29 : decode cX11_years 29 = .ok (.aload_n 0, 1) := by decide +kernel
theorem dX11_years_30 : decode cX11_years 30 = .ok (.getfield 266, 3) := by decide +kernel
theorem dX11_years_33 : decode cX11_years 33 = .ok (.ldc2_w 272, 3) := by decide +kernel
theorem dX11_years_36 : decode cX11_years 36 = .ok (.lmul, 1) := by decide +kernel
theorem dX11_years_37 : decode cX11_years 37 = .ok (.ldc2_w 274, 3) := by decide +kernel
