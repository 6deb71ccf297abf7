theorem dX11_windOn_36 : decode cX11_windOn 36 = .ok (.iadd, 1) := by decide +kernel
theorem dX11_windOn_37 : decode cX11_windOn 37 = .ok (.aload_n 0, 1) := by decide +kernel
theorem dX11_windOn_38 : decode cX11_windOn 38 = .ok (.getfield 13, 3) := by decide +kernel
theorem dX11_windOn_41 : decode cX11_windOn 41 = .ok (.iload 4, 2) := by decide +kernel
theorem dX11_windOn_43 : decode cX11_windOn 43 = .ok (.iconst 4, 1) := by decide +kernel
theorem dX11_windOn_44 : decode cX11_windOn 44 = .ok (.iadd, 1) := by decide +kernel
theorem dX11_windOn_45 : decode cX11_windOn 45 = .ok (.iaload, 1) := by decide +kernel
theorem dX11_windOn_46 : decode cX11_windOn 46 = .ok (.iadd, 1) := by decide +kernel
theorem dX11_windOn_47 : decode cX11_windOn 47 = .ok (.iload_n 2, 1) := by decide +kernel
theorem dX11_windOn_48 : decode cX11_windOn 48 = .ok (.iload 5, 2) := by decide +kernel
theorem dX11_windOn_50 : decode cX11_windOn 50 = .ok (.iload_n 3, 1) := by decide +kernel
theorem dX11_windOn_51 : decode cX11_windOn 51 = .ok (.aload_n 0, 1) := by decide +kernel
theorem dX11_windOn_52 : decode cX11_windOn 52 = .ok (.iload_n 1, 1) := by decide +kernel
theorem dX11_windOn_53 : decode cX11_windOn 53 = .ok (.iload_n 2, 1) := by decide +kernel
theorem dX11_windOn_54 : decode cX11_windOn 54 = .ok (.invokevirtual 137, 3) := by decide +kernel
theorem dX11_windOn_57 : decode cX11_windOn 57 = .ok (.invokestatic 150, 3) := by decide +kernel
theorem dX11_windOn_60 : decode cX11_windOn 60 = .ok (.iastore, 1) := by decide +kernel
theorem dX11_windOn_61 : decode cX11_windOn 61 = .ok (.aload_n 0, 1) := by decide +kernel
theorem dX11_windOn_62 : decode cX11_windOn 62 = .ok (.getfield 13, 3) := by decide +kernel
theorem dX11_windOn_65 : decode cX11_windOn 65 = .ok (.iload 4, 2) := by decide +kernel
theorem dX11_windOn_67 : decode cX11_windOn 67 = .ok (.iconst 4, 1) := by decide +kernel
theorem dX11_windOn_68 : decode cX11_windOn 68 = .ok (.iadd, 1) := by decide +kernel
theorem dX11_windOn_69 : decode cX11_windOn 69 = .ok (.dup2, 1) := by decide +kernel
theorem dX11_windOn_70 : decode cX11_windOn 70 = .ok (.iaload, 1) := by decide +kernel
theorem dX11_windOn_71 : decode cX11_windOn 71 = .ok (.iconst 1, 1) := by decide +kernel
theorem dX11_windOn_72 : decode cX11_windOn 72 = .ok (.iadd, 1) := by decide +kernel
theorem dX11_windOn_73 : decode cX11_windOn 73 = .ok (.iastore, 1) := by decide +kernel
theorem dX11_windOn_74 : decode cX11_windOn 74 = .ok (.aload_n 0, 1) := by decide +kernel
theorem dX11_windOn_75 : decode cX11_windOn 75 = .ok (.getfield 13, 3) := by decide +kernel
theorem dX11_windOn_78 : decode cX11_windOn 78 = .ok (.iload 4, 2) := by decide +kernel
theorem dX11_windOn_80 : decode cX11_windOn 80 = .ok (.iload_n 2, 1) := by decide +kernel
theorem dX11_windOn_81 : decode cX11_windOn 81 = .ok (.iadd, 1) := by decide +kernel
theorem dX11_windOn_82 : decode cX11_windOn 82 = .ok (.iload_n 3, 1) := by decide +kernel
theorem dX11_windOn_83 : decode cX11_windOn 83 = .ok (.iastore, 1) := by decide +kernel
theorem dX11_windOn_84 : decode cX11_windOn 84 = .ok (.iload 6, 2) := by decide +kernel
theorem dX11_windOn_86 : decode cX11_windOn 86 = .ok (.ireturn, 1) := by decide +kernel
theorem dX11_lastOf_0 : decode cX11_lastOf 0 = .ok (.bipush (-9), 2) := by decide +kernel
theorem dX11_lastOf_2 : decode cX11_lastOf 2 = .ok (.istore_n 3, 1) := by decide +kernel
theorem dX11_lastOf_3 : decode cX11_lastOf 3 = .ok (.iconst 0, 1) := by decide +kernel
theorem dX11_lastOf_4 : decode cX11_lastOf 4 = .ok (.istore 4, 2) := by decide +kernel
theorem dX11_lastOf_6 : decode cX11_lastOf 6 = .ok (.iload 4, 2) := by decide +kernel
theorem dX11_lastOf_8 : decode cX11_lastOf 8 = .ok (.aload_n 0, 1) := by decide +kernel
theorem dX11_lastOf_9 : decode cX11_lastOf 9 = .ok (.iload_n 1, 1) := by decide +kernel
theorem dX11_lastOf_10 : decode cX11_lastOf 10 = .ok (.invokevirtual 121, 3) := by decide +kernel
theorem dX11_lastOf_13 : decode cX11_lastOf 13 = .ok (.if_icmp .ge 57, 3) := by decide +kernel
theorem dX11_lastOf_16 : decode cX11_lastOf 16 = .ok (.aload_n 0, 1) := by decide +kernel
theorem dX11_lastOf_17 : decode cX11_lastOf 17 = .ok (.iload_n 1, 1) := by decide +kernel
theorem dX11_lastOf_18 : decode cX11_lastOf 18 = .ok (.iload 4, 2) := by decide +kernel
theorem dX11_lastOf_20 : decode cX11_lastOf 20 = .ok (.invokevirtual 124, 3) := by decide +kernel
theorem dX11_lastOf_23 : decode cX11_lastOf 23 = .ok (.istore 5, 2) := by decide +kernel
theorem dX11_lastOf_25 : decode cX11_lastOf 25 = .ok (.iload 5, 2) := by decide +kernel
theorem dX11_lastOf_27 : decode cX11_lastOf 27 = .ok (.invokestatic 127, 3) := by decide +kernel
theorem dX11_lastOf_30 : decode cX11_lastOf 30 = .ok (.iload_n 2, 1) := by decide +kernel
theorem dX11_lastOf_31 : decode cX11_lastOf 31 = .ok (.if_icmp .ne 31, 3) := by decide +kernel
theorem dX11_lastOf_34 : decode cX11_lastOf 34 = .ok (.iload_n 3, 1) := by decide +kernel
theorem dX11_lastOf_35 : decode cX11_lastOf 35 = .ok (.bipush (-9), 2) := by decide +kernel
theorem dX11_lastOf_37 : decode cX11_lastOf 37 = .ok (.if_icmp .eq 20, 3) := by decide +kernel
theorem dX11_lastOf_40 : decode cX11_lastOf 40 = .ok (.iload 5, 2) := by decide +kernel
theorem dX11_lastOf_42 : decode cX11_lastOf 42 = .ok (.invokestatic 153, 3) := by decide +kernel
theorem dX11_lastOf_45 : decode cX11_lastOf 45 = .ok (.aload_n 0, 1) := by decide +kernel
theorem dX11_lastOf_46 : decode cX11_lastOf 46 = .ok (.iload_n 1, 1) := by decide +kernel
theorem dX11_lastOf_47 : decode cX11_lastOf 47 = .ok (.iload_n 3, 1) := by decide +kernel
theorem dX11_lastOf_48 : decode cX11_lastOf 48 = .ok (.invokevirtual 124, 3) := by decide +kernel
theorem dX11_lastOf_51 : decode cX11_lastOf 51 = .ok (.invokestatic 153, 3) := by decide +kernel
theorem dX11_lastOf_54 : decode cX11_lastOf 54 = .ok (.if_icmp .le 8, 3) := by decide +kernel
theorem dX11_lastOf_57 : decode cX11_lastOf 57 = .ok (.iload 4, 2) := by decide +kernel
theorem dX11_lastOf_59 : decode cX11_lastOf 59 = .ok (.goto 4, 3) := by decide +kernel
theorem dX11_lastOf_62 : decode cX11_lastOf 62 = .ok (.iload_n 3, 1) := by decide +kernel
theorem dX11_lastOf_63 : decode cX11_lastOf 63 = .ok (.istore_n 3, 1) := by decide +kernel
theorem dX11_lastOf_64 : decode cX11_lastOf 64 = .ok (.iinc 4 1, 3) := by decide +kernel
theorem dX11_lastOf_67 : decode cX11_lastOf 67 = .ok (.goto (-61), 3) := by decide +kernel
theorem dX11_lastOf_70 : decode cX11_lastOf 70 = .ok (.iload_n 3, 1) := by decide +kernel
theorem dX11_lastOf_71 : decode cX11_lastOf 71 = .ok (.ireturn, 1) := by decide +kernel
theorem dX11_overOf_0 : decode cX11_overOf 0 = .ok (.iconst 0, 1) := by decide +kernel
theorem dX11_overOf_1 : decode cX11_overOf 1 = .ok (.istore_n 3, 1) := by decide +kernel
theorem dX11_overOf_2 : decode cX11_overOf 2 = .ok (.iload_n 2, 1) := by decide +kernel
theorem dX11_overOf_3 : decode cX11_overOf 3 = .ok (.iconst 1, 1) := by decide +kernel
theorem dX11_overOf_4 : decode cX11_overOf 4 = .ok (.iadd, 1) := by decide +kernel
theorem dX11_overOf_5 : decode cX11_overOf 5 = .ok (.istore 4, 2) := by decide +kernel
theorem dX11_overOf_7 : decode cX11_overOf 7 = .ok (.iload 4, 2) := by decide +kernel
theorem dX11_overOf_9 : decode cX11_overOf 9 = .ok (.aload_n 0, 1) := by decide +kernel
theorem dX11_overOf_10 : decode cX11_overOf 10 = .ok (.iload_n 1, 1) := by decide +kernel
theorem dX11_overOf_11 : decode cX11_overOf 11 = .ok (.invokevirtual 121, 3) := by decide +kernel
theorem dX11_overOf_14 : decode cX11_overOf 14 = .ok (.if_icmp .ge 36, 3) := by decide +kernel
theorem dX11_overOf_17 : decode cX11_overOf 17 = .ok (.iload_n 3, 1) := by decide +kernel
theorem dX11_overOf_18 : decode cX11_overOf 18 = .ok (.aload_n 0, 1) := by decide +kernel
theorem dX11_overOf_19 : decode cX11_overOf 19 = .ok (.iload_n 1, 1) := by decide +kernel
theorem dX11_overOf_20 : decode cX11_overOf 20 = .ok (.iload_n 2, 1) := by decide +kernel
theorem dX11_overOf_21 : decode cX11_overOf 21 = .ok (.invokevirtual 124, 3) := by decide +kernel
theorem dX11_overOf_24 : decode cX11_overOf 24 = .ok (.aload_n 0, 1) := by decide +kernel
theorem dX11_overOf_25 : decode cX11_overOf 25 = .ok (.iload_n 1, 1) := by decide +kernel
theorem dX11_overOf_26 : decode cX11_overOf 26 = .ok (.iload 4, 2) := by decide +kernel
theorem dX11_overOf_28 : decode cX11_overOf 28 = .ok (.invokevirtual 124, 3) := by decide +kernel
theorem dX11_overOf_31 : decode cX11_overOf 31 = .ok (.invokestatic 156, 3) := by decide +kernel
theorem dX11_overOf_34 : decode cX11_overOf 34 = .ok (.ifCond .eq 7, 3) := by decide +kernel
theorem dX11_overOf_37 : decode cX11_overOf 37 = .ok (.iconst 1, 1) := by decide +kernel
theorem dX11_overOf_38 : decode cX11_overOf 38 = .ok (.goto 4, 3) := by decide +kernel
theorem dX11_overOf_41 : decode cX11_overOf 41 = .ok (.iconst 0, 1) := by decide +kernel
theorem dX11_overOf_42 : decode cX11_overOf 42 = .ok (.iadd, 1) := by decide +kernel
theorem dX11_overOf_43 : decode cX11_overOf 43 = .ok (.istore_n 3, 1) := by decide +kernel
theorem dX11_overOf_44 : decode cX11_overOf 44 = .ok (.iinc 4 1, 3) := by decide +kernel
theorem dX11_overOf_47 : decode cX11_overOf 47 = .ok (.goto (-40), 3) := by decide +kernel
theorem dX11_overOf_50 : decode cX11_overOf 50 = .ok (.iload_n 3, 1) := by decide +kernel
theorem dX11_overOf_51 : decode cX11_overOf 51 = .ok (.ireturn, 1) := by decide +kernel
theorem dX11_canUnwind_0 : decode cX11_canUnwind 0 = .ok (.aload_n 0, 1) := by decide +kernel
theorem dX11_canUnwind_1 : decode cX11_canUnwind 1 = .ok (.iload_n 2, 1) := by decide +kernel
theorem dX11_canUnwind_2 : decode cX11_canUnwind 2 = .ok (.invokevirtual 159, 3) := by decide +kernel
theorem dX11_canUnwind_5 : decode cX11_canUnwind 5 = .ok (.ifCond .eq 32, 3) := by decide +kernel
theorem dX11_canUnwind_8 : decode cX11_canUnwind 8 = .ok (.aload_n 0, 1) := by decide +kernel
theorem dX11_canUnwind_9 : decode cX11_canUnwind 9 = .ok (.iload_n 1, 1) := by decide +kernel
theorem dX11_canUnwind_10 : decode cX11_canUnwind 10 = .ok (.iload_n 2, 1) := by decide +kernel
theorem dX11_canUnwind_11 : decode cX11_canUnwind 11 = .ok (.invokevirtual 162, 3) := by decide +kernel
theorem dX11_canUnwind_14 : decode cX11_canUnwind 14 = .ok (.bipush (-9), 2) := by decide +kernel
theorem dX11_canUnwind_16 : decode cX11_canUnwind 16 = .ok (.if_icmp .eq 21, 3) := by decide +kernel
theorem dX11_canUnwind_19 : decode cX11_canUnwind 19 = .ok (.aload_n 0, 1) := by decide +kernel
theorem dX11_canUnwind_20 : decode cX11_canUnwind 20 = .ok (.iload_n 1, 1) := by decide +kernel
theorem dX11_canUnwind_21 : decode cX11_canUnwind 21 = .ok (.aload_n 0, 1) := by decide +kernel
theorem dX11_canUnwind_22 : decode cX11_canUnwind 22 = .ok (.iload_n 1, 1) := by decide +kernel
theorem dX11_canUnwind_23 : decode cX11_canUnwind 23 = .ok (.iload_n 2, 1) := by decide +kernel
theorem dX11_canUnwind_24 : decode cX11_canUnwind 24 = .ok (.invokevirtual 162, 3) := by decide +kernel
theorem dX11_canUnwind_27 : decode cX11_canUnwind 27 = .ok (.invokevirtual 165, 3) := by decide +kernel
theorem dX11_canUnwind_30 : decode cX11_canUnwind 30 = .ok (.ifCond .ne 7, 3) := by decide +kernel
theorem dX11_canUnwind_33 : decode cX11_canUnwind 33 = .ok (.iconst 1, 1) := by decide +kernel
theorem dX11_canUnwind_34 : decode cX11_canUnwind 34 = .ok (.goto 4, 3) := by decide +kernel
theorem dX11_canUnwind_37 : decode cX11_canUnwind 37 = .ok (.iconst 0, 1) := by decide +kernel
theorem dX11_canUnwind_38 : decode cX11_canUnwind 38 = .ok (.ireturn, 1) := by decide +kernel
theorem dX11_takeOff_0 : decode cX11_takeOff 0 = .ok (.bipush 53, 2) := by decide +kernel
theorem dX11_takeOff_2 : decode cX11_takeOff 2 = .ok (.iload_n 1, 1) := by decide +kernel
theorem dX11_takeOff_3 : decode cX11_takeOff 3 = .ok (.imul, 1) := by decide +kernel
theorem dX11_takeOff_4 : decode cX11_takeOff 4 = .ok (.istore_n 3, 1) := by decide +kernel
theorem dX11_takeOff_5 : decode cX11_takeOff 5 = .ok (.aload_n 0, 1) := by decide +kernel
theorem dX11_takeOff_6 : decode cX11_takeOff 6 = .ok (.getfield 13, 3) := by decide +kernel
theorem dX11_takeOff_9 : decode cX11_takeOff 9 = .ok (.iload_n 3, 1) := by decide +kernel
theorem dX11_takeOff_10 : decode cX11_takeOff 10 = .ok (.iconst 4, 1) := by decide +kernel
theorem dX11_takeOff_11 : decode cX11_takeOff 11 = .ok (.iadd, 1) := by decide +kernel
theorem dX11_takeOff_12 : decode cX11_takeOff 12 = .ok (.dup2, 1) := by decide +kernel
theorem dX11_takeOff_13 : decode cX11_takeOff 13 = .ok (.iaload, 1) := by decide +kernel
theorem dX11_takeOff_14 : decode cX11_takeOff 14 = .ok (.iconst 1, 1) := by decide +kernel
theorem dX11_takeOff_15 : decode cX11_takeOff 15 = .ok (.isub, 1) := by decide +kernel
theorem dX11_takeOff_16 : decode cX11_takeOff 16 = .ok (.iastore, 1) := by decide +kernel
theorem dX11_takeOff_17 : decode cX11_takeOff 17 = .ok (.iload_n 2, 1) := by decide +kernel
theorem dX11_takeOff_18 : decode cX11_takeOff 18 = .ok (.istore 4, 2) := by decide +kernel
theorem dX11_takeOff_20 : decode cX11_takeOff 20 = .ok (.iload 4, 2) := by decide +kernel
theorem dX11_takeOff_22 : decode cX11_takeOff 22 = .ok (.aload_n 0, 1) := by decide +kernel
theorem dX11_takeOff_23 : decode cX11_takeOff 23 = .ok (.getfield 13, 3) := by decide +kernel
theorem dX11_takeOff_26 : decode cX11_takeOff 26 = .ok (.iload_n 3, 1) := by decide +kernel
theorem dX11_takeOff_27 : decode cX11_takeOff 27 = .ok (.iconst 4, 1) := by decide +kernel
theorem dX11_takeOff_28 : decode cX11_takeOff 28 = .ok (.iadd, 1) := by decide +kernel
theorem dX11_takeOff_29 : decode cX11_takeOff 29 = .ok (.iaload, 1) := by decide +kernel
theorem dX11_takeOff_30 : decode cX11_takeOff 30 = .ok (.if_icmp .ge 33, 3) := by decide +kernel
theorem dX11_takeOff_33 : decode cX11_takeOff 33 = .ok (.aload_n 0, 1) := by decide +kernel
theorem dX11_takeOff_34 : decode cX11_takeOff 34 = .ok (.getfield 13, 3) := by decide +kernel
theorem dX11_takeOff_37 : decode cX11_takeOff 37 = .ok (.iload_n 3, 1) := by decide +kernel
theorem dX11_takeOff_38 : decode cX11_takeOff 38 = .ok (.iconst 5, 1) := by decide +kernel
theorem dX11_takeOff_39 : decode cX11_takeOff 39 = .ok (.iadd, 1) := by decide +kernel
theorem dX11_takeOff_40 : decode cX11_takeOff 40 = .ok (.iload 4, 2) := by decide +kernel
theorem dX11_takeOff_42 : decode cX11_takeOff 42 = .ok (.iadd, 1) := by decide +kernel
theorem dX11_takeOff_43 : decode cX11_takeOff 43 = .ok (.aload_n 0, 1) := by decide +kernel
theorem dX11_takeOff_44 : decode cX11_takeOff 44 = .ok (.getfield 13, 3) := by decide +kernel
theorem dX11_takeOff_47 : decode cX11_takeOff 47 = .ok (.iload_n 3, 1) := by decide +kernel
theorem dX11_takeOff_48 : decode cX11_takeOff 48 = .ok (.iconst 5, 1) := by decide +kernel
theorem dX11_takeOff_49 : decode cX11_takeOff 49 = .ok (.iadd, 1) := by decide +kernel
theorem dX11_takeOff_50 : decode cX11_takeOff 50 = .ok (.iload 4, 2) := by decide +kernel
theorem dX11_takeOff_52 : decode cX11_takeOff 52 = .ok (.iadd, 1) := by decide +kernel
theorem dX11_takeOff_53 : decode cX11_takeOff 53 = .ok (.iconst 1, 1) := by decide +kernel
theorem dX11_takeOff_54 : decode cX11_takeOff 54 = .ok (.iadd, 1) := by decide +kernel
theorem dX11_takeOff_55 : decode cX11_takeOff 55 = .ok (.iaload, 1) := by decide +kernel
theorem dX11_takeOff_56 : decode cX11_takeOff 56 = .ok (.iastore, 1) := by decide +kernel
theorem dX11_takeOff_57 : decode cX11_takeOff 57 = .ok (.iinc 4 1, 3) := by decide +kernel
theorem dX11_takeOff_60 : decode cX11_takeOff 60 = .ok (.goto (-40), 3) := by decide +kernel
theorem dX11_takeOff_63 : decode cX11_takeOff 63 = .ok (.return_, 1) := by decide +kernel
theorem dX11_unwindOn_0 : decode cX11_unwindOn 0 = .ok (.aload_n 0, 1) := by decide +kernel
theorem dX11_unwindOn_1 : decode cX11_unwindOn 1 = .ok (.iload_n 1, 1) := by decide +kernel
theorem dX11_unwindOn_2 : decode cX11_unwindOn 2 = .ok (.iload_n 2, 1) := by decide +kernel
theorem dX11_unwindOn_3 : decode cX11_unwindOn 3 = .ok (.invokevirtual 162, 3) := by decide +kernel
theorem dX11_unwindOn_6 : decode cX11_unwindOn 6 = .ok (.istore_n 3, 1) := by decide +kernel
theorem dX11_unwindOn_7 : decode cX11_unwindOn 7 = .ok (.aload_n 0, 1) := by decide +kernel
theorem dX11_unwindOn_8 : decode cX11_unwindOn 8 = .ok (.getfield 13, 3) := by decide +kernel
theorem dX11_unwindOn_11 : decode cX11_unwindOn 11 = .ok (.bipush 53, 2) := by decide +kernel
theorem dX11_unwindOn_13 : decode cX11_unwindOn 13 = .ok (.iload_n 1, 1) := by decide +kernel
theorem dX11_unwindOn_14 : decode cX11_unwindOn 14 = .ok (.imul, 1) := by decide +kernel
theorem dX11_unwindOn_15 : decode cX11_unwindOn 15 = .ok (.iload_n 2, 1) := by decide +kernel
theorem dX11_unwindOn_16 : decode cX11_unwindOn 16 = .ok (.iadd, 1) := by decide +kernel
theorem dX11_unwindOn_17 : decode cX11_unwindOn 17 = .ok (.aload_n 0, 1) := by decide +kernel
theorem dX11_unwindOn_18 : decode cX11_unwindOn 18 = .ok (.iload_n 1, 1) := by decide +kernel
theorem dX11_unwindOn_19 : decode cX11_unwindOn 19 = .ok (.iload_n 3, 1) := by decide +kernel
theorem dX11_unwindOn_20 : decode cX11_unwindOn 20 = .ok (.invokevirtual 124, 3) := by decide +kernel
theorem dX11_unwindOn_23 : decode cX11_unwindOn 23 = .ok (.invokestatic 61, 3) := by decide +kernel
theorem dX11_unwindOn_26 : decode cX11_unwindOn 26 = .ok (.iastore, 1) := by decide +kernel
theorem dX11_unwindOn_27 : decode cX11_unwindOn 27 = .ok (.aload_n 0, 1) := by decide +kernel
theorem dX11_unwindOn_28 : decode cX11_unwindOn 28 = .ok (.iload_n 1, 1) := by decide +kernel
theorem dX11_unwindOn_29 : decode cX11_unwindOn 29 = .ok (.iload_n 3, 1) := by decide +kernel
theorem dX11_unwindOn_30 : decode cX11_unwindOn 30 = .ok (.invokevirtual 168, 3) := by decide +kernel
theorem dX11_unwindOn_33 : decode cX11_unwindOn 33 = .ok (.return_, 1) := by decide +kernel
theorem dX11_cutOn_0 : decode cX11_cutOn 0 = .ok (.iconst 0, 1) := by decide +kernel
theorem dX11_cutOn_1 : decode cX11_cutOn 1 = .ok (.istore_n 3, 1) := by decide +kernel
theorem dX11_cutOn_2 : decode cX11_cutOn 2 = .ok (.aload_n 0, 1) := by decide +kernel
theorem dX11_cutOn_3 : decode cX11_cutOn 3 = .ok (.iload_n 1, 1) := by decide +kernel
theorem dX11_cutOn_4 : decode cX11_cutOn 4 = .ok (.invokevirtual 121, 3) := by decide +kernel
theorem dX11_cutOn_7 : decode cX11_cutOn 7 = .ok (.iconst 1, 1) := by decide +kernel
theorem dX11_cutOn_8 : decode cX11_cutOn 8 = .ok (.isub, 1) := by decide +kernel
theorem dX11_cutOn_9 : decode cX11_cutOn 9 = .ok (.istore 4, 2) := by decide +kernel
theorem dX11_cutOn_11 : decode cX11_cutOn 11 = .ok (.iload 4, 2) := by decide +kernel
theorem dX11_cutOn_13 : decode cX11_cutOn 13 = .ok (.ifCond .lt 33, 3) := by decide +kernel
theorem dX11_cutOn_16 : decode cX11_cutOn 16 = .ok (.aload_n 0, 1) := by decide +kernel
theorem dX11_cutOn_17 : decode cX11_cutOn 17 = .ok (.iload_n 1, 1) := by decide +kernel
theorem dX11_cutOn_18 : decode cX11_cutOn 18 = .ok (.iload 4, 2) := by decide +kernel
theorem dX11_cutOn_20 : decode cX11_cutOn 20 = .ok (.invokevirtual 124, 3) := by decide +kernel
theorem dX11_cutOn_23 : decode cX11_cutOn 23 = .ok (.invokestatic 127, 3) := by decide +kernel
theorem dX11_cutOn_26 : decode cX11_cutOn 26 = .ok (.iload_n 2, 1) := by decide +kernel
theorem dX11_cutOn_27 : decode cX11_cutOn 27 = .ok (.if_icmp .ne 13, 3) := by decide +kernel
theorem dX11_cutOn_30 : decode cX11_cutOn 30 = .ok (.aload_n 0, 1) := by decide +kernel
theorem dX11_cutOn_31 : decode cX11_cutOn 31 = .ok (.iload_n 1, 1) := by decide +kernel
theorem dX11_cutOn_32 : decode cX11_cutOn 32 = .ok (.iload 4, 2) := by decide +kernel
theorem dX11_cutOn_34 : decode cX11_cutOn 34 = .ok (.invokevirtual 168, 3) := by decide +kernel
theorem dX11_cutOn_37 : decode cX11_cutOn 37 = .ok (.iinc 3 1, 3) := by decide +kernel
theorem dX11_cutOn_40 : decode cX11_cutOn 40 = .ok (.iinc 4 (-1), 3) := by decide +kernel
theorem dX11_cutOn_43 : decode cX11_cutOn 43 = .ok (.goto (-32), 3) := by decide +kernel
theorem dX11_cutOn_46 : decode cX11_cutOn 46 = .ok (.iload_n 3, 1) := by decide +kernel
theorem dX11_cutOn_47 : decode cX11_cutOn 47 = .ok (.ireturn, 1) := by decide +kernel
theorem dX11_renamed_0 : decode cX11_renamed 0 = .ok (.iload_n 1, 1) := by decide +kernel
theorem dX11_renamed_1 : decode cX11_renamed 1 = .ok (.ifCond .eq 13, 3) := by decide +kernel
theorem dX11_renamed_4 : decode cX11_renamed 4 = .ok (.bipush 12, 2) := by decide +kernel
theorem dX11_renamed_6 : decode cX11_renamed 6 = .ok (.iload_n 0, 1) := by decide +kernel
theorem dX11_renamed_7 : decode cX11_renamed 7 = .ok (.isub, 1) := by decide +kernel
theorem dX11_renamed_8 : decode cX11_renamed 8 = .ok (.bipush 12, 2) := by decide +kernel
theorem dX11_renamed_10 : decode cX11_renamed 10 = .ok (.irem, 1) := by decide +kernel
theorem dX11_renamed_11 : decode cX11_renamed 11 = .ok (.goto 9, 3) := by decide +kernel
theorem dX11_renamed_14 : decode cX11_renamed 14 = .ok (.iload_n 0, 1) := by decide +kernel
theorem dX11_renamed_15 : decode cX11_renamed 15 = .ok (.iconst 1, 1) := by decide +kernel
theorem dX11_renamed_16 : decode cX11_renamed 16 = .ok (.iadd, 1) := by decide +kernel
theorem dX11_renamed_17 : decode cX11_renamed 17 = .ok (.bipush 12, 2) := by decide +kernel
theorem dX11_renamed_19 : decode cX11_renamed 19 = .ok (.irem, 1) := by decide +kernel
theorem dX11_renamed_20 : decode cX11_renamed 20 = .ok (.ireturn, 1) := by decide +kernel
theorem dX11_renameOn_0 : decode cX11_renameOn 0 = .ok (.bipush 53, 2) := by decide +kernel
theorem dX11_renameOn_2 : decode cX11_renameOn 2 = .ok (.iload_n 1, 1) := by decide +kernel
theorem dX11_renameOn_3 : decode cX11_renameOn 3 = .ok (.imul, 1) := by decide +kernel
theorem dX11_renameOn_4 : decode cX11_renameOn 4 = .ok (.istore_n 3, 1) := by decide +kernel
theorem dX11_renameOn_5 : decode cX11_renameOn 5 = .ok (.iconst 0, 1) := by decide +kernel
theorem dX11_renameOn_6 : decode cX11_renameOn 6 = .ok (.istore 4, 2) := by decide +kernel
theorem dX11_renameOn_8 : decode cX11_renameOn 8 = .ok (.iload 4, 2) := by decide +kernel
theorem dX11_renameOn_10 : decode cX11_renameOn 10 = .ok (.aload_n 0, 1) := by decide +kernel
theorem dX11_renameOn_11 : decode cX11_renameOn 11 = .ok (.getfield 115, 3) := by decide +kernel
theorem dX11_renameOn_14 : decode cX11_renameOn 14 = .ok (.if_icmp .ge 31, 3) := by decide +kernel
theorem dX11_renameOn_17 : decode cX11_renameOn 17 = .ok (.aload_n 0, 1) := by decide +kernel
theorem dX11_renameOn_18 : decode cX11_renameOn 18 = .ok (.getfield 13, 3) := by decide +kernel
theorem dX11_renameOn_21 : decode cX11_renameOn 21 = .ok (.iload_n 3, 1) := by decide +kernel
theorem dX11_renameOn_22 : decode cX11_renameOn 22 = .ok (.iload 4, 2) := by decide +kernel
theorem dX11_renameOn_24 : decode cX11_renameOn 24 = .ok (.iadd, 1) := by decide +kernel
theorem dX11_renameOn_25 : decode cX11_renameOn 25 = .ok (.aload_n 0, 1) := by decide +kernel
theorem dX11_renameOn_26 : decode cX11_renameOn 26 = .ok (.getfield 13, 3) := by decide +kernel
theorem dX11_renameOn_29 : decode cX11_renameOn 29 = .ok (.iload_n 3, 1) := by decide +kernel
theorem dX11_renameOn_30 : decode cX11_renameOn 30 = .ok (.iload 4, 2) := by decide +kernel
theorem dX11_renameOn_32 : decode cX11_renameOn 32 = .ok (.iadd, 1) := by decide +kernel
theorem dX11_renameOn_33 : decode cX11_renameOn 33 = .ok (.iaload, 1) := by decide +kernel
theorem dX11_renameOn_34 : decode cX11_renameOn 34 = .ok (.iload_n 2, 1) := by decide +kernel
theorem dX11_renameOn_35 : decode cX11_renameOn 35 = .ok (.invokestatic 172, 3) := by decide +kernel
theorem dX11_renameOn_38 : decode cX11_renameOn 38 = .ok (.iastore, 1) := by decide +kernel
theorem dX11_renameOn_39 : decode cX11_renameOn 39 = .ok (.iinc 4 1, 3) := by decide +kernel
theorem dX11_renameOn_42 : decode cX11_renameOn 42 = .ok (.goto (-34), 3) := by decide +kernel
theorem dX11_renameOn_45 : decode cX11_renameOn 45 = .ok (.iconst 0, 1) := by decide +kernel
theorem dX11_renameOn_46 : decode cX11_renameOn 46 = .ok (.istore 4, 2) := by decide +kernel
theorem dX11_renameOn_48 : decode cX11_renameOn 48 = .ok (.iload 4, 2) := by decide +kernel
theorem dX11_renameOn_50 : decode cX11_renameOn 50 = .ok (.aload_n 0, 1) := by decide +kernel
theorem dX11_renameOn_51 : decode cX11_renameOn 51 = .ok (.iload_n 1, 1) := by decide +kernel
theorem dX11_renameOn_52 : decode cX11_renameOn 52 = .ok (.invokevirtual 121, 3) := by decide +kernel
theorem dX11_renameOn_55 : decode cX11_renameOn 55 = .ok (.if_icmp .ge 60, 3) := by decide +kernel
theorem dX11_renameOn_58 : decode cX11_renameOn 58 = .ok (.aload_n 0, 1) := by decide +kernel
theorem dX11_renameOn_59 : decode cX11_renameOn 59 = .ok (.iload_n 1, 1) := by decide +kernel
theorem dX11_renameOn_60 : decode cX11_renameOn 60 = .ok (.iload 4, 2) := by decide +kernel
theorem dX11_renameOn_62 : decode cX11_renameOn 62 = .ok (.invokevirtual 124, 3) := by decide +kernel
theorem dX11_renameOn_65 : decode cX11_renameOn 65 = .ok (.istore 5, 2) := by decide +kernel
theorem dX11_renameOn_67 : decode cX11_renameOn 67 = .ok (.aload_n 0, 1) := by decide +kernel
theorem dX11_renameOn_68 : decode cX11_renameOn 68 = .ok (.getfield 13, 3) := by decide +kernel
theorem dX11_renameOn_71 : decode cX11_renameOn 71 = .ok (.iload_n 3, 1) := by decide +kernel
theorem dX11_renameOn_72 : decode cX11_renameOn 72 = .ok (.iconst 5, 1) := by decide +kernel
theorem dX11_renameOn_73 : decode cX11_renameOn 73 = .ok (.iadd, 1) := by decide +kernel
theorem dX11_renameOn_74 : decode cX11_renameOn 74 = .ok (.iload 4, 2) := by decide +kernel
theorem dX11_renameOn_76 : decode cX11_renameOn 76 = .ok (.iadd, 1) := by decide +kernel
theorem dX11_renameOn_77 : decode cX11_renameOn 77 = .ok (.iload 5, 2) := by decide +kernel
theorem dX11_renameOn_79 : decode cX11_renameOn 79 = .ok (.invokestatic 127, 3) := by decide +kernel
theorem dX11_renameOn_82 : decode cX11_renameOn 82 = .ok (.iload 5, 2) := by decide +kernel
theorem dX11_renameOn_84 : decode cX11_renameOn 84 = .ok (.invokestatic 61, 3) := by decide +kernel
theorem dX11_renameOn_87 : decode cX11_renameOn 87 = .ok (.iload_n 2, 1) := by decide +kernel
theorem dX11_renameOn_88 : decode cX11_renameOn 88 = .ok (.invokestatic 172, 3) := by decide +kernel
theorem dX11_renameOn_91 : decode cX11_renameOn 91 = .ok (.iload 5, 2) := by decide +kernel
theorem dX11_renameOn_93 : decode cX11_renameOn 93 = .ok (.invokestatic 65, 3) := by decide +kernel
theorem dX11_renameOn_96 : decode cX11_renameOn 96 = .ok (.iload_n 2, 1) := by decide +kernel
theorem dX11_renameOn_97 : decode cX11_renameOn 97 = .ok (.invokestatic 172, 3) := by decide +kernel
theorem dX11_renameOn_100 : decode cX11_renameOn 100 = .ok (.iload 5, 2) := by decide +kernel
theorem dX11_renameOn_102 : decode cX11_renameOn 102 = .ok (.invokestatic 153, 3) := by decide +kernel
theorem dX11_renameOn_105 : decode cX11_renameOn 105 = .ok (.invokestatic 150, 3) := by decide +kernel
theorem dX11_renameOn_108 : decode cX11_renameOn 108 = .ok (.iastore, 1) := by decide +kernel
theorem dX11_renameOn_109 : decode cX11_renameOn 109 = .ok (.iinc 4 1, 3) := by decide +kernel
theorem dX11_renameOn_112 : decode cX11_renameOn 112 = .ok (.goto (-64), 3) := by decide +kernel
theorem dX11_renameOn_115 : decode cX11_renameOn 115 = .ok (.iconst 0, 1) := by decide +kernel
theorem dX11_renameOn_116 : decode cX11_renameOn 116 = .ok (.istore 4, 2) := by decide +kernel
theorem dX11_renameOn_118 : decode cX11_renameOn 118 = .ok (.iload_n 2, 1) := by decide +kernel
theorem dX11_renameOn_119 : decode cX11_renameOn 119 = .ok (.ifCond .eq 73, 3) := by decide +kernel
theorem dX11_renameOn_122 : decode cX11_renameOn 122 = .ok (.iload 4, 2) := by decide +kernel
theorem dX11_renameOn_124 : decode cX11_renameOn 124 = .ok (.aload_n 0, 1) := by decide +kernel
theorem dX11_renameOn_125 : decode cX11_renameOn 125 = .ok (.iload_n 1, 1) := by decide +kernel
theorem dX11_renameOn_126 : decode cX11_renameOn 126 = .ok (.invokevirtual 121, 3) := by decide +kernel
theorem dX11_renameOn_129 : decode cX11_renameOn 129 = .ok (.iconst 2, 1) := by decide +kernel
theorem dX11_renameOn_130 : decode cX11_renameOn 130 = .ok (.idiv, 1) := by decide +kernel
theorem dX11_renameOn_131 : decode cX11_renameOn 131 = .ok (.if_icmp .ge 61, 3) := by decide +kernel
theorem dX11_renameOn_134 : decode cX11_renameOn 134 = .ok (.aload_n 0, 1) := by decide +kernel
theorem dX11_renameOn_135 : decode cX11_renameOn 135 = .ok (.iload_n 1, 1) := by decide +kernel
theorem dX11_renameOn_136 : decode cX11_renameOn 136 = .ok (.invokevirtual 121, 3) := by decide +kernel
theorem dX11_renameOn_139 : decode cX11_renameOn 139 = .ok (.iconst 1, 1) := by decide +kernel
theorem dX11_renameOn_140 : decode cX11_renameOn 140 = .ok (.isub, 1) := by decide +kernel
theorem dX11_renameOn_141 : decode cX11_renameOn 141 = .ok (.iload 4, 2) := by decide +kernel
theorem dX11_renameOn_143 : decode cX11_renameOn 143 = .ok (.isub, 1) := by decide +kernel
theorem dX11_renameOn_144 : decode cX11_renameOn 144 = .ok (.istore 5, 2) := by decide +kernel
theorem dX11_renameOn_146 : decode cX11_renameOn 146 = .ok (.aload_n 0, 1) := by decide +kernel
theorem dX11_renameOn_147 : decode cX11_renameOn 147 = .ok (.iload_n 1, 1) := by decide +kernel
theorem dX11_renameOn_148 : decode cX11_renameOn 148 = .ok (.iload 4, 2) := by decide +kernel
theorem dX11_renameOn_150 : decode cX11_renameOn 150 = .ok (.invokevirtual 124, 3) := by decide +kernel
theorem dX11_renameOn_153 : decode cX11_renameOn 153 = .ok (.istore 6, 2) := by decide +kernel
theorem dX11_renameOn_155 : decode cX11_renameOn 155 = .ok (.aload_n 0, 1) := by decide +kernel
theorem dX11_renameOn_156 : decode cX11_renameOn 156 = .ok (.getfield 13, 3) := by decide +kernel
theorem dX11_renameOn_159 : decode cX11_renameOn 159 = .ok (.iload_n 3, 1) := by decide +kernel
theorem dX11_renameOn_160 : decode cX11_renameOn 160 = .ok (.iconst 5, 1) := by decide +kernel
theorem dX11_renameOn_161 : decode cX11_renameOn 161 = .ok (.iadd, 1) := by decide +kernel
theorem dX11_renameOn_162 : decode cX11_renameOn 162 = .ok (.iload 4, 2) := by decide +kernel
theorem dX11_renameOn_164 : decode cX11_renameOn 164 = .ok (.iadd, 1) := by decide +kernel
theorem dX11_renameOn_165 : decode cX11_renameOn 165 = .ok (.aload_n 0, 1) := by decide +kernel
theorem dX11_renameOn_166 : decode cX11_renameOn 166 = .ok (.iload_n 1, 1) := by decide +kernel
theorem dX11_renameOn_167 : decode cX11_renameOn 167 = .ok (.iload 5, 2) := by decide +kernel
theorem dX11_renameOn_169 : decode cX11_renameOn 169 = .ok (.invokevirtual 124, 3) := by decide +kernel
theorem dX11_renameOn_172 : decode cX11_renameOn 172 = .ok (.iastore, 1) := by decide +kernel
theorem dX11_renameOn_173 : decode cX11_renameOn 173 = .ok (.aload_n 0, 1) := by decide +kernel
theorem dX11_renameOn_174 : decode cX11_renameOn 174 = .ok (.getfield 13, 3) := by decide +kernel
theorem dX11_renameOn_177 : decode cX11_renameOn 177 = .ok (.iload_n 3, 1) := by decide +kernel
theorem dX11_renameOn_178 : decode cX11_renameOn 178 = .ok (.iconst 5, 1) := by decide +kernel
theorem dX11_renameOn_179 : decode cX11_renameOn 179 = .ok (.iadd, 1) := by decide +kernel
theorem dX11_renameOn_180 : decode cX11_renameOn 180 = .ok (.iload 5, 2) := by decide +kernel
theorem dX11_renameOn_182 : decode cX11_renameOn 182 = .ok (.iadd, 1) := by decide +kernel
theorem dX11_renameOn_183 : decode cX11_renameOn 183 = .ok (.iload 6, 2) := by decide +kernel
theorem dX11_renameOn_185 : decode cX11_renameOn 185 = .ok (.iastore, 1) := by decide +kernel
theorem dX11_renameOn_186 : decode cX11_renameOn 186 = .ok (.iinc 4 1, 3) := by decide +kernel
theorem dX11_renameOn_189 : decode cX11_renameOn 189 = .ok (.goto (-71), 3) := by decide +kernel
theorem dX11_renameOn_192 : decode cX11_renameOn 192 = .ok (.return_, 1) := by decide +kernel
theorem dX11_mayGo_0 : decode cX11_mayGo 0 = .ok (.iconst 0, 1) := by decide +kernel
theorem dX11_mayGo_1 : decode cX11_mayGo 1 = .ok (.istore_n 2, 1) := by decide +kernel
theorem dX11_mayGo_2 : decode cX11_mayGo 2 = .ok (.iconst 0, 1) := by decide +kernel
theorem dX11_mayGo_3 : decode cX11_mayGo 3 = .ok (.istore_n 3, 1) := by decide +kernel
theorem dX11_mayGo_4 : decode cX11_mayGo 4 = .ok (.iload_n 3, 1) := by decide +kernel
theorem dX11_mayGo_5 : decode cX11_mayGo 5 = .ok (.bipush 12, 2) := by decide +kernel
theorem dX11_mayGo_7 : decode cX11_mayGo 7 = .ok (.if_icmp .ge 29, 3) := by decide +kernel
theorem dX11_mayGo_10 : decode cX11_mayGo 10 = .ok (.iload_n 2, 1) := by decide +kernel
theorem dX11_mayGo_11 : decode cX11_mayGo 11 = .ok (.aload_n 0, 1) := by decide +kernel
theorem dX11_mayGo_12 : decode cX11_mayGo 12 = .ok (.iconst 0, 1) := by decide +kernel
theorem dX11_mayGo_13 : decode cX11_mayGo 13 = .ok (.iload_n 1, 1) := by decide +kernel
theorem dX11_mayGo_14 : decode cX11_mayGo 14 = .ok (.iload_n 3, 1) := by decide +kernel
theorem dX11_mayGo_15 : decode cX11_mayGo 15 = .ok (.invokevirtual 105, 3) := by decide +kernel
theorem dX11_mayGo_18 : decode cX11_mayGo 18 = .ok (.ifCond .eq 9, 3) := by decide +kernel
theorem dX11_mayGo_21 : decode cX11_mayGo 21 = .ok (.iconst 1, 1) := by decide +kernel
theorem dX11_mayGo_22 : decode cX11_mayGo 22 = .ok (.iload_n 3, 1) := by decide +kernel
theorem dX11_mayGo_23 : decode cX11_mayGo 23 = .ok (.ishl, 1) := by decide +kernel
theorem dX11_mayGo_24 : decode cX11_mayGo 24 = .ok (.goto 4, 3) := by decide +kernel
theorem dX11_mayGo_27 : decode cX11_mayGo 27 = .ok (.iconst 0, 1) := by decide +kernel
theorem dX11_mayGo_28 : decode cX11_mayGo 28 = .ok (.ior, 1) := by decide +kernel
theorem dX11_mayGo_29 : decode cX11_mayGo 29 = .ok (.istore_n 2, 1) := by decide +kernel
theorem dX11_mayGo_30 : decode cX11_mayGo 30 = .ok (.iinc 3 1, 3) := by decide +kernel
theorem dX11_mayGo_33 : decode cX11_mayGo 33 = .ok (.goto (-29), 3) := by decide +kernel
theorem dX11_mayGo_36 : decode cX11_mayGo 36 = .ok (.iload_n 2, 1) := by decide +kernel
theorem dX11_mayGo_37 : decode cX11_mayGo 37 = .ok (.ireturn, 1) := by decide +kernel
theorem dX11_thread_0 : decode cX11_thread 0 = .ok (.aload_n 0, 1) := by decide +kernel
theorem dX11_thread_1 : decode cX11_thread 1 = .ok (.iload_n 1, 1) := by decide +kernel
theorem dX11_thread_2 : decode cX11_thread 2 = .ok (.invokevirtual 159, 3) := by decide +kernel
theorem dX11_thread_5 : decode cX11_thread 5 = .ok (.ifCond .ne 5, 3) := by decide +kernel
theorem dX11_thread_8 : decode cX11_thread 8 = .ok (.iconst (-1), 1) := by decide +kernel
theorem dX11_thread_9 : decode cX11_thread 9 = .ok (.ireturn, 1) := by decide +kernel
theorem dX11_thread_10 : decode cX11_thread 10 = .ok (.iload_n 2, 1) := by decide +kernel
theorem dX11_thread_11 : decode cX11_thread 11 = .ok (.tableswitch 86 0 5 #[37, 44, 51, 58, 65, 71], 37) := by decide +kernel
theorem dX11_thread_48 : decode cX11_thread 48 = .ok (.aload_n 0, 1) := by decide +kernel
theorem dX11_thread_49 : decode cX11_thread 49 = .ok (.getfield 13, 3) := by decide +kernel
theorem dX11_thread_52 : decode cX11_thread 52 = .ok (.iload_n 1, 1) := by decide +kernel
theorem dX11_thread_53 : decode cX11_thread 53 = .ok (.iaload, 1) := by decide +kernel
theorem dX11_thread_54 : decode cX11_thread 54 = .ok (.ireturn, 1) := by decide +kernel
theorem dX11_thread_55 : decode cX11_thread 55 = .ok (.aload_n 0, 1) := by decide +kernel
theorem dX11_thread_56 : decode cX11_thread 56 = .ok (.getfield 7, 3) := by decide +kernel
theorem dX11_thread_59 : decode cX11_thread 59 = .ok (.iload_n 1, 1) := by decide +kernel
theorem dX11_thread_60 : decode cX11_thread 60 = .ok (.iaload, 1) := by decide +kernel
theorem dX11_thread_61 : decode cX11_thread 61 = .ok (.ireturn, 1) := by decide +kernel
theorem dX11_thread_62 : decode cX11_thread 62 = .ok (.aload_n 0, 1) := by decide +kernel
theorem dX11_thread_63 : decode cX11_thread 63 = .ok (.iconst 0, 1) := by decide +kernel
theorem dX11_thread_64 : decode cX11_thread 64 = .ok (.iload_n 1, 1) := by decide +kernel
theorem dX11_thread_65 : decode cX11_thread 65 = .ok (.invokevirtual 137, 3) := by decide +kernel
theorem dX11_thread_68 : decode cX11_thread 68 = .ok (.ireturn, 1) := by decide +kernel
theorem dX11_thread_69 : decode cX11_thread 69 = .ok (.aload_n 0, 1) := by decide +kernel
theorem dX11_thread_70 : decode cX11_thread 70 = .ok (.iconst 0, 1) := by decide +kernel
theorem dX11_thread_71 : decode cX11_thread 71 = .ok (.iload_n 1, 1) := by decide +kernel
theorem dX11_thread_72 : decode cX11_thread 72 = .ok (.invokevirtual 147, 3) := by decide +kernel
theorem dX11_thread_75 : decode cX11_thread 75 = .ok (.ireturn, 1) := by decide +kernel
theorem dX11_thread_76 : decode cX11_thread 76 = .ok (.aload_n 0, 1) := by decide +kernel
theorem dX11_thread_77 : decode cX11_thread 77 = .ok (.iload_n 1, 1) := by decide +kernel
theorem dX11_thread_78 : decode cX11_thread 78 = .ok (.invokevirtual 176, 3) := by decide +kernel
theorem dX11_thread_81 : decode cX11_thread 81 = .ok (.ireturn, 1) := by decide +kernel
theorem dX11_thread_82 : decode cX11_thread 82 = .ok (.aload_n 0, 1) := by decide +kernel
theorem dX11_thread_83 : decode cX11_thread 83 = .ok (.iconst 0, 1) := by decide +kernel
theorem dX11_thread_84 : decode cX11_thread 84 = .ok (.iload_n 1, 1) := by decide +kernel
theorem dX11_thread_85 : decode cX11_thread 85 = .ok (.invokevirtual 179, 3) := by decide +kernel
theorem dX11_thread_88 : decode cX11_thread 88 = .ok (.ifCond .eq 7, 3) := by decide +kernel
theorem dX11_thread_91 : decode cX11_thread 91 = .ok (.iconst 1, 1) := by decide +kernel
theorem dX11_thread_92 : decode cX11_thread 92 = .ok (.goto 4, 3) := by decide +kernel
theorem dX11_thread_95 : decode cX11_thread 95 = .ok (.iconst 0, 1) := by decide +kernel
theorem dX11_thread_96 : decode cX11_thread 96 = .ok (.ireturn, 1) := by decide +kernel
theorem dX11_thread_97 : decode cX11_thread 97 = .ok (.bipush (-2), 2) := by decide +kernel
theorem dX11_thread_99 : decode cX11_thread 99 = .ok (.ireturn, 1) := by decide +kernel
theorem dX11_aboveOf_0 : decode cX11_aboveOf 0 = .ok (.iconst 0, 1) := by decide +kernel
theorem dX11_aboveOf_1 : decode cX11_aboveOf 1 = .ok (.istore_n 2, 1) := by decide +kernel
theorem dX11_aboveOf_2 : decode cX11_aboveOf 2 = .ok (.iconst 0, 1) := by decide +kernel
theorem dX11_aboveOf_3 : decode cX11_aboveOf 3 = .ok (.istore_n 3, 1) := by decide +kernel
theorem dX11_aboveOf_4 : decode cX11_aboveOf 4 = .ok (.iload_n 3, 1) := by decide +kernel
theorem dX11_aboveOf_5 : decode cX11_aboveOf 5 = .ok (.aload_n 0, 1) := by decide +kernel
theorem dX11_aboveOf_6 : decode cX11_aboveOf 6 = .ok (.iconst 0, 1) := by decide +kernel
theorem dX11_aboveOf_7 : decode cX11_aboveOf 7 = .ok (.invokevirtual 121, 3) := by decide +kernel
theorem dX11_aboveOf_10 : decode cX11_aboveOf 10 = .ok (.if_icmp .ge 16, 3) := by decide +kernel
theorem dX11_aboveOf_13 : decode cX11_aboveOf 13 = .ok (.aload_n 0, 1) := by decide +kernel
theorem dX11_aboveOf_14 : decode cX11_aboveOf 14 = .ok (.getfield 22, 3) := by decide +kernel
theorem dX11_aboveOf_17 : decode cX11_aboveOf 17 = .ok (.iload_n 3, 1) := by decide +kernel
theorem dX11_aboveOf_18 : decode cX11_aboveOf 18 = .ok (.iconst 0, 1) := by decide +kernel
theorem dX11_aboveOf_19 : decode cX11_aboveOf 19 = .ok (.iastore, 1) := by decide +kernel
theorem dX11_aboveOf_20 : decode cX11_aboveOf 20 = .ok (.iinc 3 1, 3) := by decide +kernel
theorem dX11_aboveOf_23 : decode cX11_aboveOf 23 = .ok (.goto (-19), 3) := by decide +kernel
theorem dX11_aboveOf_26 : decode cX11_aboveOf 26 = .ok (.iload_n 1, 1) := by decide +kernel
theorem dX11_aboveOf_27 : decode cX11_aboveOf 27 = .ok (.iconst 1, 1) := by decide +kernel
theorem dX11_aboveOf_28 : decode cX11_aboveOf 28 = .ok (.iadd, 1) := by decide +kernel
theorem dX11_aboveOf_29 : decode cX11_aboveOf 29 = .ok (.istore_n 3, 1) := by decide +kernel
theorem dX11_aboveOf_30 : decode cX11_aboveOf 30 = .ok (.iload_n 3, 1) := by decide +kernel
theorem dX11_aboveOf_31 : decode cX11_aboveOf 31 = .ok (.aload_n 0, 1) := by decide +kernel
theorem dX11_aboveOf_32 : decode cX11_aboveOf 32 = .ok (.iconst 0, 1) := by decide +kernel
theorem dX11_aboveOf_33 : decode cX11_aboveOf 33 = .ok (.invokevirtual 121, 3) := by decide +kernel
theorem dX11_aboveOf_36 : decode cX11_aboveOf 36 = .ok (.if_icmp .ge 110, 3) := by decide +kernel
theorem dX11_aboveOf_39 : decode cX11_aboveOf 39 = .ok (.aload_n 0, 1) := by decide +kernel
theorem dX11_aboveOf_40 : decode cX11_aboveOf 40 = .ok (.iconst 0, 1) := by decide +kernel
theorem dX11_aboveOf_41 : decode cX11_aboveOf 41 = .ok (.iload_n 1, 1) := by decide +kernel
theorem dX11_aboveOf_42 : decode cX11_aboveOf 42 = .ok (.invokevirtual 124, 3) := by decide +kernel
theorem dX11_aboveOf_45 : decode cX11_aboveOf 45 = .ok (.aload_n 0, 1) := by decide +kernel
theorem dX11_aboveOf_46 : decode cX11_aboveOf 46 = .ok (.iconst 0, 1) := by decide +kernel
theorem dX11_aboveOf_47 : decode cX11_aboveOf 47 = .ok (.iload_n 3, 1) := by decide +kernel
theorem dX11_aboveOf_48 : decode cX11_aboveOf 48 = .ok (.invokevirtual 124, 3) := by decide +kernel
theorem dX11_aboveOf_51 : decode cX11_aboveOf 51 = .ok (.invokestatic 156, 3) := by decide +kernel
theorem dX11_aboveOf_54 : decode cX11_aboveOf 54 = .ok (.istore 4, 2) := by decide +kernel
theorem dX11_aboveOf_56 : decode cX11_aboveOf 56 = .ok (.iload_n 1, 1) := by decide +kernel
theorem dX11_aboveOf_57 : decode cX11_aboveOf 57 = .ok (.iconst 1, 1) := by decide +kernel
theorem dX11_aboveOf_58 : decode cX11_aboveOf 58 = .ok (.iadd, 1) := by decide +kernel
theorem dX11_aboveOf_59 : decode cX11_aboveOf 59 = .ok (.istore 5, 2) := by decide +kernel
theorem dX11_aboveOf_61 : decode cX11_aboveOf 61 = .ok (.iload 5, 2) := by decide +kernel
theorem dX11_aboveOf_63 : decode cX11_aboveOf 63 = .ok (.iload_n 3, 1) := by decide +kernel
theorem dX11_aboveOf_64 : decode cX11_aboveOf 64 = .ok (.if_icmp .ge 51, 3) := by decide +kernel
theorem dX11_aboveOf_67 : decode cX11_aboveOf 67 = .ok (.iload 4, 2) := by decide +kernel
theorem dX11_aboveOf_69 : decode cX11_aboveOf 69 = .ok (.ifCond .ne 33, 3) := by decide +kernel
theorem dX11_aboveOf_72 : decode cX11_aboveOf 72 = .ok (.aload_n 0, 1) := by decide +kernel
theorem dX11_aboveOf_73 : decode cX11_aboveOf 73 = .ok (.getfield 22, 3) := by decide +kernel
theorem dX11_aboveOf_76 : decode cX11_aboveOf 76 = .ok (.iload 5, 2) := by decide +kernel
theorem dX11_aboveOf_78 : decode cX11_aboveOf 78 = .ok (.iaload, 1) := by decide +kernel
theorem dX11_aboveOf_79 : decode cX11_aboveOf 79 = .ok (.iconst 1, 1) := by decide +kernel
theorem dX11_aboveOf_80 : decode cX11_aboveOf 80 = .ok (.if_icmp .ne 26, 3) := by decide +kernel
theorem dX11_aboveOf_83 : decode cX11_aboveOf 83 = .ok (.aload_n 0, 1) := by decide +kernel
theorem dX11_aboveOf_84 : decode cX11_aboveOf 84 = .ok (.iconst 0, 1) := by decide +kernel
theorem dX11_aboveOf_85 : decode cX11_aboveOf 85 = .ok (.iload 5, 2) := by decide +kernel
theorem dX11_aboveOf_87 : decode cX11_aboveOf 87 = .ok (.invokevirtual 124, 3) := by decide +kernel
theorem dX11_aboveOf_90 : decode cX11_aboveOf 90 = .ok (.aload_n 0, 1) := by decide +kernel
theorem dX11_aboveOf_91 : decode cX11_aboveOf 91 = .ok (.iconst 0, 1) := by decide +kernel
theorem dX11_aboveOf_92 : decode cX11_aboveOf 92 = .ok (.iload_n 3, 1) := by decide +kernel
theorem dX11_aboveOf_93 : decode cX11_aboveOf 93 = .ok (.invokevirtual 124, 3) := by decide +kernel
theorem dX11_aboveOf_96 : decode cX11_aboveOf 96 = .ok (.invokestatic 156, 3) := by decide +kernel
theorem dX11_aboveOf_99 : decode cX11_aboveOf 99 = .ok (.ifCond .eq 7, 3) := by decide +kernel
theorem dX11_aboveOf_102 : decode cX11_aboveOf 102 = .ok (.iconst 1, 1) := by decide +kernel
theorem dX11_aboveOf_103 : decode cX11_aboveOf 103 = .ok (.goto 4, 3) := by decide +kernel
theorem dX11_aboveOf_106 : decode cX11_aboveOf 106 = .ok (.iconst 0, 1) := by decide +kernel
theorem dX11_aboveOf_107 : decode cX11_aboveOf 107 = .ok (.istore 4, 2) := by decide +kernel
theorem dX11_aboveOf_109 : decode cX11_aboveOf 109 = .ok (.iinc 5 1, 3) := by decide +kernel
theorem dX11_aboveOf_112 : decode cX11_aboveOf 112 = .ok (.goto (-51), 3) := by decide +kernel
theorem dX11_aboveOf_115 : decode cX11_aboveOf 115 = .ok (.aload_n 0, 1) := by decide +kernel
theorem dX11_aboveOf_116 : decode cX11_aboveOf 116 = .ok (.getfield 22, 3) := by decide +kernel
theorem dX11_aboveOf_119 : decode cX11_aboveOf 119 = .ok (.iload_n 3, 1) := by decide +kernel
theorem dX11_aboveOf_120 : decode cX11_aboveOf 120 = .ok (.iload 4, 2) := by decide +kernel
theorem dX11_aboveOf_122 : decode cX11_aboveOf 122 = .ok (.ifCond .eq 7, 3) := by decide +kernel
theorem dX11_aboveOf_125 : decode cX11_aboveOf 125 = .ok (.iconst 1, 1) := by decide +kernel
theorem dX11_aboveOf_126 : decode cX11_aboveOf 126 = .ok (.goto 4, 3) := by decide +kernel
theorem dX11_aboveOf_129 : decode cX11_aboveOf 129 = .ok (.iconst 0, 1) := by decide +kernel
theorem dX11_aboveOf_130 : decode cX11_aboveOf 130 = .ok (.iastore, 1) := by decide +kernel
theorem dX11_aboveOf_131 : decode cX11_aboveOf 131 = .ok (.iload_n 2, 1) := by decide +kernel
theorem dX11_aboveOf_132 : decode cX11_aboveOf 132 = .ok (.aload_n 0, 1) := by decide +kernel
theorem dX11_aboveOf_133 : decode cX11_aboveOf 133 = .ok (.getfield 22, 3) := by decide +kernel
theorem dX11_aboveOf_136 : decode cX11_aboveOf 136 = .ok (.iload_n 3, 1) := by decide +kernel
theorem dX11_aboveOf_137 : decode cX11_aboveOf 137 = .ok (.iaload, 1) := by decide +kernel
theorem dX11_aboveOf_138 : decode cX11_aboveOf 138 = .ok (.iadd, 1) := by decide +kernel
theorem dX11_aboveOf_139 : decode cX11_aboveOf 139 = .ok (.istore_n 2, 1) := by decide +kernel
theorem dX11_aboveOf_140 : decode cX11_aboveOf 140 = .ok (.iinc 3 1, 3) := by decide +kernel
theorem dX11_aboveOf_143 : decode cX11_aboveOf 143 = .ok (.goto (-113), 3) := by decide +kernel
theorem dX11_aboveOf_146 : decode cX11_aboveOf 146 = .ok (.iload_n 2, 1) := by decide +kernel
theorem dX11_aboveOf_147 : decode cX11_aboveOf 147 = .ok (.ireturn, 1) := by decide +kernel
theorem dX11_stretch_0 : decode cX11_stretch 0 = .ok (.iload_n 1, 1) := by decide +kernel
theorem dX11_stretch_1 : decode cX11_stretch 1 = .ok (.i2l, 1) := by decide +kernel
theorem dX11_stretch_2 : decode cX11_stretch 2 = .ok (.lconst 0, 1) := by decide +kernel
theorem dX11_stretch_3 : decode cX11_stretch 3 = .ok (.aload_n 0, 1) := by decide +kernel
theorem dX11_stretch_4 : decode cX11_stretch 4 = .ok (.iconst 0, 1) := by decide +kernel
theorem dX11_stretch_5 : decode cX11_stretch 5 = .ok (.invokevirtual 121, 3) := by decide +kernel
theorem dX11_stretch_8 : decode cX11_stretch 8 = .ok (.iconst 1, 1) := by decide +kernel
theorem dX11_stretch_9 : decode cX11_stretch 9 = .ok (.isub, 1) := by decide +kernel
theorem dX11_stretch_10 : decode cX11_stretch 10 = .ok (.i2l, 1) := by decide +kernel
theorem dX11_stretch_11 : decode cX11_stretch 11 = .ok (.invokestatic 49, 3) := by decide +kernel
theorem dX11_stretch_14 : decode cX11_stretch 14 = .ok (.ifCond .ne 5, 3) := by decide +kernel
theorem dX11_stretch_17 : decode cX11_stretch 17 = .ok (.iconst (-1), 1) := by decide +kernel
theorem dX11_stretch_18 : decode cX11_stretch 18 = .ok (.ireturn, 1) := by decide +kernel
theorem dX11_stretch_19 : decode cX11_stretch 19 = .ok (.aload_n 0, 1) := by decide +kernel
theorem dX11_stretch_20 : decode cX11_stretch 20 = .ok (.iconst 0, 1) := by decide +kernel
theorem dX11_stretch_21 : decode cX11_stretch 21 = .ok (.iload_n 1, 1) := by decide +kernel
theorem dX11_stretch_22 : decode cX11_stretch 22 = .ok (.invokevirtual 124, 3) := by decide +kernel
theorem dX11_stretch_25 : decode cX11_stretch 25 = .ok (.istore_n 3, 1) := by decide +kernel
theorem dX11_stretch_26 : decode cX11_stretch 26 = .ok (.iload_n 2, 1) := by decide +kernel
theorem dX11_stretch_27 : decode cX11_stretch 27 = .ok (.tableswitch 81 0 5 #[37, 42, 47, 52, 68, 75], 37) := by decide +kernel
theorem dX11_stretch_64 : decode cX11_stretch 64 = .ok (.iload_n 3, 1) := by decide +kernel
theorem dX11_stretch_65 : decode cX11_stretch 65 = .ok (.invokestatic 127, 3) := by decide +kernel
theorem dX11_stretch_68 : decode cX11_stretch 68 = .ok (.ireturn, 1) := by decide +kernel
theorem dX11_stretch_69 : decode cX11_stretch 69 = .ok (.iload_n 3, 1) := by decide +kernel
theorem dX11_stretch_70 : decode cX11_stretch 70 = .ok (.invokestatic 61, 3) := by decide +kernel
theorem dX11_stretch_73 : decode cX11_stretch 73 = .ok (.ireturn, 1) := by decide +kernel
theorem dX11_stretch_74 : decode cX11_stretch 74 = .ok (.iload_n 3, 1) := by decide +kernel
theorem dX11_stretch_75 : decode cX11_stretch 75 = .ok (.invokestatic 65, 3) := by decide +kernel
theorem dX11_stretch_78 : decode cX11_stretch 78 = .ok (.ireturn, 1) := by decide +kernel
theorem dX11_stretch_79 : decode cX11_stretch 79 = .ok (.aload_n 0, 1) := by decide +kernel
theorem dX11_stretch_80 : decode cX11_stretch 80 = .ok (.iconst 0, 1) := by decide +kernel
theorem dX11_stretch_81 : decode cX11_stretch 81 = .ok (.bipush (-9), 2) := by decide +kernel
theorem dX11_stretch_83 : decode cX11_stretch 83 = .ok (.iload_n 3, 1) := by decide +kernel
theorem dX11_stretch_84 : decode cX11_stretch 84 = .ok (.invokestatic 61, 3) := by decide +kernel
theorem dX11_stretch_87 : decode cX11_stretch 87 = .ok (.iload_n 3, 1) := by decide +kernel
theorem dX11_stretch_88 : decode cX11_stretch 88 = .ok (.invokestatic 65, 3) := by decide +kernel
theorem dX11_stretch_91 : decode cX11_stretch 91 = .ok (.invokevirtual 143, 3) := by decide +kernel
theorem dX11_stretch_94 : decode cX11_stretch 94 = .ok (.ireturn, 1) := by decide +kernel
theorem dX11_stretch_95 : decode cX11_stretch 95 = .ok (.aload_n 0, 1) := by decide +kernel
theorem dX11_stretch_96 : decode cX11_stretch 96 = .ok (.iconst 0, 1) := by decide +kernel
theorem dX11_stretch_97 : decode cX11_stretch 97 = .ok (.iload_n 1, 1) := by decide +kernel
theorem dX11_stretch_98 : decode cX11_stretch 98 = .ok (.invokevirtual 165, 3) := by decide +kernel
theorem dX11_stretch_101 : decode cX11_stretch 101 = .ok (.ireturn, 1) := by decide +kernel
theorem dX11_stretch_102 : decode cX11_stretch 102 = .ok (.aload_n 0, 1) := by decide +kernel
theorem dX11_stretch_103 : decode cX11_stretch 103 = .ok (.iload_n 1, 1) := by decide +kernel
theorem dX11_stretch_104 : decode cX11_stretch 104 = .ok (.invokevirtual 182, 3) := by decide +kernel
theorem dX11_stretch_107 : decode cX11_stretch 107 = .ok (.ireturn, 1) := by decide +kernel
theorem dX11_stretch_108 : decode cX11_stretch 108 = .ok (.bipush (-2), 2) := by decide +kernel
theorem dX11_stretch_110 : decode cX11_stretch 110 = .ok (.ireturn, 1) := by decide +kernel
theorem dX11_keepAct_0 : decode cX11_keepAct 0 = .ok (.iconst 0, 1) := by decide +kernel
theorem dX11_keepAct_1 : decode cX11_keepAct 1 = .ok (.istore_n 1, 1) := by decide +kernel
theorem dX11_keepAct_2 : decode cX11_keepAct 2 = .ok (.iload_n 1, 1) := by decide +kernel
theorem dX11_keepAct_3 : decode cX11_keepAct 3 = .ok (.bipush 53, 2) := by decide +kernel
theorem dX11_keepAct_5 : decode cX11_keepAct 5 = .ok (.if_icmp .ge 29, 3) := by decide +kernel
theorem dX11_keepAct_8 : decode cX11_keepAct 8 = .ok (.aload_n 0, 1) := by decide +kernel
theorem dX11_keepAct_9 : decode cX11_keepAct 9 = .ok (.getfield 25, 3) := by decide +kernel
theorem dX11_keepAct_12 : decode cX11_keepAct 12 = .ok (.bipush 53, 2) := by decide +kernel
theorem dX11_keepAct_14 : decode cX11_keepAct 14 = .ok (.aload_n 0, 1) := by decide +kernel
theorem dX11_keepAct_15 : decode cX11_keepAct 15 = .ok (.getfield 185, 3) := by decide +kernel
theorem dX11_keepAct_18 : decode cX11_keepAct 18 = .ok (.imul, 1) := by decide +kernel
theorem dX11_keepAct_19 : decode cX11_keepAct 19 = .ok (.iload_n 1, 1) := by decide +kernel
theorem dX11_keepAct_20 : decode cX11_keepAct 20 = .ok (.iadd, 1) := by decide +kernel
theorem dX11_keepAct_21 : decode cX11_keepAct 21 = .ok (.aload_n 0, 1) := by decide +kernel
theorem dX11_keepAct_22 : decode cX11_keepAct 22 = .ok (.getfield 13, 3) := by decide +kernel
theorem dX11_keepAct_25 : decode cX11_keepAct 25 = .ok (.iload_n 1, 1) := by decide +kernel
theorem dX11_keepAct_26 : decode cX11_keepAct 26 = .ok (.iaload, 1) := by decide +kernel
theorem dX11_keepAct_27 : decode cX11_keepAct 27 = .ok (.iastore, 1) := by decide +kernel
theorem dX11_keepAct_28 : decode cX11_keepAct 28 = .ok (.iinc 1 1, 3) := by decide +kernel
theorem dX11_keepAct_31 : decode cX11_keepAct 31 = .ok (.goto (-29), 3) := by decide +kernel
theorem dX11_keepAct_34 : decode cX11_keepAct 34 = .ok (.aload_n 0, 1) := by decide +kernel
theorem dX11_keepAct_35 : decode cX11_keepAct 35 = .ok (.aload_n 0, 1) := by decide +kernel
theorem dX11_keepAct_36 : decode cX11_keepAct 36 = .ok (.getfield 185, 3) := by decide +kernel
theorem dX11_keepAct_39 : decode cX11_keepAct 39 = .ok (.iconst 1, 1) := by decide +kernel
theorem dX11_keepAct_40 : decode cX11_keepAct 40 = .ok (.iadd, 1) := by decide +kernel
theorem dX11_keepAct_41 : decode cX11_keepAct 41 = .ok (.bipush 14, 2) := by decide +kernel
theorem dX11_keepAct_43 : decode cX11_keepAct 43 = .ok (.irem, 1) := by decide +kernel
theorem dX11_keepAct_44 : decode cX11_keepAct 44 = .ok (.putfield 185, 3) := by decide +kernel
theorem dX11_keepAct_47 : decode cX11_keepAct 47 = .ok (.aload_n 0, 1) := by decide +kernel
theorem dX11_keepAct_48 : decode cX11_keepAct 48 = .ok (.aload_n 0, 1) := by decide +kernel
theorem dX11_keepAct_49 : decode cX11_keepAct 49 = .ok (.getfield 118, 3) := by decide +kernel
theorem dX11_keepAct_52 : decode cX11_keepAct 52 = .ok (.bipush 14, 2) := by decide +kernel
theorem dX11_keepAct_54 : decode cX11_keepAct 54 = .ok (.if_icmp .ge 12, 3) := by decide +kernel
theorem dX11_keepAct_57 : decode cX11_keepAct 57 = .ok (.aload_n 0, 1) := by decide +kernel
theorem dX11_keepAct_58 : decode cX11_keepAct 58 = .ok (.getfield 118, 3) := by decide +kernel
theorem dX11_keepAct_61 : decode cX11_keepAct 61 = .ok (.iconst 1, 1) := by decide +kernel
theorem dX11_keepAct_62 : decode cX11_keepAct 62 = .ok (.iadd, 1) := by decide +kernel
theorem dX11_keepAct_63 : decode cX11_keepAct 63 = .ok (.goto 5, 3) := by decide +kernel
theorem dX11_keepAct_66 : decode cX11_keepAct 66 = .ok (.bipush 14, 2) := by decide +kernel
theorem dX11_keepAct_68 : decode cX11_keepAct 68 = .ok (.putfield 118, 3) := by decide +kernel
theorem dX11_keepAct_71 : decode cX11_keepAct 71 = .ok (.return_, 1) := by decide +kernel
theorem dX11_wind_0 : decode cX11_wind 0 = .ok (.aload_n 0, 1) := by decide +kernel
theorem dX11_wind_1 : decode cX11_wind 1 = .ok (.iload_n 1, 1) := by decide +kernel
theorem dX11_wind_2 : decode cX11_wind 2 = .ok (.invokevirtual 159, 3) := by decide +kernel
theorem dX11_wind_5 : decode cX11_wind 5 = .ok (.ifCond .eq 10, 3) := by decide +kernel
theorem dX11_wind_8 : decode cX11_wind 8 = .ok (.iload_n 2, 1) := by decide +kernel
theorem dX11_wind_9 : decode cX11_wind 9 = .ok (.invokestatic 133, 3) := by decide +kernel
theorem dX11_wind_12 : decode cX11_wind 12 = .ok (.ifCond .ne 5, 3) := by decide +kernel
theorem dX11_wind_15 : decode cX11_wind 15 = .ok (.iconst (-1), 1) := by decide +kernel
theorem dX11_wind_16 : decode cX11_wind 16 = .ok (.ireturn, 1) := by decide +kernel
theorem dX11_wind_17 : decode cX11_wind 17 = .ok (.aload_n 0, 1) := by decide +kernel
theorem dX11_wind_18 : decode cX11_wind 18 = .ok (.iconst 0, 1) := by decide +kernel
theorem dX11_wind_19 : decode cX11_wind 19 = .ok (.iload_n 1, 1) := by decide +kernel
theorem dX11_wind_20 : decode cX11_wind 20 = .ok (.iload_n 2, 1) := by decide +kernel
theorem dX11_wind_21 : decode cX11_wind 21 = .ok (.invokevirtual 105, 3) := by decide +kernel
theorem dX11_wind_24 : decode cX11_wind 24 = .ok (.ifCond .ne 6, 3) := by decide +kernel
theorem dX11_wind_27 : decode cX11_wind 27 = .ok (.bipush (-3), 2) := by decide +kernel
theorem dX11_wind_29 : decode cX11_wind 29 = .ok (.ireturn, 1) := by decide +kernel
theorem dX11_wind_30 : decode cX11_wind 30 = .ok (.aload_n 0, 1) := by decide +kernel
theorem dX11_wind_31 : decode cX11_wind 31 = .ok (.invokevirtual 188, 3) := by decide +kernel
theorem dX11_wind_34 : decode cX11_wind 34 = .ok (.aload_n 0, 1) := by decide +kernel
theorem dX11_wind_35 : decode cX11_wind 35 = .ok (.iconst 0, 1) := by decide +kernel
theorem dX11_wind_36 : decode cX11_wind 36 = .ok (.iload_n 1, 1) := by decide +kernel
theorem dX11_wind_37 : decode cX11_wind 37 = .ok (.iload_n 2, 1) := by decide +kernel
theorem dX11_wind_38 : decode cX11_wind 38 = .ok (.invokevirtual 108, 3) := by decide +kernel
theorem dX11_wind_41 : decode cX11_wind 41 = .ok (.ireturn, 1) := by decide +kernel
theorem dX11_unwind_0 : decode cX11_unwind 0 = .ok (.aload_n 0, 1) := by decide +kernel
theorem dX11_unwind_1 : decode cX11_unwind 1 = .ok (.iload_n 1, 1) := by decide +kernel
theorem dX11_unwind_2 : decode cX11_unwind 2 = .ok (.invokevirtual 159, 3) := by decide +kernel
theorem dX11_unwind_5 : decode cX11_unwind 5 = .ok (.ifCond .ne 5, 3) := by decide +kernel
theorem dX11_unwind_8 : decode cX11_unwind 8 = .ok (.iconst (-1), 1) := by decide +kernel
theorem dX11_unwind_9 : decode cX11_unwind 9 = .ok (.ireturn, 1) := by decide +kernel
theorem dX11_unwind_10 : decode cX11_unwind 10 = .ok (.aload_n 0, 1) := by decide +kernel
theorem dX11_unwind_11 : decode cX11_unwind 11 = .ok (.iconst 0, 1) := by decide +kernel
theorem dX11_unwind_12 : decode cX11_unwind 12 = .ok (.iload_n 1, 1) := by decide +kernel
theorem dX11_unwind_13 : decode cX11_unwind 13 = .ok (.invokevirtual 179, 3) := by decide +kernel
theorem dX11_unwind_16 : decode cX11_unwind 16 = .ok (.ifCond .ne 6, 3) := by decide +kernel
theorem dX11_unwind_19 : decode cX11_unwind 19 = .ok (.bipush (-3), 2) := by decide +kernel
theorem dX11_unwind_21 : decode cX11_unwind 21 = .ok (.ireturn, 1) := by decide +kernel
theorem dX11_unwind_22 : decode cX11_unwind 22 = .ok (.aload_n 0, 1) := by decide +kernel
theorem dX11_unwind_23 : decode cX11_unwind 23 = .ok (.invokevirtual 188, 3) := by decide +kernel
theorem dX11_unwind_26 : decode cX11_unwind 26 = .ok (.aload_n 0, 1) := by decide +kernel
theorem dX11_unwind_27 : decode cX11_unwind 27 = .ok (.iconst 0, 1) := by decide +kernel
theorem dX11_unwind_28 : decode cX11_unwind 28 = .ok (.iload_n 1, 1) := by decide +kernel
theorem dX11_unwind_29 : decode cX11_unwind 29 = .ok (.invokevirtual 191, 3) := by decide +kernel
theorem dX11_unwind_32 : decode cX11_unwind 32 = .ok (.aload_n 0, 1) := by decide +kernel
theorem dX11_unwind_33 : decode cX11_unwind 33 = .ok (.getfield 13, 3) := by decide +kernel
theorem dX11_unwind_36 : decode cX11_unwind 36 = .ok (.iload_n 1, 1) := by decide +kernel
theorem dX11_unwind_37 : decode cX11_unwind 37 = .ok (.iaload, 1) := by decide +kernel
theorem dX11_unwind_38 : decode cX11_unwind 38 = .ok (.ireturn, 1) := by decide +kernel
theorem dX11_cut_0 : decode cX11_cut 0 = .ok (.aload_n 0, 1) := by decide +kernel
theorem dX11_cut_1 : decode cX11_cut 1 = .ok (.iload_n 1, 1) := by decide +kernel
theorem dX11_cut_2 : decode cX11_cut 2 = .ok (.invokevirtual 159, 3) := by decide +kernel
theorem dX11_cut_5 : decode cX11_cut 5 = .ok (.ifCond .ne 5, 3) := by decide +kernel
theorem dX11_cut_8 : decode cX11_cut 8 = .ok (.iconst (-1), 1) := by decide +kernel
theorem dX11_cut_9 : decode cX11_cut 9 = .ok (.ireturn, 1) := by decide +kernel
theorem dX11_cut_10 : decode cX11_cut 10 = .ok (.aload_n 0, 1) := by decide +kernel
theorem dX11_cut_11 : decode cX11_cut 11 = .ok (.iconst 0, 1) := by decide +kernel
theorem dX11_cut_12 : decode cX11_cut 12 = .ok (.iload_n 1, 1) := by decide +kernel
theorem dX11_cut_13 : decode cX11_cut 13 = .ok (.invokevirtual 137, 3) := by decide +kernel
theorem dX11_cut_16 : decode cX11_cut 16 = .ok (.ifCond .ne 6, 3) := by decide +kernel
theorem dX11_cut_19 : decode cX11_cut 19 = .ok (.bipush (-3), 2) := by decide +kernel
theorem dX11_cut_21 : decode cX11_cut 21 = .ok (.ireturn, 1) := by decide +kernel
theorem dX11_cut_22 : decode cX11_cut 22 = .ok (.aload_n 0, 1) := by decide +kernel
theorem dX11_cut_23 : decode cX11_cut 23 = .ok (.invokevirtual 188, 3) := by decide +kernel
theorem dX11_cut_26 : decode cX11_cut 26 = .ok (.aload_n 0, 1) := by decide +kernel
theorem dX11_cut_27 : decode cX11_cut 27 = .ok (.iconst 0, 1) := by decide +kernel
theorem dX11_cut_28 : decode cX11_cut 28 = .ok (.iload_n 1, 1) := by decide +kernel
theorem dX11_cut_29 : decode cX11_cut 29 = .ok (.invokevirtual 194, 3) := by decide +kernel
theorem dX11_cut_32 : decode cX11_cut 32 = .ok (.ireturn, 1) := by decide +kernel
theorem dX11_turn_0 : decode cX11_turn 0 = .ok (.aload_n 0, 1) := by decide +kernel
theorem dX11_turn_1 : decode cX11_turn 1 = .ok (.invokevirtual 188, 3) := by decide +kernel
theorem dX11_turn_4 : decode cX11_turn 4 = .ok (.aload_n 0, 1) := by decide +kernel
theorem dX11_turn_5 : decode cX11_turn 5 = .ok (.iconst 0, 1) := by decide +kernel
theorem dX11_turn_6 : decode cX11_turn 6 = .ok (.iconst 0, 1) := by decide +kernel
theorem dX11_turn_7 : decode cX11_turn 7 = .ok (.invokevirtual 197, 3) := by decide +kernel
theorem dX11_turn_10 : decode cX11_turn 10 = .ok (.aload_n 0, 1) := by decide +kernel
theorem dX11_turn_11 : decode cX11_turn 11 = .ok (.iconst 0, 1) := by decide +kernel
theorem dX11_turn_12 : decode cX11_turn 12 = .ok (.invokevirtual 121, 3) := by decide +kernel
theorem dX11_turn_15 : decode cX11_turn 15 = .ok (.ireturn, 1) := by decide +kernel
theorem dX11_behind_0 : decode cX11_behind 0 = .ok (.aload_n 0, 1) := by decide +kernel
theorem dX11_behind_1 : decode cX11_behind 1 = .ok (.invokevirtual 188, 3) := by decide +kernel
theorem dX11_behind_4 : decode cX11_behind 4 = .ok (.aload_n 0, 1) := by decide +kernel
theorem dX11_behind_5 : decode cX11_behind 5 = .ok (.iconst 0, 1) := by decide +kernel
theorem dX11_behind_6 : decode cX11_behind 6 = .ok (.iconst 1, 1) := by decide +kernel
theorem dX11_behind_7 : decode cX11_behind 7 = .ok (.invokevirtual 197, 3) := by decide +kernel
theorem dX11_behind_10 : decode cX11_behind 10 = .ok (.aload_n 0, 1) := by decide +kernel
theorem dX11_behind_11 : decode cX11_behind 11 = .ok (.iconst 0, 1) := by decide +kernel
theorem dX11_behind_12 : decode cX11_behind 12 = .ok (.invokevirtual 121, 3) := by decide +kernel
theorem dX11_behind_15 : decode cX11_behind 15 = .ok (.ireturn, 1) := by decide +kernel
theorem dX11_undo_0 : decode cX11_undo 0 = .ok (.aload_n 0, 1) := by decide +kernel
theorem dX11_undo_1 : decode cX11_undo 1 = .ok (.getfield 118, 3) := by decide +kernel
theorem dX11_undo_4 : decode cX11_undo 4 = .ok (.ifCond .ne 6, 3) := by decide +kernel
theorem dX11_undo_7 : decode cX11_undo 7 = .ok (.bipush (-3), 2) := by decide +kernel
theorem dX11_undo_9 : decode cX11_undo 9 = .ok (.ireturn, 1) := by decide +kernel
theorem dX11_undo_10 : decode cX11_undo 10 = .ok (.aload_n 0, 1) := by decide +kernel
theorem dX11_undo_11 : decode cX11_undo 11 = .ok (.dup, 1) := by decide +kernel
theorem dX11_undo_12 : decode cX11_undo 12 = .ok (.getfield 118, 3) := by decide +kernel
theorem dX11_undo_15 : decode cX11_undo 15 = .ok (.iconst 1, 1) := by decide +kernel
theorem dX11_undo_16 : decode cX11_undo 16 = .ok (.isub, 1) := by decide +kernel
theorem dX11_undo_17 : decode cX11_undo 17 = .ok (.putfield 118, 3) := by decide +kernel
theorem dX11_undo_20 : decode cX11_undo 20 = .ok (.aload_n 0, 1) := by decide +kernel
theorem dX11_undo_21 : decode cX11_undo 21 = .ok (.aload_n 0, 1) := by decide +kernel
theorem dX11_undo_22 : decode cX11_undo 22 = .ok (.getfield 185, 3) := by decide +kernel
theorem dX11_undo_25 : decode cX11_undo 25 = .ok (.bipush 13, 2) := by decide +kernel
theorem dX11_undo_27 : decode cX11_undo 27 = .ok (.iadd, 1) := by decide +kernel
theorem dX11_undo_28 : decode cX11_undo 28 = .ok (.bipush 14, 2) := by decide +kernel
theorem dX11_undo_30 : decode cX11_undo 30 = .ok (.irem, 1) := by decide +kernel
theorem dX11_undo_31 : decode cX11_undo 31 = .ok (.putfield 185, 3) := by decide +kernel
theorem dX11_undo_34 : decode cX11_undo 34 = .ok (.iconst 0, 1) := by decide +kernel
theorem dX11_undo_35 : decode cX11_undo 35 = .ok (.istore_n 1, 1) := by decide +kernel
theorem dX11_undo_36 : decode cX11_undo 36 = .ok (.iload_n 1, 1) := by decide +kernel
theorem dX11_undo_37 : decode cX11_undo 37 = .ok (.bipush 53, 2) := by decide +kernel
theorem dX11_undo_39 : decode cX11_undo 39 = .ok (.if_icmp .ge 29, 3) := by decide +kernel
theorem dX11_undo_42 : decode cX11_undo 42 = .ok (.aload_n 0, 1) := by decide +kernel
theorem dX11_undo_43 : decode cX11_undo 43 = .ok (.getfield 13, 3) := by decide +kernel
theorem dX11_undo_46 : decode cX11_undo 46 = .ok (.iload_n 1, 1) := by decide +kernel
theorem dX11_undo_47 : decode cX11_undo 47 = .ok (.aload_n 0, 1) := by decide +kernel
theorem dX11_undo_48 : decode cX11_undo 48 = .ok (.getfield 25, 3) := by decide +kernel
theorem dX11_undo_51 : decode cX11_undo 51 = .ok (.bipush 53, 2) := by decide +kernel
theorem dX11_undo_53 : decode cX11_undo 53 = .ok (.aload_n 0, 1) := by decide +kernel
theorem dX11_undo_54 : decode cX11_undo 54 = .ok (.getfield 185, 3) := by decide +kernel
theorem dX11_undo_57 : decode cX11_undo 57 = .ok (.imul, 1) := by decide +kernel
theorem dX11_undo_58 : decode cX11_undo 58 = .ok (.iload_n 1, 1) := by decide +kernel
theorem dX11_undo_59 : decode cX11_undo 59 = .ok (.iadd, 1) := by decide +kernel
theorem dX11_undo_60 : decode cX11_undo 60 = .ok (.iaload, 1) := by decide +kernel
theorem dX11_undo_61 : decode cX11_undo 61 = .ok (.iastore, 1) := by decide +kernel
theorem dX11_undo_62 : decode cX11_undo 62 = .ok (.iinc 1 1, 3) := by decide +kernel
theorem dX11_undo_65 : decode cX11_undo 65 = .ok (.goto (-29), 3) := by decide +kernel
theorem dX11_undo_68 : decode cX11_undo 68 = .ok (.aload_n 0, 1) := by decide +kernel
theorem dX11_undo_69 : decode cX11_undo 69 = .ok (.getfield 118, 3) := by decide +kernel
theorem dX11_undo_72 : decode cX11_undo 72 = .ok (.ireturn, 1) := by decide +kernel
theorem dX11_layTrial_0 : decode cX11_layTrial 0 = .ok (.iconst 0, 1) := by decide +kernel
theorem dX11_layTrial_1 : decode cX11_layTrial 1 = .ok (.istore_n 1, 1) := by decide +kernel
theorem dX11_layTrial_2 : decode cX11_layTrial 2 = .ok (.iload_n 1, 1) := by decide +kernel
theorem dX11_layTrial_3 : decode cX11_layTrial 3 = .ok (.bipush 53, 2) := by decide +kernel
theorem dX11_layTrial_5 : decode cX11_layTrial 5 = .ok (.if_icmp .ge 24, 3) := by decide +kernel
theorem dX11_layTrial_8 : decode cX11_layTrial 8 = .ok (.aload_n 0, 1) := by decide +kernel
theorem dX11_layTrial_9 : decode cX11_layTrial 9 = .ok (.getfield 13, 3) := by decide +kernel
theorem dX11_layTrial_12 : decode cX11_layTrial 12 = .ok (.bipush 53, 2) := by decide +kernel
theorem dX11_layTrial_14 : decode cX11_layTrial 14 = .ok (.iload_n 1, 1) := by decide +kernel
theorem dX11_layTrial_15 : decode cX11_layTrial 15 = .ok (.iadd, 1) := by decide +kernel
theorem dX11_layTrial_16 : decode cX11_layTrial 16 = .ok (.aload_n 0, 1) := by decide +kernel
theorem dX11_layTrial_17 : decode cX11_layTrial 17 = .ok (.getfield 13, 3) := by decide +kernel
theorem dX11_layTrial_20 : decode cX11_layTrial 20 = .ok (.iload_n 1, 1) := by decide +kernel
theorem dX11_layTrial_21 : decode cX11_layTrial 21 = .ok (.iaload, 1) := by decide +kernel
theorem dX11_layTrial_22 : decode cX11_layTrial 22 = .ok (.iastore, 1) := by decide +kernel
theorem dX11_layTrial_23 : decode cX11_layTrial 23 = .ok (.iinc 1 1, 3) := by decide +kernel
theorem dX11_layTrial_26 : decode cX11_layTrial 26 = .ok (.goto (-24), 3) := by decide +kernel
theorem dX11_layTrial_29 : decode cX11_layTrial 29 = .ok (.return_, 1) := by decide +kernel
theorem dX11_crossesOf_0 : decode cX11_crossesOf 0 = .ok (.iconst 0, 1) := by decide +kernel
theorem dX11_crossesOf_1 : decode cX11_crossesOf 1 = .ok (.istore_n 3, 1) := by decide +kernel
theorem dX11_crossesOf_2 : decode cX11_crossesOf 2 = .ok (.iconst 0, 1) := by decide +kernel
theorem dX11_crossesOf_3 : decode cX11_crossesOf 3 = .ok (.istore 4, 2) := by decide +kernel
theorem dX11_crossesOf_5 : decode cX11_crossesOf 5 = .ok (.iload 4, 2) := by decide +kernel
theorem dX11_crossesOf_7 : decode cX11_crossesOf 7 = .ok (.aload_n 0, 1) := by decide +kernel
theorem dX11_crossesOf_8 : decode cX11_crossesOf 8 = .ok (.iload_n 1, 1) := by decide +kernel
theorem dX11_crossesOf_9 : decode cX11_crossesOf 9 = .ok (.invokevirtual 121, 3) := by decide +kernel
theorem dX11_crossesOf_12 : decode cX11_crossesOf 12 = .ok (.if_icmp .ge 105, 3) := by decide +kernel
theorem dX11_crossesOf_15 : decode cX11_crossesOf 15 = .ok (.iload 4, 2) := by decide +kernel
theorem dX11_crossesOf_17 : decode cX11_crossesOf 17 = .ok (.iconst 1, 1) := by decide +kernel
theorem dX11_crossesOf_18 : decode cX11_crossesOf 18 = .ok (.iadd, 1) := by decide +kernel
theorem dX11_crossesOf_19 : decode cX11_crossesOf 19 = .ok (.istore 5, 2) := by decide +kernel
theorem dX11_crossesOf_21 : decode cX11_crossesOf 21 = .ok (.iload 5, 2) := by decide +kernel
theorem dX11_crossesOf_23 : decode cX11_crossesOf 23 = .ok (.aload_n 0, 1) := by decide +kernel
theorem dX11_crossesOf_24 : decode cX11_crossesOf 24 = .ok (.iload_n 1, 1) := by decide +kernel
theorem dX11_crossesOf_25 : decode cX11_crossesOf 25 = .ok (.invokevirtual 121, 3) := by decide +kernel
theorem dX11_crossesOf_28 : decode cX11_crossesOf 28 = .ok (.if_icmp .ge 83, 3) := by decide +kernel
theorem dX11_crossesOf_31 : decode cX11_crossesOf 31 = .ok (.iload_n 2, 1) := by decide +kernel
theorem dX11_crossesOf_32 : decode cX11_crossesOf 32 = .ok (.aload_n 0, 1) := by decide +kernel
theorem dX11_crossesOf_33 : decode cX11_crossesOf 33 = .ok (.iload_n 1, 1) := by decide +kernel
theorem dX11_crossesOf_34 : decode cX11_crossesOf 34 = .ok (.iload 4, 2) := by decide +kernel
theorem dX11_crossesOf_36 : decode cX11_crossesOf 36 = .ok (.invokevirtual 124, 3) := by decide +kernel
theorem dX11_crossesOf_39 : decode cX11_crossesOf 39 = .ok (.invokestatic 127, 3) := by decide +kernel
theorem dX11_crossesOf_42 : decode cX11_crossesOf 42 = .ok (.invokestatic 201, 3) := by decide +kernel
theorem dX11_crossesOf_45 : decode cX11_crossesOf 45 = .ok (.ifCond .eq 24, 3) := by decide +kernel
theorem dX11_crossesOf_48 : decode cX11_crossesOf 48 = .ok (.iload_n 2, 1) := by decide +kernel
theorem dX11_crossesOf_49 : decode cX11_crossesOf 49 = .ok (.aload_n 0, 1) := by decide +kernel
theorem dX11_crossesOf_50 : decode cX11_crossesOf 50 = .ok (.iload_n 1, 1) := by decide +kernel
theorem dX11_crossesOf_51 : decode cX11_crossesOf 51 = .ok (.iload 5, 2) := by decide +kernel
theorem dX11_crossesOf_53 : decode cX11_crossesOf 53 = .ok (.invokevirtual 124, 3) := by decide +kernel
theorem dX11_crossesOf_56 : decode cX11_crossesOf 56 = .ok (.invokestatic 127, 3) := by decide +kernel
theorem dX11_crossesOf_59 : decode cX11_crossesOf 59 = .ok (.invokestatic 201, 3) := by decide +kernel
theorem dX11_crossesOf_62 : decode cX11_crossesOf 62 = .ok (.ifCond .eq 7, 3) := by decide +kernel
theorem dX11_crossesOf_65 : decode cX11_crossesOf 65 = .ok (.iconst 1, 1) := by decide +kernel
theorem dX11_crossesOf_66 : decode cX11_crossesOf 66 = .ok (.goto 4, 3) := by decide +kernel
theorem dX11_crossesOf_69 : decode cX11_crossesOf 69 = .ok (.iconst 0, 1) := by decide +kernel
theorem dX11_crossesOf_70 : decode cX11_crossesOf 70 = .ok (.istore 6, 2) := by decide +kernel
theorem dX11_crossesOf_72 : decode cX11_crossesOf 72 = .ok (.iload_n 3, 1) := by decide +kernel
theorem dX11_crossesOf_73 : decode cX11_crossesOf 73 = .ok (.iload 6, 2) := by decide +kernel
theorem dX11_crossesOf_75 : decode cX11_crossesOf 75 = .ok (.ifCond .eq 27, 3) := by decide +kernel
theorem dX11_crossesOf_78 : decode cX11_crossesOf 78 = .ok (.aload_n 0, 1) := by decide +kernel
theorem dX11_crossesOf_79 : decode cX11_crossesOf 79 = .ok (.iload_n 1, 1) := by decide +kernel
theorem dX11_crossesOf_80 : decode cX11_crossesOf 80 = .ok (.iload 4, 2) := by decide +kernel
theorem dX11_crossesOf_82 : decode cX11_crossesOf 82 = .ok (.invokevirtual 124, 3) := by decide +kernel
theorem dX11_crossesOf_85 : decode cX11_crossesOf 85 = .ok (.aload_n 0, 1) := by decide +kernel
theorem dX11_crossesOf_86 : decode cX11_crossesOf 86 = .ok (.iload_n 1, 1) := by decide +kernel
theorem dX11_crossesOf_87 : decode cX11_crossesOf 87 = .ok (.iload 5, 2) := by decide +kernel
theorem dX11_crossesOf_89 : decode cX11_crossesOf 89 = .ok (.invokevirtual 124, 3) := by decide +kernel
theorem dX11_crossesOf_92 : decode cX11_crossesOf 92 = .ok (.invokestatic 156, 3) := by decide +kernel
theorem dX11_crossesOf_95 : decode cX11_crossesOf 95 = .ok (.ifCond .eq 7, 3) := by decide +kernel
theorem dX11_crossesOf_98 : decode cX11_crossesOf 98 = .ok (.iconst 1, 1) := by decide +kernel
theorem dX11_crossesOf_99 : decode cX11_crossesOf 99 = .ok (.goto 4, 3) := by decide +kernel
theorem dX11_crossesOf_102 : decode cX11_crossesOf 102 = .ok (.iconst 0, 1) := by decide +kernel
theorem dX11_crossesOf_103 : decode cX11_crossesOf 103 = .ok (.iadd, 1) := by decide +kernel
theorem dX11_crossesOf_104 : decode cX11_crossesOf 104 = .ok (.istore_n 3, 1) := by decide +kernel
theorem dX11_crossesOf_105 : decode cX11_crossesOf 105 = .ok (.iinc 5 1, 3) := by decide +kernel
theorem dX11_crossesOf_108 : decode cX11_crossesOf 108 = .ok (.goto (-87), 3) := by decide +kernel
theorem dX11_crossesOf_111 : decode cX11_crossesOf 111 = .ok (.iinc 4 1, 3) := by decide +kernel
theorem dX11_crossesOf_114 : decode cX11_crossesOf 114 = .ok (.goto (-109), 3) := by decide +kernel
theorem dX11_crossesOf_117 : decode cX11_crossesOf 117 = .ok (.iload_n 3, 1) := by decide +kernel
theorem dX11_crossesOf_118 : decode cX11_crossesOf 118 = .ok (.ireturn, 1) := by decide +kernel
theorem dX11_crossesOfTwo_0 : decode cX11_crossesOfTwo 0 = .ok (.aload_n 0, 1) := by decide +kernel
theorem dX11_crossesOfTwo_1 : decode cX11_crossesOfTwo 1 = .ok (.iload_n 1, 1) := by decide +kernel
theorem dX11_crossesOfTwo_2 : decode cX11_crossesOfTwo 2 = .ok (.iconst 1, 1) := by decide +kernel
theorem dX11_crossesOfTwo_3 : decode cX11_crossesOfTwo 3 = .ok (.iload_n 2, 1) := by decide +kernel
theorem dX11_crossesOfTwo_4 : decode cX11_crossesOfTwo 4 = .ok (.ishl, 1) := by decide +kernel
theorem dX11_crossesOfTwo_5 : decode cX11_crossesOfTwo 5 = .ok (.iconst 1, 1) := by decide +kernel
theorem dX11_crossesOfTwo_6 : decode cX11_crossesOfTwo 6 = .ok (.iload_n 3, 1) := by decide +kernel
theorem dX11_crossesOfTwo_7 : decode cX11_crossesOfTwo 7 = .ok (.ishl, 1) := by decide +kernel
theorem dX11_crossesOfTwo_8 : decode cX11_crossesOfTwo 8 = .ok (.ior, 1) := by decide +kernel
theorem dX11_crossesOfTwo_9 : decode cX11_crossesOfTwo 9 = .ok (.invokevirtual 204, 3) := by decide +kernel
theorem dX11_crossesOfTwo_12 : decode cX11_crossesOfTwo 12 = .ok (.istore 4, 2) := by decide +kernel
theorem dX11_crossesOfTwo_14 : decode cX11_crossesOfTwo 14 = .ok (.iload_n 2, 1) := by decide +kernel
theorem dX11_crossesOfTwo_15 : decode cX11_crossesOfTwo 15 = .ok (.iload_n 3, 1) := by decide +kernel
theorem dX11_crossesOfTwo_16 : decode cX11_crossesOfTwo 16 = .ok (.if_icmp .ne 8, 3) := by decide +kernel
theorem dX11_crossesOfTwo_19 : decode cX11_crossesOfTwo 19 = .ok (.iload 4, 2) := by decide +kernel
theorem dX11_crossesOfTwo_21 : decode cX11_crossesOfTwo 21 = .ok (.goto 23, 3) := by decide +kernel
theorem dX11_crossesOfTwo_24 : decode cX11_crossesOfTwo 24 = .ok (.iload 4, 2) := by decide +kernel
theorem dX11_crossesOfTwo_26 : decode cX11_crossesOfTwo 26 = .ok (.aload_n 0, 1) := by decide +kernel
theorem dX11_crossesOfTwo_27 : decode cX11_crossesOfTwo 27 = .ok (.iload_n 1, 1) := by decide +kernel
theorem dX11_crossesOfTwo_28 : decode cX11_crossesOfTwo 28 = .ok (.iconst 1, 1) := by decide +kernel
theorem dX11_crossesOfTwo_29 : decode cX11_crossesOfTwo 29 = .ok (.iload_n 2, 1) := by decide +kernel
theorem dX11_crossesOfTwo_30 : decode cX11_crossesOfTwo 30 = .ok (.ishl, 1) := by decide +kernel
theorem dX11_crossesOfTwo_31 : decode cX11_crossesOfTwo 31 = .ok (.invokevirtual 204, 3) := by decide +kernel
theorem dX11_crossesOfTwo_34 : decode cX11_crossesOfTwo 34 = .ok (.isub, 1) := by decide +kernel
theorem dX11_crossesOfTwo_35 : decode cX11_crossesOfTwo 35 = .ok (.aload_n 0, 1) := by decide +kernel
theorem dX11_crossesOfTwo_36 : decode cX11_crossesOfTwo 36 = .ok (.iload_n 1, 1) := by decide +kernel
theorem dX11_crossesOfTwo_37 : decode cX11_crossesOfTwo 37 = .ok (.iconst 1, 1) := by decide +kernel
theorem dX11_crossesOfTwo_38 : decode cX11_crossesOfTwo 38 = .ok (.iload_n 3, 1) := by decide +kernel
theorem dX11_crossesOfTwo_39 : decode cX11_crossesOfTwo 39 = .ok (.ishl, 1) := by decide +kernel
theorem dX11_crossesOfTwo_40 : decode cX11_crossesOfTwo 40 = .ok (.invokevirtual 204, 3) := by decide +kernel
theorem dX11_crossesOfTwo_43 : decode cX11_crossesOfTwo 43 = .ok (.isub, 1) := by decide +kernel
theorem dX11_crossesOfTwo_44 : decode cX11_crossesOfTwo 44 = .ok (.ireturn, 1) := by decide +kernel
theorem dX11_crossings_0 : decode cX11_crossings 0 = .ok (.aload_n 0, 1) := by decide +kernel
theorem dX11_crossings_1 : decode cX11_crossings 1 = .ok (.iload_n 1, 1) := by decide +kernel
theorem dX11_crossings_2 : decode cX11_crossings 2 = .ok (.invokevirtual 159, 3) := by decide +kernel
theorem dX11_crossings_5 : decode cX11_crossings 5 = .ok (.ifCond .eq 21, 3) := by decide +kernel
theorem dX11_crossings_8 : decode cX11_crossings 8 = .ok (.aload_n 0, 1) := by decide +kernel
theorem dX11_crossings_9 : decode cX11_crossings 9 = .ok (.iload_n 2, 1) := by decide +kernel
theorem dX11_crossings_10 : decode cX11_crossings 10 = .ok (.invokevirtual 159, 3) := by decide +kernel
theorem dX11_crossings_13 : decode cX11_crossings 13 = .ok (.ifCond .eq 13, 3) := by decide +kernel
theorem dX11_crossings_16 : decode cX11_crossings 16 = .ok (.aload_n 0, 1) := by decide +kernel
theorem dX11_crossings_17 : decode cX11_crossings 17 = .ok (.iconst 0, 1) := by decide +kernel
theorem dX11_crossings_18 : decode cX11_crossings 18 = .ok (.iload_n 1, 1) := by decide +kernel
theorem dX11_crossings_19 : decode cX11_crossings 19 = .ok (.iload_n 2, 1) := by decide +kernel
theorem dX11_crossings_20 : decode cX11_crossings 20 = .ok (.invokevirtual 207, 3) := by decide +kernel
theorem dX11_crossings_23 : decode cX11_crossings 23 = .ok (.goto 4, 3) := by decide +kernel
theorem dX11_crossings_26 : decode cX11_crossings 26 = .ok (.iconst (-1), 1) := by decide +kernel
theorem dX11_crossings_27 : decode cX11_crossings 27 = .ok (.ireturn, 1) := by decide +kernel
theorem dX11_findLines_0 : decode cX11_findLines 0 = .ok (.iconst 0, 1) := by decide +kernel
theorem dX11_findLines_1 : decode cX11_findLines 1 = .ok (.istore_n 2, 1) := by decide +kernel
theorem dX11_findLines_2 : decode cX11_findLines 2 = .ok (.iload_n 2, 1) := by decide +kernel
theorem dX11_findLines_3 : decode cX11_findLines 3 = .ok (.sipush 144, 3) := by decide +kernel
theorem dX11_findLines_6 : decode cX11_findLines 6 = .ok (.if_icmp .ge 16, 3) := by decide +kernel
theorem dX11_findLines_9 : decode cX11_findLines 9 = .ok (.aload_n 0, 1) := by decide +kernel
theorem dX11_findLines_10 : decode cX11_findLines 10 = .ok (.getfield 28, 3) := by decide +kernel
theorem dX11_findLines_13 : decode cX11_findLines 13 = .ok (.iload_n 2, 1) := by decide +kernel
theorem dX11_findLines_14 : decode cX11_findLines 14 = .ok (.iconst 0, 1) := by decide +kernel
theorem dX11_findLines_15 : decode cX11_findLines 15 = .ok (.iastore, 1) := by decide +kernel
theorem dX11_findLines_16 : decode cX11_findLines 16 = .ok (.iinc 2 1, 3) := by decide +kernel
theorem dX11_findLines_19 : decode cX11_findLines 19 = .ok (.goto (-17), 3) := by decide +kernel
theorem dX11_findLines_22 : decode cX11_findLines 22 = .ok (.iconst 0, 1) := by decide +kernel
theorem dX11_findLines_23 : decode cX11_findLines 23 = .ok (.istore_n 2, 1) := by decide +kernel
theorem dX11_findLines_24 : decode cX11_findLines 24 = .ok (.iload_n 2, 1) := by decide +kernel
theorem dX11_findLines_25 : decode cX11_findLines 25 = .ok (.aload_n 0, 1) := by decide +kernel
theorem dX11_findLines_26 : decode cX11_findLines 26 = .ok (.iload_n 1, 1) := by decide +kernel
theorem dX11_findLines_27 : decode cX11_findLines 27 = .ok (.invokevirtual 121, 3) := by decide +kernel
theorem dX11_findLines_30 : decode cX11_findLines 30 = .ok (.if_icmp .ge 59, 3) := by decide +kernel
theorem dX11_findLines_33 : decode cX11_findLines 33 = .ok (.aload_n 0, 1) := by decide +kernel
theorem dX11_findLines_34 : decode cX11_findLines 34 = .ok (.iload_n 1, 1) := by decide +kernel
theorem dX11_findLines_35 : decode cX11_findLines 35 = .ok (.iload_n 2, 1) := by decide +kernel
theorem dX11_findLines_36 : decode cX11_findLines 36 = .ok (.invokevirtual 124, 3) := by decide +kernel
theorem dX11_findLines_39 : decode cX11_findLines 39 = .ok (.invokestatic 61, 3) := by decide +kernel
theorem dX11_findLines_42 : decode cX11_findLines 42 = .ok (.istore_n 3, 1) := by decide +kernel
theorem dX11_findLines_43 : decode cX11_findLines 43 = .ok (.aload_n 0, 1) := by decide +kernel
theorem dX11_findLines_44 : decode cX11_findLines 44 = .ok (.iload_n 1, 1) := by decide +kernel
theorem dX11_findLines_45 : decode cX11_findLines 45 = .ok (.iload_n 2, 1) := by decide +kernel
theorem dX11_findLines_46 : decode cX11_findLines 46 = .ok (.invokevirtual 124, 3) := by decide +kernel
theorem dX11_findLines_49 : decode cX11_findLines 49 = .ok (.invokestatic 65, 3) := by decide +kernel
theorem dX11_findLines_52 : decode cX11_findLines 52 = .ok (.istore 4, 2) := by decide +kernel
theorem dX11_findLines_54 : decode cX11_findLines 54 = .ok (.aload_n 0, 1) := by decide +kernel
theorem dX11_findLines_55 : decode cX11_findLines 55 = .ok (.getfield 28, 3) := by decide +kernel
theorem dX11_findLines_58 : decode cX11_findLines 58 = .ok (.iload_n 3, 1) := by decide +kernel
theorem dX11_findLines_59 : decode cX11_findLines 59 = .ok (.iload 4, 2) := by decide +kernel
theorem dX11_findLines_61 : decode cX11_findLines 61 = .ok (.if_icmp .ge 13, 3) := by decide +kernel
theorem dX11_findLines_64 : decode cX11_findLines 64 = .ok (.bipush 12, 2) := by decide +kernel
theorem dX11_findLines_66 : decode cX11_findLines 66 = .ok (.iload_n 3, 1) := by decide +kernel
theorem dX11_findLines_67 : decode cX11_findLines 67 = .ok (.imul, 1) := by decide +kernel
theorem dX11_findLines_68 : decode cX11_findLines 68 = .ok (.iload 4, 2) := by decide +kernel
theorem dX11_findLines_70 : decode cX11_findLines 70 = .ok (.iadd, 1) := by decide +kernel
theorem dX11_findLines_71 : decode cX11_findLines 71 = .ok (.goto 10, 3) := by decide +kernel
theorem dX11_findLines_74 : decode cX11_findLines 74 = .ok (.bipush 12, 2) := by decide +kernel
theorem dX11_findLines_76 : decode cX11_findLines 76 = .ok (.iload 4, 2) := by decide +kernel
theorem dX11_findLines_78 : decode cX11_findLines 78 = .ok (.imul, 1) := by decide +kernel
theorem dX11_findLines_79 : decode cX11_findLines 79 = .ok (.iload_n 3, 1) := by decide +kernel
theorem dX11_findLines_80 : decode cX11_findLines 80 = .ok (.iadd, 1) := by decide +kernel
theorem dX11_findLines_81 : decode cX11_findLines 81 = .ok (.iconst 1, 1) := by decide +kernel
theorem dX11_findLines_82 : decode cX11_findLines 82 = .ok (.iastore, 1) := by decide +kernel
theorem dX11_findLines_83 : decode cX11_findLines 83 = .ok (.iinc 2 1, 3) := by decide +kernel
theorem dX11_findLines_86 : decode cX11_findLines 86 = .ok (.goto (-62), 3) := by decide +kernel
theorem dX11_findLines_89 : decode cX11_findLines 89 = .ok (.return_, 1) := by decide +kernel
theorem dX11_partsOn_0 : decode cX11_partsOn 0 = .ok (.aload_n 0, 1) := by decide +kernel
theorem dX11_partsOn_1 : decode cX11_partsOn 1 = .ok (.iload_n 1, 1) := by decide +kernel
theorem dX11_partsOn_2 : decode cX11_partsOn 2 = .ok (.invokevirtual 210, 3) := by decide +kernel
theorem dX11_partsOn_5 : decode cX11_partsOn 5 = .ok (.iconst 1, 1) := by decide +kernel
theorem dX11_partsOn_6 : decode cX11_partsOn 6 = .ok (.istore_n 2, 1) := by decide +kernel
theorem dX11_partsOn_7 : decode cX11_partsOn 7 = .ok (.iconst 0, 1) := by decide +kernel
theorem dX11_partsOn_8 : decode cX11_partsOn 8 = .ok (.istore_n 3, 1) := by decide +kernel
theorem dX11_partsOn_9 : decode cX11_partsOn 9 = .ok (.iload_n 3, 1) := by decide +kernel
theorem dX11_partsOn_10 : decode cX11_partsOn 10 = .ok (.sipush 144, 3) := by decide +kernel
theorem dX11_partsOn_13 : decode cX11_partsOn 13 = .ok (.if_icmp .ge 87, 3) := by decide +kernel
theorem dX11_partsOn_16 : decode cX11_partsOn 16 = .ok (.iload_n 2, 1) := by decide +kernel
theorem dX11_partsOn_17 : decode cX11_partsOn 17 = .ok (.aload_n 0, 1) := by decide +kernel
theorem dX11_partsOn_18 : decode cX11_partsOn 18 = .ok (.getfield 28, 3) := by decide +kernel
theorem dX11_partsOn_21 : decode cX11_partsOn 21 = .ok (.iload_n 3, 1) := by decide +kernel
theorem dX11_partsOn_22 : decode cX11_partsOn 22 = .ok (.iaload, 1) := by decide +kernel
theorem dX11_partsOn_23 : decode cX11_partsOn 23 = .ok (.iadd, 1) := by decide +kernel
theorem dX11_partsOn_24 : decode cX11_partsOn 24 = .ok (.istore_n 2, 1) := by decide +kernel
theorem dX11_partsOn_25 : decode cX11_partsOn 25 = .ok (.iload_n 3, 1) := by decide +kernel
theorem dX11_partsOn_26 : decode cX11_partsOn 26 = .ok (.iconst 1, 1) := by decide +kernel
theorem dX11_partsOn_27 : decode cX11_partsOn 27 = .ok (.iadd, 1) := by decide +kernel
theorem dX11_partsOn_28 : decode cX11_partsOn 28 = .ok (.istore 4, 2) := by decide +kernel
theorem dX11_partsOn_30 : decode cX11_partsOn 30 = .ok (.iload 4, 2) := by decide +kernel
theorem dX11_partsOn_32 : decode cX11_partsOn 32 = .ok (.sipush 144, 3) := by decide +kernel
theorem dX11_partsOn_35 : decode cX11_partsOn 35 = .ok (.if_icmp .ge 59, 3) := by decide +kernel
theorem dX11_partsOn_38 : decode cX11_partsOn 38 = .ok (.iload_n 2, 1) := by decide +kernel
theorem dX11_partsOn_39 : decode cX11_partsOn 39 = .ok (.aload_n 0, 1) := by decide +kernel
theorem dX11_partsOn_40 : decode cX11_partsOn 40 = .ok (.getfield 28, 3) := by decide +kernel
theorem dX11_partsOn_43 : decode cX11_partsOn 43 = .ok (.iload_n 3, 1) := by decide +kernel
theorem dX11_partsOn_44 : decode cX11_partsOn 44 = .ok (.iaload, 1) := by decide +kernel
theorem dX11_partsOn_45 : decode cX11_partsOn 45 = .ok (.aload_n 0, 1) := by decide +kernel
theorem dX11_partsOn_46 : decode cX11_partsOn 46 = .ok (.getfield 28, 3) := by decide +kernel
theorem dX11_partsOn_49 : decode cX11_partsOn 49 = .ok (.iload 4, 2) := by decide +kernel
theorem dX11_partsOn_51 : decode cX11_partsOn 51 = .ok (.iaload, 1) := by decide +kernel
theorem dX11_partsOn_52 : decode cX11_partsOn 52 = .ok (.iadd, 1) := by decide +kernel
theorem dX11_partsOn_53 : decode cX11_partsOn 53 = .ok (.iconst 2, 1) := by decide +kernel
theorem dX11_partsOn_54 : decode cX11_partsOn 54 = .ok (.if_icmp .ne 31, 3) := by decide +kernel
theorem dX11_partsOn_57 : decode cX11_partsOn 57 = .ok (.iload_n 3, 1) := by decide +kernel
theorem dX11_partsOn_58 : decode cX11_partsOn 58 = .ok (.bipush 12, 2) := by decide +kernel
theorem dX11_partsOn_60 : decode cX11_partsOn 60 = .ok (.idiv, 1) := by decide +kernel
theorem dX11_partsOn_61 : decode cX11_partsOn 61 = .ok (.iload_n 3, 1) := by decide +kernel
theorem dX11_partsOn_62 : decode cX11_partsOn 62 = .ok (.bipush 12, 2) := by decide +kernel
theorem dX11_partsOn_64 : decode cX11_partsOn 64 = .ok (.irem, 1) := by decide +kernel
theorem dX11_partsOn_65 : decode cX11_partsOn 65 = .ok (.iload 4, 2) := by decide +kernel
theorem dX11_partsOn_67 : decode cX11_partsOn 67 = .ok (.bipush 12, 2) := by decide +kernel
theorem dX11_partsOn_69 : decode cX11_partsOn 69 = .ok (.idiv, 1) := by decide +kernel
theorem dX11_partsOn_70 : decode cX11_partsOn 70 = .ok (.iload 4, 2) := by decide +kernel
theorem dX11_partsOn_72 : decode cX11_partsOn 72 = .ok (.bipush 12, 2) := by decide +kernel
theorem dX11_partsOn_74 : decode cX11_partsOn 74 = .ok (.irem, 1) := by decide +kernel
theorem dX11_partsOn_75 : decode cX11_partsOn 75 = .ok (.invokestatic 68, 3) := by decide +kernel
theorem dX11_partsOn_78 : decode cX11_partsOn 78 = .ok (.ifCond .eq 7, 3) := by decide +kernel
theorem dX11_partsOn_81 : decode cX11_partsOn 81 = .ok (.iconst 1, 1) := by decide +kernel
theorem dX11_partsOn_82 : decode cX11_partsOn 82 = .ok (.goto 4, 3) := by decide +kernel
theorem dX11_partsOn_85 : decode cX11_partsOn 85 = .ok (.iconst 0, 1) := by decide +kernel
theorem dX11_partsOn_86 : decode cX11_partsOn 86 = .ok (.iadd, 1) := by decide +kernel
theorem dX11_partsOn_87 : decode cX11_partsOn 87 = .ok (.istore_n 2, 1) := by decide +kernel
theorem dX11_partsOn_88 : decode cX11_partsOn 88 = .ok (.iinc 4 1, 3) := by decide +kernel
theorem dX11_partsOn_91 : decode cX11_partsOn 91 = .ok (.goto (-61), 3) := by decide +kernel
theorem dX11_partsOn_94 : decode cX11_partsOn 94 = .ok (.iinc 3 1, 3) := by decide +kernel
theorem dX11_partsOn_97 : decode cX11_partsOn 97 = .ok (.goto (-88), 3) := by decide +kernel
theorem dX11_partsOn_100 : decode cX11_partsOn 100 = .ok (.iload_n 2, 1) := by decide +kernel
theorem dX11_partsOn_101 : decode cX11_partsOn 101 = .ok (.ireturn, 1) := by decide +kernel
theorem dX11_parts_0 : decode cX11_parts 0 = .ok (.aload_n 0, 1) := by decide +kernel
theorem dX11_parts_1 : decode cX11_parts 1 = .ok (.iconst 0, 1) := by decide +kernel
theorem dX11_parts_2 : decode cX11_parts 2 = .ok (.invokevirtual 213, 3) := by decide +kernel
theorem dX11_parts_5 : decode cX11_parts 5 = .ok (.ireturn, 1) := by decide +kernel
theorem dX11_partOf_0 : decode cX11_partOf 0 = .ok (.iconst 1, 1) := by decide +kernel
theorem dX11_partOf_1 : decode cX11_partOf 1 = .ok (.iload_n 1, 1) := by decide +kernel
theorem dX11_partOf_2 : decode cX11_partOf 2 = .ok (.ishl, 1) := by decide +kernel
theorem dX11_partOf_3 : decode cX11_partOf 3 = .ok (.istore_n 2, 1) := by decide +kernel
theorem dX11_partOf_4 : decode cX11_partOf 4 = .ok (.iconst 0, 1) := by decide +kernel
theorem dX11_partOf_5 : decode cX11_partOf 5 = .ok (.istore_n 3, 1) := by decide +kernel
theorem dX11_partOf_6 : decode cX11_partOf 6 = .ok (.iload_n 3, 1) := by decide +kernel
theorem dX11_partOf_7 : decode cX11_partOf 7 = .ok (.bipush 12, 2) := by decide +kernel
theorem dX11_partOf_9 : decode cX11_partOf 9 = .ok (.if_icmp .ge 95, 3) := by decide +kernel
theorem dX11_partOf_12 : decode cX11_partOf 12 = .ok (.iconst 0, 1) := by decide +kernel
theorem dX11_partOf_13 : decode cX11_partOf 13 = .ok (.istore 4, 2) := by decide +kernel
theorem dX11_partOf_15 : decode cX11_partOf 15 = .ok (.iload 4, 2) := by decide +kernel
theorem dX11_partOf_17 : decode cX11_partOf 17 = .ok (.sipush 144, 3) := by decide +kernel
theorem dX11_partOf_20 : decode cX11_partOf 20 = .ok (.if_icmp .ge 78, 3) := by decide +kernel
theorem dX11_partOf_23 : decode cX11_partOf 23 = .ok (.aload_n 0, 1) := by decide +kernel
theorem dX11_partOf_24 : decode cX11_partOf 24 = .ok (.getfield 28, 3) := by decide +kernel
theorem dX11_partOf_27 : decode cX11_partOf 27 = .ok (.iload 4, 2) := by decide +kernel
theorem dX11_partOf_29 : decode cX11_partOf 29 = .ok (.iaload, 1) := by decide +kernel
theorem dX11_partOf_30 : decode cX11_partOf 30 = .ok (.iconst 1, 1) := by decide +kernel
theorem dX11_partOf_31 : decode cX11_partOf 31 = .ok (.if_icmp .ne 31, 3) := by decide +kernel
theorem dX11_partOf_34 : decode cX11_partOf 34 = .ok (.iload_n 2, 1) := by decide +kernel
theorem dX11_partOf_35 : decode cX11_partOf 35 = .ok (.iload 4, 2) := by decide +kernel
theorem dX11_partOf_37 : decode cX11_partOf 37 = .ok (.bipush 12, 2) := by decide +kernel
theorem dX11_partOf_39 : decode cX11_partOf 39 = .ok (.idiv, 1) := by decide +kernel
theorem dX11_partOf_40 : decode cX11_partOf 40 = .ok (.invokestatic 201, 3) := by decide +kernel
theorem dX11_partOf_43 : decode cX11_partOf 43 = .ok (.ifCond .ne 15, 3) := by decide +kernel
theorem dX11_partOf_46 : decode cX11_partOf 46 = .ok (.iload_n 2, 1) := by decide +kernel
theorem dX11_partOf_47 : decode cX11_partOf 47 = .ok (.iload 4, 2) := by decide +kernel
theorem dX11_partOf_49 : decode cX11_partOf 49 = .ok (.bipush 12, 2) := by decide +kernel
theorem dX11_partOf_51 : decode cX11_partOf 51 = .ok (.irem, 1) := by decide +kernel
theorem dX11_partOf_52 : decode cX11_partOf 52 = .ok (.invokestatic 201, 3) := by decide +kernel
theorem dX11_partOf_55 : decode cX11_partOf 55 = .ok (.ifCond .eq 7, 3) := by decide +kernel
theorem dX11_partOf_58 : decode cX11_partOf 58 = .ok (.iconst 1, 1) := by decide +kernel
theorem dX11_partOf_59 : decode cX11_partOf 59 = .ok (.goto 4, 3) := by decide +kernel
theorem dX11_partOf_62 : decode cX11_partOf 62 = .ok (.iconst 0, 1) := by decide +kernel
theorem dX11_partOf_63 : decode cX11_partOf 63 = .ok (.istore 5, 2) := by decide +kernel
theorem dX11_partOf_65 : decode cX11_partOf 65 = .ok (.iload_n 2, 1) := by decide +kernel
theorem dX11_partOf_66 : decode cX11_partOf 66 = .ok (.iload 5, 2) := by decide +kernel
theorem dX11_partOf_68 : decode cX11_partOf 68 = .ok (.ifCond .eq 21, 3) := by decide +kernel
theorem dX11_partOf_71 : decode cX11_partOf 71 = .ok (.iconst 1, 1) := by decide +kernel
theorem dX11_partOf_72 : decode cX11_partOf 72 = .ok (.iload 4, 2) := by decide +kernel
theorem dX11_partOf_74 : decode cX11_partOf 74 = .ok (.bipush 12, 2) := by decide +kernel
theorem dX11_partOf_76 : decode cX11_partOf 76 = .ok (.idiv, 1) := by decide +kernel
theorem dX11_partOf_77 : decode cX11_partOf 77 = .ok (.ishl, 1) := by decide +kernel
theorem dX11_partOf_78 : decode cX11_partOf 78 = .ok (.iconst 1, 1) := by decide +kernel
theorem dX11_partOf_79 : decode cX11_partOf 79 = .ok (.iload 4, 2) := by decide +kernel
