theorem dX6_firstStar_25 : decode cX6_firstStar 25 = .ok (.bipush 100, 2) := by decide +kernel
theorem dX6_firstStar_27 : decode cX6_firstStar 27 = .ok (.iload_n 1, 1) := by decide +kernel
theorem dX6_firstStar_28 : decode cX6_firstStar 28 = .ok (.imul, 1) := by decide +kernel
theorem dX6_firstStar_29 : decode cX6_firstStar 29 = .ok (.iload_n 2, 1) := by decide +kernel
theorem dX6_firstStar_30 : decode cX6_firstStar 30 = .ok (.iadd, 1) := by decide +kernel
theorem dX6_firstStar_31 : decode cX6_firstStar 31 = .ok (.ireturn, 1) := by decide +kernel
theorem dX6_firstStar_32 : decode cX6_firstStar 32 = .ok (.iinc 2 1, 3) := by decide +kernel
theorem dX6_firstStar_35 : decode cX6_firstStar 35 = .ok (.goto (-25), 3) := by decide +kernel
theorem dX6_firstStar_38 : decode cX6_firstStar 38 = .ok (.iinc 1 1, 3) := by decide +kernel
theorem dX6_firstStar_41 : decode cX6_firstStar 41 = .ok (.goto (-39), 3) := by decide +kernel
theorem dX6_firstStar_44 : decode cX6_firstStar 44 = .ok (.bipush (-9), 2) := by decide +kernel
theorem dX6_firstStar_46 : decode cX6_firstStar 46 = .ok (.ireturn, 1) := by decide +kernel
theorem dX7_init_0 : decode cX7_init 0 = .ok (.aload_n 0, 1) := by decide +kernel
theorem dX7_init_1 : decode cX7_init 1 = .ok (.invokespecial 3, 3) := by decide +kernel
theorem dX7_init_4 : decode cX7_init 4 = .ok (.aload_n 0, 1) := by decide +kernel
theorem dX7_init_5 : decode cX7_init 5 = .ok (.iconst 2, 1) := by decide +kernel
theorem dX7_init_6 : decode cX7_init 6 = .ok (.anewarray 9, 3) := by decide +kernel
theorem dX7_init_9 : decode cX7_init 9 = .ok (.putfield 11, 3) := by decide +kernel
theorem dX7_init_12 : decode cX7_init 12 = .ok (.aload_n 0, 1) := by decide +kernel
theorem dX7_init_13 : decode cX7_init 13 = .ok (.iconst 2, 1) := by decide +kernel
theorem dX7_init_14 : decode cX7_init 14 = .ok (.newarray .boolean, 2) := by decide +kernel
theorem dX7_init_16 : decode cX7_init 16 = .ok (.putfield 17, 3) := by decide +kernel
theorem dX7_init_19 : decode cX7_init 19 = .ok (.iconst 0, 1) := by decide +kernel
theorem dX7_init_20 : decode cX7_init 20 = .ok (.istore_n 1, 1) := by decide +kernel
theorem dX7_init_21 : decode cX7_init 21 = .ok (.iload_n 1, 1) := by decide +kernel
theorem dX7_init_22 : decode cX7_init 22 = .ok (.iconst 2, 1) := by decide +kernel
theorem dX7_init_23 : decode cX7_init 23 = .ok (.if_icmp .ge 29, 3) := by decide +kernel
theorem dX7_init_26 : decode cX7_init 26 = .ok (.aload_n 0, 1) := by decide +kernel
theorem dX7_init_27 : decode cX7_init 27 = .ok (.getfield 11, 3) := by decide +kernel
theorem dX7_init_30 : decode cX7_init 30 = .ok (.iload_n 1, 1) := by decide +kernel
theorem dX7_init_31 : decode cX7_init 31 = .ok (.new 9, 3) := by decide +kernel
theorem dX7_init_34 : decode cX7_init 34 = .ok (.dup, 1) := by decide +kernel
theorem dX7_init_35 : decode cX7_init 35 = .ok (.invokespecial 21, 3) := by decide +kernel
theorem dX7_init_38 : decode cX7_init 38 = .ok (.aastore, 1) := by decide +kernel
theorem dX7_init_39 : decode cX7_init 39 = .ok (.aload_n 0, 1) := by decide +kernel
theorem dX7_init_40 : decode cX7_init 40 = .ok (.getfield 17, 3) := by decide +kernel
theorem dX7_init_43 : decode cX7_init 43 = .ok (.iload_n 1, 1) := by decide +kernel
theorem dX7_init_44 : decode cX7_init 44 = .ok (.iconst 0, 1) := by decide +kernel
theorem dX7_init_45 : decode cX7_init 45 = .ok (.bastore, 1) := by decide +kernel
theorem dX7_init_46 : decode cX7_init 46 = .ok (.iinc 1 1, 3) := by decide +kernel
theorem dX7_init_49 : decode cX7_init 49 = .ok (.goto (-28), 3) := by decide +kernel
theorem dX7_init_52 : decode cX7_init 52 = .ok (.return_, 1) := by decide +kernel
theorem dX7_clear_0 : decode cX7_clear 0 = .ok (.iconst 0, 1) := by decide +kernel
theorem dX7_clear_1 : decode cX7_clear 1 = .ok (.istore_n 1, 1) := by decide +kernel
theorem dX7_clear_2 : decode cX7_clear 2 = .ok (.iload_n 1, 1) := by decide +kernel
theorem dX7_clear_3 : decode cX7_clear 3 = .ok (.iconst 2, 1) := by decide +kernel
theorem dX7_clear_4 : decode cX7_clear 4 = .ok (.if_icmp .ge 16, 3) := by decide +kernel
theorem dX7_clear_7 : decode cX7_clear 7 = .ok (.aload_n 0, 1) := by decide +kernel
theorem dX7_clear_8 : decode cX7_clear 8 = .ok (.getfield 17, 3) := by decide +kernel
theorem dX7_clear_11 : decode cX7_clear 11 = .ok (.iload_n 1, 1) := by decide +kernel
theorem dX7_clear_12 : decode cX7_clear 12 = .ok (.iconst 0, 1) := by decide +kernel
theorem dX7_clear_13 : decode cX7_clear 13 = .ok (.bastore, 1) := by decide +kernel
theorem dX7_clear_14 : decode cX7_clear 14 = .ok (.iinc 1 1, 3) := by decide +kernel
theorem dX7_clear_17 : decode cX7_clear 17 = .ok (.goto (-15), 3) := by decide +kernel
theorem dX7_clear_20 : decode cX7_clear 20 = .ok (.return_, 1) := by decide +kernel
theorem dX7_put_0 : decode cX7_put 0 = .ok (.iload_n 1, 1) := by decide +kernel
theorem dX7_put_1 : decode cX7_put 1 = .ok (.iconst 0, 1) := by decide +kernel
theorem dX7_put_2 : decode cX7_put 2 = .ok (.iconst 1, 1) := by decide +kernel
theorem dX7_put_3 : decode cX7_put 3 = .ok (.invokestatic 22, 3) := by decide +kernel
theorem dX7_put_6 : decode cX7_put 6 = .ok (.ifCond .ne 20, 3) := by decide +kernel
theorem dX7_put_9 : decode cX7_put 9 = .ok (.aload_n 0, 1) := by decide +kernel
theorem dX7_put_10 : decode cX7_put 10 = .ok (.getfield 11, 3) := by decide +kernel
theorem dX7_put_13 : decode cX7_put 13 = .ok (.iload_n 1, 1) := by decide +kernel
theorem dX7_put_14 : decode cX7_put 14 = .ok (.aaload, 1) := by decide +kernel
theorem dX7_put_15 : decode cX7_put 15 = .ok (.aload_n 2, 1) := by decide +kernel
theorem dX7_put_16 : decode cX7_put 16 = .ok (.invokevirtual 26, 3) := by decide +kernel
theorem dX7_put_19 : decode cX7_put 19 = .ok (.aload_n 0, 1) := by decide +kernel
theorem dX7_put_20 : decode cX7_put 20 = .ok (.getfield 17, 3) := by decide +kernel
theorem dX7_put_23 : decode cX7_put 23 = .ok (.iload_n 1, 1) := by decide +kernel
theorem dX7_put_24 : decode cX7_put 24 = .ok (.iconst 1, 1) := by decide +kernel
theorem dX7_put_25 : decode cX7_put 25 = .ok (.bastore, 1) := by decide +kernel
theorem dX7_put_26 : decode cX7_put 26 = .ok (.return_, 1) := by decide +kernel
theorem dX7_giveBack_0 : decode cX7_giveBack 0 = .ok (.iload_n 1, 1) := by decide +kernel
theorem dX7_giveBack_1 : decode cX7_giveBack 1 = .ok (.iconst 0, 1) := by decide +kernel
theorem dX7_giveBack_2 : decode cX7_giveBack 2 = .ok (.iconst 1, 1) := by decide +kernel
theorem dX7_giveBack_3 : decode cX7_giveBack 3 = .ok (.invokestatic 22, 3) := by decide +kernel
theorem dX7_giveBack_6 : decode cX7_giveBack 6 = .ok (.ifCond .ne 12, 3) := by decide +kernel
theorem dX7_giveBack_9 : decode cX7_giveBack 9 = .ok (.aload_n 0, 1) := by decide +kernel
theorem dX7_giveBack_10 : decode cX7_giveBack 10 = .ok (.getfield 17, 3) := by decide +kernel
theorem dX7_giveBack_13 : decode cX7_giveBack 13 = .ok (.iload_n 1, 1) := by decide +kernel
theorem dX7_giveBack_14 : decode cX7_giveBack 14 = .ok (.baload, 1) := by decide +kernel
theorem dX7_giveBack_15 : decode cX7_giveBack 15 = .ok (.ifCond .ne 5, 3) := by decide +kernel
theorem dX7_giveBack_18 : decode cX7_giveBack 18 = .ok (.iconst 0, 1) := by decide +kernel
theorem dX7_giveBack_19 : decode cX7_giveBack 19 = .ok (.ireturn, 1) := by decide +kernel
theorem dX7_giveBack_20 : decode cX7_giveBack 20 = .ok (.aload_n 2, 1) := by decide +kernel
theorem dX7_giveBack_21 : decode cX7_giveBack 21 = .ok (.aload_n 0, 1) := by decide +kernel
theorem dX7_giveBack_22 : decode cX7_giveBack 22 = .ok (.getfield 11, 3) := by decide +kernel
theorem dX7_giveBack_25 : decode cX7_giveBack 25 = .ok (.iload_n 1, 1) := by decide +kernel
theorem dX7_giveBack_26 : decode cX7_giveBack 26 = .ok (.aaload, 1) := by decide +kernel
theorem dX7_giveBack_27 : decode cX7_giveBack 27 = .ok (.invokevirtual 26, 3) := by decide +kernel
theorem dX7_giveBack_30 : decode cX7_giveBack 30 = .ok (.iconst 1, 1) := by decide +kernel
theorem dX7_giveBack_31 : decode cX7_giveBack 31 = .ok (.ireturn, 1) := by decide +kernel
theorem dX8_init_0 : decode cX8_init 0 = .ok (.aload_n 0, 1) := by decide +kernel
theorem dX8_init_1 : decode cX8_init 1 = .ok (.invokespecial 3, 3) := by decide +kernel
theorem dX8_init_4 : decode cX8_init 4 = .ok (.aload_n 0, 1) := by decide +kernel
theorem dX8_init_5 : decode cX8_init 5 = .ok (.bipush 48, 2) := by decide +kernel
theorem dX8_init_7 : decode cX8_init 7 = .ok (.newarray .int, 2) := by decide +kernel
theorem dX8_init_9 : decode cX8_init 9 = .ok (.putfield 9, 3) := by decide +kernel
theorem dX8_init_12 : decode cX8_init 12 = .ok (.aload_n 0, 1) := by decide +kernel
theorem dX8_init_13 : decode cX8_init 13 = .ok (.iconst 0, 1) := by decide +kernel
theorem dX8_init_14 : decode cX8_init 14 = .ok (.putfield 15, 3) := by decide +kernel
theorem dX8_init_17 : decode cX8_init 17 = .ok (.aload_n 0, 1) := by decide +kernel
theorem dX8_init_18 : decode cX8_init 18 = .ok (.iconst 0, 1) := by decide +kernel
theorem dX8_init_19 : decode cX8_init 19 = .ok (.putfield 19, 3) := by decide +kernel
theorem dX8_init_22 : decode cX8_init 22 = .ok (.aload_n 0, 1) := by decide +kernel
theorem dX8_init_23 : decode cX8_init 23 = .ok (.iconst 0, 1) := by decide +kernel
theorem dX8_init_24 : decode cX8_init 24 = .ok (.putfield 22, 3) := by decide +kernel
theorem dX8_init_27 : decode cX8_init 27 = .ok (.return_, 1) := by decide +kernel
theorem dX8_length_0 : decode cX8_length 0 = .ok (.aload_n 0, 1) := by decide +kernel
theorem dX8_length_1 : decode cX8_length 1 = .ok (.getfield 15, 3) := by decide +kernel
theorem dX8_length_4 : decode cX8_length 4 = .ok (.ireturn, 1) := by decide +kernel
theorem dX8_clear_0 : decode cX8_clear 0 = .ok (.aload_n 0, 1) := by decide +kernel
theorem dX8_clear_1 : decode cX8_clear 1 = .ok (.iconst 0, 1) := by decide +kernel
theorem dX8_clear_2 : decode cX8_clear 2 = .ok (.putfield 15, 3) := by decide +kernel
theorem dX8_clear_5 : decode cX8_clear 5 = .ok (.return_, 1) := by decide +kernel
theorem dX8_add_0 : decode cX8_add 0 = .ok (.aload_n 0, 1) := by decide +kernel
theorem dX8_add_1 : decode cX8_add 1 = .ok (.getfield 15, 3) := by decide +kernel
theorem dX8_add_4 : decode cX8_add 4 = .ok (.bipush 48, 2) := by decide +kernel
theorem dX8_add_6 : decode cX8_add 6 = .ok (.if_icmp .lt 5, 3) := by decide +kernel
theorem dX8_add_9 : decode cX8_add 9 = .ok (.iconst 0, 1) := by decide +kernel
theorem dX8_add_10 : decode cX8_add 10 = .ok (.ireturn, 1) := by decide +kernel
theorem dX8_add_11 : decode cX8_add 11 = .ok (.aload_n 0, 1) := by decide +kernel
theorem dX8_add_12 : decode cX8_add 12 = .ok (.getfield 9, 3) := by decide +kernel
theorem dX8_add_15 : decode cX8_add 15 = .ok (.aload_n 0, 1) := by decide +kernel
theorem dX8_add_16 : decode cX8_add 16 = .ok (.getfield 15, 3) := by decide +kernel
theorem dX8_add_19 : decode cX8_add 19 = .ok (.iload_n 1, 1) := by decide +kernel
theorem dX8_add_20 : decode cX8_add 20 = .ok (.iastore, 1) := by decide +kernel
theorem dX8_add_21 : decode cX8_add 21 = .ok (.aload_n 0, 1) := by decide +kernel
theorem dX8_add_22 : decode cX8_add 22 = .ok (.dup, 1) := by decide +kernel
theorem dX8_add_23 : decode cX8_add 23 = .ok (.getfield 15, 3) := by decide +kernel
theorem dX8_add_26 : decode cX8_add 26 = .ok (.iconst 1, 1) := by decide +kernel
theorem dX8_add_27 : decode cX8_add 27 = .ok (.iadd, 1) := by decide +kernel
theorem dX8_add_28 : decode cX8_add 28 = .ok (.putfield 15, 3) := by decide +kernel
theorem dX8_add_31 : decode cX8_add 31 = .ok (.iconst 1, 1) := by decide +kernel
theorem dX8_add_32 : decode cX8_add 32 = .ok (.ireturn, 1) := by decide +kernel
theorem dX8_readOnto_0 : decode cX8_readOnto 0 = .ok (.aload_n 1, 1) := by decide +kernel
theorem dX8_readOnto_1 : decode cX8_readOnto 1 = .ok (.invokevirtual 25, 3) := by decide +kernel
theorem dX8_readOnto_4 : decode cX8_readOnto 4 = .ok (.aload_n 0, 1) := by decide +kernel
theorem dX8_readOnto_5 : decode cX8_readOnto 5 = .ok (.iconst 0, 1) := by decide +kernel
theorem dX8_readOnto_6 : decode cX8_readOnto 6 = .ok (.putfield 19, 3) := by decide +kernel
theorem dX8_readOnto_9 : decode cX8_readOnto 9 = .ok (.aload_n 0, 1) := by decide +kernel
theorem dX8_readOnto_10 : decode cX8_readOnto 10 = .ok (.iconst 0, 1) := by decide +kernel
theorem dX8_readOnto_11 : decode cX8_readOnto 11 = .ok (.putfield 22, 3) := by decide +kernel
theorem dX8_readOnto_14 : decode cX8_readOnto 14 = .ok (.iconst 0, 1) := by decide +kernel
theorem dX8_readOnto_15 : decode cX8_readOnto 15 = .ok (.istore_n 2, 1) := by decide +kernel
theorem dX8_readOnto_16 : decode cX8_readOnto 16 = .ok (.iload_n 2, 1) := by decide +kernel
theorem dX8_readOnto_17 : decode cX8_readOnto 17 = .ok (.aload_n 0, 1) := by decide +kernel
theorem dX8_readOnto_18 : decode cX8_readOnto 18 = .ok (.getfield 15, 3) := by decide +kernel
theorem dX8_readOnto_21 : decode cX8_readOnto 21 = .ok (.if_icmp .ge 25, 3) := by decide +kernel
theorem dX8_readOnto_24 : decode cX8_readOnto 24 = .ok (.aload_n 0, 1) := by decide +kernel
theorem dX8_readOnto_25 : decode cX8_readOnto 25 = .ok (.aload_n 0, 1) := by decide +kernel
theorem dX8_readOnto_26 : decode cX8_readOnto 26 = .ok (.getfield 9, 3) := by decide +kernel
theorem dX8_readOnto_29 : decode cX8_readOnto 29 = .ok (.iload_n 2, 1) := by decide +kernel
theorem dX8_readOnto_30 : decode cX8_readOnto 30 = .ok (.iaload, 1) := by decide +kernel
theorem dX8_readOnto_31 : decode cX8_readOnto 31 = .ok (.aload_n 1, 1) := by decide +kernel
theorem dX8_readOnto_32 : decode cX8_readOnto 32 = .ok (.invokevirtual 30, 3) := by decide +kernel
theorem dX8_readOnto_35 : decode cX8_readOnto 35 = .ok (.ifCond .ne 5, 3) := by decide +kernel
theorem dX8_readOnto_38 : decode cX8_readOnto 38 = .ok (.iload_n 2, 1) := by decide +kernel
theorem dX8_readOnto_39 : decode cX8_readOnto 39 = .ok (.ireturn, 1) := by decide +kernel
theorem dX8_readOnto_40 : decode cX8_readOnto 40 = .ok (.iinc 2 1, 3) := by decide +kernel
theorem dX8_readOnto_43 : decode cX8_readOnto 43 = .ok (.goto (-27), 3) := by decide +kernel
theorem dX8_readOnto_46 : decode cX8_readOnto 46 = .ok (.aload_n 0, 1) := by decide +kernel
theorem dX8_readOnto_47 : decode cX8_readOnto 47 = .ok (.getfield 19, 3) := by decide +kernel
theorem dX8_readOnto_50 : decode cX8_readOnto 50 = .ok (.iconst 1, 1) := by decide +kernel
theorem dX8_readOnto_51 : decode cX8_readOnto 51 = .ok (.if_icmp .eq 11, 3) := by decide +kernel
theorem dX8_readOnto_54 : decode cX8_readOnto 54 = .ok (.aload_n 0, 1) := by decide +kernel
theorem dX8_readOnto_55 : decode cX8_readOnto 55 = .ok (.getfield 19, 3) := by decide +kernel
theorem dX8_readOnto_58 : decode cX8_readOnto 58 = .ok (.iconst 4, 1) := by decide +kernel
theorem dX8_readOnto_59 : decode cX8_readOnto 59 = .ok (.if_icmp .ne 8, 3) := by decide +kernel
theorem dX8_readOnto_62 : decode cX8_readOnto 62 = .ok (.bipush (-9), 2) := by decide +kernel
theorem dX8_readOnto_64 : decode cX8_readOnto 64 = .ok (.goto 7, 3) := by decide +kernel
theorem dX8_readOnto_67 : decode cX8_readOnto 67 = .ok (.aload_n 0, 1) := by decide +kernel
theorem dX8_readOnto_68 : decode cX8_readOnto 68 = .ok (.getfield 15, 3) := by decide +kernel
theorem dX8_readOnto_71 : decode cX8_readOnto 71 = .ok (.ireturn, 1) := by decide +kernel
theorem dX8_goesOn_0 : decode cX8_goesOn 0 = .ok (.aload_n 0, 1) := by decide +kernel
theorem dX8_goesOn_1 : decode cX8_goesOn 1 = .ok (.getfield 19, 3) := by decide +kernel
theorem dX8_goesOn_4 : decode cX8_goesOn 4 = .ok (.tableswitch 120 0 3 #[32, 49, 56, 87], 32) := by decide +kernel
theorem dX8_goesOn_36 : decode cX8_goesOn 36 = .ok (.aload_n 0, 1) := by decide +kernel
theorem dX8_goesOn_37 : decode cX8_goesOn 37 = .ok (.iconst 1, 1) := by decide +kernel
theorem dX8_goesOn_38 : decode cX8_goesOn 38 = .ok (.putfield 19, 3) := by decide +kernel
theorem dX8_goesOn_41 : decode cX8_goesOn 41 = .ok (.iload_n 1, 1) := by decide +kernel
theorem dX8_goesOn_42 : decode cX8_goesOn 42 = .ok (.bipush 78, 2) := by decide +kernel
theorem dX8_goesOn_44 : decode cX8_goesOn 44 = .ok (.if_icmp .ne 7, 3) := by decide +kernel
theorem dX8_goesOn_47 : decode cX8_goesOn 47 = .ok (.iconst 1, 1) := by decide +kernel
theorem dX8_goesOn_48 : decode cX8_goesOn 48 = .ok (.goto 4, 3) := by decide +kernel
theorem dX8_goesOn_51 : decode cX8_goesOn 51 = .ok (.iconst 0, 1) := by decide +kernel
theorem dX8_goesOn_52 : decode cX8_goesOn 52 = .ok (.ireturn, 1) := by decide +kernel
theorem dX8_goesOn_53 : decode cX8_goesOn 53 = .ok (.aload_n 0, 1) := by decide +kernel
theorem dX8_goesOn_54 : decode cX8_goesOn 54 = .ok (.iload_n 1, 1) := by decide +kernel
theorem dX8_goesOn_55 : decode cX8_goesOn 55 = .ok (.aload_n 2, 1) := by decide +kernel
theorem dX8_goesOn_56 : decode cX8_goesOn 56 = .ok (.invokevirtual 34, 3) := by decide +kernel
theorem dX8_goesOn_59 : decode cX8_goesOn 59 = .ok (.ireturn, 1) := by decide +kernel
theorem dX8_goesOn_60 : decode cX8_goesOn 60 = .ok (.aload_n 0, 1) := by decide +kernel
theorem dX8_goesOn_61 : decode cX8_goesOn 61 = .ok (.iload_n 1, 1) := by decide +kernel
theorem dX8_goesOn_62 : decode cX8_goesOn 62 = .ok (.bipush 48, 2) := by decide +kernel
theorem dX8_goesOn_64 : decode cX8_goesOn 64 = .ok (.isub, 1) := by decide +kernel
theorem dX8_goesOn_65 : decode cX8_goesOn 65 = .ok (.putfield 22, 3) := by decide +kernel
theorem dX8_goesOn_68 : decode cX8_goesOn 68 = .ok (.aload_n 0, 1) := by decide +kernel
theorem dX8_goesOn_69 : decode cX8_goesOn 69 = .ok (.iconst 3, 1) := by decide +kernel
theorem dX8_goesOn_70 : decode cX8_goesOn 70 = .ok (.putfield 19, 3) := by decide +kernel
theorem dX8_goesOn_73 : decode cX8_goesOn 73 = .ok (.aload_n 0, 1) := by decide +kernel
theorem dX8_goesOn_74 : decode cX8_goesOn 74 = .ok (.getfield 22, 3) := by decide +kernel
theorem dX8_goesOn_77 : decode cX8_goesOn 77 = .ok (.iconst 0, 1) := by decide +kernel
theorem dX8_goesOn_78 : decode cX8_goesOn 78 = .ok (.iconst 3, 1) := by decide +kernel
theorem dX8_goesOn_79 : decode cX8_goesOn 79 = .ok (.invokestatic 37, 3) := by decide +kernel
theorem dX8_goesOn_82 : decode cX8_goesOn 82 = .ok (.ifCond .ne 7, 3) := by decide +kernel
theorem dX8_goesOn_85 : decode cX8_goesOn 85 = .ok (.iconst 1, 1) := by decide +kernel
theorem dX8_goesOn_86 : decode cX8_goesOn 86 = .ok (.goto 4, 3) := by decide +kernel
theorem dX8_goesOn_89 : decode cX8_goesOn 89 = .ok (.iconst 0, 1) := by decide +kernel
theorem dX8_goesOn_90 : decode cX8_goesOn 90 = .ok (.ireturn, 1) := by decide +kernel
theorem dX8_goesOn_91 : decode cX8_goesOn 91 = .ok (.aload_n 0, 1) := by decide +kernel
theorem dX8_goesOn_92 : decode cX8_goesOn 92 = .ok (.iconst 4, 1) := by decide +kernel
theorem dX8_goesOn_93 : decode cX8_goesOn 93 = .ok (.putfield 19, 3) := by decide +kernel
theorem dX8_goesOn_96 : decode cX8_goesOn 96 = .ok (.iload_n 1, 1) := by decide +kernel
theorem dX8_goesOn_97 : decode cX8_goesOn 97 = .ok (.invokestatic 41, 3) := by decide +kernel
theorem dX8_goesOn_100 : decode cX8_goesOn 100 = .ok (.ifCond .eq 22, 3) := by decide +kernel
theorem dX8_goesOn_103 : decode cX8_goesOn 103 = .ok (.aload_n 2, 1) := by decide +kernel
theorem dX8_goesOn_104 : decode cX8_goesOn 104 = .ok (.aload_n 0, 1) := by decide +kernel
theorem dX8_goesOn_105 : decode cX8_goesOn 105 = .ok (.getfield 22, 3) := by decide +kernel
theorem dX8_goesOn_108 : decode cX8_goesOn 108 = .ok (.iload_n 1, 1) := by decide +kernel
theorem dX8_goesOn_109 : decode cX8_goesOn 109 = .ok (.bipush 97, 2) := by decide +kernel
theorem dX8_goesOn_111 : decode cX8_goesOn 111 = .ok (.isub, 1) := by decide +kernel
theorem dX8_goesOn_112 : decode cX8_goesOn 112 = .ok (.invokevirtual 45, 3) := by decide +kernel
theorem dX8_goesOn_115 : decode cX8_goesOn 115 = .ok (.ifCond .eq 7, 3) := by decide +kernel
theorem dX8_goesOn_118 : decode cX8_goesOn 118 = .ok (.iconst 1, 1) := by decide +kernel
theorem dX8_goesOn_119 : decode cX8_goesOn 119 = .ok (.goto 4, 3) := by decide +kernel
theorem dX8_goesOn_122 : decode cX8_goesOn 122 = .ok (.iconst 0, 1) := by decide +kernel
theorem dX8_goesOn_123 : decode cX8_goesOn 123 = .ok (.ireturn, 1) := by decide +kernel
theorem dX8_goesOn_124 : decode cX8_goesOn 124 = .ok (.iload_n 1, 1) := by decide +kernel
theorem dX8_goesOn_125 : decode cX8_goesOn 125 = .ok (.invokestatic 41, 3) := by decide +kernel
theorem dX8_goesOn_128 : decode cX8_goesOn 128 = .ok (.ifCond .eq 15, 3) := by decide +kernel
theorem dX8_goesOn_131 : decode cX8_goesOn 131 = .ok (.aload_n 0, 1) := by decide +kernel
theorem dX8_goesOn_132 : decode cX8_goesOn 132 = .ok (.iload_n 1, 1) := by decide +kernel
theorem dX8_goesOn_133 : decode cX8_goesOn 133 = .ok (.bipush 97, 2) := by decide +kernel
theorem dX8_goesOn_135 : decode cX8_goesOn 135 = .ok (.isub, 1) := by decide +kernel
theorem dX8_goesOn_136 : decode cX8_goesOn 136 = .ok (.aload_n 2, 1) := by decide +kernel
theorem dX8_goesOn_137 : decode cX8_goesOn 137 = .ok (.invokevirtual 49, 3) := by decide +kernel
theorem dX8_goesOn_140 : decode cX8_goesOn 140 = .ok (.goto 9, 3) := by decide +kernel
theorem dX8_goesOn_143 : decode cX8_goesOn 143 = .ok (.aload_n 0, 1) := by decide +kernel
theorem dX8_goesOn_144 : decode cX8_goesOn 144 = .ok (.iload_n 1, 1) := by decide +kernel
theorem dX8_goesOn_145 : decode cX8_goesOn 145 = .ok (.aload_n 2, 1) := by decide +kernel
theorem dX8_goesOn_146 : decode cX8_goesOn 146 = .ok (.invokevirtual 34, 3) := by decide +kernel
theorem dX8_goesOn_149 : decode cX8_goesOn 149 = .ok (.ireturn, 1) := by decide +kernel
theorem dX8_beginsThread_0 : decode cX8_beginsThread 0 = .ok (.aload_n 0, 1) := by decide +kernel
theorem dX8_beginsThread_1 : decode cX8_beginsThread 1 = .ok (.iconst 2, 1) := by decide +kernel
theorem dX8_beginsThread_2 : decode cX8_beginsThread 2 = .ok (.putfield 19, 3) := by decide +kernel
theorem dX8_beginsThread_5 : decode cX8_beginsThread 5 = .ok (.iload_n 1, 1) := by decide +kernel
theorem dX8_beginsThread_6 : decode cX8_beginsThread 6 = .ok (.bipush 84, 2) := by decide +kernel
theorem dX8_beginsThread_8 : decode cX8_beginsThread 8 = .ok (.if_icmp .ne 15, 3) := by decide +kernel
theorem dX8_beginsThread_11 : decode cX8_beginsThread 11 = .ok (.aload_n 2, 1) := by decide +kernel
theorem dX8_beginsThread_12 : decode cX8_beginsThread 12 = .ok (.invokevirtual 52, 3) := by decide +kernel
theorem dX8_beginsThread_15 : decode cX8_beginsThread 15 = .ok (.iconst 4, 1) := by decide +kernel
theorem dX8_beginsThread_16 : decode cX8_beginsThread 16 = .ok (.if_icmp .ge 7, 3) := by decide +kernel
theorem dX8_beginsThread_19 : decode cX8_beginsThread 19 = .ok (.iconst 1, 1) := by decide +kernel
theorem dX8_beginsThread_20 : decode cX8_beginsThread 20 = .ok (.goto 4, 3) := by decide +kernel
theorem dX8_beginsThread_23 : decode cX8_beginsThread 23 = .ok (.iconst 0, 1) := by decide +kernel
theorem dX8_beginsThread_24 : decode cX8_beginsThread 24 = .ok (.ireturn, 1) := by decide +kernel
theorem dX8_windsOn_0 : decode cX8_windsOn 0 = .ok (.aload_n 2, 1) := by decide +kernel
theorem dX8_windsOn_1 : decode cX8_windsOn 1 = .ok (.invokevirtual 52, 3) := by decide +kernel
theorem dX8_windsOn_4 : decode cX8_windsOn 4 = .ok (.iconst 1, 1) := by decide +kernel
theorem dX8_windsOn_5 : decode cX8_windsOn 5 = .ok (.isub, 1) := by decide +kernel
theorem dX8_windsOn_6 : decode cX8_windsOn 6 = .ok (.istore_n 3, 1) := by decide +kernel
theorem dX8_windsOn_7 : decode cX8_windsOn 7 = .ok (.aload_n 2, 1) := by decide +kernel
theorem dX8_windsOn_8 : decode cX8_windsOn 8 = .ok (.iload_n 3, 1) := by decide +kernel
theorem dX8_windsOn_9 : decode cX8_windsOn 9 = .ok (.invokevirtual 56, 3) := by decide +kernel
theorem dX8_windsOn_12 : decode cX8_windsOn 12 = .ok (.iconst 1, 1) := by decide +kernel
theorem dX8_windsOn_13 : decode cX8_windsOn 13 = .ok (.iadd, 1) := by decide +kernel
theorem dX8_windsOn_14 : decode cX8_windsOn 14 = .ok (.bipush 9, 2) := by decide +kernel
theorem dX8_windsOn_16 : decode cX8_windsOn 16 = .ok (.if_icmp .ge 12, 3) := by decide +kernel
theorem dX8_windsOn_19 : decode cX8_windsOn 19 = .ok (.aload_n 2, 1) := by decide +kernel
theorem dX8_windsOn_20 : decode cX8_windsOn 20 = .ok (.iload_n 3, 1) := by decide +kernel
theorem dX8_windsOn_21 : decode cX8_windsOn 21 = .ok (.iload_n 1, 1) := by decide +kernel
theorem dX8_windsOn_22 : decode cX8_windsOn 22 = .ok (.invokevirtual 60, 3) := by decide +kernel
theorem dX8_windsOn_25 : decode cX8_windsOn 25 = .ok (.ifCond .ne 5, 3) := by decide +kernel
theorem dX8_windsOn_28 : decode cX8_windsOn 28 = .ok (.iconst 0, 1) := by decide +kernel
theorem dX8_windsOn_29 : decode cX8_windsOn 29 = .ok (.ireturn, 1) := by decide +kernel
theorem dX8_windsOn_30 : decode cX8_windsOn 30 = .ok (.aload_n 2, 1) := by decide +kernel
theorem dX8_windsOn_31 : decode cX8_windsOn 31 = .ok (.iload_n 3, 1) := by decide +kernel
theorem dX8_windsOn_32 : decode cX8_windsOn 32 = .ok (.iload_n 1, 1) := by decide +kernel
theorem dX8_windsOn_33 : decode cX8_windsOn 33 = .ok (.invokevirtual 63, 3) := by decide +kernel
theorem dX8_windsOn_36 : decode cX8_windsOn 36 = .ok (.pop, 1) := by decide +kernel
theorem dX8_windsOn_37 : decode cX8_windsOn 37 = .ok (.iconst 1, 1) := by decide +kernel
theorem dX8_windsOn_38 : decode cX8_windsOn 38 = .ok (.ireturn, 1) := by decide +kernel
theorem dX8_isNail_0 : decode cX8_isNail 0 = .ok (.iload_n 0, 1) := by decide +kernel
theorem dX8_isNail_1 : decode cX8_isNail 1 = .ok (.bipush 97, 2) := by decide +kernel
theorem dX8_isNail_3 : decode cX8_isNail 3 = .ok (.isub, 1) := by decide +kernel
theorem dX8_isNail_4 : decode cX8_isNail 4 = .ok (.iconst 0, 1) := by decide +kernel
theorem dX8_isNail_5 : decode cX8_isNail 5 = .ok (.bipush 11, 2) := by decide +kernel
theorem dX8_isNail_7 : decode cX8_isNail 7 = .ok (.invokestatic 37, 3) := by decide +kernel
theorem dX8_isNail_10 : decode cX8_isNail 10 = .ok (.ifCond .ne 7, 3) := by decide +kernel
theorem dX8_isNail_13 : decode cX8_isNail 13 = .ok (.iconst 1, 1) := by decide +kernel
theorem dX8_isNail_14 : decode cX8_isNail 14 = .ok (.goto 4, 3) := by decide +kernel
theorem dX8_isNail_17 : decode cX8_isNail 17 = .ok (.iconst 0, 1) := by decide +kernel
theorem dX8_isNail_18 : decode cX8_isNail 18 = .ok (.ireturn, 1) := by decide +kernel
theorem dX9_init_0 : decode cX9_init 0 = .ok (.aload_n 0, 1) := by decide +kernel
theorem dX9_init_1 : decode cX9_init 1 = .ok (.invokespecial 3, 3) := by decide +kernel
theorem dX9_init_4 : decode cX9_init 4 = .ok (.aload_n 0, 1) := by decide +kernel
theorem dX9_init_5 : decode cX9_init 5 = .ok (.bipush 12, 2) := by decide +kernel
theorem dX9_init_7 : decode cX9_init 7 = .ok (.newarray .int, 2) := by decide +kernel
theorem dX9_init_9 : decode cX9_init 9 = .ok (.putfield 9, 3) := by decide +kernel
theorem dX9_init_12 : decode cX9_init 12 = .ok (.return_, 1) := by decide +kernel
theorem dX9_draw_0 : decode cX9_draw 0 = .ok (.iconst 0, 1) := by decide +kernel
theorem dX9_draw_1 : decode cX9_draw 1 = .ok (.istore_n 2, 1) := by decide +kernel
theorem dX9_draw_2 : decode cX9_draw 2 = .ok (.iload_n 2, 1) := by decide +kernel
theorem dX9_draw_3 : decode cX9_draw 3 = .ok (.bipush 12, 2) := by decide +kernel
theorem dX9_draw_5 : decode cX9_draw 5 = .ok (.if_icmp .ge 16, 3) := by decide +kernel
theorem dX9_draw_8 : decode cX9_draw 8 = .ok (.aload_n 0, 1) := by decide +kernel
theorem dX9_draw_9 : decode cX9_draw 9 = .ok (.getfield 9, 3) := by decide +kernel
theorem dX9_draw_12 : decode cX9_draw 12 = .ok (.iload_n 2, 1) := by decide +kernel
theorem dX9_draw_13 : decode cX9_draw 13 = .ok (.iconst 0, 1) := by decide +kernel
theorem dX9_draw_14 : decode cX9_draw 14 = .ok (.iastore, 1) := by decide +kernel
theorem dX9_draw_15 : decode cX9_draw 15 = .ok (.iinc 2 1, 3) := by decide +kernel
theorem dX9_draw_18 : decode cX9_draw 18 = .ok (.goto (-16), 3) := by decide +kernel
theorem dX9_draw_21 : decode cX9_draw 21 = .ok (.iconst 0, 1) := by decide +kernel
theorem dX9_draw_22 : decode cX9_draw 22 = .ok (.istore_n 2, 1) := by decide +kernel
theorem dX9_draw_23 : decode cX9_draw 23 = .ok (.iload_n 2, 1) := by decide +kernel
theorem dX9_draw_24 : decode cX9_draw 24 = .ok (.aload_n 1, 1) := by decide +kernel
theorem dX9_draw_25 : decode cX9_draw 25 = .ok (.invokevirtual 15, 3) := by decide +kernel
theorem dX9_draw_28 : decode cX9_draw 28 = .ok (.if_icmp .ge 23, 3) := by decide +kernel
theorem dX9_draw_31 : decode cX9_draw 31 = .ok (.aload_n 0, 1) := by decide +kernel
theorem dX9_draw_32 : decode cX9_draw 32 = .ok (.aload_n 1, 1) := by decide +kernel
theorem dX9_draw_33 : decode cX9_draw 33 = .ok (.iload_n 2, 1) := by decide +kernel
theorem dX9_draw_34 : decode cX9_draw 34 = .ok (.invokevirtual 21, 3) := by decide +kernel
theorem dX9_draw_37 : decode cX9_draw 37 = .ok (.aload_n 1, 1) := by decide +kernel
theorem dX9_draw_38 : decode cX9_draw 38 = .ok (.iload_n 2, 1) := by decide +kernel
theorem dX9_draw_39 : decode cX9_draw 39 = .ok (.invokevirtual 25, 3) := by decide +kernel
theorem dX9_draw_42 : decode cX9_draw 42 = .ok (.invokevirtual 28, 3) := by decide +kernel
theorem dX9_draw_45 : decode cX9_draw 45 = .ok (.iinc 2 1, 3) := by decide +kernel
theorem dX9_draw_48 : decode cX9_draw 48 = .ok (.goto (-25), 3) := by decide +kernel
theorem dX9_draw_51 : decode cX9_draw 51 = .ok (.return_, 1) := by decide +kernel
theorem dX9_join_0 : decode cX9_join 0 = .ok (.iload_n 1, 1) := by decide +kernel
theorem dX9_join_1 : decode cX9_join 1 = .ok (.iconst 0, 1) := by decide +kernel
theorem dX9_join_2 : decode cX9_join 2 = .ok (.bipush 11, 2) := by decide +kernel
theorem dX9_join_4 : decode cX9_join 4 = .ok (.invokestatic 32, 3) := by decide +kernel
theorem dX9_join_7 : decode cX9_join 7 = .ok (.ifCond .ne 37, 3) := by decide +kernel
theorem dX9_join_10 : decode cX9_join 10 = .ok (.iload_n 2, 1) := by decide +kernel
theorem dX9_join_11 : decode cX9_join 11 = .ok (.iconst 0, 1) := by decide +kernel
theorem dX9_join_12 : decode cX9_join 12 = .ok (.bipush 11, 2) := by decide +kernel
theorem dX9_join_14 : decode cX9_join 14 = .ok (.invokestatic 32, 3) := by decide +kernel
theorem dX9_join_17 : decode cX9_join 17 = .ok (.ifCond .ne 27, 3) := by decide +kernel
theorem dX9_join_20 : decode cX9_join 20 = .ok (.aload_n 0, 1) := by decide +kernel
theorem dX9_join_21 : decode cX9_join 21 = .ok (.getfield 9, 3) := by decide +kernel
theorem dX9_join_24 : decode cX9_join 24 = .ok (.iload_n 1, 1) := by decide +kernel
theorem dX9_join_25 : decode cX9_join 25 = .ok (.dup2, 1) := by decide +kernel
theorem dX9_join_26 : decode cX9_join 26 = .ok (.iaload, 1) := by decide +kernel
theorem dX9_join_27 : decode cX9_join 27 = .ok (.iconst 1, 1) := by decide +kernel
theorem dX9_join_28 : decode cX9_join 28 = .ok (.iload_n 2, 1) := by decide +kernel
theorem dX9_join_29 : decode cX9_join 29 = .ok (.ishl, 1) := by decide +kernel
theorem dX9_join_30 : decode cX9_join 30 = .ok (.ior, 1) := by decide +kernel
theorem dX9_join_31 : decode cX9_join 31 = .ok (.iastore, 1) := by decide +kernel
theorem dX9_join_32 : decode cX9_join 32 = .ok (.aload_n 0, 1) := by decide +kernel
theorem dX9_join_33 : decode cX9_join 33 = .ok (.getfield 9, 3) := by decide +kernel
theorem dX9_join_36 : decode cX9_join 36 = .ok (.iload_n 2, 1) := by decide +kernel
theorem dX9_join_37 : decode cX9_join 37 = .ok (.dup2, 1) := by decide +kernel
theorem dX9_join_38 : decode cX9_join 38 = .ok (.iaload, 1) := by decide +kernel
theorem dX9_join_39 : decode cX9_join 39 = .ok (.iconst 1, 1) := by decide +kernel
theorem dX9_join_40 : decode cX9_join 40 = .ok (.iload_n 1, 1) := by decide +kernel
theorem dX9_join_41 : decode cX9_join 41 = .ok (.ishl, 1) := by decide +kernel
theorem dX9_join_42 : decode cX9_join 42 = .ok (.ior, 1) := by decide +kernel
theorem dX9_join_43 : decode cX9_join 43 = .ok (.iastore, 1) := by decide +kernel
theorem dX9_join_44 : decode cX9_join 44 = .ok (.return_, 1) := by decide +kernel
theorem dX9_areJoined_0 : decode cX9_areJoined 0 = .ok (.aload_n 0, 1) := by decide +kernel
theorem dX9_areJoined_1 : decode cX9_areJoined 1 = .ok (.getfield 9, 3) := by decide +kernel
theorem dX9_areJoined_4 : decode cX9_areJoined 4 = .ok (.iload_n 1, 1) := by decide +kernel
theorem dX9_areJoined_5 : decode cX9_areJoined 5 = .ok (.iaload, 1) := by decide +kernel
theorem dX9_areJoined_6 : decode cX9_areJoined 6 = .ok (.iload_n 2, 1) := by decide +kernel
theorem dX9_areJoined_7 : decode cX9_areJoined 7 = .ok (.ishr, 1) := by decide +kernel
theorem dX9_areJoined_8 : decode cX9_areJoined 8 = .ok (.iconst 1, 1) := by decide +kernel
theorem dX9_areJoined_9 : decode cX9_areJoined 9 = .ok (.iand, 1) := by decide +kernel
theorem dX9_areJoined_10 : decode cX9_areJoined 10 = .ok (.iconst 1, 1) := by decide +kernel
theorem dX9_areJoined_11 : decode cX9_areJoined 11 = .ok (.if_icmp .ne 7, 3) := by decide +kernel
theorem dX9_areJoined_14 : decode cX9_areJoined 14 = .ok (.iconst 1, 1) := by decide +kernel
theorem dX9_areJoined_15 : decode cX9_areJoined 15 = .ok (.goto 4, 3) := by decide +kernel
theorem dX9_areJoined_18 : decode cX9_areJoined 18 = .ok (.iconst 0, 1) := by decide +kernel
theorem dX9_areJoined_19 : decode cX9_areJoined 19 = .ok (.ireturn, 1) := by decide +kernel
theorem dX9_partsOf_0 : decode cX9_partsOf 0 = .ok (.aload_n 0, 1) := by decide +kernel
theorem dX9_partsOf_1 : decode cX9_partsOf 1 = .ok (.aload_n 1, 1) := by decide +kernel
theorem dX9_partsOf_2 : decode cX9_partsOf 2 = .ok (.invokevirtual 36, 3) := by decide +kernel
theorem dX9_partsOf_5 : decode cX9_partsOf 5 = .ok (.iconst 1, 1) := by decide +kernel
theorem dX9_partsOf_6 : decode cX9_partsOf 6 = .ok (.istore_n 2, 1) := by decide +kernel
theorem dX9_partsOf_7 : decode cX9_partsOf 7 = .ok (.iconst 0, 1) := by decide +kernel
theorem dX9_partsOf_8 : decode cX9_partsOf 8 = .ok (.istore_n 3, 1) := by decide +kernel
theorem dX9_partsOf_9 : decode cX9_partsOf 9 = .ok (.iload_n 3, 1) := by decide +kernel
theorem dX9_partsOf_10 : decode cX9_partsOf 10 = .ok (.bipush 12, 2) := by decide +kernel
theorem dX9_partsOf_12 : decode cX9_partsOf 12 = .ok (.if_icmp .ge 49, 3) := by decide +kernel
theorem dX9_partsOf_15 : decode cX9_partsOf 15 = .ok (.iload_n 3, 1) := by decide +kernel
theorem dX9_partsOf_16 : decode cX9_partsOf 16 = .ok (.iconst 1, 1) := by decide +kernel
theorem dX9_partsOf_17 : decode cX9_partsOf 17 = .ok (.iadd, 1) := by decide +kernel
theorem dX9_partsOf_18 : decode cX9_partsOf 18 = .ok (.istore 4, 2) := by decide +kernel
theorem dX9_partsOf_20 : decode cX9_partsOf 20 = .ok (.iload 4, 2) := by decide +kernel
theorem dX9_partsOf_22 : decode cX9_partsOf 22 = .ok (.bipush 12, 2) := by decide +kernel
theorem dX9_partsOf_24 : decode cX9_partsOf 24 = .ok (.if_icmp .ge 31, 3) := by decide +kernel
theorem dX9_partsOf_27 : decode cX9_partsOf 27 = .ok (.aload_n 0, 1) := by decide +kernel
theorem dX9_partsOf_28 : decode cX9_partsOf 28 = .ok (.iload_n 3, 1) := by decide +kernel
theorem dX9_partsOf_29 : decode cX9_partsOf 29 = .ok (.iload 4, 2) := by decide +kernel
theorem dX9_partsOf_31 : decode cX9_partsOf 31 = .ok (.invokevirtual 40, 3) := by decide +kernel
theorem dX9_partsOf_34 : decode cX9_partsOf 34 = .ok (.ifCond .eq 15, 3) := by decide +kernel
theorem dX9_partsOf_37 : decode cX9_partsOf 37 = .ok (.iload_n 2, 1) := by decide +kernel
theorem dX9_partsOf_38 : decode cX9_partsOf 38 = .ok (.iconst 1, 1) := by decide +kernel
theorem dX9_partsOf_39 : decode cX9_partsOf 39 = .ok (.aload_n 0, 1) := by decide +kernel
theorem dX9_partsOf_40 : decode cX9_partsOf 40 = .ok (.iload_n 3, 1) := by decide +kernel
theorem dX9_partsOf_41 : decode cX9_partsOf 41 = .ok (.iload 4, 2) := by decide +kernel
theorem dX9_partsOf_43 : decode cX9_partsOf 43 = .ok (.invokevirtual 44, 3) := by decide +kernel
theorem dX9_partsOf_46 : decode cX9_partsOf 46 = .ok (.iadd, 1) := by decide +kernel
theorem dX9_partsOf_47 : decode cX9_partsOf 47 = .ok (.iadd, 1) := by decide +kernel
theorem dX9_partsOf_48 : decode cX9_partsOf 48 = .ok (.istore_n 2, 1) := by decide +kernel
theorem dX9_partsOf_49 : decode cX9_partsOf 49 = .ok (.iinc 4 1, 3) := by decide +kernel
theorem dX9_partsOf_52 : decode cX9_partsOf 52 = .ok (.goto (-32), 3) := by decide +kernel
theorem dX9_partsOf_55 : decode cX9_partsOf 55 = .ok (.iinc 3 1, 3) := by decide +kernel
theorem dX9_partsOf_58 : decode cX9_partsOf 58 = .ok (.goto (-49), 3) := by decide +kernel
theorem dX9_partsOf_61 : decode cX9_partsOf 61 = .ok (.iload_n 2, 1) := by decide +kernel
theorem dX9_partsOf_62 : decode cX9_partsOf 62 = .ok (.ireturn, 1) := by decide +kernel
theorem dX9_crossedUpwards_0 : decode cX9_crossedUpwards 0 = .ok (.iconst 0, 1) := by decide +kernel
theorem dX9_crossedUpwards_1 : decode cX9_crossedUpwards 1 = .ok (.istore_n 3, 1) := by decide +kernel
theorem dX9_crossedUpwards_2 : decode cX9_crossedUpwards 2 = .ok (.iload_n 1, 1) := by decide +kernel
theorem dX9_crossedUpwards_3 : decode cX9_crossedUpwards 3 = .ok (.iconst 1, 1) := by decide +kernel
theorem dX9_crossedUpwards_4 : decode cX9_crossedUpwards 4 = .ok (.iadd, 1) := by decide +kernel
theorem dX9_crossedUpwards_5 : decode cX9_crossedUpwards 5 = .ok (.istore 4, 2) := by decide +kernel
theorem dX9_crossedUpwards_7 : decode cX9_crossedUpwards 7 = .ok (.iload 4, 2) := by decide +kernel
theorem dX9_crossedUpwards_9 : decode cX9_crossedUpwards 9 = .ok (.iload_n 2, 1) := by decide +kernel
theorem dX9_crossedUpwards_10 : decode cX9_crossedUpwards 10 = .ok (.if_icmp .ge 26, 3) := by decide +kernel
theorem dX9_crossedUpwards_13 : decode cX9_crossedUpwards 13 = .ok (.iload_n 3, 1) := by decide +kernel
theorem dX9_crossedUpwards_14 : decode cX9_crossedUpwards 14 = .ok (.aload_n 0, 1) := by decide +kernel
theorem dX9_crossedUpwards_15 : decode cX9_crossedUpwards 15 = .ok (.getfield 9, 3) := by decide +kernel
theorem dX9_crossedUpwards_18 : decode cX9_crossedUpwards 18 = .ok (.iload 4, 2) := by decide +kernel
theorem dX9_crossedUpwards_20 : decode cX9_crossedUpwards 20 = .ok (.iaload, 1) := by decide +kernel
theorem dX9_crossedUpwards_21 : decode cX9_crossedUpwards 21 = .ok (.iload_n 2, 1) := by decide +kernel
theorem dX9_crossedUpwards_22 : decode cX9_crossedUpwards 22 = .ok (.iconst 1, 1) := by decide +kernel
theorem dX9_crossedUpwards_23 : decode cX9_crossedUpwards 23 = .ok (.iadd, 1) := by decide +kernel
theorem dX9_crossedUpwards_24 : decode cX9_crossedUpwards 24 = .ok (.ishr, 1) := by decide +kernel
theorem dX9_crossedUpwards_25 : decode cX9_crossedUpwards 25 = .ok (.invokestatic 48, 3) := by decide +kernel
theorem dX9_crossedUpwards_28 : decode cX9_crossedUpwards 28 = .ok (.iadd, 1) := by decide +kernel
theorem dX9_crossedUpwards_29 : decode cX9_crossedUpwards 29 = .ok (.istore_n 3, 1) := by decide +kernel
theorem dX9_crossedUpwards_30 : decode cX9_crossedUpwards 30 = .ok (.iinc 4 1, 3) := by decide +kernel
theorem dX9_crossedUpwards_33 : decode cX9_crossedUpwards 33 = .ok (.goto (-26), 3) := by decide +kernel
theorem dX9_crossedUpwards_36 : decode cX9_crossedUpwards 36 = .ok (.iload_n 3, 1) := by decide +kernel
theorem dX9_crossedUpwards_37 : decode cX9_crossedUpwards 37 = .ok (.ireturn, 1) := by decide +kernel
theorem dX9_strokesOf_0 : decode cX9_strokesOf 0 = .ok (.aload_n 0, 1) := by decide +kernel
theorem dX9_strokesOf_1 : decode cX9_strokesOf 1 = .ok (.aload_n 1, 1) := by decide +kernel
theorem dX9_strokesOf_2 : decode cX9_strokesOf 2 = .ok (.invokevirtual 36, 3) := by decide +kernel
theorem dX9_strokesOf_5 : decode cX9_strokesOf 5 = .ok (.iconst 0, 1) := by decide +kernel
theorem dX9_strokesOf_6 : decode cX9_strokesOf 6 = .ok (.istore_n 2, 1) := by decide +kernel
theorem dX9_strokesOf_7 : decode cX9_strokesOf 7 = .ok (.iconst 0, 1) := by decide +kernel
theorem dX9_strokesOf_8 : decode cX9_strokesOf 8 = .ok (.istore_n 3, 1) := by decide +kernel
theorem dX9_strokesOf_9 : decode cX9_strokesOf 9 = .ok (.iconst 0, 1) := by decide +kernel
theorem dX9_strokesOf_10 : decode cX9_strokesOf 10 = .ok (.istore 4, 2) := by decide +kernel
theorem dX9_strokesOf_12 : decode cX9_strokesOf 12 = .ok (.iload 4, 2) := by decide +kernel
theorem dX9_strokesOf_14 : decode cX9_strokesOf 14 = .ok (.bipush 12, 2) := by decide +kernel
theorem dX9_strokesOf_16 : decode cX9_strokesOf 16 = .ok (.if_icmp .ge 56, 3) := by decide +kernel
theorem dX9_strokesOf_19 : decode cX9_strokesOf 19 = .ok (.aload_n 0, 1) := by decide +kernel
theorem dX9_strokesOf_20 : decode cX9_strokesOf 20 = .ok (.getfield 9, 3) := by decide +kernel
theorem dX9_strokesOf_23 : decode cX9_strokesOf 23 = .ok (.iload 4, 2) := by decide +kernel
theorem dX9_strokesOf_25 : decode cX9_strokesOf 25 = .ok (.iaload, 1) := by decide +kernel
theorem dX9_strokesOf_26 : decode cX9_strokesOf 26 = .ok (.ifCond .eq 40, 3) := by decide +kernel
theorem dX9_strokesOf_29 : decode cX9_strokesOf 29 = .ok (.iload_n 3, 1) := by decide +kernel
theorem dX9_strokesOf_30 : decode cX9_strokesOf 30 = .ok (.iload 4, 2) := by decide +kernel
theorem dX9_strokesOf_32 : decode cX9_strokesOf 32 = .ok (.ishr, 1) := by decide +kernel
theorem dX9_strokesOf_33 : decode cX9_strokesOf 33 = .ok (.iconst 1, 1) := by decide +kernel
theorem dX9_strokesOf_34 : decode cX9_strokesOf 34 = .ok (.iand, 1) := by decide +kernel
theorem dX9_strokesOf_35 : decode cX9_strokesOf 35 = .ok (.ifCond .ne 31, 3) := by decide +kernel
theorem dX9_strokesOf_38 : decode cX9_strokesOf 38 = .ok (.aload_n 0, 1) := by decide +kernel
theorem dX9_strokesOf_39 : decode cX9_strokesOf 39 = .ok (.iload 4, 2) := by decide +kernel
theorem dX9_strokesOf_41 : decode cX9_strokesOf 41 = .ok (.invokevirtual 53, 3) := by decide +kernel
theorem dX9_strokesOf_44 : decode cX9_strokesOf 44 = .ok (.istore 5, 2) := by decide +kernel
theorem dX9_strokesOf_46 : decode cX9_strokesOf 46 = .ok (.iload_n 2, 1) := by decide +kernel
theorem dX9_strokesOf_47 : decode cX9_strokesOf 47 = .ok (.iconst 1, 1) := by decide +kernel
theorem dX9_strokesOf_48 : decode cX9_strokesOf 48 = .ok (.aload_n 0, 1) := by decide +kernel
theorem dX9_strokesOf_49 : decode cX9_strokesOf 49 = .ok (.iload 5, 2) := by decide +kernel
theorem dX9_strokesOf_51 : decode cX9_strokesOf 51 = .ok (.invokevirtual 56, 3) := by decide +kernel
theorem dX9_strokesOf_54 : decode cX9_strokesOf 54 = .ok (.iconst 2, 1) := by decide +kernel
theorem dX9_strokesOf_55 : decode cX9_strokesOf 55 = .ok (.idiv, 1) := by decide +kernel
theorem dX9_strokesOf_56 : decode cX9_strokesOf 56 = .ok (.invokestatic 59, 3) := by decide +kernel
theorem dX9_strokesOf_59 : decode cX9_strokesOf 59 = .ok (.iadd, 1) := by decide +kernel
theorem dX9_strokesOf_60 : decode cX9_strokesOf 60 = .ok (.istore_n 2, 1) := by decide +kernel
theorem dX9_strokesOf_61 : decode cX9_strokesOf 61 = .ok (.iload_n 3, 1) := by decide +kernel
theorem dX9_strokesOf_62 : decode cX9_strokesOf 62 = .ok (.iload 5, 2) := by decide +kernel
theorem dX9_strokesOf_64 : decode cX9_strokesOf 64 = .ok (.ior, 1) := by decide +kernel
theorem dX9_strokesOf_65 : decode cX9_strokesOf 65 = .ok (.istore_n 3, 1) := by decide +kernel
theorem dX9_strokesOf_66 : decode cX9_strokesOf 66 = .ok (.iinc 4 1, 3) := by decide +kernel
theorem dX9_strokesOf_69 : decode cX9_strokesOf 69 = .ok (.goto (-57), 3) := by decide +kernel
theorem dX9_strokesOf_72 : decode cX9_strokesOf 72 = .ok (.iload_n 2, 1) := by decide +kernel
theorem dX9_strokesOf_73 : decode cX9_strokesOf 73 = .ok (.ireturn, 1) := by decide +kernel
theorem dX9_groupOf_0 : decode cX9_groupOf 0 = .ok (.iconst 1, 1) := by decide +kernel
theorem dX9_groupOf_1 : decode cX9_groupOf 1 = .ok (.iload_n 1, 1) := by decide +kernel
theorem dX9_groupOf_2 : decode cX9_groupOf 2 = .ok (.ishl, 1) := by decide +kernel
theorem dX9_groupOf_3 : decode cX9_groupOf 3 = .ok (.istore_n 2, 1) := by decide +kernel
theorem dX9_groupOf_4 : decode cX9_groupOf 4 = .ok (.iconst 0, 1) := by decide +kernel
theorem dX9_groupOf_5 : decode cX9_groupOf 5 = .ok (.istore_n 3, 1) := by decide +kernel
theorem dX9_groupOf_6 : decode cX9_groupOf 6 = .ok (.iload_n 3, 1) := by decide +kernel
theorem dX9_groupOf_7 : decode cX9_groupOf 7 = .ok (.bipush 12, 2) := by decide +kernel
theorem dX9_groupOf_9 : decode cX9_groupOf 9 = .ok (.if_icmp .ge 45, 3) := by decide +kernel
theorem dX9_groupOf_12 : decode cX9_groupOf 12 = .ok (.iconst 0, 1) := by decide +kernel
theorem dX9_groupOf_13 : decode cX9_groupOf 13 = .ok (.istore 4, 2) := by decide +kernel
theorem dX9_groupOf_15 : decode cX9_groupOf 15 = .ok (.iload 4, 2) := by decide +kernel
theorem dX9_groupOf_17 : decode cX9_groupOf 17 = .ok (.bipush 12, 2) := by decide +kernel
theorem dX9_groupOf_19 : decode cX9_groupOf 19 = .ok (.if_icmp .ge 29, 3) := by decide +kernel
theorem dX9_groupOf_22 : decode cX9_groupOf 22 = .ok (.iload_n 2, 1) := by decide +kernel
theorem dX9_groupOf_23 : decode cX9_groupOf 23 = .ok (.iload 4, 2) := by decide +kernel
theorem dX9_groupOf_25 : decode cX9_groupOf 25 = .ok (.ishr, 1) := by decide +kernel
theorem dX9_groupOf_26 : decode cX9_groupOf 26 = .ok (.iconst 1, 1) := by decide +kernel
theorem dX9_groupOf_27 : decode cX9_groupOf 27 = .ok (.iand, 1) := by decide +kernel
theorem dX9_groupOf_28 : decode cX9_groupOf 28 = .ok (.iconst 1, 1) := by decide +kernel
theorem dX9_groupOf_29 : decode cX9_groupOf 29 = .ok (.if_icmp .ne 13, 3) := by decide +kernel
theorem dX9_groupOf_32 : decode cX9_groupOf 32 = .ok (.iload_n 2, 1) := by decide +kernel
theorem dX9_groupOf_33 : decode cX9_groupOf 33 = .ok (.aload_n 0, 1) := by decide +kernel
theorem dX9_groupOf_34 : decode cX9_groupOf 34 = .ok (.getfield 9, 3) := by decide +kernel
theorem dX9_groupOf_37 : decode cX9_groupOf 37 = .ok (.iload 4, 2) := by decide +kernel
theorem dX9_groupOf_39 : decode cX9_groupOf 39 = .ok (.iaload, 1) := by decide +kernel
theorem dX9_groupOf_40 : decode cX9_groupOf 40 = .ok (.ior, 1) := by decide +kernel
theorem dX9_groupOf_41 : decode cX9_groupOf 41 = .ok (.istore_n 2, 1) := by decide +kernel
theorem dX9_groupOf_42 : decode cX9_groupOf 42 = .ok (.iinc 4 1, 3) := by decide +kernel
theorem dX9_groupOf_45 : decode cX9_groupOf 45 = .ok (.goto (-30), 3) := by decide +kernel
theorem dX9_groupOf_48 : decode cX9_groupOf 48 = .ok (.iinc 3 1, 3) := by decide +kernel
theorem dX9_groupOf_51 : decode cX9_groupOf 51 = .ok (.goto (-45), 3) := by decide +kernel
theorem dX9_groupOf_54 : decode cX9_groupOf 54 = .ok (.iload_n 2, 1) := by decide +kernel
theorem dX9_groupOf_55 : decode cX9_groupOf 55 = .ok (.ireturn, 1) := by decide +kernel
theorem dX9_oddNails_0 : decode cX9_oddNails 0 = .ok (.iconst 0, 1) := by decide +kernel
theorem dX9_oddNails_1 : decode cX9_oddNails 1 = .ok (.istore_n 2, 1) := by decide +kernel
theorem dX9_oddNails_2 : decode cX9_oddNails 2 = .ok (.iconst 0, 1) := by decide +kernel
theorem dX9_oddNails_3 : decode cX9_oddNails 3 = .ok (.istore_n 3, 1) := by decide +kernel
theorem dX9_oddNails_4 : decode cX9_oddNails 4 = .ok (.iload_n 3, 1) := by decide +kernel
theorem dX9_oddNails_5 : decode cX9_oddNails 5 = .ok (.bipush 12, 2) := by decide +kernel
theorem dX9_oddNails_7 : decode cX9_oddNails 7 = .ok (.if_icmp .ge 32, 3) := by decide +kernel
theorem dX9_oddNails_10 : decode cX9_oddNails 10 = .ok (.iload_n 1, 1) := by decide +kernel
theorem dX9_oddNails_11 : decode cX9_oddNails 11 = .ok (.iload_n 3, 1) := by decide +kernel
theorem dX9_oddNails_12 : decode cX9_oddNails 12 = .ok (.ishr, 1) := by decide +kernel
theorem dX9_oddNails_13 : decode cX9_oddNails 13 = .ok (.iconst 1, 1) := by decide +kernel
theorem dX9_oddNails_14 : decode cX9_oddNails 14 = .ok (.iand, 1) := by decide +kernel
theorem dX9_oddNails_15 : decode cX9_oddNails 15 = .ok (.iconst 1, 1) := by decide +kernel
theorem dX9_oddNails_16 : decode cX9_oddNails 16 = .ok (.if_icmp .ne 17, 3) := by decide +kernel
theorem dX9_oddNails_19 : decode cX9_oddNails 19 = .ok (.iload_n 2, 1) := by decide +kernel
theorem dX9_oddNails_20 : decode cX9_oddNails 20 = .ok (.aload_n 0, 1) := by decide +kernel
theorem dX9_oddNails_21 : decode cX9_oddNails 21 = .ok (.getfield 9, 3) := by decide +kernel
theorem dX9_oddNails_24 : decode cX9_oddNails 24 = .ok (.iload_n 3, 1) := by decide +kernel
theorem dX9_oddNails_25 : decode cX9_oddNails 25 = .ok (.iaload, 1) := by decide +kernel
theorem dX9_oddNails_26 : decode cX9_oddNails 26 = .ok (.invokestatic 48, 3) := by decide +kernel
theorem dX9_oddNails_29 : decode cX9_oddNails 29 = .ok (.iconst 1, 1) := by decide +kernel
theorem dX9_oddNails_30 : decode cX9_oddNails 30 = .ok (.iand, 1) := by decide +kernel
theorem dX9_oddNails_31 : decode cX9_oddNails 31 = .ok (.iadd, 1) := by decide +kernel
theorem dX9_oddNails_32 : decode cX9_oddNails 32 = .ok (.istore_n 2, 1) := by decide +kernel
theorem dX9_oddNails_33 : decode cX9_oddNails 33 = .ok (.iinc 3 1, 3) := by decide +kernel
theorem dX9_oddNails_36 : decode cX9_oddNails 36 = .ok (.goto (-32), 3) := by decide +kernel
theorem dX9_oddNails_39 : decode cX9_oddNails 39 = .ok (.iload_n 2, 1) := by decide +kernel
theorem dX9_oddNails_40 : decode cX9_oddNails 40 = .ok (.ireturn, 1) := by decide +kernel
theorem dX10_init_0 : decode cX10_init 0 = .ok (.aload_n 0, 1) := by decide +kernel
theorem dX10_init_1 : decode cX10_init 1 = .ok (.invokespecial 1, 3) := by decide +kernel
theorem dX10_init_4 : decode cX10_init 4 = .ok (.aload_n 0, 1) := by decide +kernel
theorem dX10_init_5 : decode cX10_init 5 = .ok (.new 7, 3) := by decide +kernel
theorem dX10_init_8 : decode cX10_init 8 = .ok (.dup, 1) := by decide +kernel
theorem dX10_init_9 : decode cX10_init 9 = .ok (.invokespecial 9, 3) := by decide +kernel
theorem dX10_init_12 : decode cX10_init 12 = .ok (.putfield 10, 3) := by decide +kernel
theorem dX10_init_15 : decode cX10_init 15 = .ok (.aload_n 0, 1) := by decide +kernel
theorem dX10_init_16 : decode cX10_init 16 = .ok (.new 16, 3) := by decide +kernel
theorem dX10_init_19 : decode cX10_init 19 = .ok (.dup, 1) := by decide +kernel
theorem dX10_init_20 : decode cX10_init 20 = .ok (.invokespecial 18, 3) := by decide +kernel
theorem dX10_init_23 : decode cX10_init 23 = .ok (.putfield 19, 3) := by decide +kernel
theorem dX10_init_26 : decode cX10_init 26 = .ok (.aload_n 0, 1) := by decide +kernel
theorem dX10_init_27 : decode cX10_init 27 = .ok (.new 16, 3) := by decide +kernel
theorem dX10_init_30 : decode cX10_init 30 = .ok (.dup, 1) := by decide +kernel
theorem dX10_init_31 : decode cX10_init 31 = .ok (.invokespecial 18, 3) := by decide +kernel
theorem dX10_init_34 : decode cX10_init 34 = .ok (.putfield 23, 3) := by decide +kernel
theorem dX10_init_37 : decode cX10_init 37 = .ok (.aload_n 0, 1) := by decide +kernel
theorem dX10_init_38 : decode cX10_init 38 = .ok (.new 26, 3) := by decide +kernel
theorem dX10_init_41 : decode cX10_init 41 = .ok (.dup, 1) := by decide +kernel
theorem dX10_init_42 : decode cX10_init 42 = .ok (.invokespecial 28, 3) := by decide +kernel
theorem dX10_init_45 : decode cX10_init 45 = .ok (.putfield 29, 3) := by decide +kernel
theorem dX10_init_48 : decode cX10_init 48 = .ok (.aload_n 0, 1) := by decide +kernel
theorem dX10_init_49 : decode cX10_init 49 = .ok (.new 33, 3) := by decide +kernel
theorem dX10_init_52 : decode cX10_init 52 = .ok (.dup, 1) := by decide +kernel
theorem dX10_init_53 : decode cX10_init 53 = .ok (.invokespecial 35, 3) := by decide +kernel
theorem dX10_init_56 : decode cX10_init 56 = .ok (.putfield 36, 3) := by decide +kernel
theorem dX10_init_59 : decode cX10_init 59 = .ok (.aload_n 0, 1) := by decide +kernel
theorem dX10_init_60 : decode cX10_init 60 = .ok (.new 40, 3) := by decide +kernel
theorem dX10_init_63 : decode cX10_init 63 = .ok (.dup, 1) := by decide +kernel
theorem dX10_init_64 : decode cX10_init 64 = .ok (.invokespecial 42, 3) := by decide +kernel
theorem dX10_init_67 : decode cX10_init 67 = .ok (.putfield 43, 3) := by decide +kernel
theorem dX10_init_70 : decode cX10_init 70 = .ok (.aload_n 0, 1) := by decide +kernel
theorem dX10_init_71 : decode cX10_init 71 = .ok (.new 47, 3) := by decide +kernel
theorem dX10_init_74 : decode cX10_init 74 = .ok (.dup, 1) := by decide +kernel
theorem dX10_init_75 : decode cX10_init 75 = .ok (.invokespecial 49, 3) := by decide +kernel
theorem dX10_init_78 : decode cX10_init 78 = .ok (.putfield 50, 3) := by decide +kernel
theorem dX10_init_81 : decode cX10_init 81 = .ok (.aload_n 0, 1) := by decide +kernel
theorem dX10_init_82 : decode cX10_init 82 = .ok (.new 54, 3) := by decide +kernel
theorem dX10_init_85 : decode cX10_init 85 = .ok (.dup, 1) := by decide +kernel
theorem dX10_init_86 : decode cX10_init 86 = .ok (.invokespecial 56, 3) := by decide +kernel
theorem dX10_init_89 : decode cX10_init 89 = .ok (.putfield 57, 3) := by decide +kernel
theorem dX10_init_92 : decode cX10_init 92 = .ok (.aload_n 0, 1) := by decide +kernel
theorem dX10_init_93 : decode cX10_init 93 = .ok (.new 61, 3) := by decide +kernel
theorem dX10_init_96 : decode cX10_init 96 = .ok (.dup, 1) := by decide +kernel
theorem dX10_init_97 : decode cX10_init 97 = .ok (.invokespecial 63, 3) := by decide +kernel
theorem dX10_init_100 : decode cX10_init 100 = .ok (.putfield 64, 3) := by decide +kernel
theorem dX10_init_103 : decode cX10_init 103 = .ok (.aload_n 0, 1) := by decide +kernel
theorem dX10_init_104 : decode cX10_init 104 = .ok (.lconst 0, 1) := by decide +kernel
theorem dX10_init_105 : decode cX10_init 105 = .ok (.putfield 68, 3) := by decide +kernel
theorem dX10_init_108 : decode cX10_init 108 = .ok (.return_, 1) := by decide +kernel
theorem dX10_write_0 : decode cX10_write 0 = .ok (.iload_n 1, 1) := by decide +kernel
theorem dX10_write_1 : decode cX10_write 1 = .ok (.iconst 0, 1) := by decide +kernel
theorem dX10_write_2 : decode cX10_write 2 = .ok (.sipush 255, 3) := by decide +kernel
theorem dX10_write_5 : decode cX10_write 5 = .ok (.invokestatic 72, 3) := by decide +kernel
theorem dX10_write_8 : decode cX10_write 8 = .ok (.ifCond .eq 6, 3) := by decide +kernel
theorem dX10_write_11 : decode cX10_write 11 = .ok (.bipush (-2), 2) := by decide +kernel
theorem dX10_write_13 : decode cX10_write 13 = .ok (.ireturn, 1) := by decide +kernel
theorem dX10_write_14 : decode cX10_write 14 = .ok (.aload_n 0, 1) := by decide +kernel
theorem dX10_write_15 : decode cX10_write 15 = .ok (.getfield 10, 3) := by decide +kernel
theorem dX10_write_18 : decode cX10_write 18 = .ok (.iload_n 1, 1) := by decide +kernel
theorem dX10_write_19 : decode cX10_write 19 = .ok (.invokevirtual 76, 3) := by decide +kernel
theorem dX10_write_22 : decode cX10_write 22 = .ok (.ifCond .eq 13, 3) := by decide +kernel
theorem dX10_write_25 : decode cX10_write 25 = .ok (.aload_n 0, 1) := by decide +kernel
theorem dX10_write_26 : decode cX10_write 26 = .ok (.getfield 10, 3) := by decide +kernel
theorem dX10_write_29 : decode cX10_write 29 = .ok (.invokevirtual 80, 3) := by decide +kernel
theorem dX10_write_32 : decode cX10_write 32 = .ok (.goto 5, 3) := by decide +kernel
theorem dX10_write_35 : decode cX10_write 35 = .ok (.bipush (-4), 2) := by decide +kernel
theorem dX10_write_37 : decode cX10_write 37 = .ok (.ireturn, 1) := by decide +kernel
theorem dX10_wipe_0 : decode cX10_wipe 0 = .ok (.aload_n 0, 1) := by decide +kernel
theorem dX10_wipe_1 : decode cX10_wipe 1 = .ok (.getfield 10, 3) := by decide +kernel
theorem dX10_wipe_4 : decode cX10_wipe 4 = .ok (.invokevirtual 80, 3) := by decide +kernel
theorem dX10_wipe_7 : decode cX10_wipe 7 = .ok (.istore_n 1, 1) := by decide +kernel
theorem dX10_wipe_8 : decode cX10_wipe 8 = .ok (.aload_n 0, 1) := by decide +kernel
theorem dX10_wipe_9 : decode cX10_wipe 9 = .ok (.getfield 10, 3) := by decide +kernel
theorem dX10_wipe_12 : decode cX10_wipe 12 = .ok (.invokevirtual 84, 3) := by decide +kernel
theorem dX10_wipe_15 : decode cX10_wipe 15 = .ok (.iload_n 1, 1) := by decide +kernel
theorem dX10_wipe_16 : decode cX10_wipe 16 = .ok (.ireturn, 1) := by decide +kernel
theorem dX10_fault_0 : decode cX10_fault 0 = .ok (.aload_n 0, 1) := by decide +kernel
theorem dX10_fault_1 : decode cX10_fault 1 = .ok (.getfield 10, 3) := by decide +kernel
theorem dX10_fault_4 : decode cX10_fault 4 = .ok (.aload_n 0, 1) := by decide +kernel
theorem dX10_fault_5 : decode cX10_fault 5 = .ok (.getfield 23, 3) := by decide +kernel
theorem dX10_fault_8 : decode cX10_fault 8 = .ok (.invokevirtual 87, 3) := by decide +kernel
theorem dX10_fault_11 : decode cX10_fault 11 = .ok (.ireturn, 1) := by decide +kernel
theorem dX10_board_0 : decode cX10_board 0 = .ok (.aload_n 0, 1) := by decide +kernel
theorem dX10_board_1 : decode cX10_board 1 = .ok (.getfield 10, 3) := by decide +kernel
theorem dX10_board_4 : decode cX10_board 4 = .ok (.aload_n 0, 1) := by decide +kernel
theorem dX10_board_5 : decode cX10_board 5 = .ok (.getfield 23, 3) := by decide +kernel
theorem dX10_board_8 : decode cX10_board 8 = .ok (.invokevirtual 87, 3) := by decide +kernel
theorem dX10_board_11 : decode cX10_board 11 = .ok (.bipush (-9), 2) := by decide +kernel
theorem dX10_board_13 : decode cX10_board 13 = .ok (.if_icmp .eq 6, 3) := by decide +kernel
theorem dX10_board_16 : decode cX10_board 16 = .ok (.bipush (-3), 2) := by decide +kernel
theorem dX10_board_18 : decode cX10_board 18 = .ok (.ireturn, 1) := by decide +kernel
theorem dX10_board_19 : decode cX10_board 19 = .ok (.aload_n 0, 1) := by decide +kernel
theorem dX10_board_20 : decode cX10_board 20 = .ok (.getfield 19, 3) := by decide +kernel
theorem dX10_board_23 : decode cX10_board 23 = .ok (.aload_n 0, 1) := by decide +kernel
theorem dX10_board_24 : decode cX10_board 24 = .ok (.getfield 23, 3) := by decide +kernel
theorem dX10_board_27 : decode cX10_board 27 = .ok (.invokevirtual 91, 3) := by decide +kernel
theorem dX10_board_30 : decode cX10_board 30 = .ok (.aload_n 0, 1) := by decide +kernel
theorem dX10_board_31 : decode cX10_board 31 = .ok (.getfield 29, 3) := by decide +kernel
theorem dX10_board_34 : decode cX10_board 34 = .ok (.invokevirtual 95, 3) := by decide +kernel
theorem dX10_board_37 : decode cX10_board 37 = .ok (.aload_n 0, 1) := by decide +kernel
theorem dX10_board_38 : decode cX10_board 38 = .ok (.getfield 36, 3) := by decide +kernel
theorem dX10_board_41 : decode cX10_board 41 = .ok (.invokevirtual 96, 3) := by decide +kernel
theorem dX10_board_44 : decode cX10_board 44 = .ok (.aload_n 0, 1) := by decide +kernel
theorem dX10_board_45 : decode cX10_board 45 = .ok (.getfield 19, 3) := by decide +kernel
theorem dX10_board_48 : decode cX10_board 48 = .ok (.invokevirtual 97, 3) := by decide +kernel
theorem dX10_board_51 : decode cX10_board 51 = .ok (.ireturn, 1) := by decide +kernel
theorem dX10_thread_0 : decode cX10_thread 0 = .ok (.aload_n 0, 1) := by decide +kernel
theorem dX10_thread_1 : decode cX10_thread 1 = .ok (.getfield 19, 3) := by decide +kernel
theorem dX10_thread_4 : decode cX10_thread 4 = .ok (.iload_n 1, 1) := by decide +kernel
theorem dX10_thread_5 : decode cX10_thread 5 = .ok (.invokevirtual 100, 3) := by decide +kernel
theorem dX10_thread_8 : decode cX10_thread 8 = .ok (.ifCond .ne 5, 3) := by decide +kernel
theorem dX10_thread_11 : decode cX10_thread 11 = .ok (.iconst (-1), 1) := by decide +kernel
theorem dX10_thread_12 : decode cX10_thread 12 = .ok (.ireturn, 1) := by decide +kernel
theorem dX10_thread_13 : decode cX10_thread 13 = .ok (.iload_n 2, 1) := by decide +kernel
theorem dX10_thread_14 : decode cX10_thread 14 = .ok (.tableswitch 100 0 5 #[38, 47, 56, 65, 74, 83], 38) := by decide +kernel
theorem dX10_thread_52 : decode cX10_thread 52 = .ok (.aload_n 0, 1) := by decide +kernel
theorem dX10_thread_53 : decode cX10_thread 53 = .ok (.getfield 19, 3) := by decide +kernel
theorem dX10_thread_56 : decode cX10_thread 56 = .ok (.iload_n 1, 1) := by decide +kernel
theorem dX10_thread_57 : decode cX10_thread 57 = .ok (.invokevirtual 103, 3) := by decide +kernel
theorem dX10_thread_60 : decode cX10_thread 60 = .ok (.ireturn, 1) := by decide +kernel
theorem dX10_thread_61 : decode cX10_thread 61 = .ok (.aload_n 0, 1) := by decide +kernel
theorem dX10_thread_62 : decode cX10_thread 62 = .ok (.getfield 19, 3) := by decide +kernel
theorem dX10_thread_65 : decode cX10_thread 65 = .ok (.iload_n 1, 1) := by decide +kernel
theorem dX10_thread_66 : decode cX10_thread 66 = .ok (.invokevirtual 107, 3) := by decide +kernel
theorem dX10_thread_69 : decode cX10_thread 69 = .ok (.ireturn, 1) := by decide +kernel
theorem dX10_thread_70 : decode cX10_thread 70 = .ok (.aload_n 0, 1) := by decide +kernel
theorem dX10_thread_71 : decode cX10_thread 71 = .ok (.getfield 19, 3) := by decide +kernel
theorem dX10_thread_74 : decode cX10_thread 74 = .ok (.iload_n 1, 1) := by decide +kernel
theorem dX10_thread_75 : decode cX10_thread 75 = .ok (.invokevirtual 110, 3) := by decide +kernel
theorem dX10_thread_78 : decode cX10_thread 78 = .ok (.ireturn, 1) := by decide +kernel
theorem dX10_thread_79 : decode cX10_thread 79 = .ok (.aload_n 0, 1) := by decide +kernel
theorem dX10_thread_80 : decode cX10_thread 80 = .ok (.getfield 19, 3) := by decide +kernel
theorem dX10_thread_83 : decode cX10_thread 83 = .ok (.iload_n 1, 1) := by decide +kernel
theorem dX10_thread_84 : decode cX10_thread 84 = .ok (.invokevirtual 113, 3) := by decide +kernel
theorem dX10_thread_87 : decode cX10_thread 87 = .ok (.ireturn, 1) := by decide +kernel
theorem dX10_thread_88 : decode cX10_thread 88 = .ok (.aload_n 0, 1) := by decide +kernel
theorem dX10_thread_89 : decode cX10_thread 89 = .ok (.getfield 19, 3) := by decide +kernel
theorem dX10_thread_92 : decode cX10_thread 92 = .ok (.iload_n 1, 1) := by decide +kernel
theorem dX10_thread_93 : decode cX10_thread 93 = .ok (.invokevirtual 116, 3) := by decide +kernel
theorem dX10_thread_96 : decode cX10_thread 96 = .ok (.ireturn, 1) := by decide +kernel
theorem dX10_thread_97 : decode cX10_thread 97 = .ok (.aload_n 0, 1) := by decide +kernel
theorem dX10_thread_98 : decode cX10_thread 98 = .ok (.getfield 19, 3) := by decide +kernel
theorem dX10_thread_101 : decode cX10_thread 101 = .ok (.iload_n 1, 1) := by decide +kernel
theorem dX10_thread_102 : decode cX10_thread 102 = .ok (.invokevirtual 119, 3) := by decide +kernel
theorem dX10_thread_105 : decode cX10_thread 105 = .ok (.ifCond .eq 7, 3) := by decide +kernel
theorem dX10_thread_108 : decode cX10_thread 108 = .ok (.iconst 1, 1) := by decide +kernel
theorem dX10_thread_109 : decode cX10_thread 109 = .ok (.goto 4, 3) := by decide +kernel
theorem dX10_thread_112 : decode cX10_thread 112 = .ok (.iconst 0, 1) := by decide +kernel
theorem dX10_thread_113 : decode cX10_thread 113 = .ok (.ireturn, 1) := by decide +kernel
theorem dX10_thread_114 : decode cX10_thread 114 = .ok (.bipush (-2), 2) := by decide +kernel
theorem dX10_thread_116 : decode cX10_thread 116 = .ok (.ireturn, 1) := by decide +kernel
theorem dX10_stretch_0 : decode cX10_stretch 0 = .ok (.aload_n 0, 1) := by decide +kernel
theorem dX10_stretch_1 : decode cX10_stretch 1 = .ok (.getfield 19, 3) := by decide +kernel
theorem dX10_stretch_4 : decode cX10_stretch 4 = .ok (.iload_n 1, 1) := by decide +kernel
theorem dX10_stretch_5 : decode cX10_stretch 5 = .ok (.invokevirtual 122, 3) := by decide +kernel
theorem dX10_stretch_8 : decode cX10_stretch 8 = .ok (.ifCond .ne 5, 3) := by decide +kernel
theorem dX10_stretch_11 : decode cX10_stretch 11 = .ok (.iconst (-1), 1) := by decide +kernel
theorem dX10_stretch_12 : decode cX10_stretch 12 = .ok (.ireturn, 1) := by decide +kernel
theorem dX10_stretch_13 : decode cX10_stretch 13 = .ok (.iload_n 2, 1) := by decide +kernel
theorem dX10_stretch_14 : decode cX10_stretch 14 = .ok (.tableswitch 96 0 5 #[38, 47, 56, 65, 75, 87], 38) := by decide +kernel
theorem dX10_stretch_52 : decode cX10_stretch 52 = .ok (.aload_n 0, 1) := by decide +kernel
theorem dX10_stretch_53 : decode cX10_stretch 53 = .ok (.getfield 19, 3) := by decide +kernel
theorem dX10_stretch_56 : decode cX10_stretch 56 = .ok (.iload_n 1, 1) := by decide +kernel
theorem dX10_stretch_57 : decode cX10_stretch 57 = .ok (.invokevirtual 125, 3) := by decide +kernel
theorem dX10_stretch_60 : decode cX10_stretch 60 = .ok (.ireturn, 1) := by decide +kernel
theorem dX10_stretch_61 : decode cX10_stretch 61 = .ok (.aload_n 0, 1) := by decide +kernel
theorem dX10_stretch_62 : decode cX10_stretch 62 = .ok (.getfield 19, 3) := by decide +kernel
theorem dX10_stretch_65 : decode cX10_stretch 65 = .ok (.iload_n 1, 1) := by decide +kernel
theorem dX10_stretch_66 : decode cX10_stretch 66 = .ok (.invokevirtual 128, 3) := by decide +kernel
theorem dX10_stretch_69 : decode cX10_stretch 69 = .ok (.ireturn, 1) := by decide +kernel
theorem dX10_stretch_70 : decode cX10_stretch 70 = .ok (.aload_n 0, 1) := by decide +kernel
theorem dX10_stretch_71 : decode cX10_stretch 71 = .ok (.getfield 19, 3) := by decide +kernel
theorem dX10_stretch_74 : decode cX10_stretch 74 = .ok (.iload_n 1, 1) := by decide +kernel
theorem dX10_stretch_75 : decode cX10_stretch 75 = .ok (.invokevirtual 131, 3) := by decide +kernel
theorem dX10_stretch_78 : decode cX10_stretch 78 = .ok (.ireturn, 1) := by decide +kernel
theorem dX10_stretch_79 : decode cX10_stretch 79 = .ok (.aload_n 0, 1) := by decide +kernel
theorem dX10_stretch_80 : decode cX10_stretch 80 = .ok (.getfield 19, 3) := by decide +kernel
theorem dX10_stretch_83 : decode cX10_stretch 83 = .ok (.iconst 0, 1) := by decide +kernel
theorem dX10_stretch_84 : decode cX10_stretch 84 = .ok (.iload_n 1, 1) := by decide +kernel
theorem dX10_stretch_85 : decode cX10_stretch 85 = .ok (.invokevirtual 134, 3) := by decide +kernel
theorem dX10_stretch_88 : decode cX10_stretch 88 = .ok (.ireturn, 1) := by decide +kernel
theorem dX10_stretch_89 : decode cX10_stretch 89 = .ok (.aload_n 0, 1) := by decide +kernel
theorem dX10_stretch_90 : decode cX10_stretch 90 = .ok (.getfield 19, 3) := by decide +kernel
theorem dX10_stretch_93 : decode cX10_stretch 93 = .ok (.iload_n 1, 1) := by decide +kernel
theorem dX10_stretch_94 : decode cX10_stretch 94 = .ok (.iconst 1, 1) := by decide +kernel
theorem dX10_stretch_95 : decode cX10_stretch 95 = .ok (.iadd, 1) := by decide +kernel
theorem dX10_stretch_96 : decode cX10_stretch 96 = .ok (.iload_n 1, 1) := by decide +kernel
theorem dX10_stretch_97 : decode cX10_stretch 97 = .ok (.invokevirtual 134, 3) := by decide +kernel
theorem dX10_stretch_100 : decode cX10_stretch 100 = .ok (.ireturn, 1) := by decide +kernel
theorem dX10_stretch_101 : decode cX10_stretch 101 = .ok (.aload_n 0, 1) := by decide +kernel
theorem dX10_stretch_102 : decode cX10_stretch 102 = .ok (.getfield 19, 3) := by decide +kernel
theorem dX10_stretch_105 : decode cX10_stretch 105 = .ok (.iload_n 1, 1) := by decide +kernel
theorem dX10_stretch_106 : decode cX10_stretch 106 = .ok (.invokevirtual 138, 3) := by decide +kernel
theorem dX10_stretch_109 : decode cX10_stretch 109 = .ok (.ireturn, 1) := by decide +kernel
theorem dX10_stretch_110 : decode cX10_stretch 110 = .ok (.bipush (-2), 2) := by decide +kernel
theorem dX10_stretch_112 : decode cX10_stretch 112 = .ok (.ireturn, 1) := by decide +kernel
theorem dX10_wind_0 : decode cX10_wind 0 = .ok (.aload_n 0, 1) := by decide +kernel
theorem dX10_wind_1 : decode cX10_wind 1 = .ok (.getfield 19, 3) := by decide +kernel
theorem dX10_wind_4 : decode cX10_wind 4 = .ok (.iload_n 1, 1) := by decide +kernel
theorem dX10_wind_5 : decode cX10_wind 5 = .ok (.invokevirtual 100, 3) := by decide +kernel
theorem dX10_wind_8 : decode cX10_wind 8 = .ok (.ifCond .eq 13, 3) := by decide +kernel
theorem dX10_wind_11 : decode cX10_wind 11 = .ok (.iload_n 2, 1) := by decide +kernel
theorem dX10_wind_12 : decode cX10_wind 12 = .ok (.iconst 0, 1) := by decide +kernel
theorem dX10_wind_13 : decode cX10_wind 13 = .ok (.bipush 11, 2) := by decide +kernel
theorem dX10_wind_15 : decode cX10_wind 15 = .ok (.invokestatic 72, 3) := by decide +kernel
theorem dX10_wind_18 : decode cX10_wind 18 = .ok (.ifCond .eq 5, 3) := by decide +kernel
theorem dX10_wind_21 : decode cX10_wind 21 = .ok (.iconst (-1), 1) := by decide +kernel
theorem dX10_wind_22 : decode cX10_wind 22 = .ok (.ireturn, 1) := by decide +kernel
theorem dX10_wind_23 : decode cX10_wind 23 = .ok (.aload_n 0, 1) := by decide +kernel
theorem dX10_wind_24 : decode cX10_wind 24 = .ok (.getfield 19, 3) := by decide +kernel
theorem dX10_wind_27 : decode cX10_wind 27 = .ok (.iload_n 1, 1) := by decide +kernel
theorem dX10_wind_28 : decode cX10_wind 28 = .ok (.iload_n 2, 1) := by decide +kernel
theorem dX10_wind_29 : decode cX10_wind 29 = .ok (.invokevirtual 141, 3) := by decide +kernel
theorem dX10_wind_32 : decode cX10_wind 32 = .ok (.ifCond .ne 6, 3) := by decide +kernel
theorem dX10_wind_35 : decode cX10_wind 35 = .ok (.bipush (-3), 2) := by decide +kernel
theorem dX10_wind_37 : decode cX10_wind 37 = .ok (.ireturn, 1) := by decide +kernel
theorem dX10_wind_38 : decode cX10_wind 38 = .ok (.aload_n 0, 1) := by decide +kernel
theorem dX10_wind_39 : decode cX10_wind 39 = .ok (.getfield 29, 3) := by decide +kernel
theorem dX10_wind_42 : decode cX10_wind 42 = .ok (.aload_n 0, 1) := by decide +kernel
theorem dX10_wind_43 : decode cX10_wind 43 = .ok (.getfield 19, 3) := by decide +kernel
theorem dX10_wind_46 : decode cX10_wind 46 = .ok (.invokevirtual 145, 3) := by decide +kernel
theorem dX10_wind_49 : decode cX10_wind 49 = .ok (.aload_n 0, 1) := by decide +kernel
theorem dX10_wind_50 : decode cX10_wind 50 = .ok (.getfield 19, 3) := by decide +kernel
theorem dX10_wind_53 : decode cX10_wind 53 = .ok (.iload_n 1, 1) := by decide +kernel
theorem dX10_wind_54 : decode cX10_wind 54 = .ok (.iload_n 2, 1) := by decide +kernel
theorem dX10_wind_55 : decode cX10_wind 55 = .ok (.invokevirtual 147, 3) := by decide +kernel
theorem dX10_wind_58 : decode cX10_wind 58 = .ok (.ireturn, 1) := by decide +kernel
theorem dX10_unwind_0 : decode cX10_unwind 0 = .ok (.aload_n 0, 1) := by decide +kernel
theorem dX10_unwind_1 : decode cX10_unwind 1 = .ok (.getfield 19, 3) := by decide +kernel
theorem dX10_unwind_4 : decode cX10_unwind 4 = .ok (.iload_n 1, 1) := by decide +kernel
theorem dX10_unwind_5 : decode cX10_unwind 5 = .ok (.invokevirtual 100, 3) := by decide +kernel
theorem dX10_unwind_8 : decode cX10_unwind 8 = .ok (.ifCond .ne 5, 3) := by decide +kernel
theorem dX10_unwind_11 : decode cX10_unwind 11 = .ok (.iconst (-1), 1) := by decide +kernel
theorem dX10_unwind_12 : decode cX10_unwind 12 = .ok (.ireturn, 1) := by decide +kernel
theorem dX10_unwind_13 : decode cX10_unwind 13 = .ok (.aload_n 0, 1) := by decide +kernel
theorem dX10_unwind_14 : decode cX10_unwind 14 = .ok (.getfield 19, 3) := by decide +kernel
theorem dX10_unwind_17 : decode cX10_unwind 17 = .ok (.iload_n 1, 1) := by decide +kernel
theorem dX10_unwind_18 : decode cX10_unwind 18 = .ok (.invokevirtual 119, 3) := by decide +kernel
theorem dX10_unwind_21 : decode cX10_unwind 21 = .ok (.ifCond .ne 6, 3) := by decide +kernel
theorem dX10_unwind_24 : decode cX10_unwind 24 = .ok (.bipush (-3), 2) := by decide +kernel
theorem dX10_unwind_26 : decode cX10_unwind 26 = .ok (.ireturn, 1) := by decide +kernel
theorem dX10_unwind_27 : decode cX10_unwind 27 = .ok (.aload_n 0, 1) := by decide +kernel
theorem dX10_unwind_28 : decode cX10_unwind 28 = .ok (.getfield 29, 3) := by decide +kernel
theorem dX10_unwind_31 : decode cX10_unwind 31 = .ok (.aload_n 0, 1) := by decide +kernel
theorem dX10_unwind_32 : decode cX10_unwind 32 = .ok (.getfield 19, 3) := by decide +kernel
theorem dX10_unwind_35 : decode cX10_unwind 35 = .ok (.invokevirtual 145, 3) := by decide +kernel
theorem dX10_unwind_38 : decode cX10_unwind 38 = .ok (.aload_n 0, 1) := by decide +kernel
theorem dX10_unwind_39 : decode cX10_unwind 39 = .ok (.getfield 19, 3) := by decide +kernel
theorem dX10_unwind_42 : decode cX10_unwind 42 = .ok (.iload_n 1, 1) := by decide +kernel
theorem dX10_unwind_43 : decode cX10_unwind 43 = .ok (.invokevirtual 150, 3) := by decide +kernel
theorem dX10_unwind_46 : decode cX10_unwind 46 = .ok (.ireturn, 1) := by decide +kernel
theorem dX10_cut_0 : decode cX10_cut 0 = .ok (.aload_n 0, 1) := by decide +kernel
theorem dX10_cut_1 : decode cX10_cut 1 = .ok (.getfield 19, 3) := by decide +kernel
theorem dX10_cut_4 : decode cX10_cut 4 = .ok (.iload_n 1, 1) := by decide +kernel
theorem dX10_cut_5 : decode cX10_cut 5 = .ok (.invokevirtual 100, 3) := by decide +kernel
theorem dX10_cut_8 : decode cX10_cut 8 = .ok (.ifCond .ne 5, 3) := by decide +kernel
theorem dX10_cut_11 : decode cX10_cut 11 = .ok (.iconst (-1), 1) := by decide +kernel
theorem dX10_cut_12 : decode cX10_cut 12 = .ok (.ireturn, 1) := by decide +kernel
theorem dX10_cut_13 : decode cX10_cut 13 = .ok (.aload_n 0, 1) := by decide +kernel
theorem dX10_cut_14 : decode cX10_cut 14 = .ok (.getfield 19, 3) := by decide +kernel
theorem dX10_cut_17 : decode cX10_cut 17 = .ok (.iload_n 1, 1) := by decide +kernel
theorem dX10_cut_18 : decode cX10_cut 18 = .ok (.invokevirtual 153, 3) := by decide +kernel
theorem dX10_cut_21 : decode cX10_cut 21 = .ok (.ifCond .ne 6, 3) := by decide +kernel
theorem dX10_cut_24 : decode cX10_cut 24 = .ok (.bipush (-3), 2) := by decide +kernel
theorem dX10_cut_26 : decode cX10_cut 26 = .ok (.ireturn, 1) := by decide +kernel
theorem dX10_cut_27 : decode cX10_cut 27 = .ok (.aload_n 0, 1) := by decide +kernel
theorem dX10_cut_28 : decode cX10_cut 28 = .ok (.getfield 29, 3) := by decide +kernel
theorem dX10_cut_31 : decode cX10_cut 31 = .ok (.aload_n 0, 1) := by decide +kernel
theorem dX10_cut_32 : decode cX10_cut 32 = .ok (.getfield 19, 3) := by decide +kernel
theorem dX10_cut_35 : decode cX10_cut 35 = .ok (.invokevirtual 145, 3) := by decide +kernel
theorem dX10_cut_38 : decode cX10_cut 38 = .ok (.aload_n 0, 1) := by decide +kernel
theorem dX10_cut_39 : decode cX10_cut 39 = .ok (.getfield 19, 3) := by decide +kernel
theorem dX10_cut_42 : decode cX10_cut 42 = .ok (.iload_n 1, 1) := by decide +kernel
theorem dX10_cut_43 : decode cX10_cut 43 = .ok (.invokevirtual 156, 3) := by decide +kernel
theorem dX10_cut_46 : decode cX10_cut 46 = .ok (.ireturn, 1) := by decide +kernel
theorem dX10_turn_0 : decode cX10_turn 0 = .ok (.aload_n 0, 1) := by decide +kernel
theorem dX10_turn_1 : decode cX10_turn 1 = .ok (.getfield 29, 3) := by decide +kernel
theorem dX10_turn_4 : decode cX10_turn 4 = .ok (.aload_n 0, 1) := by decide +kernel
theorem dX10_turn_5 : decode cX10_turn 5 = .ok (.getfield 19, 3) := by decide +kernel
theorem dX10_turn_8 : decode cX10_turn 8 = .ok (.invokevirtual 145, 3) := by decide +kernel
theorem dX10_turn_11 : decode cX10_turn 11 = .ok (.aload_n 0, 1) := by decide +kernel
theorem dX10_turn_12 : decode cX10_turn 12 = .ok (.getfield 19, 3) := by decide +kernel
theorem dX10_turn_15 : decode cX10_turn 15 = .ok (.invokevirtual 159, 3) := by decide +kernel
theorem dX10_turn_18 : decode cX10_turn 18 = .ok (.aload_n 0, 1) := by decide +kernel
theorem dX10_turn_19 : decode cX10_turn 19 = .ok (.getfield 19, 3) := by decide +kernel
theorem dX10_turn_22 : decode cX10_turn 22 = .ok (.invokevirtual 162, 3) := by decide +kernel
theorem dX10_turn_25 : decode cX10_turn 25 = .ok (.ireturn, 1) := by decide +kernel
theorem dX10_behind_0 : decode cX10_behind 0 = .ok (.aload_n 0, 1) := by decide +kernel
theorem dX10_behind_1 : decode cX10_behind 1 = .ok (.getfield 29, 3) := by decide +kernel
theorem dX10_behind_4 : decode cX10_behind 4 = .ok (.aload_n 0, 1) := by decide +kernel
theorem dX10_behind_5 : decode cX10_behind 5 = .ok (.getfield 19, 3) := by decide +kernel
theorem dX10_behind_8 : decode cX10_behind 8 = .ok (.invokevirtual 145, 3) := by decide +kernel
theorem dX10_behind_11 : decode cX10_behind 11 = .ok (.aload_n 0, 1) := by decide +kernel
theorem dX10_behind_12 : decode cX10_behind 12 = .ok (.getfield 19, 3) := by decide +kernel
theorem dX10_behind_15 : decode cX10_behind 15 = .ok (.invokevirtual 165, 3) := by decide +kernel
theorem dX10_behind_18 : decode cX10_behind 18 = .ok (.aload_n 0, 1) := by decide +kernel
theorem dX10_behind_19 : decode cX10_behind 19 = .ok (.getfield 19, 3) := by decide +kernel
theorem dX10_behind_22 : decode cX10_behind 22 = .ok (.invokevirtual 162, 3) := by decide +kernel
theorem dX10_behind_25 : decode cX10_behind 25 = .ok (.ireturn, 1) := by decide +kernel
theorem dX10_undo_0 : decode cX10_undo 0 = .ok (.aload_n 0, 1) := by decide +kernel
theorem dX10_undo_1 : decode cX10_undo 1 = .ok (.getfield 29, 3) := by decide +kernel
theorem dX10_undo_4 : decode cX10_undo 4 = .ok (.aload_n 0, 1) := by decide +kernel
theorem dX10_undo_5 : decode cX10_undo 5 = .ok (.getfield 19, 3) := by decide +kernel
theorem dX10_undo_8 : decode cX10_undo 8 = .ok (.invokevirtual 168, 3) := by decide +kernel
theorem dX10_undo_11 : decode cX10_undo 11 = .ok (.ifCond .eq 13, 3) := by decide +kernel
theorem dX10_undo_14 : decode cX10_undo 14 = .ok (.aload_n 0, 1) := by decide +kernel
theorem dX10_undo_15 : decode cX10_undo 15 = .ok (.getfield 29, 3) := by decide +kernel
theorem dX10_undo_18 : decode cX10_undo 18 = .ok (.invokevirtual 172, 3) := by decide +kernel
theorem dX10_undo_21 : decode cX10_undo 21 = .ok (.goto 5, 3) := by decide +kernel
theorem dX10_undo_24 : decode cX10_undo 24 = .ok (.bipush (-3), 2) := by decide +kernel
theorem dX10_undo_26 : decode cX10_undo 26 = .ok (.ireturn, 1) := by decide +kernel
theorem dX10_crossings_0 : decode cX10_crossings 0 = .ok (.aload_n 0, 1) := by decide +kernel
theorem dX10_crossings_1 : decode cX10_crossings 1 = .ok (.getfield 19, 3) := by decide +kernel
theorem dX10_crossings_4 : decode cX10_crossings 4 = .ok (.iload_n 1, 1) := by decide +kernel
theorem dX10_crossings_5 : decode cX10_crossings 5 = .ok (.invokevirtual 100, 3) := by decide +kernel
theorem dX10_crossings_8 : decode cX10_crossings 8 = .ok (.ifCond .eq 14, 3) := by decide +kernel
theorem dX10_crossings_11 : decode cX10_crossings 11 = .ok (.aload_n 0, 1) := by decide +kernel
theorem dX10_crossings_12 : decode cX10_crossings 12 = .ok (.getfield 19, 3) := by decide +kernel
theorem dX10_crossings_15 : decode cX10_crossings 15 = .ok (.iload_n 2, 1) := by decide +kernel
theorem dX10_crossings_16 : decode cX10_crossings 16 = .ok (.invokevirtual 100, 3) := by decide +kernel
theorem dX10_crossings_19 : decode cX10_crossings 19 = .ok (.ifCond .ne 5, 3) := by decide +kernel
theorem dX10_crossings_22 : decode cX10_crossings 22 = .ok (.iconst (-1), 1) := by decide +kernel
theorem dX10_crossings_23 : decode cX10_crossings 23 = .ok (.ireturn, 1) := by decide +kernel
theorem dX10_crossings_24 : decode cX10_crossings 24 = .ok (.aload_n 0, 1) := by decide +kernel
theorem dX10_crossings_25 : decode cX10_crossings 25 = .ok (.getfield 19, 3) := by decide +kernel
theorem dX10_crossings_28 : decode cX10_crossings 28 = .ok (.iload_n 1, 1) := by decide +kernel
theorem dX10_crossings_29 : decode cX10_crossings 29 = .ok (.iload_n 2, 1) := by decide +kernel
theorem dX10_crossings_30 : decode cX10_crossings 30 = .ok (.invokevirtual 173, 3) := by decide +kernel
theorem dX10_crossings_33 : decode cX10_crossings 33 = .ok (.ireturn, 1) := by decide +kernel
theorem dX10_parts_0 : decode cX10_parts 0 = .ok (.aload_n 0, 1) := by decide +kernel
theorem dX10_parts_1 : decode cX10_parts 1 = .ok (.getfield 50, 3) := by decide +kernel
theorem dX10_parts_4 : decode cX10_parts 4 = .ok (.aload_n 0, 1) := by decide +kernel
theorem dX10_parts_5 : decode cX10_parts 5 = .ok (.getfield 19, 3) := by decide +kernel
theorem dX10_parts_8 : decode cX10_parts 8 = .ok (.invokevirtual 176, 3) := by decide +kernel
theorem dX10_parts_11 : decode cX10_parts 11 = .ok (.ireturn, 1) := by decide +kernel
theorem dX10_strokes_0 : decode cX10_strokes 0 = .ok (.aload_n 0, 1) := by decide +kernel
theorem dX10_strokes_1 : decode cX10_strokes 1 = .ok (.getfield 50, 3) := by decide +kernel
theorem dX10_strokes_4 : decode cX10_strokes 4 = .ok (.aload_n 0, 1) := by decide +kernel
theorem dX10_strokes_5 : decode cX10_strokes 5 = .ok (.getfield 19, 3) := by decide +kernel
theorem dX10_strokes_8 : decode cX10_strokes 8 = .ok (.invokevirtual 179, 3) := by decide +kernel
theorem dX10_strokes_11 : decode cX10_strokes 11 = .ok (.ireturn, 1) := by decide +kernel
theorem dX10_next_0 : decode cX10_next 0 = .ok (.aload_n 0, 1) := by decide +kernel
theorem dX10_next_1 : decode cX10_next 1 = .ok (.getfield 19, 3) := by decide +kernel
theorem dX10_next_4 : decode cX10_next 4 = .ok (.iload_n 1, 1) := by decide +kernel
theorem dX10_next_5 : decode cX10_next 5 = .ok (.invokevirtual 100, 3) := by decide +kernel
theorem dX10_next_8 : decode cX10_next 8 = .ok (.ifCond .ne 5, 3) := by decide +kernel
theorem dX10_next_11 : decode cX10_next 11 = .ok (.iconst (-1), 1) := by decide +kernel
theorem dX10_next_12 : decode cX10_next 12 = .ok (.ireturn, 1) := by decide +kernel
theorem dX10_next_13 : decode cX10_next 13 = .ok (.iload_n 2, 1) := by decide +kernel
theorem dX10_next_14 : decode cX10_next 14 = .ok (.iconst 0, 1) := by decide +kernel
theorem dX10_next_15 : decode cX10_next 15 = .ok (.iconst 1, 1) := by decide +kernel
theorem dX10_next_16 : decode cX10_next 16 = .ok (.invokestatic 72, 3) := by decide +kernel
theorem dX10_next_19 : decode cX10_next 19 = .ok (.ifCond .eq 6, 3) := by decide +kernel
theorem dX10_next_22 : decode cX10_next 22 = .ok (.bipush (-2), 2) := by decide +kernel
theorem dX10_next_24 : decode cX10_next 24 = .ok (.ireturn, 1) := by decide +kernel
theorem dX10_next_25 : decode cX10_next 25 = .ok (.aload_n 0, 1) := by decide +kernel
theorem dX10_next_26 : decode cX10_next 26 = .ok (.getfield 19, 3) := by decide +kernel
theorem dX10_next_29 : decode cX10_next 29 = .ok (.iload_n 1, 1) := by decide +kernel
theorem dX10_next_30 : decode cX10_next 30 = .ok (.invokevirtual 182, 3) := by decide +kernel
theorem dX10_next_33 : decode cX10_next 33 = .ok (.istore_n 3, 1) := by decide +kernel
theorem dX10_next_34 : decode cX10_next 34 = .ok (.iload_n 3, 1) := by decide +kernel
theorem dX10_next_35 : decode cX10_next 35 = .ok (.iconst (-1), 1) := by decide +kernel
theorem dX10_next_36 : decode cX10_next 36 = .ok (.if_icmp .ne 6, 3) := by decide +kernel
theorem dX10_next_39 : decode cX10_next 39 = .ok (.bipush (-9), 2) := by decide +kernel
theorem dX10_next_41 : decode cX10_next 41 = .ok (.ireturn, 1) := by decide +kernel
theorem dX10_next_42 : decode cX10_next 42 = .ok (.iload_n 2, 1) := by decide +kernel
theorem dX10_next_43 : decode cX10_next 43 = .ok (.ifCond .ne 7, 3) := by decide +kernel
theorem dX10_next_46 : decode cX10_next 46 = .ok (.iload_n 3, 1) := by decide +kernel
theorem dX10_next_47 : decode cX10_next 47 = .ok (.goto 19, 3) := by decide +kernel
theorem dX10_next_50 : decode cX10_next 50 = .ok (.aload_n 0, 1) := by decide +kernel
theorem dX10_next_51 : decode cX10_next 51 = .ok (.getfield 19, 3) := by decide +kernel
theorem dX10_next_54 : decode cX10_next 54 = .ok (.aload_n 0, 1) := by decide +kernel
theorem dX10_next_55 : decode cX10_next 55 = .ok (.getfield 19, 3) := by decide +kernel
theorem dX10_next_58 : decode cX10_next 58 = .ok (.iload_n 1, 1) := by decide +kernel
theorem dX10_next_59 : decode cX10_next 59 = .ok (.invokevirtual 103, 3) := by decide +kernel
theorem dX10_next_62 : decode cX10_next 62 = .ok (.iload_n 3, 1) := by decide +kernel
theorem dX10_next_63 : decode cX10_next 63 = .ok (.invokevirtual 185, 3) := by decide +kernel
theorem dX10_next_66 : decode cX10_next 66 = .ok (.ireturn, 1) := by decide +kernel
theorem dX10_star_0 : decode cX10_star 0 = .ok (.aload_n 0, 1) := by decide +kernel
theorem dX10_star_1 : decode cX10_star 1 = .ok (.getfield 19, 3) := by decide +kernel
theorem dX10_star_4 : decode cX10_star 4 = .ok (.iload_n 1, 1) := by decide +kernel
theorem dX10_star_5 : decode cX10_star 5 = .ok (.invokevirtual 100, 3) := by decide +kernel
theorem dX10_star_8 : decode cX10_star 8 = .ok (.ifCond .ne 5, 3) := by decide +kernel
theorem dX10_star_11 : decode cX10_star 11 = .ok (.iconst (-1), 1) := by decide +kernel
theorem dX10_star_12 : decode cX10_star 12 = .ok (.ireturn, 1) := by decide +kernel
theorem dX10_star_13 : decode cX10_star 13 = .ok (.iload_n 2, 1) := by decide +kernel
theorem dX10_star_14 : decode cX10_star 14 = .ok (.iconst 1, 1) := by decide +kernel
theorem dX10_star_15 : decode cX10_star 15 = .ok (.bipush 11, 2) := by decide +kernel
theorem dX10_star_17 : decode cX10_star 17 = .ok (.invokestatic 72, 3) := by decide +kernel
theorem dX10_star_20 : decode cX10_star 20 = .ok (.ifCond .ne 23, 3) := by decide +kernel
theorem dX10_star_23 : decode cX10_star 23 = .ok (.iload_n 3, 1) := by decide +kernel
theorem dX10_star_24 : decode cX10_star 24 = .ok (.iconst 0, 1) := by decide +kernel
theorem dX10_star_25 : decode cX10_star 25 = .ok (.bipush 12, 2) := by decide +kernel
theorem dX10_star_27 : decode cX10_star 27 = .ok (.invokestatic 72, 3) := by decide +kernel
theorem dX10_star_30 : decode cX10_star 30 = .ok (.ifCond .ne 13, 3) := by decide +kernel
theorem dX10_star_33 : decode cX10_star 33 = .ok (.iload 4, 2) := by decide +kernel
theorem dX10_star_35 : decode cX10_star 35 = .ok (.iconst 0, 1) := by decide +kernel
theorem dX10_star_36 : decode cX10_star 36 = .ok (.iconst 2, 1) := by decide +kernel
theorem dX10_star_37 : decode cX10_star 37 = .ok (.invokestatic 72, 3) := by decide +kernel
theorem dX10_star_40 : decode cX10_star 40 = .ok (.ifCond .eq 6, 3) := by decide +kernel
theorem dX10_star_43 : decode cX10_star 43 = .ok (.bipush (-2), 2) := by decide +kernel
theorem dX10_star_45 : decode cX10_star 45 = .ok (.ireturn, 1) := by decide +kernel
theorem dX10_star_46 : decode cX10_star 46 = .ok (.aload_n 0, 1) := by decide +kernel
theorem dX10_star_47 : decode cX10_star 47 = .ok (.getfield 23, 3) := by decide +kernel
theorem dX10_star_50 : decode cX10_star 50 = .ok (.aload_n 0, 1) := by decide +kernel
theorem dX10_star_51 : decode cX10_star 51 = .ok (.getfield 19, 3) := by decide +kernel
theorem dX10_star_54 : decode cX10_star 54 = .ok (.invokevirtual 91, 3) := by decide +kernel
theorem dX10_star_57 : decode cX10_star 57 = .ok (.aload_n 0, 1) := by decide +kernel
theorem dX10_star_58 : decode cX10_star 58 = .ok (.getfield 23, 3) := by decide +kernel
theorem dX10_star_61 : decode cX10_star 61 = .ok (.iload_n 1, 1) := by decide +kernel
theorem dX10_star_62 : decode cX10_star 62 = .ok (.iload_n 2, 1) := by decide +kernel
theorem dX10_star_63 : decode cX10_star 63 = .ok (.iload_n 3, 1) := by decide +kernel
theorem dX10_star_64 : decode cX10_star 64 = .ok (.invokevirtual 188, 3) := by decide +kernel
theorem dX10_star_67 : decode cX10_star 67 = .ok (.istore 5, 2) := by decide +kernel
theorem dX10_star_69 : decode cX10_star 69 = .ok (.iload 4, 2) := by decide +kernel
theorem dX10_star_71 : decode cX10_star 71 = .ok (.lookupswitch 52 #[(0, 25), (1, 43)], 25) := by decide +kernel
theorem dX10_star_96 : decode cX10_star 96 = .ok (.aload_n 0, 1) := by decide +kernel
theorem dX10_star_97 : decode cX10_star 97 = .ok (.getfield 23, 3) := by decide +kernel
theorem dX10_star_100 : decode cX10_star 100 = .ok (.iload_n 1, 1) := by decide +kernel
theorem dX10_star_101 : decode cX10_star 101 = .ok (.invokevirtual 110, 3) := by decide +kernel
theorem dX10_star_104 : decode cX10_star 104 = .ok (.aload_n 0, 1) := by decide +kernel
theorem dX10_star_105 : decode cX10_star 105 = .ok (.getfield 19, 3) := by decide +kernel
theorem dX10_star_108 : decode cX10_star 108 = .ok (.iload_n 1, 1) := by decide +kernel
theorem dX10_star_109 : decode cX10_star 109 = .ok (.invokevirtual 110, 3) := by decide +kernel
theorem dX10_star_112 : decode cX10_star 112 = .ok (.isub, 1) := by decide +kernel
theorem dX10_star_113 : decode cX10_star 113 = .ok (.ireturn, 1) := by decide +kernel
theorem dX10_star_114 : decode cX10_star 114 = .ok (.aload_n 0, 1) := by decide +kernel
theorem dX10_star_115 : decode cX10_star 115 = .ok (.getfield 23, 3) := by decide +kernel
theorem dX10_star_118 : decode cX10_star 118 = .ok (.iload_n 1, 1) := by decide +kernel
theorem dX10_star_119 : decode cX10_star 119 = .ok (.invokevirtual 103, 3) := by decide +kernel
theorem dX10_star_122 : decode cX10_star 122 = .ok (.ireturn, 1) := by decide +kernel
theorem dX10_star_123 : decode cX10_star 123 = .ok (.iload 5, 2) := by decide +kernel
theorem dX10_star_125 : decode cX10_star 125 = .ok (.ireturn, 1) := by decide +kernel
theorem dX10_judge_0 : decode cX10_judge 0 = .ok (.iload_n 1, 1) := by decide +kernel
theorem dX10_judge_1 : decode cX10_judge 1 = .ok (.iconst 1, 1) := by decide +kernel
theorem dX10_judge_2 : decode cX10_judge 2 = .ok (.iconst 4, 1) := by decide +kernel
theorem dX10_judge_3 : decode cX10_judge 3 = .ok (.invokestatic 72, 3) := by decide +kernel
theorem dX10_judge_6 : decode cX10_judge 6 = .ok (.ifCond .ne 11, 3) := by decide +kernel
theorem dX10_judge_9 : decode cX10_judge 9 = .ok (.iload_n 1, 1) := by decide +kernel
theorem dX10_judge_10 : decode cX10_judge 10 = .ok (.lload_n 2, 1) := by decide +kernel
theorem dX10_judge_11 : decode cX10_judge 11 = .ok (.invokestatic 192, 3) := by decide +kernel
theorem dX10_judge_14 : decode cX10_judge 14 = .ok (.ifCond .eq 6, 3) := by decide +kernel
theorem dX10_judge_17 : decode cX10_judge 17 = .ok (.bipush (-2), 2) := by decide +kernel
theorem dX10_judge_19 : decode cX10_judge 19 = .ok (.ireturn, 1) := by decide +kernel
theorem dX10_judge_20 : decode cX10_judge 20 = .ok (.aload_n 0, 1) := by decide +kernel
theorem dX10_judge_21 : decode cX10_judge 21 = .ok (.getfield 23, 3) := by decide +kernel
theorem dX10_judge_24 : decode cX10_judge 24 = .ok (.aload_n 0, 1) := by decide +kernel
theorem dX10_judge_25 : decode cX10_judge 25 = .ok (.getfield 19, 3) := by decide +kernel
theorem dX10_judge_28 : decode cX10_judge 28 = .ok (.invokevirtual 91, 3) := by decide +kernel
theorem dX10_judge_31 : decode cX10_judge 31 = .ok (.iload_n 1, 1) := by decide +kernel
theorem dX10_judge_32 : decode cX10_judge 32 = .ok (.lload_n 2, 1) := by decide +kernel
theorem dX10_judge_33 : decode cX10_judge 33 = .ok (.aload_n 0, 1) := by decide +kernel
theorem dX10_judge_34 : decode cX10_judge 34 = .ok (.getfield 23, 3) := by decide +kernel
theorem dX10_judge_37 : decode cX10_judge 37 = .ok (.aload_n 0, 1) := by decide +kernel
theorem dX10_judge_38 : decode cX10_judge 38 = .ok (.getfield 50, 3) := by decide +kernel
theorem dX10_judge_41 : decode cX10_judge 41 = .ok (.invokestatic 198, 3) := by decide +kernel
theorem dX10_judge_44 : decode cX10_judge 44 = .ok (.ireturn, 1) := by decide +kernel
theorem dX10_see_0 : decode cX10_see 0 = .ok (.iload_n 2, 1) := by decide +kernel
theorem dX10_see_1 : decode cX10_see 1 = .ok (.iconst 0, 1) := by decide +kernel
theorem dX10_see_2 : decode cX10_see 2 = .ok (.bipush 11, 2) := by decide +kernel
theorem dX10_see_4 : decode cX10_see 4 = .ok (.invokestatic 72, 3) := by decide +kernel
theorem dX10_see_7 : decode cX10_see 7 = .ok (.ifCond .eq 5, 3) := by decide +kernel
theorem dX10_see_10 : decode cX10_see 10 = .ok (.iconst (-1), 1) := by decide +kernel
