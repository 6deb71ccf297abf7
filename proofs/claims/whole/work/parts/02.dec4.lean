theorem dX10_see_11 : decode cX10_see 11 = .ok (.ireturn, 1) := by decide +kernel
theorem dX10_see_12 : decode cX10_see 12 = .ok (.iload_n 1, 1) := by decide +kernel
theorem dX10_see_13 : decode cX10_see 13 = .ok (.iconst 0, 1) := by decide +kernel
theorem dX10_see_14 : decode cX10_see 14 = .ok (.bipush 12, 2) := by decide +kernel
theorem dX10_see_16 : decode cX10_see 16 = .ok (.invokestatic 72, 3) := by decide +kernel
theorem dX10_see_19 : decode cX10_see 19 = .ok (.ifCond .ne 12, 3) := by decide +kernel
theorem dX10_see_22 : decode cX10_see 22 = .ok (.iload_n 3, 1) := by decide +kernel
theorem dX10_see_23 : decode cX10_see 23 = .ok (.iconst 0, 1) := by decide +kernel
theorem dX10_see_24 : decode cX10_see 24 = .ok (.iconst 1, 1) := by decide +kernel
theorem dX10_see_25 : decode cX10_see 25 = .ok (.invokestatic 72, 3) := by decide +kernel
theorem dX10_see_28 : decode cX10_see 28 = .ok (.ifCond .eq 6, 3) := by decide +kernel
theorem dX10_see_31 : decode cX10_see 31 = .ok (.bipush (-2), 2) := by decide +kernel
theorem dX10_see_33 : decode cX10_see 33 = .ok (.ireturn, 1) := by decide +kernel
theorem dX10_see_34 : decode cX10_see 34 = .ok (.aload_n 0, 1) := by decide +kernel
theorem dX10_see_35 : decode cX10_see 35 = .ok (.getfield 43, 3) := by decide +kernel
theorem dX10_see_38 : decode cX10_see 38 = .ok (.iload_n 1, 1) := by decide +kernel
theorem dX10_see_39 : decode cX10_see 39 = .ok (.iload_n 2, 1) := by decide +kernel
theorem dX10_see_40 : decode cX10_see 40 = .ok (.iload_n 3, 1) := by decide +kernel
theorem dX10_see_41 : decode cX10_see 41 = .ok (.invokevirtual 202, 3) := by decide +kernel
theorem dX10_see_44 : decode cX10_see 44 = .ok (.ifCond .eq 13, 3) := by decide +kernel
theorem dX10_see_47 : decode cX10_see 47 = .ok (.aload_n 0, 1) := by decide +kernel
theorem dX10_see_48 : decode cX10_see 48 = .ok (.getfield 43, 3) := by decide +kernel
theorem dX10_see_51 : decode cX10_see 51 = .ok (.invokevirtual 204, 3) := by decide +kernel
theorem dX10_see_54 : decode cX10_see 54 = .ok (.goto 5, 3) := by decide +kernel
theorem dX10_see_57 : decode cX10_see 57 = .ok (.bipush (-4), 2) := by decide +kernel
theorem dX10_see_59 : decode cX10_see 59 = .ok (.ireturn, 1) := by decide +kernel
theorem dX10_unsee_0 : decode cX10_unsee 0 = .ok (.aload_n 0, 1) := by decide +kernel
theorem dX10_unsee_1 : decode cX10_unsee 1 = .ok (.getfield 43, 3) := by decide +kernel
theorem dX10_unsee_4 : decode cX10_unsee 4 = .ok (.invokevirtual 204, 3) := by decide +kernel
theorem dX10_unsee_7 : decode cX10_unsee 7 = .ok (.istore_n 1, 1) := by decide +kernel
theorem dX10_unsee_8 : decode cX10_unsee 8 = .ok (.aload_n 0, 1) := by decide +kernel
theorem dX10_unsee_9 : decode cX10_unsee 9 = .ok (.getfield 43, 3) := by decide +kernel
theorem dX10_unsee_12 : decode cX10_unsee 12 = .ok (.invokevirtual 205, 3) := by decide +kernel
theorem dX10_unsee_15 : decode cX10_unsee 15 = .ok (.iload_n 1, 1) := by decide +kernel
theorem dX10_unsee_16 : decode cX10_unsee 16 = .ok (.ireturn, 1) := by decide +kernel
theorem dX10_stars_0 : decode cX10_stars 0 = .ok (.iload_n 1, 1) := by decide +kernel
theorem dX10_stars_1 : decode cX10_stars 1 = .ok (.lookupswitch 43 #[(0, 27), (1, 35)], 27) := by decide +kernel
theorem dX10_stars_28 : decode cX10_stars 28 = .ok (.aload_n 0, 1) := by decide +kernel
theorem dX10_stars_29 : decode cX10_stars 29 = .ok (.getfield 43, 3) := by decide +kernel
theorem dX10_stars_32 : decode cX10_stars 32 = .ok (.invokevirtual 206, 3) := by decide +kernel
theorem dX10_stars_35 : decode cX10_stars 35 = .ok (.ireturn, 1) := by decide +kernel
theorem dX10_stars_36 : decode cX10_stars 36 = .ok (.aload_n 0, 1) := by decide +kernel
theorem dX10_stars_37 : decode cX10_stars 37 = .ok (.getfield 43, 3) := by decide +kernel
theorem dX10_stars_40 : decode cX10_stars 40 = .ok (.invokevirtual 209, 3) := by decide +kernel
theorem dX10_stars_43 : decode cX10_stars 43 = .ok (.ireturn, 1) := by decide +kernel
theorem dX10_stars_44 : decode cX10_stars 44 = .ok (.bipush (-2), 2) := by decide +kernel
theorem dX10_stars_46 : decode cX10_stars 46 = .ok (.ireturn, 1) := by decide +kernel
theorem dX10_share_0 : decode cX10_share 0 = .ok (.aload_n 0, 1) := by decide +kernel
theorem dX10_share_1 : decode cX10_share 1 = .ok (.getfield 19, 3) := by decide +kernel
theorem dX10_share_4 : decode cX10_share 4 = .ok (.iload_n 1, 1) := by decide +kernel
theorem dX10_share_5 : decode cX10_share 5 = .ok (.invokevirtual 100, 3) := by decide +kernel
theorem dX10_share_8 : decode cX10_share 8 = .ok (.ifCond .ne 5, 3) := by decide +kernel
theorem dX10_share_11 : decode cX10_share 11 = .ok (.iconst (-1), 1) := by decide +kernel
theorem dX10_share_12 : decode cX10_share 12 = .ok (.ireturn, 1) := by decide +kernel
theorem dX10_share_13 : decode cX10_share 13 = .ok (.aload_n 0, 1) := by decide +kernel
theorem dX10_share_14 : decode cX10_share 14 = .ok (.getfield 19, 3) := by decide +kernel
theorem dX10_share_17 : decode cX10_share 17 = .ok (.iload_n 1, 1) := by decide +kernel
theorem dX10_share_18 : decode cX10_share 18 = .ok (.invokestatic 212, 3) := by decide +kernel
theorem dX10_share_21 : decode cX10_share 21 = .ok (.iconst 2, 1) := by decide +kernel
theorem dX10_share_22 : decode cX10_share 22 = .ok (.iload_n 2, 1) := by decide +kernel
theorem dX10_share_23 : decode cX10_share 23 = .ok (.invokestatic 216, 3) := by decide +kernel
theorem dX10_share_26 : decode cX10_share 26 = .ok (.ireturn, 1) := by decide +kernel
theorem dX10_rests_0 : decode cX10_rests 0 = .ok (.aload_n 0, 1) := by decide +kernel
theorem dX10_rests_1 : decode cX10_rests 1 = .ok (.getfield 19, 3) := by decide +kernel
theorem dX10_rests_4 : decode cX10_rests 4 = .ok (.iload_n 1, 1) := by decide +kernel
theorem dX10_rests_5 : decode cX10_rests 5 = .ok (.invokevirtual 100, 3) := by decide +kernel
theorem dX10_rests_8 : decode cX10_rests 8 = .ok (.ifCond .eq 14, 3) := by decide +kernel
theorem dX10_rests_11 : decode cX10_rests 11 = .ok (.aload_n 0, 1) := by decide +kernel
theorem dX10_rests_12 : decode cX10_rests 12 = .ok (.getfield 19, 3) := by decide +kernel
theorem dX10_rests_15 : decode cX10_rests 15 = .ok (.iload_n 2, 1) := by decide +kernel
theorem dX10_rests_16 : decode cX10_rests 16 = .ok (.invokevirtual 100, 3) := by decide +kernel
theorem dX10_rests_19 : decode cX10_rests 19 = .ok (.ifCond .ne 5, 3) := by decide +kernel
theorem dX10_rests_22 : decode cX10_rests 22 = .ok (.iconst (-1), 1) := by decide +kernel
theorem dX10_rests_23 : decode cX10_rests 23 = .ok (.ireturn, 1) := by decide +kernel
theorem dX10_rests_24 : decode cX10_rests 24 = .ok (.iload_n 1, 1) := by decide +kernel
theorem dX10_rests_25 : decode cX10_rests 25 = .ok (.iload_n 2, 1) := by decide +kernel
theorem dX10_rests_26 : decode cX10_rests 26 = .ok (.if_icmp .eq 12, 3) := by decide +kernel
theorem dX10_rests_29 : decode cX10_rests 29 = .ok (.iload_n 3, 1) := by decide +kernel
theorem dX10_rests_30 : decode cX10_rests 30 = .ok (.iconst 0, 1) := by decide +kernel
theorem dX10_rests_31 : decode cX10_rests 31 = .ok (.iconst 1, 1) := by decide +kernel
theorem dX10_rests_32 : decode cX10_rests 32 = .ok (.invokestatic 72, 3) := by decide +kernel
theorem dX10_rests_35 : decode cX10_rests 35 = .ok (.ifCond .eq 6, 3) := by decide +kernel
theorem dX10_rests_38 : decode cX10_rests 38 = .ok (.bipush (-2), 2) := by decide +kernel
theorem dX10_rests_40 : decode cX10_rests 40 = .ok (.ireturn, 1) := by decide +kernel
theorem dX10_rests_41 : decode cX10_rests 41 = .ok (.aload_n 0, 1) := by decide +kernel
theorem dX10_rests_42 : decode cX10_rests 42 = .ok (.getfield 57, 3) := by decide +kernel
theorem dX10_rests_45 : decode cX10_rests 45 = .ok (.aload_n 0, 1) := by decide +kernel
theorem dX10_rests_46 : decode cX10_rests 46 = .ok (.getfield 19, 3) := by decide +kernel
theorem dX10_rests_49 : decode cX10_rests 49 = .ok (.aload_n 0, 1) := by decide +kernel
theorem dX10_rests_50 : decode cX10_rests 50 = .ok (.getfield 23, 3) := by decide +kernel
theorem dX10_rests_53 : decode cX10_rests 53 = .ok (.iload_n 1, 1) := by decide +kernel
theorem dX10_rests_54 : decode cX10_rests 54 = .ok (.iload_n 2, 1) := by decide +kernel
theorem dX10_rests_55 : decode cX10_rests 55 = .ok (.invokevirtual 220, 3) := by decide +kernel
theorem dX10_rests_58 : decode cX10_rests 58 = .ok (.iload_n 3, 1) := by decide +kernel
theorem dX10_rests_59 : decode cX10_rests 59 = .ok (.ifCond .ne 13, 3) := by decide +kernel
theorem dX10_rests_62 : decode cX10_rests 62 = .ok (.aload_n 0, 1) := by decide +kernel
theorem dX10_rests_63 : decode cX10_rests 63 = .ok (.getfield 57, 3) := by decide +kernel
theorem dX10_rests_66 : decode cX10_rests 66 = .ok (.invokevirtual 224, 3) := by decide +kernel
theorem dX10_rests_69 : decode cX10_rests 69 = .ok (.goto 10, 3) := by decide +kernel
theorem dX10_rests_72 : decode cX10_rests 72 = .ok (.aload_n 0, 1) := by decide +kernel
theorem dX10_rests_73 : decode cX10_rests 73 = .ok (.getfield 57, 3) := by decide +kernel
theorem dX10_rests_76 : decode cX10_rests 76 = .ok (.invokevirtual 225, 3) := by decide +kernel
theorem dX10_rests_79 : decode cX10_rests 79 = .ok (.ireturn, 1) := by decide +kernel
theorem dX10_snaps_0 : decode cX10_snaps 0 = .ok (.iload_n 1, 1) := by decide +kernel
theorem dX10_snaps_1 : decode cX10_snaps 1 = .ok (.iconst 0, 1) := by decide +kernel
theorem dX10_snaps_2 : decode cX10_snaps 2 = .ok (.bipush 99, 2) := by decide +kernel
theorem dX10_snaps_4 : decode cX10_snaps 4 = .ok (.invokestatic 72, 3) := by decide +kernel
theorem dX10_snaps_7 : decode cX10_snaps 7 = .ok (.ifCond .ne 13, 3) := by decide +kernel
theorem dX10_snaps_10 : decode cX10_snaps 10 = .ok (.iload_n 2, 1) := by decide +kernel
theorem dX10_snaps_11 : decode cX10_snaps 11 = .ok (.iconst 0, 1) := by decide +kernel
theorem dX10_snaps_12 : decode cX10_snaps 12 = .ok (.bipush 10, 2) := by decide +kernel
theorem dX10_snaps_14 : decode cX10_snaps 14 = .ok (.invokestatic 72, 3) := by decide +kernel
theorem dX10_snaps_17 : decode cX10_snaps 17 = .ok (.ifCond .eq 6, 3) := by decide +kernel
theorem dX10_snaps_20 : decode cX10_snaps 20 = .ok (.bipush (-2), 2) := by decide +kernel
theorem dX10_snaps_22 : decode cX10_snaps 22 = .ok (.ireturn, 1) := by decide +kernel
theorem dX10_snaps_23 : decode cX10_snaps 23 = .ok (.aload_n 0, 1) := by decide +kernel
theorem dX10_snaps_24 : decode cX10_snaps 24 = .ok (.getfield 64, 3) := by decide +kernel
theorem dX10_snaps_27 : decode cX10_snaps 27 = .ok (.aload_n 0, 1) := by decide +kernel
theorem dX10_snaps_28 : decode cX10_snaps 28 = .ok (.getfield 19, 3) := by decide +kernel
theorem dX10_snaps_31 : decode cX10_snaps 31 = .ok (.iload_n 1, 1) := by decide +kernel
theorem dX10_snaps_32 : decode cX10_snaps 32 = .ok (.iload_n 2, 1) := by decide +kernel
theorem dX10_snaps_33 : decode cX10_snaps 33 = .ok (.invokevirtual 228, 3) := by decide +kernel
theorem dX10_snaps_36 : decode cX10_snaps 36 = .ok (.aload_n 0, 1) := by decide +kernel
theorem dX10_snaps_37 : decode cX10_snaps 37 = .ok (.getfield 19, 3) := by decide +kernel
theorem dX10_snaps_40 : decode cX10_snaps 40 = .ok (.invokestatic 232, 3) := by decide +kernel
theorem dX10_snaps_43 : decode cX10_snaps 43 = .ok (.iload_n 3, 1) := by decide +kernel
theorem dX10_snaps_44 : decode cX10_snaps 44 = .ok (.invokestatic 216, 3) := by decide +kernel
theorem dX10_snaps_47 : decode cX10_snaps 47 = .ok (.ireturn, 1) := by decide +kernel
theorem dX10_seed_0 : decode cX10_seed 0 = .ok (.aload_n 0, 1) := by decide +kernel
theorem dX10_seed_1 : decode cX10_seed 1 = .ok (.getfield 68, 3) := by decide +kernel
theorem dX10_seed_4 : decode cX10_seed 4 = .ok (.lstore_n 3, 1) := by decide +kernel
theorem dX10_seed_5 : decode cX10_seed 5 = .ok (.aload_n 0, 1) := by decide +kernel
theorem dX10_seed_6 : decode cX10_seed 6 = .ok (.lload_n 1, 1) := by decide +kernel
theorem dX10_seed_7 : decode cX10_seed 7 = .ok (.putfield 68, 3) := by decide +kernel
theorem dX10_seed_10 : decode cX10_seed 10 = .ok (.lload_n 3, 1) := by decide +kernel
theorem dX10_seed_11 : decode cX10_seed 11 = .ok (.lreturn, 1) := by decide +kernel
theorem dX10_years_0 : decode cX10_years 0 = .ok (.iload_n 1, 1) := by decide +kernel
theorem dX10_years_1 : decode cX10_years 1 = .ok (.iconst 1, 1) := by decide +kernel
theorem dX10_years_2 : decode cX10_years 2 = .ok (.bipush 30, 2) := by decide +kernel
theorem dX10_years_4 : decode cX10_years 4 = .ok (.invokestatic 72, 3) := by decide +kernel
theorem dX10_years_7 : decode cX10_years 7 = .ok (.ifCond .eq 6, 3) := by decide +kernel
theorem dX10_years_10 : decode cX10_years 10 = .ok (.bipush (-2), 2) := by decide +kernel
theorem dX10_years_12 : decode cX10_years 12 = .ok (.ireturn, 1) := by decide +kernel
theorem dX10_years_13 : decode cX10_years 13 = .ok (.aload_n 0, 1) := by decide +kernel
theorem dX10_years_14 : decode cX10_years 14 = .ok (.getfield 23, 3) := by decide +kernel
theorem dX10_years_17 : decode cX10_years 17 = .ok (.aload_n 0, 1) := by decide +kernel
theorem dX10_years_18 : decode cX10_years 18 = .ok (.getfield 19, 3) := by decide +kernel
theorem dX10_years_21 : decode cX10_years 21 = .ok (.invokevirtual 91, 3) := by decide +kernel
theorem dX10_years_24 : decode cX10_years 24 = .ok (.iconst 0, 1) := by decide +kernel
theorem dX10_years_25 : decode cX10_years 25 = .ok (.istore_n 2, 1) := by decide +kernel
theorem dX10_years_26 : decode cX10_years 26 = .ok (.iconst 0, 1) := by decide +kernel
theorem dX10_years_27 : decode cX10_years 27 = .ok (.istore_n 3, 1) := by decide +kernel
theorem dX10_years_28 : decode cX10_years 28 = .ok (.iload_n 3, 1) := by decide +kernel
theorem dX10_years_29 : decode cX10_years 29 = .ok (.iload_n 1, 1) := by decide +kernel
theorem dX10_years_30 : decode cX10_years 30 = .ok (.if_icmp .ge 41, 3) := by decide +kernel
theorem dX10_years_33 : decode cX10_years 33 = .ok (.aload_n 0, 1) := by decide +kernel
theorem dX10_years_34 : decode cX10_years 34 = .ok (.aload_n 0, 1) := by decide +kernel
theorem dX10_years_35 : decode cX10_years 35 = .ok (.getfield 68, 3) := by decide +kernel
theorem dX10_years_38 : decode cX10_years 38 = .ok (.invokestatic 235, 3) := by decide +kernel
theorem dX10_years_41 : decode cX10_years 41 = .ok (.putfield 68, 3) := by decide +kernel
theorem dX10_years_44 : decode cX10_years 44 = .ok (.aload_n 0, 1) := by decide +kernel
theorem dX10_years_45 : decode cX10_years 45 = .ok (.getfield 23, 3) := by decide +kernel
theorem dX10_years_48 : decode cX10_years 48 = .ok (.aload_n 0, 1) := by decide +kernel
theorem dX10_years_49 : decode cX10_years 49 = .ok (.getfield 68, 3) := by decide +kernel
theorem dX10_years_52 : decode cX10_years 52 = .ok (.invokestatic 239, 3) := by decide +kernel
theorem dX10_years_55 : decode cX10_years 55 = .ok (.iload_n 2, 1) := by decide +kernel
theorem dX10_years_56 : decode cX10_years 56 = .ok (.aload_n 0, 1) := by decide +kernel
theorem dX10_years_57 : decode cX10_years 57 = .ok (.getfield 23, 3) := by decide +kernel
theorem dX10_years_60 : decode cX10_years 60 = .ok (.invokevirtual 243, 3) := by decide +kernel
theorem dX10_years_63 : decode cX10_years 63 = .ok (.iadd, 1) := by decide +kernel
theorem dX10_years_64 : decode cX10_years 64 = .ok (.istore_n 2, 1) := by decide +kernel
theorem dX10_years_65 : decode cX10_years 65 = .ok (.iinc 3 1, 3) := by decide +kernel
theorem dX10_years_68 : decode cX10_years 68 = .ok (.goto (-40), 3) := by decide +kernel
theorem dX10_years_71 : decode cX10_years 71 = .ok (.iload_n 2, 1) := by decide +kernel
theorem dX10_years_72 : decode cX10_years 72 = .ok (.ireturn, 1) := by decide +kernel
theorem dX10_keep_0 : decode cX10_keep 0 = .ok (.iload_n 1, 1) := by decide +kernel
theorem dX10_keep_1 : decode cX10_keep 1 = .ok (.iconst 0, 1) := by decide +kernel
theorem dX10_keep_2 : decode cX10_keep 2 = .ok (.iconst 1, 1) := by decide +kernel
theorem dX10_keep_3 : decode cX10_keep 3 = .ok (.invokestatic 72, 3) := by decide +kernel
theorem dX10_keep_6 : decode cX10_keep 6 = .ok (.ifCond .eq 5, 3) := by decide +kernel
theorem dX10_keep_9 : decode cX10_keep 9 = .ok (.iconst (-1), 1) := by decide +kernel
theorem dX10_keep_10 : decode cX10_keep 10 = .ok (.ireturn, 1) := by decide +kernel
theorem dX10_keep_11 : decode cX10_keep 11 = .ok (.aload_n 0, 1) := by decide +kernel
theorem dX10_keep_12 : decode cX10_keep 12 = .ok (.getfield 36, 3) := by decide +kernel
theorem dX10_keep_15 : decode cX10_keep 15 = .ok (.iload_n 1, 1) := by decide +kernel
theorem dX10_keep_16 : decode cX10_keep 16 = .ok (.aload_n 0, 1) := by decide +kernel
theorem dX10_keep_17 : decode cX10_keep 17 = .ok (.getfield 19, 3) := by decide +kernel
theorem dX10_keep_20 : decode cX10_keep 20 = .ok (.invokevirtual 246, 3) := by decide +kernel
theorem dX10_keep_23 : decode cX10_keep 23 = .ok (.aload_n 0, 1) := by decide +kernel
theorem dX10_keep_24 : decode cX10_keep 24 = .ok (.getfield 19, 3) := by decide +kernel
theorem dX10_keep_27 : decode cX10_keep 27 = .ok (.invokevirtual 162, 3) := by decide +kernel
theorem dX10_keep_30 : decode cX10_keep 30 = .ok (.ireturn, 1) := by decide +kernel
theorem dX10_again_0 : decode cX10_again 0 = .ok (.iload_n 1, 1) := by decide +kernel
theorem dX10_again_1 : decode cX10_again 1 = .ok (.iconst 0, 1) := by decide +kernel
theorem dX10_again_2 : decode cX10_again 2 = .ok (.iconst 1, 1) := by decide +kernel
theorem dX10_again_3 : decode cX10_again 3 = .ok (.invokestatic 72, 3) := by decide +kernel
theorem dX10_again_6 : decode cX10_again 6 = .ok (.ifCond .eq 5, 3) := by decide +kernel
theorem dX10_again_9 : decode cX10_again 9 = .ok (.iconst (-1), 1) := by decide +kernel
theorem dX10_again_10 : decode cX10_again 10 = .ok (.ireturn, 1) := by decide +kernel
theorem dX10_again_11 : decode cX10_again 11 = .ok (.aload_n 0, 1) := by decide +kernel
theorem dX10_again_12 : decode cX10_again 12 = .ok (.getfield 36, 3) := by decide +kernel
theorem dX10_again_15 : decode cX10_again 15 = .ok (.iload_n 1, 1) := by decide +kernel
theorem dX10_again_16 : decode cX10_again 16 = .ok (.aload_n 0, 1) := by decide +kernel
theorem dX10_again_17 : decode cX10_again 17 = .ok (.getfield 19, 3) := by decide +kernel
theorem dX10_again_20 : decode cX10_again 20 = .ok (.invokevirtual 250, 3) := by decide +kernel
theorem dX10_again_23 : decode cX10_again 23 = .ok (.ifCond .ne 6, 3) := by decide +kernel
theorem dX10_again_26 : decode cX10_again 26 = .ok (.bipush (-3), 2) := by decide +kernel
theorem dX10_again_28 : decode cX10_again 28 = .ok (.ireturn, 1) := by decide +kernel
theorem dX10_again_29 : decode cX10_again 29 = .ok (.aload_n 0, 1) := by decide +kernel
theorem dX10_again_30 : decode cX10_again 30 = .ok (.getfield 29, 3) := by decide +kernel
theorem dX10_again_33 : decode cX10_again 33 = .ok (.invokevirtual 95, 3) := by decide +kernel
theorem dX10_again_36 : decode cX10_again 36 = .ok (.aload_n 0, 1) := by decide +kernel
theorem dX10_again_37 : decode cX10_again 37 = .ok (.getfield 19, 3) := by decide +kernel
theorem dX10_again_40 : decode cX10_again 40 = .ok (.invokevirtual 162, 3) := by decide +kernel
theorem dX10_again_43 : decode cX10_again 43 = .ok (.ireturn, 1) := by decide +kernel
theorem dX10_count_0 : decode cX10_count 0 = .ok (.iload_n 1, 1) := by decide +kernel
theorem dX10_count_1 : decode cX10_count 1 = .ok (.tableswitch 111 0 7 #[47, 55, 63, 71, 79, 87, 95, 103], 47) := by decide +kernel
theorem dX10_count_48 : decode cX10_count 48 = .ok (.aload_n 0, 1) := by decide +kernel
theorem dX10_count_49 : decode cX10_count 49 = .ok (.getfield 10, 3) := by decide +kernel
theorem dX10_count_52 : decode cX10_count 52 = .ok (.invokevirtual 80, 3) := by decide +kernel
theorem dX10_count_55 : decode cX10_count 55 = .ok (.ireturn, 1) := by decide +kernel
theorem dX10_count_56 : decode cX10_count 56 = .ok (.aload_n 0, 1) := by decide +kernel
theorem dX10_count_57 : decode cX10_count 57 = .ok (.getfield 19, 3) := by decide +kernel
theorem dX10_count_60 : decode cX10_count 60 = .ok (.invokevirtual 97, 3) := by decide +kernel
theorem dX10_count_63 : decode cX10_count 63 = .ok (.ireturn, 1) := by decide +kernel
theorem dX10_count_64 : decode cX10_count 64 = .ok (.aload_n 0, 1) := by decide +kernel
theorem dX10_count_65 : decode cX10_count 65 = .ok (.getfield 19, 3) := by decide +kernel
theorem dX10_count_68 : decode cX10_count 68 = .ok (.invokevirtual 162, 3) := by decide +kernel
theorem dX10_count_71 : decode cX10_count 71 = .ok (.ireturn, 1) := by decide +kernel
theorem dX10_count_72 : decode cX10_count 72 = .ok (.aload_n 0, 1) := by decide +kernel
theorem dX10_count_73 : decode cX10_count 73 = .ok (.getfield 19, 3) := by decide +kernel
theorem dX10_count_76 : decode cX10_count 76 = .ok (.invokevirtual 243, 3) := by decide +kernel
theorem dX10_count_79 : decode cX10_count 79 = .ok (.ireturn, 1) := by decide +kernel
theorem dX10_count_80 : decode cX10_count 80 = .ok (.aload_n 0, 1) := by decide +kernel
theorem dX10_count_81 : decode cX10_count 81 = .ok (.getfield 19, 3) := by decide +kernel
theorem dX10_count_84 : decode cX10_count 84 = .ok (.invokevirtual 254, 3) := by decide +kernel
theorem dX10_count_87 : decode cX10_count 87 = .ok (.ireturn, 1) := by decide +kernel
theorem dX10_count_88 : decode cX10_count 88 = .ok (.aload_n 0, 1) := by decide +kernel
theorem dX10_count_89 : decode cX10_count 89 = .ok (.getfield 19, 3) := by decide +kernel
theorem dX10_count_92 : decode cX10_count 92 = .ok (.invokevirtual 257, 3) := by decide +kernel
theorem dX10_count_95 : decode cX10_count 95 = .ok (.ireturn, 1) := by decide +kernel
theorem dX10_count_96 : decode cX10_count 96 = .ok (.aload_n 0, 1) := by decide +kernel
theorem dX10_count_97 : decode cX10_count 97 = .ok (.getfield 29, 3) := by decide +kernel
theorem dX10_count_100 : decode cX10_count 100 = .ok (.invokevirtual 172, 3) := by decide +kernel
theorem dX10_count_103 : decode cX10_count 103 = .ok (.ireturn, 1) := by decide +kernel
theorem dX10_count_104 : decode cX10_count 104 = .ok (.aload_n 0, 1) := by decide +kernel
theorem dX10_count_105 : decode cX10_count 105 = .ok (.getfield 43, 3) := by decide +kernel
theorem dX10_count_108 : decode cX10_count 108 = .ok (.invokevirtual 204, 3) := by decide +kernel
theorem dX10_count_111 : decode cX10_count 111 = .ok (.ireturn, 1) := by decide +kernel
theorem dX10_count_112 : decode cX10_count 112 = .ok (.bipush (-2), 2) := by decide +kernel
theorem dX10_count_114 : decode cX10_count 114 = .ok (.ireturn, 1) := by decide +kernel
theorem dX10_isOutside_0 : decode cX10_isOutside 0 = .ok (.iload_n 0, 1) := by decide +kernel
theorem dX10_isOutside_1 : decode cX10_isOutside 1 = .ok (.iload_n 1, 1) := by decide +kernel
theorem dX10_isOutside_2 : decode cX10_isOutside 2 = .ok (.if_icmp .lt 8, 3) := by decide +kernel
theorem dX10_isOutside_5 : decode cX10_isOutside 5 = .ok (.iload_n 0, 1) := by decide +kernel
theorem dX10_isOutside_6 : decode cX10_isOutside 6 = .ok (.iload_n 2, 1) := by decide +kernel
theorem dX10_isOutside_7 : decode cX10_isOutside 7 = .ok (.if_icmp .le 7, 3) := by decide +kernel
theorem dX10_isOutside_10 : decode cX10_isOutside 10 = .ok (.iconst 1, 1) := by decide +kernel
theorem dX10_isOutside_11 : decode cX10_isOutside 11 = .ok (.goto 4, 3) := by decide +kernel
theorem dX10_isOutside_14 : decode cX10_isOutside 14 = .ok (.iconst 0, 1) := by decide +kernel
theorem dX10_isOutside_15 : decode cX10_isOutside 15 = .ok (.ireturn, 1) := by decide +kernel
theorem dX11_init_0 : decode cX11_init 0 = .ok (.aload_n 0, 1) := by decide +kernel
theorem dX11_init_1 : decode cX11_init 1 = .ok (.invokespecial 1, 3) := by decide +kernel
theorem dX11_init_4 : decode cX11_init 4 = .ok (.aload_n 0, 1) := by decide +kernel
theorem dX11_init_5 : decode cX11_init 5 = .ok (.iconst 4, 1) := by decide +kernel
theorem dX11_init_6 : decode cX11_init 6 = .ok (.newarray .int, 2) := by decide +kernel
theorem dX11_init_8 : decode cX11_init 8 = .ok (.putfield 7, 3) := by decide +kernel
theorem dX11_init_11 : decode cX11_init 11 = .ok (.aload_n 0, 1) := by decide +kernel
theorem dX11_init_12 : decode cX11_init 12 = .ok (.bipush 106, 2) := by decide +kernel
theorem dX11_init_14 : decode cX11_init 14 = .ok (.newarray .int, 2) := by decide +kernel
theorem dX11_init_16 : decode cX11_init 16 = .ok (.putfield 13, 3) := by decide +kernel
theorem dX11_init_19 : decode cX11_init 19 = .ok (.aload_n 0, 1) := by decide +kernel
theorem dX11_init_20 : decode cX11_init 20 = .ok (.iconst 4, 1) := by decide +kernel
theorem dX11_init_21 : decode cX11_init 21 = .ok (.newarray .int, 2) := by decide +kernel
theorem dX11_init_23 : decode cX11_init 23 = .ok (.putfield 16, 3) := by decide +kernel
theorem dX11_init_26 : decode cX11_init 26 = .ok (.aload_n 0, 1) := by decide +kernel
theorem dX11_init_27 : decode cX11_init 27 = .ok (.bipush 48, 2) := by decide +kernel
theorem dX11_init_29 : decode cX11_init 29 = .ok (.newarray .int, 2) := by decide +kernel
theorem dX11_init_31 : decode cX11_init 31 = .ok (.putfield 19, 3) := by decide +kernel
theorem dX11_init_34 : decode cX11_init 34 = .ok (.aload_n 0, 1) := by decide +kernel
theorem dX11_init_35 : decode cX11_init 35 = .ok (.bipush 48, 2) := by decide +kernel
theorem dX11_init_37 : decode cX11_init 37 = .ok (.newarray .int, 2) := by decide +kernel
theorem dX11_init_39 : decode cX11_init 39 = .ok (.putfield 22, 3) := by decide +kernel
theorem dX11_init_42 : decode cX11_init 42 = .ok (.aload_n 0, 1) := by decide +kernel
theorem dX11_init_43 : decode cX11_init 43 = .ok (.sipush 742, 3) := by decide +kernel
theorem dX11_init_46 : decode cX11_init 46 = .ok (.newarray .int, 2) := by decide +kernel
theorem dX11_init_48 : decode cX11_init 48 = .ok (.putfield 25, 3) := by decide +kernel
theorem dX11_init_51 : decode cX11_init 51 = .ok (.aload_n 0, 1) := by decide +kernel
theorem dX11_init_52 : decode cX11_init 52 = .ok (.sipush 144, 3) := by decide +kernel
theorem dX11_init_55 : decode cX11_init 55 = .ok (.newarray .int, 2) := by decide +kernel
theorem dX11_init_57 : decode cX11_init 57 = .ok (.putfield 28, 3) := by decide +kernel
theorem dX11_init_60 : decode cX11_init 60 = .ok (.aload_n 0, 1) := by decide +kernel
theorem dX11_init_61 : decode cX11_init 61 = .ok (.bipush 6, 2) := by decide +kernel
theorem dX11_init_63 : decode cX11_init 63 = .ok (.newarray .int, 2) := by decide +kernel
theorem dX11_init_65 : decode cX11_init 65 = .ok (.putfield 31, 3) := by decide +kernel
theorem dX11_init_68 : decode cX11_init 68 = .ok (.aload_n 0, 1) := by decide +kernel
theorem dX11_init_69 : decode cX11_init 69 = .ok (.bipush 6, 2) := by decide +kernel
theorem dX11_init_71 : decode cX11_init 71 = .ok (.newarray .int, 2) := by decide +kernel
theorem dX11_init_73 : decode cX11_init 73 = .ok (.putfield 34, 3) := by decide +kernel
theorem dX11_init_76 : decode cX11_init 76 = .ok (.aload_n 0, 1) := by decide +kernel
theorem dX11_init_77 : decode cX11_init 77 = .ok (.bipush 6, 2) := by decide +kernel
theorem dX11_init_79 : decode cX11_init 79 = .ok (.newarray .int, 2) := by decide +kernel
theorem dX11_init_81 : decode cX11_init 81 = .ok (.putfield 37, 3) := by decide +kernel
theorem dX11_init_84 : decode cX11_init 84 = .ok (.aload_n 0, 1) := by decide +kernel
theorem dX11_init_85 : decode cX11_init 85 = .ok (.iconst 2, 1) := by decide +kernel
theorem dX11_init_86 : decode cX11_init 86 = .ok (.newarray .boolean, 2) := by decide +kernel
theorem dX11_init_88 : decode cX11_init 88 = .ok (.putfield 40, 3) := by decide +kernel
theorem dX11_init_91 : decode cX11_init 91 = .ok (.aload_n 0, 1) := by decide +kernel
theorem dX11_init_92 : decode cX11_init 92 = .ok (.bipush 106, 2) := by decide +kernel
theorem dX11_init_94 : decode cX11_init 94 = .ok (.newarray .int, 2) := by decide +kernel
theorem dX11_init_96 : decode cX11_init 96 = .ok (.putfield 44, 3) := by decide +kernel
theorem dX11_init_99 : decode cX11_init 99 = .ok (.return_, 1) := by decide +kernel
theorem dX11_in_0 : decode cX11_in 0 = .ok (.lload_n 0, 1) := by decide +kernel
theorem dX11_in_1 : decode cX11_in 1 = .ok (.lload_n 2, 1) := by decide +kernel
theorem dX11_in_2 : decode cX11_in 2 = .ok (.lcmp, 1) := by decide +kernel
theorem dX11_in_3 : decode cX11_in 3 = .ok (.ifCond .lt 14, 3) := by decide +kernel
theorem dX11_in_6 : decode cX11_in 6 = .ok (.lload_n 0, 1) := by decide +kernel
theorem dX11_in_7 : decode cX11_in 7 = .ok (.lload 4, 2) := by decide +kernel
theorem dX11_in_9 : decode cX11_in 9 = .ok (.lcmp, 1) := by decide +kernel
theorem dX11_in_10 : decode cX11_in 10 = .ok (.ifCond .gt 7, 3) := by decide +kernel
theorem dX11_in_13 : decode cX11_in 13 = .ok (.iconst 1, 1) := by decide +kernel
theorem dX11_in_14 : decode cX11_in 14 = .ok (.goto 4, 3) := by decide +kernel
theorem dX11_in_17 : decode cX11_in 17 = .ok (.iconst 0, 1) := by decide +kernel
theorem dX11_in_18 : decode cX11_in 18 = .ok (.ireturn, 1) := by decide +kernel
theorem dX11_has_0 : decode cX11_has 0 = .ok (.iload_n 0, 1) := by decide +kernel
theorem dX11_has_1 : decode cX11_has 1 = .ok (.iload_n 1, 1) := by decide +kernel
theorem dX11_has_2 : decode cX11_has 2 = .ok (.ishr, 1) := by decide +kernel
theorem dX11_has_3 : decode cX11_has 3 = .ok (.iconst 1, 1) := by decide +kernel
theorem dX11_has_4 : decode cX11_has 4 = .ok (.iand, 1) := by decide +kernel
theorem dX11_has_5 : decode cX11_has 5 = .ok (.iconst 1, 1) := by decide +kernel
theorem dX11_has_6 : decode cX11_has 6 = .ok (.if_icmp .ne 7, 3) := by decide +kernel
theorem dX11_has_9 : decode cX11_has 9 = .ok (.iconst 1, 1) := by decide +kernel
theorem dX11_has_10 : decode cX11_has 10 = .ok (.goto 4, 3) := by decide +kernel
theorem dX11_has_13 : decode cX11_has 13 = .ok (.iconst 0, 1) := by decide +kernel
theorem dX11_has_14 : decode cX11_has 14 = .ok (.ireturn, 1) := by decide +kernel
theorem dX11_ones_0 : decode cX11_ones 0 = .ok (.iconst 0, 1) := by decide +kernel
theorem dX11_ones_1 : decode cX11_ones 1 = .ok (.istore_n 1, 1) := by decide +kernel
theorem dX11_ones_2 : decode cX11_ones 2 = .ok (.iconst 0, 1) := by decide +kernel
theorem dX11_ones_3 : decode cX11_ones 3 = .ok (.istore_n 2, 1) := by decide +kernel
theorem dX11_ones_4 : decode cX11_ones 4 = .ok (.iload_n 2, 1) := by decide +kernel
theorem dX11_ones_5 : decode cX11_ones 5 = .ok (.bipush 12, 2) := by decide +kernel
theorem dX11_ones_7 : decode cX11_ones 7 = .ok (.if_icmp .ge 17, 3) := by decide +kernel
theorem dX11_ones_10 : decode cX11_ones 10 = .ok (.iload_n 1, 1) := by decide +kernel
theorem dX11_ones_11 : decode cX11_ones 11 = .ok (.iload_n 0, 1) := by decide +kernel
theorem dX11_ones_12 : decode cX11_ones 12 = .ok (.iload_n 2, 1) := by decide +kernel
theorem dX11_ones_13 : decode cX11_ones 13 = .ok (.ishr, 1) := by decide +kernel
theorem dX11_ones_14 : decode cX11_ones 14 = .ok (.iconst 1, 1) := by decide +kernel
theorem dX11_ones_15 : decode cX11_ones 15 = .ok (.iand, 1) := by decide +kernel
theorem dX11_ones_16 : decode cX11_ones 16 = .ok (.iadd, 1) := by decide +kernel
theorem dX11_ones_17 : decode cX11_ones 17 = .ok (.istore_n 1, 1) := by decide +kernel
theorem dX11_ones_18 : decode cX11_ones 18 = .ok (.iinc 2 1, 3) := by decide +kernel
theorem dX11_ones_21 : decode cX11_ones 21 = .ok (.goto (-17), 3) := by decide +kernel
theorem dX11_ones_24 : decode cX11_ones 24 = .ok (.iload_n 1, 1) := by decide +kernel
theorem dX11_ones_25 : decode cX11_ones 25 = .ok (.ireturn, 1) := by decide +kernel
theorem dX11_isNail_0 : decode cX11_isNail 0 = .ok (.iload_n 0, 1) := by decide +kernel
theorem dX11_isNail_1 : decode cX11_isNail 1 = .ok (.i2l, 1) := by decide +kernel
theorem dX11_isNail_2 : decode cX11_isNail 2 = .ok (.lconst 0, 1) := by decide +kernel
theorem dX11_isNail_3 : decode cX11_isNail 3 = .ok (.ldc2_w 47, 3) := by decide +kernel
theorem dX11_isNail_6 : decode cX11_isNail 6 = .ok (.invokestatic 49, 3) := by decide +kernel
theorem dX11_isNail_9 : decode cX11_isNail 9 = .ok (.ireturn, 1) := by decide +kernel
theorem dX11_apart_0 : decode cX11_apart 0 = .ok (.iload_n 0, 1) := by decide +kernel
theorem dX11_apart_1 : decode cX11_apart 1 = .ok (.iload_n 1, 1) := by decide +kernel
theorem dX11_apart_2 : decode cX11_apart 2 = .ok (.isub, 1) := by decide +kernel
theorem dX11_apart_3 : decode cX11_apart 3 = .ok (.bipush 12, 2) := by decide +kernel
theorem dX11_apart_5 : decode cX11_apart 5 = .ok (.iadd, 1) := by decide +kernel
theorem dX11_apart_6 : decode cX11_apart 6 = .ok (.bipush 12, 2) := by decide +kernel
theorem dX11_apart_8 : decode cX11_apart 8 = .ok (.irem, 1) := by decide +kernel
theorem dX11_apart_9 : decode cX11_apart 9 = .ok (.istore_n 2, 1) := by decide +kernel
theorem dX11_apart_10 : decode cX11_apart 10 = .ok (.iload_n 2, 1) := by decide +kernel
theorem dX11_apart_11 : decode cX11_apart 11 = .ok (.bipush 6, 2) := by decide +kernel
theorem dX11_apart_13 : decode cX11_apart 13 = .ok (.if_icmp .le 10, 3) := by decide +kernel
theorem dX11_apart_16 : decode cX11_apart 16 = .ok (.bipush 12, 2) := by decide +kernel
theorem dX11_apart_18 : decode cX11_apart 18 = .ok (.iload_n 2, 1) := by decide +kernel
theorem dX11_apart_19 : decode cX11_apart 19 = .ok (.isub, 1) := by decide +kernel
theorem dX11_apart_20 : decode cX11_apart 20 = .ok (.goto 4, 3) := by decide +kernel
theorem dX11_apart_23 : decode cX11_apart 23 = .ok (.iload_n 2, 1) := by decide +kernel
theorem dX11_apart_24 : decode cX11_apart 24 = .ok (.ireturn, 1) := by decide +kernel
theorem dX11_longBy_0 : decode cX11_longBy 0 = .ok (.iload_n 0, 1) := by decide +kernel
theorem dX11_longBy_1 : decode cX11_longBy 1 = .ok (.iload_n 1, 1) := by decide +kernel
theorem dX11_longBy_2 : decode cX11_longBy 2 = .ok (.invokestatic 53, 3) := by decide +kernel
theorem dX11_longBy_5 : decode cX11_longBy 5 = .ok (.tableswitch 49 1 5 #[35, 37, 40, 43, 46], 35) := by decide +kernel
theorem dX11_longBy_40 : decode cX11_longBy 40 = .ok (.iconst 5, 1) := by decide +kernel
theorem dX11_longBy_41 : decode cX11_longBy 41 = .ok (.ireturn, 1) := by decide +kernel
theorem dX11_longBy_42 : decode cX11_longBy 42 = .ok (.bipush 10, 2) := by decide +kernel
theorem dX11_longBy_44 : decode cX11_longBy 44 = .ok (.ireturn, 1) := by decide +kernel
theorem dX11_longBy_45 : decode cX11_longBy 45 = .ok (.bipush 14, 2) := by decide +kernel
theorem dX11_longBy_47 : decode cX11_longBy 47 = .ok (.ireturn, 1) := by decide +kernel
theorem dX11_longBy_48 : decode cX11_longBy 48 = .ok (.bipush 17, 2) := by decide +kernel
theorem dX11_longBy_50 : decode cX11_longBy 50 = .ok (.ireturn, 1) := by decide +kernel
theorem dX11_longBy_51 : decode cX11_longBy 51 = .ok (.bipush 19, 2) := by decide +kernel
theorem dX11_longBy_53 : decode cX11_longBy 53 = .ok (.ireturn, 1) := by decide +kernel
theorem dX11_longBy_54 : decode cX11_longBy 54 = .ok (.bipush 20, 2) := by decide +kernel
theorem dX11_longBy_56 : decode cX11_longBy 56 = .ok (.ireturn, 1) := by decide +kernel
theorem dX11_isBetween_0 : decode cX11_isBetween 0 = .ok (.iload_n 2, 1) := by decide +kernel
theorem dX11_isBetween_1 : decode cX11_isBetween 1 = .ok (.iload_n 0, 1) := by decide +kernel
theorem dX11_isBetween_2 : decode cX11_isBetween 2 = .ok (.isub, 1) := by decide +kernel
theorem dX11_isBetween_3 : decode cX11_isBetween 3 = .ok (.bipush 12, 2) := by decide +kernel
theorem dX11_isBetween_5 : decode cX11_isBetween 5 = .ok (.iadd, 1) := by decide +kernel
theorem dX11_isBetween_6 : decode cX11_isBetween 6 = .ok (.bipush 12, 2) := by decide +kernel
theorem dX11_isBetween_8 : decode cX11_isBetween 8 = .ok (.irem, 1) := by decide +kernel
theorem dX11_isBetween_9 : decode cX11_isBetween 9 = .ok (.iload_n 1, 1) := by decide +kernel
theorem dX11_isBetween_10 : decode cX11_isBetween 10 = .ok (.iload_n 0, 1) := by decide +kernel
theorem dX11_isBetween_11 : decode cX11_isBetween 11 = .ok (.isub, 1) := by decide +kernel
theorem dX11_isBetween_12 : decode cX11_isBetween 12 = .ok (.bipush 12, 2) := by decide +kernel
theorem dX11_isBetween_14 : decode cX11_isBetween 14 = .ok (.iadd, 1) := by decide +kernel
theorem dX11_isBetween_15 : decode cX11_isBetween 15 = .ok (.bipush 12, 2) := by decide +kernel
theorem dX11_isBetween_17 : decode cX11_isBetween 17 = .ok (.irem, 1) := by decide +kernel
theorem dX11_isBetween_18 : decode cX11_isBetween 18 = .ok (.if_icmp .ge 7, 3) := by decide +kernel
theorem dX11_isBetween_21 : decode cX11_isBetween 21 = .ok (.iconst 1, 1) := by decide +kernel
theorem dX11_isBetween_22 : decode cX11_isBetween 22 = .ok (.goto 4, 3) := by decide +kernel
theorem dX11_isBetween_25 : decode cX11_isBetween 25 = .ok (.iconst 0, 1) := by decide +kernel
theorem dX11_isBetween_26 : decode cX11_isBetween 26 = .ok (.ireturn, 1) := by decide +kernel
theorem dX11_cross_0 : decode cX11_cross 0 = .ok (.iload_n 0, 1) := by decide +kernel
theorem dX11_cross_1 : decode cX11_cross 1 = .ok (.iload_n 2, 1) := by decide +kernel
theorem dX11_cross_2 : decode cX11_cross 2 = .ok (.if_icmp .eq 18, 3) := by decide +kernel
theorem dX11_cross_5 : decode cX11_cross 5 = .ok (.iload_n 0, 1) := by decide +kernel
theorem dX11_cross_6 : decode cX11_cross 6 = .ok (.iload_n 3, 1) := by decide +kernel
theorem dX11_cross_7 : decode cX11_cross 7 = .ok (.if_icmp .eq 13, 3) := by decide +kernel
theorem dX11_cross_10 : decode cX11_cross 10 = .ok (.iload_n 1, 1) := by decide +kernel
theorem dX11_cross_11 : decode cX11_cross 11 = .ok (.iload_n 2, 1) := by decide +kernel
theorem dX11_cross_12 : decode cX11_cross 12 = .ok (.if_icmp .eq 8, 3) := by decide +kernel
theorem dX11_cross_15 : decode cX11_cross 15 = .ok (.iload_n 1, 1) := by decide +kernel
theorem dX11_cross_16 : decode cX11_cross 16 = .ok (.iload_n 3, 1) := by decide +kernel
theorem dX11_cross_17 : decode cX11_cross 17 = .ok (.if_icmp .ne 5, 3) := by decide +kernel
theorem dX11_cross_20 : decode cX11_cross 20 = .ok (.iconst 0, 1) := by decide +kernel
theorem dX11_cross_21 : decode cX11_cross 21 = .ok (.ireturn, 1) := by decide +kernel
theorem dX11_cross_22 : decode cX11_cross 22 = .ok (.iload_n 0, 1) := by decide +kernel
theorem dX11_cross_23 : decode cX11_cross 23 = .ok (.iload_n 1, 1) := by decide +kernel
theorem dX11_cross_24 : decode cX11_cross 24 = .ok (.iload_n 2, 1) := by decide +kernel
theorem dX11_cross_25 : decode cX11_cross 25 = .ok (.invokestatic 57, 3) := by decide +kernel
theorem dX11_cross_28 : decode cX11_cross 28 = .ok (.iload_n 0, 1) := by decide +kernel
theorem dX11_cross_29 : decode cX11_cross 29 = .ok (.iload_n 1, 1) := by decide +kernel
theorem dX11_cross_30 : decode cX11_cross 30 = .ok (.iload_n 3, 1) := by decide +kernel
theorem dX11_cross_31 : decode cX11_cross 31 = .ok (.invokestatic 57, 3) := by decide +kernel
theorem dX11_cross_34 : decode cX11_cross 34 = .ok (.if_icmp .eq 7, 3) := by decide +kernel
theorem dX11_cross_37 : decode cX11_cross 37 = .ok (.iconst 1, 1) := by decide +kernel
theorem dX11_cross_38 : decode cX11_cross 38 = .ok (.goto 4, 3) := by decide +kernel
theorem dX11_cross_41 : decode cX11_cross 41 = .ok (.iconst 0, 1) := by decide +kernel
theorem dX11_cross_42 : decode cX11_cross 42 = .ok (.ireturn, 1) := by decide +kernel
theorem dX11_asOne_0 : decode cX11_asOne 0 = .ok (.iload_n 0, 1) := by decide +kernel
theorem dX11_asOne_1 : decode cX11_asOne 1 = .ok (.bipush 12, 2) := by decide +kernel
theorem dX11_asOne_3 : decode cX11_asOne 3 = .ok (.imul, 1) := by decide +kernel
theorem dX11_asOne_4 : decode cX11_asOne 4 = .ok (.iload_n 1, 1) := by decide +kernel
theorem dX11_asOne_5 : decode cX11_asOne 5 = .ok (.iadd, 1) := by decide +kernel
theorem dX11_asOne_6 : decode cX11_asOne 6 = .ok (.bipush 12, 2) := by decide +kernel
theorem dX11_asOne_8 : decode cX11_asOne 8 = .ok (.imul, 1) := by decide +kernel
theorem dX11_asOne_9 : decode cX11_asOne 9 = .ok (.iload_n 2, 1) := by decide +kernel
theorem dX11_asOne_10 : decode cX11_asOne 10 = .ok (.iadd, 1) := by decide +kernel
theorem dX11_asOne_11 : decode cX11_asOne 11 = .ok (.bipush 12, 2) := by decide +kernel
theorem dX11_asOne_13 : decode cX11_asOne 13 = .ok (.imul, 1) := by decide +kernel
theorem dX11_asOne_14 : decode cX11_asOne 14 = .ok (.iload_n 3, 1) := by decide +kernel
theorem dX11_asOne_15 : decode cX11_asOne 15 = .ok (.iadd, 1) := by decide +kernel
theorem dX11_asOne_16 : decode cX11_asOne 16 = .ok (.ireturn, 1) := by decide +kernel
theorem dX11_threadOf_0 : decode cX11_threadOf 0 = .ok (.iload_n 0, 1) := by decide +kernel
theorem dX11_threadOf_1 : decode cX11_threadOf 1 = .ok (.sipush 1728, 3) := by decide +kernel
theorem dX11_threadOf_4 : decode cX11_threadOf 4 = .ok (.idiv, 1) := by decide +kernel
theorem dX11_threadOf_5 : decode cX11_threadOf 5 = .ok (.ireturn, 1) := by decide +kernel
theorem dX11_fromOf_0 : decode cX11_fromOf 0 = .ok (.iload_n 0, 1) := by decide +kernel
theorem dX11_fromOf_1 : decode cX11_fromOf 1 = .ok (.sipush 144, 3) := by decide +kernel
theorem dX11_fromOf_4 : decode cX11_fromOf 4 = .ok (.idiv, 1) := by decide +kernel
theorem dX11_fromOf_5 : decode cX11_fromOf 5 = .ok (.bipush 12, 2) := by decide +kernel
theorem dX11_fromOf_7 : decode cX11_fromOf 7 = .ok (.irem, 1) := by decide +kernel
theorem dX11_fromOf_8 : decode cX11_fromOf 8 = .ok (.ireturn, 1) := by decide +kernel
theorem dX11_toOf_0 : decode cX11_toOf 0 = .ok (.iload_n 0, 1) := by decide +kernel
theorem dX11_toOf_1 : decode cX11_toOf 1 = .ok (.bipush 12, 2) := by decide +kernel
theorem dX11_toOf_3 : decode cX11_toOf 3 = .ok (.idiv, 1) := by decide +kernel
theorem dX11_toOf_4 : decode cX11_toOf 4 = .ok (.bipush 12, 2) := by decide +kernel
theorem dX11_toOf_6 : decode cX11_toOf 6 = .ok (.irem, 1) := by decide +kernel
theorem dX11_toOf_7 : decode cX11_toOf 7 = .ok (.ireturn, 1) := by decide +kernel
theorem dX11_whichOf_0 : decode cX11_whichOf 0 = .ok (.iload_n 0, 1) := by decide +kernel
theorem dX11_whichOf_1 : decode cX11_whichOf 1 = .ok (.bipush 12, 2) := by decide +kernel
theorem dX11_whichOf_3 : decode cX11_whichOf 3 = .ok (.irem, 1) := by decide +kernel
theorem dX11_whichOf_4 : decode cX11_whichOf 4 = .ok (.ireturn, 1) := by decide +kernel
theorem dX11_crossOnes_0 : decode cX11_crossOnes 0 = .ok (.iload_n 0, 1) := by decide +kernel
theorem dX11_crossOnes_1 : decode cX11_crossOnes 1 = .ok (.invokestatic 61, 3) := by decide +kernel
theorem dX11_crossOnes_4 : decode cX11_crossOnes 4 = .ok (.iload_n 0, 1) := by decide +kernel
theorem dX11_crossOnes_5 : decode cX11_crossOnes 5 = .ok (.invokestatic 65, 3) := by decide +kernel
theorem dX11_crossOnes_8 : decode cX11_crossOnes 8 = .ok (.iload_n 1, 1) := by decide +kernel
theorem dX11_crossOnes_9 : decode cX11_crossOnes 9 = .ok (.invokestatic 61, 3) := by decide +kernel
theorem dX11_crossOnes_12 : decode cX11_crossOnes 12 = .ok (.iload_n 1, 1) := by decide +kernel
theorem dX11_crossOnes_13 : decode cX11_crossOnes 13 = .ok (.invokestatic 65, 3) := by decide +kernel
theorem dX11_crossOnes_16 : decode cX11_crossOnes 16 = .ok (.invokestatic 68, 3) := by decide +kernel
theorem dX11_crossOnes_19 : decode cX11_crossOnes 19 = .ok (.ireturn, 1) := by decide +kernel
theorem dX11_laid_0 : decode cX11_laid 0 = .ok (.aload_n 0, 1) := by decide +kernel
theorem dX11_laid_1 : decode cX11_laid 1 = .ok (.getfield 13, 3) := by decide +kernel
theorem dX11_laid_4 : decode cX11_laid 4 = .ok (.bipush 53, 2) := by decide +kernel
theorem dX11_laid_6 : decode cX11_laid 6 = .ok (.iload_n 1, 1) := by decide +kernel
theorem dX11_laid_7 : decode cX11_laid 7 = .ok (.imul, 1) := by decide +kernel
theorem dX11_laid_8 : decode cX11_laid 8 = .ok (.iconst 5, 1) := by decide +kernel
theorem dX11_laid_9 : decode cX11_laid 9 = .ok (.iadd, 1) := by decide +kernel
theorem dX11_laid_10 : decode cX11_laid 10 = .ok (.iload_n 2, 1) := by decide +kernel
theorem dX11_laid_11 : decode cX11_laid 11 = .ok (.iadd, 1) := by decide +kernel
theorem dX11_laid_12 : decode cX11_laid 12 = .ok (.iaload, 1) := by decide +kernel
theorem dX11_laid_13 : decode cX11_laid 13 = .ok (.ireturn, 1) := by decide +kernel
theorem dX11_many_0 : decode cX11_many 0 = .ok (.aload_n 0, 1) := by decide +kernel
theorem dX11_many_1 : decode cX11_many 1 = .ok (.getfield 13, 3) := by decide +kernel
theorem dX11_many_4 : decode cX11_many 4 = .ok (.bipush 53, 2) := by decide +kernel
theorem dX11_many_6 : decode cX11_many 6 = .ok (.iload_n 1, 1) := by decide +kernel
theorem dX11_many_7 : decode cX11_many 7 = .ok (.imul, 1) := by decide +kernel
theorem dX11_many_8 : decode cX11_many 8 = .ok (.iconst 4, 1) := by decide +kernel
theorem dX11_many_9 : decode cX11_many 9 = .ok (.iadd, 1) := by decide +kernel
theorem dX11_many_10 : decode cX11_many 10 = .ok (.iaload, 1) := by decide +kernel
theorem dX11_many_11 : decode cX11_many 11 = .ok (.ireturn, 1) := by decide +kernel
theorem dX11_write_0 : decode cX11_write 0 = .ok (.iload_n 1, 1) := by decide +kernel
theorem dX11_write_1 : decode cX11_write 1 = .ok (.i2l, 1) := by decide +kernel
theorem dX11_write_2 : decode cX11_write 2 = .ok (.lconst 0, 1) := by decide +kernel
theorem dX11_write_3 : decode cX11_write 3 = .ok (.ldc2_w 72, 3) := by decide +kernel
theorem dX11_write_6 : decode cX11_write 6 = .ok (.invokestatic 49, 3) := by decide +kernel
theorem dX11_write_9 : decode cX11_write 9 = .ok (.ifCond .ne 6, 3) := by decide +kernel
theorem dX11_write_12 : decode cX11_write 12 = .ok (.bipush (-2), 2) := by decide +kernel
theorem dX11_write_14 : decode cX11_write 14 = .ok (.ireturn, 1) := by decide +kernel
theorem dX11_write_15 : decode cX11_write 15 = .ok (.aload_n 0, 1) := by decide +kernel
theorem dX11_write_16 : decode cX11_write 16 = .ok (.getfield 74, 3) := by decide +kernel
theorem dX11_write_19 : decode cX11_write 19 = .ok (.bipush 48, 2) := by decide +kernel
theorem dX11_write_21 : decode cX11_write 21 = .ok (.if_icmp .ne 6, 3) := by decide +kernel
theorem dX11_write_24 : decode cX11_write 24 = .ok (.bipush (-4), 2) := by decide +kernel
theorem dX11_write_26 : decode cX11_write 26 = .ok (.ireturn, 1) := by decide +kernel
theorem dX11_write_27 : decode cX11_write 27 = .ok (.aload_n 0, 1) := by decide +kernel
theorem dX11_write_28 : decode cX11_write 28 = .ok (.getfield 19, 3) := by decide +kernel
theorem dX11_write_31 : decode cX11_write 31 = .ok (.aload_n 0, 1) := by decide +kernel
theorem dX11_write_32 : decode cX11_write 32 = .ok (.getfield 74, 3) := by decide +kernel
theorem dX11_write_35 : decode cX11_write 35 = .ok (.iload_n 1, 1) := by decide +kernel
theorem dX11_write_36 : decode cX11_write 36 = .ok (.iastore, 1) := by decide +kernel
theorem dX11_write_37 : decode cX11_write 37 = .ok (.aload_n 0, 1) := by decide +kernel
theorem dX11_write_38 : decode cX11_write 38 = .ok (.dup, 1) := by decide +kernel
theorem dX11_write_39 : decode cX11_write 39 = .ok (.getfield 74, 3) := by decide +kernel
theorem dX11_write_42 : decode cX11_write 42 = .ok (.iconst 1, 1) := by decide +kernel
theorem dX11_write_43 : decode cX11_write 43 = .ok (.iadd, 1) := by decide +kernel
theorem dX11_write_44 : decode cX11_write 44 = .ok (.putfield 74, 3) := by decide +kernel
theorem dX11_write_47 : decode cX11_write 47 = .ok (.aload_n 0, 1) := by decide +kernel
theorem dX11_write_48 : decode cX11_write 48 = .ok (.getfield 74, 3) := by decide +kernel
theorem dX11_write_51 : decode cX11_write 51 = .ok (.ireturn, 1) := by decide +kernel
theorem dX11_wipe_0 : decode cX11_wipe 0 = .ok (.aload_n 0, 1) := by decide +kernel
theorem dX11_wipe_1 : decode cX11_wipe 1 = .ok (.getfield 74, 3) := by decide +kernel
theorem dX11_wipe_4 : decode cX11_wipe 4 = .ok (.istore_n 1, 1) := by decide +kernel
theorem dX11_wipe_5 : decode cX11_wipe 5 = .ok (.aload_n 0, 1) := by decide +kernel
theorem dX11_wipe_6 : decode cX11_wipe 6 = .ok (.iconst 0, 1) := by decide +kernel
theorem dX11_wipe_7 : decode cX11_wipe 7 = .ok (.putfield 74, 3) := by decide +kernel
theorem dX11_wipe_10 : decode cX11_wipe 10 = .ok (.iload_n 1, 1) := by decide +kernel
theorem dX11_wipe_11 : decode cX11_wipe 11 = .ok (.ireturn, 1) := by decide +kernel
theorem dX11_clearLevel_0 : decode cX11_clearLevel 0 = .ok (.iconst 0, 1) := by decide +kernel
theorem dX11_clearLevel_1 : decode cX11_clearLevel 1 = .ok (.istore_n 2, 1) := by decide +kernel
theorem dX11_clearLevel_2 : decode cX11_clearLevel 2 = .ok (.iload_n 2, 1) := by decide +kernel
theorem dX11_clearLevel_3 : decode cX11_clearLevel 3 = .ok (.bipush 53, 2) := by decide +kernel
theorem dX11_clearLevel_5 : decode cX11_clearLevel 5 = .ok (.if_icmp .ge 21, 3) := by decide +kernel
theorem dX11_clearLevel_8 : decode cX11_clearLevel 8 = .ok (.aload_n 0, 1) := by decide +kernel
theorem dX11_clearLevel_9 : decode cX11_clearLevel 9 = .ok (.getfield 13, 3) := by decide +kernel
theorem dX11_clearLevel_12 : decode cX11_clearLevel 12 = .ok (.bipush 53, 2) := by decide +kernel
theorem dX11_clearLevel_14 : decode cX11_clearLevel 14 = .ok (.iload_n 1, 1) := by decide +kernel
theorem dX11_clearLevel_15 : decode cX11_clearLevel 15 = .ok (.imul, 1) := by decide +kernel
theorem dX11_clearLevel_16 : decode cX11_clearLevel 16 = .ok (.iload_n 2, 1) := by decide +kernel
theorem dX11_clearLevel_17 : decode cX11_clearLevel 17 = .ok (.iadd, 1) := by decide +kernel
theorem dX11_clearLevel_18 : decode cX11_clearLevel 18 = .ok (.iconst 0, 1) := by decide +kernel
theorem dX11_clearLevel_19 : decode cX11_clearLevel 19 = .ok (.iastore, 1) := by decide +kernel
theorem dX11_clearLevel_20 : decode cX11_clearLevel 20 = .ok (.iinc 2 1, 3) := by decide +kernel
theorem dX11_clearLevel_23 : decode cX11_clearLevel 23 = .ok (.goto (-21), 3) := by decide +kernel
theorem dX11_clearLevel_26 : decode cX11_clearLevel 26 = .ok (.return_, 1) := by decide +kernel
theorem dX11_kindOf_0 : decode cX11_kindOf 0 = .ok (.iload_n 1, 1) := by decide +kernel
theorem dX11_kindOf_1 : decode cX11_kindOf 1 = .ok (.iconst 1, 1) := by decide +kernel
theorem dX11_kindOf_2 : decode cX11_kindOf 2 = .ok (.if_icmp .ne 19, 3) := by decide +kernel
theorem dX11_kindOf_5 : decode cX11_kindOf 5 = .ok (.aload_n 0, 1) := by decide +kernel
theorem dX11_kindOf_6 : decode cX11_kindOf 6 = .ok (.getfield 78, 3) := by decide +kernel
theorem dX11_kindOf_9 : decode cX11_kindOf 9 = .ok (.ifCond .eq 12, 3) := by decide +kernel
theorem dX11_kindOf_12 : decode cX11_kindOf 12 = .ok (.aload_n 0, 1) := by decide +kernel
theorem dX11_kindOf_13 : decode cX11_kindOf 13 = .ok (.getfield 16, 3) := by decide +kernel
theorem dX11_kindOf_16 : decode cX11_kindOf 16 = .ok (.iload_n 2, 1) := by decide +kernel
theorem dX11_kindOf_17 : decode cX11_kindOf 17 = .ok (.iaload, 1) := by decide +kernel
theorem dX11_kindOf_18 : decode cX11_kindOf 18 = .ok (.goto 9, 3) := by decide +kernel
theorem dX11_kindOf_21 : decode cX11_kindOf 21 = .ok (.aload_n 0, 1) := by decide +kernel
theorem dX11_kindOf_22 : decode cX11_kindOf 22 = .ok (.getfield 7, 3) := by decide +kernel
theorem dX11_kindOf_25 : decode cX11_kindOf 25 = .ok (.iload_n 2, 1) := by decide +kernel
theorem dX11_kindOf_26 : decode cX11_kindOf 26 = .ok (.iaload, 1) := by decide +kernel
theorem dX11_kindOf_27 : decode cX11_kindOf 27 = .ok (.ireturn, 1) := by decide +kernel
theorem dX11_readText_0 : decode cX11_readText 0 = .ok (.aload_n 0, 1) := by decide +kernel
theorem dX11_readText_1 : decode cX11_readText 1 = .ok (.iconst 1, 1) := by decide +kernel
theorem dX11_readText_2 : decode cX11_readText 2 = .ok (.invokevirtual 82, 3) := by decide +kernel
theorem dX11_readText_5 : decode cX11_readText 5 = .ok (.aload_n 0, 1) := by decide +kernel
theorem dX11_readText_6 : decode cX11_readText 6 = .ok (.iconst 0, 1) := by decide +kernel
theorem dX11_readText_7 : decode cX11_readText 7 = .ok (.putfield 86, 3) := by decide +kernel
theorem dX11_readText_10 : decode cX11_readText 10 = .ok (.aload_n 0, 1) := by decide +kernel
theorem dX11_readText_11 : decode cX11_readText 11 = .ok (.iconst 1, 1) := by decide +kernel
theorem dX11_readText_12 : decode cX11_readText 12 = .ok (.putfield 78, 3) := by decide +kernel
theorem dX11_readText_15 : decode cX11_readText 15 = .ok (.aload_n 0, 1) := by decide +kernel
theorem dX11_readText_16 : decode cX11_readText 16 = .ok (.invokevirtual 89, 3) := by decide +kernel
theorem dX11_readText_19 : decode cX11_readText 19 = .ok (.istore_n 1, 1) := by decide +kernel
theorem dX11_readText_20 : decode cX11_readText 20 = .ok (.aload_n 0, 1) := by decide +kernel
theorem dX11_readText_21 : decode cX11_readText 21 = .ok (.iconst 0, 1) := by decide +kernel
theorem dX11_readText_22 : decode cX11_readText 22 = .ok (.putfield 78, 3) := by decide +kernel
theorem dX11_readText_25 : decode cX11_readText 25 = .ok (.iload_n 1, 1) := by decide +kernel
theorem dX11_readText_26 : decode cX11_readText 26 = .ok (.ireturn, 1) := by decide +kernel
theorem dX11_readParts_0 : decode cX11_readParts 0 = .ok (.aload_n 0, 1) := by decide +kernel
theorem dX11_readParts_1 : decode cX11_readParts 1 = .ok (.getfield 74, 3) := by decide +kernel
theorem dX11_readParts_4 : decode cX11_readParts 4 = .ok (.ifCond .eq 14, 3) := by decide +kernel
theorem dX11_readParts_7 : decode cX11_readParts 7 = .ok (.aload_n 0, 1) := by decide +kernel
theorem dX11_readParts_8 : decode cX11_readParts 8 = .ok (.getfield 19, 3) := by decide +kernel
theorem dX11_readParts_11 : decode cX11_readParts 11 = .ok (.iconst 0, 1) := by decide +kernel
theorem dX11_readParts_12 : decode cX11_readParts 12 = .ok (.iaload, 1) := by decide +kernel
theorem dX11_readParts_13 : decode cX11_readParts 13 = .ok (.bipush 78, 2) := by decide +kernel
theorem dX11_readParts_15 : decode cX11_readParts 15 = .ok (.if_icmp .eq 5, 3) := by decide +kernel
theorem dX11_readParts_18 : decode cX11_readParts 18 = .ok (.iconst 0, 1) := by decide +kernel
theorem dX11_readParts_19 : decode cX11_readParts 19 = .ok (.ireturn, 1) := by decide +kernel
theorem dX11_readParts_20 : decode cX11_readParts 20 = .ok (.iconst 0, 1) := by decide +kernel
theorem dX11_readParts_21 : decode cX11_readParts 21 = .ok (.istore_n 1, 1) := by decide +kernel
theorem dX11_readParts_22 : decode cX11_readParts 22 = .ok (.iconst 0, 1) := by decide +kernel
theorem dX11_readParts_23 : decode cX11_readParts 23 = .ok (.istore_n 2, 1) := by decide +kernel
theorem dX11_readParts_24 : decode cX11_readParts 24 = .ok (.iconst 1, 1) := by decide +kernel
theorem dX11_readParts_25 : decode cX11_readParts 25 = .ok (.istore_n 3, 1) := by decide +kernel
theorem dX11_readParts_26 : decode cX11_readParts 26 = .ok (.iload_n 3, 1) := by decide +kernel
theorem dX11_readParts_27 : decode cX11_readParts 27 = .ok (.aload_n 0, 1) := by decide +kernel
theorem dX11_readParts_28 : decode cX11_readParts 28 = .ok (.getfield 74, 3) := by decide +kernel
theorem dX11_readParts_31 : decode cX11_readParts 31 = .ok (.if_icmp .ge 152, 3) := by decide +kernel
theorem dX11_readParts_34 : decode cX11_readParts 34 = .ok (.aload_n 0, 1) := by decide +kernel
theorem dX11_readParts_35 : decode cX11_readParts 35 = .ok (.getfield 19, 3) := by decide +kernel
theorem dX11_readParts_38 : decode cX11_readParts 38 = .ok (.iload_n 3, 1) := by decide +kernel
theorem dX11_readParts_39 : decode cX11_readParts 39 = .ok (.iaload, 1) := by decide +kernel
theorem dX11_readParts_40 : decode cX11_readParts 40 = .ok (.istore 4, 2) := by decide +kernel
theorem dX11_readParts_42 : decode cX11_readParts 42 = .ok (.iload_n 2, 1) := by decide +kernel
theorem dX11_readParts_43 : decode cX11_readParts 43 = .ok (.iconst 1, 1) := by decide +kernel
theorem dX11_readParts_44 : decode cX11_readParts 44 = .ok (.if_icmp .ne 41, 3) := by decide +kernel
theorem dX11_readParts_47 : decode cX11_readParts 47 = .ok (.iload 4, 2) := by decide +kernel
theorem dX11_readParts_49 : decode cX11_readParts 49 = .ok (.i2l, 1) := by decide +kernel
theorem dX11_readParts_50 : decode cX11_readParts 50 = .ok (.ldc2_w 93, 3) := by decide +kernel
theorem dX11_readParts_53 : decode cX11_readParts 53 = .ok (.ldc2_w 95, 3) := by decide +kernel
theorem dX11_readParts_56 : decode cX11_readParts 56 = .ok (.invokestatic 49, 3) := by decide +kernel
theorem dX11_readParts_59 : decode cX11_readParts 59 = .ok (.ifCond .ne 5, 3) := by decide +kernel
theorem dX11_readParts_62 : decode cX11_readParts 62 = .ok (.iload_n 3, 1) := by decide +kernel
theorem dX11_readParts_63 : decode cX11_readParts 63 = .ok (.ireturn, 1) := by decide +kernel
theorem dX11_readParts_64 : decode cX11_readParts 64 = .ok (.aload_n 0, 1) := by decide +kernel
theorem dX11_readParts_65 : decode cX11_readParts 65 = .ok (.getfield 16, 3) := by decide +kernel
theorem dX11_readParts_68 : decode cX11_readParts 68 = .ok (.aload_n 0, 1) := by decide +kernel
theorem dX11_readParts_69 : decode cX11_readParts 69 = .ok (.getfield 86, 3) := by decide +kernel
theorem dX11_readParts_72 : decode cX11_readParts 72 = .ok (.iload 4, 2) := by decide +kernel
theorem dX11_readParts_74 : decode cX11_readParts 74 = .ok (.bipush 48, 2) := by decide +kernel
theorem dX11_readParts_76 : decode cX11_readParts 76 = .ok (.isub, 1) := by decide +kernel
theorem dX11_readParts_77 : decode cX11_readParts 77 = .ok (.iastore, 1) := by decide +kernel
theorem dX11_readParts_78 : decode cX11_readParts 78 = .ok (.iconst 2, 1) := by decide +kernel
theorem dX11_readParts_79 : decode cX11_readParts 79 = .ok (.istore_n 2, 1) := by decide +kernel
theorem dX11_readParts_80 : decode cX11_readParts 80 = .ok (.iconst 0, 1) := by decide +kernel
theorem dX11_readParts_81 : decode cX11_readParts 81 = .ok (.istore_n 1, 1) := by decide +kernel
theorem dX11_readParts_82 : decode cX11_readParts 82 = .ok (.goto 95, 3) := by decide +kernel
theorem dX11_readParts_85 : decode cX11_readParts 85 = .ok (.iload 4, 2) := by decide +kernel
theorem dX11_readParts_87 : decode cX11_readParts 87 = .ok (.bipush 84, 2) := by decide +kernel
theorem dX11_readParts_89 : decode cX11_readParts 89 = .ok (.if_icmp .ne 41, 3) := by decide +kernel
theorem dX11_readParts_92 : decode cX11_readParts 92 = .ok (.iload_n 2, 1) := by decide +kernel
theorem dX11_readParts_93 : decode cX11_readParts 93 = .ok (.ifCond .eq 7, 3) := by decide +kernel
theorem dX11_readParts_96 : decode cX11_readParts 96 = .ok (.iload_n 1, 1) := by decide +kernel
theorem dX11_readParts_97 : decode cX11_readParts 97 = .ok (.ifCond .le 33, 3) := by decide +kernel
theorem dX11_readParts_100 : decode cX11_readParts 100 = .ok (.iload_n 2, 1) := by decide +kernel
theorem dX11_readParts_101 : decode cX11_readParts 101 = .ok (.iconst 2, 1) := by decide +kernel
theorem dX11_readParts_102 : decode cX11_readParts 102 = .ok (.if_icmp .ne 13, 3) := by decide +kernel
theorem dX11_readParts_105 : decode cX11_readParts 105 = .ok (.aload_n 0, 1) := by decide +kernel
theorem dX11_readParts_106 : decode cX11_readParts 106 = .ok (.dup, 1) := by decide +kernel
theorem dX11_readParts_107 : decode cX11_readParts 107 = .ok (.getfield 86, 3) := by decide +kernel
theorem dX11_readParts_110 : decode cX11_readParts 110 = .ok (.iconst 1, 1) := by decide +kernel
theorem dX11_readParts_111 : decode cX11_readParts 111 = .ok (.iadd, 1) := by decide +kernel
theorem dX11_readParts_112 : decode cX11_readParts 112 = .ok (.putfield 86, 3) := by decide +kernel
theorem dX11_readParts_115 : decode cX11_readParts 115 = .ok (.aload_n 0, 1) := by decide +kernel
theorem dX11_readParts_116 : decode cX11_readParts 116 = .ok (.getfield 86, 3) := by decide +kernel
theorem dX11_readParts_119 : decode cX11_readParts 119 = .ok (.iconst 4, 1) := by decide +kernel
theorem dX11_readParts_120 : decode cX11_readParts 120 = .ok (.if_icmp .ne 5, 3) := by decide +kernel
theorem dX11_readParts_123 : decode cX11_readParts 123 = .ok (.iload_n 3, 1) := by decide +kernel
theorem dX11_readParts_124 : decode cX11_readParts 124 = .ok (.ireturn, 1) := by decide +kernel
theorem dX11_readParts_125 : decode cX11_readParts 125 = .ok (.iconst 1, 1) := by decide +kernel
theorem dX11_readParts_126 : decode cX11_readParts 126 = .ok (.istore_n 2, 1) := by decide +kernel
theorem dX11_readParts_127 : decode cX11_readParts 127 = .ok (.goto 50, 3) := by decide +kernel
theorem dX11_readParts_130 : decode cX11_readParts 130 = .ok (.iload_n 2, 1) := by decide +kernel
theorem dX11_readParts_131 : decode cX11_readParts 131 = .ok (.iconst 2, 1) := by decide +kernel
theorem dX11_readParts_132 : decode cX11_readParts 132 = .ok (.if_icmp .ne 43, 3) := by decide +kernel
theorem dX11_readParts_135 : decode cX11_readParts 135 = .ok (.iload 4, 2) := by decide +kernel
theorem dX11_readParts_137 : decode cX11_readParts 137 = .ok (.i2l, 1) := by decide +kernel
theorem dX11_readParts_138 : decode cX11_readParts 138 = .ok (.ldc2_w 97, 3) := by decide +kernel
theorem dX11_readParts_141 : decode cX11_readParts 141 = .ok (.ldc2_w 99, 3) := by decide +kernel
theorem dX11_readParts_144 : decode cX11_readParts 144 = .ok (.invokestatic 49, 3) := by decide +kernel
theorem dX11_readParts_147 : decode cX11_readParts 147 = .ok (.ifCond .eq 28, 3) := by decide +kernel
theorem dX11_readParts_150 : decode cX11_readParts 150 = .ok (.iload_n 1, 1) := by decide +kernel
theorem dX11_readParts_151 : decode cX11_readParts 151 = .ok (.bipush 9, 2) := by decide +kernel
theorem dX11_readParts_153 : decode cX11_readParts 153 = .ok (.if_icmp .ge 22, 3) := by decide +kernel
theorem dX11_readParts_156 : decode cX11_readParts 156 = .ok (.aload_n 0, 1) := by decide +kernel
theorem dX11_readParts_157 : decode cX11_readParts 157 = .ok (.iload 4, 2) := by decide +kernel
theorem dX11_readParts_159 : decode cX11_readParts 159 = .ok (.bipush 97, 2) := by decide +kernel
theorem dX11_readParts_161 : decode cX11_readParts 161 = .ok (.isub, 1) := by decide +kernel
theorem dX11_readParts_162 : decode cX11_readParts 162 = .ok (.iload_n 1, 1) := by decide +kernel
theorem dX11_readParts_163 : decode cX11_readParts 163 = .ok (.invokevirtual 101, 3) := by decide +kernel
theorem dX11_readParts_166 : decode cX11_readParts 166 = .ok (.ifCond .eq 9, 3) := by decide +kernel
theorem dX11_readParts_169 : decode cX11_readParts 169 = .ok (.iinc 1 1, 3) := by decide +kernel
theorem dX11_readParts_172 : decode cX11_readParts 172 = .ok (.goto 5, 3) := by decide +kernel
theorem dX11_readParts_175 : decode cX11_readParts 175 = .ok (.iload_n 3, 1) := by decide +kernel
theorem dX11_readParts_176 : decode cX11_readParts 176 = .ok (.ireturn, 1) := by decide +kernel
theorem dX11_readParts_177 : decode cX11_readParts 177 = .ok (.iinc 3 1, 3) := by decide +kernel
theorem dX11_readParts_180 : decode cX11_readParts 180 = .ok (.goto (-154), 3) := by decide +kernel
theorem dX11_readParts_183 : decode cX11_readParts 183 = .ok (.iload_n 2, 1) := by decide +kernel
theorem dX11_readParts_184 : decode cX11_readParts 184 = .ok (.iconst 1, 1) := by decide +kernel
theorem dX11_readParts_185 : decode cX11_readParts 185 = .ok (.if_icmp .eq 12, 3) := by decide +kernel
theorem dX11_readParts_188 : decode cX11_readParts 188 = .ok (.iload_n 2, 1) := by decide +kernel
theorem dX11_readParts_189 : decode cX11_readParts 189 = .ok (.iconst 2, 1) := by decide +kernel
theorem dX11_readParts_190 : decode cX11_readParts 190 = .ok (.if_icmp .ne 12, 3) := by decide +kernel
theorem dX11_readParts_193 : decode cX11_readParts 193 = .ok (.iload_n 1, 1) := by decide +kernel
theorem dX11_readParts_194 : decode cX11_readParts 194 = .ok (.ifCond .ne 8, 3) := by decide +kernel
theorem dX11_readParts_197 : decode cX11_readParts 197 = .ok (.aload_n 0, 1) := by decide +kernel
theorem dX11_readParts_198 : decode cX11_readParts 198 = .ok (.getfield 74, 3) := by decide +kernel
theorem dX11_readParts_201 : decode cX11_readParts 201 = .ok (.ireturn, 1) := by decide +kernel
theorem dX11_readParts_202 : decode cX11_readParts 202 = .ok (.aload_n 0, 1) := by decide +kernel
theorem dX11_readParts_203 : decode cX11_readParts 203 = .ok (.dup, 1) := by decide +kernel
theorem dX11_readParts_204 : decode cX11_readParts 204 = .ok (.getfield 86, 3) := by decide +kernel
theorem dX11_readParts_207 : decode cX11_readParts 207 = .ok (.iload_n 2, 1) := by decide +kernel
theorem dX11_readParts_208 : decode cX11_readParts 208 = .ok (.iconst 2, 1) := by decide +kernel
theorem dX11_readParts_209 : decode cX11_readParts 209 = .ok (.if_icmp .ne 7, 3) := by decide +kernel
theorem dX11_readParts_212 : decode cX11_readParts 212 = .ok (.iconst 1, 1) := by decide +kernel
theorem dX11_readParts_213 : decode cX11_readParts 213 = .ok (.goto 4, 3) := by decide +kernel
theorem dX11_readParts_216 : decode cX11_readParts 216 = .ok (.iconst 0, 1) := by decide +kernel
theorem dX11_readParts_217 : decode cX11_readParts 217 = .ok (.iadd, 1) := by decide +kernel
theorem dX11_readParts_218 : decode cX11_readParts 218 = .ok (.putfield 86, 3) := by decide +kernel
theorem dX11_readParts_221 : decode cX11_readParts 221 = .ok (.bipush (-9), 2) := by decide +kernel
theorem dX11_readParts_223 : decode cX11_readParts 223 = .ok (.ireturn, 1) := by decide +kernel
theorem dX11_mayLay_0 : decode cX11_mayLay 0 = .ok (.iload_n 2, 1) := by decide +kernel
theorem dX11_mayLay_1 : decode cX11_mayLay 1 = .ok (.ifCond .ne 18, 3) := by decide +kernel
theorem dX11_mayLay_4 : decode cX11_mayLay 4 = .ok (.aload_n 0, 1) := by decide +kernel
theorem dX11_mayLay_5 : decode cX11_mayLay 5 = .ok (.getfield 13, 3) := by decide +kernel
theorem dX11_mayLay_8 : decode cX11_mayLay 8 = .ok (.bipush 53, 2) := by decide +kernel
theorem dX11_mayLay_10 : decode cX11_mayLay 10 = .ok (.aload_n 0, 1) := by decide +kernel
theorem dX11_mayLay_11 : decode cX11_mayLay 11 = .ok (.getfield 86, 3) := by decide +kernel
theorem dX11_mayLay_14 : decode cX11_mayLay 14 = .ok (.iadd, 1) := by decide +kernel
theorem dX11_mayLay_15 : decode cX11_mayLay 15 = .ok (.iload_n 1, 1) := by decide +kernel
theorem dX11_mayLay_16 : decode cX11_mayLay 16 = .ok (.iastore, 1) := by decide +kernel
theorem dX11_mayLay_17 : decode cX11_mayLay 17 = .ok (.iconst 1, 1) := by decide +kernel
theorem dX11_mayLay_18 : decode cX11_mayLay 18 = .ok (.ireturn, 1) := by decide +kernel
theorem dX11_mayLay_19 : decode cX11_mayLay 19 = .ok (.aload_n 0, 1) := by decide +kernel
theorem dX11_mayLay_20 : decode cX11_mayLay 20 = .ok (.iconst 1, 1) := by decide +kernel
theorem dX11_mayLay_21 : decode cX11_mayLay 21 = .ok (.aload_n 0, 1) := by decide +kernel
theorem dX11_mayLay_22 : decode cX11_mayLay 22 = .ok (.getfield 86, 3) := by decide +kernel
theorem dX11_mayLay_25 : decode cX11_mayLay 25 = .ok (.iload_n 1, 1) := by decide +kernel
theorem dX11_mayLay_26 : decode cX11_mayLay 26 = .ok (.invokevirtual 105, 3) := by decide +kernel
theorem dX11_mayLay_29 : decode cX11_mayLay 29 = .ok (.ifCond .ne 5, 3) := by decide +kernel
theorem dX11_mayLay_32 : decode cX11_mayLay 32 = .ok (.iconst 0, 1) := by decide +kernel
theorem dX11_mayLay_33 : decode cX11_mayLay 33 = .ok (.ireturn, 1) := by decide +kernel
theorem dX11_mayLay_34 : decode cX11_mayLay 34 = .ok (.aload_n 0, 1) := by decide +kernel
theorem dX11_mayLay_35 : decode cX11_mayLay 35 = .ok (.iconst 1, 1) := by decide +kernel
theorem dX11_mayLay_36 : decode cX11_mayLay 36 = .ok (.aload_n 0, 1) := by decide +kernel
theorem dX11_mayLay_37 : decode cX11_mayLay 37 = .ok (.getfield 86, 3) := by decide +kernel
theorem dX11_mayLay_40 : decode cX11_mayLay 40 = .ok (.iload_n 1, 1) := by decide +kernel
theorem dX11_mayLay_41 : decode cX11_mayLay 41 = .ok (.invokevirtual 108, 3) := by decide +kernel
theorem dX11_mayLay_44 : decode cX11_mayLay 44 = .ok (.pop, 1) := by decide +kernel
theorem dX11_mayLay_45 : decode cX11_mayLay 45 = .ok (.iconst 1, 1) := by decide +kernel
theorem dX11_mayLay_46 : decode cX11_mayLay 46 = .ok (.ireturn, 1) := by decide +kernel
theorem dX11_fault_0 : decode cX11_fault 0 = .ok (.aload_n 0, 1) := by decide +kernel
theorem dX11_fault_1 : decode cX11_fault 1 = .ok (.invokevirtual 112, 3) := by decide +kernel
theorem dX11_fault_4 : decode cX11_fault 4 = .ok (.ireturn, 1) := by decide +kernel
theorem dX11_board_0 : decode cX11_board 0 = .ok (.aload_n 0, 1) := by decide +kernel
theorem dX11_board_1 : decode cX11_board 1 = .ok (.invokevirtual 112, 3) := by decide +kernel
theorem dX11_board_4 : decode cX11_board 4 = .ok (.bipush (-9), 2) := by decide +kernel
theorem dX11_board_6 : decode cX11_board 6 = .ok (.if_icmp .eq 6, 3) := by decide +kernel
theorem dX11_board_9 : decode cX11_board 9 = .ok (.bipush (-3), 2) := by decide +kernel
theorem dX11_board_11 : decode cX11_board 11 = .ok (.ireturn, 1) := by decide +kernel
theorem dX11_board_12 : decode cX11_board 12 = .ok (.aload_n 0, 1) := by decide +kernel
theorem dX11_board_13 : decode cX11_board 13 = .ok (.aload_n 0, 1) := by decide +kernel
theorem dX11_board_14 : decode cX11_board 14 = .ok (.getfield 86, 3) := by decide +kernel
theorem dX11_board_17 : decode cX11_board 17 = .ok (.putfield 115, 3) := by decide +kernel
theorem dX11_board_20 : decode cX11_board 20 = .ok (.iconst 0, 1) := by decide +kernel
theorem dX11_board_21 : decode cX11_board 21 = .ok (.istore_n 1, 1) := by decide +kernel
theorem dX11_board_22 : decode cX11_board 22 = .ok (.iload_n 1, 1) := by decide +kernel
theorem dX11_board_23 : decode cX11_board 23 = .ok (.aload_n 0, 1) := by decide +kernel
theorem dX11_board_24 : decode cX11_board 24 = .ok (.getfield 115, 3) := by decide +kernel
theorem dX11_board_27 : decode cX11_board 27 = .ok (.if_icmp .ge 21, 3) := by decide +kernel
theorem dX11_board_30 : decode cX11_board 30 = .ok (.aload_n 0, 1) := by decide +kernel
theorem dX11_board_31 : decode cX11_board 31 = .ok (.getfield 7, 3) := by decide +kernel
theorem dX11_board_34 : decode cX11_board 34 = .ok (.iload_n 1, 1) := by decide +kernel
theorem dX11_board_35 : decode cX11_board 35 = .ok (.aload_n 0, 1) := by decide +kernel
theorem dX11_board_36 : decode cX11_board 36 = .ok (.getfield 16, 3) := by decide +kernel
theorem dX11_board_39 : decode cX11_board 39 = .ok (.iload_n 1, 1) := by decide +kernel
theorem dX11_board_40 : decode cX11_board 40 = .ok (.iaload, 1) := by decide +kernel
theorem dX11_board_41 : decode cX11_board 41 = .ok (.iastore, 1) := by decide +kernel
theorem dX11_board_42 : decode cX11_board 42 = .ok (.iinc 1 1, 3) := by decide +kernel
theorem dX11_board_45 : decode cX11_board 45 = .ok (.goto (-23), 3) := by decide +kernel
theorem dX11_board_48 : decode cX11_board 48 = .ok (.iconst 0, 1) := by decide +kernel
theorem dX11_board_49 : decode cX11_board 49 = .ok (.istore_n 1, 1) := by decide +kernel
theorem dX11_board_50 : decode cX11_board 50 = .ok (.iload_n 1, 1) := by decide +kernel
theorem dX11_board_51 : decode cX11_board 51 = .ok (.bipush 53, 2) := by decide +kernel
theorem dX11_board_53 : decode cX11_board 53 = .ok (.if_icmp .ge 24, 3) := by decide +kernel
theorem dX11_board_56 : decode cX11_board 56 = .ok (.aload_n 0, 1) := by decide +kernel
theorem dX11_board_57 : decode cX11_board 57 = .ok (.getfield 13, 3) := by decide +kernel
theorem dX11_board_60 : decode cX11_board 60 = .ok (.iload_n 1, 1) := by decide +kernel
theorem dX11_board_61 : decode cX11_board 61 = .ok (.aload_n 0, 1) := by decide +kernel
theorem dX11_board_62 : decode cX11_board 62 = .ok (.getfield 13, 3) := by decide +kernel
theorem dX11_board_65 : decode cX11_board 65 = .ok (.bipush 53, 2) := by decide +kernel
theorem dX11_board_67 : decode cX11_board 67 = .ok (.iload_n 1, 1) := by decide +kernel
theorem dX11_board_68 : decode cX11_board 68 = .ok (.iadd, 1) := by decide +kernel
theorem dX11_board_69 : decode cX11_board 69 = .ok (.iaload, 1) := by decide +kernel
theorem dX11_board_70 : decode cX11_board 70 = .ok (.iastore, 1) := by decide +kernel
theorem dX11_board_71 : decode cX11_board 71 = .ok (.iinc 1 1, 3) := by decide +kernel
theorem dX11_board_74 : decode cX11_board 74 = .ok (.goto (-24), 3) := by decide +kernel
theorem dX11_board_77 : decode cX11_board 77 = .ok (.aload_n 0, 1) := by decide +kernel
theorem dX11_board_78 : decode cX11_board 78 = .ok (.iconst 0, 1) := by decide +kernel
theorem dX11_board_79 : decode cX11_board 79 = .ok (.putfield 118, 3) := by decide +kernel
theorem dX11_board_82 : decode cX11_board 82 = .ok (.aload_n 0, 1) := by decide +kernel
theorem dX11_board_83 : decode cX11_board 83 = .ok (.getfield 40, 3) := by decide +kernel
theorem dX11_board_86 : decode cX11_board 86 = .ok (.iconst 0, 1) := by decide +kernel
theorem dX11_board_87 : decode cX11_board 87 = .ok (.iconst 0, 1) := by decide +kernel
theorem dX11_board_88 : decode cX11_board 88 = .ok (.bastore, 1) := by decide +kernel
theorem dX11_board_89 : decode cX11_board 89 = .ok (.aload_n 0, 1) := by decide +kernel
theorem dX11_board_90 : decode cX11_board 90 = .ok (.getfield 40, 3) := by decide +kernel
theorem dX11_board_93 : decode cX11_board 93 = .ok (.iconst 1, 1) := by decide +kernel
theorem dX11_board_94 : decode cX11_board 94 = .ok (.iconst 0, 1) := by decide +kernel
theorem dX11_board_95 : decode cX11_board 95 = .ok (.bastore, 1) := by decide +kernel
theorem dX11_board_96 : decode cX11_board 96 = .ok (.aload_n 0, 1) := by decide +kernel
theorem dX11_board_97 : decode cX11_board 97 = .ok (.getfield 115, 3) := by decide +kernel
theorem dX11_board_100 : decode cX11_board 100 = .ok (.ireturn, 1) := by decide +kernel
theorem dX11_isThread_0 : decode cX11_isThread 0 = .ok (.iload_n 1, 1) := by decide +kernel
theorem dX11_isThread_1 : decode cX11_isThread 1 = .ok (.i2l, 1) := by decide +kernel
theorem dX11_isThread_2 : decode cX11_isThread 2 = .ok (.lconst 0, 1) := by decide +kernel
theorem dX11_isThread_3 : decode cX11_isThread 3 = .ok (.aload_n 0, 1) := by decide +kernel
theorem dX11_isThread_4 : decode cX11_isThread 4 = .ok (.getfield 115, 3) := by decide +kernel
theorem dX11_isThread_7 : decode cX11_isThread 7 = .ok (.iconst 1, 1) := by decide +kernel
theorem dX11_isThread_8 : decode cX11_isThread 8 = .ok (.isub, 1) := by decide +kernel
theorem dX11_isThread_9 : decode cX11_isThread 9 = .ok (.i2l, 1) := by decide +kernel
theorem dX11_isThread_10 : decode cX11_isThread 10 = .ok (.invokestatic 49, 3) := by decide +kernel
theorem dX11_isThread_13 : decode cX11_isThread 13 = .ok (.ireturn, 1) := by decide +kernel
theorem dX11_stretchesOf_0 : decode cX11_stretchesOf 0 = .ok (.iconst 0, 1) := by decide +kernel
theorem dX11_stretchesOf_1 : decode cX11_stretchesOf 1 = .ok (.istore_n 3, 1) := by decide +kernel
theorem dX11_stretchesOf_2 : decode cX11_stretchesOf 2 = .ok (.iconst 0, 1) := by decide +kernel
theorem dX11_stretchesOf_3 : decode cX11_stretchesOf 3 = .ok (.istore 4, 2) := by decide +kernel
theorem dX11_stretchesOf_5 : decode cX11_stretchesOf 5 = .ok (.iload 4, 2) := by decide +kernel
theorem dX11_stretchesOf_7 : decode cX11_stretchesOf 7 = .ok (.aload_n 0, 1) := by decide +kernel
theorem dX11_stretchesOf_8 : decode cX11_stretchesOf 8 = .ok (.iload_n 1, 1) := by decide +kernel
theorem dX11_stretchesOf_9 : decode cX11_stretchesOf 9 = .ok (.invokevirtual 121, 3) := by decide +kernel
theorem dX11_stretchesOf_12 : decode cX11_stretchesOf 12 = .ok (.if_icmp .ge 31, 3) := by decide +kernel
theorem dX11_stretchesOf_15 : decode cX11_stretchesOf 15 = .ok (.iload_n 3, 1) := by decide +kernel
theorem dX11_stretchesOf_16 : decode cX11_stretchesOf 16 = .ok (.aload_n 0, 1) := by decide +kernel
theorem dX11_stretchesOf_17 : decode cX11_stretchesOf 17 = .ok (.iload_n 1, 1) := by decide +kernel
theorem dX11_stretchesOf_18 : decode cX11_stretchesOf 18 = .ok (.iload 4, 2) := by decide +kernel
theorem dX11_stretchesOf_20 : decode cX11_stretchesOf 20 = .ok (.invokevirtual 124, 3) := by decide +kernel
theorem dX11_stretchesOf_23 : decode cX11_stretchesOf 23 = .ok (.invokestatic 127, 3) := by decide +kernel
theorem dX11_stretchesOf_26 : decode cX11_stretchesOf 26 = .ok (.iload_n 2, 1) := by decide +kernel
theorem dX11_stretchesOf_27 : decode cX11_stretchesOf 27 = .ok (.if_icmp .ne 7, 3) := by decide +kernel
theorem dX11_stretchesOf_30 : decode cX11_stretchesOf 30 = .ok (.iconst 1, 1) := by decide +kernel
theorem dX11_stretchesOf_31 : decode cX11_stretchesOf 31 = .ok (.goto 4, 3) := by decide +kernel
theorem dX11_stretchesOf_34 : decode cX11_stretchesOf 34 = .ok (.iconst 0, 1) := by decide +kernel
theorem dX11_stretchesOf_35 : decode cX11_stretchesOf 35 = .ok (.iadd, 1) := by decide +kernel
theorem dX11_stretchesOf_36 : decode cX11_stretchesOf 36 = .ok (.istore_n 3, 1) := by decide +kernel
theorem dX11_stretchesOf_37 : decode cX11_stretchesOf 37 = .ok (.iinc 4 1, 3) := by decide +kernel
theorem dX11_stretchesOf_40 : decode cX11_stretchesOf 40 = .ok (.goto (-35), 3) := by decide +kernel
theorem dX11_stretchesOf_43 : decode cX11_stretchesOf 43 = .ok (.iload_n 3, 1) := by decide +kernel
theorem dX11_stretchesOf_44 : decode cX11_stretchesOf 44 = .ok (.ireturn, 1) := by decide +kernel
theorem dX11_longOf_0 : decode cX11_longOf 0 = .ok (.iconst 0, 1) := by decide +kernel
theorem dX11_longOf_1 : decode cX11_longOf 1 = .ok (.istore_n 3, 1) := by decide +kernel
theorem dX11_longOf_2 : decode cX11_longOf 2 = .ok (.iconst 0, 1) := by decide +kernel
theorem dX11_longOf_3 : decode cX11_longOf 3 = .ok (.istore 4, 2) := by decide +kernel
theorem dX11_longOf_5 : decode cX11_longOf 5 = .ok (.iload 4, 2) := by decide +kernel
theorem dX11_longOf_7 : decode cX11_longOf 7 = .ok (.aload_n 0, 1) := by decide +kernel
theorem dX11_longOf_8 : decode cX11_longOf 8 = .ok (.iload_n 1, 1) := by decide +kernel
theorem dX11_longOf_9 : decode cX11_longOf 9 = .ok (.invokevirtual 121, 3) := by decide +kernel
theorem dX11_longOf_12 : decode cX11_longOf 12 = .ok (.if_icmp .ge 53, 3) := by decide +kernel
theorem dX11_longOf_15 : decode cX11_longOf 15 = .ok (.iload_n 3, 1) := by decide +kernel
theorem dX11_longOf_16 : decode cX11_longOf 16 = .ok (.aload_n 0, 1) := by decide +kernel
theorem dX11_longOf_17 : decode cX11_longOf 17 = .ok (.iload_n 1, 1) := by decide +kernel
theorem dX11_longOf_18 : decode cX11_longOf 18 = .ok (.iload 4, 2) := by decide +kernel
theorem dX11_longOf_20 : decode cX11_longOf 20 = .ok (.invokevirtual 124, 3) := by decide +kernel
theorem dX11_longOf_23 : decode cX11_longOf 23 = .ok (.invokestatic 127, 3) := by decide +kernel
theorem dX11_longOf_26 : decode cX11_longOf 26 = .ok (.iload_n 2, 1) := by decide +kernel
theorem dX11_longOf_27 : decode cX11_longOf 27 = .ok (.if_icmp .ne 29, 3) := by decide +kernel
theorem dX11_longOf_30 : decode cX11_longOf 30 = .ok (.aload_n 0, 1) := by decide +kernel
theorem dX11_longOf_31 : decode cX11_longOf 31 = .ok (.iload_n 1, 1) := by decide +kernel
theorem dX11_longOf_32 : decode cX11_longOf 32 = .ok (.iload 4, 2) := by decide +kernel
theorem dX11_longOf_34 : decode cX11_longOf 34 = .ok (.invokevirtual 124, 3) := by decide +kernel
theorem dX11_longOf_37 : decode cX11_longOf 37 = .ok (.invokestatic 61, 3) := by decide +kernel
theorem dX11_longOf_40 : decode cX11_longOf 40 = .ok (.aload_n 0, 1) := by decide +kernel
theorem dX11_longOf_41 : decode cX11_longOf 41 = .ok (.iload_n 1, 1) := by decide +kernel
theorem dX11_longOf_42 : decode cX11_longOf 42 = .ok (.iload 4, 2) := by decide +kernel
theorem dX11_longOf_44 : decode cX11_longOf 44 = .ok (.invokevirtual 124, 3) := by decide +kernel
theorem dX11_longOf_47 : decode cX11_longOf 47 = .ok (.invokestatic 65, 3) := by decide +kernel
theorem dX11_longOf_50 : decode cX11_longOf 50 = .ok (.invokestatic 130, 3) := by decide +kernel
theorem dX11_longOf_53 : decode cX11_longOf 53 = .ok (.goto 4, 3) := by decide +kernel
theorem dX11_longOf_56 : decode cX11_longOf 56 = .ok (.iconst 0, 1) := by decide +kernel
theorem dX11_longOf_57 : decode cX11_longOf 57 = .ok (.iadd, 1) := by decide +kernel
theorem dX11_longOf_58 : decode cX11_longOf 58 = .ok (.istore_n 3, 1) := by decide +kernel
theorem dX11_longOf_59 : decode cX11_longOf 59 = .ok (.iinc 4 1, 3) := by decide +kernel
theorem dX11_longOf_62 : decode cX11_longOf 62 = .ok (.goto (-57), 3) := by decide +kernel
theorem dX11_longOf_65 : decode cX11_longOf 65 = .ok (.iload_n 3, 1) := by decide +kernel
theorem dX11_longOf_66 : decode cX11_longOf 66 = .ok (.ireturn, 1) := by decide +kernel
theorem dX11_crossedBy_0 : decode cX11_crossedBy 0 = .ok (.iconst 0, 1) := by decide +kernel
theorem dX11_crossedBy_1 : decode cX11_crossedBy 1 = .ok (.istore 5, 2) := by decide +kernel
theorem dX11_crossedBy_3 : decode cX11_crossedBy 3 = .ok (.iconst 0, 1) := by decide +kernel
theorem dX11_crossedBy_4 : decode cX11_crossedBy 4 = .ok (.istore 6, 2) := by decide +kernel
theorem dX11_crossedBy_6 : decode cX11_crossedBy 6 = .ok (.iload 6, 2) := by decide +kernel
theorem dX11_crossedBy_8 : decode cX11_crossedBy 8 = .ok (.aload_n 0, 1) := by decide +kernel
theorem dX11_crossedBy_9 : decode cX11_crossedBy 9 = .ok (.iload_n 1, 1) := by decide +kernel
theorem dX11_crossedBy_10 : decode cX11_crossedBy 10 = .ok (.invokevirtual 121, 3) := by decide +kernel
theorem dX11_crossedBy_13 : decode cX11_crossedBy 13 = .ok (.if_icmp .ge 62, 3) := by decide +kernel
theorem dX11_crossedBy_16 : decode cX11_crossedBy 16 = .ok (.aload_n 0, 1) := by decide +kernel
theorem dX11_crossedBy_17 : decode cX11_crossedBy 17 = .ok (.iload_n 1, 1) := by decide +kernel
theorem dX11_crossedBy_18 : decode cX11_crossedBy 18 = .ok (.iload 6, 2) := by decide +kernel
theorem dX11_crossedBy_20 : decode cX11_crossedBy 20 = .ok (.invokevirtual 124, 3) := by decide +kernel
theorem dX11_crossedBy_23 : decode cX11_crossedBy 23 = .ok (.istore 7, 2) := by decide +kernel
theorem dX11_crossedBy_25 : decode cX11_crossedBy 25 = .ok (.iload 5, 2) := by decide +kernel
theorem dX11_crossedBy_27 : decode cX11_crossedBy 27 = .ok (.iload_n 2, 1) := by decide +kernel
theorem dX11_crossedBy_28 : decode cX11_crossedBy 28 = .ok (.bipush (-9), 2) := by decide +kernel
theorem dX11_crossedBy_30 : decode cX11_crossedBy 30 = .ok (.if_icmp .eq 12, 3) := by decide +kernel
theorem dX11_crossedBy_33 : decode cX11_crossedBy 33 = .ok (.iload 7, 2) := by decide +kernel
theorem dX11_crossedBy_35 : decode cX11_crossedBy 35 = .ok (.invokestatic 127, 3) := by decide +kernel
theorem dX11_crossedBy_38 : decode cX11_crossedBy 38 = .ok (.iload_n 2, 1) := by decide +kernel
theorem dX11_crossedBy_39 : decode cX11_crossedBy 39 = .ok (.if_icmp .ne 26, 3) := by decide +kernel
theorem dX11_crossedBy_42 : decode cX11_crossedBy 42 = .ok (.iload_n 3, 1) := by decide +kernel
theorem dX11_crossedBy_43 : decode cX11_crossedBy 43 = .ok (.iload 4, 2) := by decide +kernel
theorem dX11_crossedBy_45 : decode cX11_crossedBy 45 = .ok (.iload 7, 2) := by decide +kernel
theorem dX11_crossedBy_47 : decode cX11_crossedBy 47 = .ok (.invokestatic 61, 3) := by decide +kernel
theorem dX11_crossedBy_50 : decode cX11_crossedBy 50 = .ok (.iload 7, 2) := by decide +kernel
theorem dX11_crossedBy_52 : decode cX11_crossedBy 52 = .ok (.invokestatic 65, 3) := by decide +kernel
theorem dX11_crossedBy_55 : decode cX11_crossedBy 55 = .ok (.invokestatic 68, 3) := by decide +kernel
theorem dX11_crossedBy_58 : decode cX11_crossedBy 58 = .ok (.ifCond .eq 7, 3) := by decide +kernel
theorem dX11_crossedBy_61 : decode cX11_crossedBy 61 = .ok (.iconst 1, 1) := by decide +kernel
theorem dX11_crossedBy_62 : decode cX11_crossedBy 62 = .ok (.goto 4, 3) := by decide +kernel
theorem dX11_crossedBy_65 : decode cX11_crossedBy 65 = .ok (.iconst 0, 1) := by decide +kernel
theorem dX11_crossedBy_66 : decode cX11_crossedBy 66 = .ok (.iadd, 1) := by decide +kernel
theorem dX11_crossedBy_67 : decode cX11_crossedBy 67 = .ok (.istore 5, 2) := by decide +kernel
theorem dX11_crossedBy_69 : decode cX11_crossedBy 69 = .ok (.iinc 6 1, 3) := by decide +kernel
theorem dX11_crossedBy_72 : decode cX11_crossedBy 72 = .ok (.goto (-66), 3) := by decide +kernel
theorem dX11_crossedBy_75 : decode cX11_crossedBy 75 = .ok (.iload 5, 2) := by decide +kernel
theorem dX11_crossedBy_77 : decode cX11_crossedBy 77 = .ok (.ireturn, 1) := by decide +kernel
theorem dX11_mayWind_0 : decode cX11_mayWind 0 = .ok (.aload_n 0, 1) := by decide +kernel
theorem dX11_mayWind_1 : decode cX11_mayWind 1 = .ok (.getfield 13, 3) := by decide +kernel
theorem dX11_mayWind_4 : decode cX11_mayWind 4 = .ok (.bipush 53, 2) := by decide +kernel
theorem dX11_mayWind_6 : decode cX11_mayWind 6 = .ok (.iload_n 1, 1) := by decide +kernel
theorem dX11_mayWind_7 : decode cX11_mayWind 7 = .ok (.imul, 1) := by decide +kernel
theorem dX11_mayWind_8 : decode cX11_mayWind 8 = .ok (.iload_n 2, 1) := by decide +kernel
theorem dX11_mayWind_9 : decode cX11_mayWind 9 = .ok (.iadd, 1) := by decide +kernel
theorem dX11_mayWind_10 : decode cX11_mayWind 10 = .ok (.iaload, 1) := by decide +kernel
theorem dX11_mayWind_11 : decode cX11_mayWind 11 = .ok (.istore 4, 2) := by decide +kernel
theorem dX11_mayWind_13 : decode cX11_mayWind 13 = .ok (.iload_n 3, 1) := by decide +kernel
theorem dX11_mayWind_14 : decode cX11_mayWind 14 = .ok (.invokestatic 133, 3) := by decide +kernel
theorem dX11_mayWind_17 : decode cX11_mayWind 17 = .ok (.ifCond .eq 20, 3) := by decide +kernel
theorem dX11_mayWind_20 : decode cX11_mayWind 20 = .ok (.iload_n 3, 1) := by decide +kernel
theorem dX11_mayWind_21 : decode cX11_mayWind 21 = .ok (.iload 4, 2) := by decide +kernel
theorem dX11_mayWind_23 : decode cX11_mayWind 23 = .ok (.if_icmp .eq 14, 3) := by decide +kernel
theorem dX11_mayWind_26 : decode cX11_mayWind 26 = .ok (.aload_n 0, 1) := by decide +kernel
theorem dX11_mayWind_27 : decode cX11_mayWind 27 = .ok (.iload_n 1, 1) := by decide +kernel
theorem dX11_mayWind_28 : decode cX11_mayWind 28 = .ok (.iload_n 2, 1) := by decide +kernel
theorem dX11_mayWind_29 : decode cX11_mayWind 29 = .ok (.invokevirtual 137, 3) := by decide +kernel
theorem dX11_mayWind_32 : decode cX11_mayWind 32 = .ok (.bipush 12, 2) := by decide +kernel
theorem dX11_mayWind_34 : decode cX11_mayWind 34 = .ok (.if_icmp .lt 5, 3) := by decide +kernel
theorem dX11_mayWind_37 : decode cX11_mayWind 37 = .ok (.iconst 0, 1) := by decide +kernel
theorem dX11_mayWind_38 : decode cX11_mayWind 38 = .ok (.ireturn, 1) := by decide +kernel
theorem dX11_mayWind_39 : decode cX11_mayWind 39 = .ok (.aload_n 0, 1) := by decide +kernel
theorem dX11_mayWind_40 : decode cX11_mayWind 40 = .ok (.iload_n 1, 1) := by decide +kernel
theorem dX11_mayWind_41 : decode cX11_mayWind 41 = .ok (.iload_n 2, 1) := by decide +kernel
theorem dX11_mayWind_42 : decode cX11_mayWind 42 = .ok (.invokevirtual 140, 3) := by decide +kernel
theorem dX11_mayWind_45 : decode cX11_mayWind 45 = .ok (.istore 5, 2) := by decide +kernel
theorem dX11_mayWind_47 : decode cX11_mayWind 47 = .ok (.iload 5, 2) := by decide +kernel
theorem dX11_mayWind_49 : decode cX11_mayWind 49 = .ok (.iconst 1, 1) := by decide +kernel
theorem dX11_mayWind_50 : decode cX11_mayWind 50 = .ok (.if_icmp .eq 9, 3) := by decide +kernel
theorem dX11_mayWind_53 : decode cX11_mayWind 53 = .ok (.iload 5, 2) := by decide +kernel
theorem dX11_mayWind_55 : decode cX11_mayWind 55 = .ok (.iconst 3, 1) := by decide +kernel
theorem dX11_mayWind_56 : decode cX11_mayWind 56 = .ok (.if_icmp .ne 15, 3) := by decide +kernel
theorem dX11_mayWind_59 : decode cX11_mayWind 59 = .ok (.iload 4, 2) := by decide +kernel
theorem dX11_mayWind_61 : decode cX11_mayWind 61 = .ok (.iload_n 3, 1) := by decide +kernel
theorem dX11_mayWind_62 : decode cX11_mayWind 62 = .ok (.invokestatic 53, 3) := by decide +kernel
theorem dX11_mayWind_65 : decode cX11_mayWind 65 = .ok (.iconst 1, 1) := by decide +kernel
theorem dX11_mayWind_66 : decode cX11_mayWind 66 = .ok (.if_icmp .ne 5, 3) := by decide +kernel
theorem dX11_mayWind_69 : decode cX11_mayWind 69 = .ok (.iconst 0, 1) := by decide +kernel
theorem dX11_mayWind_70 : decode cX11_mayWind 70 = .ok (.ireturn, 1) := by decide +kernel
theorem dX11_mayWind_71 : decode cX11_mayWind 71 = .ok (.iload 5, 2) := by decide +kernel
theorem dX11_mayWind_73 : decode cX11_mayWind 73 = .ok (.iconst 2, 1) := by decide +kernel
theorem dX11_mayWind_74 : decode cX11_mayWind 74 = .ok (.if_icmp .ne 17, 3) := by decide +kernel
theorem dX11_mayWind_77 : decode cX11_mayWind 77 = .ok (.aload_n 0, 1) := by decide +kernel
theorem dX11_mayWind_78 : decode cX11_mayWind 78 = .ok (.iload_n 1, 1) := by decide +kernel
theorem dX11_mayWind_79 : decode cX11_mayWind 79 = .ok (.iload_n 2, 1) := by decide +kernel
theorem dX11_mayWind_80 : decode cX11_mayWind 80 = .ok (.iload 4, 2) := by decide +kernel
theorem dX11_mayWind_82 : decode cX11_mayWind 82 = .ok (.iload_n 3, 1) := by decide +kernel
theorem dX11_mayWind_83 : decode cX11_mayWind 83 = .ok (.invokevirtual 143, 3) := by decide +kernel
theorem dX11_mayWind_86 : decode cX11_mayWind 86 = .ok (.ifCond .le 5, 3) := by decide +kernel
theorem dX11_mayWind_89 : decode cX11_mayWind 89 = .ok (.iconst 0, 1) := by decide +kernel
theorem dX11_mayWind_90 : decode cX11_mayWind 90 = .ok (.ireturn, 1) := by decide +kernel
theorem dX11_mayWind_91 : decode cX11_mayWind 91 = .ok (.iload 5, 2) := by decide +kernel
theorem dX11_mayWind_93 : decode cX11_mayWind 93 = .ok (.iconst 3, 1) := by decide +kernel
theorem dX11_mayWind_94 : decode cX11_mayWind 94 = .ok (.if_icmp .ne 21, 3) := by decide +kernel
theorem dX11_mayWind_97 : decode cX11_mayWind 97 = .ok (.aload_n 0, 1) := by decide +kernel
theorem dX11_mayWind_98 : decode cX11_mayWind 98 = .ok (.iload_n 1, 1) := by decide +kernel
theorem dX11_mayWind_99 : decode cX11_mayWind 99 = .ok (.iload_n 2, 1) := by decide +kernel
theorem dX11_mayWind_100 : decode cX11_mayWind 100 = .ok (.invokevirtual 147, 3) := by decide +kernel
theorem dX11_mayWind_103 : decode cX11_mayWind 103 = .ok (.iload 4, 2) := by decide +kernel
theorem dX11_mayWind_105 : decode cX11_mayWind 105 = .ok (.iload_n 3, 1) := by decide +kernel
theorem dX11_mayWind_106 : decode cX11_mayWind 106 = .ok (.invokestatic 130, 3) := by decide +kernel
theorem dX11_mayWind_109 : decode cX11_mayWind 109 = .ok (.iadd, 1) := by decide +kernel
theorem dX11_mayWind_110 : decode cX11_mayWind 110 = .ok (.bipush 80, 2) := by decide +kernel
theorem dX11_mayWind_112 : decode cX11_mayWind 112 = .ok (.if_icmp .gt 7, 3) := by decide +kernel
theorem dX11_mayWind_115 : decode cX11_mayWind 115 = .ok (.iconst 1, 1) := by decide +kernel
theorem dX11_mayWind_116 : decode cX11_mayWind 116 = .ok (.goto 4, 3) := by decide +kernel
theorem dX11_mayWind_119 : decode cX11_mayWind 119 = .ok (.iconst 0, 1) := by decide +kernel
theorem dX11_mayWind_120 : decode cX11_mayWind 120 = .ok (.ireturn, 1) := by decide +kernel
theorem dX11_windOn_0 : decode cX11_windOn 0 = .ok (.bipush 53, 2) := by decide +kernel
theorem dX11_windOn_2 : decode cX11_windOn 2 = .ok (.iload_n 1, 1) := by decide +kernel
theorem dX11_windOn_3 : decode cX11_windOn 3 = .ok (.imul, 1) := by decide +kernel
theorem dX11_windOn_4 : decode cX11_windOn 4 = .ok (.istore 4, 2) := by decide +kernel
theorem dX11_windOn_6 : decode cX11_windOn 6 = .ok (.aload_n 0, 1) := by decide +kernel
theorem dX11_windOn_7 : decode cX11_windOn 7 = .ok (.getfield 13, 3) := by decide +kernel
theorem dX11_windOn_10 : decode cX11_windOn 10 = .ok (.iload 4, 2) := by decide +kernel
theorem dX11_windOn_12 : decode cX11_windOn 12 = .ok (.iload_n 2, 1) := by decide +kernel
theorem dX11_windOn_13 : decode cX11_windOn 13 = .ok (.iadd, 1) := by decide +kernel
theorem dX11_windOn_14 : decode cX11_windOn 14 = .ok (.iaload, 1) := by decide +kernel
theorem dX11_windOn_15 : decode cX11_windOn 15 = .ok (.istore 5, 2) := by decide +kernel
theorem dX11_windOn_17 : decode cX11_windOn 17 = .ok (.aload_n 0, 1) := by decide +kernel
theorem dX11_windOn_18 : decode cX11_windOn 18 = .ok (.iload_n 1, 1) := by decide +kernel
theorem dX11_windOn_19 : decode cX11_windOn 19 = .ok (.bipush (-9), 2) := by decide +kernel
theorem dX11_windOn_21 : decode cX11_windOn 21 = .ok (.iload 5, 2) := by decide +kernel
theorem dX11_windOn_23 : decode cX11_windOn 23 = .ok (.iload_n 3, 1) := by decide +kernel
theorem dX11_windOn_24 : decode cX11_windOn 24 = .ok (.invokevirtual 143, 3) := by decide +kernel
theorem dX11_windOn_27 : decode cX11_windOn 27 = .ok (.istore 6, 2) := by decide +kernel
theorem dX11_windOn_29 : decode cX11_windOn 29 = .ok (.aload_n 0, 1) := by decide +kernel
theorem dX11_windOn_30 : decode cX11_windOn 30 = .ok (.getfield 13, 3) := by decide +kernel
theorem dX11_windOn_33 : decode cX11_windOn 33 = .ok (.iload 4, 2) := by decide +kernel
theorem dX11_windOn_35 : decode cX11_windOn 35 = .ok (.iconst 5, 1) := by decide +kernel
