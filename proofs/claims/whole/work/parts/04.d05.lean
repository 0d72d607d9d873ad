theorem dX8_crossing_109 : decode cX8_crossing 109 = .ok (.getfield 16, 3) := by decide +kernel
theorem dX8_crossing_112 : decode cX8_crossing 112 = .ok (.iconst 3, 1) := by decide +kernel
theorem dX8_crossing_113 : decode cX8_crossing 113 = .ok (.iaload, 1) := by decide +kernel
theorem dX8_crossing_114 : decode cX8_crossing 114 = .ok (.invokevirtual 74, 3) := by decide +kernel
theorem dX8_crossing_117 : decode cX8_crossing 117 = .ok (.aload_n 0, 1) := by decide +kernel
theorem dX8_crossing_118 : decode cX8_crossing 118 = .ok (.getfield 38, 3) := by decide +kernel
theorem dX8_crossing_121 : decode cX8_crossing 121 = .ok (.iload_n 1, 1) := by decide +kernel
theorem dX8_crossing_122 : decode cX8_crossing 122 = .ok (.iaload, 1) := by decide +kernel
theorem dX8_crossing_123 : decode cX8_crossing 123 = .ok (.invokestatic 77, 3) := by decide +kernel
theorem dX8_crossing_126 : decode cX8_crossing 126 = .ok (.ireturn, 1) := by decide +kernel
theorem dX8_between_0 : decode cX8_between 0 = .ok (.aload_n 0, 1) := by decide +kernel
theorem dX8_between_1 : decode cX8_between 1 = .ok (.aload_n 0, 1) := by decide +kernel
theorem dX8_between_2 : decode cX8_between 2 = .ok (.getfield 16, 3) := by decide +kernel
theorem dX8_between_5 : decode cX8_between 5 = .ok (.iload_n 1, 1) := by decide +kernel
theorem dX8_between_6 : decode cX8_between 6 = .ok (.invokestatic 182, 3) := by decide +kernel
theorem dX8_between_9 : decode cX8_between 9 = .ok (.ifCond .eq 18, 3) := by decide +kernel
theorem dX8_between_12 : decode cX8_between 12 = .ok (.aload_n 0, 1) := by decide +kernel
theorem dX8_between_13 : decode cX8_between 13 = .ok (.getfield 16, 3) := by decide +kernel
theorem dX8_between_16 : decode cX8_between 16 = .ok (.iload_n 2, 1) := by decide +kernel
theorem dX8_between_17 : decode cX8_between 17 = .ok (.invokestatic 182, 3) := by decide +kernel
theorem dX8_between_20 : decode cX8_between 20 = .ok (.ifCond .eq 7, 3) := by decide +kernel
theorem dX8_between_23 : decode cX8_between 23 = .ok (.iconst 0, 1) := by decide +kernel
theorem dX8_between_24 : decode cX8_between 24 = .ok (.goto 4, 3) := by decide +kernel
theorem dX8_between_27 : decode cX8_between 27 = .ok (.iconst 1, 1) := by decide +kernel
theorem dX8_between_28 : decode cX8_between 28 = .ok (.invokevirtual 103, 3) := by decide +kernel
theorem dX8_between_31 : decode cX8_between 31 = .ok (.ifCond .eq 5, 3) := by decide +kernel
theorem dX8_between_34 : decode cX8_between 34 = .ok (.iconst 0, 1) := by decide +kernel
theorem dX8_between_35 : decode cX8_between 35 = .ok (.ireturn, 1) := by decide +kernel
theorem dX8_between_36 : decode cX8_between 36 = .ok (.aload_n 0, 1) := by decide +kernel
theorem dX8_between_37 : decode cX8_between 37 = .ok (.getfield 16, 3) := by decide +kernel
theorem dX8_between_40 : decode cX8_between 40 = .ok (.iload_n 1, 1) := by decide +kernel
theorem dX8_between_41 : decode cX8_between 41 = .ok (.iload_n 2, 1) := by decide +kernel
theorem dX8_between_42 : decode cX8_between 42 = .ok (.invokestatic 118, 3) := by decide +kernel
theorem dX8_between_45 : decode cX8_between 45 = .ok (.ireturn, 1) := by decide +kernel
theorem dX8_at_0 : decode cX8_at 0 = .ok (.iload_n 1, 1) := by decide +kernel
theorem dX8_at_1 : decode cX8_at 1 = .ok (.aload_n 0, 1) := by decide +kernel
theorem dX8_at_2 : decode cX8_at 2 = .ok (.getfield 92, 3) := by decide +kernel
theorem dX8_at_5 : decode cX8_at 5 = .ok (.if_icmp .ge 12, 3) := by decide +kernel
theorem dX8_at_8 : decode cX8_at 8 = .ok (.aload_n 0, 1) := by decide +kernel
theorem dX8_at_9 : decode cX8_at 9 = .ok (.getfield 41, 3) := by decide +kernel
theorem dX8_at_12 : decode cX8_at 12 = .ok (.iload_n 1, 1) := by decide +kernel
theorem dX8_at_13 : decode cX8_at 13 = .ok (.iaload, 1) := by decide +kernel
theorem dX8_at_14 : decode cX8_at 14 = .ok (.goto 6, 3) := by decide +kernel
theorem dX8_at_17 : decode cX8_at 17 = .ok (.sipush (-999), 3) := by decide +kernel
theorem dX8_at_20 : decode cX8_at 20 = .ok (.ireturn, 1) := by decide +kernel
theorem dX8_wayAt_0 : decode cX8_wayAt 0 = .ok (.aload_n 0, 1) := by decide +kernel
theorem dX8_wayAt_1 : decode cX8_wayAt 1 = .ok (.iload_n 1, 1) := by decide +kernel
theorem dX8_wayAt_2 : decode cX8_wayAt 2 = .ok (.ifCond .ge 7, 3) := by decide +kernel
theorem dX8_wayAt_5 : decode cX8_wayAt 5 = .ok (.iconst 1, 1) := by decide +kernel
theorem dX8_wayAt_6 : decode cX8_wayAt 6 = .ok (.goto 4, 3) := by decide +kernel
theorem dX8_wayAt_9 : decode cX8_wayAt 9 = .ok (.iconst 0, 1) := by decide +kernel
theorem dX8_wayAt_10 : decode cX8_wayAt 10 = .ok (.invokevirtual 103, 3) := by decide +kernel
theorem dX8_wayAt_13 : decode cX8_wayAt 13 = .ok (.ifCond .eq 5, 3) := by decide +kernel
theorem dX8_wayAt_16 : decode cX8_wayAt 16 = .ok (.iconst 0, 1) := by decide +kernel
theorem dX8_wayAt_17 : decode cX8_wayAt 17 = .ok (.ireturn, 1) := by decide +kernel
theorem dX8_wayAt_18 : decode cX8_wayAt 18 = .ok (.aload_n 0, 1) := by decide +kernel
theorem dX8_wayAt_19 : decode cX8_wayAt 19 = .ok (.aload_n 0, 1) := by decide +kernel
theorem dX8_wayAt_20 : decode cX8_wayAt 20 = .ok (.getfield 16, 3) := by decide +kernel
theorem dX8_wayAt_23 : decode cX8_wayAt 23 = .ok (.sipush (-999), 3) := by decide +kernel
theorem dX8_wayAt_26 : decode cX8_wayAt 26 = .ok (.invokevirtual 170, 3) := by decide +kernel
theorem dX8_wayAt_29 : decode cX8_wayAt 29 = .ok (.pop, 1) := by decide +kernel
theorem dX8_wayAt_30 : decode cX8_wayAt 30 = .ok (.aload_n 0, 1) := by decide +kernel
theorem dX8_wayAt_31 : decode cX8_wayAt 31 = .ok (.iload_n 1, 1) := by decide +kernel
theorem dX8_wayAt_32 : decode cX8_wayAt 32 = .ok (.invokevirtual 187, 3) := by decide +kernel
theorem dX8_wayAt_35 : decode cX8_wayAt 35 = .ok (.ireturn, 1) := by decide +kernel
theorem dX8_remember_0 : decode cX8_remember 0 = .ok (.aload_n 0, 1) := by decide +kernel
theorem dX8_remember_1 : decode cX8_remember 1 = .ok (.getfield 158, 3) := by decide +kernel
theorem dX8_remember_4 : decode cX8_remember 4 = .ok (.bipush 14, 2) := by decide +kernel
theorem dX8_remember_6 : decode cX8_remember 6 = .ok (.if_icmp .ne 43, 3) := by decide +kernel
theorem dX8_remember_9 : decode cX8_remember 9 = .ok (.iconst 0, 1) := by decide +kernel
theorem dX8_remember_10 : decode cX8_remember 10 = .ok (.istore_n 1, 1) := by decide +kernel
theorem dX8_remember_11 : decode cX8_remember 11 = .ok (.iload_n 1, 1) := by decide +kernel
theorem dX8_remember_12 : decode cX8_remember 12 = .ok (.sipush 1092, 3) := by decide +kernel
theorem dX8_remember_15 : decode cX8_remember 15 = .ok (.if_icmp .ge 24, 3) := by decide +kernel
theorem dX8_remember_18 : decode cX8_remember 18 = .ok (.aload_n 0, 1) := by decide +kernel
theorem dX8_remember_19 : decode cX8_remember 19 = .ok (.getfield 22, 3) := by decide +kernel
theorem dX8_remember_22 : decode cX8_remember 22 = .ok (.iload_n 1, 1) := by decide +kernel
theorem dX8_remember_23 : decode cX8_remember 23 = .ok (.aload_n 0, 1) := by decide +kernel
theorem dX8_remember_24 : decode cX8_remember 24 = .ok (.getfield 22, 3) := by decide +kernel
theorem dX8_remember_27 : decode cX8_remember 27 = .ok (.iload_n 1, 1) := by decide +kernel
theorem dX8_remember_28 : decode cX8_remember 28 = .ok (.bipush 84, 2) := by decide +kernel
theorem dX8_remember_30 : decode cX8_remember 30 = .ok (.iadd, 1) := by decide +kernel
theorem dX8_remember_31 : decode cX8_remember 31 = .ok (.iaload, 1) := by decide +kernel
theorem dX8_remember_32 : decode cX8_remember 32 = .ok (.iastore, 1) := by decide +kernel
theorem dX8_remember_33 : decode cX8_remember 33 = .ok (.iinc 1 1, 3) := by decide +kernel
theorem dX8_remember_36 : decode cX8_remember 36 = .ok (.goto (-25), 3) := by decide +kernel
theorem dX8_remember_39 : decode cX8_remember 39 = .ok (.aload_n 0, 1) := by decide +kernel
theorem dX8_remember_40 : decode cX8_remember 40 = .ok (.dup, 1) := by decide +kernel
theorem dX8_remember_41 : decode cX8_remember 41 = .ok (.getfield 158, 3) := by decide +kernel
theorem dX8_remember_44 : decode cX8_remember 44 = .ok (.iconst 1, 1) := by decide +kernel
theorem dX8_remember_45 : decode cX8_remember 45 = .ok (.isub, 1) := by decide +kernel
theorem dX8_remember_46 : decode cX8_remember 46 = .ok (.putfield 158, 3) := by decide +kernel
theorem dX8_remember_49 : decode cX8_remember 49 = .ok (.aload_n 0, 1) := by decide +kernel
theorem dX8_remember_50 : decode cX8_remember 50 = .ok (.getfield 16, 3) := by decide +kernel
theorem dX8_remember_53 : decode cX8_remember 53 = .ok (.iconst 0, 1) := by decide +kernel
theorem dX8_remember_54 : decode cX8_remember 54 = .ok (.aload_n 0, 1) := by decide +kernel
theorem dX8_remember_55 : decode cX8_remember 55 = .ok (.getfield 22, 3) := by decide +kernel
theorem dX8_remember_58 : decode cX8_remember 58 = .ok (.bipush 84, 2) := by decide +kernel
theorem dX8_remember_60 : decode cX8_remember 60 = .ok (.aload_n 0, 1) := by decide +kernel
theorem dX8_remember_61 : decode cX8_remember 61 = .ok (.getfield 158, 3) := by decide +kernel
theorem dX8_remember_64 : decode cX8_remember 64 = .ok (.imul, 1) := by decide +kernel
theorem dX8_remember_65 : decode cX8_remember 65 = .ok (.invokestatic 161, 3) := by decide +kernel
theorem dX8_remember_68 : decode cX8_remember 68 = .ok (.aload_n 0, 1) := by decide +kernel
theorem dX8_remember_69 : decode cX8_remember 69 = .ok (.dup, 1) := by decide +kernel
theorem dX8_remember_70 : decode cX8_remember 70 = .ok (.getfield 158, 3) := by decide +kernel
theorem dX8_remember_73 : decode cX8_remember 73 = .ok (.iconst 1, 1) := by decide +kernel
theorem dX8_remember_74 : decode cX8_remember 74 = .ok (.iadd, 1) := by decide +kernel
theorem dX8_remember_75 : decode cX8_remember 75 = .ok (.putfield 158, 3) := by decide +kernel
theorem dX8_remember_78 : decode cX8_remember 78 = .ok (.return_, 1) := by decide +kernel
theorem dX8_addCrossing_0 : decode cX8_addCrossing 0 = .ok (.aload_n 0, 1) := by decide +kernel
theorem dX8_addCrossing_1 : decode cX8_addCrossing 1 = .ok (.aload_n 0, 1) := by decide +kernel
theorem dX8_addCrossing_2 : decode cX8_addCrossing 2 = .ok (.getfield 16, 3) := by decide +kernel
theorem dX8_addCrossing_5 : decode cX8_addCrossing 5 = .ok (.iconst 0, 1) := by decide +kernel
theorem dX8_addCrossing_6 : decode cX8_addCrossing 6 = .ok (.iaload, 1) := by decide +kernel
theorem dX8_addCrossing_7 : decode cX8_addCrossing 7 = .ok (.bipush 9, 2) := by decide +kernel
theorem dX8_addCrossing_9 : decode cX8_addCrossing 9 = .ok (.if_icmp .ne 7, 3) := by decide +kernel
theorem dX8_addCrossing_12 : decode cX8_addCrossing 12 = .ok (.iconst 1, 1) := by decide +kernel
theorem dX8_addCrossing_13 : decode cX8_addCrossing 13 = .ok (.goto 4, 3) := by decide +kernel
theorem dX8_addCrossing_16 : decode cX8_addCrossing 16 = .ok (.iconst 0, 1) := by decide +kernel
theorem dX8_addCrossing_17 : decode cX8_addCrossing 17 = .ok (.invokevirtual 103, 3) := by decide +kernel
theorem dX8_addCrossing_20 : decode cX8_addCrossing 20 = .ok (.ifCond .eq 5, 3) := by decide +kernel
theorem dX8_addCrossing_23 : decode cX8_addCrossing 23 = .ok (.iconst 0, 1) := by decide +kernel
theorem dX8_addCrossing_24 : decode cX8_addCrossing 24 = .ok (.ireturn, 1) := by decide +kernel
theorem dX8_addCrossing_25 : decode cX8_addCrossing 25 = .ok (.aload_n 0, 1) := by decide +kernel
theorem dX8_addCrossing_26 : decode cX8_addCrossing 26 = .ok (.invokevirtual 190, 3) := by decide +kernel
theorem dX8_addCrossing_29 : decode cX8_addCrossing 29 = .ok (.aload_n 0, 1) := by decide +kernel
theorem dX8_addCrossing_30 : decode cX8_addCrossing 30 = .ok (.getfield 16, 3) := by decide +kernel
theorem dX8_addCrossing_33 : decode cX8_addCrossing 33 = .ok (.iconst 0, 1) := by decide +kernel
theorem dX8_addCrossing_34 : decode cX8_addCrossing 34 = .ok (.dup2, 1) := by decide +kernel
theorem dX8_addCrossing_35 : decode cX8_addCrossing 35 = .ok (.iaload, 1) := by decide +kernel
theorem dX8_addCrossing_36 : decode cX8_addCrossing 36 = .ok (.iconst 1, 1) := by decide +kernel
theorem dX8_addCrossing_37 : decode cX8_addCrossing 37 = .ok (.iadd, 1) := by decide +kernel
theorem dX8_addCrossing_38 : decode cX8_addCrossing 38 = .ok (.iastore, 1) := by decide +kernel
theorem dX8_addCrossing_39 : decode cX8_addCrossing 39 = .ok (.aload_n 0, 1) := by decide +kernel
theorem dX8_addCrossing_40 : decode cX8_addCrossing 40 = .ok (.getfield 16, 3) := by decide +kernel
theorem dX8_addCrossing_43 : decode cX8_addCrossing 43 = .ok (.iconst 0, 1) := by decide +kernel
theorem dX8_addCrossing_44 : decode cX8_addCrossing 44 = .ok (.iaload, 1) := by decide +kernel
theorem dX8_addCrossing_45 : decode cX8_addCrossing 45 = .ok (.iconst 1, 1) := by decide +kernel
theorem dX8_addCrossing_46 : decode cX8_addCrossing 46 = .ok (.isub, 1) := by decide +kernel
theorem dX8_addCrossing_47 : decode cX8_addCrossing 47 = .ok (.ireturn, 1) := by decide +kernel
theorem dX8_whyNotBuild_0 : decode cX8_whyNotBuild 0 = .ok (.aload_n 0, 1) := by decide +kernel
theorem dX8_whyNotBuild_1 : decode cX8_whyNotBuild 1 = .ok (.iload_n 1, 1) := by decide +kernel
theorem dX8_whyNotBuild_2 : decode cX8_whyNotBuild 2 = .ok (.invokestatic 182, 3) := by decide +kernel
theorem dX8_whyNotBuild_5 : decode cX8_whyNotBuild 5 = .ok (.ifCond .eq 11, 3) := by decide +kernel
theorem dX8_whyNotBuild_8 : decode cX8_whyNotBuild 8 = .ok (.aload_n 0, 1) := by decide +kernel
theorem dX8_whyNotBuild_9 : decode cX8_whyNotBuild 9 = .ok (.iload_n 2, 1) := by decide +kernel
theorem dX8_whyNotBuild_10 : decode cX8_whyNotBuild 10 = .ok (.invokestatic 182, 3) := by decide +kernel
theorem dX8_whyNotBuild_13 : decode cX8_whyNotBuild 13 = .ok (.ifCond .ne 5, 3) := by decide +kernel
theorem dX8_whyNotBuild_16 : decode cX8_whyNotBuild 16 = .ok (.iconst 1, 1) := by decide +kernel
theorem dX8_whyNotBuild_17 : decode cX8_whyNotBuild 17 = .ok (.ireturn, 1) := by decide +kernel
theorem dX8_whyNotBuild_18 : decode cX8_whyNotBuild 18 = .ok (.iload_n 1, 1) := by decide +kernel
theorem dX8_whyNotBuild_19 : decode cX8_whyNotBuild 19 = .ok (.iload_n 2, 1) := by decide +kernel
theorem dX8_whyNotBuild_20 : decode cX8_whyNotBuild 20 = .ok (.if_icmp .eq 15, 3) := by decide +kernel
theorem dX8_whyNotBuild_23 : decode cX8_whyNotBuild 23 = .ok (.iload_n 3, 1) := by decide +kernel
theorem dX8_whyNotBuild_24 : decode cX8_whyNotBuild 24 = .ok (.i2l, 1) := by decide +kernel
theorem dX8_whyNotBuild_25 : decode cX8_whyNotBuild 25 = .ok (.lconst 1, 1) := by decide +kernel
theorem dX8_whyNotBuild_26 : decode cX8_whyNotBuild 26 = .ok (.ldc2_w 193, 3) := by decide +kernel
theorem dX8_whyNotBuild_29 : decode cX8_whyNotBuild 29 = .ok (.invokestatic 65, 3) := by decide +kernel
theorem dX8_whyNotBuild_32 : decode cX8_whyNotBuild 32 = .ok (.ifCond .ne 5, 3) := by decide +kernel
theorem dX8_whyNotBuild_35 : decode cX8_whyNotBuild 35 = .ok (.iconst 2, 1) := by decide +kernel
theorem dX8_whyNotBuild_36 : decode cX8_whyNotBuild 36 = .ok (.ireturn, 1) := by decide +kernel
theorem dX8_whyNotBuild_37 : decode cX8_whyNotBuild 37 = .ok (.aload_n 0, 1) := by decide +kernel
theorem dX8_whyNotBuild_38 : decode cX8_whyNotBuild 38 = .ok (.iload_n 1, 1) := by decide +kernel
theorem dX8_whyNotBuild_39 : decode cX8_whyNotBuild 39 = .ok (.iload_n 2, 1) := by decide +kernel
theorem dX8_whyNotBuild_40 : decode cX8_whyNotBuild 40 = .ok (.invokestatic 118, 3) := by decide +kernel
theorem dX8_whyNotBuild_43 : decode cX8_whyNotBuild 43 = .ok (.sipush (-999), 3) := by decide +kernel
theorem dX8_whyNotBuild_46 : decode cX8_whyNotBuild 46 = .ok (.if_icmp .ne 11, 3) := by decide +kernel
theorem dX8_whyNotBuild_49 : decode cX8_whyNotBuild 49 = .ok (.aload_n 0, 1) := by decide +kernel
theorem dX8_whyNotBuild_50 : decode cX8_whyNotBuild 50 = .ok (.iconst 1, 1) := by decide +kernel
theorem dX8_whyNotBuild_51 : decode cX8_whyNotBuild 51 = .ok (.iaload, 1) := by decide +kernel
theorem dX8_whyNotBuild_52 : decode cX8_whyNotBuild 52 = .ok (.bipush 20, 2) := by decide +kernel
theorem dX8_whyNotBuild_54 : decode cX8_whyNotBuild 54 = .ok (.if_icmp .ne 7, 3) := by decide +kernel
theorem dX8_whyNotBuild_57 : decode cX8_whyNotBuild 57 = .ok (.iconst 3, 1) := by decide +kernel
theorem dX8_whyNotBuild_58 : decode cX8_whyNotBuild 58 = .ok (.goto 4, 3) := by decide +kernel
theorem dX8_whyNotBuild_61 : decode cX8_whyNotBuild 61 = .ok (.iconst 0, 1) := by decide +kernel
theorem dX8_whyNotBuild_62 : decode cX8_whyNotBuild 62 = .ok (.ireturn, 1) := by decide +kernel
theorem dX8_addStreet_0 : decode cX8_addStreet 0 = .ok (.aload_n 0, 1) := by decide +kernel
theorem dX8_addStreet_1 : decode cX8_addStreet 1 = .ok (.aload_n 0, 1) := by decide +kernel
theorem dX8_addStreet_2 : decode cX8_addStreet 2 = .ok (.getfield 16, 3) := by decide +kernel
theorem dX8_addStreet_5 : decode cX8_addStreet 5 = .ok (.iload_n 1, 1) := by decide +kernel
theorem dX8_addStreet_6 : decode cX8_addStreet 6 = .ok (.iload_n 2, 1) := by decide +kernel
theorem dX8_addStreet_7 : decode cX8_addStreet 7 = .ok (.iload_n 3, 1) := by decide +kernel
theorem dX8_addStreet_8 : decode cX8_addStreet 8 = .ok (.invokestatic 195, 3) := by decide +kernel
theorem dX8_addStreet_11 : decode cX8_addStreet 11 = .ok (.invokevirtual 103, 3) := by decide +kernel
theorem dX8_addStreet_14 : decode cX8_addStreet 14 = .ok (.ifCond .eq 5, 3) := by decide +kernel
theorem dX8_addStreet_17 : decode cX8_addStreet 17 = .ok (.iconst 0, 1) := by decide +kernel
theorem dX8_addStreet_18 : decode cX8_addStreet 18 = .ok (.ireturn, 1) := by decide +kernel
theorem dX8_addStreet_19 : decode cX8_addStreet 19 = .ok (.aload_n 0, 1) := by decide +kernel
theorem dX8_addStreet_20 : decode cX8_addStreet 20 = .ok (.invokevirtual 190, 3) := by decide +kernel
theorem dX8_addStreet_23 : decode cX8_addStreet 23 = .ok (.aload_n 0, 1) := by decide +kernel
theorem dX8_addStreet_24 : decode cX8_addStreet 24 = .ok (.getfield 16, 3) := by decide +kernel
theorem dX8_addStreet_27 : decode cX8_addStreet 27 = .ok (.iload_n 1, 1) := by decide +kernel
theorem dX8_addStreet_28 : decode cX8_addStreet 28 = .ok (.iload_n 2, 1) := by decide +kernel
theorem dX8_addStreet_29 : decode cX8_addStreet 29 = .ok (.iload_n 3, 1) := by decide +kernel
theorem dX8_addStreet_30 : decode cX8_addStreet 30 = .ok (.invokestatic 122, 3) := by decide +kernel
theorem dX8_addStreet_33 : decode cX8_addStreet 33 = .ok (.ireturn, 1) := by decide +kernel
theorem dX8_removeStreet_0 : decode cX8_removeStreet 0 = .ok (.aload_n 0, 1) := by decide +kernel
theorem dX8_removeStreet_1 : decode cX8_removeStreet 1 = .ok (.aload_n 0, 1) := by decide +kernel
theorem dX8_removeStreet_2 : decode cX8_removeStreet 2 = .ok (.getfield 16, 3) := by decide +kernel
theorem dX8_removeStreet_5 : decode cX8_removeStreet 5 = .ok (.iload_n 1, 1) := by decide +kernel
theorem dX8_removeStreet_6 : decode cX8_removeStreet 6 = .ok (.invokestatic 173, 3) := by decide +kernel
theorem dX8_removeStreet_9 : decode cX8_removeStreet 9 = .ok (.ifCond .eq 7, 3) := by decide +kernel
theorem dX8_removeStreet_12 : decode cX8_removeStreet 12 = .ok (.iconst 0, 1) := by decide +kernel
theorem dX8_removeStreet_13 : decode cX8_removeStreet 13 = .ok (.goto 4, 3) := by decide +kernel
theorem dX8_removeStreet_16 : decode cX8_removeStreet 16 = .ok (.iconst 1, 1) := by decide +kernel
theorem dX8_removeStreet_17 : decode cX8_removeStreet 17 = .ok (.invokevirtual 103, 3) := by decide +kernel
theorem dX8_removeStreet_20 : decode cX8_removeStreet 20 = .ok (.ifCond .eq 5, 3) := by decide +kernel
theorem dX8_removeStreet_23 : decode cX8_removeStreet 23 = .ok (.iconst 0, 1) := by decide +kernel
theorem dX8_removeStreet_24 : decode cX8_removeStreet 24 = .ok (.ireturn, 1) := by decide +kernel
theorem dX8_removeStreet_25 : decode cX8_removeStreet 25 = .ok (.aload_n 0, 1) := by decide +kernel
theorem dX8_removeStreet_26 : decode cX8_removeStreet 26 = .ok (.invokevirtual 190, 3) := by decide +kernel
theorem dX8_removeStreet_29 : decode cX8_removeStreet 29 = .ok (.aload_n 0, 1) := by decide +kernel
theorem dX8_removeStreet_30 : decode cX8_removeStreet 30 = .ok (.getfield 16, 3) := by decide +kernel
theorem dX8_removeStreet_33 : decode cX8_removeStreet 33 = .ok (.iload_n 1, 1) := by decide +kernel
theorem dX8_removeStreet_34 : decode cX8_removeStreet 34 = .ok (.invokestatic 198, 3) := by decide +kernel
theorem dX8_removeStreet_37 : decode cX8_removeStreet 37 = .ok (.aload_n 0, 1) := by decide +kernel
theorem dX8_removeStreet_38 : decode cX8_removeStreet 38 = .ok (.aload_n 0, 1) := by decide +kernel
theorem dX8_removeStreet_39 : decode cX8_removeStreet 39 = .ok (.getfield 16, 3) := by decide +kernel
theorem dX8_removeStreet_42 : decode cX8_removeStreet 42 = .ok (.sipush (-999), 3) := by decide +kernel
theorem dX8_removeStreet_45 : decode cX8_removeStreet 45 = .ok (.invokevirtual 88, 3) := by decide +kernel
theorem dX8_removeStreet_48 : decode cX8_removeStreet 48 = .ok (.ireturn, 1) := by decide +kernel
theorem dX8_setLength_0 : decode cX8_setLength 0 = .ok (.aload_n 0, 1) := by decide +kernel
theorem dX8_setLength_1 : decode cX8_setLength 1 = .ok (.aload_n 0, 1) := by decide +kernel
theorem dX8_setLength_2 : decode cX8_setLength 2 = .ok (.getfield 16, 3) := by decide +kernel
theorem dX8_setLength_5 : decode cX8_setLength 5 = .ok (.iload_n 1, 1) := by decide +kernel
theorem dX8_setLength_6 : decode cX8_setLength 6 = .ok (.invokestatic 173, 3) := by decide +kernel
theorem dX8_setLength_9 : decode cX8_setLength 9 = .ok (.ifCond .ne 7, 3) := by decide +kernel
theorem dX8_setLength_12 : decode cX8_setLength 12 = .ok (.iconst 1, 1) := by decide +kernel
theorem dX8_setLength_13 : decode cX8_setLength 13 = .ok (.goto 20, 3) := by decide +kernel
theorem dX8_setLength_16 : decode cX8_setLength 16 = .ok (.iload_n 2, 1) := by decide +kernel
theorem dX8_setLength_17 : decode cX8_setLength 17 = .ok (.i2l, 1) := by decide +kernel
theorem dX8_setLength_18 : decode cX8_setLength 18 = .ok (.lconst 1, 1) := by decide +kernel
theorem dX8_setLength_19 : decode cX8_setLength 19 = .ok (.ldc2_w 193, 3) := by decide +kernel
theorem dX8_setLength_22 : decode cX8_setLength 22 = .ok (.invokestatic 65, 3) := by decide +kernel
theorem dX8_setLength_25 : decode cX8_setLength 25 = .ok (.ifCond .eq 7, 3) := by decide +kernel
theorem dX8_setLength_28 : decode cX8_setLength 28 = .ok (.iconst 0, 1) := by decide +kernel
theorem dX8_setLength_29 : decode cX8_setLength 29 = .ok (.goto 4, 3) := by decide +kernel
theorem dX8_setLength_32 : decode cX8_setLength 32 = .ok (.iconst 2, 1) := by decide +kernel
theorem dX8_setLength_33 : decode cX8_setLength 33 = .ok (.invokevirtual 103, 3) := by decide +kernel
theorem dX8_setLength_36 : decode cX8_setLength 36 = .ok (.ifCond .eq 5, 3) := by decide +kernel
theorem dX8_setLength_39 : decode cX8_setLength 39 = .ok (.iconst 0, 1) := by decide +kernel
theorem dX8_setLength_40 : decode cX8_setLength 40 = .ok (.ireturn, 1) := by decide +kernel
theorem dX8_setLength_41 : decode cX8_setLength 41 = .ok (.aload_n 0, 1) := by decide +kernel
theorem dX8_setLength_42 : decode cX8_setLength 42 = .ok (.invokevirtual 190, 3) := by decide +kernel
theorem dX8_setLength_45 : decode cX8_setLength 45 = .ok (.aload_n 0, 1) := by decide +kernel
theorem dX8_setLength_46 : decode cX8_setLength 46 = .ok (.getfield 16, 3) := by decide +kernel
theorem dX8_setLength_49 : decode cX8_setLength 49 = .ok (.bipush 44, 2) := by decide +kernel
theorem dX8_setLength_51 : decode cX8_setLength 51 = .ok (.iload_n 1, 1) := by decide +kernel
theorem dX8_setLength_52 : decode cX8_setLength 52 = .ok (.iadd, 1) := by decide +kernel
theorem dX8_setLength_53 : decode cX8_setLength 53 = .ok (.iaload, 1) := by decide +kernel
theorem dX8_setLength_54 : decode cX8_setLength 54 = .ok (.istore_n 3, 1) := by decide +kernel
theorem dX8_setLength_55 : decode cX8_setLength 55 = .ok (.aload_n 0, 1) := by decide +kernel
theorem dX8_setLength_56 : decode cX8_setLength 56 = .ok (.getfield 16, 3) := by decide +kernel
theorem dX8_setLength_59 : decode cX8_setLength 59 = .ok (.bipush 44, 2) := by decide +kernel
theorem dX8_setLength_61 : decode cX8_setLength 61 = .ok (.iload_n 1, 1) := by decide +kernel
theorem dX8_setLength_62 : decode cX8_setLength 62 = .ok (.iadd, 1) := by decide +kernel
theorem dX8_setLength_63 : decode cX8_setLength 63 = .ok (.iload_n 2, 1) := by decide +kernel
theorem dX8_setLength_64 : decode cX8_setLength 64 = .ok (.iastore, 1) := by decide +kernel
theorem dX8_setLength_65 : decode cX8_setLength 65 = .ok (.iload_n 3, 1) := by decide +kernel
theorem dX8_setLength_66 : decode cX8_setLength 66 = .ok (.ireturn, 1) := by decide +kernel
theorem dX8_close_0 : decode cX8_close 0 = .ok (.aload_n 0, 1) := by decide +kernel
theorem dX8_close_1 : decode cX8_close 1 = .ok (.aload_n 0, 1) := by decide +kernel
theorem dX8_close_2 : decode cX8_close 2 = .ok (.getfield 16, 3) := by decide +kernel
theorem dX8_close_5 : decode cX8_close 5 = .ok (.iload_n 1, 1) := by decide +kernel
theorem dX8_close_6 : decode cX8_close 6 = .ok (.invokestatic 173, 3) := by decide +kernel
theorem dX8_close_9 : decode cX8_close 9 = .ok (.ifCond .eq 7, 3) := by decide +kernel
theorem dX8_close_12 : decode cX8_close 12 = .ok (.iconst 0, 1) := by decide +kernel
theorem dX8_close_13 : decode cX8_close 13 = .ok (.goto 4, 3) := by decide +kernel
theorem dX8_close_16 : decode cX8_close 16 = .ok (.iconst 1, 1) := by decide +kernel
theorem dX8_close_17 : decode cX8_close 17 = .ok (.invokevirtual 103, 3) := by decide +kernel
theorem dX8_close_20 : decode cX8_close 20 = .ok (.ifCond .eq 5, 3) := by decide +kernel
theorem dX8_close_23 : decode cX8_close 23 = .ok (.iconst 0, 1) := by decide +kernel
theorem dX8_close_24 : decode cX8_close 24 = .ok (.ireturn, 1) := by decide +kernel
theorem dX8_close_25 : decode cX8_close 25 = .ok (.aload_n 0, 1) := by decide +kernel
theorem dX8_close_26 : decode cX8_close 26 = .ok (.invokevirtual 190, 3) := by decide +kernel
theorem dX8_close_29 : decode cX8_close 29 = .ok (.aload_n 0, 1) := by decide +kernel
theorem dX8_close_30 : decode cX8_close 30 = .ok (.getfield 16, 3) := by decide +kernel
theorem dX8_close_33 : decode cX8_close 33 = .ok (.bipush 64, 2) := by decide +kernel
theorem dX8_close_35 : decode cX8_close 35 = .ok (.iload_n 1, 1) := by decide +kernel
theorem dX8_close_36 : decode cX8_close 36 = .ok (.iadd, 1) := by decide +kernel
theorem dX8_close_37 : decode cX8_close 37 = .ok (.iload_n 2, 1) := by decide +kernel
theorem dX8_close_38 : decode cX8_close 38 = .ok (.ifCond .eq 7, 3) := by decide +kernel
theorem dX8_close_41 : decode cX8_close 41 = .ok (.iconst 1, 1) := by decide +kernel
theorem dX8_close_42 : decode cX8_close 42 = .ok (.goto 4, 3) := by decide +kernel
theorem dX8_close_45 : decode cX8_close 45 = .ok (.iconst 0, 1) := by decide +kernel
theorem dX8_close_46 : decode cX8_close 46 = .ok (.iastore, 1) := by decide +kernel
theorem dX8_close_47 : decode cX8_close 47 = .ok (.aload_n 0, 1) := by decide +kernel
theorem dX8_close_48 : decode cX8_close 48 = .ok (.aload_n 0, 1) := by decide +kernel
theorem dX8_close_49 : decode cX8_close 49 = .ok (.getfield 16, 3) := by decide +kernel
theorem dX8_close_52 : decode cX8_close 52 = .ok (.sipush (-999), 3) := by decide +kernel
theorem dX8_close_55 : decode cX8_close 55 = .ok (.invokevirtual 88, 3) := by decide +kernel
theorem dX8_close_58 : decode cX8_close 58 = .ok (.ireturn, 1) := by decide +kernel
theorem dX8_setEnds_0 : decode cX8_setEnds 0 = .ok (.aload_n 0, 1) := by decide +kernel
theorem dX8_setEnds_1 : decode cX8_setEnds 1 = .ok (.aload_n 0, 1) := by decide +kernel
theorem dX8_setEnds_2 : decode cX8_setEnds 2 = .ok (.getfield 16, 3) := by decide +kernel
theorem dX8_setEnds_5 : decode cX8_setEnds 5 = .ok (.iload_n 1, 1) := by decide +kernel
theorem dX8_setEnds_6 : decode cX8_setEnds 6 = .ok (.invokestatic 182, 3) := by decide +kernel
theorem dX8_setEnds_9 : decode cX8_setEnds 9 = .ok (.ifCond .eq 14, 3) := by decide +kernel
theorem dX8_setEnds_12 : decode cX8_setEnds 12 = .ok (.aload_n 0, 1) := by decide +kernel
theorem dX8_setEnds_13 : decode cX8_setEnds 13 = .ok (.getfield 16, 3) := by decide +kernel
theorem dX8_setEnds_16 : decode cX8_setEnds 16 = .ok (.iload_n 2, 1) := by decide +kernel
theorem dX8_setEnds_17 : decode cX8_setEnds 17 = .ok (.invokestatic 182, 3) := by decide +kernel
theorem dX8_setEnds_20 : decode cX8_setEnds 20 = .ok (.ifCond .ne 7, 3) := by decide +kernel
theorem dX8_setEnds_23 : decode cX8_setEnds 23 = .ok (.iconst 1, 1) := by decide +kernel
theorem dX8_setEnds_24 : decode cX8_setEnds 24 = .ok (.goto 13, 3) := by decide +kernel
theorem dX8_setEnds_27 : decode cX8_setEnds 27 = .ok (.iload_n 1, 1) := by decide +kernel
theorem dX8_setEnds_28 : decode cX8_setEnds 28 = .ok (.iload_n 2, 1) := by decide +kernel
theorem dX8_setEnds_29 : decode cX8_setEnds 29 = .ok (.if_icmp .ne 7, 3) := by decide +kernel
theorem dX8_setEnds_32 : decode cX8_setEnds 32 = .ok (.iconst 2, 1) := by decide +kernel
theorem dX8_setEnds_33 : decode cX8_setEnds 33 = .ok (.goto 4, 3) := by decide +kernel
theorem dX8_setEnds_36 : decode cX8_setEnds 36 = .ok (.iconst 0, 1) := by decide +kernel
theorem dX8_setEnds_37 : decode cX8_setEnds 37 = .ok (.invokevirtual 103, 3) := by decide +kernel
theorem dX8_setEnds_40 : decode cX8_setEnds 40 = .ok (.ifCond .eq 5, 3) := by decide +kernel
theorem dX8_setEnds_43 : decode cX8_setEnds 43 = .ok (.iconst 0, 1) := by decide +kernel
theorem dX8_setEnds_44 : decode cX8_setEnds 44 = .ok (.ireturn, 1) := by decide +kernel
theorem dX8_setEnds_45 : decode cX8_setEnds 45 = .ok (.aload_n 0, 1) := by decide +kernel
theorem dX8_setEnds_46 : decode cX8_setEnds 46 = .ok (.invokevirtual 190, 3) := by decide +kernel
theorem dX8_setEnds_49 : decode cX8_setEnds 49 = .ok (.aload_n 0, 1) := by decide +kernel
theorem dX8_setEnds_50 : decode cX8_setEnds 50 = .ok (.getfield 16, 3) := by decide +kernel
theorem dX8_setEnds_53 : decode cX8_setEnds 53 = .ok (.iconst 2, 1) := by decide +kernel
theorem dX8_setEnds_54 : decode cX8_setEnds 54 = .ok (.iload_n 1, 1) := by decide +kernel
theorem dX8_setEnds_55 : decode cX8_setEnds 55 = .ok (.iastore, 1) := by decide +kernel
theorem dX8_setEnds_56 : decode cX8_setEnds 56 = .ok (.aload_n 0, 1) := by decide +kernel
theorem dX8_setEnds_57 : decode cX8_setEnds 57 = .ok (.getfield 16, 3) := by decide +kernel
theorem dX8_setEnds_60 : decode cX8_setEnds 60 = .ok (.iconst 3, 1) := by decide +kernel
theorem dX8_setEnds_61 : decode cX8_setEnds 61 = .ok (.iload_n 2, 1) := by decide +kernel
theorem dX8_setEnds_62 : decode cX8_setEnds 62 = .ok (.iastore, 1) := by decide +kernel
theorem dX8_setEnds_63 : decode cX8_setEnds 63 = .ok (.aload_n 0, 1) := by decide +kernel
theorem dX8_setEnds_64 : decode cX8_setEnds 64 = .ok (.aload_n 0, 1) := by decide +kernel
theorem dX8_setEnds_65 : decode cX8_setEnds 65 = .ok (.getfield 16, 3) := by decide +kernel
theorem dX8_setEnds_68 : decode cX8_setEnds 68 = .ok (.sipush (-999), 3) := by decide +kernel
theorem dX8_setEnds_71 : decode cX8_setEnds 71 = .ok (.invokevirtual 88, 3) := by decide +kernel
theorem dX8_setEnds_74 : decode cX8_setEnds 74 = .ok (.ireturn, 1) := by decide +kernel
theorem dX8_command_0 : decode cX8_command 0 = .ok (.aload_n 0, 1) := by decide +kernel
theorem dX8_command_1 : decode cX8_command 1 = .ok (.getfield 16, 3) := by decide +kernel
theorem dX8_command_4 : decode cX8_command 4 = .ok (.iconst 2, 1) := by decide +kernel
theorem dX8_command_5 : decode cX8_command 5 = .ok (.iaload, 1) := by decide +kernel
theorem dX8_command_6 : decode cX8_command 6 = .ok (.istore_n 1, 1) := by decide +kernel
theorem dX8_command_7 : decode cX8_command 7 = .ok (.aload_n 0, 1) := by decide +kernel
theorem dX8_command_8 : decode cX8_command 8 = .ok (.getfield 130, 3) := by decide +kernel
theorem dX8_command_11 : decode cX8_command 11 = .ok (.tableswitch 175 0 3 #[29, 29, 63, 112], 29) := by decide +kernel
theorem dX8_command_40 : decode cX8_command 40 = .ok (.aload_n 0, 1) := by decide +kernel
theorem dX8_command_41 : decode cX8_command 41 = .ok (.getfield 16, 3) := by decide +kernel
theorem dX8_command_44 : decode cX8_command 44 = .ok (.aload_n 0, 1) := by decide +kernel
theorem dX8_command_45 : decode cX8_command 45 = .ok (.getfield 143, 3) := by decide +kernel
theorem dX8_command_48 : decode cX8_command 48 = .ok (.invokestatic 173, 3) := by decide +kernel
theorem dX8_command_51 : decode cX8_command 51 = .ok (.ifCond .ne 5, 3) := by decide +kernel
theorem dX8_command_54 : decode cX8_command 54 = .ok (.iconst 0, 1) := by decide +kernel
theorem dX8_command_55 : decode cX8_command 55 = .ok (.ireturn, 1) := by decide +kernel
theorem dX8_command_56 : decode cX8_command 56 = .ok (.aload_n 0, 1) := by decide +kernel
theorem dX8_command_57 : decode cX8_command 57 = .ok (.getfield 16, 3) := by decide +kernel
theorem dX8_command_60 : decode cX8_command 60 = .ok (.bipush 64, 2) := by decide +kernel
theorem dX8_command_62 : decode cX8_command 62 = .ok (.aload_n 0, 1) := by decide +kernel
theorem dX8_command_63 : decode cX8_command 63 = .ok (.getfield 143, 3) := by decide +kernel
theorem dX8_command_66 : decode cX8_command 66 = .ok (.iadd, 1) := by decide +kernel
theorem dX8_command_67 : decode cX8_command 67 = .ok (.aload_n 0, 1) := by decide +kernel
theorem dX8_command_68 : decode cX8_command 68 = .ok (.getfield 130, 3) := by decide +kernel
theorem dX8_command_71 : decode cX8_command 71 = .ok (.iastore, 1) := by decide +kernel
theorem dX8_command_72 : decode cX8_command 72 = .ok (.iconst 1, 1) := by decide +kernel
theorem dX8_command_73 : decode cX8_command 73 = .ok (.ireturn, 1) := by decide +kernel
theorem dX8_command_74 : decode cX8_command 74 = .ok (.aload_n 0, 1) := by decide +kernel
theorem dX8_command_75 : decode cX8_command 75 = .ok (.getfield 16, 3) := by decide +kernel
theorem dX8_command_78 : decode cX8_command 78 = .ok (.aload_n 0, 1) := by decide +kernel
theorem dX8_command_79 : decode cX8_command 79 = .ok (.getfield 143, 3) := by decide +kernel
theorem dX8_command_82 : decode cX8_command 82 = .ok (.invokestatic 173, 3) := by decide +kernel
theorem dX8_command_85 : decode cX8_command 85 = .ok (.ifCond .eq 18, 3) := by decide +kernel
theorem dX8_command_88 : decode cX8_command 88 = .ok (.aload_n 0, 1) := by decide +kernel
theorem dX8_command_89 : decode cX8_command 89 = .ok (.getfield 146, 3) := by decide +kernel
theorem dX8_command_92 : decode cX8_command 92 = .ok (.i2l, 1) := by decide +kernel
theorem dX8_command_93 : decode cX8_command 93 = .ok (.lconst 1, 1) := by decide +kernel
theorem dX8_command_94 : decode cX8_command 94 = .ok (.ldc2_w 193, 3) := by decide +kernel
theorem dX8_command_97 : decode cX8_command 97 = .ok (.invokestatic 65, 3) := by decide +kernel
theorem dX8_command_100 : decode cX8_command 100 = .ok (.ifCond .ne 5, 3) := by decide +kernel
theorem dX8_command_103 : decode cX8_command 103 = .ok (.iconst 0, 1) := by decide +kernel
theorem dX8_command_104 : decode cX8_command 104 = .ok (.ireturn, 1) := by decide +kernel
theorem dX8_command_105 : decode cX8_command 105 = .ok (.aload_n 0, 1) := by decide +kernel
theorem dX8_command_106 : decode cX8_command 106 = .ok (.getfield 16, 3) := by decide +kernel
theorem dX8_command_109 : decode cX8_command 109 = .ok (.bipush 44, 2) := by decide +kernel
theorem dX8_command_111 : decode cX8_command 111 = .ok (.aload_n 0, 1) := by decide +kernel
theorem dX8_command_112 : decode cX8_command 112 = .ok (.getfield 143, 3) := by decide +kernel
theorem dX8_command_115 : decode cX8_command 115 = .ok (.iadd, 1) := by decide +kernel
theorem dX8_command_116 : decode cX8_command 116 = .ok (.aload_n 0, 1) := by decide +kernel
theorem dX8_command_117 : decode cX8_command 117 = .ok (.getfield 146, 3) := by decide +kernel
theorem dX8_command_120 : decode cX8_command 120 = .ok (.iastore, 1) := by decide +kernel
theorem dX8_command_121 : decode cX8_command 121 = .ok (.iconst 1, 1) := by decide +kernel
theorem dX8_command_122 : decode cX8_command 122 = .ok (.ireturn, 1) := by decide +kernel
theorem dX8_command_123 : decode cX8_command 123 = .ok (.aload_n 0, 1) := by decide +kernel
theorem dX8_command_124 : decode cX8_command 124 = .ok (.getfield 16, 3) := by decide +kernel
theorem dX8_command_127 : decode cX8_command 127 = .ok (.aload_n 0, 1) := by decide +kernel
theorem dX8_command_128 : decode cX8_command 128 = .ok (.getfield 143, 3) := by decide +kernel
theorem dX8_command_131 : decode cX8_command 131 = .ok (.invokestatic 182, 3) := by decide +kernel
theorem dX8_command_134 : decode cX8_command 134 = .ok (.ifCond .eq 28, 3) := by decide +kernel
theorem dX8_command_137 : decode cX8_command 137 = .ok (.aload_n 0, 1) := by decide +kernel
theorem dX8_command_138 : decode cX8_command 138 = .ok (.getfield 16, 3) := by decide +kernel
theorem dX8_command_141 : decode cX8_command 141 = .ok (.aload_n 0, 1) := by decide +kernel
theorem dX8_command_142 : decode cX8_command 142 = .ok (.getfield 146, 3) := by decide +kernel
theorem dX8_command_145 : decode cX8_command 145 = .ok (.invokestatic 182, 3) := by decide +kernel
theorem dX8_command_148 : decode cX8_command 148 = .ok (.ifCond .eq 14, 3) := by decide +kernel
theorem dX8_command_151 : decode cX8_command 151 = .ok (.aload_n 0, 1) := by decide +kernel
theorem dX8_command_152 : decode cX8_command 152 = .ok (.getfield 143, 3) := by decide +kernel
theorem dX8_command_155 : decode cX8_command 155 = .ok (.aload_n 0, 1) := by decide +kernel
theorem dX8_command_156 : decode cX8_command 156 = .ok (.getfield 146, 3) := by decide +kernel
theorem dX8_command_159 : decode cX8_command 159 = .ok (.if_icmp .ne 5, 3) := by decide +kernel
theorem dX8_command_162 : decode cX8_command 162 = .ok (.iconst 0, 1) := by decide +kernel
theorem dX8_command_163 : decode cX8_command 163 = .ok (.ireturn, 1) := by decide +kernel
theorem dX8_command_164 : decode cX8_command 164 = .ok (.aload_n 0, 1) := by decide +kernel
theorem dX8_command_165 : decode cX8_command 165 = .ok (.getfield 16, 3) := by decide +kernel
theorem dX8_command_168 : decode cX8_command 168 = .ok (.iconst 2, 1) := by decide +kernel
theorem dX8_command_169 : decode cX8_command 169 = .ok (.aload_n 0, 1) := by decide +kernel
theorem dX8_command_170 : decode cX8_command 170 = .ok (.getfield 143, 3) := by decide +kernel
theorem dX8_command_173 : decode cX8_command 173 = .ok (.iastore, 1) := by decide +kernel
theorem dX8_command_174 : decode cX8_command 174 = .ok (.aload_n 0, 1) := by decide +kernel
theorem dX8_command_175 : decode cX8_command 175 = .ok (.getfield 16, 3) := by decide +kernel
theorem dX8_command_178 : decode cX8_command 178 = .ok (.iconst 3, 1) := by decide +kernel
theorem dX8_command_179 : decode cX8_command 179 = .ok (.aload_n 0, 1) := by decide +kernel
theorem dX8_command_180 : decode cX8_command 180 = .ok (.getfield 146, 3) := by decide +kernel
theorem dX8_command_183 : decode cX8_command 183 = .ok (.iastore, 1) := by decide +kernel
theorem dX8_command_184 : decode cX8_command 184 = .ok (.iconst 1, 1) := by decide +kernel
theorem dX8_command_185 : decode cX8_command 185 = .ok (.ireturn, 1) := by decide +kernel
theorem dX8_command_186 : decode cX8_command 186 = .ok (.aload_n 0, 1) := by decide +kernel
theorem dX8_command_187 : decode cX8_command 187 = .ok (.getfield 16, 3) := by decide +kernel
theorem dX8_command_190 : decode cX8_command 190 = .ok (.iconst 2, 1) := by decide +kernel
theorem dX8_command_191 : decode cX8_command 191 = .ok (.aload_n 0, 1) := by decide +kernel
theorem dX8_command_192 : decode cX8_command 192 = .ok (.getfield 16, 3) := by decide +kernel
theorem dX8_command_195 : decode cX8_command 195 = .ok (.iconst 3, 1) := by decide +kernel
theorem dX8_command_196 : decode cX8_command 196 = .ok (.iaload, 1) := by decide +kernel
theorem dX8_command_197 : decode cX8_command 197 = .ok (.iastore, 1) := by decide +kernel
theorem dX8_command_198 : decode cX8_command 198 = .ok (.aload_n 0, 1) := by decide +kernel
theorem dX8_command_199 : decode cX8_command 199 = .ok (.getfield 16, 3) := by decide +kernel
theorem dX8_command_202 : decode cX8_command 202 = .ok (.iconst 3, 1) := by decide +kernel
theorem dX8_command_203 : decode cX8_command 203 = .ok (.iload_n 1, 1) := by decide +kernel
theorem dX8_command_204 : decode cX8_command 204 = .ok (.iastore, 1) := by decide +kernel
theorem dX8_command_205 : decode cX8_command 205 = .ok (.iconst 1, 1) := by decide +kernel
theorem dX8_command_206 : decode cX8_command 206 = .ok (.ireturn, 1) := by decide +kernel
theorem dX8_runPlan_0 : decode cX8_runPlan 0 = .ok (.aload_n 0, 1) := by decide +kernel
theorem dX8_runPlan_1 : decode cX8_runPlan 1 = .ok (.aload_n 0, 1) := by decide +kernel
theorem dX8_runPlan_2 : decode cX8_runPlan 2 = .ok (.invokevirtual 152, 3) := by decide +kernel
theorem dX8_runPlan_5 : decode cX8_runPlan 5 = .ok (.ifCond .eq 7, 3) := by decide +kernel
theorem dX8_runPlan_8 : decode cX8_runPlan 8 = .ok (.iconst 0, 1) := by decide +kernel
theorem dX8_runPlan_9 : decode cX8_runPlan 9 = .ok (.goto 4, 3) := by decide +kernel
theorem dX8_runPlan_12 : decode cX8_runPlan 12 = .ok (.iconst 1, 1) := by decide +kernel
theorem dX8_runPlan_13 : decode cX8_runPlan 13 = .ok (.invokevirtual 103, 3) := by decide +kernel
theorem dX8_runPlan_16 : decode cX8_runPlan 16 = .ok (.ifCond .eq 5, 3) := by decide +kernel
theorem dX8_runPlan_19 : decode cX8_runPlan 19 = .ok (.iconst 0, 1) := by decide +kernel
theorem dX8_runPlan_20 : decode cX8_runPlan 20 = .ok (.ireturn, 1) := by decide +kernel
theorem dX8_runPlan_21 : decode cX8_runPlan 21 = .ok (.aload_n 0, 1) := by decide +kernel
theorem dX8_runPlan_22 : decode cX8_runPlan 22 = .ok (.invokevirtual 190, 3) := by decide +kernel
theorem dX8_runPlan_25 : decode cX8_runPlan 25 = .ok (.iconst 0, 1) := by decide +kernel
theorem dX8_runPlan_26 : decode cX8_runPlan 26 = .ok (.istore_n 1, 1) := by decide +kernel
theorem dX8_runPlan_27 : decode cX8_runPlan 27 = .ok (.aload_n 0, 1) := by decide +kernel
theorem dX8_runPlan_28 : decode cX8_runPlan 28 = .ok (.iconst 0, 1) := by decide +kernel
theorem dX8_runPlan_29 : decode cX8_runPlan 29 = .ok (.putfield 107, 3) := by decide +kernel
theorem dX8_runPlan_32 : decode cX8_runPlan 32 = .ok (.aload_n 0, 1) := by decide +kernel
theorem dX8_runPlan_33 : decode cX8_runPlan 33 = .ok (.getfield 100, 3) := by decide +kernel
theorem dX8_runPlan_36 : decode cX8_runPlan 36 = .ok (.ifCond .le 7, 3) := by decide +kernel
theorem dX8_runPlan_39 : decode cX8_runPlan 39 = .ok (.iconst 1, 1) := by decide +kernel
theorem dX8_runPlan_40 : decode cX8_runPlan 40 = .ok (.goto 4, 3) := by decide +kernel
theorem dX8_runPlan_43 : decode cX8_runPlan 43 = .ok (.iconst 0, 1) := by decide +kernel
theorem dX8_runPlan_44 : decode cX8_runPlan 44 = .ok (.istore_n 2, 1) := by decide +kernel
theorem dX8_runPlan_45 : decode cX8_runPlan 45 = .ok (.iload_n 2, 1) := by decide +kernel
theorem dX8_runPlan_46 : decode cX8_runPlan 46 = .ok (.ifCond .eq 55, 3) := by decide +kernel
theorem dX8_runPlan_49 : decode cX8_runPlan 49 = .ok (.aload_n 0, 1) := by decide +kernel
theorem dX8_runPlan_50 : decode cX8_runPlan 50 = .ok (.invokevirtual 149, 3) := by decide +kernel
theorem dX8_runPlan_53 : decode cX8_runPlan 53 = .ok (.ifCond .eq 14, 3) := by decide +kernel
theorem dX8_runPlan_56 : decode cX8_runPlan 56 = .ok (.aload_n 0, 1) := by decide +kernel
theorem dX8_runPlan_57 : decode cX8_runPlan 57 = .ok (.invokevirtual 201, 3) := by decide +kernel
theorem dX8_runPlan_60 : decode cX8_runPlan 60 = .ok (.ifCond .eq 7, 3) := by decide +kernel
theorem dX8_runPlan_63 : decode cX8_runPlan 63 = .ok (.iconst 1, 1) := by decide +kernel
theorem dX8_runPlan_64 : decode cX8_runPlan 64 = .ok (.goto 4, 3) := by decide +kernel
theorem dX8_runPlan_67 : decode cX8_runPlan 67 = .ok (.iconst 0, 1) := by decide +kernel
theorem dX8_runPlan_68 : decode cX8_runPlan 68 = .ok (.istore_n 2, 1) := by decide +kernel
theorem dX8_runPlan_69 : decode cX8_runPlan 69 = .ok (.iload_n 1, 1) := by decide +kernel
theorem dX8_runPlan_70 : decode cX8_runPlan 70 = .ok (.iload_n 2, 1) := by decide +kernel
theorem dX8_runPlan_71 : decode cX8_runPlan 71 = .ok (.ifCond .eq 7, 3) := by decide +kernel
theorem dX8_runPlan_74 : decode cX8_runPlan 74 = .ok (.iconst 1, 1) := by decide +kernel
theorem dX8_runPlan_75 : decode cX8_runPlan 75 = .ok (.goto 4, 3) := by decide +kernel
theorem dX8_runPlan_78 : decode cX8_runPlan 78 = .ok (.iconst 0, 1) := by decide +kernel
theorem dX8_runPlan_79 : decode cX8_runPlan 79 = .ok (.iadd, 1) := by decide +kernel
theorem dX8_runPlan_80 : decode cX8_runPlan 80 = .ok (.istore_n 1, 1) := by decide +kernel
theorem dX8_runPlan_81 : decode cX8_runPlan 81 = .ok (.iload_n 2, 1) := by decide +kernel
theorem dX8_runPlan_82 : decode cX8_runPlan 82 = .ok (.ifCond .eq 14, 3) := by decide +kernel
theorem dX8_runPlan_85 : decode cX8_runPlan 85 = .ok (.aload_n 0, 1) := by decide +kernel
theorem dX8_runPlan_86 : decode cX8_runPlan 86 = .ok (.invokevirtual 136, 3) := by decide +kernel
theorem dX8_runPlan_89 : decode cX8_runPlan 89 = .ok (.ifCond .eq 7, 3) := by decide +kernel
theorem dX8_runPlan_92 : decode cX8_runPlan 92 = .ok (.iconst 1, 1) := by decide +kernel
theorem dX8_runPlan_93 : decode cX8_runPlan 93 = .ok (.goto 4, 3) := by decide +kernel
theorem dX8_runPlan_96 : decode cX8_runPlan 96 = .ok (.iconst 0, 1) := by decide +kernel
theorem dX8_runPlan_97 : decode cX8_runPlan 97 = .ok (.istore_n 2, 1) := by decide +kernel
theorem dX8_runPlan_98 : decode cX8_runPlan 98 = .ok (.goto (-53), 3) := by decide +kernel
theorem dX8_runPlan_101 : decode cX8_runPlan 101 = .ok (.iload_n 1, 1) := by decide +kernel
theorem dX8_runPlan_102 : decode cX8_runPlan 102 = .ok (.ireturn, 1) := by decide +kernel
theorem dX8_undo_0 : decode cX8_undo 0 = .ok (.aload_n 0, 1) := by decide +kernel
theorem dX8_undo_1 : decode cX8_undo 1 = .ok (.aload_n 0, 1) := by decide +kernel
theorem dX8_undo_2 : decode cX8_undo 2 = .ok (.getfield 158, 3) := by decide +kernel
theorem dX8_undo_5 : decode cX8_undo 5 = .ok (.ifCond .ne 7, 3) := by decide +kernel
theorem dX8_undo_8 : decode cX8_undo 8 = .ok (.iconst 1, 1) := by decide +kernel
theorem dX8_undo_9 : decode cX8_undo 9 = .ok (.goto 4, 3) := by decide +kernel
theorem dX8_undo_12 : decode cX8_undo 12 = .ok (.iconst 0, 1) := by decide +kernel
theorem dX8_undo_13 : decode cX8_undo 13 = .ok (.invokevirtual 103, 3) := by decide +kernel
theorem dX8_undo_16 : decode cX8_undo 16 = .ok (.ifCond .eq 5, 3) := by decide +kernel
theorem dX8_undo_19 : decode cX8_undo 19 = .ok (.iconst 0, 1) := by decide +kernel
theorem dX8_undo_20 : decode cX8_undo 20 = .ok (.ireturn, 1) := by decide +kernel
theorem dX8_undo_21 : decode cX8_undo 21 = .ok (.aload_n 0, 1) := by decide +kernel
theorem dX8_undo_22 : decode cX8_undo 22 = .ok (.dup, 1) := by decide +kernel
theorem dX8_undo_23 : decode cX8_undo 23 = .ok (.getfield 158, 3) := by decide +kernel
theorem dX8_undo_26 : decode cX8_undo 26 = .ok (.iconst 1, 1) := by decide +kernel
theorem dX8_undo_27 : decode cX8_undo 27 = .ok (.isub, 1) := by decide +kernel
theorem dX8_undo_28 : decode cX8_undo 28 = .ok (.putfield 158, 3) := by decide +kernel
theorem dX8_undo_31 : decode cX8_undo 31 = .ok (.aload_n 0, 1) := by decide +kernel
theorem dX8_undo_32 : decode cX8_undo 32 = .ok (.getfield 22, 3) := by decide +kernel
theorem dX8_undo_35 : decode cX8_undo 35 = .ok (.bipush 84, 2) := by decide +kernel
theorem dX8_undo_37 : decode cX8_undo 37 = .ok (.aload_n 0, 1) := by decide +kernel
theorem dX8_undo_38 : decode cX8_undo 38 = .ok (.getfield 158, 3) := by decide +kernel
theorem dX8_undo_41 : decode cX8_undo 41 = .ok (.imul, 1) := by decide +kernel
theorem dX8_undo_42 : decode cX8_undo 42 = .ok (.aload_n 0, 1) := by decide +kernel
theorem dX8_undo_43 : decode cX8_undo 43 = .ok (.getfield 16, 3) := by decide +kernel
theorem dX8_undo_46 : decode cX8_undo 46 = .ok (.iconst 0, 1) := by decide +kernel
theorem dX8_undo_47 : decode cX8_undo 47 = .ok (.invokestatic 161, 3) := by decide +kernel
theorem dX8_undo_50 : decode cX8_undo 50 = .ok (.aload_n 0, 1) := by decide +kernel
theorem dX8_undo_51 : decode cX8_undo 51 = .ok (.getfield 158, 3) := by decide +kernel
theorem dX8_undo_54 : decode cX8_undo 54 = .ok (.ireturn, 1) := by decide +kernel
theorem dX8_without_0 : decode cX8_without 0 = .ok (.aload_n 0, 1) := by decide +kernel
theorem dX8_without_1 : decode cX8_without 1 = .ok (.aload_n 0, 1) := by decide +kernel
theorem dX8_without_2 : decode cX8_without 2 = .ok (.getfield 16, 3) := by decide +kernel
theorem dX8_without_5 : decode cX8_without 5 = .ok (.iload_n 1, 1) := by decide +kernel
theorem dX8_without_6 : decode cX8_without 6 = .ok (.invokestatic 173, 3) := by decide +kernel
theorem dX8_without_9 : decode cX8_without 9 = .ok (.ifCond .eq 7, 3) := by decide +kernel
theorem dX8_without_12 : decode cX8_without 12 = .ok (.iconst 0, 1) := by decide +kernel
theorem dX8_without_13 : decode cX8_without 13 = .ok (.goto 4, 3) := by decide +kernel
theorem dX8_without_16 : decode cX8_without 16 = .ok (.iconst 1, 1) := by decide +kernel
theorem dX8_without_17 : decode cX8_without 17 = .ok (.invokevirtual 103, 3) := by decide +kernel
theorem dX8_without_20 : decode cX8_without 20 = .ok (.ifCond .eq 5, 3) := by decide +kernel
theorem dX8_without_23 : decode cX8_without 23 = .ok (.iconst 0, 1) := by decide +kernel
theorem dX8_without_24 : decode cX8_without 24 = .ok (.ireturn, 1) := by decide +kernel
theorem dX8_without_25 : decode cX8_without 25 = .ok (.aload_n 0, 1) := by decide +kernel
theorem dX8_without_26 : decode cX8_without 26 = .ok (.aload_n 0, 1) := by decide +kernel
theorem dX8_without_27 : decode cX8_without 27 = .ok (.getfield 16, 3) := by decide +kernel
theorem dX8_without_30 : decode cX8_without 30 = .ok (.iload_n 1, 1) := by decide +kernel
theorem dX8_without_31 : decode cX8_without 31 = .ok (.invokevirtual 88, 3) := by decide +kernel
theorem dX8_without_34 : decode cX8_without 34 = .ok (.ireturn, 1) := by decide +kernel
theorem dX8_withoutAt_0 : decode cX8_withoutAt 0 = .ok (.aload_n 0, 1) := by decide +kernel
theorem dX8_withoutAt_1 : decode cX8_withoutAt 1 = .ok (.aload_n 0, 1) := by decide +kernel
theorem dX8_withoutAt_2 : decode cX8_withoutAt 2 = .ok (.getfield 16, 3) := by decide +kernel
theorem dX8_withoutAt_5 : decode cX8_withoutAt 5 = .ok (.iload_n 1, 1) := by decide +kernel
theorem dX8_withoutAt_6 : decode cX8_withoutAt 6 = .ok (.invokestatic 173, 3) := by decide +kernel
theorem dX8_withoutAt_9 : decode cX8_withoutAt 9 = .ok (.ifCond .ne 7, 3) := by decide +kernel
theorem dX8_withoutAt_12 : decode cX8_withoutAt 12 = .ok (.iconst 1, 1) := by decide +kernel
theorem dX8_withoutAt_13 : decode cX8_withoutAt 13 = .ok (.goto 12, 3) := by decide +kernel
theorem dX8_withoutAt_16 : decode cX8_withoutAt 16 = .ok (.iload_n 2, 1) := by decide +kernel
theorem dX8_withoutAt_17 : decode cX8_withoutAt 17 = .ok (.ifCond .ge 7, 3) := by decide +kernel
theorem dX8_withoutAt_20 : decode cX8_withoutAt 20 = .ok (.iconst 2, 1) := by decide +kernel
theorem dX8_withoutAt_21 : decode cX8_withoutAt 21 = .ok (.goto 4, 3) := by decide +kernel
theorem dX8_withoutAt_24 : decode cX8_withoutAt 24 = .ok (.iconst 0, 1) := by decide +kernel
theorem dX8_withoutAt_25 : decode cX8_withoutAt 25 = .ok (.invokevirtual 103, 3) := by decide +kernel
theorem dX8_withoutAt_28 : decode cX8_withoutAt 28 = .ok (.ifCond .eq 5, 3) := by decide +kernel
theorem dX8_withoutAt_31 : decode cX8_withoutAt 31 = .ok (.iconst 0, 1) := by decide +kernel
theorem dX8_withoutAt_32 : decode cX8_withoutAt 32 = .ok (.ireturn, 1) := by decide +kernel
theorem dX8_withoutAt_33 : decode cX8_withoutAt 33 = .ok (.aload_n 0, 1) := by decide +kernel
theorem dX8_withoutAt_34 : decode cX8_withoutAt 34 = .ok (.aload_n 0, 1) := by decide +kernel
theorem dX8_withoutAt_35 : decode cX8_withoutAt 35 = .ok (.getfield 16, 3) := by decide +kernel
theorem dX8_withoutAt_38 : decode cX8_withoutAt 38 = .ok (.iload_n 1, 1) := by decide +kernel
theorem dX8_withoutAt_39 : decode cX8_withoutAt 39 = .ok (.invokevirtual 170, 3) := by decide +kernel
theorem dX8_withoutAt_42 : decode cX8_withoutAt 42 = .ok (.pop, 1) := by decide +kernel
theorem dX8_withoutAt_43 : decode cX8_withoutAt 43 = .ok (.aload_n 0, 1) := by decide +kernel
theorem dX8_withoutAt_44 : decode cX8_withoutAt 44 = .ok (.iload_n 2, 1) := by decide +kernel
theorem dX8_withoutAt_45 : decode cX8_withoutAt 45 = .ok (.invokevirtual 187, 3) := by decide +kernel
theorem dX8_withoutAt_48 : decode cX8_withoutAt 48 = .ok (.ireturn, 1) := by decide +kernel
theorem dX8_dearest_0 : decode cX8_dearest 0 = .ok (.aload_n 0, 1) := by decide +kernel
theorem dX8_dearest_1 : decode cX8_dearest 1 = .ok (.aload_n 0, 1) := by decide +kernel
theorem dX8_dearest_2 : decode cX8_dearest 2 = .ok (.getfield 16, 3) := by decide +kernel
theorem dX8_dearest_5 : decode cX8_dearest 5 = .ok (.sipush (-999), 3) := by decide +kernel
theorem dX8_dearest_8 : decode cX8_dearest 8 = .ok (.invokevirtual 170, 3) := by decide +kernel
theorem dX8_dearest_11 : decode cX8_dearest 11 = .ok (.pop, 1) := by decide +kernel
theorem dX8_dearest_12 : decode cX8_dearest 12 = .ok (.sipush (-999), 3) := by decide +kernel
theorem dX8_dearest_15 : decode cX8_dearest 15 = .ok (.istore_n 1, 1) := by decide +kernel
theorem dX8_dearest_16 : decode cX8_dearest 16 = .ok (.iconst 0, 1) := by decide +kernel
theorem dX8_dearest_17 : decode cX8_dearest 17 = .ok (.istore_n 2, 1) := by decide +kernel
theorem dX8_dearest_18 : decode cX8_dearest 18 = .ok (.iconst 0, 1) := by decide +kernel
theorem dX8_dearest_19 : decode cX8_dearest 19 = .ok (.istore_n 3, 1) := by decide +kernel
theorem dX8_dearest_20 : decode cX8_dearest 20 = .ok (.iload_n 3, 1) := by decide +kernel
theorem dX8_dearest_21 : decode cX8_dearest 21 = .ok (.aload_n 0, 1) := by decide +kernel
theorem dX8_dearest_22 : decode cX8_dearest 22 = .ok (.getfield 16, 3) := by decide +kernel
theorem dX8_dearest_25 : decode cX8_dearest 25 = .ok (.iconst 1, 1) := by decide +kernel
theorem dX8_dearest_26 : decode cX8_dearest 26 = .ok (.iaload, 1) := by decide +kernel
theorem dX8_dearest_27 : decode cX8_dearest 27 = .ok (.if_icmp .ge 86, 3) := by decide +kernel
theorem dX8_dearest_30 : decode cX8_dearest 30 = .ok (.aload_n 0, 1) := by decide +kernel
theorem dX8_dearest_31 : decode cX8_dearest 31 = .ok (.getfield 16, 3) := by decide +kernel
theorem dX8_dearest_34 : decode cX8_dearest 34 = .ok (.bipush 64, 2) := by decide +kernel
theorem dX8_dearest_36 : decode cX8_dearest 36 = .ok (.iload_n 3, 1) := by decide +kernel
theorem dX8_dearest_37 : decode cX8_dearest 37 = .ok (.iadd, 1) := by decide +kernel
theorem dX8_dearest_38 : decode cX8_dearest 38 = .ok (.iaload, 1) := by decide +kernel
theorem dX8_dearest_39 : decode cX8_dearest 39 = .ok (.ifCond .ne 68, 3) := by decide +kernel
theorem dX8_dearest_42 : decode cX8_dearest 42 = .ok (.aload_n 0, 1) := by decide +kernel
theorem dX8_dearest_43 : decode cX8_dearest 43 = .ok (.aload_n 0, 1) := by decide +kernel
theorem dX8_dearest_44 : decode cX8_dearest 44 = .ok (.getfield 16, 3) := by decide +kernel
theorem dX8_dearest_47 : decode cX8_dearest 47 = .ok (.iload_n 3, 1) := by decide +kernel
theorem dX8_dearest_48 : decode cX8_dearest 48 = .ok (.invokevirtual 179, 3) := by decide +kernel
theorem dX8_dearest_51 : decode cX8_dearest 51 = .ok (.ifCond .eq 56, 3) := by decide +kernel
theorem dX8_dearest_54 : decode cX8_dearest 54 = .ok (.aload_n 0, 1) := by decide +kernel
theorem dX8_dearest_55 : decode cX8_dearest 55 = .ok (.aload_n 0, 1) := by decide +kernel
theorem dX8_dearest_56 : decode cX8_dearest 56 = .ok (.getfield 16, 3) := by decide +kernel
theorem dX8_dearest_59 : decode cX8_dearest 59 = .ok (.iload_n 3, 1) := by decide +kernel
theorem dX8_dearest_60 : decode cX8_dearest 60 = .ok (.invokevirtual 88, 3) := by decide +kernel
theorem dX8_dearest_63 : decode cX8_dearest 63 = .ok (.istore 4, 2) := by decide +kernel
theorem dX8_dearest_65 : decode cX8_dearest 65 = .ok (.iload 4, 2) := by decide +kernel
theorem dX8_dearest_67 : decode cX8_dearest 67 = .ok (.sipush (-999), 3) := by decide +kernel
theorem dX8_dearest_70 : decode cX8_dearest 70 = .ok (.if_icmp .ne 8, 3) := by decide +kernel
theorem dX8_dearest_73 : decode cX8_dearest 73 = .ok (.ldc 73, 2) := by decide +kernel
theorem dX8_dearest_75 : decode cX8_dearest 75 = .ok (.goto 5, 3) := by decide +kernel
theorem dX8_dearest_78 : decode cX8_dearest 78 = .ok (.iload 4, 2) := by decide +kernel
theorem dX8_dearest_80 : decode cX8_dearest 80 = .ok (.istore 5, 2) := by decide +kernel
theorem dX8_dearest_82 : decode cX8_dearest 82 = .ok (.iload 5, 2) := by decide +kernel
theorem dX8_dearest_84 : decode cX8_dearest 84 = .ok (.iload_n 2, 1) := by decide +kernel
theorem dX8_dearest_85 : decode cX8_dearest 85 = .ok (.if_icmp .le 7, 3) := by decide +kernel
theorem dX8_dearest_88 : decode cX8_dearest 88 = .ok (.iload_n 3, 1) := by decide +kernel
theorem dX8_dearest_89 : decode cX8_dearest 89 = .ok (.goto 4, 3) := by decide +kernel
theorem dX8_dearest_92 : decode cX8_dearest 92 = .ok (.iload_n 1, 1) := by decide +kernel
theorem dX8_dearest_93 : decode cX8_dearest 93 = .ok (.istore_n 1, 1) := by decide +kernel
theorem dX8_dearest_94 : decode cX8_dearest 94 = .ok (.iload 5, 2) := by decide +kernel
theorem dX8_dearest_96 : decode cX8_dearest 96 = .ok (.iload_n 2, 1) := by decide +kernel
theorem dX8_dearest_97 : decode cX8_dearest 97 = .ok (.if_icmp .le 8, 3) := by decide +kernel
theorem dX8_dearest_100 : decode cX8_dearest 100 = .ok (.iload 5, 2) := by decide +kernel
theorem dX8_dearest_102 : decode cX8_dearest 102 = .ok (.goto 4, 3) := by decide +kernel
theorem dX8_dearest_105 : decode cX8_dearest 105 = .ok (.iload_n 2, 1) := by decide +kernel
theorem dX8_dearest_106 : decode cX8_dearest 106 = .ok (.istore_n 2, 1) := by decide +kernel
theorem dX8_dearest_107 : decode cX8_dearest 107 = .ok (.iinc 3 1, 3) := by decide +kernel
theorem dX8_dearest_110 : decode cX8_dearest 110 = .ok (.goto (-90), 3) := by decide +kernel
theorem dX8_dearest_113 : decode cX8_dearest 113 = .ok (.iload_n 1, 1) := by decide +kernel
theorem dX8_dearest_114 : decode cX8_dearest 114 = .ok (.ireturn, 1) := by decide +kernel
theorem dX8_upTo_0 : decode cX8_upTo 0 = .ok (.aload_n 0, 1) := by decide +kernel
theorem dX8_upTo_1 : decode cX8_upTo 1 = .ok (.aload_n 0, 1) := by decide +kernel
theorem dX8_upTo_2 : decode cX8_upTo 2 = .ok (.getfield 16, 3) := by decide +kernel
theorem dX8_upTo_5 : decode cX8_upTo 5 = .ok (.iload_n 1, 1) := by decide +kernel
theorem dX8_upTo_6 : decode cX8_upTo 6 = .ok (.invokestatic 173, 3) := by decide +kernel
theorem dX8_upTo_9 : decode cX8_upTo 9 = .ok (.ifCond .eq 7, 3) := by decide +kernel
theorem dX8_upTo_12 : decode cX8_upTo 12 = .ok (.iconst 0, 1) := by decide +kernel
theorem dX8_upTo_13 : decode cX8_upTo 13 = .ok (.goto 4, 3) := by decide +kernel
theorem dX8_upTo_16 : decode cX8_upTo 16 = .ok (.iconst 1, 1) := by decide +kernel
theorem dX8_upTo_17 : decode cX8_upTo 17 = .ok (.invokevirtual 103, 3) := by decide +kernel
theorem dX8_upTo_20 : decode cX8_upTo 20 = .ok (.ifCond .eq 5, 3) := by decide +kernel
theorem dX8_upTo_23 : decode cX8_upTo 23 = .ok (.iconst 0, 1) := by decide +kernel
theorem dX8_upTo_24 : decode cX8_upTo 24 = .ok (.ireturn, 1) := by decide +kernel
theorem dX8_upTo_25 : decode cX8_upTo 25 = .ok (.aload_n 0, 1) := by decide +kernel
theorem dX8_upTo_26 : decode cX8_upTo 26 = .ok (.getfield 16, 3) := by decide +kernel
theorem dX8_upTo_29 : decode cX8_upTo 29 = .ok (.iconst 0, 1) := by decide +kernel
theorem dX8_upTo_30 : decode cX8_upTo 30 = .ok (.aload_n 0, 1) := by decide +kernel
theorem dX8_upTo_31 : decode cX8_upTo 31 = .ok (.getfield 19, 3) := by decide +kernel
theorem dX8_upTo_34 : decode cX8_upTo 34 = .ok (.iconst 0, 1) := by decide +kernel
theorem dX8_upTo_35 : decode cX8_upTo 35 = .ok (.invokestatic 161, 3) := by decide +kernel
theorem dX8_upTo_38 : decode cX8_upTo 38 = .ok (.bipush 99, 2) := by decide +kernel
theorem dX8_upTo_40 : decode cX8_upTo 40 = .ok (.istore_n 2, 1) := by decide +kernel
theorem dX8_upTo_41 : decode cX8_upTo 41 = .ok (.iload_n 2, 1) := by decide +kernel
theorem dX8_upTo_42 : decode cX8_upTo 42 = .ok (.ifCond .le 57, 3) := by decide +kernel
theorem dX8_upTo_45 : decode cX8_upTo 45 = .ok (.aload_n 0, 1) := by decide +kernel
theorem dX8_upTo_46 : decode cX8_upTo 46 = .ok (.getfield 16, 3) := by decide +kernel
theorem dX8_upTo_49 : decode cX8_upTo 49 = .ok (.bipush 64, 2) := by decide +kernel
theorem dX8_upTo_51 : decode cX8_upTo 51 = .ok (.iload_n 1, 1) := by decide +kernel
theorem dX8_upTo_52 : decode cX8_upTo 52 = .ok (.iadd, 1) := by decide +kernel
theorem dX8_upTo_53 : decode cX8_upTo 53 = .ok (.iaload, 1) := by decide +kernel
theorem dX8_upTo_54 : decode cX8_upTo 54 = .ok (.ifCond .ne 45, 3) := by decide +kernel
theorem dX8_upTo_57 : decode cX8_upTo 57 = .ok (.aload_n 0, 1) := by decide +kernel
theorem dX8_upTo_58 : decode cX8_upTo 58 = .ok (.getfield 19, 3) := by decide +kernel
theorem dX8_upTo_61 : decode cX8_upTo 61 = .ok (.bipush 44, 2) := by decide +kernel
theorem dX8_upTo_63 : decode cX8_upTo 63 = .ok (.iload_n 1, 1) := by decide +kernel
theorem dX8_upTo_64 : decode cX8_upTo 64 = .ok (.iadd, 1) := by decide +kernel
theorem dX8_upTo_65 : decode cX8_upTo 65 = .ok (.iload_n 2, 1) := by decide +kernel
theorem dX8_upTo_66 : decode cX8_upTo 66 = .ok (.iastore, 1) := by decide +kernel
theorem dX8_upTo_67 : decode cX8_upTo 67 = .ok (.aload_n 0, 1) := by decide +kernel
theorem dX8_upTo_68 : decode cX8_upTo 68 = .ok (.aload_n 0, 1) := by decide +kernel
theorem dX8_upTo_69 : decode cX8_upTo 69 = .ok (.getfield 19, 3) := by decide +kernel
theorem dX8_upTo_72 : decode cX8_upTo 72 = .ok (.sipush (-999), 3) := by decide +kernel
theorem dX8_upTo_75 : decode cX8_upTo 75 = .ok (.invokevirtual 170, 3) := by decide +kernel
theorem dX8_upTo_78 : decode cX8_upTo 78 = .ok (.pop, 1) := by decide +kernel
theorem dX8_upTo_79 : decode cX8_upTo 79 = .ok (.aload_n 0, 1) := by decide +kernel
theorem dX8_upTo_80 : decode cX8_upTo 80 = .ok (.aload_n 0, 1) := by decide +kernel
theorem dX8_upTo_81 : decode cX8_upTo 81 = .ok (.getfield 19, 3) := by decide +kernel
theorem dX8_upTo_84 : decode cX8_upTo 84 = .ok (.iload_n 1, 1) := by decide +kernel
theorem dX8_upTo_85 : decode cX8_upTo 85 = .ok (.invokevirtual 179, 3) := by decide +kernel
theorem dX8_upTo_88 : decode cX8_upTo 88 = .ok (.ifCond .eq 5, 3) := by decide +kernel
theorem dX8_upTo_91 : decode cX8_upTo 91 = .ok (.iload_n 2, 1) := by decide +kernel
theorem dX8_upTo_92 : decode cX8_upTo 92 = .ok (.ireturn, 1) := by decide +kernel
theorem dX8_upTo_93 : decode cX8_upTo 93 = .ok (.iinc 2 (-1), 3) := by decide +kernel
theorem dX8_upTo_96 : decode cX8_upTo 96 = .ok (.goto (-55), 3) := by decide +kernel
theorem dX8_upTo_99 : decode cX8_upTo 99 = .ok (.sipush (-999), 3) := by decide +kernel
theorem dX8_upTo_102 : decode cX8_upTo 102 = .ok (.ireturn, 1) := by decide +kernel
theorem dX8_saves_0 : decode cX8_saves 0 = .ok (.aload_n 0, 1) := by decide +kernel
theorem dX8_saves_1 : decode cX8_saves 1 = .ok (.aload_n 0, 1) := by decide +kernel
theorem dX8_saves_2 : decode cX8_saves 2 = .ok (.getfield 16, 3) := by decide +kernel
theorem dX8_saves_5 : decode cX8_saves 5 = .ok (.iload_n 1, 1) := by decide +kernel
theorem dX8_saves_6 : decode cX8_saves 6 = .ok (.invokestatic 182, 3) := by decide +kernel
theorem dX8_saves_9 : decode cX8_saves 9 = .ok (.ifCond .eq 14, 3) := by decide +kernel
theorem dX8_saves_12 : decode cX8_saves 12 = .ok (.aload_n 0, 1) := by decide +kernel
theorem dX8_saves_13 : decode cX8_saves 13 = .ok (.getfield 16, 3) := by decide +kernel
theorem dX8_saves_16 : decode cX8_saves 16 = .ok (.iload_n 2, 1) := by decide +kernel
theorem dX8_saves_17 : decode cX8_saves 17 = .ok (.invokestatic 182, 3) := by decide +kernel
theorem dX8_saves_20 : decode cX8_saves 20 = .ok (.ifCond .ne 7, 3) := by decide +kernel
theorem dX8_saves_23 : decode cX8_saves 23 = .ok (.iconst 1, 1) := by decide +kernel
theorem dX8_saves_24 : decode cX8_saves 24 = .ok (.goto 25, 3) := by decide +kernel
theorem dX8_saves_27 : decode cX8_saves 27 = .ok (.iload_n 1, 1) := by decide +kernel
theorem dX8_saves_28 : decode cX8_saves 28 = .ok (.iload_n 2, 1) := by decide +kernel
theorem dX8_saves_29 : decode cX8_saves 29 = .ok (.if_icmp .eq 15, 3) := by decide +kernel
theorem dX8_saves_32 : decode cX8_saves 32 = .ok (.iload_n 3, 1) := by decide +kernel
theorem dX8_saves_33 : decode cX8_saves 33 = .ok (.i2l, 1) := by decide +kernel
theorem dX8_saves_34 : decode cX8_saves 34 = .ok (.lconst 1, 1) := by decide +kernel
theorem dX8_saves_35 : decode cX8_saves 35 = .ok (.ldc2_w 193, 3) := by decide +kernel
theorem dX8_saves_38 : decode cX8_saves 38 = .ok (.invokestatic 65, 3) := by decide +kernel
theorem dX8_saves_41 : decode cX8_saves 41 = .ok (.ifCond .ne 7, 3) := by decide +kernel
theorem dX8_saves_44 : decode cX8_saves 44 = .ok (.iconst 2, 1) := by decide +kernel
theorem dX8_saves_45 : decode cX8_saves 45 = .ok (.goto 4, 3) := by decide +kernel
theorem dX8_saves_48 : decode cX8_saves 48 = .ok (.iconst 0, 1) := by decide +kernel
theorem dX8_saves_49 : decode cX8_saves 49 = .ok (.invokevirtual 103, 3) := by decide +kernel
theorem dX8_saves_52 : decode cX8_saves 52 = .ok (.ifCond .eq 5, 3) := by decide +kernel
theorem dX8_saves_55 : decode cX8_saves 55 = .ok (.iconst 0, 1) := by decide +kernel
theorem dX8_saves_56 : decode cX8_saves 56 = .ok (.ireturn, 1) := by decide +kernel
theorem dX8_saves_57 : decode cX8_saves 57 = .ok (.aload_n 0, 1) := by decide +kernel
theorem dX8_saves_58 : decode cX8_saves 58 = .ok (.aload_n 0, 1) := by decide +kernel
theorem dX8_saves_59 : decode cX8_saves 59 = .ok (.getfield 16, 3) := by decide +kernel
theorem dX8_saves_62 : decode cX8_saves 62 = .ok (.sipush (-999), 3) := by decide +kernel
theorem dX8_saves_65 : decode cX8_saves 65 = .ok (.invokevirtual 88, 3) := by decide +kernel
theorem dX8_saves_68 : decode cX8_saves 68 = .ok (.istore 4, 2) := by decide +kernel
theorem dX8_saves_70 : decode cX8_saves 70 = .ok (.aload_n 0, 1) := by decide +kernel
theorem dX8_saves_71 : decode cX8_saves 71 = .ok (.iload_n 1, 1) := by decide +kernel
theorem dX8_saves_72 : decode cX8_saves 72 = .ok (.iload_n 2, 1) := by decide +kernel
theorem dX8_saves_73 : decode cX8_saves 73 = .ok (.bipush 100, 2) := by decide +kernel
theorem dX8_saves_75 : decode cX8_saves 75 = .ok (.iload_n 3, 1) := by decide +kernel
theorem dX8_saves_76 : decode cX8_saves 76 = .ok (.imul, 1) := by decide +kernel
theorem dX8_saves_77 : decode cX8_saves 77 = .ok (.iconst 1, 1) := by decide +kernel
theorem dX8_saves_78 : decode cX8_saves 78 = .ok (.iadd, 1) := by decide +kernel
theorem dX8_saves_79 : decode cX8_saves 79 = .ok (.invokevirtual 69, 3) := by decide +kernel
theorem dX8_saves_82 : decode cX8_saves 82 = .ok (.aload_n 0, 1) := by decide +kernel
theorem dX8_saves_83 : decode cX8_saves 83 = .ok (.aload_n 0, 1) := by decide +kernel
theorem dX8_saves_84 : decode cX8_saves 84 = .ok (.getfield 16, 3) := by decide +kernel
theorem dX8_saves_87 : decode cX8_saves 87 = .ok (.invokevirtual 84, 3) := by decide +kernel
theorem dX8_saves_90 : decode cX8_saves 90 = .ok (.istore 5, 2) := by decide +kernel
theorem dX8_saves_92 : decode cX8_saves 92 = .ok (.iload 4, 2) := by decide +kernel
theorem dX8_saves_94 : decode cX8_saves 94 = .ok (.sipush (-999), 3) := by decide +kernel
theorem dX8_saves_97 : decode cX8_saves 97 = .ok (.if_icmp .eq 11, 3) := by decide +kernel
theorem dX8_saves_100 : decode cX8_saves 100 = .ok (.iload 5, 2) := by decide +kernel
theorem dX8_saves_102 : decode cX8_saves 102 = .ok (.sipush (-999), 3) := by decide +kernel
theorem dX8_saves_105 : decode cX8_saves 105 = .ok (.if_icmp .ne 9, 3) := by decide +kernel
theorem dX8_saves_108 : decode cX8_saves 108 = .ok (.sipush (-999), 3) := by decide +kernel
theorem dX8_saves_111 : decode cX8_saves 111 = .ok (.goto 8, 3) := by decide +kernel
theorem dX8_saves_114 : decode cX8_saves 114 = .ok (.iload 4, 2) := by decide +kernel
theorem dX8_saves_116 : decode cX8_saves 116 = .ok (.iload 5, 2) := by decide +kernel
theorem dX8_saves_118 : decode cX8_saves 118 = .ok (.isub, 1) := by decide +kernel
theorem dX8_saves_119 : decode cX8_saves 119 = .ok (.ireturn, 1) := by decide +kernel
theorem dX8_ways_0 : decode cX8_ways 0 = .ok (.aload_n 0, 1) := by decide +kernel
theorem dX8_ways_1 : decode cX8_ways 1 = .ok (.iload_n 1, 1) := by decide +kernel
theorem dX8_ways_2 : decode cX8_ways 2 = .ok (.i2l, 1) := by decide +kernel
theorem dX8_ways_3 : decode cX8_ways 3 = .ok (.lconst 0, 1) := by decide +kernel
theorem dX8_ways_4 : decode cX8_ways 4 = .ok (.ldc2_w 204, 3) := by decide +kernel
theorem dX8_ways_7 : decode cX8_ways 7 = .ok (.invokestatic 65, 3) := by decide +kernel
theorem dX8_ways_10 : decode cX8_ways 10 = .ok (.ifCond .eq 7, 3) := by decide +kernel
theorem dX8_ways_13 : decode cX8_ways 13 = .ok (.iconst 0, 1) := by decide +kernel
theorem dX8_ways_14 : decode cX8_ways 14 = .ok (.goto 4, 3) := by decide +kernel
theorem dX8_ways_17 : decode cX8_ways 17 = .ok (.iconst 1, 1) := by decide +kernel
theorem dX8_ways_18 : decode cX8_ways 18 = .ok (.invokevirtual 103, 3) := by decide +kernel
theorem dX8_ways_21 : decode cX8_ways 21 = .ok (.ifCond .eq 5, 3) := by decide +kernel
theorem dX8_ways_24 : decode cX8_ways 24 = .ok (.iconst 0, 1) := by decide +kernel
theorem dX8_ways_25 : decode cX8_ways 25 = .ok (.ireturn, 1) := by decide +kernel
theorem dX8_ways_26 : decode cX8_ways 26 = .ok (.aload_n 0, 1) := by decide +kernel
theorem dX8_ways_27 : decode cX8_ways 27 = .ok (.aload_n 0, 1) := by decide +kernel
theorem dX8_ways_28 : decode cX8_ways 28 = .ok (.getfield 16, 3) := by decide +kernel
theorem dX8_ways_31 : decode cX8_ways 31 = .ok (.sipush (-999), 3) := by decide +kernel
theorem dX8_ways_34 : decode cX8_ways 34 = .ok (.invokevirtual 81, 3) := by decide +kernel
theorem dX8_ways_37 : decode cX8_ways 37 = .ok (.iconst 0, 1) := by decide +kernel
theorem dX8_ways_38 : decode cX8_ways 38 = .ok (.istore_n 2, 1) := by decide +kernel
theorem dX8_ways_39 : decode cX8_ways 39 = .ok (.iload_n 2, 1) := by decide +kernel
theorem dX8_ways_40 : decode cX8_ways 40 = .ok (.bipush 9, 2) := by decide +kernel
theorem dX8_ways_42 : decode cX8_ways 42 = .ok (.if_icmp .ge 30, 3) := by decide +kernel
theorem dX8_ways_45 : decode cX8_ways 45 = .ok (.aload_n 0, 1) := by decide +kernel
theorem dX8_ways_46 : decode cX8_ways 46 = .ok (.getfield 50, 3) := by decide +kernel
theorem dX8_ways_49 : decode cX8_ways 49 = .ok (.iload_n 2, 1) := by decide +kernel
theorem dX8_ways_50 : decode cX8_ways 50 = .ok (.iload_n 2, 1) := by decide +kernel
theorem dX8_ways_51 : decode cX8_ways 51 = .ok (.aload_n 0, 1) := by decide +kernel
theorem dX8_ways_52 : decode cX8_ways 52 = .ok (.getfield 16, 3) := by decide +kernel
theorem dX8_ways_55 : decode cX8_ways 55 = .ok (.iconst 2, 1) := by decide +kernel
theorem dX8_ways_56 : decode cX8_ways 56 = .ok (.iaload, 1) := by decide +kernel
theorem dX8_ways_57 : decode cX8_ways 57 = .ok (.if_icmp .ne 7, 3) := by decide +kernel
theorem dX8_ways_60 : decode cX8_ways 60 = .ok (.iconst 1, 1) := by decide +kernel
theorem dX8_ways_61 : decode cX8_ways 61 = .ok (.goto 4, 3) := by decide +kernel
theorem dX8_ways_64 : decode cX8_ways 64 = .ok (.iconst 0, 1) := by decide +kernel
theorem dX8_ways_65 : decode cX8_ways 65 = .ok (.bastore, 1) := by decide +kernel
theorem dX8_ways_66 : decode cX8_ways 66 = .ok (.iinc 2 1, 3) := by decide +kernel
theorem dX8_ways_69 : decode cX8_ways 69 = .ok (.goto (-30), 3) := by decide +kernel
theorem dX8_ways_72 : decode cX8_ways 72 = .ok (.iconst 0, 1) := by decide +kernel
theorem dX8_ways_73 : decode cX8_ways 73 = .ok (.istore_n 2, 1) := by decide +kernel
theorem dX8_ways_74 : decode cX8_ways 74 = .ok (.iconst 0, 1) := by decide +kernel
theorem dX8_ways_75 : decode cX8_ways 75 = .ok (.istore_n 3, 1) := by decide +kernel
theorem dX8_ways_76 : decode cX8_ways 76 = .ok (.aload_n 0, 1) := by decide +kernel
theorem dX8_ways_77 : decode cX8_ways 77 = .ok (.getfield 41, 3) := by decide +kernel
theorem dX8_ways_80 : decode cX8_ways 80 = .ok (.iconst 0, 1) := by decide +kernel
theorem dX8_ways_81 : decode cX8_ways 81 = .ok (.aload_n 0, 1) := by decide +kernel
theorem dX8_ways_82 : decode cX8_ways 82 = .ok (.getfield 16, 3) := by decide +kernel
theorem dX8_ways_85 : decode cX8_ways 85 = .ok (.iconst 2, 1) := by decide +kernel
theorem dX8_ways_86 : decode cX8_ways 86 = .ok (.iaload, 1) := by decide +kernel
theorem dX8_ways_87 : decode cX8_ways 87 = .ok (.iastore, 1) := by decide +kernel
theorem dX8_ways_88 : decode cX8_ways 88 = .ok (.aload_n 0, 1) := by decide +kernel
theorem dX8_ways_89 : decode cX8_ways 89 = .ok (.getfield 44, 3) := by decide +kernel
theorem dX8_ways_92 : decode cX8_ways 92 = .ok (.iconst 0, 1) := by decide +kernel
theorem dX8_ways_93 : decode cX8_ways 93 = .ok (.iconst 0, 1) := by decide +kernel
theorem dX8_ways_94 : decode cX8_ways 94 = .ok (.iastore, 1) := by decide +kernel
theorem dX8_ways_95 : decode cX8_ways 95 = .ok (.aload_n 0, 1) := by decide +kernel
theorem dX8_ways_96 : decode cX8_ways 96 = .ok (.getfield 47, 3) := by decide +kernel
theorem dX8_ways_99 : decode cX8_ways 99 = .ok (.iconst 0, 1) := by decide +kernel
theorem dX8_ways_100 : decode cX8_ways 100 = .ok (.iconst 0, 1) := by decide +kernel
theorem dX8_ways_101 : decode cX8_ways 101 = .ok (.iastore, 1) := by decide +kernel
theorem dX8_ways_102 : decode cX8_ways 102 = .ok (.iload_n 3, 1) := by decide +kernel
theorem dX8_ways_103 : decode cX8_ways 103 = .ok (.ifCond .lt 187, 3) := by decide +kernel
theorem dX8_ways_106 : decode cX8_ways 106 = .ok (.iload_n 2, 1) := by decide +kernel
theorem dX8_ways_107 : decode cX8_ways 107 = .ok (.sipush 500, 3) := by decide +kernel
theorem dX8_ways_110 : decode cX8_ways 110 = .ok (.if_icmp .ge 180, 3) := by decide +kernel
theorem dX8_ways_113 : decode cX8_ways 113 = .ok (.aload_n 0, 1) := by decide +kernel
theorem dX8_ways_114 : decode cX8_ways 114 = .ok (.getfield 41, 3) := by decide +kernel
theorem dX8_ways_117 : decode cX8_ways 117 = .ok (.iload_n 3, 1) := by decide +kernel
theorem dX8_ways_118 : decode cX8_ways 118 = .ok (.iaload, 1) := by decide +kernel
theorem dX8_ways_119 : decode cX8_ways 119 = .ok (.istore 4, 2) := by decide +kernel
theorem dX8_ways_121 : decode cX8_ways 121 = .ok (.aload_n 0, 1) := by decide +kernel
theorem dX8_ways_122 : decode cX8_ways 122 = .ok (.getfield 44, 3) := by decide +kernel
theorem dX8_ways_125 : decode cX8_ways 125 = .ok (.iload_n 3, 1) := by decide +kernel
theorem dX8_ways_126 : decode cX8_ways 126 = .ok (.iaload, 1) := by decide +kernel
theorem dX8_ways_127 : decode cX8_ways 127 = .ok (.istore 5, 2) := by decide +kernel
theorem dX8_ways_129 : decode cX8_ways 129 = .ok (.aload_n 0, 1) := by decide +kernel
theorem dX8_ways_130 : decode cX8_ways 130 = .ok (.getfield 44, 3) := by decide +kernel
theorem dX8_ways_133 : decode cX8_ways 133 = .ok (.iload_n 3, 1) := by decide +kernel
theorem dX8_ways_134 : decode cX8_ways 134 = .ok (.dup2, 1) := by decide +kernel
theorem dX8_ways_135 : decode cX8_ways 135 = .ok (.iaload, 1) := by decide +kernel
theorem dX8_ways_136 : decode cX8_ways 136 = .ok (.iconst 1, 1) := by decide +kernel
theorem dX8_ways_137 : decode cX8_ways 137 = .ok (.iadd, 1) := by decide +kernel
theorem dX8_ways_138 : decode cX8_ways 138 = .ok (.iastore, 1) := by decide +kernel
theorem dX8_ways_139 : decode cX8_ways 139 = .ok (.iload 5, 2) := by decide +kernel
theorem dX8_ways_141 : decode cX8_ways 141 = .ok (.bipush 9, 2) := by decide +kernel
theorem dX8_ways_143 : decode cX8_ways 143 = .ok (.if_icmp .ne 17, 3) := by decide +kernel
theorem dX8_ways_146 : decode cX8_ways 146 = .ok (.aload_n 0, 1) := by decide +kernel
theorem dX8_ways_147 : decode cX8_ways 147 = .ok (.getfield 50, 3) := by decide +kernel
theorem dX8_ways_150 : decode cX8_ways 150 = .ok (.iload 4, 2) := by decide +kernel
theorem dX8_ways_152 : decode cX8_ways 152 = .ok (.iconst 0, 1) := by decide +kernel
theorem dX8_ways_153 : decode cX8_ways 153 = .ok (.bastore, 1) := by decide +kernel
theorem dX8_ways_154 : decode cX8_ways 154 = .ok (.iinc 3 (-1), 3) := by decide +kernel
theorem dX8_ways_157 : decode cX8_ways 157 = .ok (.goto 130, 3) := by decide +kernel
theorem dX8_ways_160 : decode cX8_ways 160 = .ok (.aload_n 0, 1) := by decide +kernel
theorem dX8_ways_161 : decode cX8_ways 161 = .ok (.getfield 35, 3) := by decide +kernel
theorem dX8_ways_164 : decode cX8_ways 164 = .ok (.bipush 9, 2) := by decide +kernel
theorem dX8_ways_166 : decode cX8_ways 166 = .ok (.iload 4, 2) := by decide +kernel
theorem dX8_ways_168 : decode cX8_ways 168 = .ok (.imul, 1) := by decide +kernel
theorem dX8_ways_169 : decode cX8_ways 169 = .ok (.iload 5, 2) := by decide +kernel
theorem dX8_ways_171 : decode cX8_ways 171 = .ok (.iadd, 1) := by decide +kernel
theorem dX8_ways_172 : decode cX8_ways 172 = .ok (.iaload, 1) := by decide +kernel
theorem dX8_ways_173 : decode cX8_ways 173 = .ok (.ifCond .le 114, 3) := by decide +kernel
theorem dX8_ways_176 : decode cX8_ways 176 = .ok (.aload_n 0, 1) := by decide +kernel
theorem dX8_ways_177 : decode cX8_ways 177 = .ok (.getfield 50, 3) := by decide +kernel
theorem dX8_ways_180 : decode cX8_ways 180 = .ok (.iload 5, 2) := by decide +kernel
theorem dX8_ways_182 : decode cX8_ways 182 = .ok (.baload, 1) := by decide +kernel
theorem dX8_ways_183 : decode cX8_ways 183 = .ok (.ifCond .ne 104, 3) := by decide +kernel
theorem dX8_ways_186 : decode cX8_ways 186 = .ok (.aload_n 0, 1) := by decide +kernel
theorem dX8_ways_187 : decode cX8_ways 187 = .ok (.getfield 47, 3) := by decide +kernel
theorem dX8_ways_190 : decode cX8_ways 190 = .ok (.iload_n 3, 1) := by decide +kernel
theorem dX8_ways_191 : decode cX8_ways 191 = .ok (.iaload, 1) := by decide +kernel
theorem dX8_ways_192 : decode cX8_ways 192 = .ok (.aload_n 0, 1) := by decide +kernel
theorem dX8_ways_193 : decode cX8_ways 193 = .ok (.getfield 35, 3) := by decide +kernel
theorem dX8_ways_196 : decode cX8_ways 196 = .ok (.bipush 9, 2) := by decide +kernel
theorem dX8_ways_198 : decode cX8_ways 198 = .ok (.iload 4, 2) := by decide +kernel
theorem dX8_ways_200 : decode cX8_ways 200 = .ok (.imul, 1) := by decide +kernel
theorem dX8_ways_201 : decode cX8_ways 201 = .ok (.iload 5, 2) := by decide +kernel
theorem dX8_ways_203 : decode cX8_ways 203 = .ok (.iadd, 1) := by decide +kernel
theorem dX8_ways_204 : decode cX8_ways 204 = .ok (.iaload, 1) := by decide +kernel
theorem dX8_ways_205 : decode cX8_ways 205 = .ok (.bipush 100, 2) := by decide +kernel
theorem dX8_ways_207 : decode cX8_ways 207 = .ok (.idiv, 1) := by decide +kernel
theorem dX8_ways_208 : decode cX8_ways 208 = .ok (.iadd, 1) := by decide +kernel
theorem dX8_ways_209 : decode cX8_ways 209 = .ok (.iload_n 1, 1) := by decide +kernel
theorem dX8_ways_210 : decode cX8_ways 210 = .ok (.if_icmp .gt 77, 3) := by decide +kernel
theorem dX8_ways_213 : decode cX8_ways 213 = .ok (.iload 5, 2) := by decide +kernel
theorem dX8_ways_215 : decode cX8_ways 215 = .ok (.aload_n 0, 1) := by decide +kernel
theorem dX8_ways_216 : decode cX8_ways 216 = .ok (.getfield 16, 3) := by decide +kernel
theorem dX8_ways_219 : decode cX8_ways 219 = .ok (.iconst 3, 1) := by decide +kernel
theorem dX8_ways_220 : decode cX8_ways 220 = .ok (.iaload, 1) := by decide +kernel
theorem dX8_ways_221 : decode cX8_ways 221 = .ok (.if_icmp .ne 9, 3) := by decide +kernel
theorem dX8_ways_224 : decode cX8_ways 224 = .ok (.iinc 2 1, 3) := by decide +kernel
theorem dX8_ways_227 : decode cX8_ways 227 = .ok (.goto 60, 3) := by decide +kernel
theorem dX8_ways_230 : decode cX8_ways 230 = .ok (.iinc 3 1, 3) := by decide +kernel
theorem dX8_ways_233 : decode cX8_ways 233 = .ok (.aload_n 0, 1) := by decide +kernel
theorem dX8_ways_234 : decode cX8_ways 234 = .ok (.getfield 41, 3) := by decide +kernel
theorem dX8_ways_237 : decode cX8_ways 237 = .ok (.iload_n 3, 1) := by decide +kernel
theorem dX8_ways_238 : decode cX8_ways 238 = .ok (.iload 5, 2) := by decide +kernel
theorem dX8_ways_240 : decode cX8_ways 240 = .ok (.iastore, 1) := by decide +kernel
theorem dX8_ways_241 : decode cX8_ways 241 = .ok (.aload_n 0, 1) := by decide +kernel
theorem dX8_ways_242 : decode cX8_ways 242 = .ok (.getfield 44, 3) := by decide +kernel
theorem dX8_ways_245 : decode cX8_ways 245 = .ok (.iload_n 3, 1) := by decide +kernel
theorem dX8_ways_246 : decode cX8_ways 246 = .ok (.iconst 0, 1) := by decide +kernel
theorem dX8_ways_247 : decode cX8_ways 247 = .ok (.iastore, 1) := by decide +kernel
theorem dX8_ways_248 : decode cX8_ways 248 = .ok (.aload_n 0, 1) := by decide +kernel
theorem dX8_ways_249 : decode cX8_ways 249 = .ok (.getfield 47, 3) := by decide +kernel
theorem dX8_ways_252 : decode cX8_ways 252 = .ok (.iload_n 3, 1) := by decide +kernel
theorem dX8_ways_253 : decode cX8_ways 253 = .ok (.aload_n 0, 1) := by decide +kernel
theorem dX8_ways_254 : decode cX8_ways 254 = .ok (.getfield 47, 3) := by decide +kernel
theorem dX8_ways_257 : decode cX8_ways 257 = .ok (.iload_n 3, 1) := by decide +kernel
theorem dX8_ways_258 : decode cX8_ways 258 = .ok (.iconst 1, 1) := by decide +kernel
theorem dX8_ways_259 : decode cX8_ways 259 = .ok (.isub, 1) := by decide +kernel
theorem dX8_ways_260 : decode cX8_ways 260 = .ok (.iaload, 1) := by decide +kernel
theorem dX8_ways_261 : decode cX8_ways 261 = .ok (.aload_n 0, 1) := by decide +kernel
