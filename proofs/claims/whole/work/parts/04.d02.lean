theorem dX7_crossing_122 : decode cX7_crossing 122 = .ok (.dup, 1) := by decide +kernel
theorem dX7_crossing_123 : decode cX7_crossing 123 = .ok (.ldc 173, 2) := by decide +kernel
theorem dX7_crossing_125 : decode cX7_crossing 125 = .ok (.invokespecial 68, 3) := by decide +kernel
theorem dX7_crossing_128 : decode cX7_crossing 128 = .ok (.athrow, 1) := by decide +kernel
theorem dX7_between_0 : decode cX7_between 0 = .ok (.aload_n 0, 1) := by decide +kernel
theorem dX7_between_1 : decode cX7_between 1 = .ok (.iload_n 1, 1) := by decide +kernel
theorem dX7_between_2 : decode cX7_between 2 = .ok (.invokevirtual 156, 3) := by decide +kernel
theorem dX7_between_5 : decode cX7_between 5 = .ok (.aload_n 0, 1) := by decide +kernel
theorem dX7_between_6 : decode cX7_between 6 = .ok (.iload_n 2, 1) := by decide +kernel
theorem dX7_between_7 : decode cX7_between 7 = .ok (.invokevirtual 156, 3) := by decide +kernel
theorem dX7_between_10 : decode cX7_between 10 = .ok (.aload_n 0, 1) := by decide +kernel
theorem dX7_between_11 : decode cX7_between 11 = .ok (.getfield 33, 3) := by decide +kernel
theorem dX7_between_14 : decode cX7_between 14 = .ok (.iload_n 1, 1) := by decide +kernel
theorem dX7_between_15 : decode cX7_between 15 = .ok (.iload_n 2, 1) := by decide +kernel
theorem dX7_between_16 : decode cX7_between 16 = .ok (.invokevirtual 175, 3) := by decide +kernel
theorem dX7_between_19 : decode cX7_between 19 = .ok (.ireturn, 1) := by decide +kernel
theorem dX7_wayAt_0 : decode cX7_wayAt 0 = .ok (.iload_n 1, 1) := by decide +kernel
theorem dX7_wayAt_1 : decode cX7_wayAt 1 = .ok (.invokestatic 179, 3) := by decide +kernel
theorem dX7_wayAt_4 : decode cX7_wayAt 4 = .ok (.aload_n 0, 1) := by decide +kernel
theorem dX7_wayAt_5 : decode cX7_wayAt 5 = .ok (.getfield 57, 3) := by decide +kernel
theorem dX7_wayAt_8 : decode cX7_wayAt 8 = .ok (.aload_n 0, 1) := by decide +kernel
theorem dX7_wayAt_9 : decode cX7_wayAt 9 = .ok (.getfield 33, 3) := by decide +kernel
theorem dX7_wayAt_12 : decode cX7_wayAt 12 = .ok (.invokevirtual 123, 3) := by decide +kernel
theorem dX7_wayAt_15 : decode cX7_wayAt 15 = .ok (.aload_n 0, 1) := by decide +kernel
theorem dX7_wayAt_16 : decode cX7_wayAt 16 = .ok (.getfield 57, 3) := by decide +kernel
theorem dX7_wayAt_19 : decode cX7_wayAt 19 = .ok (.iload_n 1, 1) := by decide +kernel
theorem dX7_wayAt_20 : decode cX7_wayAt 20 = .ok (.invokevirtual 182, 3) := by decide +kernel
theorem dX7_wayAt_23 : decode cX7_wayAt 23 = .ok (.ireturn, 1) := by decide +kernel
theorem dX7_addCrossing_0 : decode cX7_addCrossing 0 = .ok (.aload_n 0, 1) := by decide +kernel
theorem dX7_addCrossing_1 : decode cX7_addCrossing 1 = .ok (.getfield 37, 3) := by decide +kernel
theorem dX7_addCrossing_4 : decode cX7_addCrossing 4 = .ok (.aload_n 0, 1) := by decide +kernel
theorem dX7_addCrossing_5 : decode cX7_addCrossing 5 = .ok (.getfield 33, 3) := by decide +kernel
theorem dX7_addCrossing_8 : decode cX7_addCrossing 8 = .ok (.invokevirtual 93, 3) := by decide +kernel
theorem dX7_addCrossing_11 : decode cX7_addCrossing 11 = .ok (.aload_n 0, 1) := by decide +kernel
theorem dX7_addCrossing_12 : decode cX7_addCrossing 12 = .ok (.getfield 37, 3) := by decide +kernel
theorem dX7_addCrossing_15 : decode cX7_addCrossing 15 = .ok (.invokevirtual 185, 3) := by decide +kernel
theorem dX7_addCrossing_18 : decode cX7_addCrossing 18 = .ok (.invokestatic 188, 3) := by decide +kernel
theorem dX7_addCrossing_21 : decode cX7_addCrossing 21 = .ok (.aload_n 0, 1) := by decide +kernel
theorem dX7_addCrossing_22 : decode cX7_addCrossing 22 = .ok (.invokevirtual 191, 3) := by decide +kernel
theorem dX7_addCrossing_25 : decode cX7_addCrossing 25 = .ok (.aload_n 0, 1) := by decide +kernel
theorem dX7_addCrossing_26 : decode cX7_addCrossing 26 = .ok (.getfield 33, 3) := by decide +kernel
theorem dX7_addCrossing_29 : decode cX7_addCrossing 29 = .ok (.getfield 106, 3) := by decide +kernel
theorem dX7_addCrossing_32 : decode cX7_addCrossing 32 = .ok (.iconst 1, 1) := by decide +kernel
theorem dX7_addCrossing_33 : decode cX7_addCrossing 33 = .ok (.isub, 1) := by decide +kernel
theorem dX7_addCrossing_34 : decode cX7_addCrossing 34 = .ok (.ireturn, 1) := by decide +kernel
theorem dX7_addStreet_0 : decode cX7_addStreet 0 = .ok (.aload_n 0, 1) := by decide +kernel
theorem dX7_addStreet_1 : decode cX7_addStreet 1 = .ok (.getfield 37, 3) := by decide +kernel
theorem dX7_addStreet_4 : decode cX7_addStreet 4 = .ok (.aload_n 0, 1) := by decide +kernel
theorem dX7_addStreet_5 : decode cX7_addStreet 5 = .ok (.getfield 33, 3) := by decide +kernel
theorem dX7_addStreet_8 : decode cX7_addStreet 8 = .ok (.invokevirtual 93, 3) := by decide +kernel
theorem dX7_addStreet_11 : decode cX7_addStreet 11 = .ok (.aload_n 0, 1) := by decide +kernel
theorem dX7_addStreet_12 : decode cX7_addStreet 12 = .ok (.getfield 37, 3) := by decide +kernel
theorem dX7_addStreet_15 : decode cX7_addStreet 15 = .ok (.iload_n 1, 1) := by decide +kernel
theorem dX7_addStreet_16 : decode cX7_addStreet 16 = .ok (.iload_n 2, 1) := by decide +kernel
theorem dX7_addStreet_17 : decode cX7_addStreet 17 = .ok (.iload_n 3, 1) := by decide +kernel
theorem dX7_addStreet_18 : decode cX7_addStreet 18 = .ok (.invokevirtual 194, 3) := by decide +kernel
theorem dX7_addStreet_21 : decode cX7_addStreet 21 = .ok (.invokestatic 188, 3) := by decide +kernel
theorem dX7_addStreet_24 : decode cX7_addStreet 24 = .ok (.aload_n 0, 1) := by decide +kernel
theorem dX7_addStreet_25 : decode cX7_addStreet 25 = .ok (.invokevirtual 191, 3) := by decide +kernel
theorem dX7_addStreet_28 : decode cX7_addStreet 28 = .ok (.aload_n 0, 1) := by decide +kernel
theorem dX7_addStreet_29 : decode cX7_addStreet 29 = .ok (.getfield 33, 3) := by decide +kernel
theorem dX7_addStreet_32 : decode cX7_addStreet 32 = .ok (.getfield 103, 3) := by decide +kernel
theorem dX7_addStreet_35 : decode cX7_addStreet 35 = .ok (.iconst 1, 1) := by decide +kernel
theorem dX7_addStreet_36 : decode cX7_addStreet 36 = .ok (.isub, 1) := by decide +kernel
theorem dX7_addStreet_37 : decode cX7_addStreet 37 = .ok (.ireturn, 1) := by decide +kernel
theorem dX7_removeStreet_0 : decode cX7_removeStreet 0 = .ok (.aload_n 0, 1) := by decide +kernel
theorem dX7_removeStreet_1 : decode cX7_removeStreet 1 = .ok (.getfield 37, 3) := by decide +kernel
theorem dX7_removeStreet_4 : decode cX7_removeStreet 4 = .ok (.aload_n 0, 1) := by decide +kernel
theorem dX7_removeStreet_5 : decode cX7_removeStreet 5 = .ok (.getfield 33, 3) := by decide +kernel
theorem dX7_removeStreet_8 : decode cX7_removeStreet 8 = .ok (.invokevirtual 93, 3) := by decide +kernel
theorem dX7_removeStreet_11 : decode cX7_removeStreet 11 = .ok (.aload_n 0, 1) := by decide +kernel
theorem dX7_removeStreet_12 : decode cX7_removeStreet 12 = .ok (.getfield 37, 3) := by decide +kernel
theorem dX7_removeStreet_15 : decode cX7_removeStreet 15 = .ok (.iload_n 1, 1) := by decide +kernel
theorem dX7_removeStreet_16 : decode cX7_removeStreet 16 = .ok (.invokevirtual 198, 3) := by decide +kernel
theorem dX7_removeStreet_19 : decode cX7_removeStreet 19 = .ok (.invokestatic 188, 3) := by decide +kernel
theorem dX7_removeStreet_22 : decode cX7_removeStreet 22 = .ok (.aload_n 0, 1) := by decide +kernel
theorem dX7_removeStreet_23 : decode cX7_removeStreet 23 = .ok (.invokevirtual 191, 3) := by decide +kernel
theorem dX7_removeStreet_26 : decode cX7_removeStreet 26 = .ok (.aload_n 0, 1) := by decide +kernel
theorem dX7_removeStreet_27 : decode cX7_removeStreet 27 = .ok (.aload_n 0, 1) := by decide +kernel
theorem dX7_removeStreet_28 : decode cX7_removeStreet 28 = .ok (.getfield 33, 3) := by decide +kernel
theorem dX7_removeStreet_31 : decode cX7_removeStreet 31 = .ok (.invokevirtual 119, 3) := by decide +kernel
theorem dX7_removeStreet_34 : decode cX7_removeStreet 34 = .ok (.ireturn, 1) := by decide +kernel
theorem dX7_setLength_0 : decode cX7_setLength 0 = .ok (.aload_n 0, 1) := by decide +kernel
theorem dX7_setLength_1 : decode cX7_setLength 1 = .ok (.getfield 37, 3) := by decide +kernel
theorem dX7_setLength_4 : decode cX7_setLength 4 = .ok (.aload_n 0, 1) := by decide +kernel
theorem dX7_setLength_5 : decode cX7_setLength 5 = .ok (.getfield 33, 3) := by decide +kernel
theorem dX7_setLength_8 : decode cX7_setLength 8 = .ok (.invokevirtual 93, 3) := by decide +kernel
theorem dX7_setLength_11 : decode cX7_setLength 11 = .ok (.aload_n 0, 1) := by decide +kernel
theorem dX7_setLength_12 : decode cX7_setLength 12 = .ok (.getfield 37, 3) := by decide +kernel
theorem dX7_setLength_15 : decode cX7_setLength 15 = .ok (.iload_n 1, 1) := by decide +kernel
theorem dX7_setLength_16 : decode cX7_setLength 16 = .ok (.iload_n 2, 1) := by decide +kernel
theorem dX7_setLength_17 : decode cX7_setLength 17 = .ok (.invokevirtual 201, 3) := by decide +kernel
theorem dX7_setLength_20 : decode cX7_setLength 20 = .ok (.invokestatic 188, 3) := by decide +kernel
theorem dX7_setLength_23 : decode cX7_setLength 23 = .ok (.aload_n 0, 1) := by decide +kernel
theorem dX7_setLength_24 : decode cX7_setLength 24 = .ok (.getfield 33, 3) := by decide +kernel
theorem dX7_setLength_27 : decode cX7_setLength 27 = .ok (.iload_n 1, 1) := by decide +kernel
theorem dX7_setLength_28 : decode cX7_setLength 28 = .ok (.invokevirtual 204, 3) := by decide +kernel
theorem dX7_setLength_31 : decode cX7_setLength 31 = .ok (.istore_n 3, 1) := by decide +kernel
theorem dX7_setLength_32 : decode cX7_setLength 32 = .ok (.aload_n 0, 1) := by decide +kernel
theorem dX7_setLength_33 : decode cX7_setLength 33 = .ok (.invokevirtual 191, 3) := by decide +kernel
theorem dX7_setLength_36 : decode cX7_setLength 36 = .ok (.iload_n 3, 1) := by decide +kernel
theorem dX7_setLength_37 : decode cX7_setLength 37 = .ok (.ireturn, 1) := by decide +kernel
theorem dX7_close_0 : decode cX7_close 0 = .ok (.aload_n 0, 1) := by decide +kernel
theorem dX7_close_1 : decode cX7_close 1 = .ok (.getfield 37, 3) := by decide +kernel
theorem dX7_close_4 : decode cX7_close 4 = .ok (.aload_n 0, 1) := by decide +kernel
theorem dX7_close_5 : decode cX7_close 5 = .ok (.getfield 33, 3) := by decide +kernel
theorem dX7_close_8 : decode cX7_close 8 = .ok (.invokevirtual 93, 3) := by decide +kernel
theorem dX7_close_11 : decode cX7_close 11 = .ok (.aload_n 0, 1) := by decide +kernel
theorem dX7_close_12 : decode cX7_close 12 = .ok (.getfield 37, 3) := by decide +kernel
theorem dX7_close_15 : decode cX7_close 15 = .ok (.iload_n 1, 1) := by decide +kernel
theorem dX7_close_16 : decode cX7_close 16 = .ok (.iload_n 2, 1) := by decide +kernel
theorem dX7_close_17 : decode cX7_close 17 = .ok (.invokevirtual 207, 3) := by decide +kernel
theorem dX7_close_20 : decode cX7_close 20 = .ok (.invokestatic 188, 3) := by decide +kernel
theorem dX7_close_23 : decode cX7_close 23 = .ok (.aload_n 0, 1) := by decide +kernel
theorem dX7_close_24 : decode cX7_close 24 = .ok (.invokevirtual 191, 3) := by decide +kernel
theorem dX7_close_27 : decode cX7_close 27 = .ok (.aload_n 0, 1) := by decide +kernel
theorem dX7_close_28 : decode cX7_close 28 = .ok (.aload_n 0, 1) := by decide +kernel
theorem dX7_close_29 : decode cX7_close 29 = .ok (.getfield 33, 3) := by decide +kernel
theorem dX7_close_32 : decode cX7_close 32 = .ok (.invokevirtual 119, 3) := by decide +kernel
theorem dX7_close_35 : decode cX7_close 35 = .ok (.ireturn, 1) := by decide +kernel
theorem dX7_setEnds_0 : decode cX7_setEnds 0 = .ok (.aload_n 0, 1) := by decide +kernel
theorem dX7_setEnds_1 : decode cX7_setEnds 1 = .ok (.getfield 37, 3) := by decide +kernel
theorem dX7_setEnds_4 : decode cX7_setEnds 4 = .ok (.aload_n 0, 1) := by decide +kernel
theorem dX7_setEnds_5 : decode cX7_setEnds 5 = .ok (.getfield 33, 3) := by decide +kernel
theorem dX7_setEnds_8 : decode cX7_setEnds 8 = .ok (.invokevirtual 93, 3) := by decide +kernel
theorem dX7_setEnds_11 : decode cX7_setEnds 11 = .ok (.aload_n 0, 1) := by decide +kernel
theorem dX7_setEnds_12 : decode cX7_setEnds 12 = .ok (.getfield 37, 3) := by decide +kernel
theorem dX7_setEnds_15 : decode cX7_setEnds 15 = .ok (.iload_n 1, 1) := by decide +kernel
theorem dX7_setEnds_16 : decode cX7_setEnds 16 = .ok (.iload_n 2, 1) := by decide +kernel
theorem dX7_setEnds_17 : decode cX7_setEnds 17 = .ok (.invokevirtual 211, 3) := by decide +kernel
theorem dX7_setEnds_20 : decode cX7_setEnds 20 = .ok (.invokestatic 188, 3) := by decide +kernel
theorem dX7_setEnds_23 : decode cX7_setEnds 23 = .ok (.aload_n 0, 1) := by decide +kernel
theorem dX7_setEnds_24 : decode cX7_setEnds 24 = .ok (.invokevirtual 191, 3) := by decide +kernel
theorem dX7_setEnds_27 : decode cX7_setEnds 27 = .ok (.aload_n 0, 1) := by decide +kernel
theorem dX7_setEnds_28 : decode cX7_setEnds 28 = .ok (.aload_n 0, 1) := by decide +kernel
theorem dX7_setEnds_29 : decode cX7_setEnds 29 = .ok (.getfield 33, 3) := by decide +kernel
theorem dX7_setEnds_32 : decode cX7_setEnds 32 = .ok (.invokevirtual 119, 3) := by decide +kernel
theorem dX7_setEnds_35 : decode cX7_setEnds 35 = .ok (.ireturn, 1) := by decide +kernel
theorem dX7_runPlan_0 : decode cX7_runPlan 0 = .ok (.aload_n 0, 1) := by decide +kernel
theorem dX7_runPlan_1 : decode cX7_runPlan 1 = .ok (.getfield 26, 3) := by decide +kernel
theorem dX7_runPlan_4 : decode cX7_runPlan 4 = .ok (.aload_n 0, 1) := by decide +kernel
theorem dX7_runPlan_5 : decode cX7_runPlan 5 = .ok (.getfield 10, 3) := by decide +kernel
theorem dX7_runPlan_8 : decode cX7_runPlan 8 = .ok (.invokevirtual 84, 3) := by decide +kernel
theorem dX7_runPlan_11 : decode cX7_runPlan 11 = .ok (.sipush (-999), 3) := by decide +kernel
theorem dX7_runPlan_14 : decode cX7_runPlan 14 = .ok (.if_icmp .eq 13, 3) := by decide +kernel
theorem dX7_runPlan_17 : decode cX7_runPlan 17 = .ok (.new 75, 3) := by decide +kernel
theorem dX7_runPlan_20 : decode cX7_runPlan 20 = .ok (.dup, 1) := by decide +kernel
theorem dX7_runPlan_21 : decode cX7_runPlan 21 = .ok (.ldc 214, 2) := by decide +kernel
theorem dX7_runPlan_23 : decode cX7_runPlan 23 = .ok (.invokespecial 79, 3) := by decide +kernel
theorem dX7_runPlan_26 : decode cX7_runPlan 26 = .ok (.athrow, 1) := by decide +kernel
theorem dX7_runPlan_27 : decode cX7_runPlan 27 = .ok (.aload_n 0, 1) := by decide +kernel
theorem dX7_runPlan_28 : decode cX7_runPlan 28 = .ok (.getfield 37, 3) := by decide +kernel
theorem dX7_runPlan_31 : decode cX7_runPlan 31 = .ok (.aload_n 0, 1) := by decide +kernel
theorem dX7_runPlan_32 : decode cX7_runPlan 32 = .ok (.getfield 33, 3) := by decide +kernel
theorem dX7_runPlan_35 : decode cX7_runPlan 35 = .ok (.invokevirtual 93, 3) := by decide +kernel
theorem dX7_runPlan_38 : decode cX7_runPlan 38 = .ok (.iconst 0, 1) := by decide +kernel
theorem dX7_runPlan_39 : decode cX7_runPlan 39 = .ok (.istore_n 1, 1) := by decide +kernel
theorem dX7_runPlan_40 : decode cX7_runPlan 40 = .ok (.iload_n 1, 1) := by decide +kernel
theorem dX7_runPlan_41 : decode cX7_runPlan 41 = .ok (.aload_n 0, 1) := by decide +kernel
theorem dX7_runPlan_42 : decode cX7_runPlan 42 = .ok (.getfield 26, 3) := by decide +kernel
theorem dX7_runPlan_45 : decode cX7_runPlan 45 = .ok (.getfield 216, 3) := by decide +kernel
theorem dX7_runPlan_48 : decode cX7_runPlan 48 = .ok (.if_icmp .ge 17, 3) := by decide +kernel
theorem dX7_runPlan_51 : decode cX7_runPlan 51 = .ok (.aload_n 0, 1) := by decide +kernel
theorem dX7_runPlan_52 : decode cX7_runPlan 52 = .ok (.iload_n 1, 1) := by decide +kernel
theorem dX7_runPlan_53 : decode cX7_runPlan 53 = .ok (.invokevirtual 219, 3) := by decide +kernel
theorem dX7_runPlan_56 : decode cX7_runPlan 56 = .ok (.ifCond .ne 9, 3) := by decide +kernel
theorem dX7_runPlan_59 : decode cX7_runPlan 59 = .ok (.iinc 1 1, 3) := by decide +kernel
theorem dX7_runPlan_62 : decode cX7_runPlan 62 = .ok (.goto (-22), 3) := by decide +kernel
theorem dX7_runPlan_65 : decode cX7_runPlan 65 = .ok (.aload_n 0, 1) := by decide +kernel
theorem dX7_runPlan_66 : decode cX7_runPlan 66 = .ok (.invokevirtual 191, 3) := by decide +kernel
theorem dX7_runPlan_69 : decode cX7_runPlan 69 = .ok (.iload_n 1, 1) := by decide +kernel
theorem dX7_runPlan_70 : decode cX7_runPlan 70 = .ok (.ireturn, 1) := by decide +kernel
theorem dX7_undo_0 : decode cX7_undo 0 = .ok (.aload_n 0, 1) := by decide +kernel
theorem dX7_undo_1 : decode cX7_undo 1 = .ok (.getfield 43, 3) := by decide +kernel
theorem dX7_undo_4 : decode cX7_undo 4 = .ok (.getfield 222, 3) := by decide +kernel
theorem dX7_undo_7 : decode cX7_undo 7 = .ok (.ifCond .ne 13, 3) := by decide +kernel
theorem dX7_undo_10 : decode cX7_undo 10 = .ok (.new 75, 3) := by decide +kernel
theorem dX7_undo_13 : decode cX7_undo 13 = .ok (.dup, 1) := by decide +kernel
theorem dX7_undo_14 : decode cX7_undo 14 = .ok (.ldc 225, 2) := by decide +kernel
theorem dX7_undo_16 : decode cX7_undo 16 = .ok (.invokespecial 79, 3) := by decide +kernel
theorem dX7_undo_19 : decode cX7_undo 19 = .ok (.athrow, 1) := by decide +kernel
theorem dX7_undo_20 : decode cX7_undo 20 = .ok (.aload_n 0, 1) := by decide +kernel
theorem dX7_undo_21 : decode cX7_undo 21 = .ok (.getfield 43, 3) := by decide +kernel
theorem dX7_undo_24 : decode cX7_undo 24 = .ok (.aload_n 0, 1) := by decide +kernel
theorem dX7_undo_25 : decode cX7_undo 25 = .ok (.getfield 33, 3) := by decide +kernel
theorem dX7_undo_28 : decode cX7_undo 28 = .ok (.invokevirtual 227, 3) := by decide +kernel
theorem dX7_undo_31 : decode cX7_undo 31 = .ok (.aload_n 0, 1) := by decide +kernel
theorem dX7_undo_32 : decode cX7_undo 32 = .ok (.getfield 43, 3) := by decide +kernel
theorem dX7_undo_35 : decode cX7_undo 35 = .ok (.getfield 222, 3) := by decide +kernel
theorem dX7_undo_38 : decode cX7_undo 38 = .ok (.ireturn, 1) := by decide +kernel
theorem dX7_without_0 : decode cX7_without 0 = .ok (.aload_n 0, 1) := by decide +kernel
theorem dX7_without_1 : decode cX7_without 1 = .ok (.iload_n 1, 1) := by decide +kernel
theorem dX7_without_2 : decode cX7_without 2 = .ok (.invokevirtual 133, 3) := by decide +kernel
theorem dX7_without_5 : decode cX7_without 5 = .ok (.aload_n 0, 1) := by decide +kernel
theorem dX7_without_6 : decode cX7_without 6 = .ok (.iload_n 1, 1) := by decide +kernel
theorem dX7_without_7 : decode cX7_without 7 = .ok (.invokevirtual 230, 3) := by decide +kernel
theorem dX7_without_10 : decode cX7_without 10 = .ok (.ireturn, 1) := by decide +kernel
theorem dX7_withoutAt_0 : decode cX7_withoutAt 0 = .ok (.aload_n 0, 1) := by decide +kernel
theorem dX7_withoutAt_1 : decode cX7_withoutAt 1 = .ok (.iload_n 1, 1) := by decide +kernel
theorem dX7_withoutAt_2 : decode cX7_withoutAt 2 = .ok (.invokevirtual 133, 3) := by decide +kernel
theorem dX7_withoutAt_5 : decode cX7_withoutAt 5 = .ok (.iload_n 2, 1) := by decide +kernel
theorem dX7_withoutAt_6 : decode cX7_withoutAt 6 = .ok (.invokestatic 179, 3) := by decide +kernel
theorem dX7_withoutAt_9 : decode cX7_withoutAt 9 = .ok (.aload_n 0, 1) := by decide +kernel
theorem dX7_withoutAt_10 : decode cX7_withoutAt 10 = .ok (.getfield 37, 3) := by decide +kernel
theorem dX7_withoutAt_13 : decode cX7_withoutAt 13 = .ok (.aload_n 0, 1) := by decide +kernel
theorem dX7_withoutAt_14 : decode cX7_withoutAt 14 = .ok (.getfield 33, 3) := by decide +kernel
theorem dX7_withoutAt_17 : decode cX7_withoutAt 17 = .ok (.invokevirtual 93, 3) := by decide +kernel
theorem dX7_withoutAt_20 : decode cX7_withoutAt 20 = .ok (.aload_n 0, 1) := by decide +kernel
theorem dX7_withoutAt_21 : decode cX7_withoutAt 21 = .ok (.getfield 37, 3) := by decide +kernel
theorem dX7_withoutAt_24 : decode cX7_withoutAt 24 = .ok (.iload_n 1, 1) := by decide +kernel
theorem dX7_withoutAt_25 : decode cX7_withoutAt 25 = .ok (.iconst 1, 1) := by decide +kernel
theorem dX7_withoutAt_26 : decode cX7_withoutAt 26 = .ok (.invokevirtual 207, 3) := by decide +kernel
theorem dX7_withoutAt_29 : decode cX7_withoutAt 29 = .ok (.pop, 1) := by decide +kernel
theorem dX7_withoutAt_30 : decode cX7_withoutAt 30 = .ok (.aload_n 0, 1) := by decide +kernel
theorem dX7_withoutAt_31 : decode cX7_withoutAt 31 = .ok (.getfield 61, 3) := by decide +kernel
theorem dX7_withoutAt_34 : decode cX7_withoutAt 34 = .ok (.aload_n 0, 1) := by decide +kernel
theorem dX7_withoutAt_35 : decode cX7_withoutAt 35 = .ok (.getfield 37, 3) := by decide +kernel
theorem dX7_withoutAt_38 : decode cX7_withoutAt 38 = .ok (.invokevirtual 123, 3) := by decide +kernel
theorem dX7_withoutAt_41 : decode cX7_withoutAt 41 = .ok (.aload_n 0, 1) := by decide +kernel
theorem dX7_withoutAt_42 : decode cX7_withoutAt 42 = .ok (.getfield 61, 3) := by decide +kernel
theorem dX7_withoutAt_45 : decode cX7_withoutAt 45 = .ok (.iload_n 2, 1) := by decide +kernel
theorem dX7_withoutAt_46 : decode cX7_withoutAt 46 = .ok (.invokevirtual 182, 3) := by decide +kernel
theorem dX7_withoutAt_49 : decode cX7_withoutAt 49 = .ok (.ireturn, 1) := by decide +kernel
theorem dX7_dearest_0 : decode cX7_dearest 0 = .ok (.aload_n 0, 1) := by decide +kernel
theorem dX7_dearest_1 : decode cX7_dearest 1 = .ok (.getfield 57, 3) := by decide +kernel
theorem dX7_dearest_4 : decode cX7_dearest 4 = .ok (.aload_n 0, 1) := by decide +kernel
theorem dX7_dearest_5 : decode cX7_dearest 5 = .ok (.getfield 33, 3) := by decide +kernel
theorem dX7_dearest_8 : decode cX7_dearest 8 = .ok (.invokevirtual 123, 3) := by decide +kernel
theorem dX7_dearest_11 : decode cX7_dearest 11 = .ok (.sipush (-999), 3) := by decide +kernel
theorem dX7_dearest_14 : decode cX7_dearest 14 = .ok (.istore_n 1, 1) := by decide +kernel
theorem dX7_dearest_15 : decode cX7_dearest 15 = .ok (.iconst 0, 1) := by decide +kernel
theorem dX7_dearest_16 : decode cX7_dearest 16 = .ok (.istore_n 2, 1) := by decide +kernel
theorem dX7_dearest_17 : decode cX7_dearest 17 = .ok (.iconst 0, 1) := by decide +kernel
theorem dX7_dearest_18 : decode cX7_dearest 18 = .ok (.istore_n 3, 1) := by decide +kernel
theorem dX7_dearest_19 : decode cX7_dearest 19 = .ok (.iload_n 3, 1) := by decide +kernel
theorem dX7_dearest_20 : decode cX7_dearest 20 = .ok (.aload_n 0, 1) := by decide +kernel
theorem dX7_dearest_21 : decode cX7_dearest 21 = .ok (.getfield 33, 3) := by decide +kernel
theorem dX7_dearest_24 : decode cX7_dearest 24 = .ok (.getfield 103, 3) := by decide +kernel
theorem dX7_dearest_27 : decode cX7_dearest 27 = .ok (.if_icmp .ge 59, 3) := by decide +kernel
theorem dX7_dearest_30 : decode cX7_dearest 30 = .ok (.aload_n 0, 1) := by decide +kernel
theorem dX7_dearest_31 : decode cX7_dearest 31 = .ok (.getfield 57, 3) := by decide +kernel
theorem dX7_dearest_34 : decode cX7_dearest 34 = .ok (.aload_n 0, 1) := by decide +kernel
theorem dX7_dearest_35 : decode cX7_dearest 35 = .ok (.getfield 33, 3) := by decide +kernel
theorem dX7_dearest_38 : decode cX7_dearest 38 = .ok (.iload_n 3, 1) := by decide +kernel
theorem dX7_dearest_39 : decode cX7_dearest 39 = .ok (.invokevirtual 150, 3) := by decide +kernel
theorem dX7_dearest_42 : decode cX7_dearest 42 = .ok (.ifCond .eq 38, 3) := by decide +kernel
theorem dX7_dearest_45 : decode cX7_dearest 45 = .ok (.aload_n 0, 1) := by decide +kernel
theorem dX7_dearest_46 : decode cX7_dearest 46 = .ok (.iload_n 3, 1) := by decide +kernel
theorem dX7_dearest_47 : decode cX7_dearest 47 = .ok (.invokevirtual 230, 3) := by decide +kernel
theorem dX7_dearest_50 : decode cX7_dearest 50 = .ok (.istore 4, 2) := by decide +kernel
theorem dX7_dearest_52 : decode cX7_dearest 52 = .ok (.iload 4, 2) := by decide +kernel
theorem dX7_dearest_54 : decode cX7_dearest 54 = .ok (.sipush (-999), 3) := by decide +kernel
theorem dX7_dearest_57 : decode cX7_dearest 57 = .ok (.if_icmp .ne 5, 3) := by decide +kernel
theorem dX7_dearest_60 : decode cX7_dearest 60 = .ok (.iload_n 3, 1) := by decide +kernel
theorem dX7_dearest_61 : decode cX7_dearest 61 = .ok (.ireturn, 1) := by decide +kernel
theorem dX7_dearest_62 : decode cX7_dearest 62 = .ok (.iload_n 1, 1) := by decide +kernel
theorem dX7_dearest_63 : decode cX7_dearest 63 = .ok (.sipush (-999), 3) := by decide +kernel
theorem dX7_dearest_66 : decode cX7_dearest 66 = .ok (.if_icmp .eq 9, 3) := by decide +kernel
theorem dX7_dearest_69 : decode cX7_dearest 69 = .ok (.iload 4, 2) := by decide +kernel
theorem dX7_dearest_71 : decode cX7_dearest 71 = .ok (.iload_n 2, 1) := by decide +kernel
theorem dX7_dearest_72 : decode cX7_dearest 72 = .ok (.if_icmp .le 8, 3) := by decide +kernel
theorem dX7_dearest_75 : decode cX7_dearest 75 = .ok (.iload_n 3, 1) := by decide +kernel
theorem dX7_dearest_76 : decode cX7_dearest 76 = .ok (.istore_n 1, 1) := by decide +kernel
theorem dX7_dearest_77 : decode cX7_dearest 77 = .ok (.iload 4, 2) := by decide +kernel
theorem dX7_dearest_79 : decode cX7_dearest 79 = .ok (.istore_n 2, 1) := by decide +kernel
theorem dX7_dearest_80 : decode cX7_dearest 80 = .ok (.iinc 3 1, 3) := by decide +kernel
theorem dX7_dearest_83 : decode cX7_dearest 83 = .ok (.goto (-64), 3) := by decide +kernel
theorem dX7_dearest_86 : decode cX7_dearest 86 = .ok (.iload_n 1, 1) := by decide +kernel
theorem dX7_dearest_87 : decode cX7_dearest 87 = .ok (.ireturn, 1) := by decide +kernel
theorem dX7_upTo_0 : decode cX7_upTo 0 = .ok (.aload_n 0, 1) := by decide +kernel
theorem dX7_upTo_1 : decode cX7_upTo 1 = .ok (.iload_n 1, 1) := by decide +kernel
theorem dX7_upTo_2 : decode cX7_upTo 2 = .ok (.invokevirtual 133, 3) := by decide +kernel
theorem dX7_upTo_5 : decode cX7_upTo 5 = .ok (.aload_n 0, 1) := by decide +kernel
theorem dX7_upTo_6 : decode cX7_upTo 6 = .ok (.getfield 33, 3) := by decide +kernel
theorem dX7_upTo_9 : decode cX7_upTo 9 = .ok (.getfield 146, 3) := by decide +kernel
theorem dX7_upTo_12 : decode cX7_upTo 12 = .ok (.iload_n 1, 1) := by decide +kernel
theorem dX7_upTo_13 : decode cX7_upTo 13 = .ok (.baload, 1) := by decide +kernel
theorem dX7_upTo_14 : decode cX7_upTo 14 = .ok (.ifCond .eq 7, 3) := by decide +kernel
theorem dX7_upTo_17 : decode cX7_upTo 17 = .ok (.sipush (-999), 3) := by decide +kernel
theorem dX7_upTo_20 : decode cX7_upTo 20 = .ok (.ireturn, 1) := by decide +kernel
theorem dX7_upTo_21 : decode cX7_upTo 21 = .ok (.aload_n 0, 1) := by decide +kernel
theorem dX7_upTo_22 : decode cX7_upTo 22 = .ok (.getfield 37, 3) := by decide +kernel
theorem dX7_upTo_25 : decode cX7_upTo 25 = .ok (.aload_n 0, 1) := by decide +kernel
theorem dX7_upTo_26 : decode cX7_upTo 26 = .ok (.getfield 33, 3) := by decide +kernel
theorem dX7_upTo_29 : decode cX7_upTo 29 = .ok (.invokevirtual 93, 3) := by decide +kernel
theorem dX7_upTo_32 : decode cX7_upTo 32 = .ok (.iconst 0, 1) := by decide +kernel
theorem dX7_upTo_33 : decode cX7_upTo 33 = .ok (.istore_n 2, 1) := by decide +kernel
theorem dX7_upTo_34 : decode cX7_upTo 34 = .ok (.bipush 64, 2) := by decide +kernel
theorem dX7_upTo_36 : decode cX7_upTo 36 = .ok (.istore_n 3, 1) := by decide +kernel
theorem dX7_upTo_37 : decode cX7_upTo 37 = .ok (.iload_n 3, 1) := by decide +kernel
theorem dX7_upTo_38 : decode cX7_upTo 38 = .ok (.ifCond .le 25, 3) := by decide +kernel
theorem dX7_upTo_41 : decode cX7_upTo 41 = .ok (.aload_n 0, 1) := by decide +kernel
theorem dX7_upTo_42 : decode cX7_upTo 42 = .ok (.iload_n 1, 1) := by decide +kernel
theorem dX7_upTo_43 : decode cX7_upTo 43 = .ok (.iload_n 2, 1) := by decide +kernel
theorem dX7_upTo_44 : decode cX7_upTo 44 = .ok (.iload_n 3, 1) := by decide +kernel
theorem dX7_upTo_45 : decode cX7_upTo 45 = .ok (.iadd, 1) := by decide +kernel
theorem dX7_upTo_46 : decode cX7_upTo 46 = .ok (.invokevirtual 233, 3) := by decide +kernel
theorem dX7_upTo_49 : decode cX7_upTo 49 = .ok (.ifCond .eq 7, 3) := by decide +kernel
theorem dX7_upTo_52 : decode cX7_upTo 52 = .ok (.iload_n 2, 1) := by decide +kernel
theorem dX7_upTo_53 : decode cX7_upTo 53 = .ok (.iload_n 3, 1) := by decide +kernel
theorem dX7_upTo_54 : decode cX7_upTo 54 = .ok (.iadd, 1) := by decide +kernel
theorem dX7_upTo_55 : decode cX7_upTo 55 = .ok (.istore_n 2, 1) := by decide +kernel
theorem dX7_upTo_56 : decode cX7_upTo 56 = .ok (.iload_n 3, 1) := by decide +kernel
theorem dX7_upTo_57 : decode cX7_upTo 57 = .ok (.iconst 2, 1) := by decide +kernel
theorem dX7_upTo_58 : decode cX7_upTo 58 = .ok (.idiv, 1) := by decide +kernel
theorem dX7_upTo_59 : decode cX7_upTo 59 = .ok (.istore_n 3, 1) := by decide +kernel
theorem dX7_upTo_60 : decode cX7_upTo 60 = .ok (.goto (-23), 3) := by decide +kernel
theorem dX7_upTo_63 : decode cX7_upTo 63 = .ok (.iload_n 2, 1) := by decide +kernel
theorem dX7_upTo_64 : decode cX7_upTo 64 = .ok (.ifCond .ne 9, 3) := by decide +kernel
theorem dX7_upTo_67 : decode cX7_upTo 67 = .ok (.sipush (-999), 3) := by decide +kernel
theorem dX7_upTo_70 : decode cX7_upTo 70 = .ok (.goto 4, 3) := by decide +kernel
theorem dX7_upTo_73 : decode cX7_upTo 73 = .ok (.iload_n 2, 1) := by decide +kernel
theorem dX7_upTo_74 : decode cX7_upTo 74 = .ok (.ireturn, 1) := by decide +kernel
theorem dX7_saves_0 : decode cX7_saves 0 = .ok (.aload_n 0, 1) := by decide +kernel
theorem dX7_saves_1 : decode cX7_saves 1 = .ok (.getfield 33, 3) := by decide +kernel
theorem dX7_saves_4 : decode cX7_saves 4 = .ok (.iload_n 1, 1) := by decide +kernel
theorem dX7_saves_5 : decode cX7_saves 5 = .ok (.iload_n 2, 1) := by decide +kernel
theorem dX7_saves_6 : decode cX7_saves 6 = .ok (.invokevirtual 237, 3) := by decide +kernel
theorem dX7_saves_9 : decode cX7_saves 9 = .ok (.invokestatic 188, 3) := by decide +kernel
theorem dX7_saves_12 : decode cX7_saves 12 = .ok (.iload_n 3, 1) := by decide +kernel
theorem dX7_saves_13 : decode cX7_saves 13 = .ok (.invokestatic 240, 3) := by decide +kernel
theorem dX7_saves_16 : decode cX7_saves 16 = .ok (.invokestatic 188, 3) := by decide +kernel
theorem dX7_saves_19 : decode cX7_saves 19 = .ok (.aload_n 0, 1) := by decide +kernel
theorem dX7_saves_20 : decode cX7_saves 20 = .ok (.aload_n 0, 1) := by decide +kernel
theorem dX7_saves_21 : decode cX7_saves 21 = .ok (.getfield 33, 3) := by decide +kernel
theorem dX7_saves_24 : decode cX7_saves 24 = .ok (.invokevirtual 119, 3) := by decide +kernel
theorem dX7_saves_27 : decode cX7_saves 27 = .ok (.istore 4, 2) := by decide +kernel
theorem dX7_saves_29 : decode cX7_saves 29 = .ok (.aload_n 0, 1) := by decide +kernel
theorem dX7_saves_30 : decode cX7_saves 30 = .ok (.getfield 37, 3) := by decide +kernel
theorem dX7_saves_33 : decode cX7_saves 33 = .ok (.aload_n 0, 1) := by decide +kernel
theorem dX7_saves_34 : decode cX7_saves 34 = .ok (.getfield 33, 3) := by decide +kernel
theorem dX7_saves_37 : decode cX7_saves 37 = .ok (.invokevirtual 93, 3) := by decide +kernel
theorem dX7_saves_40 : decode cX7_saves 40 = .ok (.aload_n 0, 1) := by decide +kernel
theorem dX7_saves_41 : decode cX7_saves 41 = .ok (.getfield 37, 3) := by decide +kernel
theorem dX7_saves_44 : decode cX7_saves 44 = .ok (.iload_n 1, 1) := by decide +kernel
theorem dX7_saves_45 : decode cX7_saves 45 = .ok (.iload_n 2, 1) := by decide +kernel
theorem dX7_saves_46 : decode cX7_saves 46 = .ok (.iload_n 3, 1) := by decide +kernel
theorem dX7_saves_47 : decode cX7_saves 47 = .ok (.invokevirtual 243, 3) := by decide +kernel
theorem dX7_saves_50 : decode cX7_saves 50 = .ok (.aload_n 0, 1) := by decide +kernel
theorem dX7_saves_51 : decode cX7_saves 51 = .ok (.aload_n 0, 1) := by decide +kernel
theorem dX7_saves_52 : decode cX7_saves 52 = .ok (.getfield 37, 3) := by decide +kernel
theorem dX7_saves_55 : decode cX7_saves 55 = .ok (.invokevirtual 119, 3) := by decide +kernel
theorem dX7_saves_58 : decode cX7_saves 58 = .ok (.istore 5, 2) := by decide +kernel
theorem dX7_saves_60 : decode cX7_saves 60 = .ok (.iload 4, 2) := by decide +kernel
theorem dX7_saves_62 : decode cX7_saves 62 = .ok (.sipush (-999), 3) := by decide +kernel
theorem dX7_saves_65 : decode cX7_saves 65 = .ok (.if_icmp .eq 11, 3) := by decide +kernel
theorem dX7_saves_68 : decode cX7_saves 68 = .ok (.iload 5, 2) := by decide +kernel
theorem dX7_saves_70 : decode cX7_saves 70 = .ok (.sipush (-999), 3) := by decide +kernel
theorem dX7_saves_73 : decode cX7_saves 73 = .ok (.if_icmp .ne 9, 3) := by decide +kernel
theorem dX7_saves_76 : decode cX7_saves 76 = .ok (.sipush (-999), 3) := by decide +kernel
theorem dX7_saves_79 : decode cX7_saves 79 = .ok (.goto 8, 3) := by decide +kernel
theorem dX7_saves_82 : decode cX7_saves 82 = .ok (.iload 4, 2) := by decide +kernel
theorem dX7_saves_84 : decode cX7_saves 84 = .ok (.iload 5, 2) := by decide +kernel
theorem dX7_saves_86 : decode cX7_saves 86 = .ok (.isub, 1) := by decide +kernel
theorem dX7_saves_87 : decode cX7_saves 87 = .ok (.ireturn, 1) := by decide +kernel
theorem dX7_ways_0 : decode cX7_ways 0 = .ok (.iload_n 1, 1) := by decide +kernel
theorem dX7_ways_1 : decode cX7_ways 1 = .ok (.ifCond .lt 10, 3) := by decide +kernel
theorem dX7_ways_4 : decode cX7_ways 4 = .ok (.iload_n 1, 1) := by decide +kernel
theorem dX7_ways_5 : decode cX7_ways 5 = .ok (.sipush 999, 3) := by decide +kernel
theorem dX7_ways_8 : decode cX7_ways 8 = .ok (.if_icmp .le 13, 3) := by decide +kernel
theorem dX7_ways_11 : decode cX7_ways 11 = .ok (.new 64, 3) := by decide +kernel
theorem dX7_ways_14 : decode cX7_ways 14 = .ok (.dup, 1) := by decide +kernel
theorem dX7_ways_15 : decode cX7_ways 15 = .ok (.ldc 247, 2) := by decide +kernel
theorem dX7_ways_17 : decode cX7_ways 17 = .ok (.invokespecial 68, 3) := by decide +kernel
theorem dX7_ways_20 : decode cX7_ways 20 = .ok (.athrow, 1) := by decide +kernel
theorem dX7_ways_21 : decode cX7_ways 21 = .ok (.aload_n 0, 1) := by decide +kernel
theorem dX7_ways_22 : decode cX7_ways 22 = .ok (.getfield 33, 3) := by decide +kernel
theorem dX7_ways_25 : decode cX7_ways 25 = .ok (.aload_n 0, 1) := by decide +kernel
theorem dX7_ways_26 : decode cX7_ways 26 = .ok (.getfield 33, 3) := by decide +kernel
theorem dX7_ways_29 : decode cX7_ways 29 = .ok (.getfield 113, 3) := by decide +kernel
theorem dX7_ways_32 : decode cX7_ways 32 = .ok (.iload_n 1, 1) := by decide +kernel
theorem dX7_ways_33 : decode cX7_ways 33 = .ok (.iconst 1, 1) := by decide +kernel
theorem dX7_ways_34 : decode cX7_ways 34 = .ok (.aload_n 0, 1) := by decide +kernel
theorem dX7_ways_35 : decode cX7_ways 35 = .ok (.getfield 33, 3) := by decide +kernel
theorem dX7_ways_38 : decode cX7_ways 38 = .ok (.getfield 113, 3) := by decide +kernel
theorem dX7_ways_41 : decode cX7_ways 41 = .ok (.ishl, 1) := by decide +kernel
theorem dX7_ways_42 : decode cX7_ways 42 = .ok (.iconst 1, 1) := by decide +kernel
theorem dX7_ways_43 : decode cX7_ways 43 = .ok (.iconst 0, 1) := by decide +kernel
theorem dX7_ways_44 : decode cX7_ways 44 = .ok (.invokestatic 249, 3) := by decide +kernel
theorem dX7_ways_47 : decode cX7_ways 47 = .ok (.ireturn, 1) := by decide +kernel
theorem dX7_middle_0 : decode cX7_middle 0 = .ok (.sipush (-999), 3) := by decide +kernel
theorem dX7_middle_3 : decode cX7_middle 3 = .ok (.istore_n 1, 1) := by decide +kernel
theorem dX7_middle_4 : decode cX7_middle 4 = .ok (.iconst 0, 1) := by decide +kernel
theorem dX7_middle_5 : decode cX7_middle 5 = .ok (.istore_n 2, 1) := by decide +kernel
theorem dX7_middle_6 : decode cX7_middle 6 = .ok (.iconst 0, 1) := by decide +kernel
theorem dX7_middle_7 : decode cX7_middle 7 = .ok (.istore_n 3, 1) := by decide +kernel
theorem dX7_middle_8 : decode cX7_middle 8 = .ok (.iload_n 3, 1) := by decide +kernel
theorem dX7_middle_9 : decode cX7_middle 9 = .ok (.aload_n 0, 1) := by decide +kernel
theorem dX7_middle_10 : decode cX7_middle 10 = .ok (.getfield 33, 3) := by decide +kernel
theorem dX7_middle_13 : decode cX7_middle 13 = .ok (.getfield 106, 3) := by decide +kernel
theorem dX7_middle_16 : decode cX7_middle 16 = .ok (.if_icmp .ge 64, 3) := by decide +kernel
theorem dX7_middle_19 : decode cX7_middle 19 = .ok (.aload_n 0, 1) := by decide +kernel
theorem dX7_middle_20 : decode cX7_middle 20 = .ok (.getfield 57, 3) := by decide +kernel
theorem dX7_middle_23 : decode cX7_middle 23 = .ok (.aload_n 0, 1) := by decide +kernel
theorem dX7_middle_24 : decode cX7_middle 24 = .ok (.getfield 33, 3) := by decide +kernel
theorem dX7_middle_27 : decode cX7_middle 27 = .ok (.iload_n 3, 1) := by decide +kernel
theorem dX7_middle_28 : decode cX7_middle 28 = .ok (.invokevirtual 163, 3) := by decide +kernel
theorem dX7_middle_31 : decode cX7_middle 31 = .ok (.aload_n 0, 1) := by decide +kernel
theorem dX7_middle_32 : decode cX7_middle 32 = .ok (.getfield 57, 3) := by decide +kernel
theorem dX7_middle_35 : decode cX7_middle 35 = .ok (.aload_n 0, 1) := by decide +kernel
theorem dX7_middle_36 : decode cX7_middle 36 = .ok (.getfield 33, 3) := by decide +kernel
theorem dX7_middle_39 : decode cX7_middle 39 = .ok (.invokevirtual 253, 3) := by decide +kernel
theorem dX7_middle_42 : decode cX7_middle 42 = .ok (.istore 4, 2) := by decide +kernel
theorem dX7_middle_44 : decode cX7_middle 44 = .ok (.iload 4, 2) := by decide +kernel
theorem dX7_middle_46 : decode cX7_middle 46 = .ok (.sipush (-999), 3) := by decide +kernel
theorem dX7_middle_49 : decode cX7_middle 49 = .ok (.if_icmp .ne 7, 3) := by decide +kernel
theorem dX7_middle_52 : decode cX7_middle 52 = .ok (.sipush (-999), 3) := by decide +kernel
theorem dX7_middle_55 : decode cX7_middle 55 = .ok (.ireturn, 1) := by decide +kernel
theorem dX7_middle_56 : decode cX7_middle 56 = .ok (.iload_n 1, 1) := by decide +kernel
theorem dX7_middle_57 : decode cX7_middle 57 = .ok (.sipush (-999), 3) := by decide +kernel
theorem dX7_middle_60 : decode cX7_middle 60 = .ok (.if_icmp .eq 9, 3) := by decide +kernel
theorem dX7_middle_63 : decode cX7_middle 63 = .ok (.iload 4, 2) := by decide +kernel
theorem dX7_middle_65 : decode cX7_middle 65 = .ok (.iload_n 2, 1) := by decide +kernel
theorem dX7_middle_66 : decode cX7_middle 66 = .ok (.if_icmp .ge 8, 3) := by decide +kernel
theorem dX7_middle_69 : decode cX7_middle 69 = .ok (.iload_n 3, 1) := by decide +kernel
theorem dX7_middle_70 : decode cX7_middle 70 = .ok (.istore_n 1, 1) := by decide +kernel
theorem dX7_middle_71 : decode cX7_middle 71 = .ok (.iload 4, 2) := by decide +kernel
theorem dX7_middle_73 : decode cX7_middle 73 = .ok (.istore_n 2, 1) := by decide +kernel
theorem dX7_middle_74 : decode cX7_middle 74 = .ok (.iinc 3 1, 3) := by decide +kernel
theorem dX7_middle_77 : decode cX7_middle 77 = .ok (.goto (-69), 3) := by decide +kernel
theorem dX7_middle_80 : decode cX7_middle 80 = .ok (.iload_n 1, 1) := by decide +kernel
theorem dX7_middle_81 : decode cX7_middle 81 = .ok (.ireturn, 1) := by decide +kernel
theorem dX7_runScript_0 : decode cX7_runScript 0 = .ok (.iload_n 1, 1) := by decide +kernel
theorem dX7_runScript_1 : decode cX7_runScript 1 = .ok (.iconst 1, 1) := by decide +kernel
theorem dX7_runScript_2 : decode cX7_runScript 2 = .ok (.if_icmp .lt 8, 3) := by decide +kernel
theorem dX7_runScript_5 : decode cX7_runScript 5 = .ok (.iload_n 1, 1) := by decide +kernel
theorem dX7_runScript_6 : decode cX7_runScript 6 = .ok (.iconst 3, 1) := by decide +kernel
theorem dX7_runScript_7 : decode cX7_runScript 7 = .ok (.if_icmp .le 14, 3) := by decide +kernel
theorem dX7_runScript_10 : decode cX7_runScript 10 = .ok (.new 64, 3) := by decide +kernel
theorem dX7_runScript_13 : decode cX7_runScript 13 = .ok (.dup, 1) := by decide +kernel
theorem dX7_runScript_14 : decode cX7_runScript 14 = .ok (.ldc_w 256, 3) := by decide +kernel
theorem dX7_runScript_17 : decode cX7_runScript 17 = .ok (.invokespecial 68, 3) := by decide +kernel
theorem dX7_runScript_20 : decode cX7_runScript 20 = .ok (.athrow, 1) := by decide +kernel
theorem dX7_runScript_21 : decode cX7_runScript 21 = .ok (.lload_n 2, 1) := by decide +kernel
theorem dX7_runScript_22 : decode cX7_runScript 22 = .ok (.lconst 0, 1) := by decide +kernel
theorem dX7_runScript_23 : decode cX7_runScript 23 = .ok (.lcmp, 1) := by decide +kernel
theorem dX7_runScript_24 : decode cX7_runScript 24 = .ok (.ifCond .lt 13, 3) := by decide +kernel
theorem dX7_runScript_27 : decode cX7_runScript 27 = .ok (.lload_n 2, 1) := by decide +kernel
theorem dX7_runScript_28 : decode cX7_runScript 28 = .ok (.iload_n 1, 1) := by decide +kernel
theorem dX7_runScript_29 : decode cX7_runScript 29 = .ok (.invokestatic 258, 3) := by decide +kernel
theorem dX7_runScript_32 : decode cX7_runScript 32 = .ok (.lconst 0, 1) := by decide +kernel
theorem dX7_runScript_33 : decode cX7_runScript 33 = .ok (.lcmp, 1) := by decide +kernel
theorem dX7_runScript_34 : decode cX7_runScript 34 = .ok (.ifCond .eq 14, 3) := by decide +kernel
theorem dX7_runScript_37 : decode cX7_runScript 37 = .ok (.new 64, 3) := by decide +kernel
theorem dX7_runScript_40 : decode cX7_runScript 40 = .ok (.dup, 1) := by decide +kernel
theorem dX7_runScript_41 : decode cX7_runScript 41 = .ok (.ldc_w 262, 3) := by decide +kernel
theorem dX7_runScript_44 : decode cX7_runScript 44 = .ok (.invokespecial 68, 3) := by decide +kernel
theorem dX7_runScript_47 : decode cX7_runScript 47 = .ok (.athrow, 1) := by decide +kernel
theorem dX7_runScript_48 : decode cX7_runScript 48 = .ok (.aload_n 0, 1) := by decide +kernel
theorem dX7_runScript_49 : decode cX7_runScript 49 = .ok (.getfield 37, 3) := by decide +kernel
theorem dX7_runScript_52 : decode cX7_runScript 52 = .ok (.aload_n 0, 1) := by decide +kernel
theorem dX7_runScript_53 : decode cX7_runScript 53 = .ok (.getfield 33, 3) := by decide +kernel
theorem dX7_runScript_56 : decode cX7_runScript 56 = .ok (.invokevirtual 93, 3) := by decide +kernel
theorem dX7_runScript_59 : decode cX7_runScript 59 = .ok (.iconst 0, 1) := by decide +kernel
theorem dX7_runScript_60 : decode cX7_runScript 60 = .ok (.istore 4, 2) := by decide +kernel
theorem dX7_runScript_62 : decode cX7_runScript 62 = .ok (.iload 4, 2) := by decide +kernel
theorem dX7_runScript_64 : decode cX7_runScript 64 = .ok (.iload_n 1, 1) := by decide +kernel
theorem dX7_runScript_65 : decode cX7_runScript 65 = .ok (.if_icmp .ge 34, 3) := by decide +kernel
theorem dX7_runScript_68 : decode cX7_runScript 68 = .ok (.aload_n 0, 1) := by decide +kernel
theorem dX7_runScript_69 : decode cX7_runScript 69 = .ok (.lload_n 2, 1) := by decide +kernel
theorem dX7_runScript_70 : decode cX7_runScript 70 = .ok (.iload_n 1, 1) := by decide +kernel
theorem dX7_runScript_71 : decode cX7_runScript 71 = .ok (.iconst 1, 1) := by decide +kernel
theorem dX7_runScript_72 : decode cX7_runScript 72 = .ok (.isub, 1) := by decide +kernel
theorem dX7_runScript_73 : decode cX7_runScript 73 = .ok (.iload 4, 2) := by decide +kernel
theorem dX7_runScript_75 : decode cX7_runScript 75 = .ok (.isub, 1) := by decide +kernel
theorem dX7_runScript_76 : decode cX7_runScript 76 = .ok (.invokestatic 258, 3) := by decide +kernel
theorem dX7_runScript_79 : decode cX7_runScript 79 = .ok (.ldc2_w 264, 3) := by decide +kernel
theorem dX7_runScript_82 : decode cX7_runScript 82 = .ok (.lrem, 1) := by decide +kernel
theorem dX7_runScript_83 : decode cX7_runScript 83 = .ok (.l2i, 1) := by decide +kernel
theorem dX7_runScript_84 : decode cX7_runScript 84 = .ok (.invokevirtual 266, 3) := by decide +kernel
theorem dX7_runScript_87 : decode cX7_runScript 87 = .ok (.ifCond .ne 6, 3) := by decide +kernel
theorem dX7_runScript_90 : decode cX7_runScript 90 = .ok (.iload 4, 2) := by decide +kernel
theorem dX7_runScript_92 : decode cX7_runScript 92 = .ok (.ireturn, 1) := by decide +kernel
theorem dX7_runScript_93 : decode cX7_runScript 93 = .ok (.iinc 4 1, 3) := by decide +kernel
theorem dX7_runScript_96 : decode cX7_runScript 96 = .ok (.goto (-34), 3) := by decide +kernel
theorem dX7_runScript_99 : decode cX7_runScript 99 = .ok (.sipush (-999), 3) := by decide +kernel
theorem dX7_runScript_102 : decode cX7_runScript 102 = .ok (.ireturn, 1) := by decide +kernel
theorem dX7_simulate_0 : decode cX7_simulate 0 = .ok (.iload_n 3, 1) := by decide +kernel
theorem dX7_simulate_1 : decode cX7_simulate 1 = .ok (.iconst 1, 1) := by decide +kernel
theorem dX7_simulate_2 : decode cX7_simulate 2 = .ok (.if_icmp .lt 9, 3) := by decide +kernel
theorem dX7_simulate_5 : decode cX7_simulate 5 = .ok (.iload_n 3, 1) := by decide +kernel
theorem dX7_simulate_6 : decode cX7_simulate 6 = .ok (.bipush 60, 2) := by decide +kernel
theorem dX7_simulate_8 : decode cX7_simulate 8 = .ok (.if_icmp .le 14, 3) := by decide +kernel
theorem dX7_simulate_11 : decode cX7_simulate 11 = .ok (.new 64, 3) := by decide +kernel
theorem dX7_simulate_14 : decode cX7_simulate 14 = .ok (.dup, 1) := by decide +kernel
theorem dX7_simulate_15 : decode cX7_simulate 15 = .ok (.ldc_w 270, 3) := by decide +kernel
theorem dX7_simulate_18 : decode cX7_simulate 18 = .ok (.invokespecial 68, 3) := by decide +kernel
theorem dX7_simulate_21 : decode cX7_simulate 21 = .ok (.athrow, 1) := by decide +kernel
theorem dX7_simulate_22 : decode cX7_simulate 22 = .ok (.lload_n 1, 1) := by decide +kernel
theorem dX7_simulate_23 : decode cX7_simulate 23 = .ok (.lstore 4, 2) := by decide +kernel
theorem dX7_simulate_25 : decode cX7_simulate 25 = .ok (.iconst 0, 1) := by decide +kernel
theorem dX7_simulate_26 : decode cX7_simulate 26 = .ok (.istore 6, 2) := by decide +kernel
theorem dX7_simulate_28 : decode cX7_simulate 28 = .ok (.iconst 0, 1) := by decide +kernel
theorem dX7_simulate_29 : decode cX7_simulate 29 = .ok (.istore 7, 2) := by decide +kernel
theorem dX7_simulate_31 : decode cX7_simulate 31 = .ok (.iload 7, 2) := by decide +kernel
theorem dX7_simulate_33 : decode cX7_simulate 33 = .ok (.iload_n 3, 1) := by decide +kernel
theorem dX7_simulate_34 : decode cX7_simulate 34 = .ok (.if_icmp .ge 127, 3) := by decide +kernel
theorem dX7_simulate_37 : decode cX7_simulate 37 = .ok (.aload_n 0, 1) := by decide +kernel
theorem dX7_simulate_38 : decode cX7_simulate 38 = .ok (.getfield 37, 3) := by decide +kernel
theorem dX7_simulate_41 : decode cX7_simulate 41 = .ok (.aload_n 0, 1) := by decide +kernel
theorem dX7_simulate_42 : decode cX7_simulate 42 = .ok (.getfield 33, 3) := by decide +kernel
theorem dX7_simulate_45 : decode cX7_simulate 45 = .ok (.invokevirtual 93, 3) := by decide +kernel
theorem dX7_simulate_48 : decode cX7_simulate 48 = .ok (.iconst 0, 1) := by decide +kernel
theorem dX7_simulate_49 : decode cX7_simulate 49 = .ok (.istore 8, 2) := by decide +kernel
theorem dX7_simulate_51 : decode cX7_simulate 51 = .ok (.iload 8, 2) := by decide +kernel
theorem dX7_simulate_53 : decode cX7_simulate 53 = .ok (.aload_n 0, 1) := by decide +kernel
theorem dX7_simulate_54 : decode cX7_simulate 54 = .ok (.getfield 33, 3) := by decide +kernel
theorem dX7_simulate_57 : decode cX7_simulate 57 = .ok (.getfield 103, 3) := by decide +kernel
theorem dX7_simulate_60 : decode cX7_simulate 60 = .ok (.if_icmp .ge 64, 3) := by decide +kernel
theorem dX7_simulate_63 : decode cX7_simulate 63 = .ok (.aload_n 0, 1) := by decide +kernel
theorem dX7_simulate_64 : decode cX7_simulate 64 = .ok (.getfield 33, 3) := by decide +kernel
theorem dX7_simulate_67 : decode cX7_simulate 67 = .ok (.getfield 146, 3) := by decide +kernel
theorem dX7_simulate_70 : decode cX7_simulate 70 = .ok (.iload 8, 2) := by decide +kernel
theorem dX7_simulate_72 : decode cX7_simulate 72 = .ok (.baload, 1) := by decide +kernel
theorem dX7_simulate_73 : decode cX7_simulate 73 = .ok (.ifCond .ne 45, 3) := by decide +kernel
theorem dX7_simulate_76 : decode cX7_simulate 76 = .ok (.lload 4, 2) := by decide +kernel
theorem dX7_simulate_78 : decode cX7_simulate 78 = .ok (.ldc2_w 272, 3) := by decide +kernel
theorem dX7_simulate_81 : decode cX7_simulate 81 = .ok (.lmul, 1) := by decide +kernel
theorem dX7_simulate_82 : decode cX7_simulate 82 = .ok (.ldc2_w 274, 3) := by decide +kernel
theorem dX7_simulate_85 : decode cX7_simulate 85 = .ok (.ladd, 1) := by decide +kernel
theorem dX7_simulate_86 : decode cX7_simulate 86 = .ok (.lstore 4, 2) := by decide +kernel
theorem dX7_simulate_88 : decode cX7_simulate 88 = .ok (.lload 4, 2) := by decide +kernel
theorem dX7_simulate_90 : decode cX7_simulate 90 = .ok (.bipush 33, 2) := by decide +kernel
theorem dX7_simulate_92 : decode cX7_simulate 92 = .ok (.lushr, 1) := by decide +kernel
theorem dX7_simulate_93 : decode cX7_simulate 93 = .ok (.l2i, 1) := by decide +kernel
theorem dX7_simulate_94 : decode cX7_simulate 94 = .ok (.istore 9, 2) := by decide +kernel
theorem dX7_simulate_96 : decode cX7_simulate 96 = .ok (.aload_n 0, 1) := by decide +kernel
theorem dX7_simulate_97 : decode cX7_simulate 97 = .ok (.getfield 37, 3) := by decide +kernel
theorem dX7_simulate_100 : decode cX7_simulate 100 = .ok (.getfield 146, 3) := by decide +kernel
theorem dX7_simulate_103 : decode cX7_simulate 103 = .ok (.iload 8, 2) := by decide +kernel
theorem dX7_simulate_105 : decode cX7_simulate 105 = .ok (.iload 9, 2) := by decide +kernel
theorem dX7_simulate_107 : decode cX7_simulate 107 = .ok (.iconst 4, 1) := by decide +kernel
theorem dX7_simulate_108 : decode cX7_simulate 108 = .ok (.irem, 1) := by decide +kernel
theorem dX7_simulate_109 : decode cX7_simulate 109 = .ok (.ifCond .ne 7, 3) := by decide +kernel
theorem dX7_simulate_112 : decode cX7_simulate 112 = .ok (.iconst 1, 1) := by decide +kernel
theorem dX7_simulate_113 : decode cX7_simulate 113 = .ok (.goto 4, 3) := by decide +kernel
theorem dX7_simulate_116 : decode cX7_simulate 116 = .ok (.iconst 0, 1) := by decide +kernel
theorem dX7_simulate_117 : decode cX7_simulate 117 = .ok (.bastore, 1) := by decide +kernel
theorem dX7_simulate_118 : decode cX7_simulate 118 = .ok (.iinc 8 1, 3) := by decide +kernel
theorem dX7_simulate_121 : decode cX7_simulate 121 = .ok (.goto (-70), 3) := by decide +kernel
theorem dX7_simulate_124 : decode cX7_simulate 124 = .ok (.aload_n 0, 1) := by decide +kernel
theorem dX7_simulate_125 : decode cX7_simulate 125 = .ok (.aload_n 0, 1) := by decide +kernel
theorem dX7_simulate_126 : decode cX7_simulate 126 = .ok (.getfield 37, 3) := by decide +kernel
theorem dX7_simulate_129 : decode cX7_simulate 129 = .ok (.invokevirtual 119, 3) := by decide +kernel
theorem dX7_simulate_132 : decode cX7_simulate 132 = .ok (.istore 8, 2) := by decide +kernel
theorem dX7_simulate_134 : decode cX7_simulate 134 = .ok (.iload 6, 2) := by decide +kernel
theorem dX7_simulate_136 : decode cX7_simulate 136 = .ok (.iload 8, 2) := by decide +kernel
theorem dX7_simulate_138 : decode cX7_simulate 138 = .ok (.sipush (-999), 3) := by decide +kernel
theorem dX7_simulate_141 : decode cX7_simulate 141 = .ok (.if_icmp .ne 9, 3) := by decide +kernel
theorem dX7_simulate_144 : decode cX7_simulate 144 = .ok (.ldc_w 276, 3) := by decide +kernel
theorem dX7_simulate_147 : decode cX7_simulate 147 = .ok (.goto 5, 3) := by decide +kernel
theorem dX7_simulate_150 : decode cX7_simulate 150 = .ok (.iload 8, 2) := by decide +kernel
theorem dX7_simulate_152 : decode cX7_simulate 152 = .ok (.iadd, 1) := by decide +kernel
theorem dX7_simulate_153 : decode cX7_simulate 153 = .ok (.istore 6, 2) := by decide +kernel
theorem dX7_simulate_155 : decode cX7_simulate 155 = .ok (.iinc 7 1, 3) := by decide +kernel
theorem dX7_simulate_158 : decode cX7_simulate 158 = .ok (.goto (-127), 3) := by decide +kernel
theorem dX7_simulate_161 : decode cX7_simulate 161 = .ok (.iload 6, 2) := by decide +kernel
theorem dX7_simulate_163 : decode cX7_simulate 163 = .ok (.ireturn, 1) := by decide +kernel
theorem dX7_save_0 : decode cX7_save 0 = .ok (.iload_n 1, 1) := by decide +kernel
theorem dX7_save_1 : decode cX7_save 1 = .ok (.invokestatic 277, 3) := by decide +kernel
theorem dX7_save_4 : decode cX7_save 4 = .ok (.aload_n 0, 1) := by decide +kernel
theorem dX7_save_5 : decode cX7_save 5 = .ok (.getfield 50, 3) := by decide +kernel
theorem dX7_save_8 : decode cX7_save 8 = .ok (.iload_n 1, 1) := by decide +kernel
theorem dX7_save_9 : decode cX7_save 9 = .ok (.aload_n 0, 1) := by decide +kernel
theorem dX7_save_10 : decode cX7_save 10 = .ok (.getfield 33, 3) := by decide +kernel
theorem dX7_save_13 : decode cX7_save 13 = .ok (.invokevirtual 280, 3) := by decide +kernel
theorem dX7_save_16 : decode cX7_save 16 = .ok (.aload_n 0, 1) := by decide +kernel
theorem dX7_save_17 : decode cX7_save 17 = .ok (.getfield 33, 3) := by decide +kernel
theorem dX7_save_20 : decode cX7_save 20 = .ok (.getfield 103, 3) := by decide +kernel
theorem dX7_save_23 : decode cX7_save 23 = .ok (.ireturn, 1) := by decide +kernel
theorem dX7_restore_0 : decode cX7_restore 0 = .ok (.iload_n 1, 1) := by decide +kernel
theorem dX7_restore_1 : decode cX7_restore 1 = .ok (.invokestatic 277, 3) := by decide +kernel
theorem dX7_restore_4 : decode cX7_restore 4 = .ok (.aload_n 0, 1) := by decide +kernel
theorem dX7_restore_5 : decode cX7_restore 5 = .ok (.getfield 50, 3) := by decide +kernel
theorem dX7_restore_8 : decode cX7_restore 8 = .ok (.getfield 284, 3) := by decide +kernel
theorem dX7_restore_11 : decode cX7_restore 11 = .ok (.iload_n 1, 1) := by decide +kernel
theorem dX7_restore_12 : decode cX7_restore 12 = .ok (.baload, 1) := by decide +kernel
theorem dX7_restore_13 : decode cX7_restore 13 = .ok (.ifCond .ne 14, 3) := by decide +kernel
theorem dX7_restore_16 : decode cX7_restore 16 = .ok (.new 75, 3) := by decide +kernel
theorem dX7_restore_19 : decode cX7_restore 19 = .ok (.dup, 1) := by decide +kernel
theorem dX7_restore_20 : decode cX7_restore 20 = .ok (.ldc_w 287, 3) := by decide +kernel
theorem dX7_restore_23 : decode cX7_restore 23 = .ok (.invokespecial 79, 3) := by decide +kernel
theorem dX7_restore_26 : decode cX7_restore 26 = .ok (.athrow, 1) := by decide +kernel
theorem dX7_restore_27 : decode cX7_restore 27 = .ok (.aload_n 0, 1) := by decide +kernel
theorem dX7_restore_28 : decode cX7_restore 28 = .ok (.getfield 50, 3) := by decide +kernel
theorem dX7_restore_31 : decode cX7_restore 31 = .ok (.iload_n 1, 1) := by decide +kernel
theorem dX7_restore_32 : decode cX7_restore 32 = .ok (.aload_n 0, 1) := by decide +kernel
theorem dX7_restore_33 : decode cX7_restore 33 = .ok (.getfield 33, 3) := by decide +kernel
theorem dX7_restore_36 : decode cX7_restore 36 = .ok (.invokevirtual 289, 3) := by decide +kernel
theorem dX7_restore_39 : decode cX7_restore 39 = .ok (.aload_n 0, 1) := by decide +kernel
theorem dX7_restore_40 : decode cX7_restore 40 = .ok (.getfield 43, 3) := by decide +kernel
theorem dX7_restore_43 : decode cX7_restore 43 = .ok (.invokevirtual 97, 3) := by decide +kernel
theorem dX7_restore_46 : decode cX7_restore 46 = .ok (.aload_n 0, 1) := by decide +kernel
theorem dX7_restore_47 : decode cX7_restore 47 = .ok (.getfield 33, 3) := by decide +kernel
theorem dX7_restore_50 : decode cX7_restore 50 = .ok (.getfield 103, 3) := by decide +kernel
theorem dX7_restore_53 : decode cX7_restore 53 = .ok (.ireturn, 1) := by decide +kernel
theorem dX7_raise_0 : decode cX7_raise 0 = .ok (.iload_n 0, 1) := by decide +kernel
theorem dX7_raise_1 : decode cX7_raise 1 = .ok (.iconst 1, 1) := by decide +kernel
theorem dX7_raise_2 : decode cX7_raise 2 = .ok (.if_icmp .ne 14, 3) := by decide +kernel
theorem dX7_raise_5 : decode cX7_raise 5 = .ok (.new 292, 3) := by decide +kernel
theorem dX7_raise_8 : decode cX7_raise 8 = .ok (.dup, 1) := by decide +kernel
theorem dX7_raise_9 : decode cX7_raise 9 = .ok (.ldc_w 294, 3) := by decide +kernel
theorem dX7_raise_12 : decode cX7_raise 12 = .ok (.invokespecial 296, 3) := by decide +kernel
theorem dX7_raise_15 : decode cX7_raise 15 = .ok (.athrow, 1) := by decide +kernel
theorem dX7_raise_16 : decode cX7_raise 16 = .ok (.iload_n 0, 1) := by decide +kernel
theorem dX7_raise_17 : decode cX7_raise 17 = .ok (.iconst 2, 1) := by decide +kernel
theorem dX7_raise_18 : decode cX7_raise 18 = .ok (.if_icmp .ne 14, 3) := by decide +kernel
theorem dX7_raise_21 : decode cX7_raise 21 = .ok (.new 64, 3) := by decide +kernel
theorem dX7_raise_24 : decode cX7_raise 24 = .ok (.dup, 1) := by decide +kernel
theorem dX7_raise_25 : decode cX7_raise 25 = .ok (.ldc_w 297, 3) := by decide +kernel
theorem dX7_raise_28 : decode cX7_raise 28 = .ok (.invokespecial 68, 3) := by decide +kernel
theorem dX7_raise_31 : decode cX7_raise 31 = .ok (.athrow, 1) := by decide +kernel
theorem dX7_raise_32 : decode cX7_raise 32 = .ok (.iload_n 0, 1) := by decide +kernel
theorem dX7_raise_33 : decode cX7_raise 33 = .ok (.iconst 3, 1) := by decide +kernel
theorem dX7_raise_34 : decode cX7_raise 34 = .ok (.if_icmp .ne 14, 3) := by decide +kernel
theorem dX7_raise_37 : decode cX7_raise 37 = .ok (.new 75, 3) := by decide +kernel
theorem dX7_raise_40 : decode cX7_raise 40 = .ok (.dup, 1) := by decide +kernel
theorem dX7_raise_41 : decode cX7_raise 41 = .ok (.ldc_w 299, 3) := by decide +kernel
theorem dX7_raise_44 : decode cX7_raise 44 = .ok (.invokespecial 79, 3) := by decide +kernel
theorem dX7_raise_47 : decode cX7_raise 47 = .ok (.athrow, 1) := by decide +kernel
theorem dX7_raise_48 : decode cX7_raise 48 = .ok (.return_, 1) := by decide +kernel
theorem dX7_requireStreet_0 : decode cX7_requireStreet 0 = .ok (.aload_n 0, 1) := by decide +kernel
theorem dX7_requireStreet_1 : decode cX7_requireStreet 1 = .ok (.getfield 33, 3) := by decide +kernel
theorem dX7_requireStreet_4 : decode cX7_requireStreet 4 = .ok (.iload_n 1, 1) := by decide +kernel
theorem dX7_requireStreet_5 : decode cX7_requireStreet 5 = .ok (.invokevirtual 301, 3) := by decide +kernel
theorem dX7_requireStreet_8 : decode cX7_requireStreet 8 = .ok (.ifCond .ne 14, 3) := by decide +kernel
theorem dX7_requireStreet_11 : decode cX7_requireStreet 11 = .ok (.new 292, 3) := by decide +kernel
theorem dX7_requireStreet_14 : decode cX7_requireStreet 14 = .ok (.dup, 1) := by decide +kernel
theorem dX7_requireStreet_15 : decode cX7_requireStreet 15 = .ok (.ldc_w 304, 3) := by decide +kernel
theorem dX7_requireStreet_18 : decode cX7_requireStreet 18 = .ok (.invokespecial 296, 3) := by decide +kernel
theorem dX7_requireStreet_21 : decode cX7_requireStreet 21 = .ok (.athrow, 1) := by decide +kernel
theorem dX7_requireStreet_22 : decode cX7_requireStreet 22 = .ok (.return_, 1) := by decide +kernel
theorem dX7_requireCrossing_0 : decode cX7_requireCrossing 0 = .ok (.aload_n 0, 1) := by decide +kernel
theorem dX7_requireCrossing_1 : decode cX7_requireCrossing 1 = .ok (.getfield 33, 3) := by decide +kernel
theorem dX7_requireCrossing_4 : decode cX7_requireCrossing 4 = .ok (.iload_n 1, 1) := by decide +kernel
theorem dX7_requireCrossing_5 : decode cX7_requireCrossing 5 = .ok (.invokevirtual 306, 3) := by decide +kernel
theorem dX7_requireCrossing_8 : decode cX7_requireCrossing 8 = .ok (.ifCond .ne 14, 3) := by decide +kernel
theorem dX7_requireCrossing_11 : decode cX7_requireCrossing 11 = .ok (.new 292, 3) := by decide +kernel
theorem dX7_requireCrossing_14 : decode cX7_requireCrossing 14 = .ok (.dup, 1) := by decide +kernel
theorem dX7_requireCrossing_15 : decode cX7_requireCrossing 15 = .ok (.ldc_w 309, 3) := by decide +kernel
theorem dX7_requireCrossing_18 : decode cX7_requireCrossing 18 = .ok (.invokespecial 296, 3) := by decide +kernel
theorem dX7_requireCrossing_21 : decode cX7_requireCrossing 21 = .ok (.athrow, 1) := by decide +kernel
theorem dX7_requireCrossing_22 : decode cX7_requireCrossing 22 = .ok (.return_, 1) := by decide +kernel
theorem dX7_requirePlace_0 : decode cX7_requirePlace 0 = .ok (.iload_n 0, 1) := by decide +kernel
theorem dX7_requirePlace_1 : decode cX7_requirePlace 1 = .ok (.ifCond .ge 14, 3) := by decide +kernel
theorem dX7_requirePlace_4 : decode cX7_requirePlace 4 = .ok (.new 64, 3) := by decide +kernel
theorem dX7_requirePlace_7 : decode cX7_requirePlace 7 = .ok (.dup, 1) := by decide +kernel
theorem dX7_requirePlace_8 : decode cX7_requirePlace 8 = .ok (.ldc_w 311, 3) := by decide +kernel
theorem dX7_requirePlace_11 : decode cX7_requirePlace 11 = .ok (.invokespecial 68, 3) := by decide +kernel
theorem dX7_requirePlace_14 : decode cX7_requirePlace 14 = .ok (.athrow, 1) := by decide +kernel
theorem dX7_requirePlace_15 : decode cX7_requirePlace 15 = .ok (.return_, 1) := by decide +kernel
theorem dX7_requireSlot_0 : decode cX7_requireSlot 0 = .ok (.iload_n 0, 1) := by decide +kernel
theorem dX7_requireSlot_1 : decode cX7_requireSlot 1 = .ok (.ifCond .lt 8, 3) := by decide +kernel
theorem dX7_requireSlot_4 : decode cX7_requireSlot 4 = .ok (.iload_n 0, 1) := by decide +kernel
theorem dX7_requireSlot_5 : decode cX7_requireSlot 5 = .ok (.iconst 2, 1) := by decide +kernel
theorem dX7_requireSlot_6 : decode cX7_requireSlot 6 = .ok (.if_icmp .lt 14, 3) := by decide +kernel
theorem dX7_requireSlot_9 : decode cX7_requireSlot 9 = .ok (.new 292, 3) := by decide +kernel
theorem dX7_requireSlot_12 : decode cX7_requireSlot 12 = .ok (.dup, 1) := by decide +kernel
theorem dX7_requireSlot_13 : decode cX7_requireSlot 13 = .ok (.ldc_w 313, 3) := by decide +kernel
theorem dX7_requireSlot_16 : decode cX7_requireSlot 16 = .ok (.invokespecial 296, 3) := by decide +kernel
theorem dX7_requireSlot_19 : decode cX7_requireSlot 19 = .ok (.athrow, 1) := by decide +kernel
theorem dX7_requireSlot_20 : decode cX7_requireSlot 20 = .ok (.return_, 1) := by decide +kernel
theorem dX7_refusalOfLength_0 : decode cX7_refusalOfLength 0 = .ok (.iload_n 0, 1) := by decide +kernel
theorem dX7_refusalOfLength_1 : decode cX7_refusalOfLength 1 = .ok (.iconst 1, 1) := by decide +kernel
theorem dX7_refusalOfLength_2 : decode cX7_refusalOfLength 2 = .ok (.if_icmp .lt 9, 3) := by decide +kernel
theorem dX7_refusalOfLength_5 : decode cX7_refusalOfLength 5 = .ok (.iload_n 0, 1) := by decide +kernel
theorem dX7_refusalOfLength_6 : decode cX7_refusalOfLength 6 = .ok (.bipush 99, 2) := by decide +kernel
theorem dX7_refusalOfLength_8 : decode cX7_refusalOfLength 8 = .ok (.if_icmp .le 7, 3) := by decide +kernel
theorem dX7_refusalOfLength_11 : decode cX7_refusalOfLength 11 = .ok (.iconst 2, 1) := by decide +kernel
theorem dX7_refusalOfLength_12 : decode cX7_refusalOfLength 12 = .ok (.goto 4, 3) := by decide +kernel
theorem dX7_refusalOfLength_15 : decode cX7_refusalOfLength 15 = .ok (.iconst 0, 1) := by decide +kernel
theorem dX7_refusalOfLength_16 : decode cX7_refusalOfLength 16 = .ok (.ireturn, 1) := by decide +kernel
theorem dX7_acceptTrial_0 : decode cX7_acceptTrial 0 = .ok (.aload_n 0, 1) := by decide +kernel
theorem dX7_acceptTrial_1 : decode cX7_acceptTrial 1 = .ok (.getfield 43, 3) := by decide +kernel
theorem dX7_acceptTrial_4 : decode cX7_acceptTrial 4 = .ok (.aload_n 0, 1) := by decide +kernel
theorem dX7_acceptTrial_5 : decode cX7_acceptTrial 5 = .ok (.getfield 33, 3) := by decide +kernel
theorem dX7_acceptTrial_8 : decode cX7_acceptTrial 8 = .ok (.invokevirtual 315, 3) := by decide +kernel
theorem dX7_acceptTrial_11 : decode cX7_acceptTrial 11 = .ok (.aload_n 0, 1) := by decide +kernel
theorem dX7_acceptTrial_12 : decode cX7_acceptTrial 12 = .ok (.getfield 33, 3) := by decide +kernel
theorem dX7_acceptTrial_15 : decode cX7_acceptTrial 15 = .ok (.aload_n 0, 1) := by decide +kernel
theorem dX7_acceptTrial_16 : decode cX7_acceptTrial 16 = .ok (.getfield 37, 3) := by decide +kernel
theorem dX7_acceptTrial_19 : decode cX7_acceptTrial 19 = .ok (.invokevirtual 93, 3) := by decide +kernel
theorem dX7_acceptTrial_22 : decode cX7_acceptTrial 22 = .ok (.return_, 1) := by decide +kernel
theorem dX7_bestLengthIn_0 : decode cX7_bestLengthIn 0 = .ok (.aload_n 0, 1) := by decide +kernel
theorem dX7_bestLengthIn_1 : decode cX7_bestLengthIn 1 = .ok (.getfield 61, 3) := by decide +kernel
theorem dX7_bestLengthIn_4 : decode cX7_bestLengthIn 4 = .ok (.aload_n 1, 1) := by decide +kernel
theorem dX7_bestLengthIn_5 : decode cX7_bestLengthIn 5 = .ok (.aload_n 1, 1) := by decide +kernel
theorem dX7_bestLengthIn_6 : decode cX7_bestLengthIn 6 = .ok (.getfield 116, 3) := by decide +kernel
theorem dX7_bestLengthIn_9 : decode cX7_bestLengthIn 9 = .ok (.invokevirtual 163, 3) := by decide +kernel
theorem dX7_bestLengthIn_12 : decode cX7_bestLengthIn 12 = .ok (.aload_n 0, 1) := by decide +kernel
theorem dX7_bestLengthIn_13 : decode cX7_bestLengthIn 13 = .ok (.getfield 61, 3) := by decide +kernel
theorem dX7_bestLengthIn_16 : decode cX7_bestLengthIn 16 = .ok (.aload_n 1, 1) := by decide +kernel
theorem dX7_bestLengthIn_17 : decode cX7_bestLengthIn 17 = .ok (.getfield 113, 3) := by decide +kernel
theorem dX7_bestLengthIn_20 : decode cX7_bestLengthIn 20 = .ok (.invokevirtual 167, 3) := by decide +kernel
theorem dX7_bestLengthIn_23 : decode cX7_bestLengthIn 23 = .ok (.ireturn, 1) := by decide +kernel
theorem dX7_lengthWithout_0 : decode cX7_lengthWithout 0 = .ok (.aload_n 0, 1) := by decide +kernel
theorem dX7_lengthWithout_1 : decode cX7_lengthWithout 1 = .ok (.getfield 37, 3) := by decide +kernel
theorem dX7_lengthWithout_4 : decode cX7_lengthWithout 4 = .ok (.aload_n 0, 1) := by decide +kernel
theorem dX7_lengthWithout_5 : decode cX7_lengthWithout 5 = .ok (.getfield 33, 3) := by decide +kernel
theorem dX7_lengthWithout_8 : decode cX7_lengthWithout 8 = .ok (.invokevirtual 93, 3) := by decide +kernel
theorem dX7_lengthWithout_11 : decode cX7_lengthWithout 11 = .ok (.aload_n 0, 1) := by decide +kernel
theorem dX7_lengthWithout_12 : decode cX7_lengthWithout 12 = .ok (.getfield 37, 3) := by decide +kernel
theorem dX7_lengthWithout_15 : decode cX7_lengthWithout 15 = .ok (.iload_n 1, 1) := by decide +kernel
theorem dX7_lengthWithout_16 : decode cX7_lengthWithout 16 = .ok (.iconst 1, 1) := by decide +kernel
theorem dX7_lengthWithout_17 : decode cX7_lengthWithout 17 = .ok (.invokevirtual 207, 3) := by decide +kernel
theorem dX7_lengthWithout_20 : decode cX7_lengthWithout 20 = .ok (.pop, 1) := by decide +kernel
theorem dX7_lengthWithout_21 : decode cX7_lengthWithout 21 = .ok (.aload_n 0, 1) := by decide +kernel
theorem dX7_lengthWithout_22 : decode cX7_lengthWithout 22 = .ok (.aload_n 0, 1) := by decide +kernel
theorem dX7_lengthWithout_23 : decode cX7_lengthWithout 23 = .ok (.getfield 37, 3) := by decide +kernel
theorem dX7_lengthWithout_26 : decode cX7_lengthWithout 26 = .ok (.invokevirtual 119, 3) := by decide +kernel
theorem dX7_lengthWithout_29 : decode cX7_lengthWithout 29 = .ok (.ireturn, 1) := by decide +kernel
theorem dX7_isOnBestWayWithLength_0 : decode cX7_isOnBestWayWithLength 0 = .ok (.aload_n 0, 1) := by decide +kernel
theorem dX7_isOnBestWayWithLength_1 : decode cX7_isOnBestWayWithLength 1 = .ok (.getfield 37, 3) := by decide +kernel
theorem dX7_isOnBestWayWithLength_4 : decode cX7_isOnBestWayWithLength 4 = .ok (.iload_n 1, 1) := by decide +kernel
theorem dX7_isOnBestWayWithLength_5 : decode cX7_isOnBestWayWithLength 5 = .ok (.iload_n 2, 1) := by decide +kernel
theorem dX7_isOnBestWayWithLength_6 : decode cX7_isOnBestWayWithLength 6 = .ok (.invokevirtual 201, 3) := by decide +kernel
theorem dX7_isOnBestWayWithLength_9 : decode cX7_isOnBestWayWithLength 9 = .ok (.ifCond .ne 15, 3) := by decide +kernel
theorem dX7_isOnBestWayWithLength_12 : decode cX7_isOnBestWayWithLength 12 = .ok (.aload_n 0, 1) := by decide +kernel
theorem dX7_isOnBestWayWithLength_13 : decode cX7_isOnBestWayWithLength 13 = .ok (.iload_n 1, 1) := by decide +kernel
theorem dX7_isOnBestWayWithLength_14 : decode cX7_isOnBestWayWithLength 14 = .ok (.invokevirtual 317, 3) := by decide +kernel
theorem dX7_isOnBestWayWithLength_17 : decode cX7_isOnBestWayWithLength 17 = .ok (.ifCond .eq 7, 3) := by decide +kernel
theorem dX7_isOnBestWayWithLength_20 : decode cX7_isOnBestWayWithLength 20 = .ok (.iconst 1, 1) := by decide +kernel
theorem dX7_isOnBestWayWithLength_21 : decode cX7_isOnBestWayWithLength 21 = .ok (.goto 4, 3) := by decide +kernel
theorem dX7_isOnBestWayWithLength_24 : decode cX7_isOnBestWayWithLength 24 = .ok (.iconst 0, 1) := by decide +kernel
theorem dX7_isOnBestWayWithLength_25 : decode cX7_isOnBestWayWithLength 25 = .ok (.ireturn, 1) := by decide +kernel
theorem dX7_neededStreets_0 : decode cX7_neededStreets 0 = .ok (.aload_n 0, 1) := by decide +kernel
theorem dX7_neededStreets_1 : decode cX7_neededStreets 1 = .ok (.getfield 57, 3) := by decide +kernel
theorem dX7_neededStreets_4 : decode cX7_neededStreets 4 = .ok (.aload_n 0, 1) := by decide +kernel
theorem dX7_neededStreets_5 : decode cX7_neededStreets 5 = .ok (.getfield 33, 3) := by decide +kernel
theorem dX7_neededStreets_8 : decode cX7_neededStreets 8 = .ok (.invokevirtual 123, 3) := by decide +kernel
theorem dX7_neededStreets_11 : decode cX7_neededStreets 11 = .ok (.iconst 0, 1) := by decide +kernel
theorem dX7_neededStreets_12 : decode cX7_neededStreets 12 = .ok (.istore_n 1, 1) := by decide +kernel
theorem dX7_neededStreets_13 : decode cX7_neededStreets 13 = .ok (.iconst 0, 1) := by decide +kernel
theorem dX7_neededStreets_14 : decode cX7_neededStreets 14 = .ok (.istore_n 2, 1) := by decide +kernel
theorem dX7_neededStreets_15 : decode cX7_neededStreets 15 = .ok (.iload_n 2, 1) := by decide +kernel
theorem dX7_neededStreets_16 : decode cX7_neededStreets 16 = .ok (.aload_n 0, 1) := by decide +kernel
theorem dX7_neededStreets_17 : decode cX7_neededStreets 17 = .ok (.getfield 33, 3) := by decide +kernel
theorem dX7_neededStreets_20 : decode cX7_neededStreets 20 = .ok (.getfield 103, 3) := by decide +kernel
theorem dX7_neededStreets_23 : decode cX7_neededStreets 23 = .ok (.if_icmp .ge 38, 3) := by decide +kernel
theorem dX7_neededStreets_26 : decode cX7_neededStreets 26 = .ok (.aload_n 0, 1) := by decide +kernel
theorem dX7_neededStreets_27 : decode cX7_neededStreets 27 = .ok (.getfield 57, 3) := by decide +kernel
theorem dX7_neededStreets_30 : decode cX7_neededStreets 30 = .ok (.aload_n 0, 1) := by decide +kernel
theorem dX7_neededStreets_31 : decode cX7_neededStreets 31 = .ok (.getfield 33, 3) := by decide +kernel
theorem dX7_neededStreets_34 : decode cX7_neededStreets 34 = .ok (.iload_n 2, 1) := by decide +kernel
theorem dX7_neededStreets_35 : decode cX7_neededStreets 35 = .ok (.invokevirtual 150, 3) := by decide +kernel
theorem dX7_neededStreets_38 : decode cX7_neededStreets 38 = .ok (.ifCond .eq 17, 3) := by decide +kernel
theorem dX7_neededStreets_41 : decode cX7_neededStreets 41 = .ok (.aload_n 0, 1) := by decide +kernel
theorem dX7_neededStreets_42 : decode cX7_neededStreets 42 = .ok (.iload_n 2, 1) := by decide +kernel
theorem dX7_neededStreets_43 : decode cX7_neededStreets 43 = .ok (.invokevirtual 230, 3) := by decide +kernel
theorem dX7_neededStreets_46 : decode cX7_neededStreets 46 = .ok (.sipush (-999), 3) := by decide +kernel
theorem dX7_neededStreets_49 : decode cX7_neededStreets 49 = .ok (.if_icmp .ne 6, 3) := by decide +kernel
theorem dX7_neededStreets_52 : decode cX7_neededStreets 52 = .ok (.iinc 1 1, 3) := by decide +kernel
theorem dX7_neededStreets_55 : decode cX7_neededStreets 55 = .ok (.iinc 2 1, 3) := by decide +kernel
theorem dX7_neededStreets_58 : decode cX7_neededStreets 58 = .ok (.goto (-43), 3) := by decide +kernel
theorem dX7_neededStreets_61 : decode cX7_neededStreets 61 = .ok (.iload_n 1, 1) := by decide +kernel
theorem dX7_neededStreets_62 : decode cX7_neededStreets 62 = .ok (.ireturn, 1) := by decide +kernel
theorem dX7_countWays_0 : decode cX7_countWays 0 = .ok (.iload_n 1, 1) := by decide +kernel
theorem dX7_countWays_1 : decode cX7_countWays 1 = .ok (.aload_n 0, 1) := by decide +kernel
theorem dX7_countWays_2 : decode cX7_countWays 2 = .ok (.getfield 116, 3) := by decide +kernel
theorem dX7_countWays_5 : decode cX7_countWays 5 = .ok (.if_icmp .ne 8, 3) := by decide +kernel
theorem dX7_countWays_8 : decode cX7_countWays 8 = .ok (.iload 5, 2) := by decide +kernel
theorem dX7_countWays_10 : decode cX7_countWays 10 = .ok (.iconst 1, 1) := by decide +kernel
theorem dX7_countWays_11 : decode cX7_countWays 11 = .ok (.iadd, 1) := by decide +kernel
theorem dX7_countWays_12 : decode cX7_countWays 12 = .ok (.ireturn, 1) := by decide +kernel
theorem dX7_countWays_13 : decode cX7_countWays 13 = .ok (.iload 5, 2) := by decide +kernel
theorem dX7_countWays_15 : decode cX7_countWays 15 = .ok (.istore 6, 2) := by decide +kernel
theorem dX7_countWays_17 : decode cX7_countWays 17 = .ok (.iload 4, 2) := by decide +kernel
theorem dX7_countWays_19 : decode cX7_countWays 19 = .ok (.bipush 9, 2) := by decide +kernel
theorem dX7_countWays_21 : decode cX7_countWays 21 = .ok (.if_icmp .lt 6, 3) := by decide +kernel
theorem dX7_countWays_24 : decode cX7_countWays 24 = .ok (.iload 6, 2) := by decide +kernel
theorem dX7_countWays_26 : decode cX7_countWays 26 = .ok (.ireturn, 1) := by decide +kernel
theorem dX7_countWays_27 : decode cX7_countWays 27 = .ok (.iconst 0, 1) := by decide +kernel
theorem dX7_countWays_28 : decode cX7_countWays 28 = .ok (.istore 7, 2) := by decide +kernel
theorem dX7_countWays_30 : decode cX7_countWays 30 = .ok (.iload 7, 2) := by decide +kernel
theorem dX7_countWays_32 : decode cX7_countWays 32 = .ok (.aload_n 0, 1) := by decide +kernel
theorem dX7_countWays_33 : decode cX7_countWays 33 = .ok (.getfield 103, 3) := by decide +kernel
theorem dX7_countWays_36 : decode cX7_countWays 36 = .ok (.if_icmp .ge 83, 3) := by decide +kernel
theorem dX7_countWays_39 : decode cX7_countWays 39 = .ok (.iload 6, 2) := by decide +kernel
theorem dX7_countWays_41 : decode cX7_countWays 41 = .ok (.sipush 500, 3) := by decide +kernel
theorem dX7_countWays_44 : decode cX7_countWays 44 = .ok (.if_icmp .ge 75, 3) := by decide +kernel
theorem dX7_countWays_47 : decode cX7_countWays 47 = .ok (.aload_n 0, 1) := by decide +kernel
theorem dX7_countWays_48 : decode cX7_countWays 48 = .ok (.iload 7, 2) := by decide +kernel
theorem dX7_countWays_50 : decode cX7_countWays 50 = .ok (.iload_n 1, 1) := by decide +kernel
theorem dX7_countWays_51 : decode cX7_countWays 51 = .ok (.invokevirtual 320, 3) := by decide +kernel
theorem dX7_countWays_54 : decode cX7_countWays 54 = .ok (.istore 8, 2) := by decide +kernel
theorem dX7_countWays_56 : decode cX7_countWays 56 = .ok (.iload 8, 2) := by decide +kernel
theorem dX7_countWays_58 : decode cX7_countWays 58 = .ok (.sipush (-999), 3) := by decide +kernel
theorem dX7_countWays_61 : decode cX7_countWays 61 = .ok (.if_icmp .eq 52, 3) := by decide +kernel
theorem dX7_countWays_64 : decode cX7_countWays 64 = .ok (.iload_n 3, 1) := by decide +kernel
theorem dX7_countWays_65 : decode cX7_countWays 65 = .ok (.iconst 1, 1) := by decide +kernel
theorem dX7_countWays_66 : decode cX7_countWays 66 = .ok (.iload 8, 2) := by decide +kernel
theorem dX7_countWays_68 : decode cX7_countWays 68 = .ok (.ishl, 1) := by decide +kernel
theorem dX7_countWays_69 : decode cX7_countWays 69 = .ok (.iand, 1) := by decide +kernel
theorem dX7_countWays_70 : decode cX7_countWays 70 = .ok (.ifCond .ne 43, 3) := by decide +kernel
theorem dX7_countWays_73 : decode cX7_countWays 73 = .ok (.aload_n 0, 1) := by decide +kernel
theorem dX7_countWays_74 : decode cX7_countWays 74 = .ok (.getfield 144, 3) := by decide +kernel
theorem dX7_countWays_77 : decode cX7_countWays 77 = .ok (.iload 7, 2) := by decide +kernel
theorem dX7_countWays_79 : decode cX7_countWays 79 = .ok (.iaload, 1) := by decide +kernel
theorem dX7_countWays_80 : decode cX7_countWays 80 = .ok (.iload_n 2, 1) := by decide +kernel
theorem dX7_countWays_81 : decode cX7_countWays 81 = .ok (.if_icmp .gt 32, 3) := by decide +kernel
theorem dX7_countWays_84 : decode cX7_countWays 84 = .ok (.aload_n 0, 1) := by decide +kernel
theorem dX7_countWays_85 : decode cX7_countWays 85 = .ok (.iload 8, 2) := by decide +kernel
theorem dX7_countWays_87 : decode cX7_countWays 87 = .ok (.iload_n 2, 1) := by decide +kernel
theorem dX7_countWays_88 : decode cX7_countWays 88 = .ok (.aload_n 0, 1) := by decide +kernel
theorem dX7_countWays_89 : decode cX7_countWays 89 = .ok (.getfield 144, 3) := by decide +kernel
theorem dX7_countWays_92 : decode cX7_countWays 92 = .ok (.iload 7, 2) := by decide +kernel
theorem dX7_countWays_94 : decode cX7_countWays 94 = .ok (.iaload, 1) := by decide +kernel
theorem dX7_countWays_95 : decode cX7_countWays 95 = .ok (.isub, 1) := by decide +kernel
theorem dX7_countWays_96 : decode cX7_countWays 96 = .ok (.iload_n 3, 1) := by decide +kernel
theorem dX7_countWays_97 : decode cX7_countWays 97 = .ok (.iconst 1, 1) := by decide +kernel
theorem dX7_countWays_98 : decode cX7_countWays 98 = .ok (.iload 8, 2) := by decide +kernel
theorem dX7_countWays_100 : decode cX7_countWays 100 = .ok (.ishl, 1) := by decide +kernel
theorem dX7_countWays_101 : decode cX7_countWays 101 = .ok (.ior, 1) := by decide +kernel
theorem dX7_countWays_102 : decode cX7_countWays 102 = .ok (.iload 4, 2) := by decide +kernel
theorem dX7_countWays_104 : decode cX7_countWays 104 = .ok (.iconst 1, 1) := by decide +kernel
theorem dX7_countWays_105 : decode cX7_countWays 105 = .ok (.iadd, 1) := by decide +kernel
theorem dX7_countWays_106 : decode cX7_countWays 106 = .ok (.iload 6, 2) := by decide +kernel
theorem dX7_countWays_108 : decode cX7_countWays 108 = .ok (.invokestatic 249, 3) := by decide +kernel
theorem dX7_countWays_111 : decode cX7_countWays 111 = .ok (.istore 6, 2) := by decide +kernel
theorem dX7_countWays_113 : decode cX7_countWays 113 = .ok (.iinc 7 1, 3) := by decide +kernel
theorem dX7_countWays_116 : decode cX7_countWays 116 = .ok (.goto (-86), 3) := by decide +kernel
theorem dX7_countWays_119 : decode cX7_countWays 119 = .ok (.iload 6, 2) := by decide +kernel
theorem dX7_countWays_121 : decode cX7_countWays 121 = .ok (.ireturn, 1) := by decide +kernel
theorem dX7_planCommandOnTrial_0 : decode cX7_planCommandOnTrial 0 = .ok (.aload_n 0, 1) := by decide +kernel
theorem dX7_planCommandOnTrial_1 : decode cX7_planCommandOnTrial 1 = .ok (.getfield 26, 3) := by decide +kernel
theorem dX7_planCommandOnTrial_4 : decode cX7_planCommandOnTrial 4 = .ok (.getfield 323, 3) := by decide +kernel
theorem dX7_planCommandOnTrial_7 : decode cX7_planCommandOnTrial 7 = .ok (.iload_n 1, 1) := by decide +kernel
theorem dX7_planCommandOnTrial_8 : decode cX7_planCommandOnTrial 8 = .ok (.iaload, 1) := by decide +kernel
theorem dX7_planCommandOnTrial_9 : decode cX7_planCommandOnTrial 9 = .ok (.istore_n 2, 1) := by decide +kernel
theorem dX7_planCommandOnTrial_10 : decode cX7_planCommandOnTrial 10 = .ok (.aload_n 0, 1) := by decide +kernel
theorem dX7_planCommandOnTrial_11 : decode cX7_planCommandOnTrial 11 = .ok (.getfield 26, 3) := by decide +kernel
theorem dX7_planCommandOnTrial_14 : decode cX7_planCommandOnTrial 14 = .ok (.getfield 326, 3) := by decide +kernel
theorem dX7_planCommandOnTrial_17 : decode cX7_planCommandOnTrial 17 = .ok (.iload_n 1, 1) := by decide +kernel
theorem dX7_planCommandOnTrial_18 : decode cX7_planCommandOnTrial 18 = .ok (.iaload, 1) := by decide +kernel
theorem dX7_planCommandOnTrial_19 : decode cX7_planCommandOnTrial 19 = .ok (.istore_n 3, 1) := by decide +kernel
theorem dX7_planCommandOnTrial_20 : decode cX7_planCommandOnTrial 20 = .ok (.aload_n 0, 1) := by decide +kernel
theorem dX7_planCommandOnTrial_21 : decode cX7_planCommandOnTrial 21 = .ok (.getfield 26, 3) := by decide +kernel
theorem dX7_planCommandOnTrial_24 : decode cX7_planCommandOnTrial 24 = .ok (.getfield 329, 3) := by decide +kernel
theorem dX7_planCommandOnTrial_27 : decode cX7_planCommandOnTrial 27 = .ok (.iload_n 1, 1) := by decide +kernel
theorem dX7_planCommandOnTrial_28 : decode cX7_planCommandOnTrial 28 = .ok (.iaload, 1) := by decide +kernel
theorem dX7_planCommandOnTrial_29 : decode cX7_planCommandOnTrial 29 = .ok (.lookupswitch 83 #[(99, 53), (101, 73), (108, 63), (111, 43)], 43) := by decide +kernel
theorem dX7_planCommandOnTrial_72 : decode cX7_planCommandOnTrial 72 = .ok (.aload_n 0, 1) := by decide +kernel
theorem dX7_planCommandOnTrial_73 : decode cX7_planCommandOnTrial 73 = .ok (.getfield 37, 3) := by decide +kernel
theorem dX7_planCommandOnTrial_76 : decode cX7_planCommandOnTrial 76 = .ok (.iload_n 2, 1) := by decide +kernel
theorem dX7_planCommandOnTrial_77 : decode cX7_planCommandOnTrial 77 = .ok (.iconst 0, 1) := by decide +kernel
theorem dX7_planCommandOnTrial_78 : decode cX7_planCommandOnTrial 78 = .ok (.invokevirtual 207, 3) := by decide +kernel
theorem dX7_planCommandOnTrial_81 : decode cX7_planCommandOnTrial 81 = .ok (.ireturn, 1) := by decide +kernel
theorem dX7_planCommandOnTrial_82 : decode cX7_planCommandOnTrial 82 = .ok (.aload_n 0, 1) := by decide +kernel
theorem dX7_planCommandOnTrial_83 : decode cX7_planCommandOnTrial 83 = .ok (.getfield 37, 3) := by decide +kernel
theorem dX7_planCommandOnTrial_86 : decode cX7_planCommandOnTrial 86 = .ok (.iload_n 2, 1) := by decide +kernel
theorem dX7_planCommandOnTrial_87 : decode cX7_planCommandOnTrial 87 = .ok (.iconst 1, 1) := by decide +kernel
theorem dX7_planCommandOnTrial_88 : decode cX7_planCommandOnTrial 88 = .ok (.invokevirtual 207, 3) := by decide +kernel
theorem dX7_planCommandOnTrial_91 : decode cX7_planCommandOnTrial 91 = .ok (.ireturn, 1) := by decide +kernel
theorem dX7_planCommandOnTrial_92 : decode cX7_planCommandOnTrial 92 = .ok (.aload_n 0, 1) := by decide +kernel
theorem dX7_planCommandOnTrial_93 : decode cX7_planCommandOnTrial 93 = .ok (.getfield 37, 3) := by decide +kernel
theorem dX7_planCommandOnTrial_96 : decode cX7_planCommandOnTrial 96 = .ok (.iload_n 2, 1) := by decide +kernel
theorem dX7_planCommandOnTrial_97 : decode cX7_planCommandOnTrial 97 = .ok (.iload_n 3, 1) := by decide +kernel
theorem dX7_planCommandOnTrial_98 : decode cX7_planCommandOnTrial 98 = .ok (.invokevirtual 201, 3) := by decide +kernel
theorem dX7_planCommandOnTrial_101 : decode cX7_planCommandOnTrial 101 = .ok (.ireturn, 1) := by decide +kernel
theorem dX7_planCommandOnTrial_102 : decode cX7_planCommandOnTrial 102 = .ok (.aload_n 0, 1) := by decide +kernel
theorem dX7_planCommandOnTrial_103 : decode cX7_planCommandOnTrial 103 = .ok (.getfield 37, 3) := by decide +kernel
theorem dX7_planCommandOnTrial_106 : decode cX7_planCommandOnTrial 106 = .ok (.iload_n 2, 1) := by decide +kernel
theorem dX7_planCommandOnTrial_107 : decode cX7_planCommandOnTrial 107 = .ok (.iload_n 3, 1) := by decide +kernel
theorem dX7_planCommandOnTrial_108 : decode cX7_planCommandOnTrial 108 = .ok (.invokevirtual 211, 3) := by decide +kernel
theorem dX7_planCommandOnTrial_111 : decode cX7_planCommandOnTrial 111 = .ok (.ireturn, 1) := by decide +kernel
theorem dX7_planCommandOnTrial_112 : decode cX7_planCommandOnTrial 112 = .ok (.aload_n 0, 1) := by decide +kernel
theorem dX7_planCommandOnTrial_113 : decode cX7_planCommandOnTrial 113 = .ok (.getfield 37, 3) := by decide +kernel
theorem dX7_planCommandOnTrial_116 : decode cX7_planCommandOnTrial 116 = .ok (.aload_n 0, 1) := by decide +kernel
theorem dX7_planCommandOnTrial_117 : decode cX7_planCommandOnTrial 117 = .ok (.getfield 37, 3) := by decide +kernel
theorem dX7_planCommandOnTrial_120 : decode cX7_planCommandOnTrial 120 = .ok (.getfield 116, 3) := by decide +kernel
theorem dX7_planCommandOnTrial_123 : decode cX7_planCommandOnTrial 123 = .ok (.aload_n 0, 1) := by decide +kernel
theorem dX7_planCommandOnTrial_124 : decode cX7_planCommandOnTrial 124 = .ok (.getfield 37, 3) := by decide +kernel
theorem dX7_planCommandOnTrial_127 : decode cX7_planCommandOnTrial 127 = .ok (.getfield 113, 3) := by decide +kernel
theorem dX7_planCommandOnTrial_130 : decode cX7_planCommandOnTrial 130 = .ok (.invokevirtual 211, 3) := by decide +kernel
theorem dX7_planCommandOnTrial_133 : decode cX7_planCommandOnTrial 133 = .ok (.ireturn, 1) := by decide +kernel
theorem dX7_leadingGroups_0 : decode cX7_leadingGroups 0 = .ok (.lload_n 0, 1) := by decide +kernel
theorem dX7_leadingGroups_1 : decode cX7_leadingGroups 1 = .ok (.lstore_n 3, 1) := by decide +kernel
theorem dX7_leadingGroups_2 : decode cX7_leadingGroups 2 = .ok (.iconst 0, 1) := by decide +kernel
theorem dX7_leadingGroups_3 : decode cX7_leadingGroups 3 = .ok (.istore 5, 2) := by decide +kernel
theorem dX7_leadingGroups_5 : decode cX7_leadingGroups 5 = .ok (.iload 5, 2) := by decide +kernel
theorem dX7_leadingGroups_7 : decode cX7_leadingGroups 7 = .ok (.iload_n 2, 1) := by decide +kernel
theorem dX7_leadingGroups_8 : decode cX7_leadingGroups 8 = .ok (.if_icmp .ge 15, 3) := by decide +kernel
theorem dX7_leadingGroups_11 : decode cX7_leadingGroups 11 = .ok (.lload_n 3, 1) := by decide +kernel
theorem dX7_leadingGroups_12 : decode cX7_leadingGroups 12 = .ok (.ldc2_w 264, 3) := by decide +kernel
theorem dX7_leadingGroups_15 : decode cX7_leadingGroups 15 = .ok (.ldiv, 1) := by decide +kernel
theorem dX7_leadingGroups_16 : decode cX7_leadingGroups 16 = .ok (.lstore_n 3, 1) := by decide +kernel
theorem dX7_leadingGroups_17 : decode cX7_leadingGroups 17 = .ok (.iinc 5 1, 3) := by decide +kernel
theorem dX7_leadingGroups_20 : decode cX7_leadingGroups 20 = .ok (.goto (-15), 3) := by decide +kernel
theorem dX7_leadingGroups_23 : decode cX7_leadingGroups 23 = .ok (.lload_n 3, 1) := by decide +kernel
theorem dX7_leadingGroups_24 : decode cX7_leadingGroups 24 = .ok (.lreturn, 1) := by decide +kernel
theorem dX7_scriptCommandOnTrial_0 : decode cX7_scriptCommandOnTrial 0 = .ok (.iload_n 1, 1) := by decide +kernel
theorem dX7_scriptCommandOnTrial_1 : decode cX7_scriptCommandOnTrial 1 = .ok (.sipush 1000, 3) := by decide +kernel
theorem dX7_scriptCommandOnTrial_4 : decode cX7_scriptCommandOnTrial 4 = .ok (.idiv, 1) := by decide +kernel
theorem dX7_scriptCommandOnTrial_5 : decode cX7_scriptCommandOnTrial 5 = .ok (.bipush 10, 2) := by decide +kernel
theorem dX7_scriptCommandOnTrial_7 : decode cX7_scriptCommandOnTrial 7 = .ok (.irem, 1) := by decide +kernel
theorem dX7_scriptCommandOnTrial_8 : decode cX7_scriptCommandOnTrial 8 = .ok (.istore_n 2, 1) := by decide +kernel
theorem dX7_scriptCommandOnTrial_9 : decode cX7_scriptCommandOnTrial 9 = .ok (.iload_n 1, 1) := by decide +kernel
theorem dX7_scriptCommandOnTrial_10 : decode cX7_scriptCommandOnTrial 10 = .ok (.bipush 100, 2) := by decide +kernel
theorem dX7_scriptCommandOnTrial_12 : decode cX7_scriptCommandOnTrial 12 = .ok (.idiv, 1) := by decide +kernel
theorem dX7_scriptCommandOnTrial_13 : decode cX7_scriptCommandOnTrial 13 = .ok (.bipush 10, 2) := by decide +kernel
