theorem dX5_hasCrossing_0 : decode cX5_hasCrossing 0 = .ok (.iload_n 1, 1) := by decide +kernel
theorem dX5_hasCrossing_1 : decode cX5_hasCrossing 1 = .ok (.ifCond .lt 15, 3) := by decide +kernel
theorem dX5_hasCrossing_4 : decode cX5_hasCrossing 4 = .ok (.iload_n 1, 1) := by decide +kernel
theorem dX5_hasCrossing_5 : decode cX5_hasCrossing 5 = .ok (.aload_n 0, 1) := by decide +kernel
theorem dX5_hasCrossing_6 : decode cX5_hasCrossing 6 = .ok (.getfield 9, 3) := by decide +kernel
theorem dX5_hasCrossing_9 : decode cX5_hasCrossing 9 = .ok (.if_icmp .ge 7, 3) := by decide +kernel
theorem dX5_hasCrossing_12 : decode cX5_hasCrossing 12 = .ok (.iconst 1, 1) := by decide +kernel
theorem dX5_hasCrossing_13 : decode cX5_hasCrossing 13 = .ok (.goto 4, 3) := by decide +kernel
theorem dX5_hasCrossing_16 : decode cX5_hasCrossing 16 = .ok (.iconst 0, 1) := by decide +kernel
theorem dX5_hasCrossing_17 : decode cX5_hasCrossing 17 = .ok (.ireturn, 1) := by decide +kernel
theorem dX5_hasStreet_0 : decode cX5_hasStreet 0 = .ok (.iload_n 1, 1) := by decide +kernel
theorem dX5_hasStreet_1 : decode cX5_hasStreet 1 = .ok (.ifCond .lt 15, 3) := by decide +kernel
theorem dX5_hasStreet_4 : decode cX5_hasStreet 4 = .ok (.iload_n 1, 1) := by decide +kernel
theorem dX5_hasStreet_5 : decode cX5_hasStreet 5 = .ok (.aload_n 0, 1) := by decide +kernel
theorem dX5_hasStreet_6 : decode cX5_hasStreet 6 = .ok (.getfield 15, 3) := by decide +kernel
theorem dX5_hasStreet_9 : decode cX5_hasStreet 9 = .ok (.if_icmp .ge 7, 3) := by decide +kernel
theorem dX5_hasStreet_12 : decode cX5_hasStreet 12 = .ok (.iconst 1, 1) := by decide +kernel
theorem dX5_hasStreet_13 : decode cX5_hasStreet 13 = .ok (.goto 4, 3) := by decide +kernel
theorem dX5_hasStreet_16 : decode cX5_hasStreet 16 = .ok (.iconst 0, 1) := by decide +kernel
theorem dX5_hasStreet_17 : decode cX5_hasStreet 17 = .ok (.ireturn, 1) := by decide +kernel
theorem dX5_lengthOf_0 : decode cX5_lengthOf 0 = .ok (.aload_n 0, 1) := by decide +kernel
theorem dX5_lengthOf_1 : decode cX5_lengthOf 1 = .ok (.iload_n 1, 1) := by decide +kernel
theorem dX5_lengthOf_2 : decode cX5_lengthOf 2 = .ok (.invokevirtual 42, 3) := by decide +kernel
theorem dX5_lengthOf_5 : decode cX5_lengthOf 5 = .ok (.ifCond .eq 12, 3) := by decide +kernel
theorem dX5_lengthOf_8 : decode cX5_lengthOf 8 = .ok (.aload_n 0, 1) := by decide +kernel
theorem dX5_lengthOf_9 : decode cX5_lengthOf 9 = .ok (.getfield 31, 3) := by decide +kernel
theorem dX5_lengthOf_12 : decode cX5_lengthOf 12 = .ok (.iload_n 1, 1) := by decide +kernel
theorem dX5_lengthOf_13 : decode cX5_lengthOf 13 = .ok (.iaload, 1) := by decide +kernel
theorem dX5_lengthOf_14 : decode cX5_lengthOf 14 = .ok (.goto 6, 3) := by decide +kernel
theorem dX5_lengthOf_17 : decode cX5_lengthOf 17 = .ok (.sipush (-999), 3) := by decide +kernel
theorem dX5_lengthOf_20 : decode cX5_lengthOf 20 = .ok (.ireturn, 1) := by decide +kernel
theorem dX5_closedStreets_0 : decode cX5_closedStreets 0 = .ok (.iconst 0, 1) := by decide +kernel
theorem dX5_closedStreets_1 : decode cX5_closedStreets 1 = .ok (.istore_n 1, 1) := by decide +kernel
theorem dX5_closedStreets_2 : decode cX5_closedStreets 2 = .ok (.iconst 0, 1) := by decide +kernel
theorem dX5_closedStreets_3 : decode cX5_closedStreets 3 = .ok (.istore_n 2, 1) := by decide +kernel
theorem dX5_closedStreets_4 : decode cX5_closedStreets 4 = .ok (.iload_n 2, 1) := by decide +kernel
theorem dX5_closedStreets_5 : decode cX5_closedStreets 5 = .ok (.aload_n 0, 1) := by decide +kernel
theorem dX5_closedStreets_6 : decode cX5_closedStreets 6 = .ok (.getfield 15, 3) := by decide +kernel
theorem dX5_closedStreets_9 : decode cX5_closedStreets 9 = .ok (.if_icmp .ge 21, 3) := by decide +kernel
theorem dX5_closedStreets_12 : decode cX5_closedStreets 12 = .ok (.aload_n 0, 1) := by decide +kernel
theorem dX5_closedStreets_13 : decode cX5_closedStreets 13 = .ok (.getfield 34, 3) := by decide +kernel
theorem dX5_closedStreets_16 : decode cX5_closedStreets 16 = .ok (.iload_n 2, 1) := by decide +kernel
theorem dX5_closedStreets_17 : decode cX5_closedStreets 17 = .ok (.baload, 1) := by decide +kernel
theorem dX5_closedStreets_18 : decode cX5_closedStreets 18 = .ok (.ifCond .eq 6, 3) := by decide +kernel
theorem dX5_closedStreets_21 : decode cX5_closedStreets 21 = .ok (.iinc 1 1, 3) := by decide +kernel
theorem dX5_closedStreets_24 : decode cX5_closedStreets 24 = .ok (.iinc 2 1, 3) := by decide +kernel
theorem dX5_closedStreets_27 : decode cX5_closedStreets 27 = .ok (.goto (-23), 3) := by decide +kernel
theorem dX5_closedStreets_30 : decode cX5_closedStreets 30 = .ok (.iload_n 1, 1) := by decide +kernel
theorem dX5_closedStreets_31 : decode cX5_closedStreets 31 = .ok (.ireturn, 1) := by decide +kernel
theorem dX5_openStreetsAt_0 : decode cX5_openStreetsAt 0 = .ok (.iconst 0, 1) := by decide +kernel
theorem dX5_openStreetsAt_1 : decode cX5_openStreetsAt 1 = .ok (.istore_n 2, 1) := by decide +kernel
theorem dX5_openStreetsAt_2 : decode cX5_openStreetsAt 2 = .ok (.iconst 0, 1) := by decide +kernel
theorem dX5_openStreetsAt_3 : decode cX5_openStreetsAt 3 = .ok (.istore_n 3, 1) := by decide +kernel
theorem dX5_openStreetsAt_4 : decode cX5_openStreetsAt 4 = .ok (.iload_n 3, 1) := by decide +kernel
theorem dX5_openStreetsAt_5 : decode cX5_openStreetsAt 5 = .ok (.aload_n 0, 1) := by decide +kernel
theorem dX5_openStreetsAt_6 : decode cX5_openStreetsAt 6 = .ok (.getfield 15, 3) := by decide +kernel
theorem dX5_openStreetsAt_9 : decode cX5_openStreetsAt 9 = .ok (.if_icmp .ge 24, 3) := by decide +kernel
theorem dX5_openStreetsAt_12 : decode cX5_openStreetsAt 12 = .ok (.aload_n 0, 1) := by decide +kernel
theorem dX5_openStreetsAt_13 : decode cX5_openStreetsAt 13 = .ok (.iload_n 3, 1) := by decide +kernel
theorem dX5_openStreetsAt_14 : decode cX5_openStreetsAt 14 = .ok (.iload_n 1, 1) := by decide +kernel
theorem dX5_openStreetsAt_15 : decode cX5_openStreetsAt 15 = .ok (.invokevirtual 46, 3) := by decide +kernel
theorem dX5_openStreetsAt_18 : decode cX5_openStreetsAt 18 = .ok (.sipush (-999), 3) := by decide +kernel
theorem dX5_openStreetsAt_21 : decode cX5_openStreetsAt 21 = .ok (.if_icmp .eq 6, 3) := by decide +kernel
theorem dX5_openStreetsAt_24 : decode cX5_openStreetsAt 24 = .ok (.iinc 2 1, 3) := by decide +kernel
theorem dX5_openStreetsAt_27 : decode cX5_openStreetsAt 27 = .ok (.iinc 3 1, 3) := by decide +kernel
theorem dX5_openStreetsAt_30 : decode cX5_openStreetsAt 30 = .ok (.goto (-26), 3) := by decide +kernel
theorem dX5_openStreetsAt_33 : decode cX5_openStreetsAt 33 = .ok (.iload_n 2, 1) := by decide +kernel
theorem dX5_openStreetsAt_34 : decode cX5_openStreetsAt 34 = .ok (.ireturn, 1) := by decide +kernel
theorem dX5_streetJoining_0 : decode cX5_streetJoining 0 = .ok (.iconst 0, 1) := by decide +kernel
theorem dX5_streetJoining_1 : decode cX5_streetJoining 1 = .ok (.istore_n 3, 1) := by decide +kernel
theorem dX5_streetJoining_2 : decode cX5_streetJoining 2 = .ok (.iload_n 3, 1) := by decide +kernel
theorem dX5_streetJoining_3 : decode cX5_streetJoining 3 = .ok (.aload_n 0, 1) := by decide +kernel
theorem dX5_streetJoining_4 : decode cX5_streetJoining 4 = .ok (.getfield 15, 3) := by decide +kernel
theorem dX5_streetJoining_7 : decode cX5_streetJoining 7 = .ok (.if_icmp .ge 39, 3) := by decide +kernel
theorem dX5_streetJoining_10 : decode cX5_streetJoining 10 = .ok (.aload_n 0, 1) := by decide +kernel
theorem dX5_streetJoining_11 : decode cX5_streetJoining 11 = .ok (.getfield 24, 3) := by decide +kernel
theorem dX5_streetJoining_14 : decode cX5_streetJoining 14 = .ok (.iload_n 3, 1) := by decide +kernel
theorem dX5_streetJoining_15 : decode cX5_streetJoining 15 = .ok (.iaload, 1) := by decide +kernel
theorem dX5_streetJoining_16 : decode cX5_streetJoining 16 = .ok (.iload_n 1, 1) := by decide +kernel
theorem dX5_streetJoining_17 : decode cX5_streetJoining 17 = .ok (.iload_n 2, 1) := by decide +kernel
theorem dX5_streetJoining_18 : decode cX5_streetJoining 18 = .ok (.invokestatic 50, 3) := by decide +kernel
theorem dX5_streetJoining_21 : decode cX5_streetJoining 21 = .ok (.if_icmp .ne 19, 3) := by decide +kernel
theorem dX5_streetJoining_24 : decode cX5_streetJoining 24 = .ok (.aload_n 0, 1) := by decide +kernel
theorem dX5_streetJoining_25 : decode cX5_streetJoining 25 = .ok (.getfield 28, 3) := by decide +kernel
theorem dX5_streetJoining_28 : decode cX5_streetJoining 28 = .ok (.iload_n 3, 1) := by decide +kernel
theorem dX5_streetJoining_29 : decode cX5_streetJoining 29 = .ok (.iaload, 1) := by decide +kernel
theorem dX5_streetJoining_30 : decode cX5_streetJoining 30 = .ok (.iload_n 1, 1) := by decide +kernel
theorem dX5_streetJoining_31 : decode cX5_streetJoining 31 = .ok (.iload_n 2, 1) := by decide +kernel
theorem dX5_streetJoining_32 : decode cX5_streetJoining 32 = .ok (.invokestatic 55, 3) := by decide +kernel
theorem dX5_streetJoining_35 : decode cX5_streetJoining 35 = .ok (.if_icmp .ne 5, 3) := by decide +kernel
theorem dX5_streetJoining_38 : decode cX5_streetJoining 38 = .ok (.iload_n 3, 1) := by decide +kernel
theorem dX5_streetJoining_39 : decode cX5_streetJoining 39 = .ok (.ireturn, 1) := by decide +kernel
theorem dX5_streetJoining_40 : decode cX5_streetJoining 40 = .ok (.iinc 3 1, 3) := by decide +kernel
theorem dX5_streetJoining_43 : decode cX5_streetJoining 43 = .ok (.goto (-41), 3) := by decide +kernel
theorem dX5_streetJoining_46 : decode cX5_streetJoining 46 = .ok (.sipush (-999), 3) := by decide +kernel
theorem dX5_streetJoining_49 : decode cX5_streetJoining 49 = .ok (.ireturn, 1) := by decide +kernel
theorem dX5_reachedThrough_0 : decode cX5_reachedThrough 0 = .ok (.aload_n 0, 1) := by decide +kernel
theorem dX5_reachedThrough_1 : decode cX5_reachedThrough 1 = .ok (.iload_n 1, 1) := by decide +kernel
theorem dX5_reachedThrough_2 : decode cX5_reachedThrough 2 = .ok (.invokevirtual 42, 3) := by decide +kernel
theorem dX5_reachedThrough_5 : decode cX5_reachedThrough 5 = .ok (.ifCond .eq 12, 3) := by decide +kernel
theorem dX5_reachedThrough_8 : decode cX5_reachedThrough 8 = .ok (.aload_n 0, 1) := by decide +kernel
theorem dX5_reachedThrough_9 : decode cX5_reachedThrough 9 = .ok (.getfield 34, 3) := by decide +kernel
theorem dX5_reachedThrough_12 : decode cX5_reachedThrough 12 = .ok (.iload_n 1, 1) := by decide +kernel
theorem dX5_reachedThrough_13 : decode cX5_reachedThrough 13 = .ok (.baload, 1) := by decide +kernel
theorem dX5_reachedThrough_14 : decode cX5_reachedThrough 14 = .ok (.ifCond .eq 7, 3) := by decide +kernel
theorem dX5_reachedThrough_17 : decode cX5_reachedThrough 17 = .ok (.sipush (-999), 3) := by decide +kernel
theorem dX5_reachedThrough_20 : decode cX5_reachedThrough 20 = .ok (.ireturn, 1) := by decide +kernel
theorem dX5_reachedThrough_21 : decode cX5_reachedThrough 21 = .ok (.aload_n 0, 1) := by decide +kernel
theorem dX5_reachedThrough_22 : decode cX5_reachedThrough 22 = .ok (.getfield 24, 3) := by decide +kernel
theorem dX5_reachedThrough_25 : decode cX5_reachedThrough 25 = .ok (.iload_n 1, 1) := by decide +kernel
theorem dX5_reachedThrough_26 : decode cX5_reachedThrough 26 = .ok (.iaload, 1) := by decide +kernel
theorem dX5_reachedThrough_27 : decode cX5_reachedThrough 27 = .ok (.iload_n 2, 1) := by decide +kernel
theorem dX5_reachedThrough_28 : decode cX5_reachedThrough 28 = .ok (.if_icmp .ne 10, 3) := by decide +kernel
theorem dX5_reachedThrough_31 : decode cX5_reachedThrough 31 = .ok (.aload_n 0, 1) := by decide +kernel
theorem dX5_reachedThrough_32 : decode cX5_reachedThrough 32 = .ok (.getfield 28, 3) := by decide +kernel
theorem dX5_reachedThrough_35 : decode cX5_reachedThrough 35 = .ok (.iload_n 1, 1) := by decide +kernel
theorem dX5_reachedThrough_36 : decode cX5_reachedThrough 36 = .ok (.iaload, 1) := by decide +kernel
theorem dX5_reachedThrough_37 : decode cX5_reachedThrough 37 = .ok (.ireturn, 1) := by decide +kernel
theorem dX5_reachedThrough_38 : decode cX5_reachedThrough 38 = .ok (.aload_n 0, 1) := by decide +kernel
theorem dX5_reachedThrough_39 : decode cX5_reachedThrough 39 = .ok (.getfield 28, 3) := by decide +kernel
theorem dX5_reachedThrough_42 : decode cX5_reachedThrough 42 = .ok (.iload_n 1, 1) := by decide +kernel
theorem dX5_reachedThrough_43 : decode cX5_reachedThrough 43 = .ok (.iaload, 1) := by decide +kernel
theorem dX5_reachedThrough_44 : decode cX5_reachedThrough 44 = .ok (.iload_n 2, 1) := by decide +kernel
theorem dX5_reachedThrough_45 : decode cX5_reachedThrough 45 = .ok (.if_icmp .ne 12, 3) := by decide +kernel
theorem dX5_reachedThrough_48 : decode cX5_reachedThrough 48 = .ok (.aload_n 0, 1) := by decide +kernel
theorem dX5_reachedThrough_49 : decode cX5_reachedThrough 49 = .ok (.getfield 24, 3) := by decide +kernel
theorem dX5_reachedThrough_52 : decode cX5_reachedThrough 52 = .ok (.iload_n 1, 1) := by decide +kernel
theorem dX5_reachedThrough_53 : decode cX5_reachedThrough 53 = .ok (.iaload, 1) := by decide +kernel
theorem dX5_reachedThrough_54 : decode cX5_reachedThrough 54 = .ok (.goto 6, 3) := by decide +kernel
theorem dX5_reachedThrough_57 : decode cX5_reachedThrough 57 = .ok (.sipush (-999), 3) := by decide +kernel
theorem dX5_reachedThrough_60 : decode cX5_reachedThrough 60 = .ok (.ireturn, 1) := by decide +kernel
theorem dX5_isJoinedWithAllOthers_0 : decode cX5_isJoinedWithAllOthers 0 = .ok (.iconst 0, 1) := by decide +kernel
theorem dX5_isJoinedWithAllOthers_1 : decode cX5_isJoinedWithAllOthers 1 = .ok (.istore_n 2, 1) := by decide +kernel
theorem dX5_isJoinedWithAllOthers_2 : decode cX5_isJoinedWithAllOthers 2 = .ok (.iconst 0, 1) := by decide +kernel
theorem dX5_isJoinedWithAllOthers_3 : decode cX5_isJoinedWithAllOthers 3 = .ok (.istore_n 3, 1) := by decide +kernel
theorem dX5_isJoinedWithAllOthers_4 : decode cX5_isJoinedWithAllOthers 4 = .ok (.iload_n 3, 1) := by decide +kernel
theorem dX5_isJoinedWithAllOthers_5 : decode cX5_isJoinedWithAllOthers 5 = .ok (.aload_n 0, 1) := by decide +kernel
theorem dX5_isJoinedWithAllOthers_6 : decode cX5_isJoinedWithAllOthers 6 = .ok (.getfield 15, 3) := by decide +kernel
theorem dX5_isJoinedWithAllOthers_9 : decode cX5_isJoinedWithAllOthers 9 = .ok (.if_icmp .ge 32, 3) := by decide +kernel
theorem dX5_isJoinedWithAllOthers_12 : decode cX5_isJoinedWithAllOthers 12 = .ok (.aload_n 0, 1) := by decide +kernel
theorem dX5_isJoinedWithAllOthers_13 : decode cX5_isJoinedWithAllOthers 13 = .ok (.getfield 24, 3) := by decide +kernel
theorem dX5_isJoinedWithAllOthers_16 : decode cX5_isJoinedWithAllOthers 16 = .ok (.iload_n 3, 1) := by decide +kernel
theorem dX5_isJoinedWithAllOthers_17 : decode cX5_isJoinedWithAllOthers 17 = .ok (.iaload, 1) := by decide +kernel
theorem dX5_isJoinedWithAllOthers_18 : decode cX5_isJoinedWithAllOthers 18 = .ok (.iload_n 1, 1) := by decide +kernel
theorem dX5_isJoinedWithAllOthers_19 : decode cX5_isJoinedWithAllOthers 19 = .ok (.if_icmp .eq 13, 3) := by decide +kernel
theorem dX5_isJoinedWithAllOthers_22 : decode cX5_isJoinedWithAllOthers 22 = .ok (.aload_n 0, 1) := by decide +kernel
theorem dX5_isJoinedWithAllOthers_23 : decode cX5_isJoinedWithAllOthers 23 = .ok (.getfield 28, 3) := by decide +kernel
theorem dX5_isJoinedWithAllOthers_26 : decode cX5_isJoinedWithAllOthers 26 = .ok (.iload_n 3, 1) := by decide +kernel
theorem dX5_isJoinedWithAllOthers_27 : decode cX5_isJoinedWithAllOthers 27 = .ok (.iaload, 1) := by decide +kernel
theorem dX5_isJoinedWithAllOthers_28 : decode cX5_isJoinedWithAllOthers 28 = .ok (.iload_n 1, 1) := by decide +kernel
theorem dX5_isJoinedWithAllOthers_29 : decode cX5_isJoinedWithAllOthers 29 = .ok (.if_icmp .ne 6, 3) := by decide +kernel
theorem dX5_isJoinedWithAllOthers_32 : decode cX5_isJoinedWithAllOthers 32 = .ok (.iinc 2 1, 3) := by decide +kernel
theorem dX5_isJoinedWithAllOthers_35 : decode cX5_isJoinedWithAllOthers 35 = .ok (.iinc 3 1, 3) := by decide +kernel
theorem dX5_isJoinedWithAllOthers_38 : decode cX5_isJoinedWithAllOthers 38 = .ok (.goto (-34), 3) := by decide +kernel
theorem dX5_isJoinedWithAllOthers_41 : decode cX5_isJoinedWithAllOthers 41 = .ok (.iload_n 2, 1) := by decide +kernel
theorem dX5_isJoinedWithAllOthers_42 : decode cX5_isJoinedWithAllOthers 42 = .ok (.aload_n 0, 1) := by decide +kernel
theorem dX5_isJoinedWithAllOthers_43 : decode cX5_isJoinedWithAllOthers 43 = .ok (.getfield 9, 3) := by decide +kernel
theorem dX5_isJoinedWithAllOthers_46 : decode cX5_isJoinedWithAllOthers 46 = .ok (.iconst 1, 1) := by decide +kernel
theorem dX5_isJoinedWithAllOthers_47 : decode cX5_isJoinedWithAllOthers 47 = .ok (.isub, 1) := by decide +kernel
theorem dX5_isJoinedWithAllOthers_48 : decode cX5_isJoinedWithAllOthers 48 = .ok (.if_icmp .lt 7, 3) := by decide +kernel
theorem dX5_isJoinedWithAllOthers_51 : decode cX5_isJoinedWithAllOthers 51 = .ok (.iconst 1, 1) := by decide +kernel
theorem dX5_isJoinedWithAllOthers_52 : decode cX5_isJoinedWithAllOthers 52 = .ok (.goto 4, 3) := by decide +kernel
theorem dX5_isJoinedWithAllOthers_55 : decode cX5_isJoinedWithAllOthers 55 = .ok (.iconst 0, 1) := by decide +kernel
theorem dX5_isJoinedWithAllOthers_56 : decode cX5_isJoinedWithAllOthers 56 = .ok (.ireturn, 1) := by decide +kernel
theorem dX5_takesNoStreet_0 : decode cX5_takesNoStreet 0 = .ok (.aload_n 0, 1) := by decide +kernel
theorem dX5_takesNoStreet_1 : decode cX5_takesNoStreet 1 = .ok (.getfield 15, 3) := by decide +kernel
theorem dX5_takesNoStreet_4 : decode cX5_takesNoStreet 4 = .ok (.bipush 20, 2) := by decide +kernel
theorem dX5_takesNoStreet_6 : decode cX5_takesNoStreet 6 = .ok (.if_icmp .ge 23, 3) := by decide +kernel
theorem dX5_takesNoStreet_9 : decode cX5_takesNoStreet 9 = .ok (.aload_n 0, 1) := by decide +kernel
theorem dX5_takesNoStreet_10 : decode cX5_takesNoStreet 10 = .ok (.getfield 15, 3) := by decide +kernel
theorem dX5_takesNoStreet_13 : decode cX5_takesNoStreet 13 = .ok (.aload_n 0, 1) := by decide +kernel
theorem dX5_takesNoStreet_14 : decode cX5_takesNoStreet 14 = .ok (.getfield 9, 3) := by decide +kernel
theorem dX5_takesNoStreet_17 : decode cX5_takesNoStreet 17 = .ok (.aload_n 0, 1) := by decide +kernel
theorem dX5_takesNoStreet_18 : decode cX5_takesNoStreet 18 = .ok (.getfield 9, 3) := by decide +kernel
theorem dX5_takesNoStreet_21 : decode cX5_takesNoStreet 21 = .ok (.iconst 1, 1) := by decide +kernel
theorem dX5_takesNoStreet_22 : decode cX5_takesNoStreet 22 = .ok (.isub, 1) := by decide +kernel
theorem dX5_takesNoStreet_23 : decode cX5_takesNoStreet 23 = .ok (.imul, 1) := by decide +kernel
theorem dX5_takesNoStreet_24 : decode cX5_takesNoStreet 24 = .ok (.iconst 2, 1) := by decide +kernel
theorem dX5_takesNoStreet_25 : decode cX5_takesNoStreet 25 = .ok (.idiv, 1) := by decide +kernel
theorem dX5_takesNoStreet_26 : decode cX5_takesNoStreet 26 = .ok (.if_icmp .lt 7, 3) := by decide +kernel
theorem dX5_takesNoStreet_29 : decode cX5_takesNoStreet 29 = .ok (.iconst 1, 1) := by decide +kernel
theorem dX5_takesNoStreet_30 : decode cX5_takesNoStreet 30 = .ok (.goto 4, 3) := by decide +kernel
theorem dX5_takesNoStreet_33 : decode cX5_takesNoStreet 33 = .ok (.iconst 0, 1) := by decide +kernel
theorem dX5_takesNoStreet_34 : decode cX5_takesNoStreet 34 = .ok (.ireturn, 1) := by decide +kernel
theorem dX5_refusalOfPair_0 : decode cX5_refusalOfPair 0 = .ok (.aload_n 0, 1) := by decide +kernel
theorem dX5_refusalOfPair_1 : decode cX5_refusalOfPair 1 = .ok (.iload_n 1, 1) := by decide +kernel
theorem dX5_refusalOfPair_2 : decode cX5_refusalOfPair 2 = .ok (.invokevirtual 58, 3) := by decide +kernel
theorem dX5_refusalOfPair_5 : decode cX5_refusalOfPair 5 = .ok (.ifCond .eq 11, 3) := by decide +kernel
theorem dX5_refusalOfPair_8 : decode cX5_refusalOfPair 8 = .ok (.aload_n 0, 1) := by decide +kernel
theorem dX5_refusalOfPair_9 : decode cX5_refusalOfPair 9 = .ok (.iload_n 2, 1) := by decide +kernel
theorem dX5_refusalOfPair_10 : decode cX5_refusalOfPair 10 = .ok (.invokevirtual 58, 3) := by decide +kernel
theorem dX5_refusalOfPair_13 : decode cX5_refusalOfPair 13 = .ok (.ifCond .ne 5, 3) := by decide +kernel
theorem dX5_refusalOfPair_16 : decode cX5_refusalOfPair 16 = .ok (.iconst 1, 1) := by decide +kernel
theorem dX5_refusalOfPair_17 : decode cX5_refusalOfPair 17 = .ok (.ireturn, 1) := by decide +kernel
theorem dX5_refusalOfPair_18 : decode cX5_refusalOfPair 18 = .ok (.iload_n 1, 1) := by decide +kernel
theorem dX5_refusalOfPair_19 : decode cX5_refusalOfPair 19 = .ok (.iload_n 2, 1) := by decide +kernel
theorem dX5_refusalOfPair_20 : decode cX5_refusalOfPair 20 = .ok (.if_icmp .ne 7, 3) := by decide +kernel
theorem dX5_refusalOfPair_23 : decode cX5_refusalOfPair 23 = .ok (.iconst 2, 1) := by decide +kernel
theorem dX5_refusalOfPair_24 : decode cX5_refusalOfPair 24 = .ok (.goto 4, 3) := by decide +kernel
theorem dX5_refusalOfPair_27 : decode cX5_refusalOfPair 27 = .ok (.iconst 0, 1) := by decide +kernel
theorem dX5_refusalOfPair_28 : decode cX5_refusalOfPair 28 = .ok (.ireturn, 1) := by decide +kernel
theorem dX5_grow_0 : decode cX5_grow 0 = .ok (.aload_n 0, 1) := by decide +kernel
theorem dX5_grow_1 : decode cX5_grow 1 = .ok (.getfield 9, 3) := by decide +kernel
theorem dX5_grow_4 : decode cX5_grow 4 = .ok (.bipush 9, 2) := by decide +kernel
theorem dX5_grow_6 : decode cX5_grow 6 = .ok (.if_icmp .lt 5, 3) := by decide +kernel
theorem dX5_grow_9 : decode cX5_grow 9 = .ok (.iconst 3, 1) := by decide +kernel
theorem dX5_grow_10 : decode cX5_grow 10 = .ok (.ireturn, 1) := by decide +kernel
theorem dX5_grow_11 : decode cX5_grow 11 = .ok (.aload_n 0, 1) := by decide +kernel
theorem dX5_grow_12 : decode cX5_grow 12 = .ok (.dup, 1) := by decide +kernel
theorem dX5_grow_13 : decode cX5_grow 13 = .ok (.getfield 9, 3) := by decide +kernel
theorem dX5_grow_16 : decode cX5_grow 16 = .ok (.iconst 1, 1) := by decide +kernel
theorem dX5_grow_17 : decode cX5_grow 17 = .ok (.iadd, 1) := by decide +kernel
theorem dX5_grow_18 : decode cX5_grow 18 = .ok (.putfield 9, 3) := by decide +kernel
theorem dX5_grow_21 : decode cX5_grow 21 = .ok (.iconst 0, 1) := by decide +kernel
theorem dX5_grow_22 : decode cX5_grow 22 = .ok (.ireturn, 1) := by decide +kernel
theorem dX5_join_0 : decode cX5_join 0 = .ok (.aload_n 0, 1) := by decide +kernel
theorem dX5_join_1 : decode cX5_join 1 = .ok (.iload_n 1, 1) := by decide +kernel
theorem dX5_join_2 : decode cX5_join 2 = .ok (.iload_n 2, 1) := by decide +kernel
theorem dX5_join_3 : decode cX5_join 3 = .ok (.invokevirtual 61, 3) := by decide +kernel
theorem dX5_join_6 : decode cX5_join 6 = .ok (.istore 4, 2) := by decide +kernel
theorem dX5_join_8 : decode cX5_join 8 = .ok (.iload 4, 2) := by decide +kernel
theorem dX5_join_10 : decode cX5_join 10 = .ok (.ifCond .ne 9, 3) := by decide +kernel
theorem dX5_join_13 : decode cX5_join 13 = .ok (.iload_n 3, 1) := by decide +kernel
theorem dX5_join_14 : decode cX5_join 14 = .ok (.invokestatic 64, 3) := by decide +kernel
theorem dX5_join_17 : decode cX5_join 17 = .ok (.istore 4, 2) := by decide +kernel
theorem dX5_join_19 : decode cX5_join 19 = .ok (.iload 4, 2) := by decide +kernel
theorem dX5_join_21 : decode cX5_join 21 = .ok (.ifCond .ne 27, 3) := by decide +kernel
theorem dX5_join_24 : decode cX5_join 24 = .ok (.aload_n 0, 1) := by decide +kernel
theorem dX5_join_25 : decode cX5_join 25 = .ok (.getfield 15, 3) := by decide +kernel
theorem dX5_join_28 : decode cX5_join 28 = .ok (.bipush 20, 2) := by decide +kernel
theorem dX5_join_30 : decode cX5_join 30 = .ok (.if_icmp .ge 15, 3) := by decide +kernel
theorem dX5_join_33 : decode cX5_join 33 = .ok (.aload_n 0, 1) := by decide +kernel
theorem dX5_join_34 : decode cX5_join 34 = .ok (.iload_n 1, 1) := by decide +kernel
theorem dX5_join_35 : decode cX5_join 35 = .ok (.iload_n 2, 1) := by decide +kernel
theorem dX5_join_36 : decode cX5_join 36 = .ok (.invokevirtual 68, 3) := by decide +kernel
theorem dX5_join_39 : decode cX5_join 39 = .ok (.sipush (-999), 3) := by decide +kernel
theorem dX5_join_42 : decode cX5_join 42 = .ok (.if_icmp .eq 6, 3) := by decide +kernel
theorem dX5_join_45 : decode cX5_join 45 = .ok (.iconst 3, 1) := by decide +kernel
theorem dX5_join_46 : decode cX5_join 46 = .ok (.istore 4, 2) := by decide +kernel
theorem dX5_join_48 : decode cX5_join 48 = .ok (.iload 4, 2) := by decide +kernel
theorem dX5_join_50 : decode cX5_join 50 = .ok (.ifCond .ne 10, 3) := by decide +kernel
theorem dX5_join_53 : decode cX5_join 53 = .ok (.aload_n 0, 1) := by decide +kernel
theorem dX5_join_54 : decode cX5_join 54 = .ok (.iload_n 1, 1) := by decide +kernel
theorem dX5_join_55 : decode cX5_join 55 = .ok (.iload_n 2, 1) := by decide +kernel
theorem dX5_join_56 : decode cX5_join 56 = .ok (.iload_n 3, 1) := by decide +kernel
theorem dX5_join_57 : decode cX5_join 57 = .ok (.invokevirtual 71, 3) := by decide +kernel
theorem dX5_join_60 : decode cX5_join 60 = .ok (.iload 4, 2) := by decide +kernel
theorem dX5_join_62 : decode cX5_join 62 = .ok (.ireturn, 1) := by decide +kernel
theorem dX5_replace_0 : decode cX5_replace 0 = .ok (.aload_n 0, 1) := by decide +kernel
theorem dX5_replace_1 : decode cX5_replace 1 = .ok (.iload_n 1, 1) := by decide +kernel
theorem dX5_replace_2 : decode cX5_replace 2 = .ok (.iload_n 2, 1) := by decide +kernel
theorem dX5_replace_3 : decode cX5_replace 3 = .ok (.invokevirtual 68, 3) := by decide +kernel
theorem dX5_replace_6 : decode cX5_replace 6 = .ok (.istore 4, 2) := by decide +kernel
theorem dX5_replace_8 : decode cX5_replace 8 = .ok (.iload 4, 2) := by decide +kernel
theorem dX5_replace_10 : decode cX5_replace 10 = .ok (.sipush (-999), 3) := by decide +kernel
theorem dX5_replace_13 : decode cX5_replace 13 = .ok (.if_icmp .ne 28, 3) := by decide +kernel
theorem dX5_replace_16 : decode cX5_replace 16 = .ok (.aload_n 0, 1) := by decide +kernel
theorem dX5_replace_17 : decode cX5_replace 17 = .ok (.getfield 15, 3) := by decide +kernel
theorem dX5_replace_20 : decode cX5_replace 20 = .ok (.bipush 21, 2) := by decide +kernel
theorem dX5_replace_22 : decode cX5_replace 22 = .ok (.if_icmp .ge 19, 3) := by decide +kernel
theorem dX5_replace_25 : decode cX5_replace 25 = .ok (.aload_n 0, 1) := by decide +kernel
theorem dX5_replace_26 : decode cX5_replace 26 = .ok (.getfield 15, 3) := by decide +kernel
theorem dX5_replace_29 : decode cX5_replace 29 = .ok (.istore 4, 2) := by decide +kernel
theorem dX5_replace_31 : decode cX5_replace 31 = .ok (.aload_n 0, 1) := by decide +kernel
theorem dX5_replace_32 : decode cX5_replace 32 = .ok (.dup, 1) := by decide +kernel
theorem dX5_replace_33 : decode cX5_replace 33 = .ok (.getfield 15, 3) := by decide +kernel
theorem dX5_replace_36 : decode cX5_replace 36 = .ok (.iconst 1, 1) := by decide +kernel
theorem dX5_replace_37 : decode cX5_replace 37 = .ok (.iadd, 1) := by decide +kernel
theorem dX5_replace_38 : decode cX5_replace 38 = .ok (.putfield 15, 3) := by decide +kernel
theorem dX5_replace_41 : decode cX5_replace 41 = .ok (.aload_n 0, 1) := by decide +kernel
theorem dX5_replace_42 : decode cX5_replace 42 = .ok (.iload 4, 2) := by decide +kernel
theorem dX5_replace_44 : decode cX5_replace 44 = .ok (.invokevirtual 42, 3) := by decide +kernel
theorem dX5_replace_47 : decode cX5_replace 47 = .ok (.ifCond .eq 43, 3) := by decide +kernel
theorem dX5_replace_50 : decode cX5_replace 50 = .ok (.aload_n 0, 1) := by decide +kernel
theorem dX5_replace_51 : decode cX5_replace 51 = .ok (.getfield 24, 3) := by decide +kernel
theorem dX5_replace_54 : decode cX5_replace 54 = .ok (.iload 4, 2) := by decide +kernel
theorem dX5_replace_56 : decode cX5_replace 56 = .ok (.iload_n 1, 1) := by decide +kernel
theorem dX5_replace_57 : decode cX5_replace 57 = .ok (.iload_n 2, 1) := by decide +kernel
theorem dX5_replace_58 : decode cX5_replace 58 = .ok (.invokestatic 50, 3) := by decide +kernel
theorem dX5_replace_61 : decode cX5_replace 61 = .ok (.iastore, 1) := by decide +kernel
theorem dX5_replace_62 : decode cX5_replace 62 = .ok (.aload_n 0, 1) := by decide +kernel
theorem dX5_replace_63 : decode cX5_replace 63 = .ok (.getfield 28, 3) := by decide +kernel
theorem dX5_replace_66 : decode cX5_replace 66 = .ok (.iload 4, 2) := by decide +kernel
theorem dX5_replace_68 : decode cX5_replace 68 = .ok (.iload_n 1, 1) := by decide +kernel
theorem dX5_replace_69 : decode cX5_replace 69 = .ok (.iload_n 2, 1) := by decide +kernel
theorem dX5_replace_70 : decode cX5_replace 70 = .ok (.invokestatic 55, 3) := by decide +kernel
theorem dX5_replace_73 : decode cX5_replace 73 = .ok (.iastore, 1) := by decide +kernel
theorem dX5_replace_74 : decode cX5_replace 74 = .ok (.aload_n 0, 1) := by decide +kernel
theorem dX5_replace_75 : decode cX5_replace 75 = .ok (.getfield 31, 3) := by decide +kernel
theorem dX5_replace_78 : decode cX5_replace 78 = .ok (.iload 4, 2) := by decide +kernel
theorem dX5_replace_80 : decode cX5_replace 80 = .ok (.iload_n 3, 1) := by decide +kernel
theorem dX5_replace_81 : decode cX5_replace 81 = .ok (.iastore, 1) := by decide +kernel
theorem dX5_replace_82 : decode cX5_replace 82 = .ok (.aload_n 0, 1) := by decide +kernel
theorem dX5_replace_83 : decode cX5_replace 83 = .ok (.getfield 34, 3) := by decide +kernel
theorem dX5_replace_86 : decode cX5_replace 86 = .ok (.iload 4, 2) := by decide +kernel
theorem dX5_replace_88 : decode cX5_replace 88 = .ok (.iconst 0, 1) := by decide +kernel
theorem dX5_replace_89 : decode cX5_replace 89 = .ok (.bastore, 1) := by decide +kernel
theorem dX5_replace_90 : decode cX5_replace 90 = .ok (.return_, 1) := by decide +kernel
theorem dX5_takeAway_0 : decode cX5_takeAway 0 = .ok (.aload_n 0, 1) := by decide +kernel
theorem dX5_takeAway_1 : decode cX5_takeAway 1 = .ok (.iload_n 1, 1) := by decide +kernel
theorem dX5_takeAway_2 : decode cX5_takeAway 2 = .ok (.invokevirtual 42, 3) := by decide +kernel
theorem dX5_takeAway_5 : decode cX5_takeAway 5 = .ok (.ifCond .ne 5, 3) := by decide +kernel
theorem dX5_takeAway_8 : decode cX5_takeAway 8 = .ok (.iconst 1, 1) := by decide +kernel
theorem dX5_takeAway_9 : decode cX5_takeAway 9 = .ok (.ireturn, 1) := by decide +kernel
theorem dX5_takeAway_10 : decode cX5_takeAway 10 = .ok (.aload_n 0, 1) := by decide +kernel
theorem dX5_takeAway_11 : decode cX5_takeAway 11 = .ok (.dup, 1) := by decide +kernel
theorem dX5_takeAway_12 : decode cX5_takeAway 12 = .ok (.getfield 15, 3) := by decide +kernel
theorem dX5_takeAway_15 : decode cX5_takeAway 15 = .ok (.iconst 1, 1) := by decide +kernel
theorem dX5_takeAway_16 : decode cX5_takeAway 16 = .ok (.isub, 1) := by decide +kernel
theorem dX5_takeAway_17 : decode cX5_takeAway 17 = .ok (.putfield 15, 3) := by decide +kernel
theorem dX5_takeAway_20 : decode cX5_takeAway 20 = .ok (.iload_n 1, 1) := by decide +kernel
theorem dX5_takeAway_21 : decode cX5_takeAway 21 = .ok (.istore_n 2, 1) := by decide +kernel
theorem dX5_takeAway_22 : decode cX5_takeAway 22 = .ok (.iload_n 2, 1) := by decide +kernel
theorem dX5_takeAway_23 : decode cX5_takeAway 23 = .ok (.aload_n 0, 1) := by decide +kernel
theorem dX5_takeAway_24 : decode cX5_takeAway 24 = .ok (.getfield 15, 3) := by decide +kernel
theorem dX5_takeAway_27 : decode cX5_takeAway 27 = .ok (.if_icmp .ge 18, 3) := by decide +kernel
theorem dX5_takeAway_30 : decode cX5_takeAway 30 = .ok (.aload_n 0, 1) := by decide +kernel
theorem dX5_takeAway_31 : decode cX5_takeAway 31 = .ok (.aload_n 0, 1) := by decide +kernel
theorem dX5_takeAway_32 : decode cX5_takeAway 32 = .ok (.iload_n 2, 1) := by decide +kernel
theorem dX5_takeAway_33 : decode cX5_takeAway 33 = .ok (.iconst 1, 1) := by decide +kernel
theorem dX5_takeAway_34 : decode cX5_takeAway 34 = .ok (.iadd, 1) := by decide +kernel
theorem dX5_takeAway_35 : decode cX5_takeAway 35 = .ok (.iload_n 2, 1) := by decide +kernel
theorem dX5_takeAway_36 : decode cX5_takeAway 36 = .ok (.invokevirtual 38, 3) := by decide +kernel
theorem dX5_takeAway_39 : decode cX5_takeAway 39 = .ok (.iinc 2 1, 3) := by decide +kernel
theorem dX5_takeAway_42 : decode cX5_takeAway 42 = .ok (.goto (-20), 3) := by decide +kernel
theorem dX5_takeAway_45 : decode cX5_takeAway 45 = .ok (.iconst 0, 1) := by decide +kernel
theorem dX5_takeAway_46 : decode cX5_takeAway 46 = .ok (.ireturn, 1) := by decide +kernel
theorem dX5_stretch_0 : decode cX5_stretch 0 = .ok (.aload_n 0, 1) := by decide +kernel
theorem dX5_stretch_1 : decode cX5_stretch 1 = .ok (.iload_n 1, 1) := by decide +kernel
theorem dX5_stretch_2 : decode cX5_stretch 2 = .ok (.invokevirtual 42, 3) := by decide +kernel
theorem dX5_stretch_5 : decode cX5_stretch 5 = .ok (.ifCond .ne 5, 3) := by decide +kernel
theorem dX5_stretch_8 : decode cX5_stretch 8 = .ok (.iconst 1, 1) := by decide +kernel
theorem dX5_stretch_9 : decode cX5_stretch 9 = .ok (.ireturn, 1) := by decide +kernel
theorem dX5_stretch_10 : decode cX5_stretch 10 = .ok (.iload_n 2, 1) := by decide +kernel
theorem dX5_stretch_11 : decode cX5_stretch 11 = .ok (.invokestatic 64, 3) := by decide +kernel
theorem dX5_stretch_14 : decode cX5_stretch 14 = .ok (.istore_n 3, 1) := by decide +kernel
theorem dX5_stretch_15 : decode cX5_stretch 15 = .ok (.iload_n 3, 1) := by decide +kernel
theorem dX5_stretch_16 : decode cX5_stretch 16 = .ok (.ifCond .ne 10, 3) := by decide +kernel
theorem dX5_stretch_19 : decode cX5_stretch 19 = .ok (.aload_n 0, 1) := by decide +kernel
theorem dX5_stretch_20 : decode cX5_stretch 20 = .ok (.getfield 31, 3) := by decide +kernel
theorem dX5_stretch_23 : decode cX5_stretch 23 = .ok (.iload_n 1, 1) := by decide +kernel
theorem dX5_stretch_24 : decode cX5_stretch 24 = .ok (.iload_n 2, 1) := by decide +kernel
theorem dX5_stretch_25 : decode cX5_stretch 25 = .ok (.iastore, 1) := by decide +kernel
theorem dX5_stretch_26 : decode cX5_stretch 26 = .ok (.iload_n 3, 1) := by decide +kernel
theorem dX5_stretch_27 : decode cX5_stretch 27 = .ok (.ireturn, 1) := by decide +kernel
theorem dX5_shut_0 : decode cX5_shut 0 = .ok (.aload_n 0, 1) := by decide +kernel
theorem dX5_shut_1 : decode cX5_shut 1 = .ok (.iload_n 1, 1) := by decide +kernel
theorem dX5_shut_2 : decode cX5_shut 2 = .ok (.invokevirtual 42, 3) := by decide +kernel
theorem dX5_shut_5 : decode cX5_shut 5 = .ok (.ifCond .ne 5, 3) := by decide +kernel
theorem dX5_shut_8 : decode cX5_shut 8 = .ok (.iconst 1, 1) := by decide +kernel
theorem dX5_shut_9 : decode cX5_shut 9 = .ok (.ireturn, 1) := by decide +kernel
theorem dX5_shut_10 : decode cX5_shut 10 = .ok (.aload_n 0, 1) := by decide +kernel
theorem dX5_shut_11 : decode cX5_shut 11 = .ok (.getfield 34, 3) := by decide +kernel
theorem dX5_shut_14 : decode cX5_shut 14 = .ok (.iload_n 1, 1) := by decide +kernel
theorem dX5_shut_15 : decode cX5_shut 15 = .ok (.iload_n 2, 1) := by decide +kernel
theorem dX5_shut_16 : decode cX5_shut 16 = .ok (.bastore, 1) := by decide +kernel
theorem dX5_shut_17 : decode cX5_shut 17 = .ok (.iconst 0, 1) := by decide +kernel
theorem dX5_shut_18 : decode cX5_shut 18 = .ok (.ireturn, 1) := by decide +kernel
theorem dX5_direct_0 : decode cX5_direct 0 = .ok (.aload_n 0, 1) := by decide +kernel
theorem dX5_direct_1 : decode cX5_direct 1 = .ok (.iload_n 1, 1) := by decide +kernel
theorem dX5_direct_2 : decode cX5_direct 2 = .ok (.iload_n 2, 1) := by decide +kernel
theorem dX5_direct_3 : decode cX5_direct 3 = .ok (.invokevirtual 61, 3) := by decide +kernel
theorem dX5_direct_6 : decode cX5_direct 6 = .ok (.istore_n 3, 1) := by decide +kernel
theorem dX5_direct_7 : decode cX5_direct 7 = .ok (.iload_n 3, 1) := by decide +kernel
theorem dX5_direct_8 : decode cX5_direct 8 = .ok (.ifCond .ne 13, 3) := by decide +kernel
theorem dX5_direct_11 : decode cX5_direct 11 = .ok (.aload_n 0, 1) := by decide +kernel
theorem dX5_direct_12 : decode cX5_direct 12 = .ok (.iload_n 1, 1) := by decide +kernel
theorem dX5_direct_13 : decode cX5_direct 13 = .ok (.putfield 18, 3) := by decide +kernel
theorem dX5_direct_16 : decode cX5_direct 16 = .ok (.aload_n 0, 1) := by decide +kernel
theorem dX5_direct_17 : decode cX5_direct 17 = .ok (.iload_n 2, 1) := by decide +kernel
theorem dX5_direct_18 : decode cX5_direct 18 = .ok (.putfield 21, 3) := by decide +kernel
theorem dX5_direct_21 : decode cX5_direct 21 = .ok (.iload_n 3, 1) := by decide +kernel
theorem dX5_direct_22 : decode cX5_direct 22 = .ok (.ireturn, 1) := by decide +kernel
theorem dX6_init_0 : decode cX6_init 0 = .ok (.aload_n 0, 1) := by decide +kernel
theorem dX6_init_1 : decode cX6_init 1 = .ok (.invokespecial 3, 3) := by decide +kernel
theorem dX6_init_4 : decode cX6_init 4 = .ok (.aload_n 0, 1) := by decide +kernel
theorem dX6_init_5 : decode cX6_init 5 = .ok (.iconst 0, 1) := by decide +kernel
theorem dX6_init_6 : decode cX6_init 6 = .ok (.putfield 9, 3) := by decide +kernel
theorem dX6_init_9 : decode cX6_init 9 = .ok (.return_, 1) := by decide +kernel
theorem dX6_errorIn_0 : decode cX6_errorIn 0 = .ok (.aload_n 0, 1) := by decide +kernel
theorem dX6_errorIn_1 : decode cX6_errorIn 1 = .ok (.iconst 0, 1) := by decide +kernel
theorem dX6_errorIn_2 : decode cX6_errorIn 2 = .ok (.putfield 9, 3) := by decide +kernel
theorem dX6_errorIn_5 : decode cX6_errorIn 5 = .ok (.aload_n 0, 1) := by decide +kernel
theorem dX6_errorIn_6 : decode cX6_errorIn 6 = .ok (.aload_n 1, 1) := by decide +kernel
theorem dX6_errorIn_7 : decode cX6_errorIn 7 = .ok (.aload_n 2, 1) := by decide +kernel
theorem dX6_errorIn_8 : decode cX6_errorIn 8 = .ok (.invokevirtual 15, 3) := by decide +kernel
theorem dX6_errorIn_11 : decode cX6_errorIn 11 = .ok (.ifCond .ne 8, 3) := by decide +kernel
theorem dX6_errorIn_14 : decode cX6_errorIn 14 = .ok (.aload_n 0, 1) := by decide +kernel
theorem dX6_errorIn_15 : decode cX6_errorIn 15 = .ok (.getfield 9, 3) := by decide +kernel
theorem dX6_errorIn_18 : decode cX6_errorIn 18 = .ok (.ireturn, 1) := by decide +kernel
theorem dX6_errorIn_19 : decode cX6_errorIn 19 = .ok (.iconst 0, 1) := by decide +kernel
theorem dX6_errorIn_20 : decode cX6_errorIn 20 = .ok (.istore_n 3, 1) := by decide +kernel
theorem dX6_errorIn_21 : decode cX6_errorIn 21 = .ok (.iload_n 3, 1) := by decide +kernel
theorem dX6_errorIn_22 : decode cX6_errorIn 22 = .ok (.bipush 20, 2) := by decide +kernel
theorem dX6_errorIn_24 : decode cX6_errorIn 24 = .ok (.if_icmp .gt 34, 3) := by decide +kernel
theorem dX6_errorIn_27 : decode cX6_errorIn 27 = .ok (.aload_n 0, 1) := by decide +kernel
theorem dX6_errorIn_28 : decode cX6_errorIn 28 = .ok (.getfield 9, 3) := by decide +kernel
theorem dX6_errorIn_31 : decode cX6_errorIn 31 = .ok (.aload_n 1, 1) := by decide +kernel
theorem dX6_errorIn_32 : decode cX6_errorIn 32 = .ok (.getfield 19, 3) := by decide +kernel
theorem dX6_errorIn_35 : decode cX6_errorIn 35 = .ok (.if_icmp .ge 23, 3) := by decide +kernel
theorem dX6_errorIn_38 : decode cX6_errorIn 38 = .ok (.aload_n 0, 1) := by decide +kernel
theorem dX6_errorIn_39 : decode cX6_errorIn 39 = .ok (.aload_n 1, 1) := by decide +kernel
theorem dX6_errorIn_40 : decode cX6_errorIn 40 = .ok (.aload_n 2, 1) := by decide +kernel
theorem dX6_errorIn_41 : decode cX6_errorIn 41 = .ok (.invokevirtual 24, 3) := by decide +kernel
theorem dX6_errorIn_44 : decode cX6_errorIn 44 = .ok (.ifCond .ne 8, 3) := by decide +kernel
theorem dX6_errorIn_47 : decode cX6_errorIn 47 = .ok (.aload_n 0, 1) := by decide +kernel
theorem dX6_errorIn_48 : decode cX6_errorIn 48 = .ok (.getfield 9, 3) := by decide +kernel
theorem dX6_errorIn_51 : decode cX6_errorIn 51 = .ok (.ireturn, 1) := by decide +kernel
theorem dX6_errorIn_52 : decode cX6_errorIn 52 = .ok (.iinc 3 1, 3) := by decide +kernel
theorem dX6_errorIn_55 : decode cX6_errorIn 55 = .ok (.goto (-34), 3) := by decide +kernel
theorem dX6_errorIn_58 : decode cX6_errorIn 58 = .ok (.sipush (-999), 3) := by decide +kernel
theorem dX6_errorIn_61 : decode cX6_errorIn 61 = .ok (.ireturn, 1) := by decide +kernel
theorem dX6_readHead_0 : decode cX6_readHead 0 = .ok (.aload_n 1, 1) := by decide +kernel
theorem dX6_readHead_1 : decode cX6_readHead 1 = .ok (.aload_n 0, 1) := by decide +kernel
theorem dX6_readHead_2 : decode cX6_readHead 2 = .ok (.getfield 9, 3) := by decide +kernel
theorem dX6_readHead_5 : decode cX6_readHead 5 = .ok (.invokevirtual 27, 3) := by decide +kernel
theorem dX6_readHead_8 : decode cX6_readHead 8 = .ok (.bipush 84, 2) := by decide +kernel
theorem dX6_readHead_10 : decode cX6_readHead 10 = .ok (.if_icmp .eq 5, 3) := by decide +kernel
theorem dX6_readHead_13 : decode cX6_readHead 13 = .ok (.iconst 0, 1) := by decide +kernel
theorem dX6_readHead_14 : decode cX6_readHead 14 = .ok (.ireturn, 1) := by decide +kernel
theorem dX6_readHead_15 : decode cX6_readHead 15 = .ok (.aload_n 0, 1) := by decide +kernel
theorem dX6_readHead_16 : decode cX6_readHead 16 = .ok (.dup, 1) := by decide +kernel
theorem dX6_readHead_17 : decode cX6_readHead 17 = .ok (.getfield 9, 3) := by decide +kernel
theorem dX6_readHead_20 : decode cX6_readHead 20 = .ok (.iconst 1, 1) := by decide +kernel
theorem dX6_readHead_21 : decode cX6_readHead 21 = .ok (.iadd, 1) := by decide +kernel
theorem dX6_readHead_22 : decode cX6_readHead 22 = .ok (.putfield 9, 3) := by decide +kernel
theorem dX6_readHead_25 : decode cX6_readHead 25 = .ok (.aload_n 1, 1) := by decide +kernel
theorem dX6_readHead_26 : decode cX6_readHead 26 = .ok (.aload_n 0, 1) := by decide +kernel
theorem dX6_readHead_27 : decode cX6_readHead 27 = .ok (.getfield 9, 3) := by decide +kernel
theorem dX6_readHead_30 : decode cX6_readHead 30 = .ok (.invokevirtual 31, 3) := by decide +kernel
theorem dX6_readHead_33 : decode cX6_readHead 33 = .ok (.istore_n 3, 1) := by decide +kernel
theorem dX6_readHead_34 : decode cX6_readHead 34 = .ok (.iload_n 3, 1) := by decide +kernel
theorem dX6_readHead_35 : decode cX6_readHead 35 = .ok (.iconst 2, 1) := by decide +kernel
theorem dX6_readHead_36 : decode cX6_readHead 36 = .ok (.if_icmp .lt 9, 3) := by decide +kernel
theorem dX6_readHead_39 : decode cX6_readHead 39 = .ok (.iload_n 3, 1) := by decide +kernel
theorem dX6_readHead_40 : decode cX6_readHead 40 = .ok (.bipush 9, 2) := by decide +kernel
theorem dX6_readHead_42 : decode cX6_readHead 42 = .ok (.if_icmp .le 5, 3) := by decide +kernel
theorem dX6_readHead_45 : decode cX6_readHead 45 = .ok (.iconst 0, 1) := by decide +kernel
theorem dX6_readHead_46 : decode cX6_readHead 46 = .ok (.ireturn, 1) := by decide +kernel
theorem dX6_readHead_47 : decode cX6_readHead 47 = .ok (.aload_n 0, 1) := by decide +kernel
theorem dX6_readHead_48 : decode cX6_readHead 48 = .ok (.dup, 1) := by decide +kernel
theorem dX6_readHead_49 : decode cX6_readHead 49 = .ok (.getfield 9, 3) := by decide +kernel
theorem dX6_readHead_52 : decode cX6_readHead 52 = .ok (.iconst 1, 1) := by decide +kernel
theorem dX6_readHead_53 : decode cX6_readHead 53 = .ok (.iadd, 1) := by decide +kernel
theorem dX6_readHead_54 : decode cX6_readHead 54 = .ok (.putfield 9, 3) := by decide +kernel
theorem dX6_readHead_57 : decode cX6_readHead 57 = .ok (.aload_n 1, 1) := by decide +kernel
theorem dX6_readHead_58 : decode cX6_readHead 58 = .ok (.aload_n 0, 1) := by decide +kernel
theorem dX6_readHead_59 : decode cX6_readHead 59 = .ok (.getfield 9, 3) := by decide +kernel
theorem dX6_readHead_62 : decode cX6_readHead 62 = .ok (.invokevirtual 31, 3) := by decide +kernel
theorem dX6_readHead_65 : decode cX6_readHead 65 = .ok (.istore 4, 2) := by decide +kernel
theorem dX6_readHead_67 : decode cX6_readHead 67 = .ok (.iload 4, 2) := by decide +kernel
theorem dX6_readHead_69 : decode cX6_readHead 69 = .ok (.ifCond .lt 9, 3) := by decide +kernel
theorem dX6_readHead_72 : decode cX6_readHead 72 = .ok (.iload 4, 2) := by decide +kernel
theorem dX6_readHead_74 : decode cX6_readHead 74 = .ok (.iload_n 3, 1) := by decide +kernel
theorem dX6_readHead_75 : decode cX6_readHead 75 = .ok (.if_icmp .lt 5, 3) := by decide +kernel
theorem dX6_readHead_78 : decode cX6_readHead 78 = .ok (.iconst 0, 1) := by decide +kernel
theorem dX6_readHead_79 : decode cX6_readHead 79 = .ok (.ireturn, 1) := by decide +kernel
theorem dX6_readHead_80 : decode cX6_readHead 80 = .ok (.aload_n 0, 1) := by decide +kernel
theorem dX6_readHead_81 : decode cX6_readHead 81 = .ok (.dup, 1) := by decide +kernel
theorem dX6_readHead_82 : decode cX6_readHead 82 = .ok (.getfield 9, 3) := by decide +kernel
theorem dX6_readHead_85 : decode cX6_readHead 85 = .ok (.iconst 1, 1) := by decide +kernel
theorem dX6_readHead_86 : decode cX6_readHead 86 = .ok (.iadd, 1) := by decide +kernel
theorem dX6_readHead_87 : decode cX6_readHead 87 = .ok (.putfield 9, 3) := by decide +kernel
theorem dX6_readHead_90 : decode cX6_readHead 90 = .ok (.aload_n 1, 1) := by decide +kernel
theorem dX6_readHead_91 : decode cX6_readHead 91 = .ok (.aload_n 0, 1) := by decide +kernel
theorem dX6_readHead_92 : decode cX6_readHead 92 = .ok (.getfield 9, 3) := by decide +kernel
theorem dX6_readHead_95 : decode cX6_readHead 95 = .ok (.invokevirtual 31, 3) := by decide +kernel
theorem dX6_readHead_98 : decode cX6_readHead 98 = .ok (.istore 5, 2) := by decide +kernel
theorem dX6_readHead_100 : decode cX6_readHead 100 = .ok (.iload 5, 2) := by decide +kernel
theorem dX6_readHead_102 : decode cX6_readHead 102 = .ok (.ifCond .lt 16, 3) := by decide +kernel
theorem dX6_readHead_105 : decode cX6_readHead 105 = .ok (.iload 5, 2) := by decide +kernel
theorem dX6_readHead_107 : decode cX6_readHead 107 = .ok (.iload_n 3, 1) := by decide +kernel
theorem dX6_readHead_108 : decode cX6_readHead 108 = .ok (.if_icmp .ge 10, 3) := by decide +kernel
theorem dX6_readHead_111 : decode cX6_readHead 111 = .ok (.iload 5, 2) := by decide +kernel
theorem dX6_readHead_113 : decode cX6_readHead 113 = .ok (.iload 4, 2) := by decide +kernel
theorem dX6_readHead_115 : decode cX6_readHead 115 = .ok (.if_icmp .ne 5, 3) := by decide +kernel
theorem dX6_readHead_118 : decode cX6_readHead 118 = .ok (.iconst 0, 1) := by decide +kernel
theorem dX6_readHead_119 : decode cX6_readHead 119 = .ok (.ireturn, 1) := by decide +kernel
theorem dX6_readHead_120 : decode cX6_readHead 120 = .ok (.aload_n 0, 1) := by decide +kernel
theorem dX6_readHead_121 : decode cX6_readHead 121 = .ok (.dup, 1) := by decide +kernel
theorem dX6_readHead_122 : decode cX6_readHead 122 = .ok (.getfield 9, 3) := by decide +kernel
theorem dX6_readHead_125 : decode cX6_readHead 125 = .ok (.iconst 1, 1) := by decide +kernel
theorem dX6_readHead_126 : decode cX6_readHead 126 = .ok (.iadd, 1) := by decide +kernel
theorem dX6_readHead_127 : decode cX6_readHead 127 = .ok (.putfield 9, 3) := by decide +kernel
theorem dX6_readHead_130 : decode cX6_readHead 130 = .ok (.aload_n 2, 1) := by decide +kernel
theorem dX6_readHead_131 : decode cX6_readHead 131 = .ok (.iload_n 3, 1) := by decide +kernel
theorem dX6_readHead_132 : decode cX6_readHead 132 = .ok (.iload 4, 2) := by decide +kernel
theorem dX6_readHead_134 : decode cX6_readHead 134 = .ok (.iload 5, 2) := by decide +kernel
theorem dX6_readHead_136 : decode cX6_readHead 136 = .ok (.invokevirtual 34, 3) := by decide +kernel
theorem dX6_readHead_139 : decode cX6_readHead 139 = .ok (.iconst 1, 1) := by decide +kernel
theorem dX6_readHead_140 : decode cX6_readHead 140 = .ok (.ireturn, 1) := by decide +kernel
theorem dX6_readStreet_0 : decode cX6_readStreet 0 = .ok (.aload_n 1, 1) := by decide +kernel
theorem dX6_readStreet_1 : decode cX6_readStreet 1 = .ok (.aload_n 0, 1) := by decide +kernel
theorem dX6_readStreet_2 : decode cX6_readStreet 2 = .ok (.getfield 9, 3) := by decide +kernel
theorem dX6_readStreet_5 : decode cX6_readStreet 5 = .ok (.invokevirtual 27, 3) := by decide +kernel
theorem dX6_readStreet_8 : decode cX6_readStreet 8 = .ok (.bipush 115, 2) := by decide +kernel
theorem dX6_readStreet_10 : decode cX6_readStreet 10 = .ok (.if_icmp .ne 10, 3) := by decide +kernel
theorem dX6_readStreet_13 : decode cX6_readStreet 13 = .ok (.aload_n 2, 1) := by decide +kernel
theorem dX6_readStreet_14 : decode cX6_readStreet 14 = .ok (.invokevirtual 40, 3) := by decide +kernel
theorem dX6_readStreet_17 : decode cX6_readStreet 17 = .ok (.ifCond .eq 5, 3) := by decide +kernel
theorem dX6_readStreet_20 : decode cX6_readStreet 20 = .ok (.iconst 0, 1) := by decide +kernel
theorem dX6_readStreet_21 : decode cX6_readStreet 21 = .ok (.ireturn, 1) := by decide +kernel
theorem dX6_readStreet_22 : decode cX6_readStreet 22 = .ok (.aload_n 0, 1) := by decide +kernel
theorem dX6_readStreet_23 : decode cX6_readStreet 23 = .ok (.dup, 1) := by decide +kernel
theorem dX6_readStreet_24 : decode cX6_readStreet 24 = .ok (.getfield 9, 3) := by decide +kernel
theorem dX6_readStreet_27 : decode cX6_readStreet 27 = .ok (.iconst 1, 1) := by decide +kernel
theorem dX6_readStreet_28 : decode cX6_readStreet 28 = .ok (.iadd, 1) := by decide +kernel
theorem dX6_readStreet_29 : decode cX6_readStreet 29 = .ok (.putfield 9, 3) := by decide +kernel
theorem dX6_readStreet_32 : decode cX6_readStreet 32 = .ok (.aload_n 1, 1) := by decide +kernel
theorem dX6_readStreet_33 : decode cX6_readStreet 33 = .ok (.aload_n 0, 1) := by decide +kernel
theorem dX6_readStreet_34 : decode cX6_readStreet 34 = .ok (.getfield 9, 3) := by decide +kernel
theorem dX6_readStreet_37 : decode cX6_readStreet 37 = .ok (.invokevirtual 31, 3) := by decide +kernel
theorem dX6_readStreet_40 : decode cX6_readStreet 40 = .ok (.istore_n 3, 1) := by decide +kernel
theorem dX6_readStreet_41 : decode cX6_readStreet 41 = .ok (.aload_n 2, 1) := by decide +kernel
theorem dX6_readStreet_42 : decode cX6_readStreet 42 = .ok (.iload_n 3, 1) := by decide +kernel
theorem dX6_readStreet_43 : decode cX6_readStreet 43 = .ok (.invokevirtual 44, 3) := by decide +kernel
theorem dX6_readStreet_46 : decode cX6_readStreet 46 = .ok (.ifCond .eq 11, 3) := by decide +kernel
theorem dX6_readStreet_49 : decode cX6_readStreet 49 = .ok (.aload_n 2, 1) := by decide +kernel
theorem dX6_readStreet_50 : decode cX6_readStreet 50 = .ok (.iload_n 3, 1) := by decide +kernel
theorem dX6_readStreet_51 : decode cX6_readStreet 51 = .ok (.invokevirtual 48, 3) := by decide +kernel
theorem dX6_readStreet_54 : decode cX6_readStreet 54 = .ok (.ifCond .eq 5, 3) := by decide +kernel
theorem dX6_readStreet_57 : decode cX6_readStreet 57 = .ok (.iconst 0, 1) := by decide +kernel
theorem dX6_readStreet_58 : decode cX6_readStreet 58 = .ok (.ireturn, 1) := by decide +kernel
theorem dX6_readStreet_59 : decode cX6_readStreet 59 = .ok (.aload_n 0, 1) := by decide +kernel
theorem dX6_readStreet_60 : decode cX6_readStreet 60 = .ok (.dup, 1) := by decide +kernel
theorem dX6_readStreet_61 : decode cX6_readStreet 61 = .ok (.getfield 9, 3) := by decide +kernel
theorem dX6_readStreet_64 : decode cX6_readStreet 64 = .ok (.iconst 1, 1) := by decide +kernel
theorem dX6_readStreet_65 : decode cX6_readStreet 65 = .ok (.iadd, 1) := by decide +kernel
theorem dX6_readStreet_66 : decode cX6_readStreet 66 = .ok (.putfield 9, 3) := by decide +kernel
theorem dX6_readStreet_69 : decode cX6_readStreet 69 = .ok (.aload_n 1, 1) := by decide +kernel
theorem dX6_readStreet_70 : decode cX6_readStreet 70 = .ok (.aload_n 0, 1) := by decide +kernel
theorem dX6_readStreet_71 : decode cX6_readStreet 71 = .ok (.getfield 9, 3) := by decide +kernel
theorem dX6_readStreet_74 : decode cX6_readStreet 74 = .ok (.invokevirtual 31, 3) := by decide +kernel
theorem dX6_readStreet_77 : decode cX6_readStreet 77 = .ok (.istore 4, 2) := by decide +kernel
theorem dX6_readStreet_79 : decode cX6_readStreet 79 = .ok (.aload_n 2, 1) := by decide +kernel
theorem dX6_readStreet_80 : decode cX6_readStreet 80 = .ok (.iload 4, 2) := by decide +kernel
theorem dX6_readStreet_82 : decode cX6_readStreet 82 = .ok (.invokevirtual 44, 3) := by decide +kernel
theorem dX6_readStreet_85 : decode cX6_readStreet 85 = .ok (.ifCond .eq 22, 3) := by decide +kernel
theorem dX6_readStreet_88 : decode cX6_readStreet 88 = .ok (.iload_n 3, 1) := by decide +kernel
theorem dX6_readStreet_89 : decode cX6_readStreet 89 = .ok (.iload 4, 2) := by decide +kernel
theorem dX6_readStreet_91 : decode cX6_readStreet 91 = .ok (.if_icmp .eq 16, 3) := by decide +kernel
theorem dX6_readStreet_94 : decode cX6_readStreet 94 = .ok (.aload_n 2, 1) := by decide +kernel
theorem dX6_readStreet_95 : decode cX6_readStreet 95 = .ok (.iload_n 3, 1) := by decide +kernel
theorem dX6_readStreet_96 : decode cX6_readStreet 96 = .ok (.iload 4, 2) := by decide +kernel
theorem dX6_readStreet_98 : decode cX6_readStreet 98 = .ok (.invokevirtual 51, 3) := by decide +kernel
theorem dX6_readStreet_101 : decode cX6_readStreet 101 = .ok (.sipush (-999), 3) := by decide +kernel
theorem dX6_readStreet_104 : decode cX6_readStreet 104 = .ok (.if_icmp .eq 5, 3) := by decide +kernel
theorem dX6_readStreet_107 : decode cX6_readStreet 107 = .ok (.iconst 0, 1) := by decide +kernel
theorem dX6_readStreet_108 : decode cX6_readStreet 108 = .ok (.ireturn, 1) := by decide +kernel
theorem dX6_readStreet_109 : decode cX6_readStreet 109 = .ok (.aload_n 0, 1) := by decide +kernel
theorem dX6_readStreet_110 : decode cX6_readStreet 110 = .ok (.dup, 1) := by decide +kernel
theorem dX6_readStreet_111 : decode cX6_readStreet 111 = .ok (.getfield 9, 3) := by decide +kernel
theorem dX6_readStreet_114 : decode cX6_readStreet 114 = .ok (.iconst 1, 1) := by decide +kernel
theorem dX6_readStreet_115 : decode cX6_readStreet 115 = .ok (.iadd, 1) := by decide +kernel
theorem dX6_readStreet_116 : decode cX6_readStreet 116 = .ok (.putfield 9, 3) := by decide +kernel
theorem dX6_readStreet_119 : decode cX6_readStreet 119 = .ok (.aload_n 1, 1) := by decide +kernel
theorem dX6_readStreet_120 : decode cX6_readStreet 120 = .ok (.aload_n 0, 1) := by decide +kernel
theorem dX6_readStreet_121 : decode cX6_readStreet 121 = .ok (.getfield 9, 3) := by decide +kernel
theorem dX6_readStreet_124 : decode cX6_readStreet 124 = .ok (.invokevirtual 31, 3) := by decide +kernel
theorem dX6_readStreet_127 : decode cX6_readStreet 127 = .ok (.istore 5, 2) := by decide +kernel
theorem dX6_readStreet_129 : decode cX6_readStreet 129 = .ok (.iload 5, 2) := by decide +kernel
theorem dX6_readStreet_131 : decode cX6_readStreet 131 = .ok (.sipush (-999), 3) := by decide +kernel
theorem dX6_readStreet_134 : decode cX6_readStreet 134 = .ok (.if_icmp .ne 5, 3) := by decide +kernel
theorem dX6_readStreet_137 : decode cX6_readStreet 137 = .ok (.iconst 0, 1) := by decide +kernel
theorem dX6_readStreet_138 : decode cX6_readStreet 138 = .ok (.ireturn, 1) := by decide +kernel
theorem dX6_readStreet_139 : decode cX6_readStreet 139 = .ok (.aload_n 0, 1) := by decide +kernel
theorem dX6_readStreet_140 : decode cX6_readStreet 140 = .ok (.dup, 1) := by decide +kernel
theorem dX6_readStreet_141 : decode cX6_readStreet 141 = .ok (.getfield 9, 3) := by decide +kernel
theorem dX6_readStreet_144 : decode cX6_readStreet 144 = .ok (.iconst 1, 1) := by decide +kernel
theorem dX6_readStreet_145 : decode cX6_readStreet 145 = .ok (.iadd, 1) := by decide +kernel
theorem dX6_readStreet_146 : decode cX6_readStreet 146 = .ok (.putfield 9, 3) := by decide +kernel
theorem dX6_readStreet_149 : decode cX6_readStreet 149 = .ok (.aload_n 1, 1) := by decide +kernel
theorem dX6_readStreet_150 : decode cX6_readStreet 150 = .ok (.aload_n 0, 1) := by decide +kernel
theorem dX6_readStreet_151 : decode cX6_readStreet 151 = .ok (.getfield 9, 3) := by decide +kernel
theorem dX6_readStreet_154 : decode cX6_readStreet 154 = .ok (.invokevirtual 31, 3) := by decide +kernel
theorem dX6_readStreet_157 : decode cX6_readStreet 157 = .ok (.istore 6, 2) := by decide +kernel
theorem dX6_readStreet_159 : decode cX6_readStreet 159 = .ok (.iload 6, 2) := by decide +kernel
theorem dX6_readStreet_161 : decode cX6_readStreet 161 = .ok (.sipush (-999), 3) := by decide +kernel
theorem dX6_readStreet_164 : decode cX6_readStreet 164 = .ok (.if_icmp .eq 11, 3) := by decide +kernel
theorem dX6_readStreet_167 : decode cX6_readStreet 167 = .ok (.iload 5, 2) := by decide +kernel
theorem dX6_readStreet_169 : decode cX6_readStreet 169 = .ok (.iload 6, 2) := by decide +kernel
theorem dX6_readStreet_171 : decode cX6_readStreet 171 = .ok (.iadd, 1) := by decide +kernel
theorem dX6_readStreet_172 : decode cX6_readStreet 172 = .ok (.ifCond .ne 5, 3) := by decide +kernel
theorem dX6_readStreet_175 : decode cX6_readStreet 175 = .ok (.iconst 0, 1) := by decide +kernel
theorem dX6_readStreet_176 : decode cX6_readStreet 176 = .ok (.ireturn, 1) := by decide +kernel
theorem dX6_readStreet_177 : decode cX6_readStreet 177 = .ok (.aload_n 0, 1) := by decide +kernel
theorem dX6_readStreet_178 : decode cX6_readStreet 178 = .ok (.dup, 1) := by decide +kernel
theorem dX6_readStreet_179 : decode cX6_readStreet 179 = .ok (.getfield 9, 3) := by decide +kernel
theorem dX6_readStreet_182 : decode cX6_readStreet 182 = .ok (.iconst 1, 1) := by decide +kernel
theorem dX6_readStreet_183 : decode cX6_readStreet 183 = .ok (.iadd, 1) := by decide +kernel
theorem dX6_readStreet_184 : decode cX6_readStreet 184 = .ok (.putfield 9, 3) := by decide +kernel
theorem dX6_readStreet_187 : decode cX6_readStreet 187 = .ok (.aload_n 2, 1) := by decide +kernel
theorem dX6_readStreet_188 : decode cX6_readStreet 188 = .ok (.iload_n 3, 1) := by decide +kernel
theorem dX6_readStreet_189 : decode cX6_readStreet 189 = .ok (.iload 4, 2) := by decide +kernel
theorem dX6_readStreet_191 : decode cX6_readStreet 191 = .ok (.bipush 10, 2) := by decide +kernel
theorem dX6_readStreet_193 : decode cX6_readStreet 193 = .ok (.iload 5, 2) := by decide +kernel
theorem dX6_readStreet_195 : decode cX6_readStreet 195 = .ok (.imul, 1) := by decide +kernel
theorem dX6_readStreet_196 : decode cX6_readStreet 196 = .ok (.iload 6, 2) := by decide +kernel
theorem dX6_readStreet_198 : decode cX6_readStreet 198 = .ok (.iadd, 1) := by decide +kernel
theorem dX6_readStreet_199 : decode cX6_readStreet 199 = .ok (.invokevirtual 55, 3) := by decide +kernel
theorem dX6_readStreet_202 : decode cX6_readStreet 202 = .ok (.pop, 1) := by decide +kernel
theorem dX6_readStreet_203 : decode cX6_readStreet 203 = .ok (.aload_n 1, 1) := by decide +kernel
theorem dX6_readStreet_204 : decode cX6_readStreet 204 = .ok (.aload_n 0, 1) := by decide +kernel
theorem dX6_readStreet_205 : decode cX6_readStreet 205 = .ok (.getfield 9, 3) := by decide +kernel
theorem dX6_readStreet_208 : decode cX6_readStreet 208 = .ok (.invokevirtual 27, 3) := by decide +kernel
theorem dX6_readStreet_211 : decode cX6_readStreet 211 = .ok (.bipush 120, 2) := by decide +kernel
theorem dX6_readStreet_213 : decode cX6_readStreet 213 = .ok (.if_icmp .ne 25, 3) := by decide +kernel
theorem dX6_readStreet_216 : decode cX6_readStreet 216 = .ok (.aload_n 0, 1) := by decide +kernel
theorem dX6_readStreet_217 : decode cX6_readStreet 217 = .ok (.dup, 1) := by decide +kernel
theorem dX6_readStreet_218 : decode cX6_readStreet 218 = .ok (.getfield 9, 3) := by decide +kernel
theorem dX6_readStreet_221 : decode cX6_readStreet 221 = .ok (.iconst 1, 1) := by decide +kernel
theorem dX6_readStreet_222 : decode cX6_readStreet 222 = .ok (.iadd, 1) := by decide +kernel
theorem dX6_readStreet_223 : decode cX6_readStreet 223 = .ok (.putfield 9, 3) := by decide +kernel
theorem dX6_readStreet_226 : decode cX6_readStreet 226 = .ok (.aload_n 2, 1) := by decide +kernel
theorem dX6_readStreet_227 : decode cX6_readStreet 227 = .ok (.aload_n 2, 1) := by decide +kernel
theorem dX6_readStreet_228 : decode cX6_readStreet 228 = .ok (.getfield 59, 3) := by decide +kernel
theorem dX6_readStreet_231 : decode cX6_readStreet 231 = .ok (.iconst 1, 1) := by decide +kernel
theorem dX6_readStreet_232 : decode cX6_readStreet 232 = .ok (.isub, 1) := by decide +kernel
theorem dX6_readStreet_233 : decode cX6_readStreet 233 = .ok (.iconst 1, 1) := by decide +kernel
theorem dX6_readStreet_234 : decode cX6_readStreet 234 = .ok (.invokevirtual 62, 3) := by decide +kernel
theorem dX6_readStreet_237 : decode cX6_readStreet 237 = .ok (.pop, 1) := by decide +kernel
theorem dX6_readStreet_238 : decode cX6_readStreet 238 = .ok (.iconst 1, 1) := by decide +kernel
theorem dX6_readStreet_239 : decode cX6_readStreet 239 = .ok (.ireturn, 1) := by decide +kernel
theorem dX7_init_0 : decode cX7_init 0 = .ok (.aload_n 0, 1) := by decide +kernel
theorem dX7_init_1 : decode cX7_init 1 = .ok (.invokespecial 1, 3) := by decide +kernel
theorem dX7_init_4 : decode cX7_init 4 = .ok (.aload_n 0, 1) := by decide +kernel
theorem dX7_init_5 : decode cX7_init 5 = .ok (.new 7, 3) := by decide +kernel
theorem dX7_init_8 : decode cX7_init 8 = .ok (.dup, 1) := by decide +kernel
theorem dX7_init_9 : decode cX7_init 9 = .ok (.invokespecial 9, 3) := by decide +kernel
theorem dX7_init_12 : decode cX7_init 12 = .ok (.putfield 10, 3) := by decide +kernel
theorem dX7_init_15 : decode cX7_init 15 = .ok (.aload_n 0, 1) := by decide +kernel
theorem dX7_init_16 : decode cX7_init 16 = .ok (.new 16, 3) := by decide +kernel
theorem dX7_init_19 : decode cX7_init 19 = .ok (.dup, 1) := by decide +kernel
theorem dX7_init_20 : decode cX7_init 20 = .ok (.invokespecial 18, 3) := by decide +kernel
theorem dX7_init_23 : decode cX7_init 23 = .ok (.putfield 19, 3) := by decide +kernel
theorem dX7_init_26 : decode cX7_init 26 = .ok (.aload_n 0, 1) := by decide +kernel
theorem dX7_init_27 : decode cX7_init 27 = .ok (.new 23, 3) := by decide +kernel
theorem dX7_init_30 : decode cX7_init 30 = .ok (.dup, 1) := by decide +kernel
theorem dX7_init_31 : decode cX7_init 31 = .ok (.invokespecial 25, 3) := by decide +kernel
theorem dX7_init_34 : decode cX7_init 34 = .ok (.putfield 26, 3) := by decide +kernel
theorem dX7_init_37 : decode cX7_init 37 = .ok (.aload_n 0, 1) := by decide +kernel
theorem dX7_init_38 : decode cX7_init 38 = .ok (.new 30, 3) := by decide +kernel
theorem dX7_init_41 : decode cX7_init 41 = .ok (.dup, 1) := by decide +kernel
theorem dX7_init_42 : decode cX7_init 42 = .ok (.invokespecial 32, 3) := by decide +kernel
theorem dX7_init_45 : decode cX7_init 45 = .ok (.putfield 33, 3) := by decide +kernel
theorem dX7_init_48 : decode cX7_init 48 = .ok (.aload_n 0, 1) := by decide +kernel
theorem dX7_init_49 : decode cX7_init 49 = .ok (.new 30, 3) := by decide +kernel
theorem dX7_init_52 : decode cX7_init 52 = .ok (.dup, 1) := by decide +kernel
theorem dX7_init_53 : decode cX7_init 53 = .ok (.invokespecial 32, 3) := by decide +kernel
theorem dX7_init_56 : decode cX7_init 56 = .ok (.putfield 37, 3) := by decide +kernel
theorem dX7_init_59 : decode cX7_init 59 = .ok (.aload_n 0, 1) := by decide +kernel
theorem dX7_init_60 : decode cX7_init 60 = .ok (.new 40, 3) := by decide +kernel
theorem dX7_init_63 : decode cX7_init 63 = .ok (.dup, 1) := by decide +kernel
theorem dX7_init_64 : decode cX7_init 64 = .ok (.invokespecial 42, 3) := by decide +kernel
theorem dX7_init_67 : decode cX7_init 67 = .ok (.putfield 43, 3) := by decide +kernel
theorem dX7_init_70 : decode cX7_init 70 = .ok (.aload_n 0, 1) := by decide +kernel
theorem dX7_init_71 : decode cX7_init 71 = .ok (.new 47, 3) := by decide +kernel
theorem dX7_init_74 : decode cX7_init 74 = .ok (.dup, 1) := by decide +kernel
theorem dX7_init_75 : decode cX7_init 75 = .ok (.invokespecial 49, 3) := by decide +kernel
theorem dX7_init_78 : decode cX7_init 78 = .ok (.putfield 50, 3) := by decide +kernel
theorem dX7_init_81 : decode cX7_init 81 = .ok (.aload_n 0, 1) := by decide +kernel
theorem dX7_init_82 : decode cX7_init 82 = .ok (.new 54, 3) := by decide +kernel
theorem dX7_init_85 : decode cX7_init 85 = .ok (.dup, 1) := by decide +kernel
theorem dX7_init_86 : decode cX7_init 86 = .ok (.invokespecial 56, 3) := by decide +kernel
theorem dX7_init_89 : decode cX7_init 89 = .ok (.putfield 57, 3) := by decide +kernel
theorem dX7_init_92 : decode cX7_init 92 = .ok (.aload_n 0, 1) := by decide +kernel
theorem dX7_init_93 : decode cX7_init 93 = .ok (.new 54, 3) := by decide +kernel
theorem dX7_init_96 : decode cX7_init 96 = .ok (.dup, 1) := by decide +kernel
theorem dX7_init_97 : decode cX7_init 97 = .ok (.invokespecial 56, 3) := by decide +kernel
theorem dX7_init_100 : decode cX7_init 100 = .ok (.putfield 61, 3) := by decide +kernel
theorem dX7_init_103 : decode cX7_init 103 = .ok (.return_, 1) := by decide +kernel
theorem dX7_append_0 : decode cX7_append 0 = .ok (.iload_n 1, 1) := by decide +kernel
theorem dX7_append_1 : decode cX7_append 1 = .ok (.ifCond .lt 10, 3) := by decide +kernel
theorem dX7_append_4 : decode cX7_append 4 = .ok (.iload_n 1, 1) := by decide +kernel
theorem dX7_append_5 : decode cX7_append 5 = .ok (.sipush 255, 3) := by decide +kernel
theorem dX7_append_8 : decode cX7_append 8 = .ok (.if_icmp .le 13, 3) := by decide +kernel
theorem dX7_append_11 : decode cX7_append 11 = .ok (.new 64, 3) := by decide +kernel
theorem dX7_append_14 : decode cX7_append 14 = .ok (.dup, 1) := by decide +kernel
theorem dX7_append_15 : decode cX7_append 15 = .ok (.ldc 66, 2) := by decide +kernel
theorem dX7_append_17 : decode cX7_append 17 = .ok (.invokespecial 68, 3) := by decide +kernel
theorem dX7_append_20 : decode cX7_append 20 = .ok (.athrow, 1) := by decide +kernel
theorem dX7_append_21 : decode cX7_append 21 = .ok (.aload_n 0, 1) := by decide +kernel
theorem dX7_append_22 : decode cX7_append 22 = .ok (.getfield 10, 3) := by decide +kernel
theorem dX7_append_25 : decode cX7_append 25 = .ok (.getfield 71, 3) := by decide +kernel
theorem dX7_append_28 : decode cX7_append 28 = .ok (.sipush 140, 3) := by decide +kernel
theorem dX7_append_31 : decode cX7_append 31 = .ok (.if_icmp .lt 13, 3) := by decide +kernel
theorem dX7_append_34 : decode cX7_append 34 = .ok (.new 75, 3) := by decide +kernel
theorem dX7_append_37 : decode cX7_append 37 = .ok (.dup, 1) := by decide +kernel
theorem dX7_append_38 : decode cX7_append 38 = .ok (.ldc 77, 2) := by decide +kernel
theorem dX7_append_40 : decode cX7_append 40 = .ok (.invokespecial 79, 3) := by decide +kernel
theorem dX7_append_43 : decode cX7_append 43 = .ok (.athrow, 1) := by decide +kernel
theorem dX7_append_44 : decode cX7_append 44 = .ok (.aload_n 0, 1) := by decide +kernel
theorem dX7_append_45 : decode cX7_append 45 = .ok (.getfield 10, 3) := by decide +kernel
theorem dX7_append_48 : decode cX7_append 48 = .ok (.iload_n 1, 1) := by decide +kernel
theorem dX7_append_49 : decode cX7_append 49 = .ok (.i2c, 1) := by decide +kernel
theorem dX7_append_50 : decode cX7_append 50 = .ok (.invokevirtual 80, 3) := by decide +kernel
theorem dX7_append_53 : decode cX7_append 53 = .ok (.aload_n 0, 1) := by decide +kernel
theorem dX7_append_54 : decode cX7_append 54 = .ok (.getfield 10, 3) := by decide +kernel
theorem dX7_append_57 : decode cX7_append 57 = .ok (.getfield 71, 3) := by decide +kernel
theorem dX7_append_60 : decode cX7_append 60 = .ok (.ireturn, 1) := by decide +kernel
theorem dX7_clearText_0 : decode cX7_clearText 0 = .ok (.aload_n 0, 1) := by decide +kernel
theorem dX7_clearText_1 : decode cX7_clearText 1 = .ok (.getfield 10, 3) := by decide +kernel
theorem dX7_clearText_4 : decode cX7_clearText 4 = .ok (.getfield 71, 3) := by decide +kernel
theorem dX7_clearText_7 : decode cX7_clearText 7 = .ok (.istore_n 1, 1) := by decide +kernel
theorem dX7_clearText_8 : decode cX7_clearText 8 = .ok (.aload_n 0, 1) := by decide +kernel
theorem dX7_clearText_9 : decode cX7_clearText 9 = .ok (.getfield 10, 3) := by decide +kernel
theorem dX7_clearText_12 : decode cX7_clearText 12 = .ok (.iconst 0, 1) := by decide +kernel
theorem dX7_clearText_13 : decode cX7_clearText 13 = .ok (.putfield 71, 3) := by decide +kernel
theorem dX7_clearText_16 : decode cX7_clearText 16 = .ok (.iload_n 1, 1) := by decide +kernel
theorem dX7_clearText_17 : decode cX7_clearText 17 = .ok (.ireturn, 1) := by decide +kernel
theorem dX7_errorPosition_0 : decode cX7_errorPosition 0 = .ok (.iload_n 1, 1) := by decide +kernel
theorem dX7_errorPosition_1 : decode cX7_errorPosition 1 = .ok (.ifCond .eq 17, 3) := by decide +kernel
theorem dX7_errorPosition_4 : decode cX7_errorPosition 4 = .ok (.aload_n 0, 1) := by decide +kernel
theorem dX7_errorPosition_5 : decode cX7_errorPosition 5 = .ok (.getfield 26, 3) := by decide +kernel
theorem dX7_errorPosition_8 : decode cX7_errorPosition 8 = .ok (.aload_n 0, 1) := by decide +kernel
theorem dX7_errorPosition_9 : decode cX7_errorPosition 9 = .ok (.getfield 10, 3) := by decide +kernel
theorem dX7_errorPosition_12 : decode cX7_errorPosition 12 = .ok (.invokevirtual 84, 3) := by decide +kernel
theorem dX7_errorPosition_15 : decode cX7_errorPosition 15 = .ok (.goto 18, 3) := by decide +kernel
theorem dX7_errorPosition_18 : decode cX7_errorPosition 18 = .ok (.aload_n 0, 1) := by decide +kernel
theorem dX7_errorPosition_19 : decode cX7_errorPosition 19 = .ok (.getfield 19, 3) := by decide +kernel
theorem dX7_errorPosition_22 : decode cX7_errorPosition 22 = .ok (.aload_n 0, 1) := by decide +kernel
theorem dX7_errorPosition_23 : decode cX7_errorPosition 23 = .ok (.getfield 10, 3) := by decide +kernel
theorem dX7_errorPosition_26 : decode cX7_errorPosition 26 = .ok (.aload_n 0, 1) := by decide +kernel
theorem dX7_errorPosition_27 : decode cX7_errorPosition 27 = .ok (.getfield 37, 3) := by decide +kernel
theorem dX7_errorPosition_30 : decode cX7_errorPosition 30 = .ok (.invokevirtual 88, 3) := by decide +kernel
theorem dX7_errorPosition_33 : decode cX7_errorPosition 33 = .ok (.ireturn, 1) := by decide +kernel
theorem dX7_load_0 : decode cX7_load 0 = .ok (.aload_n 0, 1) := by decide +kernel
theorem dX7_load_1 : decode cX7_load 1 = .ok (.getfield 19, 3) := by decide +kernel
theorem dX7_load_4 : decode cX7_load 4 = .ok (.aload_n 0, 1) := by decide +kernel
theorem dX7_load_5 : decode cX7_load 5 = .ok (.getfield 10, 3) := by decide +kernel
theorem dX7_load_8 : decode cX7_load 8 = .ok (.aload_n 0, 1) := by decide +kernel
theorem dX7_load_9 : decode cX7_load 9 = .ok (.getfield 37, 3) := by decide +kernel
theorem dX7_load_12 : decode cX7_load 12 = .ok (.invokevirtual 88, 3) := by decide +kernel
theorem dX7_load_15 : decode cX7_load 15 = .ok (.sipush (-999), 3) := by decide +kernel
theorem dX7_load_18 : decode cX7_load 18 = .ok (.if_icmp .eq 13, 3) := by decide +kernel
theorem dX7_load_21 : decode cX7_load 21 = .ok (.new 75, 3) := by decide +kernel
theorem dX7_load_24 : decode cX7_load 24 = .ok (.dup, 1) := by decide +kernel
theorem dX7_load_25 : decode cX7_load 25 = .ok (.ldc 91, 2) := by decide +kernel
theorem dX7_load_27 : decode cX7_load 27 = .ok (.invokespecial 79, 3) := by decide +kernel
theorem dX7_load_30 : decode cX7_load 30 = .ok (.athrow, 1) := by decide +kernel
theorem dX7_load_31 : decode cX7_load 31 = .ok (.aload_n 0, 1) := by decide +kernel
theorem dX7_load_32 : decode cX7_load 32 = .ok (.getfield 33, 3) := by decide +kernel
theorem dX7_load_35 : decode cX7_load 35 = .ok (.aload_n 0, 1) := by decide +kernel
theorem dX7_load_36 : decode cX7_load 36 = .ok (.getfield 37, 3) := by decide +kernel
theorem dX7_load_39 : decode cX7_load 39 = .ok (.invokevirtual 93, 3) := by decide +kernel
theorem dX7_load_42 : decode cX7_load 42 = .ok (.aload_n 0, 1) := by decide +kernel
theorem dX7_load_43 : decode cX7_load 43 = .ok (.getfield 43, 3) := by decide +kernel
theorem dX7_load_46 : decode cX7_load 46 = .ok (.invokevirtual 97, 3) := by decide +kernel
theorem dX7_load_49 : decode cX7_load 49 = .ok (.aload_n 0, 1) := by decide +kernel
theorem dX7_load_50 : decode cX7_load 50 = .ok (.getfield 50, 3) := by decide +kernel
theorem dX7_load_53 : decode cX7_load 53 = .ok (.invokevirtual 100, 3) := by decide +kernel
theorem dX7_load_56 : decode cX7_load 56 = .ok (.aload_n 0, 1) := by decide +kernel
theorem dX7_load_57 : decode cX7_load 57 = .ok (.getfield 33, 3) := by decide +kernel
theorem dX7_load_60 : decode cX7_load 60 = .ok (.getfield 103, 3) := by decide +kernel
theorem dX7_load_63 : decode cX7_load 63 = .ok (.ireturn, 1) := by decide +kernel
theorem dX7_about_0 : decode cX7_about 0 = .ok (.iload_n 1, 1) := by decide +kernel
theorem dX7_about_1 : decode cX7_about 1 = .ok (.tableswitch 120 0 7 #[47, 55, 63, 71, 79, 87, 96, 115], 47) := by decide +kernel
theorem dX7_about_48 : decode cX7_about 48 = .ok (.aload_n 0, 1) := by decide +kernel
theorem dX7_about_49 : decode cX7_about 49 = .ok (.getfield 33, 3) := by decide +kernel
theorem dX7_about_52 : decode cX7_about 52 = .ok (.getfield 106, 3) := by decide +kernel
theorem dX7_about_55 : decode cX7_about 55 = .ok (.ireturn, 1) := by decide +kernel
theorem dX7_about_56 : decode cX7_about 56 = .ok (.aload_n 0, 1) := by decide +kernel
theorem dX7_about_57 : decode cX7_about 57 = .ok (.getfield 33, 3) := by decide +kernel
theorem dX7_about_60 : decode cX7_about 60 = .ok (.getfield 103, 3) := by decide +kernel
theorem dX7_about_63 : decode cX7_about 63 = .ok (.ireturn, 1) := by decide +kernel
theorem dX7_about_64 : decode cX7_about 64 = .ok (.aload_n 0, 1) := by decide +kernel
theorem dX7_about_65 : decode cX7_about 65 = .ok (.getfield 33, 3) := by decide +kernel
theorem dX7_about_68 : decode cX7_about 68 = .ok (.invokevirtual 109, 3) := by decide +kernel
theorem dX7_about_71 : decode cX7_about 71 = .ok (.ireturn, 1) := by decide +kernel
theorem dX7_about_72 : decode cX7_about 72 = .ok (.aload_n 0, 1) := by decide +kernel
theorem dX7_about_73 : decode cX7_about 73 = .ok (.getfield 33, 3) := by decide +kernel
theorem dX7_about_76 : decode cX7_about 76 = .ok (.getfield 113, 3) := by decide +kernel
theorem dX7_about_79 : decode cX7_about 79 = .ok (.ireturn, 1) := by decide +kernel
theorem dX7_about_80 : decode cX7_about 80 = .ok (.aload_n 0, 1) := by decide +kernel
theorem dX7_about_81 : decode cX7_about 81 = .ok (.getfield 33, 3) := by decide +kernel
theorem dX7_about_84 : decode cX7_about 84 = .ok (.getfield 116, 3) := by decide +kernel
theorem dX7_about_87 : decode cX7_about 87 = .ok (.ireturn, 1) := by decide +kernel
theorem dX7_about_88 : decode cX7_about 88 = .ok (.aload_n 0, 1) := by decide +kernel
theorem dX7_about_89 : decode cX7_about 89 = .ok (.aload_n 0, 1) := by decide +kernel
theorem dX7_about_90 : decode cX7_about 90 = .ok (.getfield 33, 3) := by decide +kernel
theorem dX7_about_93 : decode cX7_about 93 = .ok (.invokevirtual 119, 3) := by decide +kernel
theorem dX7_about_96 : decode cX7_about 96 = .ok (.ireturn, 1) := by decide +kernel
theorem dX7_about_97 : decode cX7_about 97 = .ok (.aload_n 0, 1) := by decide +kernel
theorem dX7_about_98 : decode cX7_about 98 = .ok (.getfield 57, 3) := by decide +kernel
theorem dX7_about_101 : decode cX7_about 101 = .ok (.aload_n 0, 1) := by decide +kernel
theorem dX7_about_102 : decode cX7_about 102 = .ok (.getfield 33, 3) := by decide +kernel
theorem dX7_about_105 : decode cX7_about 105 = .ok (.invokevirtual 123, 3) := by decide +kernel
theorem dX7_about_108 : decode cX7_about 108 = .ok (.aload_n 0, 1) := by decide +kernel
theorem dX7_about_109 : decode cX7_about 109 = .ok (.getfield 57, 3) := by decide +kernel
theorem dX7_about_112 : decode cX7_about 112 = .ok (.invokevirtual 126, 3) := by decide +kernel
theorem dX7_about_115 : decode cX7_about 115 = .ok (.ireturn, 1) := by decide +kernel
theorem dX7_about_116 : decode cX7_about 116 = .ok (.aload_n 0, 1) := by decide +kernel
theorem dX7_about_117 : decode cX7_about 117 = .ok (.invokevirtual 128, 3) := by decide +kernel
theorem dX7_about_120 : decode cX7_about 120 = .ok (.ireturn, 1) := by decide +kernel
theorem dX7_about_121 : decode cX7_about 121 = .ok (.new 64, 3) := by decide +kernel
theorem dX7_about_124 : decode cX7_about 124 = .ok (.dup, 1) := by decide +kernel
theorem dX7_about_125 : decode cX7_about 125 = .ok (.ldc 131, 2) := by decide +kernel
theorem dX7_about_127 : decode cX7_about 127 = .ok (.invokespecial 68, 3) := by decide +kernel
theorem dX7_about_130 : decode cX7_about 130 = .ok (.athrow, 1) := by decide +kernel
theorem dX7_street_0 : decode cX7_street 0 = .ok (.aload_n 0, 1) := by decide +kernel
theorem dX7_street_1 : decode cX7_street 1 = .ok (.iload_n 1, 1) := by decide +kernel
theorem dX7_street_2 : decode cX7_street 2 = .ok (.invokevirtual 133, 3) := by decide +kernel
theorem dX7_street_5 : decode cX7_street 5 = .ok (.iload_n 2, 1) := by decide +kernel
theorem dX7_street_6 : decode cX7_street 6 = .ok (.tableswitch 114 0 4 #[34, 44, 54, 64, 82], 34) := by decide +kernel
theorem dX7_street_40 : decode cX7_street 40 = .ok (.aload_n 0, 1) := by decide +kernel
theorem dX7_street_41 : decode cX7_street 41 = .ok (.getfield 33, 3) := by decide +kernel
theorem dX7_street_44 : decode cX7_street 44 = .ok (.getfield 137, 3) := by decide +kernel
theorem dX7_street_47 : decode cX7_street 47 = .ok (.iload_n 1, 1) := by decide +kernel
theorem dX7_street_48 : decode cX7_street 48 = .ok (.iaload, 1) := by decide +kernel
theorem dX7_street_49 : decode cX7_street 49 = .ok (.ireturn, 1) := by decide +kernel
theorem dX7_street_50 : decode cX7_street 50 = .ok (.aload_n 0, 1) := by decide +kernel
theorem dX7_street_51 : decode cX7_street 51 = .ok (.getfield 33, 3) := by decide +kernel
theorem dX7_street_54 : decode cX7_street 54 = .ok (.getfield 141, 3) := by decide +kernel
theorem dX7_street_57 : decode cX7_street 57 = .ok (.iload_n 1, 1) := by decide +kernel
theorem dX7_street_58 : decode cX7_street 58 = .ok (.iaload, 1) := by decide +kernel
theorem dX7_street_59 : decode cX7_street 59 = .ok (.ireturn, 1) := by decide +kernel
theorem dX7_street_60 : decode cX7_street 60 = .ok (.aload_n 0, 1) := by decide +kernel
theorem dX7_street_61 : decode cX7_street 61 = .ok (.getfield 33, 3) := by decide +kernel
theorem dX7_street_64 : decode cX7_street 64 = .ok (.getfield 144, 3) := by decide +kernel
theorem dX7_street_67 : decode cX7_street 67 = .ok (.iload_n 1, 1) := by decide +kernel
theorem dX7_street_68 : decode cX7_street 68 = .ok (.iaload, 1) := by decide +kernel
theorem dX7_street_69 : decode cX7_street 69 = .ok (.ireturn, 1) := by decide +kernel
theorem dX7_street_70 : decode cX7_street 70 = .ok (.aload_n 0, 1) := by decide +kernel
theorem dX7_street_71 : decode cX7_street 71 = .ok (.getfield 33, 3) := by decide +kernel
theorem dX7_street_74 : decode cX7_street 74 = .ok (.getfield 146, 3) := by decide +kernel
theorem dX7_street_77 : decode cX7_street 77 = .ok (.iload_n 1, 1) := by decide +kernel
theorem dX7_street_78 : decode cX7_street 78 = .ok (.baload, 1) := by decide +kernel
theorem dX7_street_79 : decode cX7_street 79 = .ok (.ifCond .eq 7, 3) := by decide +kernel
theorem dX7_street_82 : decode cX7_street 82 = .ok (.iconst 1, 1) := by decide +kernel
theorem dX7_street_83 : decode cX7_street 83 = .ok (.goto 4, 3) := by decide +kernel
theorem dX7_street_86 : decode cX7_street 86 = .ok (.iconst 0, 1) := by decide +kernel
theorem dX7_street_87 : decode cX7_street 87 = .ok (.ireturn, 1) := by decide +kernel
theorem dX7_street_88 : decode cX7_street 88 = .ok (.aload_n 0, 1) := by decide +kernel
theorem dX7_street_89 : decode cX7_street 89 = .ok (.getfield 57, 3) := by decide +kernel
theorem dX7_street_92 : decode cX7_street 92 = .ok (.aload_n 0, 1) := by decide +kernel
theorem dX7_street_93 : decode cX7_street 93 = .ok (.getfield 33, 3) := by decide +kernel
theorem dX7_street_96 : decode cX7_street 96 = .ok (.invokevirtual 123, 3) := by decide +kernel
theorem dX7_street_99 : decode cX7_street 99 = .ok (.aload_n 0, 1) := by decide +kernel
theorem dX7_street_100 : decode cX7_street 100 = .ok (.getfield 57, 3) := by decide +kernel
theorem dX7_street_103 : decode cX7_street 103 = .ok (.aload_n 0, 1) := by decide +kernel
theorem dX7_street_104 : decode cX7_street 104 = .ok (.getfield 33, 3) := by decide +kernel
theorem dX7_street_107 : decode cX7_street 107 = .ok (.iload_n 1, 1) := by decide +kernel
theorem dX7_street_108 : decode cX7_street 108 = .ok (.invokevirtual 150, 3) := by decide +kernel
theorem dX7_street_111 : decode cX7_street 111 = .ok (.ifCond .eq 7, 3) := by decide +kernel
theorem dX7_street_114 : decode cX7_street 114 = .ok (.iconst 1, 1) := by decide +kernel
theorem dX7_street_115 : decode cX7_street 115 = .ok (.goto 4, 3) := by decide +kernel
theorem dX7_street_118 : decode cX7_street 118 = .ok (.iconst 0, 1) := by decide +kernel
theorem dX7_street_119 : decode cX7_street 119 = .ok (.ireturn, 1) := by decide +kernel
theorem dX7_street_120 : decode cX7_street 120 = .ok (.new 64, 3) := by decide +kernel
theorem dX7_street_123 : decode cX7_street 123 = .ok (.dup, 1) := by decide +kernel
theorem dX7_street_124 : decode cX7_street 124 = .ok (.ldc 154, 2) := by decide +kernel
theorem dX7_street_126 : decode cX7_street 126 = .ok (.invokespecial 68, 3) := by decide +kernel
theorem dX7_street_129 : decode cX7_street 129 = .ok (.athrow, 1) := by decide +kernel
theorem dX7_crossing_0 : decode cX7_crossing 0 = .ok (.aload_n 0, 1) := by decide +kernel
theorem dX7_crossing_1 : decode cX7_crossing 1 = .ok (.iload_n 1, 1) := by decide +kernel
theorem dX7_crossing_2 : decode cX7_crossing 2 = .ok (.invokevirtual 156, 3) := by decide +kernel
theorem dX7_crossing_5 : decode cX7_crossing 5 = .ok (.iload_n 2, 1) := by decide +kernel
theorem dX7_crossing_6 : decode cX7_crossing 6 = .ok (.tableswitch 113 0 3 #[30, 39, 66, 93], 30) := by decide +kernel
theorem dX7_crossing_36 : decode cX7_crossing 36 = .ok (.aload_n 0, 1) := by decide +kernel
theorem dX7_crossing_37 : decode cX7_crossing 37 = .ok (.getfield 33, 3) := by decide +kernel
theorem dX7_crossing_40 : decode cX7_crossing 40 = .ok (.iload_n 1, 1) := by decide +kernel
theorem dX7_crossing_41 : decode cX7_crossing 41 = .ok (.invokevirtual 159, 3) := by decide +kernel
theorem dX7_crossing_44 : decode cX7_crossing 44 = .ok (.ireturn, 1) := by decide +kernel
theorem dX7_crossing_45 : decode cX7_crossing 45 = .ok (.aload_n 0, 1) := by decide +kernel
theorem dX7_crossing_46 : decode cX7_crossing 46 = .ok (.getfield 57, 3) := by decide +kernel
theorem dX7_crossing_49 : decode cX7_crossing 49 = .ok (.aload_n 0, 1) := by decide +kernel
theorem dX7_crossing_50 : decode cX7_crossing 50 = .ok (.getfield 33, 3) := by decide +kernel
theorem dX7_crossing_53 : decode cX7_crossing 53 = .ok (.aload_n 0, 1) := by decide +kernel
theorem dX7_crossing_54 : decode cX7_crossing 54 = .ok (.getfield 33, 3) := by decide +kernel
theorem dX7_crossing_57 : decode cX7_crossing 57 = .ok (.getfield 113, 3) := by decide +kernel
theorem dX7_crossing_60 : decode cX7_crossing 60 = .ok (.invokevirtual 163, 3) := by decide +kernel
theorem dX7_crossing_63 : decode cX7_crossing 63 = .ok (.aload_n 0, 1) := by decide +kernel
theorem dX7_crossing_64 : decode cX7_crossing 64 = .ok (.getfield 57, 3) := by decide +kernel
theorem dX7_crossing_67 : decode cX7_crossing 67 = .ok (.iload_n 1, 1) := by decide +kernel
theorem dX7_crossing_68 : decode cX7_crossing 68 = .ok (.invokevirtual 167, 3) := by decide +kernel
theorem dX7_crossing_71 : decode cX7_crossing 71 = .ok (.ireturn, 1) := by decide +kernel
theorem dX7_crossing_72 : decode cX7_crossing 72 = .ok (.aload_n 0, 1) := by decide +kernel
theorem dX7_crossing_73 : decode cX7_crossing 73 = .ok (.getfield 57, 3) := by decide +kernel
theorem dX7_crossing_76 : decode cX7_crossing 76 = .ok (.aload_n 0, 1) := by decide +kernel
theorem dX7_crossing_77 : decode cX7_crossing 77 = .ok (.getfield 33, 3) := by decide +kernel
theorem dX7_crossing_80 : decode cX7_crossing 80 = .ok (.aload_n 0, 1) := by decide +kernel
theorem dX7_crossing_81 : decode cX7_crossing 81 = .ok (.getfield 33, 3) := by decide +kernel
theorem dX7_crossing_84 : decode cX7_crossing 84 = .ok (.getfield 116, 3) := by decide +kernel
theorem dX7_crossing_87 : decode cX7_crossing 87 = .ok (.invokevirtual 163, 3) := by decide +kernel
theorem dX7_crossing_90 : decode cX7_crossing 90 = .ok (.aload_n 0, 1) := by decide +kernel
theorem dX7_crossing_91 : decode cX7_crossing 91 = .ok (.getfield 57, 3) := by decide +kernel
theorem dX7_crossing_94 : decode cX7_crossing 94 = .ok (.iload_n 1, 1) := by decide +kernel
theorem dX7_crossing_95 : decode cX7_crossing 95 = .ok (.invokevirtual 167, 3) := by decide +kernel
theorem dX7_crossing_98 : decode cX7_crossing 98 = .ok (.ireturn, 1) := by decide +kernel
theorem dX7_crossing_99 : decode cX7_crossing 99 = .ok (.aload_n 0, 1) := by decide +kernel
theorem dX7_crossing_100 : decode cX7_crossing 100 = .ok (.getfield 57, 3) := by decide +kernel
theorem dX7_crossing_103 : decode cX7_crossing 103 = .ok (.aload_n 0, 1) := by decide +kernel
theorem dX7_crossing_104 : decode cX7_crossing 104 = .ok (.getfield 33, 3) := by decide +kernel
theorem dX7_crossing_107 : decode cX7_crossing 107 = .ok (.invokevirtual 123, 3) := by decide +kernel
theorem dX7_crossing_110 : decode cX7_crossing 110 = .ok (.aload_n 0, 1) := by decide +kernel
theorem dX7_crossing_111 : decode cX7_crossing 111 = .ok (.getfield 57, 3) := by decide +kernel
theorem dX7_crossing_114 : decode cX7_crossing 114 = .ok (.iload_n 1, 1) := by decide +kernel
theorem dX7_crossing_115 : decode cX7_crossing 115 = .ok (.invokevirtual 170, 3) := by decide +kernel
theorem dX7_crossing_118 : decode cX7_crossing 118 = .ok (.ireturn, 1) := by decide +kernel
theorem dX7_crossing_119 : decode cX7_crossing 119 = .ok (.new 64, 3) := by decide +kernel
