theorem dX0_init_0 : decode cX0_init 0 = .ok (.aload_n 0, 1) := by decide +kernel
theorem dX0_init_1 : decode cX0_init 1 = .ok (.invokespecial 3, 3) := by decide +kernel
theorem dX0_init_4 : decode cX0_init 4 = .ok (.aload_n 0, 1) := by decide +kernel
theorem dX0_init_5 : decode cX0_init 5 = .ok (.bipush 14, 2) := by decide +kernel
theorem dX0_init_7 : decode cX0_init 7 = .ok (.anewarray 9, 3) := by decide +kernel
theorem dX0_init_10 : decode cX0_init 10 = .ok (.putfield 11, 3) := by decide +kernel
theorem dX0_init_13 : decode cX0_init 13 = .ok (.aload_n 0, 1) := by decide +kernel
theorem dX0_init_14 : decode cX0_init 14 = .ok (.iconst 0, 1) := by decide +kernel
theorem dX0_init_15 : decode cX0_init 15 = .ok (.putfield 17, 3) := by decide +kernel
theorem dX0_init_18 : decode cX0_init 18 = .ok (.aload_n 0, 1) := by decide +kernel
theorem dX0_init_19 : decode cX0_init 19 = .ok (.iconst 0, 1) := by decide +kernel
theorem dX0_init_20 : decode cX0_init 20 = .ok (.putfield 21, 3) := by decide +kernel
theorem dX0_init_23 : decode cX0_init 23 = .ok (.iconst 0, 1) := by decide +kernel
theorem dX0_init_24 : decode cX0_init 24 = .ok (.istore_n 1, 1) := by decide +kernel
theorem dX0_init_25 : decode cX0_init 25 = .ok (.iload_n 1, 1) := by decide +kernel
theorem dX0_init_26 : decode cX0_init 26 = .ok (.bipush 14, 2) := by decide +kernel
theorem dX0_init_28 : decode cX0_init 28 = .ok (.if_icmp .ge 22, 3) := by decide +kernel
theorem dX0_init_31 : decode cX0_init 31 = .ok (.aload_n 0, 1) := by decide +kernel
theorem dX0_init_32 : decode cX0_init 32 = .ok (.getfield 11, 3) := by decide +kernel
theorem dX0_init_35 : decode cX0_init 35 = .ok (.iload_n 1, 1) := by decide +kernel
theorem dX0_init_36 : decode cX0_init 36 = .ok (.new 9, 3) := by decide +kernel
theorem dX0_init_39 : decode cX0_init 39 = .ok (.dup, 1) := by decide +kernel
theorem dX0_init_40 : decode cX0_init 40 = .ok (.invokespecial 24, 3) := by decide +kernel
theorem dX0_init_43 : decode cX0_init 43 = .ok (.aastore, 1) := by decide +kernel
theorem dX0_init_44 : decode cX0_init 44 = .ok (.iinc 1 1, 3) := by decide +kernel
theorem dX0_init_47 : decode cX0_init 47 = .ok (.goto (-22), 3) := by decide +kernel
theorem dX0_init_50 : decode cX0_init 50 = .ok (.return_, 1) := by decide +kernel
theorem dX0_keep_0 : decode cX0_keep 0 = .ok (.aload_n 0, 1) := by decide +kernel
theorem dX0_keep_1 : decode cX0_keep 1 = .ok (.getfield 11, 3) := by decide +kernel
theorem dX0_keep_4 : decode cX0_keep 4 = .ok (.aload_n 0, 1) := by decide +kernel
theorem dX0_keep_5 : decode cX0_keep 5 = .ok (.getfield 17, 3) := by decide +kernel
theorem dX0_keep_8 : decode cX0_keep 8 = .ok (.aload_n 0, 1) := by decide +kernel
theorem dX0_keep_9 : decode cX0_keep 9 = .ok (.getfield 21, 3) := by decide +kernel
theorem dX0_keep_12 : decode cX0_keep 12 = .ok (.iadd, 1) := by decide +kernel
theorem dX0_keep_13 : decode cX0_keep 13 = .ok (.bipush 14, 2) := by decide +kernel
theorem dX0_keep_15 : decode cX0_keep 15 = .ok (.irem, 1) := by decide +kernel
theorem dX0_keep_16 : decode cX0_keep 16 = .ok (.aaload, 1) := by decide +kernel
theorem dX0_keep_17 : decode cX0_keep 17 = .ok (.aload_n 1, 1) := by decide +kernel
theorem dX0_keep_18 : decode cX0_keep 18 = .ok (.invokevirtual 25, 3) := by decide +kernel
theorem dX0_keep_21 : decode cX0_keep 21 = .ok (.aload_n 0, 1) := by decide +kernel
theorem dX0_keep_22 : decode cX0_keep 22 = .ok (.getfield 21, 3) := by decide +kernel
theorem dX0_keep_25 : decode cX0_keep 25 = .ok (.bipush 14, 2) := by decide +kernel
theorem dX0_keep_27 : decode cX0_keep 27 = .ok (.if_icmp .ge 16, 3) := by decide +kernel
theorem dX0_keep_30 : decode cX0_keep 30 = .ok (.aload_n 0, 1) := by decide +kernel
theorem dX0_keep_31 : decode cX0_keep 31 = .ok (.dup, 1) := by decide +kernel
theorem dX0_keep_32 : decode cX0_keep 32 = .ok (.getfield 21, 3) := by decide +kernel
theorem dX0_keep_35 : decode cX0_keep 35 = .ok (.iconst 1, 1) := by decide +kernel
theorem dX0_keep_36 : decode cX0_keep 36 = .ok (.iadd, 1) := by decide +kernel
theorem dX0_keep_37 : decode cX0_keep 37 = .ok (.putfield 21, 3) := by decide +kernel
theorem dX0_keep_40 : decode cX0_keep 40 = .ok (.goto 16, 3) := by decide +kernel
theorem dX0_keep_43 : decode cX0_keep 43 = .ok (.aload_n 0, 1) := by decide +kernel
theorem dX0_keep_44 : decode cX0_keep 44 = .ok (.aload_n 0, 1) := by decide +kernel
theorem dX0_keep_45 : decode cX0_keep 45 = .ok (.getfield 17, 3) := by decide +kernel
theorem dX0_keep_48 : decode cX0_keep 48 = .ok (.iconst 1, 1) := by decide +kernel
theorem dX0_keep_49 : decode cX0_keep 49 = .ok (.iadd, 1) := by decide +kernel
theorem dX0_keep_50 : decode cX0_keep 50 = .ok (.bipush 14, 2) := by decide +kernel
theorem dX0_keep_52 : decode cX0_keep 52 = .ok (.irem, 1) := by decide +kernel
theorem dX0_keep_53 : decode cX0_keep 53 = .ok (.putfield 17, 3) := by decide +kernel
theorem dX0_keep_56 : decode cX0_keep 56 = .ok (.return_, 1) := by decide +kernel
theorem dX0_takeBack_0 : decode cX0_takeBack 0 = .ok (.aload_n 0, 1) := by decide +kernel
theorem dX0_takeBack_1 : decode cX0_takeBack 1 = .ok (.getfield 21, 3) := by decide +kernel
theorem dX0_takeBack_4 : decode cX0_takeBack 4 = .ok (.ifCond .le 34, 3) := by decide +kernel
theorem dX0_takeBack_7 : decode cX0_takeBack 7 = .ok (.aload_n 0, 1) := by decide +kernel
theorem dX0_takeBack_8 : decode cX0_takeBack 8 = .ok (.dup, 1) := by decide +kernel
theorem dX0_takeBack_9 : decode cX0_takeBack 9 = .ok (.getfield 21, 3) := by decide +kernel
theorem dX0_takeBack_12 : decode cX0_takeBack 12 = .ok (.iconst 1, 1) := by decide +kernel
theorem dX0_takeBack_13 : decode cX0_takeBack 13 = .ok (.isub, 1) := by decide +kernel
theorem dX0_takeBack_14 : decode cX0_takeBack 14 = .ok (.putfield 21, 3) := by decide +kernel
theorem dX0_takeBack_17 : decode cX0_takeBack 17 = .ok (.aload_n 1, 1) := by decide +kernel
theorem dX0_takeBack_18 : decode cX0_takeBack 18 = .ok (.aload_n 0, 1) := by decide +kernel
theorem dX0_takeBack_19 : decode cX0_takeBack 19 = .ok (.getfield 11, 3) := by decide +kernel
theorem dX0_takeBack_22 : decode cX0_takeBack 22 = .ok (.aload_n 0, 1) := by decide +kernel
theorem dX0_takeBack_23 : decode cX0_takeBack 23 = .ok (.getfield 17, 3) := by decide +kernel
theorem dX0_takeBack_26 : decode cX0_takeBack 26 = .ok (.aload_n 0, 1) := by decide +kernel
theorem dX0_takeBack_27 : decode cX0_takeBack 27 = .ok (.getfield 21, 3) := by decide +kernel
theorem dX0_takeBack_30 : decode cX0_takeBack 30 = .ok (.iadd, 1) := by decide +kernel
theorem dX0_takeBack_31 : decode cX0_takeBack 31 = .ok (.bipush 14, 2) := by decide +kernel
theorem dX0_takeBack_33 : decode cX0_takeBack 33 = .ok (.irem, 1) := by decide +kernel
theorem dX0_takeBack_34 : decode cX0_takeBack 34 = .ok (.aaload, 1) := by decide +kernel
theorem dX0_takeBack_35 : decode cX0_takeBack 35 = .ok (.invokevirtual 25, 3) := by decide +kernel
theorem dX0_takeBack_38 : decode cX0_takeBack 38 = .ok (.return_, 1) := by decide +kernel
theorem dX0_forgetAll_0 : decode cX0_forgetAll 0 = .ok (.aload_n 0, 1) := by decide +kernel
theorem dX0_forgetAll_1 : decode cX0_forgetAll 1 = .ok (.iconst 0, 1) := by decide +kernel
theorem dX0_forgetAll_2 : decode cX0_forgetAll 2 = .ok (.putfield 21, 3) := by decide +kernel
theorem dX0_forgetAll_5 : decode cX0_forgetAll 5 = .ok (.return_, 1) := by decide +kernel
theorem dX1_init_0 : decode cX1_init 0 = .ok (.aload_n 0, 1) := by decide +kernel
theorem dX1_init_1 : decode cX1_init 1 = .ok (.invokespecial 3, 3) := by decide +kernel
theorem dX1_init_4 : decode cX1_init 4 = .ok (.aload_n 0, 1) := by decide +kernel
theorem dX1_init_5 : decode cX1_init 5 = .ok (.iconst 0, 1) := by decide +kernel
theorem dX1_init_6 : decode cX1_init 6 = .ok (.putfield 9, 3) := by decide +kernel
theorem dX1_init_9 : decode cX1_init 9 = .ok (.aload_n 0, 1) := by decide +kernel
theorem dX1_init_10 : decode cX1_init 10 = .ok (.sipush 140, 3) := by decide +kernel
theorem dX1_init_13 : decode cX1_init 13 = .ok (.newarray .int, 2) := by decide +kernel
theorem dX1_init_15 : decode cX1_init 15 = .ok (.putfield 15, 3) := by decide +kernel
theorem dX1_init_18 : decode cX1_init 18 = .ok (.aload_n 0, 1) := by decide +kernel
theorem dX1_init_19 : decode cX1_init 19 = .ok (.sipush 140, 3) := by decide +kernel
theorem dX1_init_22 : decode cX1_init 22 = .ok (.newarray .int, 2) := by decide +kernel
theorem dX1_init_24 : decode cX1_init 24 = .ok (.putfield 19, 3) := by decide +kernel
theorem dX1_init_27 : decode cX1_init 27 = .ok (.aload_n 0, 1) := by decide +kernel
theorem dX1_init_28 : decode cX1_init 28 = .ok (.sipush 140, 3) := by decide +kernel
theorem dX1_init_31 : decode cX1_init 31 = .ok (.newarray .int, 2) := by decide +kernel
theorem dX1_init_33 : decode cX1_init 33 = .ok (.putfield 22, 3) := by decide +kernel
theorem dX1_init_36 : decode cX1_init 36 = .ok (.aload_n 0, 1) := by decide +kernel
theorem dX1_init_37 : decode cX1_init 37 = .ok (.iconst 0, 1) := by decide +kernel
theorem dX1_init_38 : decode cX1_init 38 = .ok (.putfield 25, 3) := by decide +kernel
theorem dX1_init_41 : decode cX1_init 41 = .ok (.return_, 1) := by decide +kernel
theorem dX1_errorIn_0 : decode cX1_errorIn 0 = .ok (.aload_n 0, 1) := by decide +kernel
theorem dX1_errorIn_1 : decode cX1_errorIn 1 = .ok (.iconst 0, 1) := by decide +kernel
theorem dX1_errorIn_2 : decode cX1_errorIn 2 = .ok (.putfield 25, 3) := by decide +kernel
theorem dX1_errorIn_5 : decode cX1_errorIn 5 = .ok (.aload_n 0, 1) := by decide +kernel
theorem dX1_errorIn_6 : decode cX1_errorIn 6 = .ok (.iconst 0, 1) := by decide +kernel
theorem dX1_errorIn_7 : decode cX1_errorIn 7 = .ok (.putfield 9, 3) := by decide +kernel
theorem dX1_errorIn_10 : decode cX1_errorIn 10 = .ok (.aload_n 1, 1) := by decide +kernel
theorem dX1_errorIn_11 : decode cX1_errorIn 11 = .ok (.getfield 28, 3) := by decide +kernel
theorem dX1_errorIn_14 : decode cX1_errorIn 14 = .ok (.ifCond .ne 7, 3) := by decide +kernel
theorem dX1_errorIn_17 : decode cX1_errorIn 17 = .ok (.sipush (-999), 3) := by decide +kernel
theorem dX1_errorIn_20 : decode cX1_errorIn 20 = .ok (.ireturn, 1) := by decide +kernel
theorem dX1_errorIn_21 : decode cX1_errorIn 21 = .ok (.iconst 0, 1) := by decide +kernel
theorem dX1_errorIn_22 : decode cX1_errorIn 22 = .ok (.istore_n 2, 1) := by decide +kernel
theorem dX1_errorIn_23 : decode cX1_errorIn 23 = .ok (.iload_n 2, 1) := by decide +kernel
theorem dX1_errorIn_24 : decode cX1_errorIn 24 = .ok (.sipush 140, 3) := by decide +kernel
theorem dX1_errorIn_27 : decode cX1_errorIn 27 = .ok (.if_icmp .ge 51, 3) := by decide +kernel
theorem dX1_errorIn_30 : decode cX1_errorIn 30 = .ok (.aload_n 0, 1) := by decide +kernel
theorem dX1_errorIn_31 : decode cX1_errorIn 31 = .ok (.aload_n 1, 1) := by decide +kernel
theorem dX1_errorIn_32 : decode cX1_errorIn 32 = .ok (.iload_n 2, 1) := by decide +kernel
theorem dX1_errorIn_33 : decode cX1_errorIn 33 = .ok (.invokevirtual 33, 3) := by decide +kernel
theorem dX1_errorIn_36 : decode cX1_errorIn 36 = .ok (.ifCond .ne 8, 3) := by decide +kernel
theorem dX1_errorIn_39 : decode cX1_errorIn 39 = .ok (.aload_n 0, 1) := by decide +kernel
theorem dX1_errorIn_40 : decode cX1_errorIn 40 = .ok (.getfield 25, 3) := by decide +kernel
theorem dX1_errorIn_43 : decode cX1_errorIn 43 = .ok (.ireturn, 1) := by decide +kernel
theorem dX1_errorIn_44 : decode cX1_errorIn 44 = .ok (.aload_n 0, 1) := by decide +kernel
theorem dX1_errorIn_45 : decode cX1_errorIn 45 = .ok (.getfield 25, 3) := by decide +kernel
theorem dX1_errorIn_48 : decode cX1_errorIn 48 = .ok (.aload_n 1, 1) := by decide +kernel
theorem dX1_errorIn_49 : decode cX1_errorIn 49 = .ok (.getfield 28, 3) := by decide +kernel
theorem dX1_errorIn_52 : decode cX1_errorIn 52 = .ok (.if_icmp .lt 7, 3) := by decide +kernel
theorem dX1_errorIn_55 : decode cX1_errorIn 55 = .ok (.sipush (-999), 3) := by decide +kernel
theorem dX1_errorIn_58 : decode cX1_errorIn 58 = .ok (.ireturn, 1) := by decide +kernel
theorem dX1_errorIn_59 : decode cX1_errorIn 59 = .ok (.aload_n 0, 1) := by decide +kernel
theorem dX1_errorIn_60 : decode cX1_errorIn 60 = .ok (.aload_n 1, 1) := by decide +kernel
theorem dX1_errorIn_61 : decode cX1_errorIn 61 = .ok (.invokevirtual 37, 3) := by decide +kernel
theorem dX1_errorIn_64 : decode cX1_errorIn 64 = .ok (.ifCond .ne 8, 3) := by decide +kernel
theorem dX1_errorIn_67 : decode cX1_errorIn 67 = .ok (.aload_n 0, 1) := by decide +kernel
theorem dX1_errorIn_68 : decode cX1_errorIn 68 = .ok (.getfield 25, 3) := by decide +kernel
theorem dX1_errorIn_71 : decode cX1_errorIn 71 = .ok (.ireturn, 1) := by decide +kernel
theorem dX1_errorIn_72 : decode cX1_errorIn 72 = .ok (.iinc 2 1, 3) := by decide +kernel
theorem dX1_errorIn_75 : decode cX1_errorIn 75 = .ok (.goto (-52), 3) := by decide +kernel
theorem dX1_errorIn_78 : decode cX1_errorIn 78 = .ok (.aload_n 0, 1) := by decide +kernel
theorem dX1_errorIn_79 : decode cX1_errorIn 79 = .ok (.getfield 25, 3) := by decide +kernel
theorem dX1_errorIn_82 : decode cX1_errorIn 82 = .ok (.ireturn, 1) := by decide +kernel
theorem dX1_readCommand_0 : decode cX1_readCommand 0 = .ok (.aload_n 1, 1) := by decide +kernel
theorem dX1_readCommand_1 : decode cX1_readCommand 1 = .ok (.aload_n 0, 1) := by decide +kernel
theorem dX1_readCommand_2 : decode cX1_readCommand 2 = .ok (.getfield 25, 3) := by decide +kernel
theorem dX1_readCommand_5 : decode cX1_readCommand 5 = .ok (.invokevirtual 41, 3) := by decide +kernel
theorem dX1_readCommand_8 : decode cX1_readCommand 8 = .ok (.istore_n 3, 1) := by decide +kernel
theorem dX1_readCommand_9 : decode cX1_readCommand 9 = .ok (.aload_n 0, 1) := by decide +kernel
theorem dX1_readCommand_10 : decode cX1_readCommand 10 = .ok (.aload_n 1, 1) := by decide +kernel
theorem dX1_readCommand_11 : decode cX1_readCommand 11 = .ok (.iload_n 3, 1) := by decide +kernel
theorem dX1_readCommand_12 : decode cX1_readCommand 12 = .ok (.invokestatic 45, 3) := by decide +kernel
theorem dX1_readCommand_15 : decode cX1_readCommand 15 = .ok (.invokevirtual 49, 3) := by decide +kernel
theorem dX1_readCommand_18 : decode cX1_readCommand 18 = .ok (.ifCond .ne 5, 3) := by decide +kernel
theorem dX1_readCommand_21 : decode cX1_readCommand 21 = .ok (.iconst 0, 1) := by decide +kernel
theorem dX1_readCommand_22 : decode cX1_readCommand 22 = .ok (.ireturn, 1) := by decide +kernel
theorem dX1_readCommand_23 : decode cX1_readCommand 23 = .ok (.aload_n 0, 1) := by decide +kernel
theorem dX1_readCommand_24 : decode cX1_readCommand 24 = .ok (.getfield 15, 3) := by decide +kernel
theorem dX1_readCommand_27 : decode cX1_readCommand 27 = .ok (.iload_n 2, 1) := by decide +kernel
theorem dX1_readCommand_28 : decode cX1_readCommand 28 = .ok (.iload_n 3, 1) := by decide +kernel
theorem dX1_readCommand_29 : decode cX1_readCommand 29 = .ok (.iastore, 1) := by decide +kernel
theorem dX1_readCommand_30 : decode cX1_readCommand 30 = .ok (.iload_n 3, 1) := by decide +kernel
theorem dX1_readCommand_31 : decode cX1_readCommand 31 = .ok (.invokestatic 53, 3) := by decide +kernel
theorem dX1_readCommand_34 : decode cX1_readCommand 34 = .ok (.istore 4, 2) := by decide +kernel
theorem dX1_readCommand_36 : decode cX1_readCommand 36 = .ok (.iload 4, 2) := by decide +kernel
theorem dX1_readCommand_38 : decode cX1_readCommand 38 = .ok (.ifCond .le 38, 3) := by decide +kernel
theorem dX1_readCommand_41 : decode cX1_readCommand 41 = .ok (.aload_n 0, 1) := by decide +kernel
theorem dX1_readCommand_42 : decode cX1_readCommand 42 = .ok (.aload_n 1, 1) := by decide +kernel
theorem dX1_readCommand_43 : decode cX1_readCommand 43 = .ok (.invokevirtual 37, 3) := by decide +kernel
theorem dX1_readCommand_46 : decode cX1_readCommand 46 = .ok (.ifCond .eq 17, 3) := by decide +kernel
theorem dX1_readCommand_49 : decode cX1_readCommand 49 = .ok (.aload_n 1, 1) := by decide +kernel
theorem dX1_readCommand_50 : decode cX1_readCommand 50 = .ok (.aload_n 0, 1) := by decide +kernel
theorem dX1_readCommand_51 : decode cX1_readCommand 51 = .ok (.getfield 25, 3) := by decide +kernel
theorem dX1_readCommand_54 : decode cX1_readCommand 54 = .ok (.invokevirtual 56, 3) := by decide +kernel
theorem dX1_readCommand_57 : decode cX1_readCommand 57 = .ok (.sipush (-999), 3) := by decide +kernel
theorem dX1_readCommand_60 : decode cX1_readCommand 60 = .ok (.if_icmp .ne 5, 3) := by decide +kernel
theorem dX1_readCommand_63 : decode cX1_readCommand 63 = .ok (.iconst 0, 1) := by decide +kernel
theorem dX1_readCommand_64 : decode cX1_readCommand 64 = .ok (.ireturn, 1) := by decide +kernel
theorem dX1_readCommand_65 : decode cX1_readCommand 65 = .ok (.aload_n 0, 1) := by decide +kernel
theorem dX1_readCommand_66 : decode cX1_readCommand 66 = .ok (.getfield 19, 3) := by decide +kernel
theorem dX1_readCommand_69 : decode cX1_readCommand 69 = .ok (.iload_n 2, 1) := by decide +kernel
theorem dX1_readCommand_70 : decode cX1_readCommand 70 = .ok (.aload_n 0, 1) := by decide +kernel
theorem dX1_readCommand_71 : decode cX1_readCommand 71 = .ok (.aload_n 1, 1) := by decide +kernel
theorem dX1_readCommand_72 : decode cX1_readCommand 72 = .ok (.invokevirtual 59, 3) := by decide +kernel
theorem dX1_readCommand_75 : decode cX1_readCommand 75 = .ok (.iastore, 1) := by decide +kernel
theorem dX1_readCommand_76 : decode cX1_readCommand 76 = .ok (.iload 4, 2) := by decide +kernel
theorem dX1_readCommand_78 : decode cX1_readCommand 78 = .ok (.iconst 1, 1) := by decide +kernel
theorem dX1_readCommand_79 : decode cX1_readCommand 79 = .ok (.if_icmp .le 38, 3) := by decide +kernel
theorem dX1_readCommand_82 : decode cX1_readCommand 82 = .ok (.aload_n 0, 1) := by decide +kernel
theorem dX1_readCommand_83 : decode cX1_readCommand 83 = .ok (.aload_n 1, 1) := by decide +kernel
theorem dX1_readCommand_84 : decode cX1_readCommand 84 = .ok (.invokevirtual 37, 3) := by decide +kernel
theorem dX1_readCommand_87 : decode cX1_readCommand 87 = .ok (.ifCond .eq 17, 3) := by decide +kernel
theorem dX1_readCommand_90 : decode cX1_readCommand 90 = .ok (.aload_n 1, 1) := by decide +kernel
theorem dX1_readCommand_91 : decode cX1_readCommand 91 = .ok (.aload_n 0, 1) := by decide +kernel
theorem dX1_readCommand_92 : decode cX1_readCommand 92 = .ok (.getfield 25, 3) := by decide +kernel
theorem dX1_readCommand_95 : decode cX1_readCommand 95 = .ok (.invokevirtual 56, 3) := by decide +kernel
theorem dX1_readCommand_98 : decode cX1_readCommand 98 = .ok (.sipush (-999), 3) := by decide +kernel
theorem dX1_readCommand_101 : decode cX1_readCommand 101 = .ok (.if_icmp .ne 5, 3) := by decide +kernel
theorem dX1_readCommand_104 : decode cX1_readCommand 104 = .ok (.iconst 0, 1) := by decide +kernel
theorem dX1_readCommand_105 : decode cX1_readCommand 105 = .ok (.ireturn, 1) := by decide +kernel
theorem dX1_readCommand_106 : decode cX1_readCommand 106 = .ok (.aload_n 0, 1) := by decide +kernel
theorem dX1_readCommand_107 : decode cX1_readCommand 107 = .ok (.getfield 22, 3) := by decide +kernel
theorem dX1_readCommand_110 : decode cX1_readCommand 110 = .ok (.iload_n 2, 1) := by decide +kernel
theorem dX1_readCommand_111 : decode cX1_readCommand 111 = .ok (.aload_n 0, 1) := by decide +kernel
theorem dX1_readCommand_112 : decode cX1_readCommand 112 = .ok (.aload_n 1, 1) := by decide +kernel
theorem dX1_readCommand_113 : decode cX1_readCommand 113 = .ok (.invokevirtual 59, 3) := by decide +kernel
theorem dX1_readCommand_116 : decode cX1_readCommand 116 = .ok (.iastore, 1) := by decide +kernel
theorem dX1_readCommand_117 : decode cX1_readCommand 117 = .ok (.aload_n 0, 1) := by decide +kernel
theorem dX1_readCommand_118 : decode cX1_readCommand 118 = .ok (.iload_n 2, 1) := by decide +kernel
theorem dX1_readCommand_119 : decode cX1_readCommand 119 = .ok (.iconst 1, 1) := by decide +kernel
theorem dX1_readCommand_120 : decode cX1_readCommand 120 = .ok (.iadd, 1) := by decide +kernel
theorem dX1_readCommand_121 : decode cX1_readCommand 121 = .ok (.putfield 9, 3) := by decide +kernel
theorem dX1_readCommand_124 : decode cX1_readCommand 124 = .ok (.iconst 1, 1) := by decide +kernel
theorem dX1_readCommand_125 : decode cX1_readCommand 125 = .ok (.ireturn, 1) := by decide +kernel
theorem dX1_readLetters_0 : decode cX1_readLetters 0 = .ok (.iconst 0, 1) := by decide +kernel
theorem dX1_readLetters_1 : decode cX1_readLetters 1 = .ok (.istore_n 3, 1) := by decide +kernel
theorem dX1_readLetters_2 : decode cX1_readLetters 2 = .ok (.iload_n 3, 1) := by decide +kernel
theorem dX1_readLetters_3 : decode cX1_readLetters 3 = .ok (.aload_n 2, 1) := by decide +kernel
theorem dX1_readLetters_4 : decode cX1_readLetters 4 = .ok (.invokevirtual 63, 3) := by decide +kernel
theorem dX1_readLetters_7 : decode cX1_readLetters 7 = .ok (.if_icmp .ge 37, 3) := by decide +kernel
theorem dX1_readLetters_10 : decode cX1_readLetters 10 = .ok (.aload_n 1, 1) := by decide +kernel
theorem dX1_readLetters_11 : decode cX1_readLetters 11 = .ok (.aload_n 0, 1) := by decide +kernel
theorem dX1_readLetters_12 : decode cX1_readLetters 12 = .ok (.getfield 25, 3) := by decide +kernel
theorem dX1_readLetters_15 : decode cX1_readLetters 15 = .ok (.invokevirtual 41, 3) := by decide +kernel
theorem dX1_readLetters_18 : decode cX1_readLetters 18 = .ok (.aload_n 2, 1) := by decide +kernel
theorem dX1_readLetters_19 : decode cX1_readLetters 19 = .ok (.iload_n 3, 1) := by decide +kernel
theorem dX1_readLetters_20 : decode cX1_readLetters 20 = .ok (.invokevirtual 68, 3) := by decide +kernel
theorem dX1_readLetters_23 : decode cX1_readLetters 23 = .ok (.if_icmp .eq 5, 3) := by decide +kernel
theorem dX1_readLetters_26 : decode cX1_readLetters 26 = .ok (.iconst 0, 1) := by decide +kernel
theorem dX1_readLetters_27 : decode cX1_readLetters 27 = .ok (.ireturn, 1) := by decide +kernel
theorem dX1_readLetters_28 : decode cX1_readLetters 28 = .ok (.aload_n 0, 1) := by decide +kernel
theorem dX1_readLetters_29 : decode cX1_readLetters 29 = .ok (.dup, 1) := by decide +kernel
theorem dX1_readLetters_30 : decode cX1_readLetters 30 = .ok (.getfield 25, 3) := by decide +kernel
theorem dX1_readLetters_33 : decode cX1_readLetters 33 = .ok (.iconst 1, 1) := by decide +kernel
theorem dX1_readLetters_34 : decode cX1_readLetters 34 = .ok (.iadd, 1) := by decide +kernel
theorem dX1_readLetters_35 : decode cX1_readLetters 35 = .ok (.putfield 25, 3) := by decide +kernel
theorem dX1_readLetters_38 : decode cX1_readLetters 38 = .ok (.iinc 3 1, 3) := by decide +kernel
theorem dX1_readLetters_41 : decode cX1_readLetters 41 = .ok (.goto (-39), 3) := by decide +kernel
theorem dX1_readLetters_44 : decode cX1_readLetters 44 = .ok (.aload_n 2, 1) := by decide +kernel
theorem dX1_readLetters_45 : decode cX1_readLetters 45 = .ok (.invokevirtual 72, 3) := by decide +kernel
theorem dX1_readLetters_48 : decode cX1_readLetters 48 = .ok (.ifCond .ne 7, 3) := by decide +kernel
theorem dX1_readLetters_51 : decode cX1_readLetters 51 = .ok (.iconst 1, 1) := by decide +kernel
theorem dX1_readLetters_52 : decode cX1_readLetters 52 = .ok (.goto 4, 3) := by decide +kernel
theorem dX1_readLetters_55 : decode cX1_readLetters 55 = .ok (.iconst 0, 1) := by decide +kernel
theorem dX1_readLetters_56 : decode cX1_readLetters 56 = .ok (.ireturn, 1) := by decide +kernel
theorem dX1_readBlank_0 : decode cX1_readBlank 0 = .ok (.aload_n 1, 1) := by decide +kernel
theorem dX1_readBlank_1 : decode cX1_readBlank 1 = .ok (.aload_n 0, 1) := by decide +kernel
theorem dX1_readBlank_2 : decode cX1_readBlank 2 = .ok (.getfield 25, 3) := by decide +kernel
theorem dX1_readBlank_5 : decode cX1_readBlank 5 = .ok (.invokevirtual 41, 3) := by decide +kernel
theorem dX1_readBlank_8 : decode cX1_readBlank 8 = .ok (.bipush 32, 2) := by decide +kernel
theorem dX1_readBlank_10 : decode cX1_readBlank 10 = .ok (.if_icmp .eq 5, 3) := by decide +kernel
theorem dX1_readBlank_13 : decode cX1_readBlank 13 = .ok (.iconst 0, 1) := by decide +kernel
theorem dX1_readBlank_14 : decode cX1_readBlank 14 = .ok (.ireturn, 1) := by decide +kernel
theorem dX1_readBlank_15 : decode cX1_readBlank 15 = .ok (.aload_n 0, 1) := by decide +kernel
theorem dX1_readBlank_16 : decode cX1_readBlank 16 = .ok (.dup, 1) := by decide +kernel
theorem dX1_readBlank_17 : decode cX1_readBlank 17 = .ok (.getfield 25, 3) := by decide +kernel
theorem dX1_readBlank_20 : decode cX1_readBlank 20 = .ok (.iconst 1, 1) := by decide +kernel
theorem dX1_readBlank_21 : decode cX1_readBlank 21 = .ok (.iadd, 1) := by decide +kernel
theorem dX1_readBlank_22 : decode cX1_readBlank 22 = .ok (.putfield 25, 3) := by decide +kernel
theorem dX1_readBlank_25 : decode cX1_readBlank 25 = .ok (.iconst 1, 1) := by decide +kernel
theorem dX1_readBlank_26 : decode cX1_readBlank 26 = .ok (.ireturn, 1) := by decide +kernel
theorem dX1_readNumber_0 : decode cX1_readNumber 0 = .ok (.iconst 0, 1) := by decide +kernel
theorem dX1_readNumber_1 : decode cX1_readNumber 1 = .ok (.istore_n 2, 1) := by decide +kernel
theorem dX1_readNumber_2 : decode cX1_readNumber 2 = .ok (.iconst 0, 1) := by decide +kernel
theorem dX1_readNumber_3 : decode cX1_readNumber 3 = .ok (.istore_n 3, 1) := by decide +kernel
theorem dX1_readNumber_4 : decode cX1_readNumber 4 = .ok (.iload_n 3, 1) := by decide +kernel
theorem dX1_readNumber_5 : decode cX1_readNumber 5 = .ok (.iconst 2, 1) := by decide +kernel
theorem dX1_readNumber_6 : decode cX1_readNumber 6 = .ok (.if_icmp .ge 47, 3) := by decide +kernel
theorem dX1_readNumber_9 : decode cX1_readNumber 9 = .ok (.aload_n 1, 1) := by decide +kernel
theorem dX1_readNumber_10 : decode cX1_readNumber 10 = .ok (.aload_n 0, 1) := by decide +kernel
theorem dX1_readNumber_11 : decode cX1_readNumber 11 = .ok (.getfield 25, 3) := by decide +kernel
theorem dX1_readNumber_14 : decode cX1_readNumber 14 = .ok (.invokevirtual 56, 3) := by decide +kernel
theorem dX1_readNumber_17 : decode cX1_readNumber 17 = .ok (.sipush (-999), 3) := by decide +kernel
theorem dX1_readNumber_20 : decode cX1_readNumber 20 = .ok (.if_icmp .eq 33, 3) := by decide +kernel
theorem dX1_readNumber_23 : decode cX1_readNumber 23 = .ok (.bipush 10, 2) := by decide +kernel
theorem dX1_readNumber_25 : decode cX1_readNumber 25 = .ok (.iload_n 2, 1) := by decide +kernel
theorem dX1_readNumber_26 : decode cX1_readNumber 26 = .ok (.imul, 1) := by decide +kernel
theorem dX1_readNumber_27 : decode cX1_readNumber 27 = .ok (.aload_n 1, 1) := by decide +kernel
theorem dX1_readNumber_28 : decode cX1_readNumber 28 = .ok (.aload_n 0, 1) := by decide +kernel
theorem dX1_readNumber_29 : decode cX1_readNumber 29 = .ok (.getfield 25, 3) := by decide +kernel
theorem dX1_readNumber_32 : decode cX1_readNumber 32 = .ok (.invokevirtual 56, 3) := by decide +kernel
theorem dX1_readNumber_35 : decode cX1_readNumber 35 = .ok (.iadd, 1) := by decide +kernel
theorem dX1_readNumber_36 : decode cX1_readNumber 36 = .ok (.istore_n 2, 1) := by decide +kernel
theorem dX1_readNumber_37 : decode cX1_readNumber 37 = .ok (.aload_n 0, 1) := by decide +kernel
theorem dX1_readNumber_38 : decode cX1_readNumber 38 = .ok (.dup, 1) := by decide +kernel
theorem dX1_readNumber_39 : decode cX1_readNumber 39 = .ok (.getfield 25, 3) := by decide +kernel
theorem dX1_readNumber_42 : decode cX1_readNumber 42 = .ok (.iconst 1, 1) := by decide +kernel
theorem dX1_readNumber_43 : decode cX1_readNumber 43 = .ok (.iadd, 1) := by decide +kernel
theorem dX1_readNumber_44 : decode cX1_readNumber 44 = .ok (.putfield 25, 3) := by decide +kernel
theorem dX1_readNumber_47 : decode cX1_readNumber 47 = .ok (.iinc 3 1, 3) := by decide +kernel
theorem dX1_readNumber_50 : decode cX1_readNumber 50 = .ok (.goto (-46), 3) := by decide +kernel
theorem dX1_readNumber_53 : decode cX1_readNumber 53 = .ok (.iload_n 2, 1) := by decide +kernel
theorem dX1_readNumber_54 : decode cX1_readNumber 54 = .ok (.ireturn, 1) := by decide +kernel
theorem dX1_wordBeginningWith_0 : decode cX1_wordBeginningWith 0 = .ok (.iload_n 0, 1) := by decide +kernel
theorem dX1_wordBeginningWith_1 : decode cX1_wordBeginningWith 1 = .ok (.lookupswitch 66 #[(99, 54), (101, 60), (108, 57), (111, 51), (116, 63)], 51) := by decide +kernel
theorem dX1_wordBeginningWith_52 : decode cX1_wordBeginningWith 52 = .ok (.ldc 76, 2) := by decide +kernel
theorem dX1_wordBeginningWith_54 : decode cX1_wordBeginningWith 54 = .ok (.areturn, 1) := by decide +kernel
theorem dX1_wordBeginningWith_55 : decode cX1_wordBeginningWith 55 = .ok (.ldc 78, 2) := by decide +kernel
theorem dX1_wordBeginningWith_57 : decode cX1_wordBeginningWith 57 = .ok (.areturn, 1) := by decide +kernel
theorem dX1_wordBeginningWith_58 : decode cX1_wordBeginningWith 58 = .ok (.ldc 80, 2) := by decide +kernel
theorem dX1_wordBeginningWith_60 : decode cX1_wordBeginningWith 60 = .ok (.areturn, 1) := by decide +kernel
theorem dX1_wordBeginningWith_61 : decode cX1_wordBeginningWith 61 = .ok (.ldc 82, 2) := by decide +kernel
theorem dX1_wordBeginningWith_63 : decode cX1_wordBeginningWith 63 = .ok (.areturn, 1) := by decide +kernel
theorem dX1_wordBeginningWith_64 : decode cX1_wordBeginningWith 64 = .ok (.ldc 84, 2) := by decide +kernel
theorem dX1_wordBeginningWith_66 : decode cX1_wordBeginningWith 66 = .ok (.areturn, 1) := by decide +kernel
theorem dX1_wordBeginningWith_67 : decode cX1_wordBeginningWith 67 = .ok (.ldc 86, 2) := by decide +kernel
theorem dX1_wordBeginningWith_69 : decode cX1_wordBeginningWith 69 = .ok (.areturn, 1) := by decide +kernel
theorem dX1_numbersBehind_0 : decode cX1_numbersBehind 0 = .ok (.iload_n 0, 1) := by decide +kernel
theorem dX1_numbersBehind_1 : decode cX1_numbersBehind 1 = .ok (.lookupswitch 47 #[(99, 43), (101, 45), (108, 45), (111, 43)], 43) := by decide +kernel
theorem dX1_numbersBehind_44 : decode cX1_numbersBehind 44 = .ok (.iconst 1, 1) := by decide +kernel
theorem dX1_numbersBehind_45 : decode cX1_numbersBehind 45 = .ok (.ireturn, 1) := by decide +kernel
theorem dX1_numbersBehind_46 : decode cX1_numbersBehind 46 = .ok (.iconst 2, 1) := by decide +kernel
theorem dX1_numbersBehind_47 : decode cX1_numbersBehind 47 = .ok (.ireturn, 1) := by decide +kernel
theorem dX1_numbersBehind_48 : decode cX1_numbersBehind 48 = .ok (.iconst 0, 1) := by decide +kernel
theorem dX1_numbersBehind_49 : decode cX1_numbersBehind 49 = .ok (.ireturn, 1) := by decide +kernel
theorem dX2_init_0 : decode cX2_init 0 = .ok (.aload_n 0, 1) := by decide +kernel
theorem dX2_init_1 : decode cX2_init 1 = .ok (.invokespecial 3, 3) := by decide +kernel
theorem dX2_init_4 : decode cX2_init 4 = .ok (.aload_n 0, 1) := by decide +kernel
theorem dX2_init_5 : decode cX2_init 5 = .ok (.bipush 9, 2) := by decide +kernel
theorem dX2_init_7 : decode cX2_init 7 = .ok (.newarray .int, 2) := by decide +kernel
theorem dX2_init_9 : decode cX2_init 9 = .ok (.putfield 9, 3) := by decide +kernel
theorem dX2_init_12 : decode cX2_init 12 = .ok (.aload_n 0, 1) := by decide +kernel
theorem dX2_init_13 : decode cX2_init 13 = .ok (.bipush 9, 2) := by decide +kernel
theorem dX2_init_15 : decode cX2_init 15 = .ok (.newarray .int, 2) := by decide +kernel
theorem dX2_init_17 : decode cX2_init 17 = .ok (.putfield 15, 3) := by decide +kernel
theorem dX2_init_20 : decode cX2_init 20 = .ok (.aload_n 0, 1) := by decide +kernel
theorem dX2_init_21 : decode cX2_init 21 = .ok (.bipush 9, 2) := by decide +kernel
theorem dX2_init_23 : decode cX2_init 23 = .ok (.newarray .int, 2) := by decide +kernel
theorem dX2_init_25 : decode cX2_init 25 = .ok (.putfield 18, 3) := by decide +kernel
theorem dX2_init_28 : decode cX2_init 28 = .ok (.aload_n 0, 1) := by decide +kernel
theorem dX2_init_29 : decode cX2_init 29 = .ok (.iconst 0, 1) := by decide +kernel
theorem dX2_init_30 : decode cX2_init 30 = .ok (.putfield 21, 3) := by decide +kernel
theorem dX2_init_33 : decode cX2_init 33 = .ok (.return_, 1) := by decide +kernel
theorem dX2_weigh_0 : decode cX2_weigh 0 = .ok (.iconst 0, 1) := by decide +kernel
theorem dX2_weigh_1 : decode cX2_weigh 1 = .ok (.istore_n 3, 1) := by decide +kernel
theorem dX2_weigh_2 : decode cX2_weigh 2 = .ok (.iload_n 3, 1) := by decide +kernel
theorem dX2_weigh_3 : decode cX2_weigh 3 = .ok (.bipush 9, 2) := by decide +kernel
theorem dX2_weigh_5 : decode cX2_weigh 5 = .ok (.if_icmp .ge 26, 3) := by decide +kernel
theorem dX2_weigh_8 : decode cX2_weigh 8 = .ok (.aload_n 0, 1) := by decide +kernel
theorem dX2_weigh_9 : decode cX2_weigh 9 = .ok (.getfield 9, 3) := by decide +kernel
theorem dX2_weigh_12 : decode cX2_weigh 12 = .ok (.iload_n 3, 1) := by decide +kernel
theorem dX2_weigh_13 : decode cX2_weigh 13 = .ok (.iload_n 3, 1) := by decide +kernel
theorem dX2_weigh_14 : decode cX2_weigh 14 = .ok (.iload_n 2, 1) := by decide +kernel
theorem dX2_weigh_15 : decode cX2_weigh 15 = .ok (.if_icmp .ne 7, 3) := by decide +kernel
theorem dX2_weigh_18 : decode cX2_weigh 18 = .ok (.iconst 0, 1) := by decide +kernel
theorem dX2_weigh_19 : decode cX2_weigh 19 = .ok (.goto 5, 3) := by decide +kernel
theorem dX2_weigh_22 : decode cX2_weigh 22 = .ok (.ldc 25, 2) := by decide +kernel
theorem dX2_weigh_24 : decode cX2_weigh 24 = .ok (.iastore, 1) := by decide +kernel
theorem dX2_weigh_25 : decode cX2_weigh 25 = .ok (.iinc 3 1, 3) := by decide +kernel
theorem dX2_weigh_28 : decode cX2_weigh 28 = .ok (.goto (-26), 3) := by decide +kernel
theorem dX2_weigh_31 : decode cX2_weigh 31 = .ok (.iconst 1, 1) := by decide +kernel
theorem dX2_weigh_32 : decode cX2_weigh 32 = .ok (.istore_n 3, 1) := by decide +kernel
theorem dX2_weigh_33 : decode cX2_weigh 33 = .ok (.iconst 0, 1) := by decide +kernel
theorem dX2_weigh_34 : decode cX2_weigh 34 = .ok (.istore 4, 2) := by decide +kernel
theorem dX2_weigh_36 : decode cX2_weigh 36 = .ok (.iload_n 3, 1) := by decide +kernel
theorem dX2_weigh_37 : decode cX2_weigh 37 = .ok (.ifCond .eq 58, 3) := by decide +kernel
theorem dX2_weigh_40 : decode cX2_weigh 40 = .ok (.iload 4, 2) := by decide +kernel
theorem dX2_weigh_42 : decode cX2_weigh 42 = .ok (.bipush 9, 2) := by decide +kernel
theorem dX2_weigh_44 : decode cX2_weigh 44 = .ok (.if_icmp .ge 51, 3) := by decide +kernel
theorem dX2_weigh_47 : decode cX2_weigh 47 = .ok (.iconst 0, 1) := by decide +kernel
theorem dX2_weigh_48 : decode cX2_weigh 48 = .ok (.istore_n 3, 1) := by decide +kernel
theorem dX2_weigh_49 : decode cX2_weigh 49 = .ok (.iconst 0, 1) := by decide +kernel
theorem dX2_weigh_50 : decode cX2_weigh 50 = .ok (.istore 5, 2) := by decide +kernel
theorem dX2_weigh_52 : decode cX2_weigh 52 = .ok (.iload 5, 2) := by decide +kernel
theorem dX2_weigh_54 : decode cX2_weigh 54 = .ok (.aload_n 1, 1) := by decide +kernel
theorem dX2_weigh_55 : decode cX2_weigh 55 = .ok (.getfield 26, 3) := by decide +kernel
theorem dX2_weigh_58 : decode cX2_weigh 58 = .ok (.if_icmp .ge 31, 3) := by decide +kernel
theorem dX2_weigh_61 : decode cX2_weigh 61 = .ok (.aload_n 1, 1) := by decide +kernel
theorem dX2_weigh_62 : decode cX2_weigh 62 = .ok (.getfield 31, 3) := by decide +kernel
theorem dX2_weigh_65 : decode cX2_weigh 65 = .ok (.iload 5, 2) := by decide +kernel
theorem dX2_weigh_67 : decode cX2_weigh 67 = .ok (.baload, 1) := by decide +kernel
theorem dX2_weigh_68 : decode cX2_weigh 68 = .ok (.ifCond .ne 15, 3) := by decide +kernel
theorem dX2_weigh_71 : decode cX2_weigh 71 = .ok (.aload_n 0, 1) := by decide +kernel
theorem dX2_weigh_72 : decode cX2_weigh 72 = .ok (.aload_n 1, 1) := by decide +kernel
theorem dX2_weigh_73 : decode cX2_weigh 73 = .ok (.iload 5, 2) := by decide +kernel
theorem dX2_weigh_75 : decode cX2_weigh 75 = .ok (.invokevirtual 35, 3) := by decide +kernel
theorem dX2_weigh_78 : decode cX2_weigh 78 = .ok (.ifCond .eq 5, 3) := by decide +kernel
theorem dX2_weigh_81 : decode cX2_weigh 81 = .ok (.iconst 1, 1) := by decide +kernel
theorem dX2_weigh_82 : decode cX2_weigh 82 = .ok (.istore_n 3, 1) := by decide +kernel
theorem dX2_weigh_83 : decode cX2_weigh 83 = .ok (.iinc 5 1, 3) := by decide +kernel
theorem dX2_weigh_86 : decode cX2_weigh 86 = .ok (.goto (-34), 3) := by decide +kernel
theorem dX2_weigh_89 : decode cX2_weigh 89 = .ok (.iinc 4 1, 3) := by decide +kernel
theorem dX2_weigh_92 : decode cX2_weigh 92 = .ok (.goto (-56), 3) := by decide +kernel
theorem dX2_weigh_95 : decode cX2_weigh 95 = .ok (.return_, 1) := by decide +kernel
theorem dX2_improves_0 : decode cX2_improves 0 = .ok (.aload_n 1, 1) := by decide +kernel
theorem dX2_improves_1 : decode cX2_improves 1 = .ok (.getfield 39, 3) := by decide +kernel
theorem dX2_improves_4 : decode cX2_improves 4 = .ok (.iload_n 2, 1) := by decide +kernel
theorem dX2_improves_5 : decode cX2_improves 5 = .ok (.iaload, 1) := by decide +kernel
theorem dX2_improves_6 : decode cX2_improves 6 = .ok (.istore_n 3, 1) := by decide +kernel
theorem dX2_improves_7 : decode cX2_improves 7 = .ok (.aload_n 1, 1) := by decide +kernel
theorem dX2_improves_8 : decode cX2_improves 8 = .ok (.getfield 42, 3) := by decide +kernel
theorem dX2_improves_11 : decode cX2_improves 11 = .ok (.iload_n 2, 1) := by decide +kernel
theorem dX2_improves_12 : decode cX2_improves 12 = .ok (.iaload, 1) := by decide +kernel
theorem dX2_improves_13 : decode cX2_improves 13 = .ok (.istore 4, 2) := by decide +kernel
theorem dX2_improves_15 : decode cX2_improves 15 = .ok (.aload_n 1, 1) := by decide +kernel
theorem dX2_improves_16 : decode cX2_improves 16 = .ok (.iload_n 2, 1) := by decide +kernel
theorem dX2_improves_17 : decode cX2_improves 17 = .ok (.invokestatic 45, 3) := by decide +kernel
theorem dX2_improves_20 : decode cX2_improves 20 = .ok (.istore 5, 2) := by decide +kernel
theorem dX2_improves_22 : decode cX2_improves 22 = .ok (.aload_n 0, 1) := by decide +kernel
theorem dX2_improves_23 : decode cX2_improves 23 = .ok (.getfield 9, 3) := by decide +kernel
theorem dX2_improves_26 : decode cX2_improves 26 = .ok (.iload_n 3, 1) := by decide +kernel
theorem dX2_improves_27 : decode cX2_improves 27 = .ok (.iaload, 1) := by decide +kernel
theorem dX2_improves_28 : decode cX2_improves 28 = .ok (.iload 5, 2) := by decide +kernel
theorem dX2_improves_30 : decode cX2_improves 30 = .ok (.iadd, 1) := by decide +kernel
theorem dX2_improves_31 : decode cX2_improves 31 = .ok (.aload_n 0, 1) := by decide +kernel
theorem dX2_improves_32 : decode cX2_improves 32 = .ok (.getfield 9, 3) := by decide +kernel
theorem dX2_improves_35 : decode cX2_improves 35 = .ok (.iload 4, 2) := by decide +kernel
theorem dX2_improves_37 : decode cX2_improves 37 = .ok (.iaload, 1) := by decide +kernel
theorem dX2_improves_38 : decode cX2_improves 38 = .ok (.if_icmp .ge 21, 3) := by decide +kernel
theorem dX2_improves_41 : decode cX2_improves 41 = .ok (.aload_n 0, 1) := by decide +kernel
theorem dX2_improves_42 : decode cX2_improves 42 = .ok (.getfield 9, 3) := by decide +kernel
theorem dX2_improves_45 : decode cX2_improves 45 = .ok (.iload 4, 2) := by decide +kernel
theorem dX2_improves_47 : decode cX2_improves 47 = .ok (.aload_n 0, 1) := by decide +kernel
theorem dX2_improves_48 : decode cX2_improves 48 = .ok (.getfield 9, 3) := by decide +kernel
theorem dX2_improves_51 : decode cX2_improves 51 = .ok (.iload_n 3, 1) := by decide +kernel
theorem dX2_improves_52 : decode cX2_improves 52 = .ok (.iaload, 1) := by decide +kernel
theorem dX2_improves_53 : decode cX2_improves 53 = .ok (.iload 5, 2) := by decide +kernel
theorem dX2_improves_55 : decode cX2_improves 55 = .ok (.iadd, 1) := by decide +kernel
theorem dX2_improves_56 : decode cX2_improves 56 = .ok (.iastore, 1) := by decide +kernel
theorem dX2_improves_57 : decode cX2_improves 57 = .ok (.iconst 1, 1) := by decide +kernel
theorem dX2_improves_58 : decode cX2_improves 58 = .ok (.ireturn, 1) := by decide +kernel
theorem dX2_improves_59 : decode cX2_improves 59 = .ok (.aload_n 0, 1) := by decide +kernel
theorem dX2_improves_60 : decode cX2_improves 60 = .ok (.getfield 9, 3) := by decide +kernel
theorem dX2_improves_63 : decode cX2_improves 63 = .ok (.iload 4, 2) := by decide +kernel
theorem dX2_improves_65 : decode cX2_improves 65 = .ok (.iaload, 1) := by decide +kernel
theorem dX2_improves_66 : decode cX2_improves 66 = .ok (.iload 5, 2) := by decide +kernel
theorem dX2_improves_68 : decode cX2_improves 68 = .ok (.iadd, 1) := by decide +kernel
theorem dX2_improves_69 : decode cX2_improves 69 = .ok (.aload_n 0, 1) := by decide +kernel
theorem dX2_improves_70 : decode cX2_improves 70 = .ok (.getfield 9, 3) := by decide +kernel
theorem dX2_improves_73 : decode cX2_improves 73 = .ok (.iload_n 3, 1) := by decide +kernel
theorem dX2_improves_74 : decode cX2_improves 74 = .ok (.iaload, 1) := by decide +kernel
theorem dX2_improves_75 : decode cX2_improves 75 = .ok (.if_icmp .ge 21, 3) := by decide +kernel
theorem dX2_improves_78 : decode cX2_improves 78 = .ok (.aload_n 0, 1) := by decide +kernel
theorem dX2_improves_79 : decode cX2_improves 79 = .ok (.getfield 9, 3) := by decide +kernel
theorem dX2_improves_82 : decode cX2_improves 82 = .ok (.iload_n 3, 1) := by decide +kernel
theorem dX2_improves_83 : decode cX2_improves 83 = .ok (.aload_n 0, 1) := by decide +kernel
theorem dX2_improves_84 : decode cX2_improves 84 = .ok (.getfield 9, 3) := by decide +kernel
theorem dX2_improves_87 : decode cX2_improves 87 = .ok (.iload 4, 2) := by decide +kernel
theorem dX2_improves_89 : decode cX2_improves 89 = .ok (.iaload, 1) := by decide +kernel
theorem dX2_improves_90 : decode cX2_improves 90 = .ok (.iload 5, 2) := by decide +kernel
theorem dX2_improves_92 : decode cX2_improves 92 = .ok (.iadd, 1) := by decide +kernel
theorem dX2_improves_93 : decode cX2_improves 93 = .ok (.iastore, 1) := by decide +kernel
theorem dX2_improves_94 : decode cX2_improves 94 = .ok (.iconst 1, 1) := by decide +kernel
theorem dX2_improves_95 : decode cX2_improves 95 = .ok (.ireturn, 1) := by decide +kernel
theorem dX2_improves_96 : decode cX2_improves 96 = .ok (.iconst 0, 1) := by decide +kernel
theorem dX2_improves_97 : decode cX2_improves 97 = .ok (.ireturn, 1) := by decide +kernel
theorem dX2_weightOf_0 : decode cX2_weightOf 0 = .ok (.aload_n 0, 1) := by decide +kernel
theorem dX2_weightOf_1 : decode cX2_weightOf 1 = .ok (.getfield 49, 3) := by decide +kernel
theorem dX2_weightOf_4 : decode cX2_weightOf 4 = .ok (.iload_n 1, 1) := by decide +kernel
theorem dX2_weightOf_5 : decode cX2_weightOf 5 = .ok (.iaload, 1) := by decide +kernel
theorem dX2_weightOf_6 : decode cX2_weightOf 6 = .ok (.bipush 16, 2) := by decide +kernel
theorem dX2_weightOf_8 : decode cX2_weightOf 8 = .ok (.imul, 1) := by decide +kernel
theorem dX2_weightOf_9 : decode cX2_weightOf 9 = .ok (.iconst 1, 1) := by decide +kernel
theorem dX2_weightOf_10 : decode cX2_weightOf 10 = .ok (.iadd, 1) := by decide +kernel
theorem dX2_weightOf_11 : decode cX2_weightOf 11 = .ok (.ireturn, 1) := by decide +kernel
theorem dX2_find_0 : decode cX2_find 0 = .ok (.iconst 0, 1) := by decide +kernel
theorem dX2_find_1 : decode cX2_find 1 = .ok (.istore_n 2, 1) := by decide +kernel
theorem dX2_find_2 : decode cX2_find 2 = .ok (.iload_n 2, 1) := by decide +kernel
theorem dX2_find_3 : decode cX2_find 3 = .ok (.bipush 9, 2) := by decide +kernel
theorem dX2_find_5 : decode cX2_find 5 = .ok (.if_icmp .ge 18, 3) := by decide +kernel
theorem dX2_find_8 : decode cX2_find 8 = .ok (.aload_n 0, 1) := by decide +kernel
theorem dX2_find_9 : decode cX2_find 9 = .ok (.getfield 18, 3) := by decide +kernel
theorem dX2_find_12 : decode cX2_find 12 = .ok (.iload_n 2, 1) := by decide +kernel
theorem dX2_find_13 : decode cX2_find 13 = .ok (.sipush (-999), 3) := by decide +kernel
theorem dX2_find_16 : decode cX2_find 16 = .ok (.iastore, 1) := by decide +kernel
theorem dX2_find_17 : decode cX2_find 17 = .ok (.iinc 2 1, 3) := by decide +kernel
theorem dX2_find_20 : decode cX2_find 20 = .ok (.goto (-18), 3) := by decide +kernel
theorem dX2_find_23 : decode cX2_find 23 = .ok (.aload_n 0, 1) := by decide +kernel
theorem dX2_find_24 : decode cX2_find 24 = .ok (.iconst 0, 1) := by decide +kernel
theorem dX2_find_25 : decode cX2_find 25 = .ok (.putfield 21, 3) := by decide +kernel
theorem dX2_find_28 : decode cX2_find 28 = .ok (.aload_n 0, 1) := by decide +kernel
theorem dX2_find_29 : decode cX2_find 29 = .ok (.aload_n 1, 1) := by decide +kernel
theorem dX2_find_30 : decode cX2_find 30 = .ok (.aload_n 1, 1) := by decide +kernel
theorem dX2_find_31 : decode cX2_find 31 = .ok (.getfield 52, 3) := by decide +kernel
theorem dX2_find_34 : decode cX2_find 34 = .ok (.invokevirtual 55, 3) := by decide +kernel
theorem dX2_find_37 : decode cX2_find 37 = .ok (.aload_n 0, 1) := by decide +kernel
theorem dX2_find_38 : decode cX2_find 38 = .ok (.getfield 9, 3) := by decide +kernel
theorem dX2_find_41 : decode cX2_find 41 = .ok (.aload_n 1, 1) := by decide +kernel
theorem dX2_find_42 : decode cX2_find 42 = .ok (.getfield 59, 3) := by decide +kernel
theorem dX2_find_45 : decode cX2_find 45 = .ok (.iaload, 1) := by decide +kernel
theorem dX2_find_46 : decode cX2_find 46 = .ok (.ldc 25, 2) := by decide +kernel
theorem dX2_find_48 : decode cX2_find 48 = .ok (.if_icmp .ne 9, 3) := by decide +kernel
theorem dX2_find_51 : decode cX2_find 51 = .ok (.sipush (-999), 3) := by decide +kernel
theorem dX2_find_54 : decode cX2_find 54 = .ok (.goto 7, 3) := by decide +kernel
theorem dX2_find_57 : decode cX2_find 57 = .ok (.aload_n 1, 1) := by decide +kernel
theorem dX2_find_58 : decode cX2_find 58 = .ok (.getfield 59, 3) := by decide +kernel
theorem dX2_find_61 : decode cX2_find 61 = .ok (.istore_n 2, 1) := by decide +kernel
theorem dX2_find_62 : decode cX2_find 62 = .ok (.iload_n 2, 1) := by decide +kernel
theorem dX2_find_63 : decode cX2_find 63 = .ok (.sipush (-999), 3) := by decide +kernel
theorem dX2_find_66 : decode cX2_find 66 = .ok (.if_icmp .eq 52, 3) := by decide +kernel
theorem dX2_find_69 : decode cX2_find 69 = .ok (.aload_n 0, 1) := by decide +kernel
theorem dX2_find_70 : decode cX2_find 70 = .ok (.getfield 21, 3) := by decide +kernel
theorem dX2_find_73 : decode cX2_find 73 = .ok (.bipush 9, 2) := by decide +kernel
theorem dX2_find_75 : decode cX2_find 75 = .ok (.if_icmp .ge 43, 3) := by decide +kernel
theorem dX2_find_78 : decode cX2_find 78 = .ok (.aload_n 0, 1) := by decide +kernel
theorem dX2_find_79 : decode cX2_find 79 = .ok (.getfield 15, 3) := by decide +kernel
theorem dX2_find_82 : decode cX2_find 82 = .ok (.aload_n 0, 1) := by decide +kernel
theorem dX2_find_83 : decode cX2_find 83 = .ok (.getfield 21, 3) := by decide +kernel
theorem dX2_find_86 : decode cX2_find 86 = .ok (.iload_n 2, 1) := by decide +kernel
theorem dX2_find_87 : decode cX2_find 87 = .ok (.iastore, 1) := by decide +kernel
theorem dX2_find_88 : decode cX2_find 88 = .ok (.aload_n 0, 1) := by decide +kernel
theorem dX2_find_89 : decode cX2_find 89 = .ok (.getfield 18, 3) := by decide +kernel
theorem dX2_find_92 : decode cX2_find 92 = .ok (.iload_n 2, 1) := by decide +kernel
theorem dX2_find_93 : decode cX2_find 93 = .ok (.aload_n 0, 1) := by decide +kernel
theorem dX2_find_94 : decode cX2_find 94 = .ok (.getfield 21, 3) := by decide +kernel
theorem dX2_find_97 : decode cX2_find 97 = .ok (.iastore, 1) := by decide +kernel
theorem dX2_find_98 : decode cX2_find 98 = .ok (.aload_n 0, 1) := by decide +kernel
theorem dX2_find_99 : decode cX2_find 99 = .ok (.dup, 1) := by decide +kernel
theorem dX2_find_100 : decode cX2_find 100 = .ok (.getfield 21, 3) := by decide +kernel
theorem dX2_find_103 : decode cX2_find 103 = .ok (.iconst 1, 1) := by decide +kernel
theorem dX2_find_104 : decode cX2_find 104 = .ok (.iadd, 1) := by decide +kernel
theorem dX2_find_105 : decode cX2_find 105 = .ok (.putfield 21, 3) := by decide +kernel
theorem dX2_find_108 : decode cX2_find 108 = .ok (.aload_n 0, 1) := by decide +kernel
theorem dX2_find_109 : decode cX2_find 109 = .ok (.aload_n 1, 1) := by decide +kernel
theorem dX2_find_110 : decode cX2_find 110 = .ok (.iload_n 2, 1) := by decide +kernel
theorem dX2_find_111 : decode cX2_find 111 = .ok (.invokevirtual 62, 3) := by decide +kernel
theorem dX2_find_114 : decode cX2_find 114 = .ok (.istore_n 2, 1) := by decide +kernel
theorem dX2_find_115 : decode cX2_find 115 = .ok (.goto (-53), 3) := by decide +kernel
theorem dX2_find_118 : decode cX2_find 118 = .ok (.return_, 1) := by decide +kernel
theorem dX2_nextBehind_0 : decode cX2_nextBehind 0 = .ok (.sipush (-999), 3) := by decide +kernel
theorem dX2_nextBehind_3 : decode cX2_nextBehind 3 = .ok (.istore_n 3, 1) := by decide +kernel
theorem dX2_nextBehind_4 : decode cX2_nextBehind 4 = .ok (.iconst 0, 1) := by decide +kernel
theorem dX2_nextBehind_5 : decode cX2_nextBehind 5 = .ok (.istore 4, 2) := by decide +kernel
theorem dX2_nextBehind_7 : decode cX2_nextBehind 7 = .ok (.iload 4, 2) := by decide +kernel
theorem dX2_nextBehind_9 : decode cX2_nextBehind 9 = .ok (.aload_n 1, 1) := by decide +kernel
theorem dX2_nextBehind_10 : decode cX2_nextBehind 10 = .ok (.getfield 26, 3) := by decide +kernel
theorem dX2_nextBehind_13 : decode cX2_nextBehind 13 = .ok (.if_icmp .ge 65, 3) := by decide +kernel
theorem dX2_nextBehind_16 : decode cX2_nextBehind 16 = .ok (.aload_n 1, 1) := by decide +kernel
theorem dX2_nextBehind_17 : decode cX2_nextBehind 17 = .ok (.iload 4, 2) := by decide +kernel
theorem dX2_nextBehind_19 : decode cX2_nextBehind 19 = .ok (.iload_n 2, 1) := by decide +kernel
theorem dX2_nextBehind_20 : decode cX2_nextBehind 20 = .ok (.invokevirtual 65, 3) := by decide +kernel
theorem dX2_nextBehind_23 : decode cX2_nextBehind 23 = .ok (.istore 5, 2) := by decide +kernel
theorem dX2_nextBehind_25 : decode cX2_nextBehind 25 = .ok (.iload 5, 2) := by decide +kernel
theorem dX2_nextBehind_27 : decode cX2_nextBehind 27 = .ok (.sipush (-999), 3) := by decide +kernel
theorem dX2_nextBehind_30 : decode cX2_nextBehind 30 = .ok (.if_icmp .eq 42, 3) := by decide +kernel
theorem dX2_nextBehind_33 : decode cX2_nextBehind 33 = .ok (.aload_n 0, 1) := by decide +kernel
theorem dX2_nextBehind_34 : decode cX2_nextBehind 34 = .ok (.getfield 9, 3) := by decide +kernel
theorem dX2_nextBehind_37 : decode cX2_nextBehind 37 = .ok (.iload 5, 2) := by decide +kernel
theorem dX2_nextBehind_39 : decode cX2_nextBehind 39 = .ok (.iaload, 1) := by decide +kernel
theorem dX2_nextBehind_40 : decode cX2_nextBehind 40 = .ok (.aload_n 1, 1) := by decide +kernel
theorem dX2_nextBehind_41 : decode cX2_nextBehind 41 = .ok (.iload 4, 2) := by decide +kernel
theorem dX2_nextBehind_43 : decode cX2_nextBehind 43 = .ok (.invokestatic 45, 3) := by decide +kernel
theorem dX2_nextBehind_46 : decode cX2_nextBehind 46 = .ok (.iadd, 1) := by decide +kernel
theorem dX2_nextBehind_47 : decode cX2_nextBehind 47 = .ok (.aload_n 0, 1) := by decide +kernel
theorem dX2_nextBehind_48 : decode cX2_nextBehind 48 = .ok (.getfield 9, 3) := by decide +kernel
theorem dX2_nextBehind_51 : decode cX2_nextBehind 51 = .ok (.iload_n 2, 1) := by decide +kernel
theorem dX2_nextBehind_52 : decode cX2_nextBehind 52 = .ok (.iaload, 1) := by decide +kernel
theorem dX2_nextBehind_53 : decode cX2_nextBehind 53 = .ok (.if_icmp .ne 19, 3) := by decide +kernel
theorem dX2_nextBehind_56 : decode cX2_nextBehind 56 = .ok (.iload_n 3, 1) := by decide +kernel
theorem dX2_nextBehind_57 : decode cX2_nextBehind 57 = .ok (.sipush (-999), 3) := by decide +kernel
theorem dX2_nextBehind_60 : decode cX2_nextBehind 60 = .ok (.if_icmp .eq 9, 3) := by decide +kernel
theorem dX2_nextBehind_63 : decode cX2_nextBehind 63 = .ok (.iload 5, 2) := by decide +kernel
theorem dX2_nextBehind_65 : decode cX2_nextBehind 65 = .ok (.iload_n 3, 1) := by decide +kernel
theorem dX2_nextBehind_66 : decode cX2_nextBehind 66 = .ok (.if_icmp .ge 6, 3) := by decide +kernel
theorem dX2_nextBehind_69 : decode cX2_nextBehind 69 = .ok (.iload 5, 2) := by decide +kernel
theorem dX2_nextBehind_71 : decode cX2_nextBehind 71 = .ok (.istore_n 3, 1) := by decide +kernel
theorem dX2_nextBehind_72 : decode cX2_nextBehind 72 = .ok (.iinc 4 1, 3) := by decide +kernel
theorem dX2_nextBehind_75 : decode cX2_nextBehind 75 = .ok (.goto (-68), 3) := by decide +kernel
theorem dX2_nextBehind_78 : decode cX2_nextBehind 78 = .ok (.iload_n 3, 1) := by decide +kernel
theorem dX2_nextBehind_79 : decode cX2_nextBehind 79 = .ok (.ireturn, 1) := by decide +kernel
theorem dX2_lengthFrom_0 : decode cX2_lengthFrom 0 = .ok (.iload_n 1, 1) := by decide +kernel
theorem dX2_lengthFrom_1 : decode cX2_lengthFrom 1 = .ok (.ifCond .lt 20, 3) := by decide +kernel
theorem dX2_lengthFrom_4 : decode cX2_lengthFrom 4 = .ok (.iload_n 1, 1) := by decide +kernel
theorem dX2_lengthFrom_5 : decode cX2_lengthFrom 5 = .ok (.bipush 9, 2) := by decide +kernel
theorem dX2_lengthFrom_7 : decode cX2_lengthFrom 7 = .ok (.if_icmp .ge 14, 3) := by decide +kernel
theorem dX2_lengthFrom_10 : decode cX2_lengthFrom 10 = .ok (.aload_n 0, 1) := by decide +kernel
theorem dX2_lengthFrom_11 : decode cX2_lengthFrom 11 = .ok (.getfield 9, 3) := by decide +kernel
theorem dX2_lengthFrom_14 : decode cX2_lengthFrom 14 = .ok (.iload_n 1, 1) := by decide +kernel
theorem dX2_lengthFrom_15 : decode cX2_lengthFrom 15 = .ok (.iaload, 1) := by decide +kernel
theorem dX2_lengthFrom_16 : decode cX2_lengthFrom 16 = .ok (.ldc 25, 2) := by decide +kernel
theorem dX2_lengthFrom_18 : decode cX2_lengthFrom 18 = .ok (.if_icmp .ne 7, 3) := by decide +kernel
theorem dX2_lengthFrom_21 : decode cX2_lengthFrom 21 = .ok (.sipush (-999), 3) := by decide +kernel
theorem dX2_lengthFrom_24 : decode cX2_lengthFrom 24 = .ok (.ireturn, 1) := by decide +kernel
theorem dX2_lengthFrom_25 : decode cX2_lengthFrom 25 = .ok (.aload_n 0, 1) := by decide +kernel
theorem dX2_lengthFrom_26 : decode cX2_lengthFrom 26 = .ok (.getfield 9, 3) := by decide +kernel
theorem dX2_lengthFrom_29 : decode cX2_lengthFrom 29 = .ok (.iload_n 1, 1) := by decide +kernel
theorem dX2_lengthFrom_30 : decode cX2_lengthFrom 30 = .ok (.iaload, 1) := by decide +kernel
theorem dX2_lengthFrom_31 : decode cX2_lengthFrom 31 = .ok (.bipush 16, 2) := by decide +kernel
theorem dX2_lengthFrom_33 : decode cX2_lengthFrom 33 = .ok (.idiv, 1) := by decide +kernel
theorem dX2_lengthFrom_34 : decode cX2_lengthFrom 34 = .ok (.ireturn, 1) := by decide +kernel
theorem dX2_farthest_0 : decode cX2_farthest 0 = .ok (.iconst 0, 1) := by decide +kernel
theorem dX2_farthest_1 : decode cX2_farthest 1 = .ok (.istore_n 2, 1) := by decide +kernel
theorem dX2_farthest_2 : decode cX2_farthest 2 = .ok (.iconst 0, 1) := by decide +kernel
theorem dX2_farthest_3 : decode cX2_farthest 3 = .ok (.istore_n 3, 1) := by decide +kernel
theorem dX2_farthest_4 : decode cX2_farthest 4 = .ok (.iload_n 3, 1) := by decide +kernel
theorem dX2_farthest_5 : decode cX2_farthest 5 = .ok (.aload_n 1, 1) := by decide +kernel
theorem dX2_farthest_6 : decode cX2_farthest 6 = .ok (.getfield 69, 3) := by decide +kernel
theorem dX2_farthest_9 : decode cX2_farthest 9 = .ok (.if_icmp .ge 35, 3) := by decide +kernel
theorem dX2_farthest_12 : decode cX2_farthest 12 = .ok (.aload_n 0, 1) := by decide +kernel
theorem dX2_farthest_13 : decode cX2_farthest 13 = .ok (.iload_n 3, 1) := by decide +kernel
theorem dX2_farthest_14 : decode cX2_farthest 14 = .ok (.invokevirtual 72, 3) := by decide +kernel
theorem dX2_farthest_17 : decode cX2_farthest 17 = .ok (.istore 4, 2) := by decide +kernel
theorem dX2_farthest_19 : decode cX2_farthest 19 = .ok (.iload 4, 2) := by decide +kernel
theorem dX2_farthest_21 : decode cX2_farthest 21 = .ok (.sipush (-999), 3) := by decide +kernel
theorem dX2_farthest_24 : decode cX2_farthest 24 = .ok (.if_icmp .ne 7, 3) := by decide +kernel
theorem dX2_farthest_27 : decode cX2_farthest 27 = .ok (.sipush (-999), 3) := by decide +kernel
theorem dX2_farthest_30 : decode cX2_farthest 30 = .ok (.ireturn, 1) := by decide +kernel
theorem dX2_farthest_31 : decode cX2_farthest 31 = .ok (.iload_n 2, 1) := by decide +kernel
theorem dX2_farthest_32 : decode cX2_farthest 32 = .ok (.iload 4, 2) := by decide +kernel
theorem dX2_farthest_34 : decode cX2_farthest 34 = .ok (.invokestatic 76, 3) := by decide +kernel
theorem dX2_farthest_37 : decode cX2_farthest 37 = .ok (.istore_n 2, 1) := by decide +kernel
theorem dX2_farthest_38 : decode cX2_farthest 38 = .ok (.iinc 3 1, 3) := by decide +kernel
theorem dX2_farthest_41 : decode cX2_farthest 41 = .ok (.goto (-37), 3) := by decide +kernel
theorem dX2_farthest_44 : decode cX2_farthest 44 = .ok (.iload_n 2, 1) := by decide +kernel
theorem dX2_farthest_45 : decode cX2_farthest 45 = .ok (.ireturn, 1) := by decide +kernel
theorem dX2_streets_0 : decode cX2_streets 0 = .ok (.aload_n 0, 1) := by decide +kernel
theorem dX2_streets_1 : decode cX2_streets 1 = .ok (.getfield 21, 3) := by decide +kernel
theorem dX2_streets_4 : decode cX2_streets 4 = .ok (.ifCond .ne 9, 3) := by decide +kernel
theorem dX2_streets_7 : decode cX2_streets 7 = .ok (.sipush (-999), 3) := by decide +kernel
theorem dX2_streets_10 : decode cX2_streets 10 = .ok (.goto 9, 3) := by decide +kernel
theorem dX2_streets_13 : decode cX2_streets 13 = .ok (.aload_n 0, 1) := by decide +kernel
theorem dX2_streets_14 : decode cX2_streets 14 = .ok (.getfield 21, 3) := by decide +kernel
theorem dX2_streets_17 : decode cX2_streets 17 = .ok (.iconst 1, 1) := by decide +kernel
theorem dX2_streets_18 : decode cX2_streets 18 = .ok (.isub, 1) := by decide +kernel
theorem dX2_streets_19 : decode cX2_streets 19 = .ok (.ireturn, 1) := by decide +kernel
theorem dX2_crossingAt_0 : decode cX2_crossingAt 0 = .ok (.iload_n 1, 1) := by decide +kernel
theorem dX2_crossingAt_1 : decode cX2_crossingAt 1 = .ok (.ifCond .lt 20, 3) := by decide +kernel
theorem dX2_crossingAt_4 : decode cX2_crossingAt 4 = .ok (.iload_n 1, 1) := by decide +kernel
theorem dX2_crossingAt_5 : decode cX2_crossingAt 5 = .ok (.aload_n 0, 1) := by decide +kernel
theorem dX2_crossingAt_6 : decode cX2_crossingAt 6 = .ok (.getfield 21, 3) := by decide +kernel
theorem dX2_crossingAt_9 : decode cX2_crossingAt 9 = .ok (.if_icmp .ge 12, 3) := by decide +kernel
theorem dX2_crossingAt_12 : decode cX2_crossingAt 12 = .ok (.aload_n 0, 1) := by decide +kernel
theorem dX2_crossingAt_13 : decode cX2_crossingAt 13 = .ok (.getfield 15, 3) := by decide +kernel
theorem dX2_crossingAt_16 : decode cX2_crossingAt 16 = .ok (.iload_n 1, 1) := by decide +kernel
theorem dX2_crossingAt_17 : decode cX2_crossingAt 17 = .ok (.iaload, 1) := by decide +kernel
theorem dX2_crossingAt_18 : decode cX2_crossingAt 18 = .ok (.goto 6, 3) := by decide +kernel
theorem dX2_crossingAt_21 : decode cX2_crossingAt 21 = .ok (.sipush (-999), 3) := by decide +kernel
theorem dX2_crossingAt_24 : decode cX2_crossingAt 24 = .ok (.ireturn, 1) := by decide +kernel
theorem dX2_placeOf_0 : decode cX2_placeOf 0 = .ok (.iload_n 1, 1) := by decide +kernel
theorem dX2_placeOf_1 : decode cX2_placeOf 1 = .ok (.ifCond .lt 18, 3) := by decide +kernel
theorem dX2_placeOf_4 : decode cX2_placeOf 4 = .ok (.iload_n 1, 1) := by decide +kernel
theorem dX2_placeOf_5 : decode cX2_placeOf 5 = .ok (.bipush 9, 2) := by decide +kernel
theorem dX2_placeOf_7 : decode cX2_placeOf 7 = .ok (.if_icmp .ge 12, 3) := by decide +kernel
theorem dX2_placeOf_10 : decode cX2_placeOf 10 = .ok (.aload_n 0, 1) := by decide +kernel
theorem dX2_placeOf_11 : decode cX2_placeOf 11 = .ok (.getfield 18, 3) := by decide +kernel
theorem dX2_placeOf_14 : decode cX2_placeOf 14 = .ok (.iload_n 1, 1) := by decide +kernel
theorem dX2_placeOf_15 : decode cX2_placeOf 15 = .ok (.iaload, 1) := by decide +kernel
theorem dX2_placeOf_16 : decode cX2_placeOf 16 = .ok (.goto 6, 3) := by decide +kernel
theorem dX2_placeOf_19 : decode cX2_placeOf 19 = .ok (.sipush (-999), 3) := by decide +kernel
theorem dX2_placeOf_22 : decode cX2_placeOf 22 = .ok (.ireturn, 1) := by decide +kernel
theorem dX2_uses_0 : decode cX2_uses 0 = .ok (.aload_n 0, 1) := by decide +kernel
theorem dX2_uses_1 : decode cX2_uses 1 = .ok (.aload_n 1, 1) := by decide +kernel
theorem dX2_uses_2 : decode cX2_uses 2 = .ok (.getfield 39, 3) := by decide +kernel
theorem dX2_uses_5 : decode cX2_uses 5 = .ok (.iload_n 2, 1) := by decide +kernel
theorem dX2_uses_6 : decode cX2_uses 6 = .ok (.iaload, 1) := by decide +kernel
theorem dX2_uses_7 : decode cX2_uses 7 = .ok (.invokevirtual 81, 3) := by decide +kernel
theorem dX2_uses_10 : decode cX2_uses 10 = .ok (.istore_n 3, 1) := by decide +kernel
theorem dX2_uses_11 : decode cX2_uses 11 = .ok (.aload_n 0, 1) := by decide +kernel
theorem dX2_uses_12 : decode cX2_uses 12 = .ok (.aload_n 1, 1) := by decide +kernel
theorem dX2_uses_13 : decode cX2_uses 13 = .ok (.getfield 42, 3) := by decide +kernel
theorem dX2_uses_16 : decode cX2_uses 16 = .ok (.iload_n 2, 1) := by decide +kernel
theorem dX2_uses_17 : decode cX2_uses 17 = .ok (.iaload, 1) := by decide +kernel
theorem dX2_uses_18 : decode cX2_uses 18 = .ok (.invokevirtual 81, 3) := by decide +kernel
theorem dX2_uses_21 : decode cX2_uses 21 = .ok (.istore 4, 2) := by decide +kernel
theorem dX2_uses_23 : decode cX2_uses 23 = .ok (.iload_n 3, 1) := by decide +kernel
theorem dX2_uses_24 : decode cX2_uses 24 = .ok (.sipush (-999), 3) := by decide +kernel
theorem dX2_uses_27 : decode cX2_uses 27 = .ok (.if_icmp .eq 31, 3) := by decide +kernel
theorem dX2_uses_30 : decode cX2_uses 30 = .ok (.iload 4, 2) := by decide +kernel
theorem dX2_uses_32 : decode cX2_uses 32 = .ok (.sipush (-999), 3) := by decide +kernel
theorem dX2_uses_35 : decode cX2_uses 35 = .ok (.if_icmp .eq 23, 3) := by decide +kernel
theorem dX2_uses_38 : decode cX2_uses 38 = .ok (.iload_n 3, 1) := by decide +kernel
theorem dX2_uses_39 : decode cX2_uses 39 = .ok (.iload 4, 2) := by decide +kernel
theorem dX2_uses_41 : decode cX2_uses 41 = .ok (.isub, 1) := by decide +kernel
theorem dX2_uses_42 : decode cX2_uses 42 = .ok (.iconst 1, 1) := by decide +kernel
theorem dX2_uses_43 : decode cX2_uses 43 = .ok (.if_icmp .eq 11, 3) := by decide +kernel
theorem dX2_uses_46 : decode cX2_uses 46 = .ok (.iload 4, 2) := by decide +kernel
theorem dX2_uses_48 : decode cX2_uses 48 = .ok (.iload_n 3, 1) := by decide +kernel
theorem dX2_uses_49 : decode cX2_uses 49 = .ok (.isub, 1) := by decide +kernel
theorem dX2_uses_50 : decode cX2_uses 50 = .ok (.iconst 1, 1) := by decide +kernel
theorem dX2_uses_51 : decode cX2_uses 51 = .ok (.if_icmp .ne 7, 3) := by decide +kernel
theorem dX2_uses_54 : decode cX2_uses 54 = .ok (.iconst 1, 1) := by decide +kernel
theorem dX2_uses_55 : decode cX2_uses 55 = .ok (.goto 4, 3) := by decide +kernel
theorem dX2_uses_58 : decode cX2_uses 58 = .ok (.iconst 0, 1) := by decide +kernel
theorem dX2_uses_59 : decode cX2_uses 59 = .ok (.ireturn, 1) := by decide +kernel
theorem dX3_init_0 : decode cX3_init 0 = .ok (.aload_n 0, 1) := by decide +kernel
theorem dX3_init_1 : decode cX3_init 1 = .ok (.invokespecial 3, 3) := by decide +kernel
theorem dX3_init_4 : decode cX3_init 4 = .ok (.aload_n 0, 1) := by decide +kernel
theorem dX3_init_5 : decode cX3_init 5 = .ok (.iconst 2, 1) := by decide +kernel
theorem dX3_init_6 : decode cX3_init 6 = .ok (.anewarray 9, 3) := by decide +kernel
theorem dX3_init_9 : decode cX3_init 9 = .ok (.putfield 11, 3) := by decide +kernel
theorem dX3_init_12 : decode cX3_init 12 = .ok (.aload_n 0, 1) := by decide +kernel
theorem dX3_init_13 : decode cX3_init 13 = .ok (.iconst 2, 1) := by decide +kernel
theorem dX3_init_14 : decode cX3_init 14 = .ok (.newarray .boolean, 2) := by decide +kernel
theorem dX3_init_16 : decode cX3_init 16 = .ok (.putfield 17, 3) := by decide +kernel
theorem dX3_init_19 : decode cX3_init 19 = .ok (.iconst 0, 1) := by decide +kernel
theorem dX3_init_20 : decode cX3_init 20 = .ok (.istore_n 1, 1) := by decide +kernel
theorem dX3_init_21 : decode cX3_init 21 = .ok (.iload_n 1, 1) := by decide +kernel
theorem dX3_init_22 : decode cX3_init 22 = .ok (.iconst 2, 1) := by decide +kernel
theorem dX3_init_23 : decode cX3_init 23 = .ok (.if_icmp .ge 22, 3) := by decide +kernel
theorem dX3_init_26 : decode cX3_init 26 = .ok (.aload_n 0, 1) := by decide +kernel
theorem dX3_init_27 : decode cX3_init 27 = .ok (.getfield 11, 3) := by decide +kernel
theorem dX3_init_30 : decode cX3_init 30 = .ok (.iload_n 1, 1) := by decide +kernel
theorem dX3_init_31 : decode cX3_init 31 = .ok (.new 9, 3) := by decide +kernel
theorem dX3_init_34 : decode cX3_init 34 = .ok (.dup, 1) := by decide +kernel
theorem dX3_init_35 : decode cX3_init 35 = .ok (.invokespecial 21, 3) := by decide +kernel
theorem dX3_init_38 : decode cX3_init 38 = .ok (.aastore, 1) := by decide +kernel
theorem dX3_init_39 : decode cX3_init 39 = .ok (.iinc 1 1, 3) := by decide +kernel
theorem dX3_init_42 : decode cX3_init 42 = .ok (.goto (-21), 3) := by decide +kernel
theorem dX3_init_45 : decode cX3_init 45 = .ok (.return_, 1) := by decide +kernel
theorem dX3_keep_0 : decode cX3_keep 0 = .ok (.aload_n 0, 1) := by decide +kernel
theorem dX3_keep_1 : decode cX3_keep 1 = .ok (.getfield 11, 3) := by decide +kernel
theorem dX3_keep_4 : decode cX3_keep 4 = .ok (.iload_n 1, 1) := by decide +kernel
theorem dX3_keep_5 : decode cX3_keep 5 = .ok (.aaload, 1) := by decide +kernel
theorem dX3_keep_6 : decode cX3_keep 6 = .ok (.aload_n 2, 1) := by decide +kernel
theorem dX3_keep_7 : decode cX3_keep 7 = .ok (.invokevirtual 22, 3) := by decide +kernel
theorem dX3_keep_10 : decode cX3_keep 10 = .ok (.aload_n 0, 1) := by decide +kernel
theorem dX3_keep_11 : decode cX3_keep 11 = .ok (.getfield 17, 3) := by decide +kernel
theorem dX3_keep_14 : decode cX3_keep 14 = .ok (.iload_n 1, 1) := by decide +kernel
theorem dX3_keep_15 : decode cX3_keep 15 = .ok (.iconst 1, 1) := by decide +kernel
theorem dX3_keep_16 : decode cX3_keep 16 = .ok (.bastore, 1) := by decide +kernel
theorem dX3_keep_17 : decode cX3_keep 17 = .ok (.return_, 1) := by decide +kernel
theorem dX3_giveBack_0 : decode cX3_giveBack 0 = .ok (.aload_n 2, 1) := by decide +kernel
theorem dX3_giveBack_1 : decode cX3_giveBack 1 = .ok (.aload_n 0, 1) := by decide +kernel
theorem dX3_giveBack_2 : decode cX3_giveBack 2 = .ok (.getfield 11, 3) := by decide +kernel
theorem dX3_giveBack_5 : decode cX3_giveBack 5 = .ok (.iload_n 1, 1) := by decide +kernel
theorem dX3_giveBack_6 : decode cX3_giveBack 6 = .ok (.aaload, 1) := by decide +kernel
theorem dX3_giveBack_7 : decode cX3_giveBack 7 = .ok (.invokevirtual 22, 3) := by decide +kernel
theorem dX3_giveBack_10 : decode cX3_giveBack 10 = .ok (.return_, 1) := by decide +kernel
theorem dX3_emptyAll_0 : decode cX3_emptyAll 0 = .ok (.iconst 0, 1) := by decide +kernel
theorem dX3_emptyAll_1 : decode cX3_emptyAll 1 = .ok (.istore_n 1, 1) := by decide +kernel
theorem dX3_emptyAll_2 : decode cX3_emptyAll 2 = .ok (.iload_n 1, 1) := by decide +kernel
theorem dX3_emptyAll_3 : decode cX3_emptyAll 3 = .ok (.iconst 2, 1) := by decide +kernel
theorem dX3_emptyAll_4 : decode cX3_emptyAll 4 = .ok (.if_icmp .ge 16, 3) := by decide +kernel
theorem dX3_emptyAll_7 : decode cX3_emptyAll 7 = .ok (.aload_n 0, 1) := by decide +kernel
theorem dX3_emptyAll_8 : decode cX3_emptyAll 8 = .ok (.getfield 17, 3) := by decide +kernel
theorem dX3_emptyAll_11 : decode cX3_emptyAll 11 = .ok (.iload_n 1, 1) := by decide +kernel
theorem dX3_emptyAll_12 : decode cX3_emptyAll 12 = .ok (.iconst 0, 1) := by decide +kernel
theorem dX3_emptyAll_13 : decode cX3_emptyAll 13 = .ok (.bastore, 1) := by decide +kernel
theorem dX3_emptyAll_14 : decode cX3_emptyAll 14 = .ok (.iinc 1 1, 3) := by decide +kernel
theorem dX3_emptyAll_17 : decode cX3_emptyAll 17 = .ok (.goto (-15), 3) := by decide +kernel
theorem dX3_emptyAll_20 : decode cX3_emptyAll 20 = .ok (.return_, 1) := by decide +kernel
theorem dX4_init_0 : decode cX4_init 0 = .ok (.aload_n 0, 1) := by decide +kernel
theorem dX4_init_1 : decode cX4_init 1 = .ok (.invokespecial 3, 3) := by decide +kernel
theorem dX4_init_4 : decode cX4_init 4 = .ok (.aload_n 0, 1) := by decide +kernel
theorem dX4_init_5 : decode cX4_init 5 = .ok (.sipush 140, 3) := by decide +kernel
theorem dX4_init_8 : decode cX4_init 8 = .ok (.newarray .char, 2) := by decide +kernel
theorem dX4_init_10 : decode cX4_init 10 = .ok (.putfield 9, 3) := by decide +kernel
theorem dX4_init_13 : decode cX4_init 13 = .ok (.aload_n 0, 1) := by decide +kernel
theorem dX4_init_14 : decode cX4_init 14 = .ok (.iconst 0, 1) := by decide +kernel
theorem dX4_init_15 : decode cX4_init 15 = .ok (.putfield 15, 3) := by decide +kernel
theorem dX4_init_18 : decode cX4_init 18 = .ok (.return_, 1) := by decide +kernel
theorem dX4_put_0 : decode cX4_put 0 = .ok (.aload_n 0, 1) := by decide +kernel
theorem dX4_put_1 : decode cX4_put 1 = .ok (.getfield 15, 3) := by decide +kernel
theorem dX4_put_4 : decode cX4_put 4 = .ok (.sipush 140, 3) := by decide +kernel
theorem dX4_put_7 : decode cX4_put 7 = .ok (.if_icmp .ge 23, 3) := by decide +kernel
theorem dX4_put_10 : decode cX4_put 10 = .ok (.aload_n 0, 1) := by decide +kernel
theorem dX4_put_11 : decode cX4_put 11 = .ok (.getfield 9, 3) := by decide +kernel
theorem dX4_put_14 : decode cX4_put 14 = .ok (.aload_n 0, 1) := by decide +kernel
theorem dX4_put_15 : decode cX4_put 15 = .ok (.getfield 15, 3) := by decide +kernel
theorem dX4_put_18 : decode cX4_put 18 = .ok (.iload_n 1, 1) := by decide +kernel
theorem dX4_put_19 : decode cX4_put 19 = .ok (.castore, 1) := by decide +kernel
theorem dX4_put_20 : decode cX4_put 20 = .ok (.aload_n 0, 1) := by decide +kernel
theorem dX4_put_21 : decode cX4_put 21 = .ok (.dup, 1) := by decide +kernel
theorem dX4_put_22 : decode cX4_put 22 = .ok (.getfield 15, 3) := by decide +kernel
theorem dX4_put_25 : decode cX4_put 25 = .ok (.iconst 1, 1) := by decide +kernel
theorem dX4_put_26 : decode cX4_put 26 = .ok (.iadd, 1) := by decide +kernel
theorem dX4_put_27 : decode cX4_put 27 = .ok (.putfield 15, 3) := by decide +kernel
theorem dX4_put_30 : decode cX4_put 30 = .ok (.return_, 1) := by decide +kernel
theorem dX4_codeAt_0 : decode cX4_codeAt 0 = .ok (.iload_n 1, 1) := by decide +kernel
theorem dX4_codeAt_1 : decode cX4_codeAt 1 = .ok (.ifCond .lt 20, 3) := by decide +kernel
theorem dX4_codeAt_4 : decode cX4_codeAt 4 = .ok (.iload_n 1, 1) := by decide +kernel
theorem dX4_codeAt_5 : decode cX4_codeAt 5 = .ok (.aload_n 0, 1) := by decide +kernel
theorem dX4_codeAt_6 : decode cX4_codeAt 6 = .ok (.getfield 15, 3) := by decide +kernel
theorem dX4_codeAt_9 : decode cX4_codeAt 9 = .ok (.if_icmp .ge 12, 3) := by decide +kernel
theorem dX4_codeAt_12 : decode cX4_codeAt 12 = .ok (.aload_n 0, 1) := by decide +kernel
theorem dX4_codeAt_13 : decode cX4_codeAt 13 = .ok (.getfield 9, 3) := by decide +kernel
theorem dX4_codeAt_16 : decode cX4_codeAt 16 = .ok (.iload_n 1, 1) := by decide +kernel
theorem dX4_codeAt_17 : decode cX4_codeAt 17 = .ok (.caload, 1) := by decide +kernel
theorem dX4_codeAt_18 : decode cX4_codeAt 18 = .ok (.goto 4, 3) := by decide +kernel
theorem dX4_codeAt_21 : decode cX4_codeAt 21 = .ok (.iconst (-1), 1) := by decide +kernel
theorem dX4_codeAt_22 : decode cX4_codeAt 22 = .ok (.ireturn, 1) := by decide +kernel
theorem dX4_digitAt_0 : decode cX4_digitAt 0 = .ok (.aload_n 0, 1) := by decide +kernel
theorem dX4_digitAt_1 : decode cX4_digitAt 1 = .ok (.iload_n 1, 1) := by decide +kernel
theorem dX4_digitAt_2 : decode cX4_digitAt 2 = .ok (.invokevirtual 19, 3) := by decide +kernel
theorem dX4_digitAt_5 : decode cX4_digitAt 5 = .ok (.istore_n 2, 1) := by decide +kernel
theorem dX4_digitAt_6 : decode cX4_digitAt 6 = .ok (.iload_n 2, 1) := by decide +kernel
theorem dX4_digitAt_7 : decode cX4_digitAt 7 = .ok (.bipush 48, 2) := by decide +kernel
theorem dX4_digitAt_9 : decode cX4_digitAt 9 = .ok (.if_icmp .lt 16, 3) := by decide +kernel
theorem dX4_digitAt_12 : decode cX4_digitAt 12 = .ok (.iload_n 2, 1) := by decide +kernel
theorem dX4_digitAt_13 : decode cX4_digitAt 13 = .ok (.bipush 57, 2) := by decide +kernel
theorem dX4_digitAt_15 : decode cX4_digitAt 15 = .ok (.if_icmp .gt 10, 3) := by decide +kernel
theorem dX4_digitAt_18 : decode cX4_digitAt 18 = .ok (.iload_n 2, 1) := by decide +kernel
theorem dX4_digitAt_19 : decode cX4_digitAt 19 = .ok (.bipush 48, 2) := by decide +kernel
theorem dX4_digitAt_21 : decode cX4_digitAt 21 = .ok (.isub, 1) := by decide +kernel
theorem dX4_digitAt_22 : decode cX4_digitAt 22 = .ok (.goto 6, 3) := by decide +kernel
theorem dX4_digitAt_25 : decode cX4_digitAt 25 = .ok (.sipush (-999), 3) := by decide +kernel
theorem dX4_digitAt_28 : decode cX4_digitAt 28 = .ok (.ireturn, 1) := by decide +kernel
theorem dX5_init_0 : decode cX5_init 0 = .ok (.aload_n 0, 1) := by decide +kernel
theorem dX5_init_1 : decode cX5_init 1 = .ok (.invokespecial 3, 3) := by decide +kernel
theorem dX5_init_4 : decode cX5_init 4 = .ok (.aload_n 0, 1) := by decide +kernel
theorem dX5_init_5 : decode cX5_init 5 = .ok (.iconst 2, 1) := by decide +kernel
theorem dX5_init_6 : decode cX5_init 6 = .ok (.putfield 9, 3) := by decide +kernel
theorem dX5_init_9 : decode cX5_init 9 = .ok (.aload_n 0, 1) := by decide +kernel
theorem dX5_init_10 : decode cX5_init 10 = .ok (.iconst 0, 1) := by decide +kernel
theorem dX5_init_11 : decode cX5_init 11 = .ok (.putfield 15, 3) := by decide +kernel
theorem dX5_init_14 : decode cX5_init 14 = .ok (.aload_n 0, 1) := by decide +kernel
theorem dX5_init_15 : decode cX5_init 15 = .ok (.iconst 0, 1) := by decide +kernel
theorem dX5_init_16 : decode cX5_init 16 = .ok (.putfield 18, 3) := by decide +kernel
theorem dX5_init_19 : decode cX5_init 19 = .ok (.aload_n 0, 1) := by decide +kernel
theorem dX5_init_20 : decode cX5_init 20 = .ok (.iconst 1, 1) := by decide +kernel
theorem dX5_init_21 : decode cX5_init 21 = .ok (.putfield 21, 3) := by decide +kernel
theorem dX5_init_24 : decode cX5_init 24 = .ok (.aload_n 0, 1) := by decide +kernel
theorem dX5_init_25 : decode cX5_init 25 = .ok (.bipush 21, 2) := by decide +kernel
theorem dX5_init_27 : decode cX5_init 27 = .ok (.newarray .int, 2) := by decide +kernel
theorem dX5_init_29 : decode cX5_init 29 = .ok (.putfield 24, 3) := by decide +kernel
theorem dX5_init_32 : decode cX5_init 32 = .ok (.aload_n 0, 1) := by decide +kernel
theorem dX5_init_33 : decode cX5_init 33 = .ok (.bipush 21, 2) := by decide +kernel
theorem dX5_init_35 : decode cX5_init 35 = .ok (.newarray .int, 2) := by decide +kernel
theorem dX5_init_37 : decode cX5_init 37 = .ok (.putfield 28, 3) := by decide +kernel
theorem dX5_init_40 : decode cX5_init 40 = .ok (.aload_n 0, 1) := by decide +kernel
theorem dX5_init_41 : decode cX5_init 41 = .ok (.bipush 21, 2) := by decide +kernel
theorem dX5_init_43 : decode cX5_init 43 = .ok (.newarray .int, 2) := by decide +kernel
theorem dX5_init_45 : decode cX5_init 45 = .ok (.putfield 31, 3) := by decide +kernel
theorem dX5_init_48 : decode cX5_init 48 = .ok (.aload_n 0, 1) := by decide +kernel
theorem dX5_init_49 : decode cX5_init 49 = .ok (.bipush 21, 2) := by decide +kernel
theorem dX5_init_51 : decode cX5_init 51 = .ok (.newarray .boolean, 2) := by decide +kernel
theorem dX5_init_53 : decode cX5_init 53 = .ok (.putfield 34, 3) := by decide +kernel
theorem dX5_init_56 : decode cX5_init 56 = .ok (.return_, 1) := by decide +kernel
theorem dX5_beginWith_0 : decode cX5_beginWith 0 = .ok (.aload_n 0, 1) := by decide +kernel
theorem dX5_beginWith_1 : decode cX5_beginWith 1 = .ok (.iload_n 1, 1) := by decide +kernel
theorem dX5_beginWith_2 : decode cX5_beginWith 2 = .ok (.putfield 9, 3) := by decide +kernel
theorem dX5_beginWith_5 : decode cX5_beginWith 5 = .ok (.aload_n 0, 1) := by decide +kernel
theorem dX5_beginWith_6 : decode cX5_beginWith 6 = .ok (.iload_n 2, 1) := by decide +kernel
theorem dX5_beginWith_7 : decode cX5_beginWith 7 = .ok (.putfield 18, 3) := by decide +kernel
theorem dX5_beginWith_10 : decode cX5_beginWith 10 = .ok (.aload_n 0, 1) := by decide +kernel
theorem dX5_beginWith_11 : decode cX5_beginWith 11 = .ok (.iload_n 3, 1) := by decide +kernel
theorem dX5_beginWith_12 : decode cX5_beginWith 12 = .ok (.putfield 21, 3) := by decide +kernel
theorem dX5_beginWith_15 : decode cX5_beginWith 15 = .ok (.aload_n 0, 1) := by decide +kernel
theorem dX5_beginWith_16 : decode cX5_beginWith 16 = .ok (.iconst 0, 1) := by decide +kernel
theorem dX5_beginWith_17 : decode cX5_beginWith 17 = .ok (.putfield 15, 3) := by decide +kernel
theorem dX5_beginWith_20 : decode cX5_beginWith 20 = .ok (.return_, 1) := by decide +kernel
theorem dX5_copyFrom_0 : decode cX5_copyFrom 0 = .ok (.aload_n 0, 1) := by decide +kernel
theorem dX5_copyFrom_1 : decode cX5_copyFrom 1 = .ok (.aload_n 1, 1) := by decide +kernel
theorem dX5_copyFrom_2 : decode cX5_copyFrom 2 = .ok (.getfield 9, 3) := by decide +kernel
theorem dX5_copyFrom_5 : decode cX5_copyFrom 5 = .ok (.putfield 9, 3) := by decide +kernel
theorem dX5_copyFrom_8 : decode cX5_copyFrom 8 = .ok (.aload_n 0, 1) := by decide +kernel
theorem dX5_copyFrom_9 : decode cX5_copyFrom 9 = .ok (.aload_n 1, 1) := by decide +kernel
theorem dX5_copyFrom_10 : decode cX5_copyFrom 10 = .ok (.getfield 15, 3) := by decide +kernel
theorem dX5_copyFrom_13 : decode cX5_copyFrom 13 = .ok (.putfield 15, 3) := by decide +kernel
theorem dX5_copyFrom_16 : decode cX5_copyFrom 16 = .ok (.aload_n 0, 1) := by decide +kernel
theorem dX5_copyFrom_17 : decode cX5_copyFrom 17 = .ok (.aload_n 1, 1) := by decide +kernel
theorem dX5_copyFrom_18 : decode cX5_copyFrom 18 = .ok (.getfield 18, 3) := by decide +kernel
theorem dX5_copyFrom_21 : decode cX5_copyFrom 21 = .ok (.putfield 18, 3) := by decide +kernel
theorem dX5_copyFrom_24 : decode cX5_copyFrom 24 = .ok (.aload_n 0, 1) := by decide +kernel
theorem dX5_copyFrom_25 : decode cX5_copyFrom 25 = .ok (.aload_n 1, 1) := by decide +kernel
theorem dX5_copyFrom_26 : decode cX5_copyFrom 26 = .ok (.getfield 21, 3) := by decide +kernel
theorem dX5_copyFrom_29 : decode cX5_copyFrom 29 = .ok (.putfield 21, 3) := by decide +kernel
theorem dX5_copyFrom_32 : decode cX5_copyFrom 32 = .ok (.iconst 0, 1) := by decide +kernel
theorem dX5_copyFrom_33 : decode cX5_copyFrom 33 = .ok (.istore_n 2, 1) := by decide +kernel
theorem dX5_copyFrom_34 : decode cX5_copyFrom 34 = .ok (.iload_n 2, 1) := by decide +kernel
theorem dX5_copyFrom_35 : decode cX5_copyFrom 35 = .ok (.aload_n 0, 1) := by decide +kernel
theorem dX5_copyFrom_36 : decode cX5_copyFrom 36 = .ok (.getfield 15, 3) := by decide +kernel
theorem dX5_copyFrom_39 : decode cX5_copyFrom 39 = .ok (.if_icmp .ge 16, 3) := by decide +kernel
theorem dX5_copyFrom_42 : decode cX5_copyFrom 42 = .ok (.aload_n 0, 1) := by decide +kernel
theorem dX5_copyFrom_43 : decode cX5_copyFrom 43 = .ok (.aload_n 1, 1) := by decide +kernel
theorem dX5_copyFrom_44 : decode cX5_copyFrom 44 = .ok (.iload_n 2, 1) := by decide +kernel
theorem dX5_copyFrom_45 : decode cX5_copyFrom 45 = .ok (.iload_n 2, 1) := by decide +kernel
theorem dX5_copyFrom_46 : decode cX5_copyFrom 46 = .ok (.invokevirtual 38, 3) := by decide +kernel
theorem dX5_copyFrom_49 : decode cX5_copyFrom 49 = .ok (.iinc 2 1, 3) := by decide +kernel
theorem dX5_copyFrom_52 : decode cX5_copyFrom 52 = .ok (.goto (-18), 3) := by decide +kernel
theorem dX5_copyFrom_55 : decode cX5_copyFrom 55 = .ok (.return_, 1) := by decide +kernel
theorem dX5_copyStreet_0 : decode cX5_copyStreet 0 = .ok (.aload_n 0, 1) := by decide +kernel
theorem dX5_copyStreet_1 : decode cX5_copyStreet 1 = .ok (.getfield 24, 3) := by decide +kernel
theorem dX5_copyStreet_4 : decode cX5_copyStreet 4 = .ok (.iload_n 3, 1) := by decide +kernel
theorem dX5_copyStreet_5 : decode cX5_copyStreet 5 = .ok (.aload_n 1, 1) := by decide +kernel
theorem dX5_copyStreet_6 : decode cX5_copyStreet 6 = .ok (.getfield 24, 3) := by decide +kernel
theorem dX5_copyStreet_9 : decode cX5_copyStreet 9 = .ok (.iload_n 2, 1) := by decide +kernel
theorem dX5_copyStreet_10 : decode cX5_copyStreet 10 = .ok (.iaload, 1) := by decide +kernel
theorem dX5_copyStreet_11 : decode cX5_copyStreet 11 = .ok (.iastore, 1) := by decide +kernel
theorem dX5_copyStreet_12 : decode cX5_copyStreet 12 = .ok (.aload_n 0, 1) := by decide +kernel
theorem dX5_copyStreet_13 : decode cX5_copyStreet 13 = .ok (.getfield 28, 3) := by decide +kernel
theorem dX5_copyStreet_16 : decode cX5_copyStreet 16 = .ok (.iload_n 3, 1) := by decide +kernel
theorem dX5_copyStreet_17 : decode cX5_copyStreet 17 = .ok (.aload_n 1, 1) := by decide +kernel
theorem dX5_copyStreet_18 : decode cX5_copyStreet 18 = .ok (.getfield 28, 3) := by decide +kernel
theorem dX5_copyStreet_21 : decode cX5_copyStreet 21 = .ok (.iload_n 2, 1) := by decide +kernel
theorem dX5_copyStreet_22 : decode cX5_copyStreet 22 = .ok (.iaload, 1) := by decide +kernel
theorem dX5_copyStreet_23 : decode cX5_copyStreet 23 = .ok (.iastore, 1) := by decide +kernel
theorem dX5_copyStreet_24 : decode cX5_copyStreet 24 = .ok (.aload_n 0, 1) := by decide +kernel
theorem dX5_copyStreet_25 : decode cX5_copyStreet 25 = .ok (.getfield 31, 3) := by decide +kernel
theorem dX5_copyStreet_28 : decode cX5_copyStreet 28 = .ok (.iload_n 3, 1) := by decide +kernel
theorem dX5_copyStreet_29 : decode cX5_copyStreet 29 = .ok (.aload_n 1, 1) := by decide +kernel
theorem dX5_copyStreet_30 : decode cX5_copyStreet 30 = .ok (.getfield 31, 3) := by decide +kernel
theorem dX5_copyStreet_33 : decode cX5_copyStreet 33 = .ok (.iload_n 2, 1) := by decide +kernel
theorem dX5_copyStreet_34 : decode cX5_copyStreet 34 = .ok (.iaload, 1) := by decide +kernel
theorem dX5_copyStreet_35 : decode cX5_copyStreet 35 = .ok (.iastore, 1) := by decide +kernel
theorem dX5_copyStreet_36 : decode cX5_copyStreet 36 = .ok (.aload_n 0, 1) := by decide +kernel
theorem dX5_copyStreet_37 : decode cX5_copyStreet 37 = .ok (.getfield 34, 3) := by decide +kernel
theorem dX5_copyStreet_40 : decode cX5_copyStreet 40 = .ok (.iload_n 3, 1) := by decide +kernel
theorem dX5_copyStreet_41 : decode cX5_copyStreet 41 = .ok (.aload_n 1, 1) := by decide +kernel
theorem dX5_copyStreet_42 : decode cX5_copyStreet 42 = .ok (.getfield 34, 3) := by decide +kernel
theorem dX5_copyStreet_45 : decode cX5_copyStreet 45 = .ok (.iload_n 2, 1) := by decide +kernel
theorem dX5_copyStreet_46 : decode cX5_copyStreet 46 = .ok (.baload, 1) := by decide +kernel
theorem dX5_copyStreet_47 : decode cX5_copyStreet 47 = .ok (.bastore, 1) := by decide +kernel
theorem dX5_copyStreet_48 : decode cX5_copyStreet 48 = .ok (.return_, 1) := by decide +kernel
