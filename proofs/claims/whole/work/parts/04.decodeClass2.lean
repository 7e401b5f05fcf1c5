theorem d_A_remember_46 : decode b_A_remember 46 = .ok (.iastore, 1) := by decide +kernel
theorem d_A_remember_47 : decode b_A_remember 47 = .ok (.iinc 5 1, 3) := by decide +kernel
theorem d_A_remember_50 : decode b_A_remember 50 = .ok (.goto (-41), 3) := by decide +kernel
theorem d_A_remember_53 : decode b_A_remember 53 = .ok (.return_, 1) := by decide +kernel
theorem d_A_writeSnapshot_0 : decode b_A_writeSnapshot 0 = .ok (.aload_n 1, 1) := by decide +kernel
theorem d_A_writeSnapshot_1 : decode b_A_writeSnapshot 1 = .ok (.iconst 1, 1) := by decide +kernel
theorem d_A_writeSnapshot_2 : decode b_A_writeSnapshot 2 = .ok (.putfield 56, 3) := by decide +kernel
theorem d_A_writeSnapshot_5 : decode b_A_writeSnapshot 5 = .ok (.aload_n 1, 1) := by decide +kernel
theorem d_A_writeSnapshot_6 : decode b_A_writeSnapshot 6 = .ok (.iload_n 2, 1) := by decide +kernel
theorem d_A_writeSnapshot_7 : decode b_A_writeSnapshot 7 = .ok (.putfield 25, 3) := by decide +kernel
theorem d_A_writeSnapshot_10 : decode b_A_writeSnapshot 10 = .ok (.aload_n 1, 1) := by decide +kernel
theorem d_A_writeSnapshot_11 : decode b_A_writeSnapshot 11 = .ok (.aload_n 0, 1) := by decide +kernel
theorem d_A_writeSnapshot_12 : decode b_A_writeSnapshot 12 = .ok (.getfield 18, 3) := by decide +kernel
theorem d_A_writeSnapshot_15 : decode b_A_writeSnapshot 15 = .ok (.putfield 36, 3) := by decide +kernel
theorem d_A_writeSnapshot_18 : decode b_A_writeSnapshot 18 = .ok (.aload_n 1, 1) := by decide +kernel
theorem d_A_writeSnapshot_19 : decode b_A_writeSnapshot 19 = .ok (.aload_n 0, 1) := by decide +kernel
theorem d_A_writeSnapshot_20 : decode b_A_writeSnapshot 20 = .ok (.iload_n 2, 1) := by decide +kernel
theorem d_A_writeSnapshot_21 : decode b_A_writeSnapshot 21 = .ok (.invokevirtual 60, 3) := by decide +kernel
theorem d_A_writeSnapshot_24 : decode b_A_writeSnapshot 24 = .ok (.putfield 63, 3) := by decide +kernel
theorem d_A_writeSnapshot_27 : decode b_A_writeSnapshot 27 = .ok (.aload_n 0, 1) := by decide +kernel
theorem d_A_writeSnapshot_28 : decode b_A_writeSnapshot 28 = .ok (.getfield 15, 3) := by decide +kernel
theorem d_A_writeSnapshot_31 : decode b_A_writeSnapshot 31 = .ok (.iload_n 2, 1) := by decide +kernel
theorem d_A_writeSnapshot_32 : decode b_A_writeSnapshot 32 = .ok (.invokestatic 43, 3) := by decide +kernel
theorem d_A_writeSnapshot_35 : decode b_A_writeSnapshot 35 = .ok (.aload_n 1, 1) := by decide +kernel
theorem d_A_writeSnapshot_36 : decode b_A_writeSnapshot 36 = .ok (.getfield 66, 3) := by decide +kernel
theorem d_A_writeSnapshot_39 : decode b_A_writeSnapshot 39 = .ok (.iconst 0, 1) := by decide +kernel
theorem d_A_writeSnapshot_40 : decode b_A_writeSnapshot 40 = .ok (.bipush 8, 2) := by decide +kernel
theorem d_A_writeSnapshot_42 : decode b_A_writeSnapshot 42 = .ok (.invokestatic 67, 3) := by decide +kernel
theorem d_A_writeSnapshot_45 : decode b_A_writeSnapshot 45 = .ok (.aload_n 1, 1) := by decide +kernel
theorem d_A_writeSnapshot_46 : decode b_A_writeSnapshot 46 = .ok (.aload_n 0, 1) := by decide +kernel
theorem d_A_writeSnapshot_47 : decode b_A_writeSnapshot 47 = .ok (.iload_n 2, 1) := by decide +kernel
theorem d_A_writeSnapshot_48 : decode b_A_writeSnapshot 48 = .ok (.aload_n 1, 1) := by decide +kernel
theorem d_A_writeSnapshot_49 : decode b_A_writeSnapshot 49 = .ok (.getfield 63, 3) := by decide +kernel
theorem d_A_writeSnapshot_52 : decode b_A_writeSnapshot 52 = .ok (.invokevirtual 73, 3) := by decide +kernel
theorem d_A_writeSnapshot_55 : decode b_A_writeSnapshot 55 = .ok (.putfield 76, 3) := by decide +kernel
theorem d_A_writeSnapshot_58 : decode b_A_writeSnapshot 58 = .ok (.return_, 1) := by decide +kernel
theorem d_A_baseAt_0 : decode b_A_baseAt 0 = .ok (.aload_n 0, 1) := by decide +kernel
theorem d_A_baseAt_1 : decode b_A_baseAt 1 = .ok (.getfield 22, 3) := by decide +kernel
theorem d_A_baseAt_4 : decode b_A_baseAt 4 = .ok (.ifCond .eq 21, 3) := by decide +kernel
theorem d_A_baseAt_7 : decode b_A_baseAt 7 = .ok (.iload_n 1, 1) := by decide +kernel
theorem d_A_baseAt_8 : decode b_A_baseAt 8 = .ok (.aload_n 0, 1) := by decide +kernel
theorem d_A_baseAt_9 : decode b_A_baseAt 9 = .ok (.getfield 22, 3) := by decide +kernel
theorem d_A_baseAt_12 : decode b_A_baseAt 12 = .ok (.isub, 1) := by decide +kernel
theorem d_A_baseAt_13 : decode b_A_baseAt 13 = .ok (.bipush 6, 2) := by decide +kernel
theorem d_A_baseAt_15 : decode b_A_baseAt 15 = .ok (.if_icmp .gt 10, 3) := by decide +kernel
theorem d_A_baseAt_18 : decode b_A_baseAt 18 = .ok (.aload_n 0, 1) := by decide +kernel
theorem d_A_baseAt_19 : decode b_A_baseAt 19 = .ok (.getfield 22, 3) := by decide +kernel
theorem d_A_baseAt_22 : decode b_A_baseAt 22 = .ok (.goto 4, 3) := by decide +kernel
theorem d_A_baseAt_25 : decode b_A_baseAt 25 = .ok (.iconst 0, 1) := by decide +kernel
theorem d_A_baseAt_26 : decode b_A_baseAt 26 = .ok (.ireturn, 1) := by decide +kernel
theorem d_A_snapshotSize_0 : decode b_A_snapshotSize 0 = .ok (.iload_n 2, 1) := by decide +kernel
theorem d_A_snapshotSize_1 : decode b_A_snapshotSize 1 = .ok (.ifCond .ne 8, 3) := by decide +kernel
theorem d_A_snapshotSize_4 : decode b_A_snapshotSize 4 = .ok (.bipush 21, 2) := by decide +kernel
theorem d_A_snapshotSize_6 : decode b_A_snapshotSize 6 = .ok (.goto 5, 3) := by decide +kernel
theorem d_A_snapshotSize_9 : decode b_A_snapshotSize 9 = .ok (.bipush 24, 2) := by decide +kernel
theorem d_A_snapshotSize_11 : decode b_A_snapshotSize 11 = .ok (.istore_n 3, 1) := by decide +kernel
theorem d_A_snapshotSize_12 : decode b_A_snapshotSize 12 = .ok (.iconst 0, 1) := by decide +kernel
theorem d_A_snapshotSize_13 : decode b_A_snapshotSize 13 = .ok (.istore 4, 2) := by decide +kernel
theorem d_A_snapshotSize_15 : decode b_A_snapshotSize 15 = .ok (.iload 4, 2) := by decide +kernel
theorem d_A_snapshotSize_17 : decode b_A_snapshotSize 17 = .ok (.bipush 8, 2) := by decide +kernel
theorem d_A_snapshotSize_19 : decode b_A_snapshotSize 19 = .ok (.if_icmp .ge 51, 3) := by decide +kernel
theorem d_A_snapshotSize_22 : decode b_A_snapshotSize 22 = .ok (.iload_n 2, 1) := by decide +kernel
theorem d_A_snapshotSize_23 : decode b_A_snapshotSize 23 = .ok (.ifCond .ne 7, 3) := by decide +kernel
theorem d_A_snapshotSize_26 : decode b_A_snapshotSize 26 = .ok (.iconst (-1), 1) := by decide +kernel
theorem d_A_snapshotSize_27 : decode b_A_snapshotSize 27 = .ok (.goto 15, 3) := by decide +kernel
theorem d_A_snapshotSize_30 : decode b_A_snapshotSize 30 = .ok (.aload_n 0, 1) := by decide +kernel
theorem d_A_snapshotSize_31 : decode b_A_snapshotSize 31 = .ok (.getfield 15, 3) := by decide +kernel
theorem d_A_snapshotSize_34 : decode b_A_snapshotSize 34 = .ok (.iload_n 2, 1) := by decide +kernel
theorem d_A_snapshotSize_35 : decode b_A_snapshotSize 35 = .ok (.invokestatic 43, 3) := by decide +kernel
theorem d_A_snapshotSize_38 : decode b_A_snapshotSize 38 = .ok (.iload 4, 2) := by decide +kernel
theorem d_A_snapshotSize_40 : decode b_A_snapshotSize 40 = .ok (.iadd, 1) := by decide +kernel
theorem d_A_snapshotSize_41 : decode b_A_snapshotSize 41 = .ok (.iaload, 1) := by decide +kernel
theorem d_A_snapshotSize_42 : decode b_A_snapshotSize 42 = .ok (.istore 5, 2) := by decide +kernel
theorem d_A_snapshotSize_44 : decode b_A_snapshotSize 44 = .ok (.iload_n 3, 1) := by decide +kernel
theorem d_A_snapshotSize_45 : decode b_A_snapshotSize 45 = .ok (.iload 5, 2) := by decide +kernel
theorem d_A_snapshotSize_47 : decode b_A_snapshotSize 47 = .ok (.aload_n 0, 1) := by decide +kernel
theorem d_A_snapshotSize_48 : decode b_A_snapshotSize 48 = .ok (.getfield 15, 3) := by decide +kernel
theorem d_A_snapshotSize_51 : decode b_A_snapshotSize 51 = .ok (.iload_n 1, 1) := by decide +kernel
theorem d_A_snapshotSize_52 : decode b_A_snapshotSize 52 = .ok (.invokestatic 43, 3) := by decide +kernel
theorem d_A_snapshotSize_55 : decode b_A_snapshotSize 55 = .ok (.iload 4, 2) := by decide +kernel
theorem d_A_snapshotSize_57 : decode b_A_snapshotSize 57 = .ok (.iadd, 1) := by decide +kernel
theorem d_A_snapshotSize_58 : decode b_A_snapshotSize 58 = .ok (.iaload, 1) := by decide +kernel
theorem d_A_snapshotSize_59 : decode b_A_snapshotSize 59 = .ok (.invokestatic 79, 3) := by decide +kernel
theorem d_A_snapshotSize_62 : decode b_A_snapshotSize 62 = .ok (.iadd, 1) := by decide +kernel
theorem d_A_snapshotSize_63 : decode b_A_snapshotSize 63 = .ok (.istore_n 3, 1) := by decide +kernel
theorem d_A_snapshotSize_64 : decode b_A_snapshotSize 64 = .ok (.iinc 4 1, 3) := by decide +kernel
theorem d_A_snapshotSize_67 : decode b_A_snapshotSize 67 = .ok (.goto (-52), 3) := by decide +kernel
theorem d_A_snapshotSize_70 : decode b_A_snapshotSize 70 = .ok (.iload_n 3, 1) := by decide +kernel
theorem d_A_snapshotSize_71 : decode b_A_snapshotSize 71 = .ok (.ireturn, 1) := by decide +kernel
theorem d_A_entitySize_0 : decode b_A_entitySize 0 = .ok (.iload_n 0, 1) := by decide +kernel
theorem d_A_entitySize_1 : decode b_A_entitySize 1 = .ok (.iconst (-1), 1) := by decide +kernel
theorem d_A_entitySize_2 : decode b_A_entitySize 2 = .ok (.if_icmp .ne 15, 3) := by decide +kernel
theorem d_A_entitySize_5 : decode b_A_entitySize 5 = .ok (.iload_n 1, 1) := by decide +kernel
theorem d_A_entitySize_6 : decode b_A_entitySize 6 = .ok (.iconst (-1), 1) := by decide +kernel
theorem d_A_entitySize_7 : decode b_A_entitySize 7 = .ok (.if_icmp .ne 7, 3) := by decide +kernel
theorem d_A_entitySize_10 : decode b_A_entitySize 10 = .ok (.iconst 1, 1) := by decide +kernel
theorem d_A_entitySize_11 : decode b_A_entitySize 11 = .ok (.goto 5, 3) := by decide +kernel
theorem d_A_entitySize_14 : decode b_A_entitySize 14 = .ok (.bipush 9, 2) := by decide +kernel
theorem d_A_entitySize_16 : decode b_A_entitySize 16 = .ok (.ireturn, 1) := by decide +kernel
theorem d_A_entitySize_17 : decode b_A_entitySize 17 = .ok (.iload_n 1, 1) := by decide +kernel
theorem d_A_entitySize_18 : decode b_A_entitySize 18 = .ok (.iconst (-1), 1) := by decide +kernel
theorem d_A_entitySize_19 : decode b_A_entitySize 19 = .ok (.if_icmp .ne 5, 3) := by decide +kernel
theorem d_A_entitySize_22 : decode b_A_entitySize 22 = .ok (.iconst 3, 1) := by decide +kernel
theorem d_A_entitySize_23 : decode b_A_entitySize 23 = .ok (.ireturn, 1) := by decide +kernel
theorem d_A_entitySize_24 : decode b_A_entitySize 24 = .ok (.iload_n 1, 1) := by decide +kernel
theorem d_A_entitySize_25 : decode b_A_entitySize 25 = .ok (.iload_n 0, 1) := by decide +kernel
theorem d_A_entitySize_26 : decode b_A_entitySize 26 = .ok (.if_icmp .ne 5, 3) := by decide +kernel
theorem d_A_entitySize_29 : decode b_A_entitySize 29 = .ok (.iconst 1, 1) := by decide +kernel
theorem d_A_entitySize_30 : decode b_A_entitySize 30 = .ok (.ireturn, 1) := by decide +kernel
theorem d_A_entitySize_31 : decode b_A_entitySize 31 = .ok (.iload_n 0, 1) := by decide +kernel
theorem d_A_entitySize_32 : decode b_A_entitySize 32 = .ok (.iload_n 1, 1) := by decide +kernel
theorem d_A_entitySize_33 : decode b_A_entitySize 33 = .ok (.invokestatic 82, 3) := by decide +kernel
theorem d_A_entitySize_36 : decode b_A_entitySize 36 = .ok (.iconst 1, 1) := by decide +kernel
theorem d_A_entitySize_37 : decode b_A_entitySize 37 = .ok (.if_icmp .ne 7, 3) := by decide +kernel
theorem d_A_entitySize_40 : decode b_A_entitySize 40 = .ok (.iconst 4, 1) := by decide +kernel
theorem d_A_entitySize_41 : decode b_A_entitySize 41 = .ok (.goto 5, 3) := by decide +kernel
theorem d_A_entitySize_44 : decode b_A_entitySize 44 = .ok (.bipush 11, 2) := by decide +kernel
theorem d_A_entitySize_46 : decode b_A_entitySize 46 = .ok (.ireturn, 1) := by decide +kernel
theorem d_A_rowOf_0 : decode b_A_rowOf 0 = .ok (.iload_n 0, 1) := by decide +kernel
theorem d_A_rowOf_1 : decode b_A_rowOf 1 = .ok (.bipush 7, 2) := by decide +kernel
theorem d_A_rowOf_3 : decode b_A_rowOf 3 = .ok (.iand, 1) := by decide +kernel
theorem d_A_rowOf_4 : decode b_A_rowOf 4 = .ok (.bipush 8, 2) := by decide +kernel
theorem d_A_rowOf_6 : decode b_A_rowOf 6 = .ok (.imul, 1) := by decide +kernel
theorem d_A_rowOf_7 : decode b_A_rowOf 7 = .ok (.ireturn, 1) := by decide +kernel
theorem d_C_init_0 : decode b_C_init 0 = .ok (.aload_n 0, 1) := by decide +kernel
theorem d_C_init_1 : decode b_C_init 1 = .ok (.invokespecial 3, 3) := by decide +kernel
theorem d_C_init_4 : decode b_C_init 4 = .ok (.aload_n 0, 1) := by decide +kernel
theorem d_C_init_5 : decode b_C_init 5 = .ok (.bipush 16, 2) := by decide +kernel
theorem d_C_init_7 : decode b_C_init 7 = .ok (.newarray .int, 2) := by decide +kernel
theorem d_C_init_9 : decode b_C_init 9 = .ok (.putfield 9, 3) := by decide +kernel
theorem d_C_init_12 : decode b_C_init 12 = .ok (.aload_n 0, 1) := by decide +kernel
theorem d_C_init_13 : decode b_C_init 13 = .ok (.bipush 8, 2) := by decide +kernel
theorem d_C_init_15 : decode b_C_init 15 = .ok (.newarray .int, 2) := by decide +kernel
theorem d_C_init_17 : decode b_C_init 17 = .ok (.putfield 15, 3) := by decide +kernel
theorem d_C_init_20 : decode b_C_init 20 = .ok (.aload_n 0, 1) := by decide +kernel
theorem d_C_init_21 : decode b_C_init 21 = .ok (.iload_n 1, 1) := by decide +kernel
theorem d_C_init_22 : decode b_C_init 22 = .ok (.putfield 18, 3) := by decide +kernel
theorem d_C_init_25 : decode b_C_init 25 = .ok (.iconst 0, 1) := by decide +kernel
theorem d_C_init_26 : decode b_C_init 26 = .ok (.istore_n 2, 1) := by decide +kernel
theorem d_C_init_27 : decode b_C_init 27 = .ok (.iload_n 2, 1) := by decide +kernel
theorem d_C_init_28 : decode b_C_init 28 = .ok (.bipush 8, 2) := by decide +kernel
theorem d_C_init_30 : decode b_C_init 30 = .ok (.if_icmp .ge 16, 3) := by decide +kernel
theorem d_C_init_33 : decode b_C_init 33 = .ok (.aload_n 0, 1) := by decide +kernel
theorem d_C_init_34 : decode b_C_init 34 = .ok (.getfield 15, 3) := by decide +kernel
theorem d_C_init_37 : decode b_C_init 37 = .ok (.iload_n 2, 1) := by decide +kernel
theorem d_C_init_38 : decode b_C_init 38 = .ok (.iconst (-1), 1) := by decide +kernel
theorem d_C_init_39 : decode b_C_init 39 = .ok (.iastore, 1) := by decide +kernel
theorem d_C_init_40 : decode b_C_init 40 = .ok (.iinc 2 1, 3) := by decide +kernel
theorem d_C_init_43 : decode b_C_init 43 = .ok (.goto (-16), 3) := by decide +kernel
theorem d_C_init_46 : decode b_C_init 46 = .ok (.return_, 1) := by decide +kernel
theorem d_C_unseenCommands_0 : decode b_C_unseenCommands 0 = .ok (.aload_n 0, 1) := by decide +kernel
theorem d_C_unseenCommands_1 : decode b_C_unseenCommands 1 = .ok (.getfield 22, 3) := by decide +kernel
theorem d_C_unseenCommands_4 : decode b_C_unseenCommands 4 = .ok (.aload_n 0, 1) := by decide +kernel
theorem d_C_unseenCommands_5 : decode b_C_unseenCommands 5 = .ok (.getfield 25, 3) := by decide +kernel
theorem d_C_unseenCommands_8 : decode b_C_unseenCommands 8 = .ok (.isub, 1) := by decide +kernel
theorem d_C_unseenCommands_9 : decode b_C_unseenCommands 9 = .ok (.ireturn, 1) := by decide +kernel
theorem d_C_commandAt_0 : decode b_C_commandAt 0 = .ok (.aload_n 0, 1) := by decide +kernel
theorem d_C_commandAt_1 : decode b_C_commandAt 1 = .ok (.getfield 9, 3) := by decide +kernel
theorem d_C_commandAt_4 : decode b_C_commandAt 4 = .ok (.iload_n 1, 1) := by decide +kernel
theorem d_C_commandAt_5 : decode b_C_commandAt 5 = .ok (.bipush 15, 2) := by decide +kernel
theorem d_C_commandAt_7 : decode b_C_commandAt 7 = .ok (.iand, 1) := by decide +kernel
theorem d_C_commandAt_8 : decode b_C_commandAt 8 = .ok (.iaload, 1) := by decide +kernel
theorem d_C_commandAt_9 : decode b_C_commandAt 9 = .ok (.ireturn, 1) := by decide +kernel
theorem d_C_addCommand_0 : decode b_C_addCommand 0 = .ok (.aload_n 0, 1) := by decide +kernel
theorem d_C_addCommand_1 : decode b_C_addCommand 1 = .ok (.dup, 1) := by decide +kernel
theorem d_C_addCommand_2 : decode b_C_addCommand 2 = .ok (.getfield 22, 3) := by decide +kernel
theorem d_C_addCommand_5 : decode b_C_addCommand 5 = .ok (.iconst 1, 1) := by decide +kernel
theorem d_C_addCommand_6 : decode b_C_addCommand 6 = .ok (.iadd, 1) := by decide +kernel
theorem d_C_addCommand_7 : decode b_C_addCommand 7 = .ok (.putfield 22, 3) := by decide +kernel
theorem d_C_addCommand_10 : decode b_C_addCommand 10 = .ok (.aload_n 0, 1) := by decide +kernel
theorem d_C_addCommand_11 : decode b_C_addCommand 11 = .ok (.getfield 9, 3) := by decide +kernel
theorem d_C_addCommand_14 : decode b_C_addCommand 14 = .ok (.aload_n 0, 1) := by decide +kernel
theorem d_C_addCommand_15 : decode b_C_addCommand 15 = .ok (.getfield 22, 3) := by decide +kernel
theorem d_C_addCommand_18 : decode b_C_addCommand 18 = .ok (.bipush 15, 2) := by decide +kernel
theorem d_C_addCommand_20 : decode b_C_addCommand 20 = .ok (.iand, 1) := by decide +kernel
theorem d_C_addCommand_21 : decode b_C_addCommand 21 = .ok (.iload_n 1, 1) := by decide +kernel
theorem d_C_addCommand_22 : decode b_C_addCommand 22 = .ok (.iastore, 1) := by decide +kernel
theorem d_C_addCommand_23 : decode b_C_addCommand 23 = .ok (.return_, 1) := by decide +kernel
theorem d_C_writeReport_0 : decode b_C_writeReport 0 = .ok (.aload_n 1, 1) := by decide +kernel
theorem d_C_writeReport_1 : decode b_C_writeReport 1 = .ok (.iconst 0, 1) := by decide +kernel
theorem d_C_writeReport_2 : decode b_C_writeReport 2 = .ok (.putfield 28, 3) := by decide +kernel
theorem d_C_writeReport_5 : decode b_C_writeReport 5 = .ok (.aload_n 1, 1) := by decide +kernel
theorem d_C_writeReport_6 : decode b_C_writeReport 6 = .ok (.aload_n 0, 1) := by decide +kernel
theorem d_C_writeReport_7 : decode b_C_writeReport 7 = .ok (.getfield 34, 3) := by decide +kernel
theorem d_C_writeReport_10 : decode b_C_writeReport 10 = .ok (.putfield 37, 3) := by decide +kernel
theorem d_C_writeReport_13 : decode b_C_writeReport 13 = .ok (.aload_n 1, 1) := by decide +kernel
theorem d_C_writeReport_14 : decode b_C_writeReport 14 = .ok (.aload_n 0, 1) := by decide +kernel
theorem d_C_writeReport_15 : decode b_C_writeReport 15 = .ok (.getfield 25, 3) := by decide +kernel
theorem d_C_writeReport_18 : decode b_C_writeReport 18 = .ok (.putfield 40, 3) := by decide +kernel
theorem d_C_writeReport_21 : decode b_C_writeReport 21 = .ok (.aload_n 1, 1) := by decide +kernel
theorem d_C_writeReport_22 : decode b_C_writeReport 22 = .ok (.aload_n 0, 1) := by decide +kernel
theorem d_C_writeReport_23 : decode b_C_writeReport 23 = .ok (.invokevirtual 43, 3) := by decide +kernel
theorem d_C_writeReport_26 : decode b_C_writeReport 26 = .ok (.iconst 4, 1) := by decide +kernel
theorem d_C_writeReport_27 : decode b_C_writeReport 27 = .ok (.invokestatic 47, 3) := by decide +kernel
theorem d_C_writeReport_30 : decode b_C_writeReport 30 = .ok (.putfield 53, 3) := by decide +kernel
theorem d_C_writeReport_33 : decode b_C_writeReport 33 = .ok (.iconst 0, 1) := by decide +kernel
theorem d_C_writeReport_34 : decode b_C_writeReport 34 = .ok (.istore_n 2, 1) := by decide +kernel
theorem d_C_writeReport_35 : decode b_C_writeReport 35 = .ok (.iload_n 2, 1) := by decide +kernel
theorem d_C_writeReport_36 : decode b_C_writeReport 36 = .ok (.aload_n 1, 1) := by decide +kernel
theorem d_C_writeReport_37 : decode b_C_writeReport 37 = .ok (.getfield 53, 3) := by decide +kernel
theorem d_C_writeReport_40 : decode b_C_writeReport 40 = .ok (.if_icmp .ge 27, 3) := by decide +kernel
theorem d_C_writeReport_43 : decode b_C_writeReport 43 = .ok (.aload_n 1, 1) := by decide +kernel
theorem d_C_writeReport_44 : decode b_C_writeReport 44 = .ok (.getfield 56, 3) := by decide +kernel
theorem d_C_writeReport_47 : decode b_C_writeReport 47 = .ok (.iload_n 2, 1) := by decide +kernel
theorem d_C_writeReport_48 : decode b_C_writeReport 48 = .ok (.aload_n 0, 1) := by decide +kernel
theorem d_C_writeReport_49 : decode b_C_writeReport 49 = .ok (.aload_n 0, 1) := by decide +kernel
theorem d_C_writeReport_50 : decode b_C_writeReport 50 = .ok (.getfield 25, 3) := by decide +kernel
theorem d_C_writeReport_53 : decode b_C_writeReport 53 = .ok (.iconst 1, 1) := by decide +kernel
theorem d_C_writeReport_54 : decode b_C_writeReport 54 = .ok (.iadd, 1) := by decide +kernel
theorem d_C_writeReport_55 : decode b_C_writeReport 55 = .ok (.iload_n 2, 1) := by decide +kernel
theorem d_C_writeReport_56 : decode b_C_writeReport 56 = .ok (.iadd, 1) := by decide +kernel
theorem d_C_writeReport_57 : decode b_C_writeReport 57 = .ok (.invokevirtual 57, 3) := by decide +kernel
theorem d_C_writeReport_60 : decode b_C_writeReport 60 = .ok (.iastore, 1) := by decide +kernel
theorem d_C_writeReport_61 : decode b_C_writeReport 61 = .ok (.iinc 2 1, 3) := by decide +kernel
theorem d_C_writeReport_64 : decode b_C_writeReport 64 = .ok (.goto (-29), 3) := by decide +kernel
theorem d_C_writeReport_67 : decode b_C_writeReport 67 = .ok (.aload_n 1, 1) := by decide +kernel
theorem d_C_writeReport_68 : decode b_C_writeReport 68 = .ok (.bipush 23, 2) := by decide +kernel
theorem d_C_writeReport_70 : decode b_C_writeReport 70 = .ok (.iconst 3, 1) := by decide +kernel
theorem d_C_writeReport_71 : decode b_C_writeReport 71 = .ok (.aload_n 1, 1) := by decide +kernel
theorem d_C_writeReport_72 : decode b_C_writeReport 72 = .ok (.getfield 53, 3) := by decide +kernel
theorem d_C_writeReport_75 : decode b_C_writeReport 75 = .ok (.imul, 1) := by decide +kernel
theorem d_C_writeReport_76 : decode b_C_writeReport 76 = .ok (.iadd, 1) := by decide +kernel
theorem d_C_writeReport_77 : decode b_C_writeReport 77 = .ok (.putfield 61, 3) := by decide +kernel
theorem d_C_writeReport_80 : decode b_C_writeReport 80 = .ok (.return_, 1) := by decide +kernel
theorem d_C_takeSnapshot_0 : decode b_C_takeSnapshot 0 = .ok (.aload_n 1, 1) := by decide +kernel
theorem d_C_takeSnapshot_1 : decode b_C_takeSnapshot 1 = .ok (.getfield 37, 3) := by decide +kernel
theorem d_C_takeSnapshot_4 : decode b_C_takeSnapshot 4 = .ok (.aload_n 0, 1) := by decide +kernel
theorem d_C_takeSnapshot_5 : decode b_C_takeSnapshot 5 = .ok (.getfield 34, 3) := by decide +kernel
theorem d_C_takeSnapshot_8 : decode b_C_takeSnapshot 8 = .ok (.if_icmp .gt 5, 3) := by decide +kernel
theorem d_C_takeSnapshot_11 : decode b_C_takeSnapshot 11 = .ok (.iconst 0, 1) := by decide +kernel
theorem d_C_takeSnapshot_12 : decode b_C_takeSnapshot 12 = .ok (.ireturn, 1) := by decide +kernel
theorem d_C_takeSnapshot_13 : decode b_C_takeSnapshot 13 = .ok (.aload_n 0, 1) := by decide +kernel
theorem d_C_takeSnapshot_14 : decode b_C_takeSnapshot 14 = .ok (.aload_n 1, 1) := by decide +kernel
theorem d_C_takeSnapshot_15 : decode b_C_takeSnapshot 15 = .ok (.getfield 37, 3) := by decide +kernel
theorem d_C_takeSnapshot_18 : decode b_C_takeSnapshot 18 = .ok (.putfield 34, 3) := by decide +kernel
theorem d_C_takeSnapshot_21 : decode b_C_takeSnapshot 21 = .ok (.aload_n 0, 1) := by decide +kernel
theorem d_C_takeSnapshot_22 : decode b_C_takeSnapshot 22 = .ok (.aload_n 1, 1) := by decide +kernel
theorem d_C_takeSnapshot_23 : decode b_C_takeSnapshot 23 = .ok (.getfield 40, 3) := by decide +kernel
theorem d_C_takeSnapshot_26 : decode b_C_takeSnapshot 26 = .ok (.putfield 25, 3) := by decide +kernel
theorem d_C_takeSnapshot_29 : decode b_C_takeSnapshot 29 = .ok (.aload_n 1, 1) := by decide +kernel
theorem d_C_takeSnapshot_30 : decode b_C_takeSnapshot 30 = .ok (.getfield 64, 3) := by decide +kernel
theorem d_C_takeSnapshot_33 : decode b_C_takeSnapshot 33 = .ok (.iconst 0, 1) := by decide +kernel
theorem d_C_takeSnapshot_34 : decode b_C_takeSnapshot 34 = .ok (.aload_n 0, 1) := by decide +kernel
theorem d_C_takeSnapshot_35 : decode b_C_takeSnapshot 35 = .ok (.getfield 15, 3) := by decide +kernel
theorem d_C_takeSnapshot_38 : decode b_C_takeSnapshot 38 = .ok (.iconst 0, 1) := by decide +kernel
theorem d_C_takeSnapshot_39 : decode b_C_takeSnapshot 39 = .ok (.bipush 8, 2) := by decide +kernel
theorem d_C_takeSnapshot_41 : decode b_C_takeSnapshot 41 = .ok (.invokestatic 67, 3) := by decide +kernel
theorem d_C_takeSnapshot_44 : decode b_C_takeSnapshot 44 = .ok (.iconst 1, 1) := by decide +kernel
theorem d_C_takeSnapshot_45 : decode b_C_takeSnapshot 45 = .ok (.ireturn, 1) := by decide +kernel
theorem d_F_init_0 : decode b_F_init 0 = .ok (.aload_n 0, 1) := by decide +kernel
theorem d_F_init_1 : decode b_F_init 1 = .ok (.invokespecial 3, 3) := by decide +kernel
theorem d_F_init_4 : decode b_F_init 4 = .ok (.aload_n 0, 1) := by decide +kernel
theorem d_F_init_5 : decode b_F_init 5 = .ok (.sipush 256, 3) := by decide +kernel
theorem d_F_init_8 : decode b_F_init 8 = .ok (.newarray .boolean, 2) := by decide +kernel
theorem d_F_init_10 : decode b_F_init 10 = .ok (.putfield 9, 3) := by decide +kernel
theorem d_F_init_13 : decode b_F_init 13 = .ok (.aload_n 0, 1) := by decide +kernel
theorem d_F_init_14 : decode b_F_init 14 = .ok (.bipush 8, 2) := by decide +kernel
theorem d_F_init_16 : decode b_F_init 16 = .ok (.newarray .int, 2) := by decide +kernel
theorem d_F_init_18 : decode b_F_init 18 = .ok (.putfield 15, 3) := by decide +kernel
theorem d_F_init_21 : decode b_F_init 21 = .ok (.aload_n 0, 1) := by decide +kernel
theorem d_F_init_22 : decode b_F_init 22 = .ok (.bipush 8, 2) := by decide +kernel
theorem d_F_init_24 : decode b_F_init 24 = .ok (.newarray .int, 2) := by decide +kernel
theorem d_F_init_26 : decode b_F_init 26 = .ok (.putfield 19, 3) := by decide +kernel
theorem d_F_init_29 : decode b_F_init 29 = .ok (.iconst 0, 1) := by decide +kernel
theorem d_F_init_30 : decode b_F_init 30 = .ok (.istore_n 1, 1) := by decide +kernel
theorem d_F_init_31 : decode b_F_init 31 = .ok (.iload_n 1, 1) := by decide +kernel
theorem d_F_init_32 : decode b_F_init 32 = .ok (.bipush 8, 2) := by decide +kernel
theorem d_F_init_34 : decode b_F_init 34 = .ok (.if_icmp .ge 22, 3) := by decide +kernel
theorem d_F_init_37 : decode b_F_init 37 = .ok (.aload_n 0, 1) := by decide +kernel
theorem d_F_init_38 : decode b_F_init 38 = .ok (.getfield 15, 3) := by decide +kernel
theorem d_F_init_41 : decode b_F_init 41 = .ok (.iload_n 1, 1) := by decide +kernel
theorem d_F_init_42 : decode b_F_init 42 = .ok (.iconst 2, 1) := by decide +kernel
theorem d_F_init_43 : decode b_F_init 43 = .ok (.iload_n 1, 1) := by decide +kernel
theorem d_F_init_44 : decode b_F_init 44 = .ok (.imul, 1) := by decide +kernel
theorem d_F_init_45 : decode b_F_init 45 = .ok (.iconst 0, 1) := by decide +kernel
theorem d_F_init_46 : decode b_F_init 46 = .ok (.invokestatic 22, 3) := by decide +kernel
theorem d_F_init_49 : decode b_F_init 49 = .ok (.iastore, 1) := by decide +kernel
theorem d_F_init_50 : decode b_F_init 50 = .ok (.iinc 1 1, 3) := by decide +kernel
theorem d_F_init_53 : decode b_F_init 53 = .ok (.goto (-22), 3) := by decide +kernel
theorem d_F_init_56 : decode b_F_init 56 = .ok (.return_, 1) := by decide +kernel
theorem d_F_isFree_0 : decode b_F_isFree 0 = .ok (.iload_n 1, 1) := by decide +kernel
theorem d_F_isFree_1 : decode b_F_isFree 1 = .ok (.iload_n 2, 1) := by decide +kernel
theorem d_F_isFree_2 : decode b_F_isFree 2 = .ok (.invokestatic 26, 3) := by decide +kernel
theorem d_F_isFree_5 : decode b_F_isFree 5 = .ok (.ifCond .eq 20, 3) := by decide +kernel
theorem d_F_isFree_8 : decode b_F_isFree 8 = .ok (.aload_n 0, 1) := by decide +kernel
theorem d_F_isFree_9 : decode b_F_isFree 9 = .ok (.getfield 9, 3) := by decide +kernel
theorem d_F_isFree_12 : decode b_F_isFree 12 = .ok (.iload_n 1, 1) := by decide +kernel
theorem d_F_isFree_13 : decode b_F_isFree 13 = .ok (.iload_n 2, 1) := by decide +kernel
theorem d_F_isFree_14 : decode b_F_isFree 14 = .ok (.invokestatic 22, 3) := by decide +kernel
theorem d_F_isFree_17 : decode b_F_isFree 17 = .ok (.baload, 1) := by decide +kernel
theorem d_F_isFree_18 : decode b_F_isFree 18 = .ok (.ifCond .ne 7, 3) := by decide +kernel
theorem d_F_isFree_21 : decode b_F_isFree 21 = .ok (.iconst 1, 1) := by decide +kernel
theorem d_F_isFree_22 : decode b_F_isFree 22 = .ok (.goto 4, 3) := by decide +kernel
theorem d_F_isFree_25 : decode b_F_isFree 25 = .ok (.iconst 0, 1) := by decide +kernel
theorem d_F_isFree_26 : decode b_F_isFree 26 = .ok (.ireturn, 1) := by decide +kernel
theorem d_F_isOccupied_0 : decode b_F_isOccupied 0 = .ok (.iconst 0, 1) := by decide +kernel
theorem d_F_isOccupied_1 : decode b_F_isOccupied 1 = .ok (.istore_n 2, 1) := by decide +kernel
theorem d_F_isOccupied_2 : decode b_F_isOccupied 2 = .ok (.iload_n 2, 1) := by decide +kernel
theorem d_F_isOccupied_3 : decode b_F_isOccupied 3 = .ok (.bipush 8, 2) := by decide +kernel
theorem d_F_isOccupied_5 : decode b_F_isOccupied 5 = .ok (.if_icmp .ge 21, 3) := by decide +kernel
theorem d_F_isOccupied_8 : decode b_F_isOccupied 8 = .ok (.aload_n 0, 1) := by decide +kernel
theorem d_F_isOccupied_9 : decode b_F_isOccupied 9 = .ok (.getfield 15, 3) := by decide +kernel
theorem d_F_isOccupied_12 : decode b_F_isOccupied 12 = .ok (.iload_n 2, 1) := by decide +kernel
theorem d_F_isOccupied_13 : decode b_F_isOccupied 13 = .ok (.iaload, 1) := by decide +kernel
theorem d_F_isOccupied_14 : decode b_F_isOccupied 14 = .ok (.iload_n 1, 1) := by decide +kernel
theorem d_F_isOccupied_15 : decode b_F_isOccupied 15 = .ok (.if_icmp .ne 5, 3) := by decide +kernel
theorem d_F_isOccupied_18 : decode b_F_isOccupied 18 = .ok (.iconst 1, 1) := by decide +kernel
theorem d_F_isOccupied_19 : decode b_F_isOccupied 19 = .ok (.ireturn, 1) := by decide +kernel
theorem d_F_isOccupied_20 : decode b_F_isOccupied 20 = .ok (.iinc 2 1, 3) := by decide +kernel
theorem d_F_isOccupied_23 : decode b_F_isOccupied 23 = .ok (.goto (-21), 3) := by decide +kernel
theorem d_F_isOccupied_26 : decode b_F_isOccupied 26 = .ok (.iconst 0, 1) := by decide +kernel
theorem d_F_isOccupied_27 : decode b_F_isOccupied 27 = .ok (.ireturn, 1) := by decide +kernel
theorem d_F_after_0 : decode b_F_after 0 = .ok (.iload_n 1, 1) := by decide +kernel
theorem d_F_after_1 : decode b_F_after 1 = .ok (.bipush 16, 2) := by decide +kernel
theorem d_F_after_3 : decode b_F_after 3 = .ok (.irem, 1) := by decide +kernel
theorem d_F_after_4 : decode b_F_after 4 = .ok (.getstatic 30, 3) := by decide +kernel
theorem d_F_after_7 : decode b_F_after 7 = .ok (.iload_n 2, 1) := by decide +kernel
theorem d_F_after_8 : decode b_F_after 8 = .ok (.iaload, 1) := by decide +kernel
theorem d_F_after_9 : decode b_F_after 9 = .ok (.iadd, 1) := by decide +kernel
theorem d_F_after_10 : decode b_F_after 10 = .ok (.istore_n 3, 1) := by decide +kernel
theorem d_F_after_11 : decode b_F_after 11 = .ok (.iload_n 1, 1) := by decide +kernel
theorem d_F_after_12 : decode b_F_after 12 = .ok (.bipush 16, 2) := by decide +kernel
theorem d_F_after_14 : decode b_F_after 14 = .ok (.idiv, 1) := by decide +kernel
theorem d_F_after_15 : decode b_F_after 15 = .ok (.getstatic 33, 3) := by decide +kernel
theorem d_F_after_18 : decode b_F_after 18 = .ok (.iload_n 2, 1) := by decide +kernel
theorem d_F_after_19 : decode b_F_after 19 = .ok (.iaload, 1) := by decide +kernel
theorem d_F_after_20 : decode b_F_after 20 = .ok (.iadd, 1) := by decide +kernel
theorem d_F_after_21 : decode b_F_after 21 = .ok (.istore 4, 2) := by decide +kernel
theorem d_F_after_23 : decode b_F_after 23 = .ok (.aload_n 0, 1) := by decide +kernel
theorem d_F_after_24 : decode b_F_after 24 = .ok (.iload_n 3, 1) := by decide +kernel
theorem d_F_after_25 : decode b_F_after 25 = .ok (.iload 4, 2) := by decide +kernel
theorem d_F_after_27 : decode b_F_after 27 = .ok (.invokevirtual 36, 3) := by decide +kernel
theorem d_F_after_30 : decode b_F_after 30 = .ok (.ifCond .eq 12, 3) := by decide +kernel
theorem d_F_after_33 : decode b_F_after 33 = .ok (.iload_n 3, 1) := by decide +kernel
theorem d_F_after_34 : decode b_F_after 34 = .ok (.iload 4, 2) := by decide +kernel
theorem d_F_after_36 : decode b_F_after 36 = .ok (.invokestatic 22, 3) := by decide +kernel
theorem d_F_after_39 : decode b_F_after 39 = .ok (.goto 4, 3) := by decide +kernel
theorem d_F_after_42 : decode b_F_after 42 = .ok (.iload_n 1, 1) := by decide +kernel
theorem d_F_after_43 : decode b_F_after 43 = .ok (.ireturn, 1) := by decide +kernel
theorem d_F_moveDrifters_0 : decode b_F_moveDrifters 0 = .ok (.iconst 3, 1) := by decide +kernel
theorem d_F_moveDrifters_1 : decode b_F_moveDrifters 1 = .ok (.istore_n 1, 1) := by decide +kernel
theorem d_F_moveDrifters_2 : decode b_F_moveDrifters 2 = .ok (.iload_n 1, 1) := by decide +kernel
theorem d_F_moveDrifters_3 : decode b_F_moveDrifters 3 = .ok (.bipush 8, 2) := by decide +kernel
theorem d_F_moveDrifters_5 : decode b_F_moveDrifters 5 = .ok (.if_icmp .ge 59, 3) := by decide +kernel
theorem d_F_moveDrifters_8 : decode b_F_moveDrifters 8 = .ok (.aload_n 0, 1) := by decide +kernel
theorem d_F_moveDrifters_9 : decode b_F_moveDrifters 9 = .ok (.aload_n 0, 1) := by decide +kernel
theorem d_F_moveDrifters_10 : decode b_F_moveDrifters 10 = .ok (.getfield 15, 3) := by decide +kernel
theorem d_F_moveDrifters_13 : decode b_F_moveDrifters 13 = .ok (.iload_n 1, 1) := by decide +kernel
theorem d_F_moveDrifters_14 : decode b_F_moveDrifters 14 = .ok (.iaload, 1) := by decide +kernel
theorem d_F_moveDrifters_15 : decode b_F_moveDrifters 15 = .ok (.aload_n 0, 1) := by decide +kernel
theorem d_F_moveDrifters_16 : decode b_F_moveDrifters 16 = .ok (.getfield 19, 3) := by decide +kernel
theorem d_F_moveDrifters_19 : decode b_F_moveDrifters 19 = .ok (.iload_n 1, 1) := by decide +kernel
theorem d_F_moveDrifters_20 : decode b_F_moveDrifters 20 = .ok (.iaload, 1) := by decide +kernel
theorem d_F_moveDrifters_21 : decode b_F_moveDrifters 21 = .ok (.invokevirtual 39, 3) := by decide +kernel
theorem d_F_moveDrifters_24 : decode b_F_moveDrifters 24 = .ok (.istore_n 2, 1) := by decide +kernel
theorem d_F_moveDrifters_25 : decode b_F_moveDrifters 25 = .ok (.iload_n 2, 1) := by decide +kernel
theorem d_F_moveDrifters_26 : decode b_F_moveDrifters 26 = .ok (.aload_n 0, 1) := by decide +kernel
theorem d_F_moveDrifters_27 : decode b_F_moveDrifters 27 = .ok (.getfield 15, 3) := by decide +kernel
theorem d_F_moveDrifters_30 : decode b_F_moveDrifters 30 = .ok (.iload_n 1, 1) := by decide +kernel
theorem d_F_moveDrifters_31 : decode b_F_moveDrifters 31 = .ok (.iaload, 1) := by decide +kernel
theorem d_F_moveDrifters_32 : decode b_F_moveDrifters 32 = .ok (.if_icmp .ne 19, 3) := by decide +kernel
theorem d_F_moveDrifters_35 : decode b_F_moveDrifters 35 = .ok (.aload_n 0, 1) := by decide +kernel
theorem d_F_moveDrifters_36 : decode b_F_moveDrifters 36 = .ok (.getfield 19, 3) := by decide +kernel
theorem d_F_moveDrifters_39 : decode b_F_moveDrifters 39 = .ok (.iload_n 1, 1) := by decide +kernel
theorem d_F_moveDrifters_40 : decode b_F_moveDrifters 40 = .ok (.aload_n 0, 1) := by decide +kernel
theorem d_F_moveDrifters_41 : decode b_F_moveDrifters 41 = .ok (.getfield 19, 3) := by decide +kernel
theorem d_F_moveDrifters_44 : decode b_F_moveDrifters 44 = .ok (.iload_n 1, 1) := by decide +kernel
theorem d_F_moveDrifters_45 : decode b_F_moveDrifters 45 = .ok (.iaload, 1) := by decide +kernel
theorem d_F_moveDrifters_46 : decode b_F_moveDrifters 46 = .ok (.iconst 2, 1) := by decide +kernel
theorem d_F_moveDrifters_47 : decode b_F_moveDrifters 47 = .ok (.iadd, 1) := by decide +kernel
theorem d_F_moveDrifters_48 : decode b_F_moveDrifters 48 = .ok (.iconst 4, 1) := by decide +kernel
theorem d_F_moveDrifters_49 : decode b_F_moveDrifters 49 = .ok (.irem, 1) := by decide +kernel
theorem d_F_moveDrifters_50 : decode b_F_moveDrifters 50 = .ok (.iastore, 1) := by decide +kernel
theorem d_F_moveDrifters_51 : decode b_F_moveDrifters 51 = .ok (.aload_n 0, 1) := by decide +kernel
theorem d_F_moveDrifters_52 : decode b_F_moveDrifters 52 = .ok (.getfield 15, 3) := by decide +kernel
theorem d_F_moveDrifters_55 : decode b_F_moveDrifters 55 = .ok (.iload_n 1, 1) := by decide +kernel
theorem d_F_moveDrifters_56 : decode b_F_moveDrifters 56 = .ok (.iload_n 2, 1) := by decide +kernel
theorem d_F_moveDrifters_57 : decode b_F_moveDrifters 57 = .ok (.iastore, 1) := by decide +kernel
theorem d_F_moveDrifters_58 : decode b_F_moveDrifters 58 = .ok (.iinc 1 1, 3) := by decide +kernel
theorem d_F_moveDrifters_61 : decode b_F_moveDrifters 61 = .ok (.goto (-59), 3) := by decide +kernel
theorem d_F_moveDrifters_64 : decode b_F_moveDrifters 64 = .ok (.return_, 1) := by decide +kernel
theorem d_F_sees_0 : decode b_F_sees 0 = .ok (.aload_n 0, 1) := by decide +kernel
theorem d_F_sees_1 : decode b_F_sees 1 = .ok (.getfield 15, 3) := by decide +kernel
theorem d_F_sees_4 : decode b_F_sees 4 = .ok (.iload_n 1, 1) := by decide +kernel
theorem d_F_sees_5 : decode b_F_sees 5 = .ok (.iaload, 1) := by decide +kernel
theorem d_F_sees_6 : decode b_F_sees 6 = .ok (.istore_n 3, 1) := by decide +kernel
theorem d_F_sees_7 : decode b_F_sees 7 = .ok (.aload_n 0, 1) := by decide +kernel
theorem d_F_sees_8 : decode b_F_sees 8 = .ok (.getfield 15, 3) := by decide +kernel
theorem d_F_sees_11 : decode b_F_sees 11 = .ok (.iload_n 2, 1) := by decide +kernel
theorem d_F_sees_12 : decode b_F_sees 12 = .ok (.iaload, 1) := by decide +kernel
theorem d_F_sees_13 : decode b_F_sees 13 = .ok (.istore 4, 2) := by decide +kernel
theorem d_F_sees_15 : decode b_F_sees 15 = .ok (.iload_n 3, 1) := by decide +kernel
theorem d_F_sees_16 : decode b_F_sees 16 = .ok (.bipush 16, 2) := by decide +kernel
theorem d_F_sees_18 : decode b_F_sees 18 = .ok (.irem, 1) := by decide +kernel
theorem d_F_sees_19 : decode b_F_sees 19 = .ok (.iconst 4, 1) := by decide +kernel
theorem d_F_sees_20 : decode b_F_sees 20 = .ok (.idiv, 1) := by decide +kernel
theorem d_F_sees_21 : decode b_F_sees 21 = .ok (.iload 4, 2) := by decide +kernel
theorem d_F_sees_23 : decode b_F_sees 23 = .ok (.bipush 16, 2) := by decide +kernel
theorem d_F_sees_25 : decode b_F_sees 25 = .ok (.irem, 1) := by decide +kernel
theorem d_F_sees_26 : decode b_F_sees 26 = .ok (.iconst 4, 1) := by decide +kernel
theorem d_F_sees_27 : decode b_F_sees 27 = .ok (.idiv, 1) := by decide +kernel
theorem d_F_sees_28 : decode b_F_sees 28 = .ok (.isub, 1) := by decide +kernel
theorem d_F_sees_29 : decode b_F_sees 29 = .ok (.istore 5, 2) := by decide +kernel
theorem d_F_sees_31 : decode b_F_sees 31 = .ok (.iload_n 3, 1) := by decide +kernel
theorem d_F_sees_32 : decode b_F_sees 32 = .ok (.bipush 16, 2) := by decide +kernel
theorem d_F_sees_34 : decode b_F_sees 34 = .ok (.idiv, 1) := by decide +kernel
theorem d_F_sees_35 : decode b_F_sees 35 = .ok (.iconst 4, 1) := by decide +kernel
theorem d_F_sees_36 : decode b_F_sees 36 = .ok (.idiv, 1) := by decide +kernel
theorem d_F_sees_37 : decode b_F_sees 37 = .ok (.iload 4, 2) := by decide +kernel
theorem d_F_sees_39 : decode b_F_sees 39 = .ok (.bipush 16, 2) := by decide +kernel
theorem d_F_sees_41 : decode b_F_sees 41 = .ok (.idiv, 1) := by decide +kernel
theorem d_F_sees_42 : decode b_F_sees 42 = .ok (.iconst 4, 1) := by decide +kernel
theorem d_F_sees_43 : decode b_F_sees 43 = .ok (.idiv, 1) := by decide +kernel
theorem d_F_sees_44 : decode b_F_sees 44 = .ok (.isub, 1) := by decide +kernel
theorem d_F_sees_45 : decode b_F_sees 45 = .ok (.istore 6, 2) := by decide +kernel
theorem d_F_sees_47 : decode b_F_sees 47 = .ok (.iload 5, 2) := by decide +kernel
theorem d_F_sees_49 : decode b_F_sees 49 = .ok (.invokestatic 42, 3) := by decide +kernel
theorem d_F_sees_52 : decode b_F_sees 52 = .ok (.iconst 1, 1) := by decide +kernel
theorem d_F_sees_53 : decode b_F_sees 53 = .ok (.if_icmp .gt 16, 3) := by decide +kernel
theorem d_F_sees_56 : decode b_F_sees 56 = .ok (.iload 6, 2) := by decide +kernel
theorem d_F_sees_58 : decode b_F_sees 58 = .ok (.invokestatic 42, 3) := by decide +kernel
theorem d_F_sees_61 : decode b_F_sees 61 = .ok (.iconst 1, 1) := by decide +kernel
theorem d_F_sees_62 : decode b_F_sees 62 = .ok (.if_icmp .gt 7, 3) := by decide +kernel
theorem d_F_sees_65 : decode b_F_sees 65 = .ok (.iconst 1, 1) := by decide +kernel
theorem d_F_sees_66 : decode b_F_sees 66 = .ok (.goto 4, 3) := by decide +kernel
theorem d_F_sees_69 : decode b_F_sees 69 = .ok (.iconst 0, 1) := by decide +kernel
theorem d_F_sees_70 : decode b_F_sees 70 = .ok (.ireturn, 1) := by decide +kernel
theorem d_N_init_0 : decode b_N_init 0 = .ok (.aload_n 0, 1) := by decide +kernel
theorem d_N_init_1 : decode b_N_init 1 = .ok (.invokespecial 3, 3) := by decide +kernel
theorem d_N_init_4 : decode b_N_init 4 = .ok (.aload_n 0, 1) := by decide +kernel
theorem d_N_init_5 : decode b_N_init 5 = .ok (.bipush 24, 2) := by decide +kernel
theorem d_N_init_7 : decode b_N_init 7 = .ok (.anewarray 9, 3) := by decide +kernel
theorem d_N_init_10 : decode b_N_init 10 = .ok (.putfield 11, 3) := by decide +kernel
theorem d_N_init_13 : decode b_N_init 13 = .ok (.iconst 0, 1) := by decide +kernel
theorem d_N_init_14 : decode b_N_init 14 = .ok (.istore_n 1, 1) := by decide +kernel
theorem d_N_init_15 : decode b_N_init 15 = .ok (.iload_n 1, 1) := by decide +kernel
theorem d_N_init_16 : decode b_N_init 16 = .ok (.bipush 24, 2) := by decide +kernel
theorem d_N_init_18 : decode b_N_init 18 = .ok (.if_icmp .ge 22, 3) := by decide +kernel
theorem d_N_init_21 : decode b_N_init 21 = .ok (.aload_n 0, 1) := by decide +kernel
theorem d_N_init_22 : decode b_N_init 22 = .ok (.getfield 11, 3) := by decide +kernel
theorem d_N_init_25 : decode b_N_init 25 = .ok (.iload_n 1, 1) := by decide +kernel
theorem d_N_init_26 : decode b_N_init 26 = .ok (.new 9, 3) := by decide +kernel
theorem d_N_init_29 : decode b_N_init 29 = .ok (.dup, 1) := by decide +kernel
theorem d_N_init_30 : decode b_N_init 30 = .ok (.invokespecial 17, 3) := by decide +kernel
theorem d_N_init_33 : decode b_N_init 33 = .ok (.aastore, 1) := by decide +kernel
theorem d_N_init_34 : decode b_N_init 34 = .ok (.iinc 1 1, 3) := by decide +kernel
theorem d_N_init_37 : decode b_N_init 37 = .ok (.goto (-22), 3) := by decide +kernel
theorem d_N_init_40 : decode b_N_init 40 = .ok (.return_, 1) := by decide +kernel
theorem d_N_has_0 : decode b_N_has 0 = .ok (.iload_n 1, 1) := by decide +kernel
theorem d_N_has_1 : decode b_N_has 1 = .ok (.ifCond .lt 15, 3) := by decide +kernel
theorem d_N_has_4 : decode b_N_has 4 = .ok (.iload_n 1, 1) := by decide +kernel
theorem d_N_has_5 : decode b_N_has 5 = .ok (.aload_n 0, 1) := by decide +kernel
theorem d_N_has_6 : decode b_N_has 6 = .ok (.getfield 18, 3) := by decide +kernel
theorem d_N_has_9 : decode b_N_has 9 = .ok (.if_icmp .ge 7, 3) := by decide +kernel
theorem d_N_has_12 : decode b_N_has 12 = .ok (.iconst 1, 1) := by decide +kernel
theorem d_N_has_13 : decode b_N_has 13 = .ok (.goto 4, 3) := by decide +kernel
theorem d_N_has_16 : decode b_N_has 16 = .ok (.iconst 0, 1) := by decide +kernel
theorem d_N_has_17 : decode b_N_has 17 = .ok (.ireturn, 1) := by decide +kernel
theorem d_N_addLast_0 : decode b_N_addLast 0 = .ok (.aload_n 0, 1) := by decide +kernel
theorem d_N_addLast_1 : decode b_N_addLast 1 = .ok (.getfield 18, 3) := by decide +kernel
theorem d_N_addLast_4 : decode b_N_addLast 4 = .ok (.bipush 24, 2) := by decide +kernel
theorem d_N_addLast_6 : decode b_N_addLast 6 = .ok (.if_icmp .lt 5, 3) := by decide +kernel
theorem d_N_addLast_9 : decode b_N_addLast 9 = .ok (.aconst_null, 1) := by decide +kernel
theorem d_N_addLast_10 : decode b_N_addLast 10 = .ok (.areturn, 1) := by decide +kernel
theorem d_N_addLast_11 : decode b_N_addLast 11 = .ok (.aload_n 0, 1) := by decide +kernel
theorem d_N_addLast_12 : decode b_N_addLast 12 = .ok (.getfield 11, 3) := by decide +kernel
theorem d_N_addLast_15 : decode b_N_addLast 15 = .ok (.aload_n 0, 1) := by decide +kernel
theorem d_N_addLast_16 : decode b_N_addLast 16 = .ok (.getfield 18, 3) := by decide +kernel
theorem d_N_addLast_19 : decode b_N_addLast 19 = .ok (.aaload, 1) := by decide +kernel
theorem d_N_addLast_20 : decode b_N_addLast 20 = .ok (.astore_n 1, 1) := by decide +kernel
theorem d_N_addLast_21 : decode b_N_addLast 21 = .ok (.aload_n 0, 1) := by decide +kernel
theorem d_N_addLast_22 : decode b_N_addLast 22 = .ok (.dup, 1) := by decide +kernel
theorem d_N_addLast_23 : decode b_N_addLast 23 = .ok (.getfield 18, 3) := by decide +kernel
theorem d_N_addLast_26 : decode b_N_addLast 26 = .ok (.iconst 1, 1) := by decide +kernel
theorem d_N_addLast_27 : decode b_N_addLast 27 = .ok (.iadd, 1) := by decide +kernel
theorem d_N_addLast_28 : decode b_N_addLast 28 = .ok (.putfield 18, 3) := by decide +kernel
theorem d_N_addLast_31 : decode b_N_addLast 31 = .ok (.aload_n 1, 1) := by decide +kernel
theorem d_N_addLast_32 : decode b_N_addLast 32 = .ok (.areturn, 1) := by decide +kernel
theorem d_N_takeOut_0 : decode b_N_takeOut 0 = .ok (.aload_n 0, 1) := by decide +kernel
theorem d_N_takeOut_1 : decode b_N_takeOut 1 = .ok (.getfield 11, 3) := by decide +kernel
theorem d_N_takeOut_4 : decode b_N_takeOut 4 = .ok (.iload_n 1, 1) := by decide +kernel
theorem d_N_takeOut_5 : decode b_N_takeOut 5 = .ok (.aaload, 1) := by decide +kernel
theorem d_N_takeOut_6 : decode b_N_takeOut 6 = .ok (.astore_n 2, 1) := by decide +kernel
theorem d_N_takeOut_7 : decode b_N_takeOut 7 = .ok (.aload_n 0, 1) := by decide +kernel
theorem d_N_takeOut_8 : decode b_N_takeOut 8 = .ok (.dup, 1) := by decide +kernel
theorem d_N_takeOut_9 : decode b_N_takeOut 9 = .ok (.getfield 18, 3) := by decide +kernel
theorem d_N_takeOut_12 : decode b_N_takeOut 12 = .ok (.iconst 1, 1) := by decide +kernel
theorem d_N_takeOut_13 : decode b_N_takeOut 13 = .ok (.isub, 1) := by decide +kernel
theorem d_N_takeOut_14 : decode b_N_takeOut 14 = .ok (.putfield 18, 3) := by decide +kernel
theorem d_N_takeOut_17 : decode b_N_takeOut 17 = .ok (.iload_n 1, 1) := by decide +kernel
theorem d_N_takeOut_18 : decode b_N_takeOut 18 = .ok (.istore_n 3, 1) := by decide +kernel
theorem d_N_takeOut_19 : decode b_N_takeOut 19 = .ok (.iload_n 3, 1) := by decide +kernel
theorem d_N_takeOut_20 : decode b_N_takeOut 20 = .ok (.aload_n 0, 1) := by decide +kernel
theorem d_N_takeOut_21 : decode b_N_takeOut 21 = .ok (.getfield 18, 3) := by decide +kernel
theorem d_N_takeOut_24 : decode b_N_takeOut 24 = .ok (.if_icmp .ge 23, 3) := by decide +kernel
theorem d_N_takeOut_27 : decode b_N_takeOut 27 = .ok (.aload_n 0, 1) := by decide +kernel
theorem d_N_takeOut_28 : decode b_N_takeOut 28 = .ok (.getfield 11, 3) := by decide +kernel
theorem d_N_takeOut_31 : decode b_N_takeOut 31 = .ok (.iload_n 3, 1) := by decide +kernel
theorem d_N_takeOut_32 : decode b_N_takeOut 32 = .ok (.aload_n 0, 1) := by decide +kernel
theorem d_N_takeOut_33 : decode b_N_takeOut 33 = .ok (.getfield 11, 3) := by decide +kernel
theorem d_N_takeOut_36 : decode b_N_takeOut 36 = .ok (.iload_n 3, 1) := by decide +kernel
theorem d_N_takeOut_37 : decode b_N_takeOut 37 = .ok (.iconst 1, 1) := by decide +kernel
theorem d_N_takeOut_38 : decode b_N_takeOut 38 = .ok (.iadd, 1) := by decide +kernel
theorem d_N_takeOut_39 : decode b_N_takeOut 39 = .ok (.aaload, 1) := by decide +kernel
theorem d_N_takeOut_40 : decode b_N_takeOut 40 = .ok (.aastore, 1) := by decide +kernel
theorem d_N_takeOut_41 : decode b_N_takeOut 41 = .ok (.iinc 3 1, 3) := by decide +kernel
theorem d_N_takeOut_44 : decode b_N_takeOut 44 = .ok (.goto (-25), 3) := by decide +kernel
theorem d_N_takeOut_47 : decode b_N_takeOut 47 = .ok (.aload_n 0, 1) := by decide +kernel
theorem d_N_takeOut_48 : decode b_N_takeOut 48 = .ok (.getfield 11, 3) := by decide +kernel
theorem d_N_takeOut_51 : decode b_N_takeOut 51 = .ok (.aload_n 0, 1) := by decide +kernel
theorem d_N_takeOut_52 : decode b_N_takeOut 52 = .ok (.getfield 18, 3) := by decide +kernel
theorem d_N_takeOut_55 : decode b_N_takeOut 55 = .ok (.aload_n 2, 1) := by decide +kernel
theorem d_N_takeOut_56 : decode b_N_takeOut 56 = .ok (.aastore, 1) := by decide +kernel
theorem d_N_takeOut_57 : decode b_N_takeOut 57 = .ok (.aload_n 2, 1) := by decide +kernel
theorem d_N_takeOut_58 : decode b_N_takeOut 58 = .ok (.areturn, 1) := by decide +kernel
theorem d_P_init_0 : decode b_P_init 0 = .ok (.aload_n 0, 1) := by decide +kernel
theorem d_P_init_1 : decode b_P_init 1 = .ok (.invokespecial 3, 3) := by decide +kernel
theorem d_P_init_4 : decode b_P_init 4 = .ok (.aload_n 0, 1) := by decide +kernel
theorem d_P_init_5 : decode b_P_init 5 = .ok (.bipush 8, 2) := by decide +kernel
theorem d_P_init_7 : decode b_P_init 7 = .ok (.newarray .int, 2) := by decide +kernel
theorem d_P_init_9 : decode b_P_init 9 = .ok (.putfield 9, 3) := by decide +kernel
theorem d_P_init_12 : decode b_P_init 12 = .ok (.aload_n 0, 1) := by decide +kernel
theorem d_P_init_13 : decode b_P_init 13 = .ok (.iconst 4, 1) := by decide +kernel
theorem d_P_init_14 : decode b_P_init 14 = .ok (.newarray .int, 2) := by decide +kernel
theorem d_P_init_16 : decode b_P_init 16 = .ok (.putfield 15, 3) := by decide +kernel
theorem d_P_init_19 : decode b_P_init 19 = .ok (.return_, 1) := by decide +kernel
theorem d_P_becomeLike_0 : decode b_P_becomeLike 0 = .ok (.aload_n 0, 1) := by decide +kernel
theorem d_P_becomeLike_1 : decode b_P_becomeLike 1 = .ok (.aload_n 1, 1) := by decide +kernel
theorem d_P_becomeLike_2 : decode b_P_becomeLike 2 = .ok (.getfield 18, 3) := by decide +kernel
theorem d_P_becomeLike_5 : decode b_P_becomeLike 5 = .ok (.putfield 18, 3) := by decide +kernel
theorem d_P_becomeLike_8 : decode b_P_becomeLike 8 = .ok (.aload_n 0, 1) := by decide +kernel
theorem d_P_becomeLike_9 : decode b_P_becomeLike 9 = .ok (.aload_n 1, 1) := by decide +kernel
theorem d_P_becomeLike_10 : decode b_P_becomeLike 10 = .ok (.getfield 22, 3) := by decide +kernel
theorem d_P_becomeLike_13 : decode b_P_becomeLike 13 = .ok (.putfield 22, 3) := by decide +kernel
theorem d_P_becomeLike_16 : decode b_P_becomeLike 16 = .ok (.aload_n 0, 1) := by decide +kernel
theorem d_P_becomeLike_17 : decode b_P_becomeLike 17 = .ok (.aload_n 1, 1) := by decide +kernel
theorem d_P_becomeLike_18 : decode b_P_becomeLike 18 = .ok (.getfield 26, 3) := by decide +kernel
theorem d_P_becomeLike_21 : decode b_P_becomeLike 21 = .ok (.putfield 26, 3) := by decide +kernel
theorem d_P_becomeLike_24 : decode b_P_becomeLike 24 = .ok (.aload_n 0, 1) := by decide +kernel
theorem d_P_becomeLike_25 : decode b_P_becomeLike 25 = .ok (.aload_n 1, 1) := by decide +kernel
theorem d_P_becomeLike_26 : decode b_P_becomeLike 26 = .ok (.getfield 29, 3) := by decide +kernel
theorem d_P_becomeLike_29 : decode b_P_becomeLike 29 = .ok (.putfield 29, 3) := by decide +kernel
theorem d_P_becomeLike_32 : decode b_P_becomeLike 32 = .ok (.aload_n 0, 1) := by decide +kernel
theorem d_P_becomeLike_33 : decode b_P_becomeLike 33 = .ok (.aload_n 1, 1) := by decide +kernel
theorem d_P_becomeLike_34 : decode b_P_becomeLike 34 = .ok (.getfield 32, 3) := by decide +kernel
theorem d_P_becomeLike_37 : decode b_P_becomeLike 37 = .ok (.putfield 32, 3) := by decide +kernel
theorem d_P_becomeLike_40 : decode b_P_becomeLike 40 = .ok (.aload_n 0, 1) := by decide +kernel
theorem d_P_becomeLike_41 : decode b_P_becomeLike 41 = .ok (.aload_n 1, 1) := by decide +kernel
theorem d_P_becomeLike_42 : decode b_P_becomeLike 42 = .ok (.getfield 35, 3) := by decide +kernel
theorem d_P_becomeLike_45 : decode b_P_becomeLike 45 = .ok (.putfield 35, 3) := by decide +kernel
theorem d_P_becomeLike_48 : decode b_P_becomeLike 48 = .ok (.aload_n 1, 1) := by decide +kernel
theorem d_P_becomeLike_49 : decode b_P_becomeLike 49 = .ok (.getfield 9, 3) := by decide +kernel
theorem d_P_becomeLike_52 : decode b_P_becomeLike 52 = .ok (.iconst 0, 1) := by decide +kernel
theorem d_P_becomeLike_53 : decode b_P_becomeLike 53 = .ok (.aload_n 0, 1) := by decide +kernel
theorem d_P_becomeLike_54 : decode b_P_becomeLike 54 = .ok (.getfield 9, 3) := by decide +kernel
theorem d_P_becomeLike_57 : decode b_P_becomeLike 57 = .ok (.iconst 0, 1) := by decide +kernel
theorem d_P_becomeLike_58 : decode b_P_becomeLike 58 = .ok (.bipush 8, 2) := by decide +kernel
theorem d_P_becomeLike_60 : decode b_P_becomeLike 60 = .ok (.invokestatic 38, 3) := by decide +kernel
theorem d_P_becomeLike_63 : decode b_P_becomeLike 63 = .ok (.aload_n 0, 1) := by decide +kernel
theorem d_P_becomeLike_64 : decode b_P_becomeLike 64 = .ok (.aload_n 1, 1) := by decide +kernel
theorem d_P_becomeLike_65 : decode b_P_becomeLike 65 = .ok (.getfield 44, 3) := by decide +kernel
theorem d_P_becomeLike_68 : decode b_P_becomeLike 68 = .ok (.putfield 44, 3) := by decide +kernel
theorem d_P_becomeLike_71 : decode b_P_becomeLike 71 = .ok (.aload_n 1, 1) := by decide +kernel
theorem d_P_becomeLike_72 : decode b_P_becomeLike 72 = .ok (.getfield 15, 3) := by decide +kernel
theorem d_P_becomeLike_75 : decode b_P_becomeLike 75 = .ok (.iconst 0, 1) := by decide +kernel
theorem d_P_becomeLike_76 : decode b_P_becomeLike 76 = .ok (.aload_n 0, 1) := by decide +kernel
theorem d_P_becomeLike_77 : decode b_P_becomeLike 77 = .ok (.getfield 15, 3) := by decide +kernel
theorem d_P_becomeLike_80 : decode b_P_becomeLike 80 = .ok (.iconst 0, 1) := by decide +kernel
theorem d_P_becomeLike_81 : decode b_P_becomeLike 81 = .ok (.iconst 4, 1) := by decide +kernel
theorem d_P_becomeLike_82 : decode b_P_becomeLike 82 = .ok (.invokestatic 38, 3) := by decide +kernel
theorem d_P_becomeLike_85 : decode b_P_becomeLike 85 = .ok (.return_, 1) := by decide +kernel
