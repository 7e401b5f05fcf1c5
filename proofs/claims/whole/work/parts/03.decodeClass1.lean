theorem d_D_init_0 : decode b_D_init 0 = .ok (.aload_n 0, 1) := by decide +kernel
theorem d_D_init_1 : decode b_D_init 1 = .ok (.invokespecial 1, 3) := by decide +kernel
theorem d_D_init_4 : decode b_D_init 4 = .ok (.aload_n 0, 1) := by decide +kernel
theorem d_D_init_5 : decode b_D_init 5 = .ok (.new 7, 3) := by decide +kernel
theorem d_D_init_8 : decode b_D_init 8 = .ok (.dup, 1) := by decide +kernel
theorem d_D_init_9 : decode b_D_init 9 = .ok (.invokespecial 9, 3) := by decide +kernel
theorem d_D_init_12 : decode b_D_init 12 = .ok (.putfield 10, 3) := by decide +kernel
theorem d_D_init_15 : decode b_D_init 15 = .ok (.aload_n 0, 1) := by decide +kernel
theorem d_D_init_16 : decode b_D_init 16 = .ok (.new 16, 3) := by decide +kernel
theorem d_D_init_19 : decode b_D_init 19 = .ok (.dup, 1) := by decide +kernel
theorem d_D_init_20 : decode b_D_init 20 = .ok (.invokespecial 18, 3) := by decide +kernel
theorem d_D_init_23 : decode b_D_init 23 = .ok (.putfield 19, 3) := by decide +kernel
theorem d_D_init_26 : decode b_D_init 26 = .ok (.aload_n 0, 1) := by decide +kernel
theorem d_D_init_27 : decode b_D_init 27 = .ok (.iconst 3, 1) := by decide +kernel
theorem d_D_init_28 : decode b_D_init 28 = .ok (.anewarray 23, 3) := by decide +kernel
theorem d_D_init_31 : decode b_D_init 31 = .ok (.putfield 25, 3) := by decide +kernel
theorem d_D_init_34 : decode b_D_init 34 = .ok (.aload_n 0, 1) := by decide +kernel
theorem d_D_init_35 : decode b_D_init 35 = .ok (.iconst 3, 1) := by decide +kernel
theorem d_D_init_36 : decode b_D_init 36 = .ok (.anewarray 29, 3) := by decide +kernel
theorem d_D_init_39 : decode b_D_init 39 = .ok (.putfield 31, 3) := by decide +kernel
theorem d_D_init_42 : decode b_D_init 42 = .ok (.iconst 0, 1) := by decide +kernel
theorem d_D_init_43 : decode b_D_init 43 = .ok (.istore_n 1, 1) := by decide +kernel
theorem d_D_init_44 : decode b_D_init 44 = .ok (.iload_n 1, 1) := by decide +kernel
theorem d_D_init_45 : decode b_D_init 45 = .ok (.iconst 3, 1) := by decide +kernel
theorem d_D_init_46 : decode b_D_init 46 = .ok (.if_icmp .ge 44, 3) := by decide +kernel
theorem d_D_init_49 : decode b_D_init 49 = .ok (.aload_n 0, 1) := by decide +kernel
theorem d_D_init_50 : decode b_D_init 50 = .ok (.getfield 25, 3) := by decide +kernel
theorem d_D_init_53 : decode b_D_init 53 = .ok (.iload_n 1, 1) := by decide +kernel
theorem d_D_init_54 : decode b_D_init 54 = .ok (.new 23, 3) := by decide +kernel
theorem d_D_init_57 : decode b_D_init 57 = .ok (.dup, 1) := by decide +kernel
theorem d_D_init_58 : decode b_D_init 58 = .ok (.aload_n 0, 1) := by decide +kernel
theorem d_D_init_59 : decode b_D_init 59 = .ok (.getfield 10, 3) := by decide +kernel
theorem d_D_init_62 : decode b_D_init 62 = .ok (.getfield 35, 3) := by decide +kernel
theorem d_D_init_65 : decode b_D_init 65 = .ok (.iload_n 1, 1) := by decide +kernel
theorem d_D_init_66 : decode b_D_init 66 = .ok (.iaload, 1) := by decide +kernel
theorem d_D_init_67 : decode b_D_init 67 = .ok (.invokespecial 39, 3) := by decide +kernel
theorem d_D_init_70 : decode b_D_init 70 = .ok (.aastore, 1) := by decide +kernel
theorem d_D_init_71 : decode b_D_init 71 = .ok (.aload_n 0, 1) := by decide +kernel
theorem d_D_init_72 : decode b_D_init 72 = .ok (.getfield 31, 3) := by decide +kernel
theorem d_D_init_75 : decode b_D_init 75 = .ok (.iload_n 1, 1) := by decide +kernel
theorem d_D_init_76 : decode b_D_init 76 = .ok (.new 29, 3) := by decide +kernel
theorem d_D_init_79 : decode b_D_init 79 = .ok (.dup, 1) := by decide +kernel
theorem d_D_init_80 : decode b_D_init 80 = .ok (.invokespecial 42, 3) := by decide +kernel
theorem d_D_init_83 : decode b_D_init 83 = .ok (.aastore, 1) := by decide +kernel
theorem d_D_init_84 : decode b_D_init 84 = .ok (.iinc 1 1, 3) := by decide +kernel
theorem d_D_init_87 : decode b_D_init 87 = .ok (.goto (-43), 3) := by decide +kernel
theorem d_D_init_90 : decode b_D_init 90 = .ok (.return_, 1) := by decide +kernel
theorem d_D_wall_0 : decode b_D_wall 0 = .ok (.aload_n 0, 1) := by decide +kernel
theorem d_D_wall_1 : decode b_D_wall 1 = .ok (.getfield 43, 3) := by decide +kernel
theorem d_D_wall_4 : decode b_D_wall 4 = .ok (.ifCond .ne 26, 3) := by decide +kernel
theorem d_D_wall_7 : decode b_D_wall 7 = .ok (.iload_n 1, 1) := by decide +kernel
theorem d_D_wall_8 : decode b_D_wall 8 = .ok (.iload_n 2, 1) := by decide +kernel
theorem d_D_wall_9 : decode b_D_wall 9 = .ok (.invokestatic 47, 3) := by decide +kernel
theorem d_D_wall_12 : decode b_D_wall 12 = .ok (.ifCond .eq 18, 3) := by decide +kernel
theorem d_D_wall_15 : decode b_D_wall 15 = .ok (.aload_n 0, 1) := by decide +kernel
theorem d_D_wall_16 : decode b_D_wall 16 = .ok (.getfield 10, 3) := by decide +kernel
theorem d_D_wall_19 : decode b_D_wall 19 = .ok (.iload_n 1, 1) := by decide +kernel
theorem d_D_wall_20 : decode b_D_wall 20 = .ok (.iload_n 2, 1) := by decide +kernel
theorem d_D_wall_21 : decode b_D_wall 21 = .ok (.invokestatic 51, 3) := by decide +kernel
theorem d_D_wall_24 : decode b_D_wall 24 = .ok (.invokevirtual 55, 3) := by decide +kernel
theorem d_D_wall_27 : decode b_D_wall 27 = .ok (.ifCond .eq 5, 3) := by decide +kernel
theorem d_D_wall_30 : decode b_D_wall 30 = .ok (.iconst 0, 1) := by decide +kernel
theorem d_D_wall_31 : decode b_D_wall 31 = .ok (.ireturn, 1) := by decide +kernel
theorem d_D_wall_32 : decode b_D_wall 32 = .ok (.aload_n 0, 1) := by decide +kernel
theorem d_D_wall_33 : decode b_D_wall 33 = .ok (.getfield 10, 3) := by decide +kernel
theorem d_D_wall_36 : decode b_D_wall 36 = .ok (.getfield 59, 3) := by decide +kernel
theorem d_D_wall_39 : decode b_D_wall 39 = .ok (.iload_n 1, 1) := by decide +kernel
theorem d_D_wall_40 : decode b_D_wall 40 = .ok (.iload_n 2, 1) := by decide +kernel
theorem d_D_wall_41 : decode b_D_wall 41 = .ok (.invokestatic 51, 3) := by decide +kernel
theorem d_D_wall_44 : decode b_D_wall 44 = .ok (.iconst 1, 1) := by decide +kernel
theorem d_D_wall_45 : decode b_D_wall 45 = .ok (.bastore, 1) := by decide +kernel
theorem d_D_wall_46 : decode b_D_wall 46 = .ok (.iconst 1, 1) := by decide +kernel
theorem d_D_wall_47 : decode b_D_wall 47 = .ok (.ireturn, 1) := by decide +kernel
theorem d_D_place_0 : decode b_D_place 0 = .ok (.aload_n 0, 1) := by decide +kernel
theorem d_D_place_1 : decode b_D_place 1 = .ok (.getfield 43, 3) := by decide +kernel
theorem d_D_place_4 : decode b_D_place 4 = .ok (.ifCond .ne 22, 3) := by decide +kernel
theorem d_D_place_7 : decode b_D_place 7 = .ok (.iload_n 1, 1) := by decide +kernel
theorem d_D_place_8 : decode b_D_place 8 = .ok (.invokestatic 63, 3) := by decide +kernel
theorem d_D_place_11 : decode b_D_place 11 = .ok (.ifCond .eq 15, 3) := by decide +kernel
theorem d_D_place_14 : decode b_D_place 14 = .ok (.aload_n 0, 1) := by decide +kernel
theorem d_D_place_15 : decode b_D_place 15 = .ok (.getfield 10, 3) := by decide +kernel
theorem d_D_place_18 : decode b_D_place 18 = .ok (.iload_n 2, 1) := by decide +kernel
theorem d_D_place_19 : decode b_D_place 19 = .ok (.iload_n 3, 1) := by decide +kernel
theorem d_D_place_20 : decode b_D_place 20 = .ok (.invokevirtual 66, 3) := by decide +kernel
theorem d_D_place_23 : decode b_D_place 23 = .ok (.ifCond .ne 5, 3) := by decide +kernel
theorem d_D_place_26 : decode b_D_place 26 = .ok (.iconst 0, 1) := by decide +kernel
theorem d_D_place_27 : decode b_D_place 27 = .ok (.ireturn, 1) := by decide +kernel
theorem d_D_place_28 : decode b_D_place 28 = .ok (.iload_n 1, 1) := by decide +kernel
theorem d_D_place_29 : decode b_D_place 29 = .ok (.invokestatic 69, 3) := by decide +kernel
theorem d_D_place_32 : decode b_D_place 32 = .ok (.ifCond .eq 20, 3) := by decide +kernel
theorem d_D_place_35 : decode b_D_place 35 = .ok (.aload_n 0, 1) := by decide +kernel
theorem d_D_place_36 : decode b_D_place 36 = .ok (.getfield 25, 3) := by decide +kernel
theorem d_D_place_39 : decode b_D_place 39 = .ok (.iload_n 1, 1) := by decide +kernel
theorem d_D_place_40 : decode b_D_place 40 = .ok (.aaload, 1) := by decide +kernel
theorem d_D_place_41 : decode b_D_place 41 = .ok (.iload_n 2, 1) := by decide +kernel
theorem d_D_place_42 : decode b_D_place 42 = .ok (.iload_n 3, 1) := by decide +kernel
theorem d_D_place_43 : decode b_D_place 43 = .ok (.invokestatic 51, 3) := by decide +kernel
theorem d_D_place_46 : decode b_D_place 46 = .ok (.putfield 72, 3) := by decide +kernel
theorem d_D_place_49 : decode b_D_place 49 = .ok (.goto 27, 3) := by decide +kernel
theorem d_D_place_52 : decode b_D_place 52 = .ok (.iload 4, 2) := by decide +kernel
theorem d_D_place_54 : decode b_D_place 54 = .ok (.invokestatic 75, 3) := by decide +kernel
theorem d_D_place_57 : decode b_D_place 57 = .ok (.ifCond .eq 17, 3) := by decide +kernel
theorem d_D_place_60 : decode b_D_place 60 = .ok (.aload_n 0, 1) := by decide +kernel
theorem d_D_place_61 : decode b_D_place 61 = .ok (.getfield 10, 3) := by decide +kernel
theorem d_D_place_64 : decode b_D_place 64 = .ok (.getfield 78, 3) := by decide +kernel
theorem d_D_place_67 : decode b_D_place 67 = .ok (.iload_n 1, 1) := by decide +kernel
theorem d_D_place_68 : decode b_D_place 68 = .ok (.iload 4, 2) := by decide +kernel
theorem d_D_place_70 : decode b_D_place 70 = .ok (.iastore, 1) := by decide +kernel
theorem d_D_place_71 : decode b_D_place 71 = .ok (.goto 5, 3) := by decide +kernel
theorem d_D_place_74 : decode b_D_place 74 = .ok (.iconst 0, 1) := by decide +kernel
theorem d_D_place_75 : decode b_D_place 75 = .ok (.ireturn, 1) := by decide +kernel
theorem d_D_place_76 : decode b_D_place 76 = .ok (.aload_n 0, 1) := by decide +kernel
theorem d_D_place_77 : decode b_D_place 77 = .ok (.getfield 10, 3) := by decide +kernel
theorem d_D_place_80 : decode b_D_place 80 = .ok (.getfield 35, 3) := by decide +kernel
theorem d_D_place_83 : decode b_D_place 83 = .ok (.iload_n 1, 1) := by decide +kernel
theorem d_D_place_84 : decode b_D_place 84 = .ok (.iload_n 2, 1) := by decide +kernel
theorem d_D_place_85 : decode b_D_place 85 = .ok (.iload_n 3, 1) := by decide +kernel
theorem d_D_place_86 : decode b_D_place 86 = .ok (.invokestatic 51, 3) := by decide +kernel
theorem d_D_place_89 : decode b_D_place 89 = .ok (.iastore, 1) := by decide +kernel
theorem d_D_place_90 : decode b_D_place 90 = .ok (.iconst 1, 1) := by decide +kernel
theorem d_D_place_91 : decode b_D_place 91 = .ok (.ireturn, 1) := by decide +kernel
theorem d_D_input_0 : decode b_D_input 0 = .ok (.iload_n 1, 1) := by decide +kernel
theorem d_D_input_1 : decode b_D_input 1 = .ok (.invokestatic 69, 3) := by decide +kernel
theorem d_D_input_4 : decode b_D_input 4 = .ok (.ifCond .eq 10, 3) := by decide +kernel
theorem d_D_input_7 : decode b_D_input 7 = .ok (.iload_n 2, 1) := by decide +kernel
theorem d_D_input_8 : decode b_D_input 8 = .ok (.invokestatic 81, 3) := by decide +kernel
theorem d_D_input_11 : decode b_D_input 11 = .ok (.ifCond .ne 5, 3) := by decide +kernel
theorem d_D_input_14 : decode b_D_input 14 = .ok (.iconst (-1), 1) := by decide +kernel
theorem d_D_input_15 : decode b_D_input 15 = .ok (.ireturn, 1) := by decide +kernel
theorem d_D_input_16 : decode b_D_input 16 = .ok (.aload_n 0, 1) := by decide +kernel
theorem d_D_input_17 : decode b_D_input 17 = .ok (.getfield 25, 3) := by decide +kernel
theorem d_D_input_20 : decode b_D_input 20 = .ok (.iload_n 1, 1) := by decide +kernel
theorem d_D_input_21 : decode b_D_input 21 = .ok (.aaload, 1) := by decide +kernel
theorem d_D_input_22 : decode b_D_input 22 = .ok (.astore_n 3, 1) := by decide +kernel
theorem d_D_input_23 : decode b_D_input 23 = .ok (.aload_n 3, 1) := by decide +kernel
theorem d_D_input_24 : decode b_D_input 24 = .ok (.invokevirtual 84, 3) := by decide +kernel
theorem d_D_input_27 : decode b_D_input 27 = .ok (.bipush 12, 2) := by decide +kernel
theorem d_D_input_29 : decode b_D_input 29 = .ok (.if_icmp .lt 5, 3) := by decide +kernel
theorem d_D_input_32 : decode b_D_input 32 = .ok (.iconst (-1), 1) := by decide +kernel
theorem d_D_input_33 : decode b_D_input 33 = .ok (.ireturn, 1) := by decide +kernel
theorem d_D_input_34 : decode b_D_input 34 = .ok (.aload_n 3, 1) := by decide +kernel
theorem d_D_input_35 : decode b_D_input 35 = .ok (.iload_n 2, 1) := by decide +kernel
theorem d_D_input_36 : decode b_D_input 36 = .ok (.invokevirtual 88, 3) := by decide +kernel
theorem d_D_input_39 : decode b_D_input 39 = .ok (.aload_n 3, 1) := by decide +kernel
theorem d_D_input_40 : decode b_D_input 40 = .ok (.getfield 91, 3) := by decide +kernel
theorem d_D_input_43 : decode b_D_input 43 = .ok (.ireturn, 1) := by decide +kernel
theorem d_D_report_0 : decode b_D_report 0 = .ok (.iload_n 1, 1) := by decide +kernel
theorem d_D_report_1 : decode b_D_report 1 = .ok (.invokestatic 69, 3) := by decide +kernel
theorem d_D_report_4 : decode b_D_report 4 = .ok (.ifCond .ne 5, 3) := by decide +kernel
theorem d_D_report_7 : decode b_D_report 7 = .ok (.iconst 0, 1) := by decide +kernel
theorem d_D_report_8 : decode b_D_report 8 = .ok (.ireturn, 1) := by decide +kernel
theorem d_D_report_9 : decode b_D_report 9 = .ok (.aload_n 0, 1) := by decide +kernel
theorem d_D_report_10 : decode b_D_report 10 = .ok (.getfield 19, 3) := by decide +kernel
theorem d_D_report_13 : decode b_D_report 13 = .ok (.invokevirtual 94, 3) := by decide +kernel
theorem d_D_report_16 : decode b_D_report 16 = .ok (.astore_n 2, 1) := by decide +kernel
theorem d_D_report_17 : decode b_D_report 17 = .ok (.aload_n 2, 1) := by decide +kernel
theorem d_D_report_18 : decode b_D_report 18 = .ok (.ifnull 18, 3) := by decide +kernel
theorem d_D_report_21 : decode b_D_report 21 = .ok (.aload_n 2, 1) := by decide +kernel
theorem d_D_report_22 : decode b_D_report 22 = .ok (.iload_n 1, 1) := by decide +kernel
theorem d_D_report_23 : decode b_D_report 23 = .ok (.putfield 98, 3) := by decide +kernel
theorem d_D_report_26 : decode b_D_report 26 = .ok (.aload_n 0, 1) := by decide +kernel
theorem d_D_report_27 : decode b_D_report 27 = .ok (.getfield 25, 3) := by decide +kernel
theorem d_D_report_30 : decode b_D_report 30 = .ok (.iload_n 1, 1) := by decide +kernel
theorem d_D_report_31 : decode b_D_report 31 = .ok (.aaload, 1) := by decide +kernel
theorem d_D_report_32 : decode b_D_report 32 = .ok (.aload_n 2, 1) := by decide +kernel
theorem d_D_report_33 : decode b_D_report 33 = .ok (.invokevirtual 103, 3) := by decide +kernel
theorem d_D_report_36 : decode b_D_report 36 = .ok (.iconst 1, 1) := by decide +kernel
theorem d_D_report_37 : decode b_D_report 37 = .ok (.ireturn, 1) := by decide +kernel
theorem d_D_tick_0 : decode b_D_tick 0 = .ok (.aload_n 0, 1) := by decide +kernel
theorem d_D_tick_1 : decode b_D_tick 1 = .ok (.dup, 1) := by decide +kernel
theorem d_D_tick_2 : decode b_D_tick 2 = .ok (.getfield 43, 3) := by decide +kernel
theorem d_D_tick_5 : decode b_D_tick 5 = .ok (.iconst 1, 1) := by decide +kernel
theorem d_D_tick_6 : decode b_D_tick 6 = .ok (.iadd, 1) := by decide +kernel
theorem d_D_tick_7 : decode b_D_tick 7 = .ok (.putfield 43, 3) := by decide +kernel
theorem d_D_tick_10 : decode b_D_tick 10 = .ok (.iconst 0, 1) := by decide +kernel
theorem d_D_tick_11 : decode b_D_tick 11 = .ok (.istore_n 1, 1) := by decide +kernel
theorem d_D_tick_12 : decode b_D_tick 12 = .ok (.iload_n 1, 1) := by decide +kernel
theorem d_D_tick_13 : decode b_D_tick 13 = .ok (.iconst 3, 1) := by decide +kernel
theorem d_D_tick_14 : decode b_D_tick 14 = .ok (.if_icmp .ge 14, 3) := by decide +kernel
theorem d_D_tick_17 : decode b_D_tick 17 = .ok (.aload_n 0, 1) := by decide +kernel
theorem d_D_tick_18 : decode b_D_tick 18 = .ok (.iload_n 1, 1) := by decide +kernel
theorem d_D_tick_19 : decode b_D_tick 19 = .ok (.invokevirtual 107, 3) := by decide +kernel
theorem d_D_tick_22 : decode b_D_tick 22 = .ok (.iinc 1 1, 3) := by decide +kernel
theorem d_D_tick_25 : decode b_D_tick 25 = .ok (.goto (-13), 3) := by decide +kernel
theorem d_D_tick_28 : decode b_D_tick 28 = .ok (.aload_n 0, 1) := by decide +kernel
theorem d_D_tick_29 : decode b_D_tick 29 = .ok (.getfield 10, 3) := by decide +kernel
theorem d_D_tick_32 : decode b_D_tick 32 = .ok (.invokevirtual 110, 3) := by decide +kernel
theorem d_D_tick_35 : decode b_D_tick 35 = .ok (.iconst 0, 1) := by decide +kernel
theorem d_D_tick_36 : decode b_D_tick 36 = .ok (.istore_n 1, 1) := by decide +kernel
theorem d_D_tick_37 : decode b_D_tick 37 = .ok (.iload_n 1, 1) := by decide +kernel
theorem d_D_tick_38 : decode b_D_tick 38 = .ok (.iconst 3, 1) := by decide +kernel
theorem d_D_tick_39 : decode b_D_tick 39 = .ok (.if_icmp .ge 14, 3) := by decide +kernel
theorem d_D_tick_42 : decode b_D_tick 42 = .ok (.aload_n 0, 1) := by decide +kernel
theorem d_D_tick_43 : decode b_D_tick 43 = .ok (.iload_n 1, 1) := by decide +kernel
theorem d_D_tick_44 : decode b_D_tick 44 = .ok (.invokevirtual 113, 3) := by decide +kernel
theorem d_D_tick_47 : decode b_D_tick 47 = .ok (.iinc 1 1, 3) := by decide +kernel
theorem d_D_tick_50 : decode b_D_tick 50 = .ok (.goto (-13), 3) := by decide +kernel
theorem d_D_tick_53 : decode b_D_tick 53 = .ok (.aload_n 0, 1) := by decide +kernel
theorem d_D_tick_54 : decode b_D_tick 54 = .ok (.getfield 43, 3) := by decide +kernel
theorem d_D_tick_57 : decode b_D_tick 57 = .ok (.ireturn, 1) := by decide +kernel
theorem d_D_deliver_0 : decode b_D_deliver 0 = .ok (.aload_n 0, 1) := by decide +kernel
theorem d_D_deliver_1 : decode b_D_deliver 1 = .ok (.getfield 19, 3) := by decide +kernel
theorem d_D_deliver_4 : decode b_D_deliver 4 = .ok (.iload_n 1, 1) := by decide +kernel
theorem d_D_deliver_5 : decode b_D_deliver 5 = .ok (.invokevirtual 116, 3) := by decide +kernel
theorem d_D_deliver_8 : decode b_D_deliver 8 = .ok (.ifCond .ne 5, 3) := by decide +kernel
theorem d_D_deliver_11 : decode b_D_deliver 11 = .ok (.iconst (-1), 1) := by decide +kernel
theorem d_D_deliver_12 : decode b_D_deliver 12 = .ok (.ireturn, 1) := by decide +kernel
theorem d_D_deliver_13 : decode b_D_deliver 13 = .ok (.aload_n 0, 1) := by decide +kernel
theorem d_D_deliver_14 : decode b_D_deliver 14 = .ok (.getfield 19, 3) := by decide +kernel
theorem d_D_deliver_17 : decode b_D_deliver 17 = .ok (.iload_n 1, 1) := by decide +kernel
theorem d_D_deliver_18 : decode b_D_deliver 18 = .ok (.invokevirtual 119, 3) := by decide +kernel
theorem d_D_deliver_21 : decode b_D_deliver 21 = .ok (.astore_n 2, 1) := by decide +kernel
theorem d_D_deliver_22 : decode b_D_deliver 22 = .ok (.aload_n 2, 1) := by decide +kernel
theorem d_D_deliver_23 : decode b_D_deliver 23 = .ok (.getfield 123, 3) := by decide +kernel
theorem d_D_deliver_26 : decode b_D_deliver 26 = .ok (.ifCond .eq 25, 3) := by decide +kernel
theorem d_D_deliver_29 : decode b_D_deliver 29 = .ok (.aload_n 0, 1) := by decide +kernel
theorem d_D_deliver_30 : decode b_D_deliver 30 = .ok (.getfield 25, 3) := by decide +kernel
theorem d_D_deliver_33 : decode b_D_deliver 33 = .ok (.aload_n 2, 1) := by decide +kernel
theorem d_D_deliver_34 : decode b_D_deliver 34 = .ok (.getfield 98, 3) := by decide +kernel
theorem d_D_deliver_37 : decode b_D_deliver 37 = .ok (.aaload, 1) := by decide +kernel
theorem d_D_deliver_38 : decode b_D_deliver 38 = .ok (.aload_n 2, 1) := by decide +kernel
theorem d_D_deliver_39 : decode b_D_deliver 39 = .ok (.invokevirtual 127, 3) := by decide +kernel
theorem d_D_deliver_42 : decode b_D_deliver 42 = .ok (.ifCond .eq 7, 3) := by decide +kernel
theorem d_D_deliver_45 : decode b_D_deliver 45 = .ok (.iconst 1, 1) := by decide +kernel
theorem d_D_deliver_46 : decode b_D_deliver 46 = .ok (.goto 4, 3) := by decide +kernel
theorem d_D_deliver_49 : decode b_D_deliver 49 = .ok (.iconst 0, 1) := by decide +kernel
theorem d_D_deliver_50 : decode b_D_deliver 50 = .ok (.ireturn, 1) := by decide +kernel
theorem d_D_deliver_51 : decode b_D_deliver 51 = .ok (.aload_n 0, 1) := by decide +kernel
theorem d_D_deliver_52 : decode b_D_deliver 52 = .ok (.getfield 31, 3) := by decide +kernel
theorem d_D_deliver_55 : decode b_D_deliver 55 = .ok (.aload_n 2, 1) := by decide +kernel
theorem d_D_deliver_56 : decode b_D_deliver 56 = .ok (.getfield 98, 3) := by decide +kernel
theorem d_D_deliver_59 : decode b_D_deliver 59 = .ok (.aaload, 1) := by decide +kernel
theorem d_D_deliver_60 : decode b_D_deliver 60 = .ok (.aload_n 2, 1) := by decide +kernel
theorem d_D_deliver_61 : decode b_D_deliver 61 = .ok (.invokevirtual 131, 3) := by decide +kernel
theorem d_D_deliver_64 : decode b_D_deliver 64 = .ok (.iconst 1, 1) := by decide +kernel
theorem d_D_deliver_65 : decode b_D_deliver 65 = .ok (.ireturn, 1) := by decide +kernel
theorem d_D_lose_0 : decode b_D_lose 0 = .ok (.aload_n 0, 1) := by decide +kernel
theorem d_D_lose_1 : decode b_D_lose 1 = .ok (.getfield 19, 3) := by decide +kernel
theorem d_D_lose_4 : decode b_D_lose 4 = .ok (.iload_n 1, 1) := by decide +kernel
theorem d_D_lose_5 : decode b_D_lose 5 = .ok (.invokevirtual 116, 3) := by decide +kernel
theorem d_D_lose_8 : decode b_D_lose 8 = .ok (.ifCond .ne 5, 3) := by decide +kernel
theorem d_D_lose_11 : decode b_D_lose 11 = .ok (.iconst 0, 1) := by decide +kernel
theorem d_D_lose_12 : decode b_D_lose 12 = .ok (.ireturn, 1) := by decide +kernel
theorem d_D_lose_13 : decode b_D_lose 13 = .ok (.aload_n 0, 1) := by decide +kernel
theorem d_D_lose_14 : decode b_D_lose 14 = .ok (.getfield 19, 3) := by decide +kernel
theorem d_D_lose_17 : decode b_D_lose 17 = .ok (.iload_n 1, 1) := by decide +kernel
theorem d_D_lose_18 : decode b_D_lose 18 = .ok (.invokevirtual 119, 3) := by decide +kernel
theorem d_D_lose_21 : decode b_D_lose 21 = .ok (.pop, 1) := by decide +kernel
theorem d_D_lose_22 : decode b_D_lose 22 = .ok (.iconst 1, 1) := by decide +kernel
theorem d_D_lose_23 : decode b_D_lose 23 = .ok (.ireturn, 1) := by decide +kernel
theorem d_D_copy_0 : decode b_D_copy 0 = .ok (.aload_n 0, 1) := by decide +kernel
theorem d_D_copy_1 : decode b_D_copy 1 = .ok (.getfield 19, 3) := by decide +kernel
theorem d_D_copy_4 : decode b_D_copy 4 = .ok (.iload_n 1, 1) := by decide +kernel
theorem d_D_copy_5 : decode b_D_copy 5 = .ok (.invokevirtual 116, 3) := by decide +kernel
theorem d_D_copy_8 : decode b_D_copy 8 = .ok (.ifCond .ne 5, 3) := by decide +kernel
theorem d_D_copy_11 : decode b_D_copy 11 = .ok (.iconst 0, 1) := by decide +kernel
theorem d_D_copy_12 : decode b_D_copy 12 = .ok (.ireturn, 1) := by decide +kernel
theorem d_D_copy_13 : decode b_D_copy 13 = .ok (.aload_n 0, 1) := by decide +kernel
theorem d_D_copy_14 : decode b_D_copy 14 = .ok (.getfield 19, 3) := by decide +kernel
theorem d_D_copy_17 : decode b_D_copy 17 = .ok (.invokevirtual 94, 3) := by decide +kernel
theorem d_D_copy_20 : decode b_D_copy 20 = .ok (.astore_n 2, 1) := by decide +kernel
theorem d_D_copy_21 : decode b_D_copy 21 = .ok (.aload_n 2, 1) := by decide +kernel
theorem d_D_copy_22 : decode b_D_copy 22 = .ok (.ifnonnull 5, 3) := by decide +kernel
theorem d_D_copy_25 : decode b_D_copy 25 = .ok (.iconst 0, 1) := by decide +kernel
theorem d_D_copy_26 : decode b_D_copy 26 = .ok (.ireturn, 1) := by decide +kernel
theorem d_D_copy_27 : decode b_D_copy 27 = .ok (.aload_n 2, 1) := by decide +kernel
theorem d_D_copy_28 : decode b_D_copy 28 = .ok (.aload_n 0, 1) := by decide +kernel
theorem d_D_copy_29 : decode b_D_copy 29 = .ok (.getfield 19, 3) := by decide +kernel
theorem d_D_copy_32 : decode b_D_copy 32 = .ok (.getfield 134, 3) := by decide +kernel
theorem d_D_copy_35 : decode b_D_copy 35 = .ok (.iload_n 1, 1) := by decide +kernel
theorem d_D_copy_36 : decode b_D_copy 36 = .ok (.aaload, 1) := by decide +kernel
theorem d_D_copy_37 : decode b_D_copy 37 = .ok (.invokevirtual 138, 3) := by decide +kernel
theorem d_D_copy_40 : decode b_D_copy 40 = .ok (.iconst 1, 1) := by decide +kernel
theorem d_D_copy_41 : decode b_D_copy 41 = .ok (.ireturn, 1) := by decide +kernel
theorem d_D_flight_0 : decode b_D_flight 0 = .ok (.aload_n 0, 1) := by decide +kernel
theorem d_D_flight_1 : decode b_D_flight 1 = .ok (.getfield 19, 3) := by decide +kernel
theorem d_D_flight_4 : decode b_D_flight 4 = .ok (.getfield 141, 3) := by decide +kernel
theorem d_D_flight_7 : decode b_D_flight 7 = .ok (.ireturn, 1) := by decide +kernel
theorem d_D_packet_0 : decode b_D_packet 0 = .ok (.aload_n 0, 1) := by decide +kernel
theorem d_D_packet_1 : decode b_D_packet 1 = .ok (.getfield 19, 3) := by decide +kernel
theorem d_D_packet_4 : decode b_D_packet 4 = .ok (.iload_n 1, 1) := by decide +kernel
theorem d_D_packet_5 : decode b_D_packet 5 = .ok (.invokevirtual 116, 3) := by decide +kernel
theorem d_D_packet_8 : decode b_D_packet 8 = .ok (.ifCond .ne 5, 3) := by decide +kernel
theorem d_D_packet_11 : decode b_D_packet 11 = .ok (.iconst (-1), 1) := by decide +kernel
theorem d_D_packet_12 : decode b_D_packet 12 = .ok (.ireturn, 1) := by decide +kernel
theorem d_D_packet_13 : decode b_D_packet 13 = .ok (.aload_n 0, 1) := by decide +kernel
theorem d_D_packet_14 : decode b_D_packet 14 = .ok (.getfield 19, 3) := by decide +kernel
theorem d_D_packet_17 : decode b_D_packet 17 = .ok (.getfield 134, 3) := by decide +kernel
theorem d_D_packet_20 : decode b_D_packet 20 = .ok (.iload_n 1, 1) := by decide +kernel
theorem d_D_packet_21 : decode b_D_packet 21 = .ok (.aaload, 1) := by decide +kernel
theorem d_D_packet_22 : decode b_D_packet 22 = .ok (.astore_n 3, 1) := by decide +kernel
theorem d_D_packet_23 : decode b_D_packet 23 = .ok (.iload_n 2, 1) := by decide +kernel
theorem d_D_packet_24 : decode b_D_packet 24 = .ok (.tableswitch 92 0 5 #[40, 45, 58, 63, 68, 87], 40) := by decide +kernel
theorem d_D_packet_64 : decode b_D_packet 64 = .ok (.aload_n 3, 1) := by decide +kernel
theorem d_D_packet_65 : decode b_D_packet 65 = .ok (.getfield 98, 3) := by decide +kernel
theorem d_D_packet_68 : decode b_D_packet 68 = .ok (.ireturn, 1) := by decide +kernel
theorem d_D_packet_69 : decode b_D_packet 69 = .ok (.aload_n 3, 1) := by decide +kernel
theorem d_D_packet_70 : decode b_D_packet 70 = .ok (.getfield 123, 3) := by decide +kernel
theorem d_D_packet_73 : decode b_D_packet 73 = .ok (.ifCond .eq 7, 3) := by decide +kernel
theorem d_D_packet_76 : decode b_D_packet 76 = .ok (.iconst 1, 1) := by decide +kernel
theorem d_D_packet_77 : decode b_D_packet 77 = .ok (.goto 4, 3) := by decide +kernel
theorem d_D_packet_80 : decode b_D_packet 80 = .ok (.iconst 0, 1) := by decide +kernel
theorem d_D_packet_81 : decode b_D_packet 81 = .ok (.ireturn, 1) := by decide +kernel
theorem d_D_packet_82 : decode b_D_packet 82 = .ok (.aload_n 3, 1) := by decide +kernel
theorem d_D_packet_83 : decode b_D_packet 83 = .ok (.getfield 144, 3) := by decide +kernel
theorem d_D_packet_86 : decode b_D_packet 86 = .ok (.ireturn, 1) := by decide +kernel
theorem d_D_packet_87 : decode b_D_packet 87 = .ok (.aload_n 3, 1) := by decide +kernel
theorem d_D_packet_88 : decode b_D_packet 88 = .ok (.getfield 145, 3) := by decide +kernel
theorem d_D_packet_91 : decode b_D_packet 91 = .ok (.ireturn, 1) := by decide +kernel
theorem d_D_packet_92 : decode b_D_packet 92 = .ok (.aload_n 3, 1) := by decide +kernel
theorem d_D_packet_93 : decode b_D_packet 93 = .ok (.getfield 123, 3) := by decide +kernel
theorem d_D_packet_96 : decode b_D_packet 96 = .ok (.ifCond .eq 10, 3) := by decide +kernel
theorem d_D_packet_99 : decode b_D_packet 99 = .ok (.aload_n 3, 1) := by decide +kernel
theorem d_D_packet_100 : decode b_D_packet 100 = .ok (.getfield 148, 3) := by decide +kernel
theorem d_D_packet_103 : decode b_D_packet 103 = .ok (.goto 7, 3) := by decide +kernel
theorem d_D_packet_106 : decode b_D_packet 106 = .ok (.aload_n 3, 1) := by decide +kernel
theorem d_D_packet_107 : decode b_D_packet 107 = .ok (.getfield 151, 3) := by decide +kernel
theorem d_D_packet_110 : decode b_D_packet 110 = .ok (.ireturn, 1) := by decide +kernel
theorem d_D_packet_111 : decode b_D_packet 111 = .ok (.aload_n 3, 1) := by decide +kernel
theorem d_D_packet_112 : decode b_D_packet 112 = .ok (.getfield 154, 3) := by decide +kernel
theorem d_D_packet_115 : decode b_D_packet 115 = .ok (.ireturn, 1) := by decide +kernel
theorem d_D_packet_116 : decode b_D_packet 116 = .ok (.iconst (-1), 1) := by decide +kernel
theorem d_D_packet_117 : decode b_D_packet 117 = .ok (.ireturn, 1) := by decide +kernel
theorem d_D_position_0 : decode b_D_position 0 = .ok (.iload_n 1, 1) := by decide +kernel
theorem d_D_position_1 : decode b_D_position 1 = .ok (.invokestatic 63, 3) := by decide +kernel
theorem d_D_position_4 : decode b_D_position 4 = .ok (.ifCond .eq 15, 3) := by decide +kernel
theorem d_D_position_7 : decode b_D_position 7 = .ok (.aload_n 0, 1) := by decide +kernel
theorem d_D_position_8 : decode b_D_position 8 = .ok (.getfield 10, 3) := by decide +kernel
theorem d_D_position_11 : decode b_D_position 11 = .ok (.getfield 35, 3) := by decide +kernel
theorem d_D_position_14 : decode b_D_position 14 = .ok (.iload_n 1, 1) := by decide +kernel
theorem d_D_position_15 : decode b_D_position 15 = .ok (.iaload, 1) := by decide +kernel
theorem d_D_position_16 : decode b_D_position 16 = .ok (.goto 4, 3) := by decide +kernel
theorem d_D_position_19 : decode b_D_position 19 = .ok (.iconst (-1), 1) := by decide +kernel
theorem d_D_position_20 : decode b_D_position 20 = .ok (.ireturn, 1) := by decide +kernel
theorem d_D_view_0 : decode b_D_view 0 = .ok (.iload_n 1, 1) := by decide +kernel
theorem d_D_view_1 : decode b_D_view 1 = .ok (.invokestatic 69, 3) := by decide +kernel
theorem d_D_view_4 : decode b_D_view 4 = .ok (.ifCond .eq 24, 3) := by decide +kernel
theorem d_D_view_7 : decode b_D_view 7 = .ok (.iload_n 2, 1) := by decide +kernel
theorem d_D_view_8 : decode b_D_view 8 = .ok (.invokestatic 63, 3) := by decide +kernel
theorem d_D_view_11 : decode b_D_view 11 = .ok (.ifCond .eq 17, 3) := by decide +kernel
theorem d_D_view_14 : decode b_D_view 14 = .ok (.aload_n 0, 1) := by decide +kernel
theorem d_D_view_15 : decode b_D_view 15 = .ok (.getfield 25, 3) := by decide +kernel
theorem d_D_view_18 : decode b_D_view 18 = .ok (.iload_n 1, 1) := by decide +kernel
theorem d_D_view_19 : decode b_D_view 19 = .ok (.aaload, 1) := by decide +kernel
theorem d_D_view_20 : decode b_D_view 20 = .ok (.getfield 157, 3) := by decide +kernel
theorem d_D_view_23 : decode b_D_view 23 = .ok (.iload_n 2, 1) := by decide +kernel
theorem d_D_view_24 : decode b_D_view 24 = .ok (.iaload, 1) := by decide +kernel
theorem d_D_view_25 : decode b_D_view 25 = .ok (.goto 4, 3) := by decide +kernel
theorem d_D_view_28 : decode b_D_view 28 = .ok (.iconst (-1), 1) := by decide +kernel
theorem d_D_view_29 : decode b_D_view 29 = .ok (.ireturn, 1) := by decide +kernel
theorem d_D_predicted_0 : decode b_D_predicted 0 = .ok (.iload_n 1, 1) := by decide +kernel
theorem d_D_predicted_1 : decode b_D_predicted 1 = .ok (.invokestatic 69, 3) := by decide +kernel
theorem d_D_predicted_4 : decode b_D_predicted 4 = .ok (.ifCond .ne 5, 3) := by decide +kernel
theorem d_D_predicted_7 : decode b_D_predicted 7 = .ok (.iconst (-1), 1) := by decide +kernel
theorem d_D_predicted_8 : decode b_D_predicted 8 = .ok (.ireturn, 1) := by decide +kernel
theorem d_D_predicted_9 : decode b_D_predicted 9 = .ok (.aload_n 0, 1) := by decide +kernel
theorem d_D_predicted_10 : decode b_D_predicted 10 = .ok (.getfield 25, 3) := by decide +kernel
theorem d_D_predicted_13 : decode b_D_predicted 13 = .ok (.iload_n 1, 1) := by decide +kernel
theorem d_D_predicted_14 : decode b_D_predicted 14 = .ok (.aaload, 1) := by decide +kernel
theorem d_D_predicted_15 : decode b_D_predicted 15 = .ok (.astore_n 2, 1) := by decide +kernel
theorem d_D_predicted_16 : decode b_D_predicted 16 = .ok (.aload_n 2, 1) := by decide +kernel
theorem d_D_predicted_17 : decode b_D_predicted 17 = .ok (.getfield 160, 3) := by decide +kernel
theorem d_D_predicted_20 : decode b_D_predicted 20 = .ok (.ifCond .ne 10, 3) := by decide +kernel
theorem d_D_predicted_23 : decode b_D_predicted 23 = .ok (.aload_n 2, 1) := by decide +kernel
theorem d_D_predicted_24 : decode b_D_predicted 24 = .ok (.getfield 72, 3) := by decide +kernel
theorem d_D_predicted_27 : decode b_D_predicted 27 = .ok (.goto 9, 3) := by decide +kernel
theorem d_D_predicted_30 : decode b_D_predicted 30 = .ok (.aload_n 2, 1) := by decide +kernel
theorem d_D_predicted_31 : decode b_D_predicted 31 = .ok (.getfield 157, 3) := by decide +kernel
theorem d_D_predicted_34 : decode b_D_predicted 34 = .ok (.iload_n 1, 1) := by decide +kernel
theorem d_D_predicted_35 : decode b_D_predicted 35 = .ok (.iaload, 1) := by decide +kernel
theorem d_D_predicted_36 : decode b_D_predicted 36 = .ok (.istore_n 3, 1) := by decide +kernel
theorem d_D_predicted_37 : decode b_D_predicted 37 = .ok (.aload_n 2, 1) := by decide +kernel
theorem d_D_predicted_38 : decode b_D_predicted 38 = .ok (.invokevirtual 84, 3) := by decide +kernel
theorem d_D_predicted_41 : decode b_D_predicted 41 = .ok (.istore 4, 2) := by decide +kernel
theorem d_D_predicted_43 : decode b_D_predicted 43 = .ok (.iconst 0, 1) := by decide +kernel
theorem d_D_predicted_44 : decode b_D_predicted 44 = .ok (.istore 5, 2) := by decide +kernel
theorem d_D_predicted_46 : decode b_D_predicted 46 = .ok (.iload 5, 2) := by decide +kernel
theorem d_D_predicted_48 : decode b_D_predicted 48 = .ok (.iload 4, 2) := by decide +kernel
theorem d_D_predicted_50 : decode b_D_predicted 50 = .ok (.if_icmp .ge 31, 3) := by decide +kernel
theorem d_D_predicted_53 : decode b_D_predicted 53 = .ok (.aload_n 0, 1) := by decide +kernel
theorem d_D_predicted_54 : decode b_D_predicted 54 = .ok (.getfield 10, 3) := by decide +kernel
theorem d_D_predicted_57 : decode b_D_predicted 57 = .ok (.iload_n 3, 1) := by decide +kernel
theorem d_D_predicted_58 : decode b_D_predicted 58 = .ok (.aload_n 2, 1) := by decide +kernel
theorem d_D_predicted_59 : decode b_D_predicted 59 = .ok (.aload_n 2, 1) := by decide +kernel
theorem d_D_predicted_60 : decode b_D_predicted 60 = .ok (.getfield 163, 3) := by decide +kernel
theorem d_D_predicted_63 : decode b_D_predicted 63 = .ok (.iconst 1, 1) := by decide +kernel
theorem d_D_predicted_64 : decode b_D_predicted 64 = .ok (.iadd, 1) := by decide +kernel
theorem d_D_predicted_65 : decode b_D_predicted 65 = .ok (.iload 5, 2) := by decide +kernel
theorem d_D_predicted_67 : decode b_D_predicted 67 = .ok (.iadd, 1) := by decide +kernel
theorem d_D_predicted_68 : decode b_D_predicted 68 = .ok (.invokevirtual 166, 3) := by decide +kernel
theorem d_D_predicted_71 : decode b_D_predicted 71 = .ok (.invokevirtual 170, 3) := by decide +kernel
theorem d_D_predicted_74 : decode b_D_predicted 74 = .ok (.istore_n 3, 1) := by decide +kernel
theorem d_D_predicted_75 : decode b_D_predicted 75 = .ok (.iinc 5 1, 3) := by decide +kernel
theorem d_D_predicted_78 : decode b_D_predicted 78 = .ok (.goto (-32), 3) := by decide +kernel
theorem d_D_predicted_81 : decode b_D_predicted 81 = .ok (.iload_n 3, 1) := by decide +kernel
theorem d_D_predicted_82 : decode b_D_predicted 82 = .ok (.ireturn, 1) := by decide +kernel
theorem d_D_count_0 : decode b_D_count 0 = .ok (.iload_n 1, 1) := by decide +kernel
theorem d_D_count_1 : decode b_D_count 1 = .ok (.invokestatic 69, 3) := by decide +kernel
theorem d_D_count_4 : decode b_D_count 4 = .ok (.ifCond .ne 5, 3) := by decide +kernel
theorem d_D_count_7 : decode b_D_count 7 = .ok (.iconst (-1), 1) := by decide +kernel
theorem d_D_count_8 : decode b_D_count 8 = .ok (.ireturn, 1) := by decide +kernel
theorem d_D_count_9 : decode b_D_count 9 = .ok (.iload_n 2, 1) := by decide +kernel
theorem d_D_count_10 : decode b_D_count 10 = .ok (.tableswitch 98 0 5 #[38, 48, 58, 68, 78, 88], 38) := by decide +kernel
theorem d_D_count_48 : decode b_D_count 48 = .ok (.aload_n 0, 1) := by decide +kernel
theorem d_D_count_49 : decode b_D_count 49 = .ok (.getfield 25, 3) := by decide +kernel
theorem d_D_count_52 : decode b_D_count 52 = .ok (.iload_n 1, 1) := by decide +kernel
theorem d_D_count_53 : decode b_D_count 53 = .ok (.aaload, 1) := by decide +kernel
theorem d_D_count_54 : decode b_D_count 54 = .ok (.getfield 91, 3) := by decide +kernel
theorem d_D_count_57 : decode b_D_count 57 = .ok (.ireturn, 1) := by decide +kernel
theorem d_D_count_58 : decode b_D_count 58 = .ok (.aload_n 0, 1) := by decide +kernel
theorem d_D_count_59 : decode b_D_count 59 = .ok (.getfield 25, 3) := by decide +kernel
theorem d_D_count_62 : decode b_D_count 62 = .ok (.iload_n 1, 1) := by decide +kernel
theorem d_D_count_63 : decode b_D_count 63 = .ok (.aaload, 1) := by decide +kernel
theorem d_D_count_64 : decode b_D_count 64 = .ok (.getfield 163, 3) := by decide +kernel
theorem d_D_count_67 : decode b_D_count 67 = .ok (.ireturn, 1) := by decide +kernel
theorem d_D_count_68 : decode b_D_count 68 = .ok (.aload_n 0, 1) := by decide +kernel
theorem d_D_count_69 : decode b_D_count 69 = .ok (.getfield 31, 3) := by decide +kernel
theorem d_D_count_72 : decode b_D_count 72 = .ok (.iload_n 1, 1) := by decide +kernel
theorem d_D_count_73 : decode b_D_count 73 = .ok (.aaload, 1) := by decide +kernel
theorem d_D_count_74 : decode b_D_count 74 = .ok (.getfield 173, 3) := by decide +kernel
theorem d_D_count_77 : decode b_D_count 77 = .ok (.ireturn, 1) := by decide +kernel
theorem d_D_count_78 : decode b_D_count 78 = .ok (.aload_n 0, 1) := by decide +kernel
theorem d_D_count_79 : decode b_D_count 79 = .ok (.getfield 31, 3) := by decide +kernel
theorem d_D_count_82 : decode b_D_count 82 = .ok (.iload_n 1, 1) := by decide +kernel
theorem d_D_count_83 : decode b_D_count 83 = .ok (.aaload, 1) := by decide +kernel
theorem d_D_count_84 : decode b_D_count 84 = .ok (.invokevirtual 174, 3) := by decide +kernel
theorem d_D_count_87 : decode b_D_count 87 = .ok (.ireturn, 1) := by decide +kernel
theorem d_D_count_88 : decode b_D_count 88 = .ok (.aload_n 0, 1) := by decide +kernel
theorem d_D_count_89 : decode b_D_count 89 = .ok (.getfield 25, 3) := by decide +kernel
theorem d_D_count_92 : decode b_D_count 92 = .ok (.iload_n 1, 1) := by decide +kernel
theorem d_D_count_93 : decode b_D_count 93 = .ok (.aaload, 1) := by decide +kernel
theorem d_D_count_94 : decode b_D_count 94 = .ok (.getfield 160, 3) := by decide +kernel
theorem d_D_count_97 : decode b_D_count 97 = .ok (.ireturn, 1) := by decide +kernel
theorem d_D_count_98 : decode b_D_count 98 = .ok (.aload_n 0, 1) := by decide +kernel
theorem d_D_count_99 : decode b_D_count 99 = .ok (.getfield 31, 3) := by decide +kernel
theorem d_D_count_102 : decode b_D_count 102 = .ok (.iload_n 1, 1) := by decide +kernel
theorem d_D_count_103 : decode b_D_count 103 = .ok (.aaload, 1) := by decide +kernel
theorem d_D_count_104 : decode b_D_count 104 = .ok (.getfield 177, 3) := by decide +kernel
theorem d_D_count_107 : decode b_D_count 107 = .ok (.ireturn, 1) := by decide +kernel
theorem d_D_count_108 : decode b_D_count 108 = .ok (.iconst (-1), 1) := by decide +kernel
theorem d_D_count_109 : decode b_D_count 109 = .ok (.ireturn, 1) := by decide +kernel
theorem d_D_doNextCommand_0 : decode b_D_doNextCommand 0 = .ok (.aload_n 0, 1) := by decide +kernel
theorem d_D_doNextCommand_1 : decode b_D_doNextCommand 1 = .ok (.getfield 31, 3) := by decide +kernel
theorem d_D_doNextCommand_4 : decode b_D_doNextCommand 4 = .ok (.iload_n 1, 1) := by decide +kernel
theorem d_D_doNextCommand_5 : decode b_D_doNextCommand 5 = .ok (.aaload, 1) := by decide +kernel
theorem d_D_doNextCommand_6 : decode b_D_doNextCommand 6 = .ok (.invokevirtual 180, 3) := by decide +kernel
theorem d_D_doNextCommand_9 : decode b_D_doNextCommand 9 = .ok (.istore_n 2, 1) := by decide +kernel
theorem d_D_doNextCommand_10 : decode b_D_doNextCommand 10 = .ok (.iload_n 2, 1) := by decide +kernel
theorem d_D_doNextCommand_11 : decode b_D_doNextCommand 11 = .ok (.iconst (-1), 1) := by decide +kernel
theorem d_D_doNextCommand_12 : decode b_D_doNextCommand 12 = .ok (.if_icmp .eq 29, 3) := by decide +kernel
theorem d_D_doNextCommand_15 : decode b_D_doNextCommand 15 = .ok (.aload_n 0, 1) := by decide +kernel
theorem d_D_doNextCommand_16 : decode b_D_doNextCommand 16 = .ok (.getfield 10, 3) := by decide +kernel
theorem d_D_doNextCommand_19 : decode b_D_doNextCommand 19 = .ok (.getfield 35, 3) := by decide +kernel
theorem d_D_doNextCommand_22 : decode b_D_doNextCommand 22 = .ok (.iload_n 1, 1) := by decide +kernel
theorem d_D_doNextCommand_23 : decode b_D_doNextCommand 23 = .ok (.aload_n 0, 1) := by decide +kernel
theorem d_D_doNextCommand_24 : decode b_D_doNextCommand 24 = .ok (.getfield 10, 3) := by decide +kernel
theorem d_D_doNextCommand_27 : decode b_D_doNextCommand 27 = .ok (.aload_n 0, 1) := by decide +kernel
theorem d_D_doNextCommand_28 : decode b_D_doNextCommand 28 = .ok (.getfield 10, 3) := by decide +kernel
theorem d_D_doNextCommand_31 : decode b_D_doNextCommand 31 = .ok (.getfield 35, 3) := by decide +kernel
theorem d_D_doNextCommand_34 : decode b_D_doNextCommand 34 = .ok (.iload_n 1, 1) := by decide +kernel
theorem d_D_doNextCommand_35 : decode b_D_doNextCommand 35 = .ok (.iaload, 1) := by decide +kernel
theorem d_D_doNextCommand_36 : decode b_D_doNextCommand 36 = .ok (.iload_n 2, 1) := by decide +kernel
theorem d_D_doNextCommand_37 : decode b_D_doNextCommand 37 = .ok (.invokevirtual 170, 3) := by decide +kernel
theorem d_D_doNextCommand_40 : decode b_D_doNextCommand 40 = .ok (.iastore, 1) := by decide +kernel
theorem d_D_doNextCommand_41 : decode b_D_doNextCommand 41 = .ok (.return_, 1) := by decide +kernel
theorem d_D_sendSnapshot_0 : decode b_D_sendSnapshot 0 = .ok (.aload_n 0, 1) := by decide +kernel
theorem d_D_sendSnapshot_1 : decode b_D_sendSnapshot 1 = .ok (.getfield 31, 3) := by decide +kernel
theorem d_D_sendSnapshot_4 : decode b_D_sendSnapshot 4 = .ok (.iload_n 1, 1) := by decide +kernel
theorem d_D_sendSnapshot_5 : decode b_D_sendSnapshot 5 = .ok (.aaload, 1) := by decide +kernel
theorem d_D_sendSnapshot_6 : decode b_D_sendSnapshot 6 = .ok (.astore_n 2, 1) := by decide +kernel
theorem d_D_sendSnapshot_7 : decode b_D_sendSnapshot 7 = .ok (.aload_n 2, 1) := by decide +kernel
theorem d_D_sendSnapshot_8 : decode b_D_sendSnapshot 8 = .ok (.aload_n 0, 1) := by decide +kernel
theorem d_D_sendSnapshot_9 : decode b_D_sendSnapshot 9 = .ok (.getfield 43, 3) := by decide +kernel
theorem d_D_sendSnapshot_12 : decode b_D_sendSnapshot 12 = .ok (.aload_n 0, 1) := by decide +kernel
theorem d_D_sendSnapshot_13 : decode b_D_sendSnapshot 13 = .ok (.getfield 10, 3) := by decide +kernel
theorem d_D_sendSnapshot_16 : decode b_D_sendSnapshot 16 = .ok (.iload_n 1, 1) := by decide +kernel
theorem d_D_sendSnapshot_17 : decode b_D_sendSnapshot 17 = .ok (.invokevirtual 183, 3) := by decide +kernel
theorem d_D_sendSnapshot_20 : decode b_D_sendSnapshot 20 = .ok (.aload_n 0, 1) := by decide +kernel
theorem d_D_sendSnapshot_21 : decode b_D_sendSnapshot 21 = .ok (.getfield 19, 3) := by decide +kernel
theorem d_D_sendSnapshot_24 : decode b_D_sendSnapshot 24 = .ok (.invokevirtual 94, 3) := by decide +kernel
theorem d_D_sendSnapshot_27 : decode b_D_sendSnapshot 27 = .ok (.astore_n 3, 1) := by decide +kernel
theorem d_D_sendSnapshot_28 : decode b_D_sendSnapshot 28 = .ok (.aload_n 3, 1) := by decide +kernel
theorem d_D_sendSnapshot_29 : decode b_D_sendSnapshot 29 = .ok (.ifnull 17, 3) := by decide +kernel
theorem d_D_sendSnapshot_32 : decode b_D_sendSnapshot 32 = .ok (.aload_n 3, 1) := by decide +kernel
theorem d_D_sendSnapshot_33 : decode b_D_sendSnapshot 33 = .ok (.iload_n 1, 1) := by decide +kernel
theorem d_D_sendSnapshot_34 : decode b_D_sendSnapshot 34 = .ok (.putfield 98, 3) := by decide +kernel
theorem d_D_sendSnapshot_37 : decode b_D_sendSnapshot 37 = .ok (.aload_n 2, 1) := by decide +kernel
theorem d_D_sendSnapshot_38 : decode b_D_sendSnapshot 38 = .ok (.aload_n 3, 1) := by decide +kernel
theorem d_D_sendSnapshot_39 : decode b_D_sendSnapshot 39 = .ok (.aload_n 0, 1) := by decide +kernel
theorem d_D_sendSnapshot_40 : decode b_D_sendSnapshot 40 = .ok (.getfield 43, 3) := by decide +kernel
theorem d_D_sendSnapshot_43 : decode b_D_sendSnapshot 43 = .ok (.invokevirtual 187, 3) := by decide +kernel
theorem d_D_sendSnapshot_46 : decode b_D_sendSnapshot 46 = .ok (.return_, 1) := by decide +kernel
theorem d_D_isSquare_0 : decode b_D_isSquare 0 = .ok (.iload_n 0, 1) := by decide +kernel
theorem d_D_isSquare_1 : decode b_D_isSquare 1 = .ok (.ifCond .lt 23, 3) := by decide +kernel
theorem d_D_isSquare_4 : decode b_D_isSquare 4 = .ok (.iload_n 0, 1) := by decide +kernel
theorem d_D_isSquare_5 : decode b_D_isSquare 5 = .ok (.bipush 16, 2) := by decide +kernel
theorem d_D_isSquare_7 : decode b_D_isSquare 7 = .ok (.if_icmp .ge 17, 3) := by decide +kernel
theorem d_D_isSquare_10 : decode b_D_isSquare 10 = .ok (.iload_n 1, 1) := by decide +kernel
theorem d_D_isSquare_11 : decode b_D_isSquare 11 = .ok (.ifCond .lt 13, 3) := by decide +kernel
theorem d_D_isSquare_14 : decode b_D_isSquare 14 = .ok (.iload_n 1, 1) := by decide +kernel
theorem d_D_isSquare_15 : decode b_D_isSquare 15 = .ok (.bipush 16, 2) := by decide +kernel
theorem d_D_isSquare_17 : decode b_D_isSquare 17 = .ok (.if_icmp .ge 7, 3) := by decide +kernel
theorem d_D_isSquare_20 : decode b_D_isSquare 20 = .ok (.iconst 1, 1) := by decide +kernel
theorem d_D_isSquare_21 : decode b_D_isSquare 21 = .ok (.goto 4, 3) := by decide +kernel
theorem d_D_isSquare_24 : decode b_D_isSquare 24 = .ok (.iconst 0, 1) := by decide +kernel
theorem d_D_isSquare_25 : decode b_D_isSquare 25 = .ok (.ireturn, 1) := by decide +kernel
theorem d_D_placeOf_0 : decode b_D_placeOf 0 = .ok (.iload_n 0, 1) := by decide +kernel
theorem d_D_placeOf_1 : decode b_D_placeOf 1 = .ok (.bipush 16, 2) := by decide +kernel
theorem d_D_placeOf_3 : decode b_D_placeOf 3 = .ok (.iload_n 1, 1) := by decide +kernel
theorem d_D_placeOf_4 : decode b_D_placeOf 4 = .ok (.imul, 1) := by decide +kernel
theorem d_D_placeOf_5 : decode b_D_placeOf 5 = .ok (.iadd, 1) := by decide +kernel
theorem d_D_placeOf_6 : decode b_D_placeOf 6 = .ok (.ireturn, 1) := by decide +kernel
theorem d_D_isEntity_0 : decode b_D_isEntity 0 = .ok (.iload_n 0, 1) := by decide +kernel
theorem d_D_isEntity_1 : decode b_D_isEntity 1 = .ok (.ifCond .lt 13, 3) := by decide +kernel
theorem d_D_isEntity_4 : decode b_D_isEntity 4 = .ok (.iload_n 0, 1) := by decide +kernel
theorem d_D_isEntity_5 : decode b_D_isEntity 5 = .ok (.bipush 8, 2) := by decide +kernel
theorem d_D_isEntity_7 : decode b_D_isEntity 7 = .ok (.if_icmp .ge 7, 3) := by decide +kernel
theorem d_D_isEntity_10 : decode b_D_isEntity 10 = .ok (.iconst 1, 1) := by decide +kernel
theorem d_D_isEntity_11 : decode b_D_isEntity 11 = .ok (.goto 4, 3) := by decide +kernel
theorem d_D_isEntity_14 : decode b_D_isEntity 14 = .ok (.iconst 0, 1) := by decide +kernel
theorem d_D_isEntity_15 : decode b_D_isEntity 15 = .ok (.ireturn, 1) := by decide +kernel
theorem d_D_isClient_0 : decode b_D_isClient 0 = .ok (.iload_n 0, 1) := by decide +kernel
theorem d_D_isClient_1 : decode b_D_isClient 1 = .ok (.ifCond .lt 12, 3) := by decide +kernel
theorem d_D_isClient_4 : decode b_D_isClient 4 = .ok (.iload_n 0, 1) := by decide +kernel
theorem d_D_isClient_5 : decode b_D_isClient 5 = .ok (.iconst 3, 1) := by decide +kernel
theorem d_D_isClient_6 : decode b_D_isClient 6 = .ok (.if_icmp .ge 7, 3) := by decide +kernel
theorem d_D_isClient_9 : decode b_D_isClient 9 = .ok (.iconst 1, 1) := by decide +kernel
theorem d_D_isClient_10 : decode b_D_isClient 10 = .ok (.goto 4, 3) := by decide +kernel
theorem d_D_isClient_13 : decode b_D_isClient 13 = .ok (.iconst 0, 1) := by decide +kernel
theorem d_D_isClient_14 : decode b_D_isClient 14 = .ok (.ireturn, 1) := by decide +kernel
theorem d_D_isDirection_0 : decode b_D_isDirection 0 = .ok (.iload_n 0, 1) := by decide +kernel
theorem d_D_isDirection_1 : decode b_D_isDirection 1 = .ok (.ifCond .lt 12, 3) := by decide +kernel
theorem d_D_isDirection_4 : decode b_D_isDirection 4 = .ok (.iload_n 0, 1) := by decide +kernel
theorem d_D_isDirection_5 : decode b_D_isDirection 5 = .ok (.iconst 4, 1) := by decide +kernel
theorem d_D_isDirection_6 : decode b_D_isDirection 6 = .ok (.if_icmp .ge 7, 3) := by decide +kernel
theorem d_D_isDirection_9 : decode b_D_isDirection 9 = .ok (.iconst 1, 1) := by decide +kernel
theorem d_D_isDirection_10 : decode b_D_isDirection 10 = .ok (.goto 4, 3) := by decide +kernel
theorem d_D_isDirection_13 : decode b_D_isDirection 13 = .ok (.iconst 0, 1) := by decide +kernel
theorem d_D_isDirection_14 : decode b_D_isDirection 14 = .ok (.ireturn, 1) := by decide +kernel
theorem d_D_isCommand_0 : decode b_D_isCommand 0 = .ok (.iload_n 0, 1) := by decide +kernel
theorem d_D_isCommand_1 : decode b_D_isCommand 1 = .ok (.invokestatic 75, 3) := by decide +kernel
theorem d_D_isCommand_4 : decode b_D_isCommand 4 = .ok (.ifCond .ne 8, 3) := by decide +kernel
theorem d_D_isCommand_7 : decode b_D_isCommand 7 = .ok (.iload_n 0, 1) := by decide +kernel
theorem d_D_isCommand_8 : decode b_D_isCommand 8 = .ok (.iconst 4, 1) := by decide +kernel
theorem d_D_isCommand_9 : decode b_D_isCommand 9 = .ok (.if_icmp .ne 7, 3) := by decide +kernel
theorem d_D_isCommand_12 : decode b_D_isCommand 12 = .ok (.iconst 1, 1) := by decide +kernel
theorem d_D_isCommand_13 : decode b_D_isCommand 13 = .ok (.goto 4, 3) := by decide +kernel
theorem d_D_isCommand_16 : decode b_D_isCommand 16 = .ok (.iconst 0, 1) := by decide +kernel
theorem d_D_isCommand_17 : decode b_D_isCommand 17 = .ok (.ireturn, 1) := by decide +kernel
theorem d_D_distance_0 : decode b_D_distance 0 = .ok (.iload_n 0, 1) := by decide +kernel
theorem d_D_distance_1 : decode b_D_distance 1 = .ok (.bipush 16, 2) := by decide +kernel
theorem d_D_distance_3 : decode b_D_distance 3 = .ok (.irem, 1) := by decide +kernel
theorem d_D_distance_4 : decode b_D_distance 4 = .ok (.iload_n 1, 1) := by decide +kernel
theorem d_D_distance_5 : decode b_D_distance 5 = .ok (.bipush 16, 2) := by decide +kernel
theorem d_D_distance_7 : decode b_D_distance 7 = .ok (.irem, 1) := by decide +kernel
theorem d_D_distance_8 : decode b_D_distance 8 = .ok (.isub, 1) := by decide +kernel
theorem d_D_distance_9 : decode b_D_distance 9 = .ok (.invokestatic 191, 3) := by decide +kernel
theorem d_D_distance_12 : decode b_D_distance 12 = .ok (.iload_n 0, 1) := by decide +kernel
theorem d_D_distance_13 : decode b_D_distance 13 = .ok (.bipush 16, 2) := by decide +kernel
theorem d_D_distance_15 : decode b_D_distance 15 = .ok (.idiv, 1) := by decide +kernel
theorem d_D_distance_16 : decode b_D_distance 16 = .ok (.iload_n 1, 1) := by decide +kernel
theorem d_D_distance_17 : decode b_D_distance 17 = .ok (.bipush 16, 2) := by decide +kernel
theorem d_D_distance_19 : decode b_D_distance 19 = .ok (.idiv, 1) := by decide +kernel
theorem d_D_distance_20 : decode b_D_distance 20 = .ok (.isub, 1) := by decide +kernel
theorem d_D_distance_21 : decode b_D_distance 21 = .ok (.invokestatic 191, 3) := by decide +kernel
theorem d_D_distance_24 : decode b_D_distance 24 = .ok (.iadd, 1) := by decide +kernel
theorem d_D_distance_25 : decode b_D_distance 25 = .ok (.ireturn, 1) := by decide +kernel
theorem d_A_init_0 : decode b_A_init 0 = .ok (.aload_n 0, 1) := by decide +kernel
theorem d_A_init_1 : decode b_A_init 1 = .ok (.invokespecial 3, 3) := by decide +kernel
theorem d_A_init_4 : decode b_A_init 4 = .ok (.aload_n 0, 1) := by decide +kernel
theorem d_A_init_5 : decode b_A_init 5 = .ok (.bipush 16, 2) := by decide +kernel
theorem d_A_init_7 : decode b_A_init 7 = .ok (.newarray .int, 2) := by decide +kernel
theorem d_A_init_9 : decode b_A_init 9 = .ok (.putfield 9, 3) := by decide +kernel
theorem d_A_init_12 : decode b_A_init 12 = .ok (.aload_n 0, 1) := by decide +kernel
theorem d_A_init_13 : decode b_A_init 13 = .ok (.bipush 64, 2) := by decide +kernel
theorem d_A_init_15 : decode b_A_init 15 = .ok (.newarray .int, 2) := by decide +kernel
theorem d_A_init_17 : decode b_A_init 17 = .ok (.putfield 15, 3) := by decide +kernel
theorem d_A_init_20 : decode b_A_init 20 = .ok (.iconst 0, 1) := by decide +kernel
theorem d_A_init_21 : decode b_A_init 21 = .ok (.istore_n 1, 1) := by decide +kernel
theorem d_A_init_22 : decode b_A_init 22 = .ok (.iload_n 1, 1) := by decide +kernel
theorem d_A_init_23 : decode b_A_init 23 = .ok (.bipush 16, 2) := by decide +kernel
theorem d_A_init_25 : decode b_A_init 25 = .ok (.if_icmp .ge 16, 3) := by decide +kernel
theorem d_A_init_28 : decode b_A_init 28 = .ok (.aload_n 0, 1) := by decide +kernel
theorem d_A_init_29 : decode b_A_init 29 = .ok (.getfield 9, 3) := by decide +kernel
theorem d_A_init_32 : decode b_A_init 32 = .ok (.iload_n 1, 1) := by decide +kernel
theorem d_A_init_33 : decode b_A_init 33 = .ok (.iconst (-1), 1) := by decide +kernel
theorem d_A_init_34 : decode b_A_init 34 = .ok (.iastore, 1) := by decide +kernel
theorem d_A_init_35 : decode b_A_init 35 = .ok (.iinc 1 1, 3) := by decide +kernel
theorem d_A_init_38 : decode b_A_init 38 = .ok (.goto (-16), 3) := by decide +kernel
theorem d_A_init_41 : decode b_A_init 41 = .ok (.return_, 1) := by decide +kernel
theorem d_A_heldCommands_0 : decode b_A_heldCommands 0 = .ok (.iconst 0, 1) := by decide +kernel
theorem d_A_heldCommands_1 : decode b_A_heldCommands 1 = .ok (.istore_n 1, 1) := by decide +kernel
theorem d_A_heldCommands_2 : decode b_A_heldCommands 2 = .ok (.iconst 0, 1) := by decide +kernel
theorem d_A_heldCommands_3 : decode b_A_heldCommands 3 = .ok (.istore_n 2, 1) := by decide +kernel
theorem d_A_heldCommands_4 : decode b_A_heldCommands 4 = .ok (.iload_n 2, 1) := by decide +kernel
theorem d_A_heldCommands_5 : decode b_A_heldCommands 5 = .ok (.bipush 16, 2) := by decide +kernel
theorem d_A_heldCommands_7 : decode b_A_heldCommands 7 = .ok (.if_icmp .ge 22, 3) := by decide +kernel
theorem d_A_heldCommands_10 : decode b_A_heldCommands 10 = .ok (.aload_n 0, 1) := by decide +kernel
theorem d_A_heldCommands_11 : decode b_A_heldCommands 11 = .ok (.getfield 9, 3) := by decide +kernel
theorem d_A_heldCommands_14 : decode b_A_heldCommands 14 = .ok (.iload_n 2, 1) := by decide +kernel
theorem d_A_heldCommands_15 : decode b_A_heldCommands 15 = .ok (.iaload, 1) := by decide +kernel
theorem d_A_heldCommands_16 : decode b_A_heldCommands 16 = .ok (.iconst (-1), 1) := by decide +kernel
theorem d_A_heldCommands_17 : decode b_A_heldCommands 17 = .ok (.if_icmp .eq 6, 3) := by decide +kernel
theorem d_A_heldCommands_20 : decode b_A_heldCommands 20 = .ok (.iinc 1 1, 3) := by decide +kernel
theorem d_A_heldCommands_23 : decode b_A_heldCommands 23 = .ok (.iinc 2 1, 3) := by decide +kernel
theorem d_A_heldCommands_26 : decode b_A_heldCommands 26 = .ok (.goto (-22), 3) := by decide +kernel
theorem d_A_heldCommands_29 : decode b_A_heldCommands 29 = .ok (.iload_n 1, 1) := by decide +kernel
theorem d_A_heldCommands_30 : decode b_A_heldCommands 30 = .ok (.ireturn, 1) := by decide +kernel
theorem d_A_takeNextCommand_0 : decode b_A_takeNextCommand 0 = .ok (.aload_n 0, 1) := by decide +kernel
theorem d_A_takeNextCommand_1 : decode b_A_takeNextCommand 1 = .ok (.getfield 18, 3) := by decide +kernel
theorem d_A_takeNextCommand_4 : decode b_A_takeNextCommand 4 = .ok (.iconst 1, 1) := by decide +kernel
theorem d_A_takeNextCommand_5 : decode b_A_takeNextCommand 5 = .ok (.iadd, 1) := by decide +kernel
theorem d_A_takeNextCommand_6 : decode b_A_takeNextCommand 6 = .ok (.bipush 15, 2) := by decide +kernel
theorem d_A_takeNextCommand_8 : decode b_A_takeNextCommand 8 = .ok (.iand, 1) := by decide +kernel
theorem d_A_takeNextCommand_9 : decode b_A_takeNextCommand 9 = .ok (.istore_n 1, 1) := by decide +kernel
theorem d_A_takeNextCommand_10 : decode b_A_takeNextCommand 10 = .ok (.aload_n 0, 1) := by decide +kernel
theorem d_A_takeNextCommand_11 : decode b_A_takeNextCommand 11 = .ok (.getfield 9, 3) := by decide +kernel
theorem d_A_takeNextCommand_14 : decode b_A_takeNextCommand 14 = .ok (.iload_n 1, 1) := by decide +kernel
theorem d_A_takeNextCommand_15 : decode b_A_takeNextCommand 15 = .ok (.iaload, 1) := by decide +kernel
theorem d_A_takeNextCommand_16 : decode b_A_takeNextCommand 16 = .ok (.istore_n 2, 1) := by decide +kernel
theorem d_A_takeNextCommand_17 : decode b_A_takeNextCommand 17 = .ok (.iload_n 2, 1) := by decide +kernel
theorem d_A_takeNextCommand_18 : decode b_A_takeNextCommand 18 = .ok (.iconst (-1), 1) := by decide +kernel
theorem d_A_takeNextCommand_19 : decode b_A_takeNextCommand 19 = .ok (.if_icmp .eq 20, 3) := by decide +kernel
theorem d_A_takeNextCommand_22 : decode b_A_takeNextCommand 22 = .ok (.aload_n 0, 1) := by decide +kernel
theorem d_A_takeNextCommand_23 : decode b_A_takeNextCommand 23 = .ok (.getfield 9, 3) := by decide +kernel
theorem d_A_takeNextCommand_26 : decode b_A_takeNextCommand 26 = .ok (.iload_n 1, 1) := by decide +kernel
theorem d_A_takeNextCommand_27 : decode b_A_takeNextCommand 27 = .ok (.iconst (-1), 1) := by decide +kernel
theorem d_A_takeNextCommand_28 : decode b_A_takeNextCommand 28 = .ok (.iastore, 1) := by decide +kernel
theorem d_A_takeNextCommand_29 : decode b_A_takeNextCommand 29 = .ok (.aload_n 0, 1) := by decide +kernel
theorem d_A_takeNextCommand_30 : decode b_A_takeNextCommand 30 = .ok (.dup, 1) := by decide +kernel
theorem d_A_takeNextCommand_31 : decode b_A_takeNextCommand 31 = .ok (.getfield 18, 3) := by decide +kernel
theorem d_A_takeNextCommand_34 : decode b_A_takeNextCommand 34 = .ok (.iconst 1, 1) := by decide +kernel
theorem d_A_takeNextCommand_35 : decode b_A_takeNextCommand 35 = .ok (.iadd, 1) := by decide +kernel
theorem d_A_takeNextCommand_36 : decode b_A_takeNextCommand 36 = .ok (.putfield 18, 3) := by decide +kernel
theorem d_A_takeNextCommand_39 : decode b_A_takeNextCommand 39 = .ok (.iload_n 2, 1) := by decide +kernel
theorem d_A_takeNextCommand_40 : decode b_A_takeNextCommand 40 = .ok (.ireturn, 1) := by decide +kernel
theorem d_A_readReport_0 : decode b_A_readReport 0 = .ok (.aload_n 0, 1) := by decide +kernel
theorem d_A_readReport_1 : decode b_A_readReport 1 = .ok (.aload_n 0, 1) := by decide +kernel
theorem d_A_readReport_2 : decode b_A_readReport 2 = .ok (.getfield 22, 3) := by decide +kernel
theorem d_A_readReport_5 : decode b_A_readReport 5 = .ok (.aload_n 1, 1) := by decide +kernel
theorem d_A_readReport_6 : decode b_A_readReport 6 = .ok (.getfield 25, 3) := by decide +kernel
theorem d_A_readReport_9 : decode b_A_readReport 9 = .ok (.invokestatic 30, 3) := by decide +kernel
theorem d_A_readReport_12 : decode b_A_readReport 12 = .ok (.putfield 22, 3) := by decide +kernel
theorem d_A_readReport_15 : decode b_A_readReport 15 = .ok (.iconst 0, 1) := by decide +kernel
theorem d_A_readReport_16 : decode b_A_readReport 16 = .ok (.istore_n 2, 1) := by decide +kernel
theorem d_A_readReport_17 : decode b_A_readReport 17 = .ok (.iload_n 2, 1) := by decide +kernel
theorem d_A_readReport_18 : decode b_A_readReport 18 = .ok (.iconst 4, 1) := by decide +kernel
theorem d_A_readReport_19 : decode b_A_readReport 19 = .ok (.if_icmp .ge 49, 3) := by decide +kernel
theorem d_A_readReport_22 : decode b_A_readReport 22 = .ok (.aload_n 1, 1) := by decide +kernel
theorem d_A_readReport_23 : decode b_A_readReport 23 = .ok (.getfield 36, 3) := by decide +kernel
theorem d_A_readReport_26 : decode b_A_readReport 26 = .ok (.iconst 1, 1) := by decide +kernel
theorem d_A_readReport_27 : decode b_A_readReport 27 = .ok (.iadd, 1) := by decide +kernel
theorem d_A_readReport_28 : decode b_A_readReport 28 = .ok (.iload_n 2, 1) := by decide +kernel
theorem d_A_readReport_29 : decode b_A_readReport 29 = .ok (.iadd, 1) := by decide +kernel
theorem d_A_readReport_30 : decode b_A_readReport 30 = .ok (.istore_n 3, 1) := by decide +kernel
theorem d_A_readReport_31 : decode b_A_readReport 31 = .ok (.iload_n 2, 1) := by decide +kernel
theorem d_A_readReport_32 : decode b_A_readReport 32 = .ok (.aload_n 1, 1) := by decide +kernel
theorem d_A_readReport_33 : decode b_A_readReport 33 = .ok (.getfield 37, 3) := by decide +kernel
theorem d_A_readReport_36 : decode b_A_readReport 36 = .ok (.if_icmp .ge 26, 3) := by decide +kernel
theorem d_A_readReport_39 : decode b_A_readReport 39 = .ok (.iload_n 3, 1) := by decide +kernel
theorem d_A_readReport_40 : decode b_A_readReport 40 = .ok (.aload_n 0, 1) := by decide +kernel
theorem d_A_readReport_41 : decode b_A_readReport 41 = .ok (.getfield 18, 3) := by decide +kernel
theorem d_A_readReport_44 : decode b_A_readReport 44 = .ok (.if_icmp .le 18, 3) := by decide +kernel
theorem d_A_readReport_47 : decode b_A_readReport 47 = .ok (.aload_n 0, 1) := by decide +kernel
theorem d_A_readReport_48 : decode b_A_readReport 48 = .ok (.getfield 9, 3) := by decide +kernel
theorem d_A_readReport_51 : decode b_A_readReport 51 = .ok (.iload_n 3, 1) := by decide +kernel
theorem d_A_readReport_52 : decode b_A_readReport 52 = .ok (.bipush 15, 2) := by decide +kernel
theorem d_A_readReport_54 : decode b_A_readReport 54 = .ok (.iand, 1) := by decide +kernel
theorem d_A_readReport_55 : decode b_A_readReport 55 = .ok (.aload_n 1, 1) := by decide +kernel
theorem d_A_readReport_56 : decode b_A_readReport 56 = .ok (.getfield 40, 3) := by decide +kernel
theorem d_A_readReport_59 : decode b_A_readReport 59 = .ok (.iload_n 2, 1) := by decide +kernel
theorem d_A_readReport_60 : decode b_A_readReport 60 = .ok (.iaload, 1) := by decide +kernel
theorem d_A_readReport_61 : decode b_A_readReport 61 = .ok (.iastore, 1) := by decide +kernel
theorem d_A_readReport_62 : decode b_A_readReport 62 = .ok (.iinc 2 1, 3) := by decide +kernel
theorem d_A_readReport_65 : decode b_A_readReport 65 = .ok (.goto (-48), 3) := by decide +kernel
theorem d_A_readReport_68 : decode b_A_readReport 68 = .ok (.return_, 1) := by decide +kernel
theorem d_A_remember_0 : decode b_A_remember 0 = .ok (.iload_n 1, 1) := by decide +kernel
theorem d_A_remember_1 : decode b_A_remember 1 = .ok (.invokestatic 43, 3) := by decide +kernel
theorem d_A_remember_4 : decode b_A_remember 4 = .ok (.istore 4, 2) := by decide +kernel
theorem d_A_remember_6 : decode b_A_remember 6 = .ok (.iconst 0, 1) := by decide +kernel
theorem d_A_remember_7 : decode b_A_remember 7 = .ok (.istore 5, 2) := by decide +kernel
theorem d_A_remember_9 : decode b_A_remember 9 = .ok (.iload 5, 2) := by decide +kernel
theorem d_A_remember_11 : decode b_A_remember 11 = .ok (.bipush 8, 2) := by decide +kernel
theorem d_A_remember_13 : decode b_A_remember 13 = .ok (.if_icmp .ge 40, 3) := by decide +kernel
theorem d_A_remember_16 : decode b_A_remember 16 = .ok (.aload_n 0, 1) := by decide +kernel
theorem d_A_remember_17 : decode b_A_remember 17 = .ok (.getfield 15, 3) := by decide +kernel
theorem d_A_remember_20 : decode b_A_remember 20 = .ok (.iload 4, 2) := by decide +kernel
theorem d_A_remember_22 : decode b_A_remember 22 = .ok (.iload 5, 2) := by decide +kernel
theorem d_A_remember_24 : decode b_A_remember 24 = .ok (.iadd, 1) := by decide +kernel
theorem d_A_remember_25 : decode b_A_remember 25 = .ok (.aload_n 2, 1) := by decide +kernel
theorem d_A_remember_26 : decode b_A_remember 26 = .ok (.iload_n 3, 1) := by decide +kernel
theorem d_A_remember_27 : decode b_A_remember 27 = .ok (.iload 5, 2) := by decide +kernel
theorem d_A_remember_29 : decode b_A_remember 29 = .ok (.invokevirtual 47, 3) := by decide +kernel
theorem d_A_remember_32 : decode b_A_remember 32 = .ok (.ifCond .eq 13, 3) := by decide +kernel
theorem d_A_remember_35 : decode b_A_remember 35 = .ok (.aload_n 2, 1) := by decide +kernel
theorem d_A_remember_36 : decode b_A_remember 36 = .ok (.getfield 53, 3) := by decide +kernel
theorem d_A_remember_39 : decode b_A_remember 39 = .ok (.iload 5, 2) := by decide +kernel
theorem d_A_remember_41 : decode b_A_remember 41 = .ok (.iaload, 1) := by decide +kernel
theorem d_A_remember_42 : decode b_A_remember 42 = .ok (.goto 4, 3) := by decide +kernel
theorem d_A_remember_45 : decode b_A_remember 45 = .ok (.iconst (-1), 1) := by decide +kernel
