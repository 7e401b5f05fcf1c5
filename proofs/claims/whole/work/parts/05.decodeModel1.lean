theorem d_M_init_0 : decode b_M_init 0 = .ok (.aload_n 0, 1) := by decide +kernel
theorem d_M_init_1 : decode b_M_init 1 = .ok (.invokespecial 1, 3) := by decide +kernel
theorem d_M_init_4 : decode b_M_init 4 = .ok (.aload_n 0, 1) := by decide +kernel
theorem d_M_init_5 : decode b_M_init 5 = .ok (.sipush 256, 3) := by decide +kernel
theorem d_M_init_8 : decode b_M_init 8 = .ok (.newarray .boolean, 2) := by decide +kernel
theorem d_M_init_10 : decode b_M_init 10 = .ok (.putfield 7, 3) := by decide +kernel
theorem d_M_init_13 : decode b_M_init 13 = .ok (.aload_n 0, 1) := by decide +kernel
theorem d_M_init_14 : decode b_M_init 14 = .ok (.bipush 8, 2) := by decide +kernel
theorem d_M_init_16 : decode b_M_init 16 = .ok (.newarray .int, 2) := by decide +kernel
theorem d_M_init_18 : decode b_M_init 18 = .ok (.putfield 13, 3) := by decide +kernel
theorem d_M_init_21 : decode b_M_init 21 = .ok (.aload_n 0, 1) := by decide +kernel
theorem d_M_init_22 : decode b_M_init 22 = .ok (.sipush 4104, 3) := by decide +kernel
theorem d_M_init_25 : decode b_M_init 25 = .ok (.newarray .int, 2) := by decide +kernel
theorem d_M_init_27 : decode b_M_init 27 = .ok (.putfield 17, 3) := by decide +kernel
theorem d_M_init_30 : decode b_M_init 30 = .ok (.aload_n 0, 1) := by decide +kernel
theorem d_M_init_31 : decode b_M_init 31 = .ok (.sipush 1539, 3) := by decide +kernel
theorem d_M_init_34 : decode b_M_init 34 = .ok (.newarray .int, 2) := by decide +kernel
theorem d_M_init_36 : decode b_M_init 36 = .ok (.putfield 20, 3) := by decide +kernel
theorem d_M_init_39 : decode b_M_init 39 = .ok (.aload_n 0, 1) := by decide +kernel
theorem d_M_init_40 : decode b_M_init 40 = .ok (.sipush 1539, 3) := by decide +kernel
theorem d_M_init_43 : decode b_M_init 43 = .ok (.newarray .int, 2) := by decide +kernel
theorem d_M_init_45 : decode b_M_init 45 = .ok (.putfield 23, 3) := by decide +kernel
theorem d_M_init_48 : decode b_M_init 48 = .ok (.aload_n 0, 1) := by decide +kernel
theorem d_M_init_49 : decode b_M_init 49 = .ok (.sipush 1539, 3) := by decide +kernel
theorem d_M_init_52 : decode b_M_init 52 = .ok (.newarray .boolean, 2) := by decide +kernel
theorem d_M_init_54 : decode b_M_init 54 = .ok (.putfield 26, 3) := by decide +kernel
theorem d_M_init_57 : decode b_M_init 57 = .ok (.aload_n 0, 1) := by decide +kernel
theorem d_M_init_58 : decode b_M_init 58 = .ok (.iconst 3, 1) := by decide +kernel
theorem d_M_init_59 : decode b_M_init 59 = .ok (.newarray .int, 2) := by decide +kernel
theorem d_M_init_61 : decode b_M_init 61 = .ok (.putfield 29, 3) := by decide +kernel
theorem d_M_init_64 : decode b_M_init 64 = .ok (.aload_n 0, 1) := by decide +kernel
theorem d_M_init_65 : decode b_M_init 65 = .ok (.iconst 3, 1) := by decide +kernel
theorem d_M_init_66 : decode b_M_init 66 = .ok (.newarray .int, 2) := by decide +kernel
theorem d_M_init_68 : decode b_M_init 68 = .ok (.putfield 32, 3) := by decide +kernel
theorem d_M_init_71 : decode b_M_init 71 = .ok (.aload_n 0, 1) := by decide +kernel
theorem d_M_init_72 : decode b_M_init 72 = .ok (.iconst 3, 1) := by decide +kernel
theorem d_M_init_73 : decode b_M_init 73 = .ok (.newarray .int, 2) := by decide +kernel
theorem d_M_init_75 : decode b_M_init 75 = .ok (.putfield 35, 3) := by decide +kernel
theorem d_M_init_78 : decode b_M_init 78 = .ok (.aload_n 0, 1) := by decide +kernel
theorem d_M_init_79 : decode b_M_init 79 = .ok (.bipush 120, 2) := by decide +kernel
theorem d_M_init_81 : decode b_M_init 81 = .ok (.newarray .int, 2) := by decide +kernel
theorem d_M_init_83 : decode b_M_init 83 = .ok (.putfield 38, 3) := by decide +kernel
theorem d_M_init_86 : decode b_M_init 86 = .ok (.iconst 0, 1) := by decide +kernel
theorem d_M_init_87 : decode b_M_init 87 = .ok (.istore_n 1, 1) := by decide +kernel
theorem d_M_init_88 : decode b_M_init 88 = .ok (.iload_n 1, 1) := by decide +kernel
theorem d_M_init_89 : decode b_M_init 89 = .ok (.bipush 8, 2) := by decide +kernel
theorem d_M_init_91 : decode b_M_init 91 = .ok (.if_icmp .ge 18, 3) := by decide +kernel
theorem d_M_init_94 : decode b_M_init 94 = .ok (.aload_n 0, 1) := by decide +kernel
theorem d_M_init_95 : decode b_M_init 95 = .ok (.getfield 17, 3) := by decide +kernel
theorem d_M_init_98 : decode b_M_init 98 = .ok (.iload_n 1, 1) := by decide +kernel
theorem d_M_init_99 : decode b_M_init 99 = .ok (.iconst 2, 1) := by decide +kernel
theorem d_M_init_100 : decode b_M_init 100 = .ok (.iload_n 1, 1) := by decide +kernel
theorem d_M_init_101 : decode b_M_init 101 = .ok (.imul, 1) := by decide +kernel
theorem d_M_init_102 : decode b_M_init 102 = .ok (.iastore, 1) := by decide +kernel
theorem d_M_init_103 : decode b_M_init 103 = .ok (.iinc 1 1, 3) := by decide +kernel
theorem d_M_init_106 : decode b_M_init 106 = .ok (.goto (-18), 3) := by decide +kernel
theorem d_M_init_109 : decode b_M_init 109 = .ok (.return_, 1) := by decide +kernel
theorem d_M_square_0 : decode b_M_square 0 = .ok (.iload_n 0, 1) := by decide +kernel
theorem d_M_square_1 : decode b_M_square 1 = .ok (.ifCond .lt 23, 3) := by decide +kernel
theorem d_M_square_4 : decode b_M_square 4 = .ok (.iload_n 0, 1) := by decide +kernel
theorem d_M_square_5 : decode b_M_square 5 = .ok (.bipush 16, 2) := by decide +kernel
theorem d_M_square_7 : decode b_M_square 7 = .ok (.if_icmp .ge 17, 3) := by decide +kernel
theorem d_M_square_10 : decode b_M_square 10 = .ok (.iload_n 1, 1) := by decide +kernel
theorem d_M_square_11 : decode b_M_square 11 = .ok (.ifCond .lt 13, 3) := by decide +kernel
theorem d_M_square_14 : decode b_M_square 14 = .ok (.iload_n 1, 1) := by decide +kernel
theorem d_M_square_15 : decode b_M_square 15 = .ok (.bipush 16, 2) := by decide +kernel
theorem d_M_square_17 : decode b_M_square 17 = .ok (.if_icmp .ge 7, 3) := by decide +kernel
theorem d_M_square_20 : decode b_M_square 20 = .ok (.iconst 1, 1) := by decide +kernel
theorem d_M_square_21 : decode b_M_square 21 = .ok (.goto 4, 3) := by decide +kernel
theorem d_M_square_24 : decode b_M_square 24 = .ok (.iconst 0, 1) := by decide +kernel
theorem d_M_square_25 : decode b_M_square 25 = .ok (.ireturn, 1) := by decide +kernel
theorem d_M_client_0 : decode b_M_client 0 = .ok (.iload_n 0, 1) := by decide +kernel
theorem d_M_client_1 : decode b_M_client 1 = .ok (.ifCond .lt 12, 3) := by decide +kernel
theorem d_M_client_4 : decode b_M_client 4 = .ok (.iload_n 0, 1) := by decide +kernel
theorem d_M_client_5 : decode b_M_client 5 = .ok (.iconst 3, 1) := by decide +kernel
theorem d_M_client_6 : decode b_M_client 6 = .ok (.if_icmp .ge 7, 3) := by decide +kernel
theorem d_M_client_9 : decode b_M_client 9 = .ok (.iconst 1, 1) := by decide +kernel
theorem d_M_client_10 : decode b_M_client 10 = .ok (.goto 4, 3) := by decide +kernel
theorem d_M_client_13 : decode b_M_client 13 = .ok (.iconst 0, 1) := by decide +kernel
theorem d_M_client_14 : decode b_M_client 14 = .ok (.ireturn, 1) := by decide +kernel
theorem d_M_entity_0 : decode b_M_entity 0 = .ok (.iload_n 0, 1) := by decide +kernel
theorem d_M_entity_1 : decode b_M_entity 1 = .ok (.ifCond .lt 13, 3) := by decide +kernel
theorem d_M_entity_4 : decode b_M_entity 4 = .ok (.iload_n 0, 1) := by decide +kernel
theorem d_M_entity_5 : decode b_M_entity 5 = .ok (.bipush 8, 2) := by decide +kernel
theorem d_M_entity_7 : decode b_M_entity 7 = .ok (.if_icmp .ge 7, 3) := by decide +kernel
theorem d_M_entity_10 : decode b_M_entity 10 = .ok (.iconst 1, 1) := by decide +kernel
theorem d_M_entity_11 : decode b_M_entity 11 = .ok (.goto 4, 3) := by decide +kernel
theorem d_M_entity_14 : decode b_M_entity 14 = .ok (.iconst 0, 1) := by decide +kernel
theorem d_M_entity_15 : decode b_M_entity 15 = .ok (.ireturn, 1) := by decide +kernel
theorem d_M_stepFrom_0 : decode b_M_stepFrom 0 = .ok (.iload_n 1, 1) := by decide +kernel
theorem d_M_stepFrom_1 : decode b_M_stepFrom 1 = .ok (.bipush 16, 2) := by decide +kernel
theorem d_M_stepFrom_3 : decode b_M_stepFrom 3 = .ok (.irem, 1) := by decide +kernel
theorem d_M_stepFrom_4 : decode b_M_stepFrom 4 = .ok (.iload_n 2, 1) := by decide +kernel
theorem d_M_stepFrom_5 : decode b_M_stepFrom 5 = .ok (.ifCond .ne 7, 3) := by decide +kernel
theorem d_M_stepFrom_8 : decode b_M_stepFrom 8 = .ok (.iconst 1, 1) := by decide +kernel
theorem d_M_stepFrom_9 : decode b_M_stepFrom 9 = .ok (.goto 13, 3) := by decide +kernel
theorem d_M_stepFrom_12 : decode b_M_stepFrom 12 = .ok (.iload_n 2, 1) := by decide +kernel
theorem d_M_stepFrom_13 : decode b_M_stepFrom 13 = .ok (.iconst 2, 1) := by decide +kernel
theorem d_M_stepFrom_14 : decode b_M_stepFrom 14 = .ok (.if_icmp .ne 7, 3) := by decide +kernel
theorem d_M_stepFrom_17 : decode b_M_stepFrom 17 = .ok (.iconst (-1), 1) := by decide +kernel
theorem d_M_stepFrom_18 : decode b_M_stepFrom 18 = .ok (.goto 4, 3) := by decide +kernel
theorem d_M_stepFrom_21 : decode b_M_stepFrom 21 = .ok (.iconst 0, 1) := by decide +kernel
theorem d_M_stepFrom_22 : decode b_M_stepFrom 22 = .ok (.iadd, 1) := by decide +kernel
theorem d_M_stepFrom_23 : decode b_M_stepFrom 23 = .ok (.istore_n 3, 1) := by decide +kernel
theorem d_M_stepFrom_24 : decode b_M_stepFrom 24 = .ok (.iload_n 1, 1) := by decide +kernel
theorem d_M_stepFrom_25 : decode b_M_stepFrom 25 = .ok (.bipush 16, 2) := by decide +kernel
theorem d_M_stepFrom_27 : decode b_M_stepFrom 27 = .ok (.idiv, 1) := by decide +kernel
theorem d_M_stepFrom_28 : decode b_M_stepFrom 28 = .ok (.iload_n 2, 1) := by decide +kernel
theorem d_M_stepFrom_29 : decode b_M_stepFrom 29 = .ok (.iconst 1, 1) := by decide +kernel
theorem d_M_stepFrom_30 : decode b_M_stepFrom 30 = .ok (.if_icmp .ne 7, 3) := by decide +kernel
theorem d_M_stepFrom_33 : decode b_M_stepFrom 33 = .ok (.iconst 1, 1) := by decide +kernel
theorem d_M_stepFrom_34 : decode b_M_stepFrom 34 = .ok (.goto 13, 3) := by decide +kernel
theorem d_M_stepFrom_37 : decode b_M_stepFrom 37 = .ok (.iload_n 2, 1) := by decide +kernel
theorem d_M_stepFrom_38 : decode b_M_stepFrom 38 = .ok (.iconst 3, 1) := by decide +kernel
theorem d_M_stepFrom_39 : decode b_M_stepFrom 39 = .ok (.if_icmp .ne 7, 3) := by decide +kernel
theorem d_M_stepFrom_42 : decode b_M_stepFrom 42 = .ok (.iconst (-1), 1) := by decide +kernel
theorem d_M_stepFrom_43 : decode b_M_stepFrom 43 = .ok (.goto 4, 3) := by decide +kernel
theorem d_M_stepFrom_46 : decode b_M_stepFrom 46 = .ok (.iconst 0, 1) := by decide +kernel
theorem d_M_stepFrom_47 : decode b_M_stepFrom 47 = .ok (.iadd, 1) := by decide +kernel
theorem d_M_stepFrom_48 : decode b_M_stepFrom 48 = .ok (.istore 4, 2) := by decide +kernel
theorem d_M_stepFrom_50 : decode b_M_stepFrom 50 = .ok (.iload_n 3, 1) := by decide +kernel
theorem d_M_stepFrom_51 : decode b_M_stepFrom 51 = .ok (.iload 4, 2) := by decide +kernel
theorem d_M_stepFrom_53 : decode b_M_stepFrom 53 = .ok (.invokestatic 41, 3) := by decide +kernel
theorem d_M_stepFrom_56 : decode b_M_stepFrom 56 = .ok (.ifCond .eq 28, 3) := by decide +kernel
theorem d_M_stepFrom_59 : decode b_M_stepFrom 59 = .ok (.aload_n 0, 1) := by decide +kernel
theorem d_M_stepFrom_60 : decode b_M_stepFrom 60 = .ok (.getfield 7, 3) := by decide +kernel
theorem d_M_stepFrom_63 : decode b_M_stepFrom 63 = .ok (.iload_n 3, 1) := by decide +kernel
theorem d_M_stepFrom_64 : decode b_M_stepFrom 64 = .ok (.bipush 16, 2) := by decide +kernel
theorem d_M_stepFrom_66 : decode b_M_stepFrom 66 = .ok (.iload 4, 2) := by decide +kernel
theorem d_M_stepFrom_68 : decode b_M_stepFrom 68 = .ok (.imul, 1) := by decide +kernel
theorem d_M_stepFrom_69 : decode b_M_stepFrom 69 = .ok (.iadd, 1) := by decide +kernel
theorem d_M_stepFrom_70 : decode b_M_stepFrom 70 = .ok (.baload, 1) := by decide +kernel
theorem d_M_stepFrom_71 : decode b_M_stepFrom 71 = .ok (.ifCond .ne 13, 3) := by decide +kernel
theorem d_M_stepFrom_74 : decode b_M_stepFrom 74 = .ok (.iload_n 3, 1) := by decide +kernel
theorem d_M_stepFrom_75 : decode b_M_stepFrom 75 = .ok (.bipush 16, 2) := by decide +kernel
theorem d_M_stepFrom_77 : decode b_M_stepFrom 77 = .ok (.iload 4, 2) := by decide +kernel
theorem d_M_stepFrom_79 : decode b_M_stepFrom 79 = .ok (.imul, 1) := by decide +kernel
theorem d_M_stepFrom_80 : decode b_M_stepFrom 80 = .ok (.iadd, 1) := by decide +kernel
theorem d_M_stepFrom_81 : decode b_M_stepFrom 81 = .ok (.goto 4, 3) := by decide +kernel
theorem d_M_stepFrom_84 : decode b_M_stepFrom 84 = .ok (.iload_n 1, 1) := by decide +kernel
theorem d_M_stepFrom_85 : decode b_M_stepFrom 85 = .ok (.ireturn, 1) := by decide +kernel
theorem d_M_wall_0 : decode b_M_wall 0 = .ok (.iload_n 1, 1) := by decide +kernel
theorem d_M_wall_1 : decode b_M_wall 1 = .ok (.iload_n 2, 1) := by decide +kernel
theorem d_M_wall_2 : decode b_M_wall 2 = .ok (.invokestatic 41, 3) := by decide +kernel
theorem d_M_wall_5 : decode b_M_wall 5 = .ok (.ifCond .eq 10, 3) := by decide +kernel
theorem d_M_wall_8 : decode b_M_wall 8 = .ok (.aload_n 0, 1) := by decide +kernel
theorem d_M_wall_9 : decode b_M_wall 9 = .ok (.getfield 45, 3) := by decide +kernel
theorem d_M_wall_12 : decode b_M_wall 12 = .ok (.ifCond .eq 5, 3) := by decide +kernel
theorem d_M_wall_15 : decode b_M_wall 15 = .ok (.iconst 0, 1) := by decide +kernel
theorem d_M_wall_16 : decode b_M_wall 16 = .ok (.ireturn, 1) := by decide +kernel
theorem d_M_wall_17 : decode b_M_wall 17 = .ok (.iconst 0, 1) := by decide +kernel
theorem d_M_wall_18 : decode b_M_wall 18 = .ok (.istore_n 3, 1) := by decide +kernel
theorem d_M_wall_19 : decode b_M_wall 19 = .ok (.iload_n 3, 1) := by decide +kernel
theorem d_M_wall_20 : decode b_M_wall 20 = .ok (.bipush 8, 2) := by decide +kernel
theorem d_M_wall_22 : decode b_M_wall 22 = .ok (.if_icmp .ge 26, 3) := by decide +kernel
theorem d_M_wall_25 : decode b_M_wall 25 = .ok (.aload_n 0, 1) := by decide +kernel
theorem d_M_wall_26 : decode b_M_wall 26 = .ok (.getfield 17, 3) := by decide +kernel
theorem d_M_wall_29 : decode b_M_wall 29 = .ok (.iload_n 3, 1) := by decide +kernel
theorem d_M_wall_30 : decode b_M_wall 30 = .ok (.iaload, 1) := by decide +kernel
theorem d_M_wall_31 : decode b_M_wall 31 = .ok (.iload_n 1, 1) := by decide +kernel
theorem d_M_wall_32 : decode b_M_wall 32 = .ok (.bipush 16, 2) := by decide +kernel
theorem d_M_wall_34 : decode b_M_wall 34 = .ok (.iload_n 2, 1) := by decide +kernel
theorem d_M_wall_35 : decode b_M_wall 35 = .ok (.imul, 1) := by decide +kernel
theorem d_M_wall_36 : decode b_M_wall 36 = .ok (.iadd, 1) := by decide +kernel
theorem d_M_wall_37 : decode b_M_wall 37 = .ok (.if_icmp .ne 5, 3) := by decide +kernel
theorem d_M_wall_40 : decode b_M_wall 40 = .ok (.iconst 0, 1) := by decide +kernel
theorem d_M_wall_41 : decode b_M_wall 41 = .ok (.ireturn, 1) := by decide +kernel
theorem d_M_wall_42 : decode b_M_wall 42 = .ok (.iinc 3 1, 3) := by decide +kernel
theorem d_M_wall_45 : decode b_M_wall 45 = .ok (.goto (-26), 3) := by decide +kernel
theorem d_M_wall_48 : decode b_M_wall 48 = .ok (.aload_n 0, 1) := by decide +kernel
theorem d_M_wall_49 : decode b_M_wall 49 = .ok (.getfield 7, 3) := by decide +kernel
theorem d_M_wall_52 : decode b_M_wall 52 = .ok (.iload_n 1, 1) := by decide +kernel
theorem d_M_wall_53 : decode b_M_wall 53 = .ok (.bipush 16, 2) := by decide +kernel
theorem d_M_wall_55 : decode b_M_wall 55 = .ok (.iload_n 2, 1) := by decide +kernel
theorem d_M_wall_56 : decode b_M_wall 56 = .ok (.imul, 1) := by decide +kernel
theorem d_M_wall_57 : decode b_M_wall 57 = .ok (.iadd, 1) := by decide +kernel
theorem d_M_wall_58 : decode b_M_wall 58 = .ok (.iconst 1, 1) := by decide +kernel
theorem d_M_wall_59 : decode b_M_wall 59 = .ok (.bastore, 1) := by decide +kernel
theorem d_M_wall_60 : decode b_M_wall 60 = .ok (.iconst 1, 1) := by decide +kernel
theorem d_M_wall_61 : decode b_M_wall 61 = .ok (.ireturn, 1) := by decide +kernel
theorem d_M_place_0 : decode b_M_place 0 = .ok (.iload_n 1, 1) := by decide +kernel
theorem d_M_place_1 : decode b_M_place 1 = .ok (.invokestatic 49, 3) := by decide +kernel
theorem d_M_place_4 : decode b_M_place 4 = .ok (.ifCond .eq 48, 3) := by decide +kernel
theorem d_M_place_7 : decode b_M_place 7 = .ok (.iload_n 2, 1) := by decide +kernel
theorem d_M_place_8 : decode b_M_place 8 = .ok (.iload_n 3, 1) := by decide +kernel
theorem d_M_place_9 : decode b_M_place 9 = .ok (.invokestatic 41, 3) := by decide +kernel
theorem d_M_place_12 : decode b_M_place 12 = .ok (.ifCond .eq 40, 3) := by decide +kernel
theorem d_M_place_15 : decode b_M_place 15 = .ok (.aload_n 0, 1) := by decide +kernel
theorem d_M_place_16 : decode b_M_place 16 = .ok (.getfield 7, 3) := by decide +kernel
theorem d_M_place_19 : decode b_M_place 19 = .ok (.iload_n 2, 1) := by decide +kernel
theorem d_M_place_20 : decode b_M_place 20 = .ok (.bipush 16, 2) := by decide +kernel
theorem d_M_place_22 : decode b_M_place 22 = .ok (.iload_n 3, 1) := by decide +kernel
theorem d_M_place_23 : decode b_M_place 23 = .ok (.imul, 1) := by decide +kernel
theorem d_M_place_24 : decode b_M_place 24 = .ok (.iadd, 1) := by decide +kernel
theorem d_M_place_25 : decode b_M_place 25 = .ok (.baload, 1) := by decide +kernel
theorem d_M_place_26 : decode b_M_place 26 = .ok (.ifCond .ne 26, 3) := by decide +kernel
theorem d_M_place_29 : decode b_M_place 29 = .ok (.iload_n 1, 1) := by decide +kernel
theorem d_M_place_30 : decode b_M_place 30 = .ok (.iconst 2, 1) := by decide +kernel
theorem d_M_place_31 : decode b_M_place 31 = .ok (.if_icmp .le 14, 3) := by decide +kernel
theorem d_M_place_34 : decode b_M_place 34 = .ok (.iload 4, 2) := by decide +kernel
theorem d_M_place_36 : decode b_M_place 36 = .ok (.ifCond .lt 16, 3) := by decide +kernel
theorem d_M_place_39 : decode b_M_place 39 = .ok (.iload 4, 2) := by decide +kernel
theorem d_M_place_41 : decode b_M_place 41 = .ok (.iconst 3, 1) := by decide +kernel
theorem d_M_place_42 : decode b_M_place 42 = .ok (.if_icmp .gt 10, 3) := by decide +kernel
theorem d_M_place_45 : decode b_M_place 45 = .ok (.aload_n 0, 1) := by decide +kernel
theorem d_M_place_46 : decode b_M_place 46 = .ok (.getfield 45, 3) := by decide +kernel
theorem d_M_place_49 : decode b_M_place 49 = .ok (.ifCond .eq 5, 3) := by decide +kernel
theorem d_M_place_52 : decode b_M_place 52 = .ok (.iconst 0, 1) := by decide +kernel
theorem d_M_place_53 : decode b_M_place 53 = .ok (.ireturn, 1) := by decide +kernel
theorem d_M_place_54 : decode b_M_place 54 = .ok (.aload_n 0, 1) := by decide +kernel
theorem d_M_place_55 : decode b_M_place 55 = .ok (.getfield 17, 3) := by decide +kernel
theorem d_M_place_58 : decode b_M_place 58 = .ok (.iload_n 1, 1) := by decide +kernel
theorem d_M_place_59 : decode b_M_place 59 = .ok (.iload_n 2, 1) := by decide +kernel
theorem d_M_place_60 : decode b_M_place 60 = .ok (.bipush 16, 2) := by decide +kernel
theorem d_M_place_62 : decode b_M_place 62 = .ok (.iload_n 3, 1) := by decide +kernel
theorem d_M_place_63 : decode b_M_place 63 = .ok (.imul, 1) := by decide +kernel
theorem d_M_place_64 : decode b_M_place 64 = .ok (.iadd, 1) := by decide +kernel
theorem d_M_place_65 : decode b_M_place 65 = .ok (.iastore, 1) := by decide +kernel
theorem d_M_place_66 : decode b_M_place 66 = .ok (.aload_n 0, 1) := by decide +kernel
theorem d_M_place_67 : decode b_M_place 67 = .ok (.getfield 13, 3) := by decide +kernel
theorem d_M_place_70 : decode b_M_place 70 = .ok (.iload_n 1, 1) := by decide +kernel
theorem d_M_place_71 : decode b_M_place 71 = .ok (.iload_n 1, 1) := by decide +kernel
theorem d_M_place_72 : decode b_M_place 72 = .ok (.iconst 2, 1) := by decide +kernel
theorem d_M_place_73 : decode b_M_place 73 = .ok (.if_icmp .le 8, 3) := by decide +kernel
theorem d_M_place_76 : decode b_M_place 76 = .ok (.iload 4, 2) := by decide +kernel
theorem d_M_place_78 : decode b_M_place 78 = .ok (.goto 4, 3) := by decide +kernel
theorem d_M_place_81 : decode b_M_place 81 = .ok (.iconst 0, 1) := by decide +kernel
theorem d_M_place_82 : decode b_M_place 82 = .ok (.iastore, 1) := by decide +kernel
theorem d_M_place_83 : decode b_M_place 83 = .ok (.iconst 1, 1) := by decide +kernel
theorem d_M_place_84 : decode b_M_place 84 = .ok (.ireturn, 1) := by decide +kernel
theorem d_M_seen_0 : decode b_M_seen 0 = .ok (.aload_n 0, 1) := by decide +kernel
theorem d_M_seen_1 : decode b_M_seen 1 = .ok (.getfield 20, 3) := by decide +kernel
theorem d_M_seen_4 : decode b_M_seen 4 = .ok (.iconst 3, 1) := by decide +kernel
theorem d_M_seen_5 : decode b_M_seen 5 = .ok (.aload_n 0, 1) := by decide +kernel
theorem d_M_seen_6 : decode b_M_seen 6 = .ok (.getfield 35, 3) := by decide +kernel
theorem d_M_seen_9 : decode b_M_seen 9 = .ok (.iload_n 1, 1) := by decide +kernel
theorem d_M_seen_10 : decode b_M_seen 10 = .ok (.iaload, 1) := by decide +kernel
theorem d_M_seen_11 : decode b_M_seen 11 = .ok (.imul, 1) := by decide +kernel
theorem d_M_seen_12 : decode b_M_seen 12 = .ok (.iload_n 1, 1) := by decide +kernel
theorem d_M_seen_13 : decode b_M_seen 13 = .ok (.iadd, 1) := by decide +kernel
theorem d_M_seen_14 : decode b_M_seen 14 = .ok (.iaload, 1) := by decide +kernel
theorem d_M_seen_15 : decode b_M_seen 15 = .ok (.ireturn, 1) := by decide +kernel
theorem d_M_input_0 : decode b_M_input 0 = .ok (.iload_n 1, 1) := by decide +kernel
theorem d_M_input_1 : decode b_M_input 1 = .ok (.invokestatic 53, 3) := by decide +kernel
theorem d_M_input_4 : decode b_M_input 4 = .ok (.ifCond .eq 29, 3) := by decide +kernel
theorem d_M_input_7 : decode b_M_input 7 = .ok (.iload_n 2, 1) := by decide +kernel
theorem d_M_input_8 : decode b_M_input 8 = .ok (.ifCond .lt 25, 3) := by decide +kernel
theorem d_M_input_11 : decode b_M_input 11 = .ok (.iload_n 2, 1) := by decide +kernel
theorem d_M_input_12 : decode b_M_input 12 = .ok (.iconst 4, 1) := by decide +kernel
theorem d_M_input_13 : decode b_M_input 13 = .ok (.if_icmp .gt 20, 3) := by decide +kernel
theorem d_M_input_16 : decode b_M_input 16 = .ok (.aload_n 0, 1) := by decide +kernel
theorem d_M_input_17 : decode b_M_input 17 = .ok (.getfield 29, 3) := by decide +kernel
theorem d_M_input_20 : decode b_M_input 20 = .ok (.iload_n 1, 1) := by decide +kernel
theorem d_M_input_21 : decode b_M_input 21 = .ok (.iaload, 1) := by decide +kernel
theorem d_M_input_22 : decode b_M_input 22 = .ok (.aload_n 0, 1) := by decide +kernel
theorem d_M_input_23 : decode b_M_input 23 = .ok (.iload_n 1, 1) := by decide +kernel
theorem d_M_input_24 : decode b_M_input 24 = .ok (.invokevirtual 56, 3) := by decide +kernel
theorem d_M_input_27 : decode b_M_input 27 = .ok (.isub, 1) := by decide +kernel
theorem d_M_input_28 : decode b_M_input 28 = .ok (.bipush 12, 2) := by decide +kernel
theorem d_M_input_30 : decode b_M_input 30 = .ok (.if_icmp .ne 5, 3) := by decide +kernel
theorem d_M_input_33 : decode b_M_input 33 = .ok (.iconst (-1), 1) := by decide +kernel
theorem d_M_input_34 : decode b_M_input 34 = .ok (.ireturn, 1) := by decide +kernel
theorem d_M_input_35 : decode b_M_input 35 = .ok (.aload_n 0, 1) := by decide +kernel
theorem d_M_input_36 : decode b_M_input 36 = .ok (.getfield 29, 3) := by decide +kernel
theorem d_M_input_39 : decode b_M_input 39 = .ok (.iload_n 1, 1) := by decide +kernel
theorem d_M_input_40 : decode b_M_input 40 = .ok (.dup2, 1) := by decide +kernel
theorem d_M_input_41 : decode b_M_input 41 = .ok (.iaload, 1) := by decide +kernel
theorem d_M_input_42 : decode b_M_input 42 = .ok (.iconst 1, 1) := by decide +kernel
theorem d_M_input_43 : decode b_M_input 43 = .ok (.iadd, 1) := by decide +kernel
theorem d_M_input_44 : decode b_M_input 44 = .ok (.iastore, 1) := by decide +kernel
theorem d_M_input_45 : decode b_M_input 45 = .ok (.aload_n 0, 1) := by decide +kernel
theorem d_M_input_46 : decode b_M_input 46 = .ok (.getfield 23, 3) := by decide +kernel
theorem d_M_input_49 : decode b_M_input 49 = .ok (.sipush 513, 3) := by decide +kernel
theorem d_M_input_52 : decode b_M_input 52 = .ok (.iload_n 1, 1) := by decide +kernel
theorem d_M_input_53 : decode b_M_input 53 = .ok (.imul, 1) := by decide +kernel
theorem d_M_input_54 : decode b_M_input 54 = .ok (.aload_n 0, 1) := by decide +kernel
theorem d_M_input_55 : decode b_M_input 55 = .ok (.getfield 29, 3) := by decide +kernel
theorem d_M_input_58 : decode b_M_input 58 = .ok (.iload_n 1, 1) := by decide +kernel
theorem d_M_input_59 : decode b_M_input 59 = .ok (.iaload, 1) := by decide +kernel
theorem d_M_input_60 : decode b_M_input 60 = .ok (.iadd, 1) := by decide +kernel
theorem d_M_input_61 : decode b_M_input 61 = .ok (.iload_n 2, 1) := by decide +kernel
theorem d_M_input_62 : decode b_M_input 62 = .ok (.iastore, 1) := by decide +kernel
theorem d_M_input_63 : decode b_M_input 63 = .ok (.aload_n 0, 1) := by decide +kernel
theorem d_M_input_64 : decode b_M_input 64 = .ok (.getfield 29, 3) := by decide +kernel
theorem d_M_input_67 : decode b_M_input 67 = .ok (.iload_n 1, 1) := by decide +kernel
theorem d_M_input_68 : decode b_M_input 68 = .ok (.iaload, 1) := by decide +kernel
theorem d_M_input_69 : decode b_M_input 69 = .ok (.ireturn, 1) := by decide +kernel
theorem d_M_send_0 : decode b_M_send 0 = .ok (.aload_n 0, 1) := by decide +kernel
theorem d_M_send_1 : decode b_M_send 1 = .ok (.getfield 60, 3) := by decide +kernel
theorem d_M_send_4 : decode b_M_send 4 = .ok (.bipush 24, 2) := by decide +kernel
theorem d_M_send_6 : decode b_M_send 6 = .ok (.if_icmp .ne 4, 3) := by decide +kernel
theorem d_M_send_9 : decode b_M_send 9 = .ok (.return_, 1) := by decide +kernel
theorem d_M_send_10 : decode b_M_send 10 = .ok (.iconst 5, 1) := by decide +kernel
theorem d_M_send_11 : decode b_M_send 11 = .ok (.aload_n 0, 1) := by decide +kernel
theorem d_M_send_12 : decode b_M_send 12 = .ok (.getfield 60, 3) := by decide +kernel
theorem d_M_send_15 : decode b_M_send 15 = .ok (.imul, 1) := by decide +kernel
theorem d_M_send_16 : decode b_M_send 16 = .ok (.istore 6, 2) := by decide +kernel
theorem d_M_send_18 : decode b_M_send 18 = .ok (.aload_n 0, 1) := by decide +kernel
theorem d_M_send_19 : decode b_M_send 19 = .ok (.getfield 38, 3) := by decide +kernel
theorem d_M_send_22 : decode b_M_send 22 = .ok (.iload 6, 2) := by decide +kernel
theorem d_M_send_24 : decode b_M_send 24 = .ok (.iload_n 1, 1) := by decide +kernel
theorem d_M_send_25 : decode b_M_send 25 = .ok (.iastore, 1) := by decide +kernel
theorem d_M_send_26 : decode b_M_send 26 = .ok (.aload_n 0, 1) := by decide +kernel
theorem d_M_send_27 : decode b_M_send 27 = .ok (.getfield 38, 3) := by decide +kernel
theorem d_M_send_30 : decode b_M_send 30 = .ok (.iload 6, 2) := by decide +kernel
theorem d_M_send_32 : decode b_M_send 32 = .ok (.iconst 1, 1) := by decide +kernel
theorem d_M_send_33 : decode b_M_send 33 = .ok (.iadd, 1) := by decide +kernel
theorem d_M_send_34 : decode b_M_send 34 = .ok (.iload_n 2, 1) := by decide +kernel
theorem d_M_send_35 : decode b_M_send 35 = .ok (.iastore, 1) := by decide +kernel
theorem d_M_send_36 : decode b_M_send 36 = .ok (.aload_n 0, 1) := by decide +kernel
theorem d_M_send_37 : decode b_M_send 37 = .ok (.getfield 38, 3) := by decide +kernel
theorem d_M_send_40 : decode b_M_send 40 = .ok (.iload 6, 2) := by decide +kernel
theorem d_M_send_42 : decode b_M_send 42 = .ok (.iconst 2, 1) := by decide +kernel
theorem d_M_send_43 : decode b_M_send 43 = .ok (.iadd, 1) := by decide +kernel
theorem d_M_send_44 : decode b_M_send 44 = .ok (.iload_n 3, 1) := by decide +kernel
theorem d_M_send_45 : decode b_M_send 45 = .ok (.iastore, 1) := by decide +kernel
theorem d_M_send_46 : decode b_M_send 46 = .ok (.aload_n 0, 1) := by decide +kernel
theorem d_M_send_47 : decode b_M_send 47 = .ok (.getfield 38, 3) := by decide +kernel
theorem d_M_send_50 : decode b_M_send 50 = .ok (.iload 6, 2) := by decide +kernel
theorem d_M_send_52 : decode b_M_send 52 = .ok (.iconst 3, 1) := by decide +kernel
theorem d_M_send_53 : decode b_M_send 53 = .ok (.iadd, 1) := by decide +kernel
theorem d_M_send_54 : decode b_M_send 54 = .ok (.iload 4, 2) := by decide +kernel
theorem d_M_send_56 : decode b_M_send 56 = .ok (.iastore, 1) := by decide +kernel
theorem d_M_send_57 : decode b_M_send 57 = .ok (.aload_n 0, 1) := by decide +kernel
theorem d_M_send_58 : decode b_M_send 58 = .ok (.getfield 38, 3) := by decide +kernel
theorem d_M_send_61 : decode b_M_send 61 = .ok (.iload 6, 2) := by decide +kernel
theorem d_M_send_63 : decode b_M_send 63 = .ok (.iconst 4, 1) := by decide +kernel
theorem d_M_send_64 : decode b_M_send 64 = .ok (.iadd, 1) := by decide +kernel
theorem d_M_send_65 : decode b_M_send 65 = .ok (.iload 5, 2) := by decide +kernel
theorem d_M_send_67 : decode b_M_send 67 = .ok (.iastore, 1) := by decide +kernel
theorem d_M_send_68 : decode b_M_send 68 = .ok (.aload_n 0, 1) := by decide +kernel
theorem d_M_send_69 : decode b_M_send 69 = .ok (.dup, 1) := by decide +kernel
theorem d_M_send_70 : decode b_M_send 70 = .ok (.getfield 60, 3) := by decide +kernel
theorem d_M_send_73 : decode b_M_send 73 = .ok (.iconst 1, 1) := by decide +kernel
theorem d_M_send_74 : decode b_M_send 74 = .ok (.iadd, 1) := by decide +kernel
theorem d_M_send_75 : decode b_M_send 75 = .ok (.putfield 60, 3) := by decide +kernel
theorem d_M_send_78 : decode b_M_send 78 = .ok (.return_, 1) := by decide +kernel
theorem d_M_report_0 : decode b_M_report 0 = .ok (.iload_n 1, 1) := by decide +kernel
theorem d_M_report_1 : decode b_M_report 1 = .ok (.invokestatic 53, 3) := by decide +kernel
theorem d_M_report_4 : decode b_M_report 4 = .ok (.ifCond .ne 5, 3) := by decide +kernel
theorem d_M_report_7 : decode b_M_report 7 = .ok (.iconst 0, 1) := by decide +kernel
theorem d_M_report_8 : decode b_M_report 8 = .ok (.ireturn, 1) := by decide +kernel
theorem d_M_report_9 : decode b_M_report 9 = .ok (.aload_n 0, 1) := by decide +kernel
theorem d_M_report_10 : decode b_M_report 10 = .ok (.iload_n 1, 1) := by decide +kernel
theorem d_M_report_11 : decode b_M_report 11 = .ok (.invokevirtual 56, 3) := by decide +kernel
theorem d_M_report_14 : decode b_M_report 14 = .ok (.istore_n 2, 1) := by decide +kernel
theorem d_M_report_15 : decode b_M_report 15 = .ok (.aload_n 0, 1) := by decide +kernel
theorem d_M_report_16 : decode b_M_report 16 = .ok (.getfield 29, 3) := by decide +kernel
theorem d_M_report_19 : decode b_M_report 19 = .ok (.iload_n 1, 1) := by decide +kernel
theorem d_M_report_20 : decode b_M_report 20 = .ok (.iaload, 1) := by decide +kernel
theorem d_M_report_21 : decode b_M_report 21 = .ok (.iload_n 2, 1) := by decide +kernel
theorem d_M_report_22 : decode b_M_report 22 = .ok (.isub, 1) := by decide +kernel
theorem d_M_report_23 : decode b_M_report 23 = .ok (.iconst 4, 1) := by decide +kernel
theorem d_M_report_24 : decode b_M_report 24 = .ok (.if_icmp .le 7, 3) := by decide +kernel
theorem d_M_report_27 : decode b_M_report 27 = .ok (.iconst 4, 1) := by decide +kernel
theorem d_M_report_28 : decode b_M_report 28 = .ok (.goto 11, 3) := by decide +kernel
theorem d_M_report_31 : decode b_M_report 31 = .ok (.aload_n 0, 1) := by decide +kernel
theorem d_M_report_32 : decode b_M_report 32 = .ok (.getfield 29, 3) := by decide +kernel
theorem d_M_report_35 : decode b_M_report 35 = .ok (.iload_n 1, 1) := by decide +kernel
theorem d_M_report_36 : decode b_M_report 36 = .ok (.iaload, 1) := by decide +kernel
theorem d_M_report_37 : decode b_M_report 37 = .ok (.iload_n 2, 1) := by decide +kernel
theorem d_M_report_38 : decode b_M_report 38 = .ok (.isub, 1) := by decide +kernel
theorem d_M_report_39 : decode b_M_report 39 = .ok (.istore_n 3, 1) := by decide +kernel
theorem d_M_report_40 : decode b_M_report 40 = .ok (.aload_n 0, 1) := by decide +kernel
theorem d_M_report_41 : decode b_M_report 41 = .ok (.iload_n 1, 1) := by decide +kernel
theorem d_M_report_42 : decode b_M_report 42 = .ok (.iconst 0, 1) := by decide +kernel
theorem d_M_report_43 : decode b_M_report 43 = .ok (.aload_n 0, 1) := by decide +kernel
theorem d_M_report_44 : decode b_M_report 44 = .ok (.getfield 35, 3) := by decide +kernel
theorem d_M_report_47 : decode b_M_report 47 = .ok (.iload_n 1, 1) := by decide +kernel
theorem d_M_report_48 : decode b_M_report 48 = .ok (.iaload, 1) := by decide +kernel
theorem d_M_report_49 : decode b_M_report 49 = .ok (.iload_n 3, 1) := by decide +kernel
theorem d_M_report_50 : decode b_M_report 50 = .ok (.iload_n 2, 1) := by decide +kernel
theorem d_M_report_51 : decode b_M_report 51 = .ok (.invokevirtual 63, 3) := by decide +kernel
theorem d_M_report_54 : decode b_M_report 54 = .ok (.iconst 1, 1) := by decide +kernel
theorem d_M_report_55 : decode b_M_report 55 = .ok (.ireturn, 1) := by decide +kernel
theorem d_M_tick_0 : decode b_M_tick 0 = .ok (.aload_n 0, 1) := by decide +kernel
theorem d_M_tick_1 : decode b_M_tick 1 = .ok (.dup, 1) := by decide +kernel
theorem d_M_tick_2 : decode b_M_tick 2 = .ok (.getfield 45, 3) := by decide +kernel
theorem d_M_tick_5 : decode b_M_tick 5 = .ok (.iconst 1, 1) := by decide +kernel
theorem d_M_tick_6 : decode b_M_tick 6 = .ok (.iadd, 1) := by decide +kernel
theorem d_M_tick_7 : decode b_M_tick 7 = .ok (.putfield 45, 3) := by decide +kernel
theorem d_M_tick_10 : decode b_M_tick 10 = .ok (.bipush 8, 2) := by decide +kernel
theorem d_M_tick_12 : decode b_M_tick 12 = .ok (.aload_n 0, 1) := by decide +kernel
theorem d_M_tick_13 : decode b_M_tick 13 = .ok (.getfield 45, 3) := by decide +kernel
theorem d_M_tick_16 : decode b_M_tick 16 = .ok (.iconst 1, 1) := by decide +kernel
theorem d_M_tick_17 : decode b_M_tick 17 = .ok (.isub, 1) := by decide +kernel
theorem d_M_tick_18 : decode b_M_tick 18 = .ok (.imul, 1) := by decide +kernel
theorem d_M_tick_19 : decode b_M_tick 19 = .ok (.istore_n 1, 1) := by decide +kernel
theorem d_M_tick_20 : decode b_M_tick 20 = .ok (.bipush 8, 2) := by decide +kernel
theorem d_M_tick_22 : decode b_M_tick 22 = .ok (.aload_n 0, 1) := by decide +kernel
theorem d_M_tick_23 : decode b_M_tick 23 = .ok (.getfield 45, 3) := by decide +kernel
theorem d_M_tick_26 : decode b_M_tick 26 = .ok (.imul, 1) := by decide +kernel
theorem d_M_tick_27 : decode b_M_tick 27 = .ok (.istore_n 2, 1) := by decide +kernel
theorem d_M_tick_28 : decode b_M_tick 28 = .ok (.iconst 0, 1) := by decide +kernel
theorem d_M_tick_29 : decode b_M_tick 29 = .ok (.istore_n 3, 1) := by decide +kernel
theorem d_M_tick_30 : decode b_M_tick 30 = .ok (.iload_n 3, 1) := by decide +kernel
theorem d_M_tick_31 : decode b_M_tick 31 = .ok (.iconst 3, 1) := by decide +kernel
theorem d_M_tick_32 : decode b_M_tick 32 = .ok (.if_icmp .ge 149, 3) := by decide +kernel
theorem d_M_tick_35 : decode b_M_tick 35 = .ok (.aload_n 0, 1) := by decide +kernel
theorem d_M_tick_36 : decode b_M_tick 36 = .ok (.getfield 20, 3) := by decide +kernel
theorem d_M_tick_39 : decode b_M_tick 39 = .ok (.iconst 3, 1) := by decide +kernel
theorem d_M_tick_40 : decode b_M_tick 40 = .ok (.aload_n 0, 1) := by decide +kernel
theorem d_M_tick_41 : decode b_M_tick 41 = .ok (.getfield 45, 3) := by decide +kernel
theorem d_M_tick_44 : decode b_M_tick 44 = .ok (.iconst 1, 1) := by decide +kernel
theorem d_M_tick_45 : decode b_M_tick 45 = .ok (.isub, 1) := by decide +kernel
theorem d_M_tick_46 : decode b_M_tick 46 = .ok (.imul, 1) := by decide +kernel
theorem d_M_tick_47 : decode b_M_tick 47 = .ok (.iload_n 3, 1) := by decide +kernel
theorem d_M_tick_48 : decode b_M_tick 48 = .ok (.iadd, 1) := by decide +kernel
theorem d_M_tick_49 : decode b_M_tick 49 = .ok (.iaload, 1) := by decide +kernel
theorem d_M_tick_50 : decode b_M_tick 50 = .ok (.istore 4, 2) := by decide +kernel
theorem d_M_tick_52 : decode b_M_tick 52 = .ok (.sipush 513, 3) := by decide +kernel
theorem d_M_tick_55 : decode b_M_tick 55 = .ok (.iload_n 3, 1) := by decide +kernel
theorem d_M_tick_56 : decode b_M_tick 56 = .ok (.imul, 1) := by decide +kernel
theorem d_M_tick_57 : decode b_M_tick 57 = .ok (.iload 4, 2) := by decide +kernel
theorem d_M_tick_59 : decode b_M_tick 59 = .ok (.iadd, 1) := by decide +kernel
theorem d_M_tick_60 : decode b_M_tick 60 = .ok (.iconst 1, 1) := by decide +kernel
theorem d_M_tick_61 : decode b_M_tick 61 = .ok (.iadd, 1) := by decide +kernel
theorem d_M_tick_62 : decode b_M_tick 62 = .ok (.istore 5, 2) := by decide +kernel
theorem d_M_tick_64 : decode b_M_tick 64 = .ok (.iload 4, 2) := by decide +kernel
theorem d_M_tick_66 : decode b_M_tick 66 = .ok (.aload_n 0, 1) := by decide +kernel
theorem d_M_tick_67 : decode b_M_tick 67 = .ok (.getfield 29, 3) := by decide +kernel
theorem d_M_tick_70 : decode b_M_tick 70 = .ok (.iload_n 3, 1) := by decide +kernel
theorem d_M_tick_71 : decode b_M_tick 71 = .ok (.iaload, 1) := by decide +kernel
theorem d_M_tick_72 : decode b_M_tick 72 = .ok (.if_icmp .ge 17, 3) := by decide +kernel
theorem d_M_tick_75 : decode b_M_tick 75 = .ok (.aload_n 0, 1) := by decide +kernel
theorem d_M_tick_76 : decode b_M_tick 76 = .ok (.getfield 26, 3) := by decide +kernel
theorem d_M_tick_79 : decode b_M_tick 79 = .ok (.iload 5, 2) := by decide +kernel
theorem d_M_tick_81 : decode b_M_tick 81 = .ok (.baload, 1) := by decide +kernel
theorem d_M_tick_82 : decode b_M_tick 82 = .ok (.ifCond .eq 7, 3) := by decide +kernel
theorem d_M_tick_85 : decode b_M_tick 85 = .ok (.iconst 1, 1) := by decide +kernel
theorem d_M_tick_86 : decode b_M_tick 86 = .ok (.goto 4, 3) := by decide +kernel
theorem d_M_tick_89 : decode b_M_tick 89 = .ok (.iconst 0, 1) := by decide +kernel
theorem d_M_tick_90 : decode b_M_tick 90 = .ok (.istore 6, 2) := by decide +kernel
theorem d_M_tick_92 : decode b_M_tick 92 = .ok (.aload_n 0, 1) := by decide +kernel
theorem d_M_tick_93 : decode b_M_tick 93 = .ok (.getfield 17, 3) := by decide +kernel
theorem d_M_tick_96 : decode b_M_tick 96 = .ok (.iload_n 2, 1) := by decide +kernel
theorem d_M_tick_97 : decode b_M_tick 97 = .ok (.iload_n 3, 1) := by decide +kernel
theorem d_M_tick_98 : decode b_M_tick 98 = .ok (.iadd, 1) := by decide +kernel
theorem d_M_tick_99 : decode b_M_tick 99 = .ok (.iload 6, 2) := by decide +kernel
theorem d_M_tick_101 : decode b_M_tick 101 = .ok (.ifCond .eq 25, 3) := by decide +kernel
theorem d_M_tick_104 : decode b_M_tick 104 = .ok (.aload_n 0, 1) := by decide +kernel
theorem d_M_tick_105 : decode b_M_tick 105 = .ok (.aload_n 0, 1) := by decide +kernel
theorem d_M_tick_106 : decode b_M_tick 106 = .ok (.getfield 17, 3) := by decide +kernel
theorem d_M_tick_109 : decode b_M_tick 109 = .ok (.iload_n 1, 1) := by decide +kernel
theorem d_M_tick_110 : decode b_M_tick 110 = .ok (.iload_n 3, 1) := by decide +kernel
theorem d_M_tick_111 : decode b_M_tick 111 = .ok (.iadd, 1) := by decide +kernel
theorem d_M_tick_112 : decode b_M_tick 112 = .ok (.iaload, 1) := by decide +kernel
theorem d_M_tick_113 : decode b_M_tick 113 = .ok (.aload_n 0, 1) := by decide +kernel
theorem d_M_tick_114 : decode b_M_tick 114 = .ok (.getfield 23, 3) := by decide +kernel
theorem d_M_tick_117 : decode b_M_tick 117 = .ok (.iload 5, 2) := by decide +kernel
theorem d_M_tick_119 : decode b_M_tick 119 = .ok (.iaload, 1) := by decide +kernel
theorem d_M_tick_120 : decode b_M_tick 120 = .ok (.invokevirtual 67, 3) := by decide +kernel
theorem d_M_tick_123 : decode b_M_tick 123 = .ok (.goto 11, 3) := by decide +kernel
theorem d_M_tick_126 : decode b_M_tick 126 = .ok (.aload_n 0, 1) := by decide +kernel
theorem d_M_tick_127 : decode b_M_tick 127 = .ok (.getfield 17, 3) := by decide +kernel
theorem d_M_tick_130 : decode b_M_tick 130 = .ok (.iload_n 1, 1) := by decide +kernel
theorem d_M_tick_131 : decode b_M_tick 131 = .ok (.iload_n 3, 1) := by decide +kernel
theorem d_M_tick_132 : decode b_M_tick 132 = .ok (.iadd, 1) := by decide +kernel
theorem d_M_tick_133 : decode b_M_tick 133 = .ok (.iaload, 1) := by decide +kernel
theorem d_M_tick_134 : decode b_M_tick 134 = .ok (.iastore, 1) := by decide +kernel
theorem d_M_tick_135 : decode b_M_tick 135 = .ok (.aload_n 0, 1) := by decide +kernel
theorem d_M_tick_136 : decode b_M_tick 136 = .ok (.getfield 20, 3) := by decide +kernel
theorem d_M_tick_139 : decode b_M_tick 139 = .ok (.iconst 3, 1) := by decide +kernel
theorem d_M_tick_140 : decode b_M_tick 140 = .ok (.aload_n 0, 1) := by decide +kernel
theorem d_M_tick_141 : decode b_M_tick 141 = .ok (.getfield 45, 3) := by decide +kernel
theorem d_M_tick_144 : decode b_M_tick 144 = .ok (.imul, 1) := by decide +kernel
theorem d_M_tick_145 : decode b_M_tick 145 = .ok (.iload_n 3, 1) := by decide +kernel
theorem d_M_tick_146 : decode b_M_tick 146 = .ok (.iadd, 1) := by decide +kernel
theorem d_M_tick_147 : decode b_M_tick 147 = .ok (.iload 6, 2) := by decide +kernel
theorem d_M_tick_149 : decode b_M_tick 149 = .ok (.ifCond .eq 10, 3) := by decide +kernel
theorem d_M_tick_152 : decode b_M_tick 152 = .ok (.iload 4, 2) := by decide +kernel
theorem d_M_tick_154 : decode b_M_tick 154 = .ok (.iconst 1, 1) := by decide +kernel
theorem d_M_tick_155 : decode b_M_tick 155 = .ok (.iadd, 1) := by decide +kernel
theorem d_M_tick_156 : decode b_M_tick 156 = .ok (.goto 5, 3) := by decide +kernel
theorem d_M_tick_159 : decode b_M_tick 159 = .ok (.iload 4, 2) := by decide +kernel
theorem d_M_tick_161 : decode b_M_tick 161 = .ok (.iastore, 1) := by decide +kernel
theorem d_M_tick_162 : decode b_M_tick 162 = .ok (.iload 6, 2) := by decide +kernel
theorem d_M_tick_164 : decode b_M_tick 164 = .ok (.ifCond .eq 11, 3) := by decide +kernel
theorem d_M_tick_167 : decode b_M_tick 167 = .ok (.aload_n 0, 1) := by decide +kernel
theorem d_M_tick_168 : decode b_M_tick 168 = .ok (.getfield 26, 3) := by decide +kernel
theorem d_M_tick_171 : decode b_M_tick 171 = .ok (.iload 5, 2) := by decide +kernel
theorem d_M_tick_173 : decode b_M_tick 173 = .ok (.iconst 0, 1) := by decide +kernel
theorem d_M_tick_174 : decode b_M_tick 174 = .ok (.bastore, 1) := by decide +kernel
theorem d_M_tick_175 : decode b_M_tick 175 = .ok (.iinc 3 1, 3) := by decide +kernel
theorem d_M_tick_178 : decode b_M_tick 178 = .ok (.goto (-148), 3) := by decide +kernel
theorem d_M_tick_181 : decode b_M_tick 181 = .ok (.iconst 3, 1) := by decide +kernel
theorem d_M_tick_182 : decode b_M_tick 182 = .ok (.istore_n 3, 1) := by decide +kernel
theorem d_M_tick_183 : decode b_M_tick 183 = .ok (.iload_n 3, 1) := by decide +kernel
theorem d_M_tick_184 : decode b_M_tick 184 = .ok (.bipush 8, 2) := by decide +kernel
theorem d_M_tick_186 : decode b_M_tick 186 = .ok (.if_icmp .ge 79, 3) := by decide +kernel
theorem d_M_tick_189 : decode b_M_tick 189 = .ok (.aload_n 0, 1) := by decide +kernel
theorem d_M_tick_190 : decode b_M_tick 190 = .ok (.getfield 17, 3) := by decide +kernel
theorem d_M_tick_193 : decode b_M_tick 193 = .ok (.iload_n 2, 1) := by decide +kernel
theorem d_M_tick_194 : decode b_M_tick 194 = .ok (.iload_n 3, 1) := by decide +kernel
theorem d_M_tick_195 : decode b_M_tick 195 = .ok (.iadd, 1) := by decide +kernel
theorem d_M_tick_196 : decode b_M_tick 196 = .ok (.aload_n 0, 1) := by decide +kernel
theorem d_M_tick_197 : decode b_M_tick 197 = .ok (.aload_n 0, 1) := by decide +kernel
theorem d_M_tick_198 : decode b_M_tick 198 = .ok (.getfield 17, 3) := by decide +kernel
theorem d_M_tick_201 : decode b_M_tick 201 = .ok (.iload_n 1, 1) := by decide +kernel
theorem d_M_tick_202 : decode b_M_tick 202 = .ok (.iload_n 3, 1) := by decide +kernel
theorem d_M_tick_203 : decode b_M_tick 203 = .ok (.iadd, 1) := by decide +kernel
theorem d_M_tick_204 : decode b_M_tick 204 = .ok (.iaload, 1) := by decide +kernel
theorem d_M_tick_205 : decode b_M_tick 205 = .ok (.aload_n 0, 1) := by decide +kernel
theorem d_M_tick_206 : decode b_M_tick 206 = .ok (.getfield 13, 3) := by decide +kernel
theorem d_M_tick_209 : decode b_M_tick 209 = .ok (.iload_n 3, 1) := by decide +kernel
theorem d_M_tick_210 : decode b_M_tick 210 = .ok (.iaload, 1) := by decide +kernel
theorem d_M_tick_211 : decode b_M_tick 211 = .ok (.invokevirtual 67, 3) := by decide +kernel
theorem d_M_tick_214 : decode b_M_tick 214 = .ok (.iastore, 1) := by decide +kernel
theorem d_M_tick_215 : decode b_M_tick 215 = .ok (.aload_n 0, 1) := by decide +kernel
theorem d_M_tick_216 : decode b_M_tick 216 = .ok (.getfield 13, 3) := by decide +kernel
theorem d_M_tick_219 : decode b_M_tick 219 = .ok (.iload_n 3, 1) := by decide +kernel
theorem d_M_tick_220 : decode b_M_tick 220 = .ok (.aload_n 0, 1) := by decide +kernel
theorem d_M_tick_221 : decode b_M_tick 221 = .ok (.getfield 17, 3) := by decide +kernel
theorem d_M_tick_224 : decode b_M_tick 224 = .ok (.iload_n 2, 1) := by decide +kernel
theorem d_M_tick_225 : decode b_M_tick 225 = .ok (.iload_n 3, 1) := by decide +kernel
theorem d_M_tick_226 : decode b_M_tick 226 = .ok (.iadd, 1) := by decide +kernel
theorem d_M_tick_227 : decode b_M_tick 227 = .ok (.iaload, 1) := by decide +kernel
theorem d_M_tick_228 : decode b_M_tick 228 = .ok (.aload_n 0, 1) := by decide +kernel
theorem d_M_tick_229 : decode b_M_tick 229 = .ok (.getfield 17, 3) := by decide +kernel
theorem d_M_tick_232 : decode b_M_tick 232 = .ok (.iload_n 1, 1) := by decide +kernel
theorem d_M_tick_233 : decode b_M_tick 233 = .ok (.iload_n 3, 1) := by decide +kernel
theorem d_M_tick_234 : decode b_M_tick 234 = .ok (.iadd, 1) := by decide +kernel
theorem d_M_tick_235 : decode b_M_tick 235 = .ok (.iaload, 1) := by decide +kernel
theorem d_M_tick_236 : decode b_M_tick 236 = .ok (.if_icmp .ne 16, 3) := by decide +kernel
theorem d_M_tick_239 : decode b_M_tick 239 = .ok (.aload_n 0, 1) := by decide +kernel
theorem d_M_tick_240 : decode b_M_tick 240 = .ok (.getfield 13, 3) := by decide +kernel
theorem d_M_tick_243 : decode b_M_tick 243 = .ok (.iload_n 3, 1) := by decide +kernel
theorem d_M_tick_244 : decode b_M_tick 244 = .ok (.iaload, 1) := by decide +kernel
theorem d_M_tick_245 : decode b_M_tick 245 = .ok (.iconst 2, 1) := by decide +kernel
theorem d_M_tick_246 : decode b_M_tick 246 = .ok (.iadd, 1) := by decide +kernel
theorem d_M_tick_247 : decode b_M_tick 247 = .ok (.iconst 4, 1) := by decide +kernel
theorem d_M_tick_248 : decode b_M_tick 248 = .ok (.irem, 1) := by decide +kernel
theorem d_M_tick_249 : decode b_M_tick 249 = .ok (.goto 9, 3) := by decide +kernel
theorem d_M_tick_252 : decode b_M_tick 252 = .ok (.aload_n 0, 1) := by decide +kernel
theorem d_M_tick_253 : decode b_M_tick 253 = .ok (.getfield 13, 3) := by decide +kernel
theorem d_M_tick_256 : decode b_M_tick 256 = .ok (.iload_n 3, 1) := by decide +kernel
theorem d_M_tick_257 : decode b_M_tick 257 = .ok (.iaload, 1) := by decide +kernel
theorem d_M_tick_258 : decode b_M_tick 258 = .ok (.iastore, 1) := by decide +kernel
theorem d_M_tick_259 : decode b_M_tick 259 = .ok (.iinc 3 1, 3) := by decide +kernel
theorem d_M_tick_262 : decode b_M_tick 262 = .ok (.goto (-79), 3) := by decide +kernel
theorem d_M_tick_265 : decode b_M_tick 265 = .ok (.iconst 0, 1) := by decide +kernel
theorem d_M_tick_266 : decode b_M_tick 266 = .ok (.istore_n 3, 1) := by decide +kernel
theorem d_M_tick_267 : decode b_M_tick 267 = .ok (.iload_n 3, 1) := by decide +kernel
theorem d_M_tick_268 : decode b_M_tick 268 = .ok (.iconst 3, 1) := by decide +kernel
theorem d_M_tick_269 : decode b_M_tick 269 = .ok (.if_icmp .ge 79, 3) := by decide +kernel
theorem d_M_tick_272 : decode b_M_tick 272 = .ok (.aload_n 0, 1) := by decide +kernel
theorem d_M_tick_273 : decode b_M_tick 273 = .ok (.getfield 32, 3) := by decide +kernel
theorem d_M_tick_276 : decode b_M_tick 276 = .ok (.iload_n 3, 1) := by decide +kernel
theorem d_M_tick_277 : decode b_M_tick 277 = .ok (.iaload, 1) := by decide +kernel
theorem d_M_tick_278 : decode b_M_tick 278 = .ok (.ifCond .le 23, 3) := by decide +kernel
theorem d_M_tick_281 : decode b_M_tick 281 = .ok (.aload_n 0, 1) := by decide +kernel
theorem d_M_tick_282 : decode b_M_tick 282 = .ok (.getfield 45, 3) := by decide +kernel
theorem d_M_tick_285 : decode b_M_tick 285 = .ok (.aload_n 0, 1) := by decide +kernel
theorem d_M_tick_286 : decode b_M_tick 286 = .ok (.getfield 32, 3) := by decide +kernel
theorem d_M_tick_289 : decode b_M_tick 289 = .ok (.iload_n 3, 1) := by decide +kernel
theorem d_M_tick_290 : decode b_M_tick 290 = .ok (.iaload, 1) := by decide +kernel
theorem d_M_tick_291 : decode b_M_tick 291 = .ok (.isub, 1) := by decide +kernel
theorem d_M_tick_292 : decode b_M_tick 292 = .ok (.bipush 6, 2) := by decide +kernel
theorem d_M_tick_294 : decode b_M_tick 294 = .ok (.if_icmp .gt 7, 3) := by decide +kernel
theorem d_M_tick_297 : decode b_M_tick 297 = .ok (.iconst 1, 1) := by decide +kernel
theorem d_M_tick_298 : decode b_M_tick 298 = .ok (.goto 4, 3) := by decide +kernel
theorem d_M_tick_301 : decode b_M_tick 301 = .ok (.iconst 0, 1) := by decide +kernel
theorem d_M_tick_302 : decode b_M_tick 302 = .ok (.istore 4, 2) := by decide +kernel
theorem d_M_tick_304 : decode b_M_tick 304 = .ok (.aload_n 0, 1) := by decide +kernel
theorem d_M_tick_305 : decode b_M_tick 305 = .ok (.iload_n 3, 1) := by decide +kernel
theorem d_M_tick_306 : decode b_M_tick 306 = .ok (.iconst 1, 1) := by decide +kernel
theorem d_M_tick_307 : decode b_M_tick 307 = .ok (.aload_n 0, 1) := by decide +kernel
theorem d_M_tick_308 : decode b_M_tick 308 = .ok (.getfield 45, 3) := by decide +kernel
theorem d_M_tick_311 : decode b_M_tick 311 = .ok (.iload 4, 2) := by decide +kernel
theorem d_M_tick_313 : decode b_M_tick 313 = .ok (.ifCond .eq 12, 3) := by decide +kernel
theorem d_M_tick_316 : decode b_M_tick 316 = .ok (.aload_n 0, 1) := by decide +kernel
theorem d_M_tick_317 : decode b_M_tick 317 = .ok (.getfield 32, 3) := by decide +kernel
theorem d_M_tick_320 : decode b_M_tick 320 = .ok (.iload_n 3, 1) := by decide +kernel
theorem d_M_tick_321 : decode b_M_tick 321 = .ok (.iaload, 1) := by decide +kernel
theorem d_M_tick_322 : decode b_M_tick 322 = .ok (.goto 4, 3) := by decide +kernel
theorem d_M_tick_325 : decode b_M_tick 325 = .ok (.iconst 0, 1) := by decide +kernel
theorem d_M_tick_326 : decode b_M_tick 326 = .ok (.aload_n 0, 1) := by decide +kernel
theorem d_M_tick_327 : decode b_M_tick 327 = .ok (.getfield 20, 3) := by decide +kernel
theorem d_M_tick_330 : decode b_M_tick 330 = .ok (.iconst 3, 1) := by decide +kernel
theorem d_M_tick_331 : decode b_M_tick 331 = .ok (.aload_n 0, 1) := by decide +kernel
theorem d_M_tick_332 : decode b_M_tick 332 = .ok (.getfield 45, 3) := by decide +kernel
theorem d_M_tick_335 : decode b_M_tick 335 = .ok (.imul, 1) := by decide +kernel
theorem d_M_tick_336 : decode b_M_tick 336 = .ok (.iload_n 3, 1) := by decide +kernel
theorem d_M_tick_337 : decode b_M_tick 337 = .ok (.iadd, 1) := by decide +kernel
theorem d_M_tick_338 : decode b_M_tick 338 = .ok (.iaload, 1) := by decide +kernel
theorem d_M_tick_339 : decode b_M_tick 339 = .ok (.invokevirtual 63, 3) := by decide +kernel
theorem d_M_tick_342 : decode b_M_tick 342 = .ok (.iinc 3 1, 3) := by decide +kernel
theorem d_M_tick_345 : decode b_M_tick 345 = .ok (.goto (-78), 3) := by decide +kernel
theorem d_M_tick_348 : decode b_M_tick 348 = .ok (.aload_n 0, 1) := by decide +kernel
theorem d_M_tick_349 : decode b_M_tick 349 = .ok (.getfield 45, 3) := by decide +kernel
theorem d_M_tick_352 : decode b_M_tick 352 = .ok (.ireturn, 1) := by decide +kernel
theorem d_M_apart_0 : decode b_M_apart 0 = .ok (.iload_n 0, 1) := by decide +kernel
theorem d_M_apart_1 : decode b_M_apart 1 = .ok (.iload_n 1, 1) := by decide +kernel
theorem d_M_apart_2 : decode b_M_apart 2 = .ok (.if_icmp .ge 9, 3) := by decide +kernel
theorem d_M_apart_5 : decode b_M_apart 5 = .ok (.iload_n 1, 1) := by decide +kernel
theorem d_M_apart_6 : decode b_M_apart 6 = .ok (.iload_n 0, 1) := by decide +kernel
theorem d_M_apart_7 : decode b_M_apart 7 = .ok (.isub, 1) := by decide +kernel
theorem d_M_apart_8 : decode b_M_apart 8 = .ok (.goto 6, 3) := by decide +kernel
theorem d_M_apart_11 : decode b_M_apart 11 = .ok (.iload_n 0, 1) := by decide +kernel
theorem d_M_apart_12 : decode b_M_apart 12 = .ok (.iload_n 1, 1) := by decide +kernel
theorem d_M_apart_13 : decode b_M_apart 13 = .ok (.isub, 1) := by decide +kernel
theorem d_M_apart_14 : decode b_M_apart 14 = .ok (.ireturn, 1) := by decide +kernel
theorem d_M_sees_0 : decode b_M_sees 0 = .ok (.aload_n 0, 1) := by decide +kernel
theorem d_M_sees_1 : decode b_M_sees 1 = .ok (.getfield 17, 3) := by decide +kernel
theorem d_M_sees_4 : decode b_M_sees 4 = .ok (.bipush 8, 2) := by decide +kernel
theorem d_M_sees_6 : decode b_M_sees 6 = .ok (.iload_n 3, 1) := by decide +kernel
theorem d_M_sees_7 : decode b_M_sees 7 = .ok (.imul, 1) := by decide +kernel
theorem d_M_sees_8 : decode b_M_sees 8 = .ok (.iload_n 1, 1) := by decide +kernel
theorem d_M_sees_9 : decode b_M_sees 9 = .ok (.iadd, 1) := by decide +kernel
theorem d_M_sees_10 : decode b_M_sees 10 = .ok (.iaload, 1) := by decide +kernel
theorem d_M_sees_11 : decode b_M_sees 11 = .ok (.istore 4, 2) := by decide +kernel
theorem d_M_sees_13 : decode b_M_sees 13 = .ok (.aload_n 0, 1) := by decide +kernel
theorem d_M_sees_14 : decode b_M_sees 14 = .ok (.getfield 17, 3) := by decide +kernel
theorem d_M_sees_17 : decode b_M_sees 17 = .ok (.bipush 8, 2) := by decide +kernel
theorem d_M_sees_19 : decode b_M_sees 19 = .ok (.iload_n 3, 1) := by decide +kernel
theorem d_M_sees_20 : decode b_M_sees 20 = .ok (.imul, 1) := by decide +kernel
theorem d_M_sees_21 : decode b_M_sees 21 = .ok (.iload_n 2, 1) := by decide +kernel
theorem d_M_sees_22 : decode b_M_sees 22 = .ok (.iadd, 1) := by decide +kernel
theorem d_M_sees_23 : decode b_M_sees 23 = .ok (.iaload, 1) := by decide +kernel
theorem d_M_sees_24 : decode b_M_sees 24 = .ok (.istore 5, 2) := by decide +kernel
theorem d_M_sees_26 : decode b_M_sees 26 = .ok (.iload 4, 2) := by decide +kernel
theorem d_M_sees_28 : decode b_M_sees 28 = .ok (.bipush 16, 2) := by decide +kernel
theorem d_M_sees_30 : decode b_M_sees 30 = .ok (.irem, 1) := by decide +kernel
theorem d_M_sees_31 : decode b_M_sees 31 = .ok (.iconst 4, 1) := by decide +kernel
theorem d_M_sees_32 : decode b_M_sees 32 = .ok (.idiv, 1) := by decide +kernel
theorem d_M_sees_33 : decode b_M_sees 33 = .ok (.iload 5, 2) := by decide +kernel
theorem d_M_sees_35 : decode b_M_sees 35 = .ok (.bipush 16, 2) := by decide +kernel
theorem d_M_sees_37 : decode b_M_sees 37 = .ok (.irem, 1) := by decide +kernel
theorem d_M_sees_38 : decode b_M_sees 38 = .ok (.iconst 4, 1) := by decide +kernel
theorem d_M_sees_39 : decode b_M_sees 39 = .ok (.idiv, 1) := by decide +kernel
theorem d_M_sees_40 : decode b_M_sees 40 = .ok (.invokestatic 71, 3) := by decide +kernel
theorem d_M_sees_43 : decode b_M_sees 43 = .ok (.iconst 1, 1) := by decide +kernel
theorem d_M_sees_44 : decode b_M_sees 44 = .ok (.if_icmp .gt 24, 3) := by decide +kernel
theorem d_M_sees_47 : decode b_M_sees 47 = .ok (.iload 4, 2) := by decide +kernel
theorem d_M_sees_49 : decode b_M_sees 49 = .ok (.bipush 64, 2) := by decide +kernel
theorem d_M_sees_51 : decode b_M_sees 51 = .ok (.idiv, 1) := by decide +kernel
theorem d_M_sees_52 : decode b_M_sees 52 = .ok (.iload 5, 2) := by decide +kernel
theorem d_M_sees_54 : decode b_M_sees 54 = .ok (.bipush 64, 2) := by decide +kernel
theorem d_M_sees_56 : decode b_M_sees 56 = .ok (.idiv, 1) := by decide +kernel
theorem d_M_sees_57 : decode b_M_sees 57 = .ok (.invokestatic 71, 3) := by decide +kernel
theorem d_M_sees_60 : decode b_M_sees 60 = .ok (.iconst 1, 1) := by decide +kernel
theorem d_M_sees_61 : decode b_M_sees 61 = .ok (.if_icmp .gt 7, 3) := by decide +kernel
theorem d_M_sees_64 : decode b_M_sees 64 = .ok (.iconst 1, 1) := by decide +kernel
theorem d_M_sees_65 : decode b_M_sees 65 = .ok (.goto 4, 3) := by decide +kernel
theorem d_M_sees_68 : decode b_M_sees 68 = .ok (.iconst 0, 1) := by decide +kernel
theorem d_M_sees_69 : decode b_M_sees 69 = .ok (.ireturn, 1) := by decide +kernel
theorem d_M_bits_0 : decode b_M_bits 0 = .ok (.aload_n 0, 1) := by decide +kernel
theorem d_M_bits_1 : decode b_M_bits 1 = .ok (.iload_n 1, 1) := by decide +kernel
theorem d_M_bits_2 : decode b_M_bits 2 = .ok (.iload_n 2, 1) := by decide +kernel
theorem d_M_bits_3 : decode b_M_bits 3 = .ok (.iload_n 3, 1) := by decide +kernel
theorem d_M_bits_4 : decode b_M_bits 4 = .ok (.invokevirtual 74, 3) := by decide +kernel
theorem d_M_bits_7 : decode b_M_bits 7 = .ok (.istore 5, 2) := by decide +kernel
theorem d_M_bits_9 : decode b_M_bits 9 = .ok (.iload 4, 2) := by decide +kernel
theorem d_M_bits_11 : decode b_M_bits 11 = .ok (.ifCond .eq 14, 3) := by decide +kernel
theorem d_M_bits_14 : decode b_M_bits 14 = .ok (.aload_n 0, 1) := by decide +kernel
theorem d_M_bits_15 : decode b_M_bits 15 = .ok (.iload_n 1, 1) := by decide +kernel
theorem d_M_bits_16 : decode b_M_bits 16 = .ok (.iload_n 2, 1) := by decide +kernel
theorem d_M_bits_17 : decode b_M_bits 17 = .ok (.iload 4, 2) := by decide +kernel
theorem d_M_bits_19 : decode b_M_bits 19 = .ok (.invokevirtual 74, 3) := by decide +kernel
theorem d_M_bits_22 : decode b_M_bits 22 = .ok (.ifCond .ne 15, 3) := by decide +kernel
theorem d_M_bits_25 : decode b_M_bits 25 = .ok (.iload 5, 2) := by decide +kernel
theorem d_M_bits_27 : decode b_M_bits 27 = .ok (.ifCond .eq 8, 3) := by decide +kernel
theorem d_M_bits_30 : decode b_M_bits 30 = .ok (.bipush 9, 2) := by decide +kernel
theorem d_M_bits_32 : decode b_M_bits 32 = .ok (.goto 4, 3) := by decide +kernel
theorem d_M_bits_35 : decode b_M_bits 35 = .ok (.iconst 1, 1) := by decide +kernel
theorem d_M_bits_36 : decode b_M_bits 36 = .ok (.ireturn, 1) := by decide +kernel
theorem d_M_bits_37 : decode b_M_bits 37 = .ok (.iload 5, 2) := by decide +kernel
theorem d_M_bits_39 : decode b_M_bits 39 = .ok (.ifCond .ne 5, 3) := by decide +kernel
theorem d_M_bits_42 : decode b_M_bits 42 = .ok (.iconst 3, 1) := by decide +kernel
theorem d_M_bits_43 : decode b_M_bits 43 = .ok (.ireturn, 1) := by decide +kernel
theorem d_M_bits_44 : decode b_M_bits 44 = .ok (.aload_n 0, 1) := by decide +kernel
theorem d_M_bits_45 : decode b_M_bits 45 = .ok (.getfield 17, 3) := by decide +kernel
theorem d_M_bits_48 : decode b_M_bits 48 = .ok (.bipush 8, 2) := by decide +kernel
theorem d_M_bits_50 : decode b_M_bits 50 = .ok (.iload 4, 2) := by decide +kernel
theorem d_M_bits_52 : decode b_M_bits 52 = .ok (.imul, 1) := by decide +kernel
theorem d_M_bits_53 : decode b_M_bits 53 = .ok (.iload_n 2, 1) := by decide +kernel
theorem d_M_bits_54 : decode b_M_bits 54 = .ok (.iadd, 1) := by decide +kernel
theorem d_M_bits_55 : decode b_M_bits 55 = .ok (.iaload, 1) := by decide +kernel
theorem d_M_bits_56 : decode b_M_bits 56 = .ok (.istore 6, 2) := by decide +kernel
theorem d_M_bits_58 : decode b_M_bits 58 = .ok (.aload_n 0, 1) := by decide +kernel
theorem d_M_bits_59 : decode b_M_bits 59 = .ok (.getfield 17, 3) := by decide +kernel
theorem d_M_bits_62 : decode b_M_bits 62 = .ok (.bipush 8, 2) := by decide +kernel
theorem d_M_bits_64 : decode b_M_bits 64 = .ok (.iload_n 3, 1) := by decide +kernel
theorem d_M_bits_65 : decode b_M_bits 65 = .ok (.imul, 1) := by decide +kernel
theorem d_M_bits_66 : decode b_M_bits 66 = .ok (.iload_n 2, 1) := by decide +kernel
theorem d_M_bits_67 : decode b_M_bits 67 = .ok (.iadd, 1) := by decide +kernel
theorem d_M_bits_68 : decode b_M_bits 68 = .ok (.iaload, 1) := by decide +kernel
theorem d_M_bits_69 : decode b_M_bits 69 = .ok (.istore 7, 2) := by decide +kernel
theorem d_M_bits_71 : decode b_M_bits 71 = .ok (.iload 6, 2) := by decide +kernel
theorem d_M_bits_73 : decode b_M_bits 73 = .ok (.bipush 16, 2) := by decide +kernel
theorem d_M_bits_75 : decode b_M_bits 75 = .ok (.irem, 1) := by decide +kernel
theorem d_M_bits_76 : decode b_M_bits 76 = .ok (.iload 7, 2) := by decide +kernel
theorem d_M_bits_78 : decode b_M_bits 78 = .ok (.bipush 16, 2) := by decide +kernel
theorem d_M_bits_80 : decode b_M_bits 80 = .ok (.irem, 1) := by decide +kernel
theorem d_M_bits_81 : decode b_M_bits 81 = .ok (.invokestatic 71, 3) := by decide +kernel
theorem d_M_bits_84 : decode b_M_bits 84 = .ok (.iload 6, 2) := by decide +kernel
theorem d_M_bits_86 : decode b_M_bits 86 = .ok (.bipush 16, 2) := by decide +kernel
theorem d_M_bits_88 : decode b_M_bits 88 = .ok (.idiv, 1) := by decide +kernel
theorem d_M_bits_89 : decode b_M_bits 89 = .ok (.iload 7, 2) := by decide +kernel
theorem d_M_bits_91 : decode b_M_bits 91 = .ok (.bipush 16, 2) := by decide +kernel
