theorem d_M_bits_93 : decode b_M_bits 93 = .ok (.idiv, 1) := by decide +kernel
theorem d_M_bits_94 : decode b_M_bits 94 = .ok (.invokestatic 71, 3) := by decide +kernel
theorem d_M_bits_97 : decode b_M_bits 97 = .ok (.iadd, 1) := by decide +kernel
theorem d_M_bits_98 : decode b_M_bits 98 = .ok (.istore 8, 2) := by decide +kernel
theorem d_M_bits_100 : decode b_M_bits 100 = .ok (.iload 8, 2) := by decide +kernel
theorem d_M_bits_102 : decode b_M_bits 102 = .ok (.ifCond .ne 7, 3) := by decide +kernel
theorem d_M_bits_105 : decode b_M_bits 105 = .ok (.iconst 1, 1) := by decide +kernel
theorem d_M_bits_106 : decode b_M_bits 106 = .ok (.goto 15, 3) := by decide +kernel
theorem d_M_bits_109 : decode b_M_bits 109 = .ok (.iload 8, 2) := by decide +kernel
theorem d_M_bits_111 : decode b_M_bits 111 = .ok (.iconst 1, 1) := by decide +kernel
theorem d_M_bits_112 : decode b_M_bits 112 = .ok (.if_icmp .ne 7, 3) := by decide +kernel
theorem d_M_bits_115 : decode b_M_bits 115 = .ok (.iconst 4, 1) := by decide +kernel
theorem d_M_bits_116 : decode b_M_bits 116 = .ok (.goto 5, 3) := by decide +kernel
theorem d_M_bits_119 : decode b_M_bits 119 = .ok (.bipush 11, 2) := by decide +kernel
theorem d_M_bits_121 : decode b_M_bits 121 = .ok (.ireturn, 1) := by decide +kernel
theorem d_M_size_0 : decode b_M_size 0 = .ok (.aload_n 0, 1) := by decide +kernel
theorem d_M_size_1 : decode b_M_size 1 = .ok (.getfield 38, 3) := by decide +kernel
theorem d_M_size_4 : decode b_M_size 4 = .ok (.iload_n 1, 1) := by decide +kernel
theorem d_M_size_5 : decode b_M_size 5 = .ok (.iconst 1, 1) := by decide +kernel
theorem d_M_size_6 : decode b_M_size 6 = .ok (.iadd, 1) := by decide +kernel
theorem d_M_size_7 : decode b_M_size 7 = .ok (.iaload, 1) := by decide +kernel
theorem d_M_size_8 : decode b_M_size 8 = .ok (.ifCond .ne 17, 3) := by decide +kernel
theorem d_M_size_11 : decode b_M_size 11 = .ok (.bipush 23, 2) := by decide +kernel
theorem d_M_size_13 : decode b_M_size 13 = .ok (.iconst 3, 1) := by decide +kernel
theorem d_M_size_14 : decode b_M_size 14 = .ok (.aload_n 0, 1) := by decide +kernel
theorem d_M_size_15 : decode b_M_size 15 = .ok (.getfield 38, 3) := by decide +kernel
theorem d_M_size_18 : decode b_M_size 18 = .ok (.iload_n 1, 1) := by decide +kernel
theorem d_M_size_19 : decode b_M_size 19 = .ok (.iconst 3, 1) := by decide +kernel
theorem d_M_size_20 : decode b_M_size 20 = .ok (.iadd, 1) := by decide +kernel
theorem d_M_size_21 : decode b_M_size 21 = .ok (.iaload, 1) := by decide +kernel
theorem d_M_size_22 : decode b_M_size 22 = .ok (.imul, 1) := by decide +kernel
theorem d_M_size_23 : decode b_M_size 23 = .ok (.iadd, 1) := by decide +kernel
theorem d_M_size_24 : decode b_M_size 24 = .ok (.ireturn, 1) := by decide +kernel
theorem d_M_size_25 : decode b_M_size 25 = .ok (.aload_n 0, 1) := by decide +kernel
theorem d_M_size_26 : decode b_M_size 26 = .ok (.getfield 38, 3) := by decide +kernel
theorem d_M_size_29 : decode b_M_size 29 = .ok (.iload_n 1, 1) := by decide +kernel
theorem d_M_size_30 : decode b_M_size 30 = .ok (.iconst 3, 1) := by decide +kernel
theorem d_M_size_31 : decode b_M_size 31 = .ok (.iadd, 1) := by decide +kernel
theorem d_M_size_32 : decode b_M_size 32 = .ok (.iaload, 1) := by decide +kernel
theorem d_M_size_33 : decode b_M_size 33 = .ok (.ifCond .le 8, 3) := by decide +kernel
theorem d_M_size_36 : decode b_M_size 36 = .ok (.bipush 24, 2) := by decide +kernel
theorem d_M_size_38 : decode b_M_size 38 = .ok (.goto 5, 3) := by decide +kernel
theorem d_M_size_41 : decode b_M_size 41 = .ok (.bipush 21, 2) := by decide +kernel
theorem d_M_size_43 : decode b_M_size 43 = .ok (.istore_n 2, 1) := by decide +kernel
theorem d_M_size_44 : decode b_M_size 44 = .ok (.iconst 0, 1) := by decide +kernel
theorem d_M_size_45 : decode b_M_size 45 = .ok (.istore_n 3, 1) := by decide +kernel
theorem d_M_size_46 : decode b_M_size 46 = .ok (.iload_n 3, 1) := by decide +kernel
theorem d_M_size_47 : decode b_M_size 47 = .ok (.bipush 8, 2) := by decide +kernel
theorem d_M_size_49 : decode b_M_size 49 = .ok (.if_icmp .ge 39, 3) := by decide +kernel
theorem d_M_size_52 : decode b_M_size 52 = .ok (.iload_n 2, 1) := by decide +kernel
theorem d_M_size_53 : decode b_M_size 53 = .ok (.aload_n 0, 1) := by decide +kernel
theorem d_M_size_54 : decode b_M_size 54 = .ok (.aload_n 0, 1) := by decide +kernel
theorem d_M_size_55 : decode b_M_size 55 = .ok (.getfield 38, 3) := by decide +kernel
theorem d_M_size_58 : decode b_M_size 58 = .ok (.iload_n 1, 1) := by decide +kernel
theorem d_M_size_59 : decode b_M_size 59 = .ok (.iaload, 1) := by decide +kernel
theorem d_M_size_60 : decode b_M_size 60 = .ok (.iload_n 3, 1) := by decide +kernel
theorem d_M_size_61 : decode b_M_size 61 = .ok (.aload_n 0, 1) := by decide +kernel
theorem d_M_size_62 : decode b_M_size 62 = .ok (.getfield 38, 3) := by decide +kernel
theorem d_M_size_65 : decode b_M_size 65 = .ok (.iload_n 1, 1) := by decide +kernel
theorem d_M_size_66 : decode b_M_size 66 = .ok (.iconst 2, 1) := by decide +kernel
theorem d_M_size_67 : decode b_M_size 67 = .ok (.iadd, 1) := by decide +kernel
theorem d_M_size_68 : decode b_M_size 68 = .ok (.iaload, 1) := by decide +kernel
theorem d_M_size_69 : decode b_M_size 69 = .ok (.aload_n 0, 1) := by decide +kernel
theorem d_M_size_70 : decode b_M_size 70 = .ok (.getfield 38, 3) := by decide +kernel
theorem d_M_size_73 : decode b_M_size 73 = .ok (.iload_n 1, 1) := by decide +kernel
theorem d_M_size_74 : decode b_M_size 74 = .ok (.iconst 3, 1) := by decide +kernel
theorem d_M_size_75 : decode b_M_size 75 = .ok (.iadd, 1) := by decide +kernel
theorem d_M_size_76 : decode b_M_size 76 = .ok (.iaload, 1) := by decide +kernel
theorem d_M_size_77 : decode b_M_size 77 = .ok (.invokevirtual 78, 3) := by decide +kernel
theorem d_M_size_80 : decode b_M_size 80 = .ok (.iadd, 1) := by decide +kernel
theorem d_M_size_81 : decode b_M_size 81 = .ok (.istore_n 2, 1) := by decide +kernel
theorem d_M_size_82 : decode b_M_size 82 = .ok (.iinc 3 1, 3) := by decide +kernel
theorem d_M_size_85 : decode b_M_size 85 = .ok (.goto (-39), 3) := by decide +kernel
theorem d_M_size_88 : decode b_M_size 88 = .ok (.iload_n 2, 1) := by decide +kernel
theorem d_M_size_89 : decode b_M_size 89 = .ok (.ireturn, 1) := by decide +kernel
theorem d_M_there_0 : decode b_M_there 0 = .ok (.iload_n 1, 1) := by decide +kernel
theorem d_M_there_1 : decode b_M_there 1 = .ok (.ifCond .lt 15, 3) := by decide +kernel
theorem d_M_there_4 : decode b_M_there 4 = .ok (.iload_n 1, 1) := by decide +kernel
theorem d_M_there_5 : decode b_M_there 5 = .ok (.aload_n 0, 1) := by decide +kernel
theorem d_M_there_6 : decode b_M_there 6 = .ok (.getfield 60, 3) := by decide +kernel
theorem d_M_there_9 : decode b_M_there 9 = .ok (.if_icmp .ge 7, 3) := by decide +kernel
theorem d_M_there_12 : decode b_M_there 12 = .ok (.iconst 1, 1) := by decide +kernel
theorem d_M_there_13 : decode b_M_there 13 = .ok (.goto 4, 3) := by decide +kernel
theorem d_M_there_16 : decode b_M_there 16 = .ok (.iconst 0, 1) := by decide +kernel
theorem d_M_there_17 : decode b_M_there 17 = .ok (.ireturn, 1) := by decide +kernel
theorem d_M_takeOut_0 : decode b_M_takeOut 0 = .ok (.aload_n 0, 1) := by decide +kernel
theorem d_M_takeOut_1 : decode b_M_takeOut 1 = .ok (.dup, 1) := by decide +kernel
theorem d_M_takeOut_2 : decode b_M_takeOut 2 = .ok (.getfield 60, 3) := by decide +kernel
theorem d_M_takeOut_5 : decode b_M_takeOut 5 = .ok (.iconst 1, 1) := by decide +kernel
theorem d_M_takeOut_6 : decode b_M_takeOut 6 = .ok (.isub, 1) := by decide +kernel
theorem d_M_takeOut_7 : decode b_M_takeOut 7 = .ok (.putfield 60, 3) := by decide +kernel
theorem d_M_takeOut_10 : decode b_M_takeOut 10 = .ok (.iconst 5, 1) := by decide +kernel
theorem d_M_takeOut_11 : decode b_M_takeOut 11 = .ok (.iload_n 1, 1) := by decide +kernel
theorem d_M_takeOut_12 : decode b_M_takeOut 12 = .ok (.imul, 1) := by decide +kernel
theorem d_M_takeOut_13 : decode b_M_takeOut 13 = .ok (.istore_n 2, 1) := by decide +kernel
theorem d_M_takeOut_14 : decode b_M_takeOut 14 = .ok (.iload_n 2, 1) := by decide +kernel
theorem d_M_takeOut_15 : decode b_M_takeOut 15 = .ok (.iconst 5, 1) := by decide +kernel
theorem d_M_takeOut_16 : decode b_M_takeOut 16 = .ok (.aload_n 0, 1) := by decide +kernel
theorem d_M_takeOut_17 : decode b_M_takeOut 17 = .ok (.getfield 60, 3) := by decide +kernel
theorem d_M_takeOut_20 : decode b_M_takeOut 20 = .ok (.imul, 1) := by decide +kernel
theorem d_M_takeOut_21 : decode b_M_takeOut 21 = .ok (.if_icmp .ge 23, 3) := by decide +kernel
theorem d_M_takeOut_24 : decode b_M_takeOut 24 = .ok (.aload_n 0, 1) := by decide +kernel
theorem d_M_takeOut_25 : decode b_M_takeOut 25 = .ok (.getfield 38, 3) := by decide +kernel
theorem d_M_takeOut_28 : decode b_M_takeOut 28 = .ok (.iload_n 2, 1) := by decide +kernel
theorem d_M_takeOut_29 : decode b_M_takeOut 29 = .ok (.aload_n 0, 1) := by decide +kernel
theorem d_M_takeOut_30 : decode b_M_takeOut 30 = .ok (.getfield 38, 3) := by decide +kernel
theorem d_M_takeOut_33 : decode b_M_takeOut 33 = .ok (.iload_n 2, 1) := by decide +kernel
theorem d_M_takeOut_34 : decode b_M_takeOut 34 = .ok (.iconst 5, 1) := by decide +kernel
theorem d_M_takeOut_35 : decode b_M_takeOut 35 = .ok (.iadd, 1) := by decide +kernel
theorem d_M_takeOut_36 : decode b_M_takeOut 36 = .ok (.iaload, 1) := by decide +kernel
theorem d_M_takeOut_37 : decode b_M_takeOut 37 = .ok (.iastore, 1) := by decide +kernel
theorem d_M_takeOut_38 : decode b_M_takeOut 38 = .ok (.iinc 2 1, 3) := by decide +kernel
theorem d_M_takeOut_41 : decode b_M_takeOut 41 = .ok (.goto (-27), 3) := by decide +kernel
theorem d_M_takeOut_44 : decode b_M_takeOut 44 = .ok (.return_, 1) := by decide +kernel
theorem d_M_deliver_0 : decode b_M_deliver 0 = .ok (.aload_n 0, 1) := by decide +kernel
theorem d_M_deliver_1 : decode b_M_deliver 1 = .ok (.iload_n 1, 1) := by decide +kernel
theorem d_M_deliver_2 : decode b_M_deliver 2 = .ok (.invokevirtual 82, 3) := by decide +kernel
theorem d_M_deliver_5 : decode b_M_deliver 5 = .ok (.ifCond .ne 5, 3) := by decide +kernel
theorem d_M_deliver_8 : decode b_M_deliver 8 = .ok (.iconst (-1), 1) := by decide +kernel
theorem d_M_deliver_9 : decode b_M_deliver 9 = .ok (.ireturn, 1) := by decide +kernel
theorem d_M_deliver_10 : decode b_M_deliver 10 = .ok (.aload_n 0, 1) := by decide +kernel
theorem d_M_deliver_11 : decode b_M_deliver 11 = .ok (.getfield 38, 3) := by decide +kernel
theorem d_M_deliver_14 : decode b_M_deliver 14 = .ok (.iconst 5, 1) := by decide +kernel
theorem d_M_deliver_15 : decode b_M_deliver 15 = .ok (.iload_n 1, 1) := by decide +kernel
theorem d_M_deliver_16 : decode b_M_deliver 16 = .ok (.imul, 1) := by decide +kernel
theorem d_M_deliver_17 : decode b_M_deliver 17 = .ok (.iaload, 1) := by decide +kernel
theorem d_M_deliver_18 : decode b_M_deliver 18 = .ok (.istore_n 2, 1) := by decide +kernel
theorem d_M_deliver_19 : decode b_M_deliver 19 = .ok (.aload_n 0, 1) := by decide +kernel
theorem d_M_deliver_20 : decode b_M_deliver 20 = .ok (.getfield 38, 3) := by decide +kernel
theorem d_M_deliver_23 : decode b_M_deliver 23 = .ok (.iconst 5, 1) := by decide +kernel
theorem d_M_deliver_24 : decode b_M_deliver 24 = .ok (.iload_n 1, 1) := by decide +kernel
theorem d_M_deliver_25 : decode b_M_deliver 25 = .ok (.imul, 1) := by decide +kernel
theorem d_M_deliver_26 : decode b_M_deliver 26 = .ok (.iconst 1, 1) := by decide +kernel
theorem d_M_deliver_27 : decode b_M_deliver 27 = .ok (.iadd, 1) := by decide +kernel
theorem d_M_deliver_28 : decode b_M_deliver 28 = .ok (.iaload, 1) := by decide +kernel
theorem d_M_deliver_29 : decode b_M_deliver 29 = .ok (.iconst 1, 1) := by decide +kernel
theorem d_M_deliver_30 : decode b_M_deliver 30 = .ok (.if_icmp .ne 7, 3) := by decide +kernel
theorem d_M_deliver_33 : decode b_M_deliver 33 = .ok (.iconst 1, 1) := by decide +kernel
theorem d_M_deliver_34 : decode b_M_deliver 34 = .ok (.goto 4, 3) := by decide +kernel
theorem d_M_deliver_37 : decode b_M_deliver 37 = .ok (.iconst 0, 1) := by decide +kernel
theorem d_M_deliver_38 : decode b_M_deliver 38 = .ok (.istore_n 3, 1) := by decide +kernel
theorem d_M_deliver_39 : decode b_M_deliver 39 = .ok (.aload_n 0, 1) := by decide +kernel
theorem d_M_deliver_40 : decode b_M_deliver 40 = .ok (.getfield 38, 3) := by decide +kernel
theorem d_M_deliver_43 : decode b_M_deliver 43 = .ok (.iconst 5, 1) := by decide +kernel
theorem d_M_deliver_44 : decode b_M_deliver 44 = .ok (.iload_n 1, 1) := by decide +kernel
theorem d_M_deliver_45 : decode b_M_deliver 45 = .ok (.imul, 1) := by decide +kernel
theorem d_M_deliver_46 : decode b_M_deliver 46 = .ok (.iconst 2, 1) := by decide +kernel
theorem d_M_deliver_47 : decode b_M_deliver 47 = .ok (.iadd, 1) := by decide +kernel
theorem d_M_deliver_48 : decode b_M_deliver 48 = .ok (.iaload, 1) := by decide +kernel
theorem d_M_deliver_49 : decode b_M_deliver 49 = .ok (.istore 4, 2) := by decide +kernel
theorem d_M_deliver_51 : decode b_M_deliver 51 = .ok (.aload_n 0, 1) := by decide +kernel
theorem d_M_deliver_52 : decode b_M_deliver 52 = .ok (.getfield 38, 3) := by decide +kernel
theorem d_M_deliver_55 : decode b_M_deliver 55 = .ok (.iconst 5, 1) := by decide +kernel
theorem d_M_deliver_56 : decode b_M_deliver 56 = .ok (.iload_n 1, 1) := by decide +kernel
theorem d_M_deliver_57 : decode b_M_deliver 57 = .ok (.imul, 1) := by decide +kernel
theorem d_M_deliver_58 : decode b_M_deliver 58 = .ok (.iconst 3, 1) := by decide +kernel
theorem d_M_deliver_59 : decode b_M_deliver 59 = .ok (.iadd, 1) := by decide +kernel
theorem d_M_deliver_60 : decode b_M_deliver 60 = .ok (.iaload, 1) := by decide +kernel
theorem d_M_deliver_61 : decode b_M_deliver 61 = .ok (.istore 5, 2) := by decide +kernel
theorem d_M_deliver_63 : decode b_M_deliver 63 = .ok (.aload_n 0, 1) := by decide +kernel
theorem d_M_deliver_64 : decode b_M_deliver 64 = .ok (.getfield 38, 3) := by decide +kernel
theorem d_M_deliver_67 : decode b_M_deliver 67 = .ok (.iconst 5, 1) := by decide +kernel
theorem d_M_deliver_68 : decode b_M_deliver 68 = .ok (.iload_n 1, 1) := by decide +kernel
theorem d_M_deliver_69 : decode b_M_deliver 69 = .ok (.imul, 1) := by decide +kernel
theorem d_M_deliver_70 : decode b_M_deliver 70 = .ok (.iconst 4, 1) := by decide +kernel
theorem d_M_deliver_71 : decode b_M_deliver 71 = .ok (.iadd, 1) := by decide +kernel
theorem d_M_deliver_72 : decode b_M_deliver 72 = .ok (.iaload, 1) := by decide +kernel
theorem d_M_deliver_73 : decode b_M_deliver 73 = .ok (.istore 6, 2) := by decide +kernel
theorem d_M_deliver_75 : decode b_M_deliver 75 = .ok (.aload_n 0, 1) := by decide +kernel
theorem d_M_deliver_76 : decode b_M_deliver 76 = .ok (.iload_n 1, 1) := by decide +kernel
theorem d_M_deliver_77 : decode b_M_deliver 77 = .ok (.invokevirtual 85, 3) := by decide +kernel
theorem d_M_deliver_80 : decode b_M_deliver 80 = .ok (.iload_n 3, 1) := by decide +kernel
theorem d_M_deliver_81 : decode b_M_deliver 81 = .ok (.ifCond .eq 54, 3) := by decide +kernel
theorem d_M_deliver_84 : decode b_M_deliver 84 = .ok (.iload 4, 2) := by decide +kernel
theorem d_M_deliver_86 : decode b_M_deliver 86 = .ok (.aload_n 0, 1) := by decide +kernel
theorem d_M_deliver_87 : decode b_M_deliver 87 = .ok (.getfield 35, 3) := by decide +kernel
theorem d_M_deliver_90 : decode b_M_deliver 90 = .ok (.iload_n 2, 1) := by decide +kernel
theorem d_M_deliver_91 : decode b_M_deliver 91 = .ok (.iaload, 1) := by decide +kernel
theorem d_M_deliver_92 : decode b_M_deliver 92 = .ok (.if_icmp .le 7, 3) := by decide +kernel
theorem d_M_deliver_95 : decode b_M_deliver 95 = .ok (.iconst 1, 1) := by decide +kernel
theorem d_M_deliver_96 : decode b_M_deliver 96 = .ok (.goto 4, 3) := by decide +kernel
theorem d_M_deliver_99 : decode b_M_deliver 99 = .ok (.iconst 0, 1) := by decide +kernel
theorem d_M_deliver_100 : decode b_M_deliver 100 = .ok (.istore 7, 2) := by decide +kernel
theorem d_M_deliver_102 : decode b_M_deliver 102 = .ok (.aload_n 0, 1) := by decide +kernel
theorem d_M_deliver_103 : decode b_M_deliver 103 = .ok (.getfield 35, 3) := by decide +kernel
theorem d_M_deliver_106 : decode b_M_deliver 106 = .ok (.iload_n 2, 1) := by decide +kernel
theorem d_M_deliver_107 : decode b_M_deliver 107 = .ok (.iload 7, 2) := by decide +kernel
theorem d_M_deliver_109 : decode b_M_deliver 109 = .ok (.ifCond .eq 8, 3) := by decide +kernel
theorem d_M_deliver_112 : decode b_M_deliver 112 = .ok (.iload 4, 2) := by decide +kernel
theorem d_M_deliver_114 : decode b_M_deliver 114 = .ok (.goto 9, 3) := by decide +kernel
theorem d_M_deliver_117 : decode b_M_deliver 117 = .ok (.aload_n 0, 1) := by decide +kernel
theorem d_M_deliver_118 : decode b_M_deliver 118 = .ok (.getfield 35, 3) := by decide +kernel
theorem d_M_deliver_121 : decode b_M_deliver 121 = .ok (.iload_n 2, 1) := by decide +kernel
theorem d_M_deliver_122 : decode b_M_deliver 122 = .ok (.iaload, 1) := by decide +kernel
theorem d_M_deliver_123 : decode b_M_deliver 123 = .ok (.iastore, 1) := by decide +kernel
theorem d_M_deliver_124 : decode b_M_deliver 124 = .ok (.iload 7, 2) := by decide +kernel
theorem d_M_deliver_126 : decode b_M_deliver 126 = .ok (.ifCond .eq 7, 3) := by decide +kernel
theorem d_M_deliver_129 : decode b_M_deliver 129 = .ok (.iconst 1, 1) := by decide +kernel
theorem d_M_deliver_130 : decode b_M_deliver 130 = .ok (.goto 4, 3) := by decide +kernel
theorem d_M_deliver_133 : decode b_M_deliver 133 = .ok (.iconst 0, 1) := by decide +kernel
theorem d_M_deliver_134 : decode b_M_deliver 134 = .ok (.ireturn, 1) := by decide +kernel
theorem d_M_deliver_135 : decode b_M_deliver 135 = .ok (.aload_n 0, 1) := by decide +kernel
theorem d_M_deliver_136 : decode b_M_deliver 136 = .ok (.getfield 32, 3) := by decide +kernel
theorem d_M_deliver_139 : decode b_M_deliver 139 = .ok (.iload_n 2, 1) := by decide +kernel
theorem d_M_deliver_140 : decode b_M_deliver 140 = .ok (.iload 4, 2) := by decide +kernel
theorem d_M_deliver_142 : decode b_M_deliver 142 = .ok (.aload_n 0, 1) := by decide +kernel
theorem d_M_deliver_143 : decode b_M_deliver 143 = .ok (.getfield 32, 3) := by decide +kernel
theorem d_M_deliver_146 : decode b_M_deliver 146 = .ok (.iload_n 2, 1) := by decide +kernel
theorem d_M_deliver_147 : decode b_M_deliver 147 = .ok (.iaload, 1) := by decide +kernel
theorem d_M_deliver_148 : decode b_M_deliver 148 = .ok (.if_icmp .le 8, 3) := by decide +kernel
theorem d_M_deliver_151 : decode b_M_deliver 151 = .ok (.iload 4, 2) := by decide +kernel
theorem d_M_deliver_153 : decode b_M_deliver 153 = .ok (.goto 9, 3) := by decide +kernel
theorem d_M_deliver_156 : decode b_M_deliver 156 = .ok (.aload_n 0, 1) := by decide +kernel
theorem d_M_deliver_157 : decode b_M_deliver 157 = .ok (.getfield 32, 3) := by decide +kernel
theorem d_M_deliver_160 : decode b_M_deliver 160 = .ok (.iload_n 2, 1) := by decide +kernel
theorem d_M_deliver_161 : decode b_M_deliver 161 = .ok (.iaload, 1) := by decide +kernel
theorem d_M_deliver_162 : decode b_M_deliver 162 = .ok (.iastore, 1) := by decide +kernel
theorem d_M_deliver_163 : decode b_M_deliver 163 = .ok (.aload_n 0, 1) := by decide +kernel
theorem d_M_deliver_164 : decode b_M_deliver 164 = .ok (.getfield 20, 3) := by decide +kernel
theorem d_M_deliver_167 : decode b_M_deliver 167 = .ok (.iconst 3, 1) := by decide +kernel
theorem d_M_deliver_168 : decode b_M_deliver 168 = .ok (.aload_n 0, 1) := by decide +kernel
theorem d_M_deliver_169 : decode b_M_deliver 169 = .ok (.getfield 45, 3) := by decide +kernel
theorem d_M_deliver_172 : decode b_M_deliver 172 = .ok (.imul, 1) := by decide +kernel
theorem d_M_deliver_173 : decode b_M_deliver 173 = .ok (.iload_n 2, 1) := by decide +kernel
theorem d_M_deliver_174 : decode b_M_deliver 174 = .ok (.iadd, 1) := by decide +kernel
theorem d_M_deliver_175 : decode b_M_deliver 175 = .ok (.iaload, 1) := by decide +kernel
theorem d_M_deliver_176 : decode b_M_deliver 176 = .ok (.istore 7, 2) := by decide +kernel
theorem d_M_deliver_178 : decode b_M_deliver 178 = .ok (.iload 6, 2) := by decide +kernel
theorem d_M_deliver_180 : decode b_M_deliver 180 = .ok (.iconst 1, 1) := by decide +kernel
theorem d_M_deliver_181 : decode b_M_deliver 181 = .ok (.iadd, 1) := by decide +kernel
theorem d_M_deliver_182 : decode b_M_deliver 182 = .ok (.istore 8, 2) := by decide +kernel
theorem d_M_deliver_184 : decode b_M_deliver 184 = .ok (.iload 8, 2) := by decide +kernel
theorem d_M_deliver_186 : decode b_M_deliver 186 = .ok (.iload 6, 2) := by decide +kernel
theorem d_M_deliver_188 : decode b_M_deliver 188 = .ok (.iload 5, 2) := by decide +kernel
theorem d_M_deliver_190 : decode b_M_deliver 190 = .ok (.iadd, 1) := by decide +kernel
theorem d_M_deliver_191 : decode b_M_deliver 191 = .ok (.if_icmp .gt 50, 3) := by decide +kernel
theorem d_M_deliver_194 : decode b_M_deliver 194 = .ok (.aload_n 0, 1) := by decide +kernel
theorem d_M_deliver_195 : decode b_M_deliver 195 = .ok (.getfield 26, 3) := by decide +kernel
theorem d_M_deliver_198 : decode b_M_deliver 198 = .ok (.sipush 513, 3) := by decide +kernel
theorem d_M_deliver_201 : decode b_M_deliver 201 = .ok (.iload_n 2, 1) := by decide +kernel
theorem d_M_deliver_202 : decode b_M_deliver 202 = .ok (.imul, 1) := by decide +kernel
theorem d_M_deliver_203 : decode b_M_deliver 203 = .ok (.iload 8, 2) := by decide +kernel
theorem d_M_deliver_205 : decode b_M_deliver 205 = .ok (.iadd, 1) := by decide +kernel
theorem d_M_deliver_206 : decode b_M_deliver 206 = .ok (.aload_n 0, 1) := by decide +kernel
theorem d_M_deliver_207 : decode b_M_deliver 207 = .ok (.getfield 26, 3) := by decide +kernel
theorem d_M_deliver_210 : decode b_M_deliver 210 = .ok (.sipush 513, 3) := by decide +kernel
theorem d_M_deliver_213 : decode b_M_deliver 213 = .ok (.iload_n 2, 1) := by decide +kernel
theorem d_M_deliver_214 : decode b_M_deliver 214 = .ok (.imul, 1) := by decide +kernel
theorem d_M_deliver_215 : decode b_M_deliver 215 = .ok (.iload 8, 2) := by decide +kernel
theorem d_M_deliver_217 : decode b_M_deliver 217 = .ok (.iadd, 1) := by decide +kernel
theorem d_M_deliver_218 : decode b_M_deliver 218 = .ok (.baload, 1) := by decide +kernel
theorem d_M_deliver_219 : decode b_M_deliver 219 = .ok (.ifCond .ne 10, 3) := by decide +kernel
theorem d_M_deliver_222 : decode b_M_deliver 222 = .ok (.iload 8, 2) := by decide +kernel
theorem d_M_deliver_224 : decode b_M_deliver 224 = .ok (.iload 7, 2) := by decide +kernel
theorem d_M_deliver_226 : decode b_M_deliver 226 = .ok (.if_icmp .le 7, 3) := by decide +kernel
theorem d_M_deliver_229 : decode b_M_deliver 229 = .ok (.iconst 1, 1) := by decide +kernel
theorem d_M_deliver_230 : decode b_M_deliver 230 = .ok (.goto 4, 3) := by decide +kernel
theorem d_M_deliver_233 : decode b_M_deliver 233 = .ok (.iconst 0, 1) := by decide +kernel
theorem d_M_deliver_234 : decode b_M_deliver 234 = .ok (.bastore, 1) := by decide +kernel
theorem d_M_deliver_235 : decode b_M_deliver 235 = .ok (.iinc 8 1, 3) := by decide +kernel
theorem d_M_deliver_238 : decode b_M_deliver 238 = .ok (.goto (-54), 3) := by decide +kernel
theorem d_M_deliver_241 : decode b_M_deliver 241 = .ok (.iconst 1, 1) := by decide +kernel
theorem d_M_deliver_242 : decode b_M_deliver 242 = .ok (.ireturn, 1) := by decide +kernel
theorem d_M_lose_0 : decode b_M_lose 0 = .ok (.aload_n 0, 1) := by decide +kernel
theorem d_M_lose_1 : decode b_M_lose 1 = .ok (.iload_n 1, 1) := by decide +kernel
theorem d_M_lose_2 : decode b_M_lose 2 = .ok (.invokevirtual 82, 3) := by decide +kernel
theorem d_M_lose_5 : decode b_M_lose 5 = .ok (.ifCond .ne 5, 3) := by decide +kernel
theorem d_M_lose_8 : decode b_M_lose 8 = .ok (.iconst 0, 1) := by decide +kernel
theorem d_M_lose_9 : decode b_M_lose 9 = .ok (.ireturn, 1) := by decide +kernel
theorem d_M_lose_10 : decode b_M_lose 10 = .ok (.aload_n 0, 1) := by decide +kernel
theorem d_M_lose_11 : decode b_M_lose 11 = .ok (.iload_n 1, 1) := by decide +kernel
theorem d_M_lose_12 : decode b_M_lose 12 = .ok (.invokevirtual 85, 3) := by decide +kernel
theorem d_M_lose_15 : decode b_M_lose 15 = .ok (.iconst 1, 1) := by decide +kernel
theorem d_M_lose_16 : decode b_M_lose 16 = .ok (.ireturn, 1) := by decide +kernel
theorem d_M_copy_0 : decode b_M_copy 0 = .ok (.aload_n 0, 1) := by decide +kernel
theorem d_M_copy_1 : decode b_M_copy 1 = .ok (.iload_n 1, 1) := by decide +kernel
theorem d_M_copy_2 : decode b_M_copy 2 = .ok (.invokevirtual 82, 3) := by decide +kernel
theorem d_M_copy_5 : decode b_M_copy 5 = .ok (.ifCond .eq 12, 3) := by decide +kernel
theorem d_M_copy_8 : decode b_M_copy 8 = .ok (.aload_n 0, 1) := by decide +kernel
theorem d_M_copy_9 : decode b_M_copy 9 = .ok (.getfield 60, 3) := by decide +kernel
theorem d_M_copy_12 : decode b_M_copy 12 = .ok (.bipush 24, 2) := by decide +kernel
theorem d_M_copy_14 : decode b_M_copy 14 = .ok (.if_icmp .ne 5, 3) := by decide +kernel
theorem d_M_copy_17 : decode b_M_copy 17 = .ok (.iconst 0, 1) := by decide +kernel
theorem d_M_copy_18 : decode b_M_copy 18 = .ok (.ireturn, 1) := by decide +kernel
theorem d_M_copy_19 : decode b_M_copy 19 = .ok (.iconst 5, 1) := by decide +kernel
theorem d_M_copy_20 : decode b_M_copy 20 = .ok (.iload_n 1, 1) := by decide +kernel
theorem d_M_copy_21 : decode b_M_copy 21 = .ok (.imul, 1) := by decide +kernel
theorem d_M_copy_22 : decode b_M_copy 22 = .ok (.istore_n 2, 1) := by decide +kernel
theorem d_M_copy_23 : decode b_M_copy 23 = .ok (.aload_n 0, 1) := by decide +kernel
theorem d_M_copy_24 : decode b_M_copy 24 = .ok (.aload_n 0, 1) := by decide +kernel
theorem d_M_copy_25 : decode b_M_copy 25 = .ok (.getfield 38, 3) := by decide +kernel
theorem d_M_copy_28 : decode b_M_copy 28 = .ok (.iload_n 2, 1) := by decide +kernel
theorem d_M_copy_29 : decode b_M_copy 29 = .ok (.iaload, 1) := by decide +kernel
theorem d_M_copy_30 : decode b_M_copy 30 = .ok (.aload_n 0, 1) := by decide +kernel
theorem d_M_copy_31 : decode b_M_copy 31 = .ok (.getfield 38, 3) := by decide +kernel
theorem d_M_copy_34 : decode b_M_copy 34 = .ok (.iload_n 2, 1) := by decide +kernel
theorem d_M_copy_35 : decode b_M_copy 35 = .ok (.iconst 1, 1) := by decide +kernel
theorem d_M_copy_36 : decode b_M_copy 36 = .ok (.iadd, 1) := by decide +kernel
theorem d_M_copy_37 : decode b_M_copy 37 = .ok (.iaload, 1) := by decide +kernel
theorem d_M_copy_38 : decode b_M_copy 38 = .ok (.aload_n 0, 1) := by decide +kernel
theorem d_M_copy_39 : decode b_M_copy 39 = .ok (.getfield 38, 3) := by decide +kernel
theorem d_M_copy_42 : decode b_M_copy 42 = .ok (.iload_n 2, 1) := by decide +kernel
theorem d_M_copy_43 : decode b_M_copy 43 = .ok (.iconst 2, 1) := by decide +kernel
theorem d_M_copy_44 : decode b_M_copy 44 = .ok (.iadd, 1) := by decide +kernel
theorem d_M_copy_45 : decode b_M_copy 45 = .ok (.iaload, 1) := by decide +kernel
theorem d_M_copy_46 : decode b_M_copy 46 = .ok (.aload_n 0, 1) := by decide +kernel
theorem d_M_copy_47 : decode b_M_copy 47 = .ok (.getfield 38, 3) := by decide +kernel
theorem d_M_copy_50 : decode b_M_copy 50 = .ok (.iload_n 2, 1) := by decide +kernel
theorem d_M_copy_51 : decode b_M_copy 51 = .ok (.iconst 3, 1) := by decide +kernel
theorem d_M_copy_52 : decode b_M_copy 52 = .ok (.iadd, 1) := by decide +kernel
theorem d_M_copy_53 : decode b_M_copy 53 = .ok (.iaload, 1) := by decide +kernel
theorem d_M_copy_54 : decode b_M_copy 54 = .ok (.aload_n 0, 1) := by decide +kernel
theorem d_M_copy_55 : decode b_M_copy 55 = .ok (.getfield 38, 3) := by decide +kernel
theorem d_M_copy_58 : decode b_M_copy 58 = .ok (.iload_n 2, 1) := by decide +kernel
theorem d_M_copy_59 : decode b_M_copy 59 = .ok (.iconst 4, 1) := by decide +kernel
theorem d_M_copy_60 : decode b_M_copy 60 = .ok (.iadd, 1) := by decide +kernel
theorem d_M_copy_61 : decode b_M_copy 61 = .ok (.iaload, 1) := by decide +kernel
theorem d_M_copy_62 : decode b_M_copy 62 = .ok (.invokevirtual 63, 3) := by decide +kernel
theorem d_M_copy_65 : decode b_M_copy 65 = .ok (.iconst 1, 1) := by decide +kernel
theorem d_M_copy_66 : decode b_M_copy 66 = .ok (.ireturn, 1) := by decide +kernel
theorem d_M_flight_0 : decode b_M_flight 0 = .ok (.aload_n 0, 1) := by decide +kernel
theorem d_M_flight_1 : decode b_M_flight 1 = .ok (.getfield 60, 3) := by decide +kernel
theorem d_M_flight_4 : decode b_M_flight 4 = .ok (.ireturn, 1) := by decide +kernel
theorem d_M_packet_0 : decode b_M_packet 0 = .ok (.aload_n 0, 1) := by decide +kernel
theorem d_M_packet_1 : decode b_M_packet 1 = .ok (.iload_n 1, 1) := by decide +kernel
theorem d_M_packet_2 : decode b_M_packet 2 = .ok (.invokevirtual 82, 3) := by decide +kernel
theorem d_M_packet_5 : decode b_M_packet 5 = .ok (.ifCond .eq 12, 3) := by decide +kernel
theorem d_M_packet_8 : decode b_M_packet 8 = .ok (.iload_n 2, 1) := by decide +kernel
theorem d_M_packet_9 : decode b_M_packet 9 = .ok (.ifCond .lt 8, 3) := by decide +kernel
theorem d_M_packet_12 : decode b_M_packet 12 = .ok (.iload_n 2, 1) := by decide +kernel
theorem d_M_packet_13 : decode b_M_packet 13 = .ok (.iconst 5, 1) := by decide +kernel
theorem d_M_packet_14 : decode b_M_packet 14 = .ok (.if_icmp .le 5, 3) := by decide +kernel
theorem d_M_packet_17 : decode b_M_packet 17 = .ok (.iconst (-1), 1) := by decide +kernel
theorem d_M_packet_18 : decode b_M_packet 18 = .ok (.ireturn, 1) := by decide +kernel
theorem d_M_packet_19 : decode b_M_packet 19 = .ok (.iconst 5, 1) := by decide +kernel
theorem d_M_packet_20 : decode b_M_packet 20 = .ok (.iload_n 1, 1) := by decide +kernel
theorem d_M_packet_21 : decode b_M_packet 21 = .ok (.imul, 1) := by decide +kernel
theorem d_M_packet_22 : decode b_M_packet 22 = .ok (.istore_n 3, 1) := by decide +kernel
theorem d_M_packet_23 : decode b_M_packet 23 = .ok (.iload_n 2, 1) := by decide +kernel
theorem d_M_packet_24 : decode b_M_packet 24 = .ok (.iconst 2, 1) := by decide +kernel
theorem d_M_packet_25 : decode b_M_packet 25 = .ok (.if_icmp .ne 11, 3) := by decide +kernel
theorem d_M_packet_28 : decode b_M_packet 28 = .ok (.aload_n 0, 1) := by decide +kernel
theorem d_M_packet_29 : decode b_M_packet 29 = .ok (.iload_n 3, 1) := by decide +kernel
theorem d_M_packet_30 : decode b_M_packet 30 = .ok (.invokevirtual 89, 3) := by decide +kernel
theorem d_M_packet_33 : decode b_M_packet 33 = .ok (.goto 29, 3) := by decide +kernel
theorem d_M_packet_36 : decode b_M_packet 36 = .ok (.iload_n 2, 1) := by decide +kernel
theorem d_M_packet_37 : decode b_M_packet 37 = .ok (.iconst 2, 1) := by decide +kernel
theorem d_M_packet_38 : decode b_M_packet 38 = .ok (.if_icmp .ge 14, 3) := by decide +kernel
theorem d_M_packet_41 : decode b_M_packet 41 = .ok (.aload_n 0, 1) := by decide +kernel
theorem d_M_packet_42 : decode b_M_packet 42 = .ok (.getfield 38, 3) := by decide +kernel
theorem d_M_packet_45 : decode b_M_packet 45 = .ok (.iload_n 3, 1) := by decide +kernel
theorem d_M_packet_46 : decode b_M_packet 46 = .ok (.iload_n 2, 1) := by decide +kernel
theorem d_M_packet_47 : decode b_M_packet 47 = .ok (.iadd, 1) := by decide +kernel
theorem d_M_packet_48 : decode b_M_packet 48 = .ok (.iaload, 1) := by decide +kernel
theorem d_M_packet_49 : decode b_M_packet 49 = .ok (.goto 13, 3) := by decide +kernel
theorem d_M_packet_52 : decode b_M_packet 52 = .ok (.aload_n 0, 1) := by decide +kernel
theorem d_M_packet_53 : decode b_M_packet 53 = .ok (.getfield 38, 3) := by decide +kernel
theorem d_M_packet_56 : decode b_M_packet 56 = .ok (.iload_n 3, 1) := by decide +kernel
theorem d_M_packet_57 : decode b_M_packet 57 = .ok (.iload_n 2, 1) := by decide +kernel
theorem d_M_packet_58 : decode b_M_packet 58 = .ok (.iadd, 1) := by decide +kernel
theorem d_M_packet_59 : decode b_M_packet 59 = .ok (.iconst 1, 1) := by decide +kernel
theorem d_M_packet_60 : decode b_M_packet 60 = .ok (.isub, 1) := by decide +kernel
theorem d_M_packet_61 : decode b_M_packet 61 = .ok (.iaload, 1) := by decide +kernel
theorem d_M_packet_62 : decode b_M_packet 62 = .ok (.ireturn, 1) := by decide +kernel
theorem d_M_position_0 : decode b_M_position 0 = .ok (.iload_n 1, 1) := by decide +kernel
theorem d_M_position_1 : decode b_M_position 1 = .ok (.invokestatic 49, 3) := by decide +kernel
theorem d_M_position_4 : decode b_M_position 4 = .ok (.ifCond .eq 20, 3) := by decide +kernel
theorem d_M_position_7 : decode b_M_position 7 = .ok (.aload_n 0, 1) := by decide +kernel
theorem d_M_position_8 : decode b_M_position 8 = .ok (.getfield 17, 3) := by decide +kernel
theorem d_M_position_11 : decode b_M_position 11 = .ok (.bipush 8, 2) := by decide +kernel
theorem d_M_position_13 : decode b_M_position 13 = .ok (.aload_n 0, 1) := by decide +kernel
theorem d_M_position_14 : decode b_M_position 14 = .ok (.getfield 45, 3) := by decide +kernel
theorem d_M_position_17 : decode b_M_position 17 = .ok (.imul, 1) := by decide +kernel
theorem d_M_position_18 : decode b_M_position 18 = .ok (.iload_n 1, 1) := by decide +kernel
theorem d_M_position_19 : decode b_M_position 19 = .ok (.iadd, 1) := by decide +kernel
theorem d_M_position_20 : decode b_M_position 20 = .ok (.iaload, 1) := by decide +kernel
theorem d_M_position_21 : decode b_M_position 21 = .ok (.goto 4, 3) := by decide +kernel
theorem d_M_position_24 : decode b_M_position 24 = .ok (.iconst (-1), 1) := by decide +kernel
theorem d_M_position_25 : decode b_M_position 25 = .ok (.ireturn, 1) := by decide +kernel
theorem d_M_view_0 : decode b_M_view 0 = .ok (.iload_n 1, 1) := by decide +kernel
theorem d_M_view_1 : decode b_M_view 1 = .ok (.invokestatic 53, 3) := by decide +kernel
theorem d_M_view_4 : decode b_M_view 4 = .ok (.ifCond .eq 34, 3) := by decide +kernel
theorem d_M_view_7 : decode b_M_view 7 = .ok (.iload_n 2, 1) := by decide +kernel
theorem d_M_view_8 : decode b_M_view 8 = .ok (.invokestatic 49, 3) := by decide +kernel
theorem d_M_view_11 : decode b_M_view 11 = .ok (.ifCond .eq 27, 3) := by decide +kernel
theorem d_M_view_14 : decode b_M_view 14 = .ok (.aload_n 0, 1) := by decide +kernel
theorem d_M_view_15 : decode b_M_view 15 = .ok (.getfield 35, 3) := by decide +kernel
theorem d_M_view_18 : decode b_M_view 18 = .ok (.iload_n 1, 1) := by decide +kernel
theorem d_M_view_19 : decode b_M_view 19 = .ok (.iaload, 1) := by decide +kernel
theorem d_M_view_20 : decode b_M_view 20 = .ok (.ifCond .eq 18, 3) := by decide +kernel
theorem d_M_view_23 : decode b_M_view 23 = .ok (.aload_n 0, 1) := by decide +kernel
theorem d_M_view_24 : decode b_M_view 24 = .ok (.iload_n 1, 1) := by decide +kernel
theorem d_M_view_25 : decode b_M_view 25 = .ok (.iload_n 2, 1) := by decide +kernel
theorem d_M_view_26 : decode b_M_view 26 = .ok (.aload_n 0, 1) := by decide +kernel
theorem d_M_view_27 : decode b_M_view 27 = .ok (.getfield 35, 3) := by decide +kernel
theorem d_M_view_30 : decode b_M_view 30 = .ok (.iload_n 1, 1) := by decide +kernel
theorem d_M_view_31 : decode b_M_view 31 = .ok (.iaload, 1) := by decide +kernel
theorem d_M_view_32 : decode b_M_view 32 = .ok (.invokevirtual 74, 3) := by decide +kernel
theorem d_M_view_35 : decode b_M_view 35 = .ok (.ifCond .ne 5, 3) := by decide +kernel
theorem d_M_view_38 : decode b_M_view 38 = .ok (.iconst (-1), 1) := by decide +kernel
theorem d_M_view_39 : decode b_M_view 39 = .ok (.ireturn, 1) := by decide +kernel
theorem d_M_view_40 : decode b_M_view 40 = .ok (.aload_n 0, 1) := by decide +kernel
theorem d_M_view_41 : decode b_M_view 41 = .ok (.getfield 17, 3) := by decide +kernel
theorem d_M_view_44 : decode b_M_view 44 = .ok (.bipush 8, 2) := by decide +kernel
theorem d_M_view_46 : decode b_M_view 46 = .ok (.aload_n 0, 1) := by decide +kernel
theorem d_M_view_47 : decode b_M_view 47 = .ok (.getfield 35, 3) := by decide +kernel
theorem d_M_view_50 : decode b_M_view 50 = .ok (.iload_n 1, 1) := by decide +kernel
theorem d_M_view_51 : decode b_M_view 51 = .ok (.iaload, 1) := by decide +kernel
theorem d_M_view_52 : decode b_M_view 52 = .ok (.imul, 1) := by decide +kernel
theorem d_M_view_53 : decode b_M_view 53 = .ok (.iload_n 2, 1) := by decide +kernel
theorem d_M_view_54 : decode b_M_view 54 = .ok (.iadd, 1) := by decide +kernel
theorem d_M_view_55 : decode b_M_view 55 = .ok (.iaload, 1) := by decide +kernel
theorem d_M_view_56 : decode b_M_view 56 = .ok (.ireturn, 1) := by decide +kernel
theorem d_M_predicted_0 : decode b_M_predicted 0 = .ok (.iload_n 1, 1) := by decide +kernel
theorem d_M_predicted_1 : decode b_M_predicted 1 = .ok (.invokestatic 53, 3) := by decide +kernel
theorem d_M_predicted_4 : decode b_M_predicted 4 = .ok (.ifCond .ne 5, 3) := by decide +kernel
theorem d_M_predicted_7 : decode b_M_predicted 7 = .ok (.iconst (-1), 1) := by decide +kernel
theorem d_M_predicted_8 : decode b_M_predicted 8 = .ok (.ireturn, 1) := by decide +kernel
theorem d_M_predicted_9 : decode b_M_predicted 9 = .ok (.aload_n 0, 1) := by decide +kernel
theorem d_M_predicted_10 : decode b_M_predicted 10 = .ok (.getfield 17, 3) := by decide +kernel
theorem d_M_predicted_13 : decode b_M_predicted 13 = .ok (.bipush 8, 2) := by decide +kernel
theorem d_M_predicted_15 : decode b_M_predicted 15 = .ok (.aload_n 0, 1) := by decide +kernel
theorem d_M_predicted_16 : decode b_M_predicted 16 = .ok (.getfield 35, 3) := by decide +kernel
theorem d_M_predicted_19 : decode b_M_predicted 19 = .ok (.iload_n 1, 1) := by decide +kernel
theorem d_M_predicted_20 : decode b_M_predicted 20 = .ok (.iaload, 1) := by decide +kernel
theorem d_M_predicted_21 : decode b_M_predicted 21 = .ok (.imul, 1) := by decide +kernel
theorem d_M_predicted_22 : decode b_M_predicted 22 = .ok (.iload_n 1, 1) := by decide +kernel
theorem d_M_predicted_23 : decode b_M_predicted 23 = .ok (.iadd, 1) := by decide +kernel
theorem d_M_predicted_24 : decode b_M_predicted 24 = .ok (.iaload, 1) := by decide +kernel
theorem d_M_predicted_25 : decode b_M_predicted 25 = .ok (.istore_n 2, 1) := by decide +kernel
theorem d_M_predicted_26 : decode b_M_predicted 26 = .ok (.aload_n 0, 1) := by decide +kernel
theorem d_M_predicted_27 : decode b_M_predicted 27 = .ok (.iload_n 1, 1) := by decide +kernel
theorem d_M_predicted_28 : decode b_M_predicted 28 = .ok (.invokevirtual 56, 3) := by decide +kernel
theorem d_M_predicted_31 : decode b_M_predicted 31 = .ok (.iconst 1, 1) := by decide +kernel
theorem d_M_predicted_32 : decode b_M_predicted 32 = .ok (.iadd, 1) := by decide +kernel
theorem d_M_predicted_33 : decode b_M_predicted 33 = .ok (.istore_n 3, 1) := by decide +kernel
theorem d_M_predicted_34 : decode b_M_predicted 34 = .ok (.iload_n 3, 1) := by decide +kernel
theorem d_M_predicted_35 : decode b_M_predicted 35 = .ok (.aload_n 0, 1) := by decide +kernel
theorem d_M_predicted_36 : decode b_M_predicted 36 = .ok (.getfield 29, 3) := by decide +kernel
theorem d_M_predicted_39 : decode b_M_predicted 39 = .ok (.iload_n 1, 1) := by decide +kernel
theorem d_M_predicted_40 : decode b_M_predicted 40 = .ok (.iaload, 1) := by decide +kernel
theorem d_M_predicted_41 : decode b_M_predicted 41 = .ok (.if_icmp .gt 27, 3) := by decide +kernel
theorem d_M_predicted_44 : decode b_M_predicted 44 = .ok (.aload_n 0, 1) := by decide +kernel
theorem d_M_predicted_45 : decode b_M_predicted 45 = .ok (.iload_n 2, 1) := by decide +kernel
theorem d_M_predicted_46 : decode b_M_predicted 46 = .ok (.aload_n 0, 1) := by decide +kernel
theorem d_M_predicted_47 : decode b_M_predicted 47 = .ok (.getfield 23, 3) := by decide +kernel
theorem d_M_predicted_50 : decode b_M_predicted 50 = .ok (.sipush 513, 3) := by decide +kernel
theorem d_M_predicted_53 : decode b_M_predicted 53 = .ok (.iload_n 1, 1) := by decide +kernel
theorem d_M_predicted_54 : decode b_M_predicted 54 = .ok (.imul, 1) := by decide +kernel
theorem d_M_predicted_55 : decode b_M_predicted 55 = .ok (.iload_n 3, 1) := by decide +kernel
theorem d_M_predicted_56 : decode b_M_predicted 56 = .ok (.iadd, 1) := by decide +kernel
theorem d_M_predicted_57 : decode b_M_predicted 57 = .ok (.iaload, 1) := by decide +kernel
theorem d_M_predicted_58 : decode b_M_predicted 58 = .ok (.invokevirtual 67, 3) := by decide +kernel
theorem d_M_predicted_61 : decode b_M_predicted 61 = .ok (.istore_n 2, 1) := by decide +kernel
theorem d_M_predicted_62 : decode b_M_predicted 62 = .ok (.iinc 3 1, 3) := by decide +kernel
theorem d_M_predicted_65 : decode b_M_predicted 65 = .ok (.goto (-31), 3) := by decide +kernel
theorem d_M_predicted_68 : decode b_M_predicted 68 = .ok (.iload_n 2, 1) := by decide +kernel
theorem d_M_predicted_69 : decode b_M_predicted 69 = .ok (.ireturn, 1) := by decide +kernel
theorem d_M_count_0 : decode b_M_count 0 = .ok (.iload_n 1, 1) := by decide +kernel
theorem d_M_count_1 : decode b_M_count 1 = .ok (.invokestatic 53, 3) := by decide +kernel
theorem d_M_count_4 : decode b_M_count 4 = .ok (.ifCond .ne 5, 3) := by decide +kernel
theorem d_M_count_7 : decode b_M_count 7 = .ok (.iconst (-1), 1) := by decide +kernel
theorem d_M_count_8 : decode b_M_count 8 = .ok (.ireturn, 1) := by decide +kernel
theorem d_M_count_9 : decode b_M_count 9 = .ok (.iconst 0, 1) := by decide +kernel
theorem d_M_count_10 : decode b_M_count 10 = .ok (.istore_n 3, 1) := by decide +kernel
theorem d_M_count_11 : decode b_M_count 11 = .ok (.iconst 1, 1) := by decide +kernel
theorem d_M_count_12 : decode b_M_count 12 = .ok (.istore 4, 2) := by decide +kernel
theorem d_M_count_14 : decode b_M_count 14 = .ok (.iload 4, 2) := by decide +kernel
theorem d_M_count_16 : decode b_M_count 16 = .ok (.aload_n 0, 1) := by decide +kernel
theorem d_M_count_17 : decode b_M_count 17 = .ok (.getfield 29, 3) := by decide +kernel
theorem d_M_count_20 : decode b_M_count 20 = .ok (.iload_n 1, 1) := by decide +kernel
theorem d_M_count_21 : decode b_M_count 21 = .ok (.iaload, 1) := by decide +kernel
theorem d_M_count_22 : decode b_M_count 22 = .ok (.if_icmp .gt 33, 3) := by decide +kernel
theorem d_M_count_25 : decode b_M_count 25 = .ok (.aload_n 0, 1) := by decide +kernel
theorem d_M_count_26 : decode b_M_count 26 = .ok (.getfield 26, 3) := by decide +kernel
theorem d_M_count_29 : decode b_M_count 29 = .ok (.sipush 513, 3) := by decide +kernel
theorem d_M_count_32 : decode b_M_count 32 = .ok (.iload_n 1, 1) := by decide +kernel
theorem d_M_count_33 : decode b_M_count 33 = .ok (.imul, 1) := by decide +kernel
theorem d_M_count_34 : decode b_M_count 34 = .ok (.iload 4, 2) := by decide +kernel
theorem d_M_count_36 : decode b_M_count 36 = .ok (.iadd, 1) := by decide +kernel
theorem d_M_count_37 : decode b_M_count 37 = .ok (.baload, 1) := by decide +kernel
theorem d_M_count_38 : decode b_M_count 38 = .ok (.ifCond .eq 9, 3) := by decide +kernel
theorem d_M_count_41 : decode b_M_count 41 = .ok (.iload_n 3, 1) := by decide +kernel
theorem d_M_count_42 : decode b_M_count 42 = .ok (.iconst 1, 1) := by decide +kernel
theorem d_M_count_43 : decode b_M_count 43 = .ok (.iadd, 1) := by decide +kernel
theorem d_M_count_44 : decode b_M_count 44 = .ok (.goto 4, 3) := by decide +kernel
theorem d_M_count_47 : decode b_M_count 47 = .ok (.iload_n 3, 1) := by decide +kernel
theorem d_M_count_48 : decode b_M_count 48 = .ok (.istore_n 3, 1) := by decide +kernel
theorem d_M_count_49 : decode b_M_count 49 = .ok (.iinc 4 1, 3) := by decide +kernel
theorem d_M_count_52 : decode b_M_count 52 = .ok (.goto (-38), 3) := by decide +kernel
theorem d_M_count_55 : decode b_M_count 55 = .ok (.iload_n 2, 1) := by decide +kernel
theorem d_M_count_56 : decode b_M_count 56 = .ok (.tableswitch 83 0 5 #[40, 47, 53, 67, 69, 76], 40) := by decide +kernel
theorem d_M_count_96 : decode b_M_count 96 = .ok (.aload_n 0, 1) := by decide +kernel
theorem d_M_count_97 : decode b_M_count 97 = .ok (.getfield 29, 3) := by decide +kernel
theorem d_M_count_100 : decode b_M_count 100 = .ok (.iload_n 1, 1) := by decide +kernel
theorem d_M_count_101 : decode b_M_count 101 = .ok (.iaload, 1) := by decide +kernel
theorem d_M_count_102 : decode b_M_count 102 = .ok (.ireturn, 1) := by decide +kernel
theorem d_M_count_103 : decode b_M_count 103 = .ok (.aload_n 0, 1) := by decide +kernel
theorem d_M_count_104 : decode b_M_count 104 = .ok (.iload_n 1, 1) := by decide +kernel
theorem d_M_count_105 : decode b_M_count 105 = .ok (.invokevirtual 56, 3) := by decide +kernel
theorem d_M_count_108 : decode b_M_count 108 = .ok (.ireturn, 1) := by decide +kernel
theorem d_M_count_109 : decode b_M_count 109 = .ok (.aload_n 0, 1) := by decide +kernel
theorem d_M_count_110 : decode b_M_count 110 = .ok (.getfield 20, 3) := by decide +kernel
theorem d_M_count_113 : decode b_M_count 113 = .ok (.iconst 3, 1) := by decide +kernel
theorem d_M_count_114 : decode b_M_count 114 = .ok (.aload_n 0, 1) := by decide +kernel
theorem d_M_count_115 : decode b_M_count 115 = .ok (.getfield 45, 3) := by decide +kernel
theorem d_M_count_118 : decode b_M_count 118 = .ok (.imul, 1) := by decide +kernel
theorem d_M_count_119 : decode b_M_count 119 = .ok (.iload_n 1, 1) := by decide +kernel
theorem d_M_count_120 : decode b_M_count 120 = .ok (.iadd, 1) := by decide +kernel
theorem d_M_count_121 : decode b_M_count 121 = .ok (.iaload, 1) := by decide +kernel
theorem d_M_count_122 : decode b_M_count 122 = .ok (.ireturn, 1) := by decide +kernel
theorem d_M_count_123 : decode b_M_count 123 = .ok (.iload_n 3, 1) := by decide +kernel
theorem d_M_count_124 : decode b_M_count 124 = .ok (.ireturn, 1) := by decide +kernel
theorem d_M_count_125 : decode b_M_count 125 = .ok (.aload_n 0, 1) := by decide +kernel
theorem d_M_count_126 : decode b_M_count 126 = .ok (.getfield 35, 3) := by decide +kernel
theorem d_M_count_129 : decode b_M_count 129 = .ok (.iload_n 1, 1) := by decide +kernel
theorem d_M_count_130 : decode b_M_count 130 = .ok (.iaload, 1) := by decide +kernel
theorem d_M_count_131 : decode b_M_count 131 = .ok (.ireturn, 1) := by decide +kernel
theorem d_M_count_132 : decode b_M_count 132 = .ok (.aload_n 0, 1) := by decide +kernel
theorem d_M_count_133 : decode b_M_count 133 = .ok (.getfield 32, 3) := by decide +kernel
theorem d_M_count_136 : decode b_M_count 136 = .ok (.iload_n 1, 1) := by decide +kernel
theorem d_M_count_137 : decode b_M_count 137 = .ok (.iaload, 1) := by decide +kernel
theorem d_M_count_138 : decode b_M_count 138 = .ok (.ireturn, 1) := by decide +kernel
theorem d_M_count_139 : decode b_M_count 139 = .ok (.iconst (-1), 1) := by decide +kernel
theorem d_M_count_140 : decode b_M_count 140 = .ok (.ireturn, 1) := by decide +kernel
