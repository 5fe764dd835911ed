theorem dX9_init_0 : decode cX9_init 0 = .ok (.aload_n 0, 1) := by decide +kernel
theorem dX9_init_1 : decode cX9_init 1 = .ok (.invokespecial 1, 3) := by decide +kernel
theorem dX9_init_4 : decode cX9_init 4 = .ok (.aload_n 0, 1) := by decide +kernel
theorem dX9_init_5 : decode cX9_init 5 = .ok (.new 7, 3) := by decide +kernel
theorem dX9_init_8 : decode cX9_init 8 = .ok (.dup, 1) := by decide +kernel
theorem dX9_init_9 : decode cX9_init 9 = .ok (.invokespecial 9, 3) := by decide +kernel
theorem dX9_init_12 : decode cX9_init 12 = .ok (.putfield 10, 3) := by decide +kernel
theorem dX9_init_15 : decode cX9_init 15 = .ok (.aload_n 0, 1) := by decide +kernel
theorem dX9_init_16 : decode cX9_init 16 = .ok (.new 16, 3) := by decide +kernel
theorem dX9_init_19 : decode cX9_init 19 = .ok (.dup, 1) := by decide +kernel
theorem dX9_init_20 : decode cX9_init 20 = .ok (.invokespecial 18, 3) := by decide +kernel
theorem dX9_init_23 : decode cX9_init 23 = .ok (.putfield 19, 3) := by decide +kernel
theorem dX9_init_26 : decode cX9_init 26 = .ok (.aload_n 0, 1) := by decide +kernel
theorem dX9_init_27 : decode cX9_init 27 = .ok (.new 23, 3) := by decide +kernel
theorem dX9_init_30 : decode cX9_init 30 = .ok (.dup, 1) := by decide +kernel
theorem dX9_init_31 : decode cX9_init 31 = .ok (.aload_n 0, 1) := by decide +kernel
theorem dX9_init_32 : decode cX9_init 32 = .ok (.getfield 10, 3) := by decide +kernel
theorem dX9_init_35 : decode cX9_init 35 = .ok (.invokespecial 25, 3) := by decide +kernel
theorem dX9_init_38 : decode cX9_init 38 = .ok (.putfield 28, 3) := by decide +kernel
theorem dX9_init_41 : decode cX9_init 41 = .ok (.aload_n 0, 1) := by decide +kernel
theorem dX9_init_42 : decode cX9_init 42 = .ok (.new 32, 3) := by decide +kernel
theorem dX9_init_45 : decode cX9_init 45 = .ok (.dup, 1) := by decide +kernel
theorem dX9_init_46 : decode cX9_init 46 = .ok (.aload_n 0, 1) := by decide +kernel
theorem dX9_init_47 : decode cX9_init 47 = .ok (.getfield 10, 3) := by decide +kernel
theorem dX9_init_50 : decode cX9_init 50 = .ok (.aload_n 0, 1) := by decide +kernel
theorem dX9_init_51 : decode cX9_init 51 = .ok (.getfield 28, 3) := by decide +kernel
theorem dX9_init_54 : decode cX9_init 54 = .ok (.invokespecial 34, 3) := by decide +kernel
theorem dX9_init_57 : decode cX9_init 57 = .ok (.putfield 37, 3) := by decide +kernel
theorem dX9_init_60 : decode cX9_init 60 = .ok (.aload_n 0, 1) := by decide +kernel
theorem dX9_init_61 : decode cX9_init 61 = .ok (.new 32, 3) := by decide +kernel
theorem dX9_init_64 : decode cX9_init 64 = .ok (.dup, 1) := by decide +kernel
theorem dX9_init_65 : decode cX9_init 65 = .ok (.aload_n 0, 1) := by decide +kernel
theorem dX9_init_66 : decode cX9_init 66 = .ok (.getfield 10, 3) := by decide +kernel
theorem dX9_init_69 : decode cX9_init 69 = .ok (.aload_n 0, 1) := by decide +kernel
theorem dX9_init_70 : decode cX9_init 70 = .ok (.getfield 28, 3) := by decide +kernel
theorem dX9_init_73 : decode cX9_init 73 = .ok (.invokespecial 34, 3) := by decide +kernel
theorem dX9_init_76 : decode cX9_init 76 = .ok (.putfield 41, 3) := by decide +kernel
theorem dX9_init_79 : decode cX9_init 79 = .ok (.aload_n 0, 1) := by decide +kernel
theorem dX9_init_80 : decode cX9_init 80 = .ok (.new 44, 3) := by decide +kernel
theorem dX9_init_83 : decode cX9_init 83 = .ok (.dup, 1) := by decide +kernel
theorem dX9_init_84 : decode cX9_init 84 = .ok (.aload_n 0, 1) := by decide +kernel
theorem dX9_init_85 : decode cX9_init 85 = .ok (.getfield 10, 3) := by decide +kernel
theorem dX9_init_88 : decode cX9_init 88 = .ok (.aload_n 0, 1) := by decide +kernel
theorem dX9_init_89 : decode cX9_init 89 = .ok (.getfield 28, 3) := by decide +kernel
theorem dX9_init_92 : decode cX9_init 92 = .ok (.aload_n 0, 1) := by decide +kernel
theorem dX9_init_93 : decode cX9_init 93 = .ok (.getfield 37, 3) := by decide +kernel
theorem dX9_init_96 : decode cX9_init 96 = .ok (.invokespecial 46, 3) := by decide +kernel
theorem dX9_init_99 : decode cX9_init 99 = .ok (.putfield 49, 3) := by decide +kernel
theorem dX9_init_102 : decode cX9_init 102 = .ok (.aload_n 0, 1) := by decide +kernel
theorem dX9_init_103 : decode cX9_init 103 = .ok (.new 53, 3) := by decide +kernel
theorem dX9_init_106 : decode cX9_init 106 = .ok (.dup, 1) := by decide +kernel
theorem dX9_init_107 : decode cX9_init 107 = .ok (.invokespecial 55, 3) := by decide +kernel
theorem dX9_init_110 : decode cX9_init 110 = .ok (.putfield 56, 3) := by decide +kernel
theorem dX9_init_113 : decode cX9_init 113 = .ok (.aload_n 0, 1) := by decide +kernel
theorem dX9_init_114 : decode cX9_init 114 = .ok (.new 60, 3) := by decide +kernel
theorem dX9_init_117 : decode cX9_init 117 = .ok (.dup, 1) := by decide +kernel
theorem dX9_init_118 : decode cX9_init 118 = .ok (.invokespecial 62, 3) := by decide +kernel
theorem dX9_init_121 : decode cX9_init 121 = .ok (.putfield 63, 3) := by decide +kernel
theorem dX9_init_124 : decode cX9_init 124 = .ok (.aload_n 0, 1) := by decide +kernel
theorem dX9_init_125 : decode cX9_init 125 = .ok (.bipush 6, 2) := by decide +kernel
theorem dX9_init_127 : decode cX9_init 127 = .ok (.anewarray 67, 3) := by decide +kernel
theorem dX9_init_130 : decode cX9_init 130 = .ok (.putfield 69, 3) := by decide +kernel
theorem dX9_init_133 : decode cX9_init 133 = .ok (.iconst 0, 1) := by decide +kernel
theorem dX9_init_134 : decode cX9_init 134 = .ok (.istore_n 1, 1) := by decide +kernel
theorem dX9_init_135 : decode cX9_init 135 = .ok (.iload_n 1, 1) := by decide +kernel
theorem dX9_init_136 : decode cX9_init 136 = .ok (.bipush 6, 2) := by decide +kernel
theorem dX9_init_138 : decode cX9_init 138 = .ok (.if_icmp .ge 22, 3) := by decide +kernel
theorem dX9_init_141 : decode cX9_init 141 = .ok (.aload_n 0, 1) := by decide +kernel
theorem dX9_init_142 : decode cX9_init 142 = .ok (.getfield 69, 3) := by decide +kernel
theorem dX9_init_145 : decode cX9_init 145 = .ok (.iload_n 1, 1) := by decide +kernel
theorem dX9_init_146 : decode cX9_init 146 = .ok (.new 67, 3) := by decide +kernel
theorem dX9_init_149 : decode cX9_init 149 = .ok (.dup, 1) := by decide +kernel
theorem dX9_init_150 : decode cX9_init 150 = .ok (.invokespecial 73, 3) := by decide +kernel
theorem dX9_init_153 : decode cX9_init 153 = .ok (.aastore, 1) := by decide +kernel
theorem dX9_init_154 : decode cX9_init 154 = .ok (.iinc 1 1, 3) := by decide +kernel
theorem dX9_init_157 : decode cX9_init 157 = .ok (.goto (-22), 3) := by decide +kernel
theorem dX9_init_160 : decode cX9_init 160 = .ok (.aload_n 0, 1) := by decide +kernel
theorem dX9_init_161 : decode cX9_init 161 = .ok (.iconst 0, 1) := by decide +kernel
theorem dX9_init_162 : decode cX9_init 162 = .ok (.putfield 74, 3) := by decide +kernel
theorem dX9_init_165 : decode cX9_init 165 = .ok (.return_, 1) := by decide +kernel
theorem dX9_straw_0 : decode cX9_straw 0 = .ok (.iconst 0, 1) := by decide +kernel
theorem dX9_straw_1 : decode cX9_straw 1 = .ok (.iload_n 1, 1) := by decide +kernel
theorem dX9_straw_2 : decode cX9_straw 2 = .ok (.invokestatic 78, 3) := by decide +kernel
theorem dX9_straw_5 : decode cX9_straw 5 = .ok (.ifCond .eq 11, 3) := by decide +kernel
theorem dX9_straw_8 : decode cX9_straw 8 = .ok (.iconst 2, 1) := by decide +kernel
theorem dX9_straw_9 : decode cX9_straw 9 = .ok (.iload_n 2, 1) := by decide +kernel
theorem dX9_straw_10 : decode cX9_straw 10 = .ok (.invokestatic 78, 3) := by decide +kernel
theorem dX9_straw_13 : decode cX9_straw 13 = .ok (.ifCond .ne 5, 3) := by decide +kernel
theorem dX9_straw_16 : decode cX9_straw 16 = .ok (.iconst (-1), 1) := by decide +kernel
theorem dX9_straw_17 : decode cX9_straw 17 = .ok (.ireturn, 1) := by decide +kernel
theorem dX9_straw_18 : decode cX9_straw 18 = .ok (.aload_n 0, 1) := by decide +kernel
theorem dX9_straw_19 : decode cX9_straw 19 = .ok (.getfield 10, 3) := by decide +kernel
theorem dX9_straw_22 : decode cX9_straw 22 = .ok (.getfield 82, 3) := by decide +kernel
theorem dX9_straw_25 : decode cX9_straw 25 = .ok (.iconst 3, 1) := by decide +kernel
theorem dX9_straw_26 : decode cX9_straw 26 = .ok (.if_icmp .lt 6, 3) := by decide +kernel
theorem dX9_straw_29 : decode cX9_straw 29 = .ok (.bipush (-3), 2) := by decide +kernel
theorem dX9_straw_31 : decode cX9_straw 31 = .ok (.ireturn, 1) := by decide +kernel
theorem dX9_straw_32 : decode cX9_straw 32 = .ok (.aload_n 0, 1) := by decide +kernel
theorem dX9_straw_33 : decode cX9_straw 33 = .ok (.getfield 10, 3) := by decide +kernel
theorem dX9_straw_36 : decode cX9_straw 36 = .ok (.iload_n 1, 1) := by decide +kernel
theorem dX9_straw_37 : decode cX9_straw 37 = .ok (.getstatic 86, 3) := by decide +kernel
theorem dX9_straw_40 : decode cX9_straw 40 = .ok (.iconst 1, 1) := by decide +kernel
theorem dX9_straw_41 : decode cX9_straw 41 = .ok (.iaload, 1) := by decide +kernel
theorem dX9_straw_42 : decode cX9_straw 42 = .ok (.iload_n 2, 1) := by decide +kernel
theorem dX9_straw_43 : decode cX9_straw 43 = .ok (.invokevirtual 90, 3) := by decide +kernel
theorem dX9_straw_46 : decode cX9_straw 46 = .ok (.ireturn, 1) := by decide +kernel
theorem dX9_straws_0 : decode cX9_straws 0 = .ok (.iload_n 1, 1) := by decide +kernel
theorem dX9_straws_1 : decode cX9_straws 1 = .ok (.invokestatic 94, 3) := by decide +kernel
theorem dX9_straws_4 : decode cX9_straws 4 = .ok (.ifCond .eq 13, 3) := by decide +kernel
theorem dX9_straws_7 : decode cX9_straws 7 = .ok (.iload_n 3, 1) := by decide +kernel
theorem dX9_straws_8 : decode cX9_straws 8 = .ok (.iconst 1, 1) := by decide +kernel
theorem dX9_straws_9 : decode cX9_straws 9 = .ok (.if_icmp .lt 8, 3) := by decide +kernel
theorem dX9_straws_12 : decode cX9_straws 12 = .ok (.iload_n 3, 1) := by decide +kernel
theorem dX9_straws_13 : decode cX9_straws 13 = .ok (.iconst 3, 1) := by decide +kernel
theorem dX9_straws_14 : decode cX9_straws 14 = .ok (.if_icmp .le 5, 3) := by decide +kernel
theorem dX9_straws_17 : decode cX9_straws 17 = .ok (.iconst (-1), 1) := by decide +kernel
theorem dX9_straws_18 : decode cX9_straws 18 = .ok (.ireturn, 1) := by decide +kernel
theorem dX9_straws_19 : decode cX9_straws 19 = .ok (.aload_n 0, 1) := by decide +kernel
theorem dX9_straws_20 : decode cX9_straws 20 = .ok (.getfield 69, 3) := by decide +kernel
theorem dX9_straws_23 : decode cX9_straws 23 = .ok (.iload_n 1, 1) := by decide +kernel
theorem dX9_straws_24 : decode cX9_straws 24 = .ok (.aaload, 1) := by decide +kernel
theorem dX9_straws_25 : decode cX9_straws 25 = .ok (.astore 4, 2) := by decide +kernel
theorem dX9_straws_27 : decode cX9_straws 27 = .ok (.aload 4, 2) := by decide +kernel
theorem dX9_straws_29 : decode cX9_straws 29 = .ok (.getfield 98, 3) := by decide +kernel
theorem dX9_straws_32 : decode cX9_straws 32 = .ok (.bipush (-2), 2) := by decide +kernel
theorem dX9_straws_34 : decode cX9_straws 34 = .ok (.if_icmp .ne 5, 3) := by decide +kernel
theorem dX9_straws_37 : decode cX9_straws 37 = .ok (.iconst 0, 1) := by decide +kernel
theorem dX9_straws_38 : decode cX9_straws 38 = .ok (.ireturn, 1) := by decide +kernel
theorem dX9_straws_39 : decode cX9_straws 39 = .ok (.aload 4, 2) := by decide +kernel
theorem dX9_straws_41 : decode cX9_straws 41 = .ok (.getfield 98, 3) := by decide +kernel
theorem dX9_straws_44 : decode cX9_straws 44 = .ok (.ifCond .eq 6, 3) := by decide +kernel
theorem dX9_straws_47 : decode cX9_straws 47 = .ok (.bipush (-12), 2) := by decide +kernel
theorem dX9_straws_49 : decode cX9_straws 49 = .ok (.ireturn, 1) := by decide +kernel
theorem dX9_straws_50 : decode cX9_straws 50 = .ok (.iconst 0, 1) := by decide +kernel
theorem dX9_straws_51 : decode cX9_straws 51 = .ok (.istore 5, 2) := by decide +kernel
theorem dX9_straws_53 : decode cX9_straws 53 = .ok (.iload_n 2, 1) := by decide +kernel
theorem dX9_straws_54 : decode cX9_straws 54 = .ok (.istore 6, 2) := by decide +kernel
theorem dX9_straws_56 : decode cX9_straws 56 = .ok (.iload 5, 2) := by decide +kernel
theorem dX9_straws_58 : decode cX9_straws 58 = .ok (.iload_n 3, 1) := by decide +kernel
theorem dX9_straws_59 : decode cX9_straws 59 = .ok (.if_icmp .ge 34, 3) := by decide +kernel
theorem dX9_straws_62 : decode cX9_straws 62 = .ok (.aload 4, 2) := by decide +kernel
theorem dX9_straws_64 : decode cX9_straws 64 = .ok (.iload 6, 2) := by decide +kernel
theorem dX9_straws_66 : decode cX9_straws 66 = .ok (.iconst 3, 1) := by decide +kernel
theorem dX9_straws_67 : decode cX9_straws 67 = .ok (.invokevirtual 101, 3) := by decide +kernel
theorem dX9_straws_70 : decode cX9_straws 70 = .ok (.ifCond .eq 23, 3) := by decide +kernel
theorem dX9_straws_73 : decode cX9_straws 73 = .ok (.aload_n 0, 1) := by decide +kernel
theorem dX9_straws_74 : decode cX9_straws 74 = .ok (.aload 4, 2) := by decide +kernel
theorem dX9_straws_76 : decode cX9_straws 76 = .ok (.iload 6, 2) := by decide +kernel
theorem dX9_straws_78 : decode cX9_straws 78 = .ok (.invokevirtual 104, 3) := by decide +kernel
theorem dX9_straws_81 : decode cX9_straws 81 = .ok (.ifCond .eq 12, 3) := by decide +kernel
theorem dX9_straws_84 : decode cX9_straws 84 = .ok (.iinc 5 1, 3) := by decide +kernel
theorem dX9_straws_87 : decode cX9_straws 87 = .ok (.iinc 6 3, 3) := by decide +kernel
theorem dX9_straws_90 : decode cX9_straws 90 = .ok (.goto (-34), 3) := by decide +kernel
theorem dX9_straws_93 : decode cX9_straws 93 = .ok (.iload 5, 2) := by decide +kernel
theorem dX9_straws_95 : decode cX9_straws 95 = .ok (.ireturn, 1) := by decide +kernel
theorem dX9_mend_0 : decode cX9_mend 0 = .ok (.aload_n 0, 1) := by decide +kernel
theorem dX9_mend_1 : decode cX9_mend 1 = .ok (.getfield 10, 3) := by decide +kernel
theorem dX9_mend_4 : decode cX9_mend 4 = .ok (.iload_n 1, 1) := by decide +kernel
theorem dX9_mend_5 : decode cX9_mend 5 = .ok (.iload_n 2, 1) := by decide +kernel
theorem dX9_mend_6 : decode cX9_mend 6 = .ok (.invokevirtual 108, 3) := by decide +kernel
theorem dX9_mend_9 : decode cX9_mend 9 = .ok (.istore 4, 2) := by decide +kernel
theorem dX9_mend_11 : decode cX9_mend 11 = .ok (.iload 4, 2) := by decide +kernel
theorem dX9_mend_13 : decode cX9_mend 13 = .ok (.ifCond .lt 11, 3) := by decide +kernel
theorem dX9_mend_16 : decode cX9_mend 16 = .ok (.iload_n 2, 1) := by decide +kernel
theorem dX9_mend_17 : decode cX9_mend 17 = .ok (.iload_n 3, 1) := by decide +kernel
theorem dX9_mend_18 : decode cX9_mend 18 = .ok (.invokestatic 78, 3) := by decide +kernel
theorem dX9_mend_21 : decode cX9_mend 21 = .ok (.ifCond .ne 6, 3) := by decide +kernel
theorem dX9_mend_24 : decode cX9_mend 24 = .ok (.ldc 112, 2) := by decide +kernel
theorem dX9_mend_26 : decode cX9_mend 26 = .ok (.ireturn, 1) := by decide +kernel
theorem dX9_mend_27 : decode cX9_mend 27 = .ok (.aload_n 0, 1) := by decide +kernel
theorem dX9_mend_28 : decode cX9_mend 28 = .ok (.getfield 10, 3) := by decide +kernel
theorem dX9_mend_31 : decode cX9_mend 31 = .ok (.getfield 113, 3) := by decide +kernel
theorem dX9_mend_34 : decode cX9_mend 34 = .ok (.iload 4, 2) := by decide +kernel
theorem dX9_mend_36 : decode cX9_mend 36 = .ok (.iaload, 1) := by decide +kernel
theorem dX9_mend_37 : decode cX9_mend 37 = .ok (.istore 5, 2) := by decide +kernel
theorem dX9_mend_39 : decode cX9_mend 39 = .ok (.iload 5, 2) := by decide +kernel
theorem dX9_mend_41 : decode cX9_mend 41 = .ok (.iload_n 3, 1) := by decide +kernel
theorem dX9_mend_42 : decode cX9_mend 42 = .ok (.if_icmp .eq 26, 3) := by decide +kernel
theorem dX9_mend_45 : decode cX9_mend 45 = .ok (.aload_n 0, 1) := by decide +kernel
theorem dX9_mend_46 : decode cX9_mend 46 = .ok (.getfield 56, 3) := by decide +kernel
theorem dX9_mend_49 : decode cX9_mend 49 = .ok (.iload 4, 2) := by decide +kernel
theorem dX9_mend_51 : decode cX9_mend 51 = .ok (.iload 5, 2) := by decide +kernel
theorem dX9_mend_53 : decode cX9_mend 53 = .ok (.iload_n 3, 1) := by decide +kernel
theorem dX9_mend_54 : decode cX9_mend 54 = .ok (.invokevirtual 116, 3) := by decide +kernel
theorem dX9_mend_57 : decode cX9_mend 57 = .ok (.aload_n 0, 1) := by decide +kernel
theorem dX9_mend_58 : decode cX9_mend 58 = .ok (.getfield 10, 3) := by decide +kernel
theorem dX9_mend_61 : decode cX9_mend 61 = .ok (.getfield 113, 3) := by decide +kernel
theorem dX9_mend_64 : decode cX9_mend 64 = .ok (.iload 4, 2) := by decide +kernel
theorem dX9_mend_66 : decode cX9_mend 66 = .ok (.iload_n 3, 1) := by decide +kernel
theorem dX9_mend_67 : decode cX9_mend 67 = .ok (.iastore, 1) := by decide +kernel
theorem dX9_mend_68 : decode cX9_mend 68 = .ok (.iload 5, 2) := by decide +kernel
theorem dX9_mend_70 : decode cX9_mend 70 = .ok (.ireturn, 1) := by decide +kernel
theorem dX9_of_0 : decode cX9_of 0 = .ok (.aload_n 0, 1) := by decide +kernel
theorem dX9_of_1 : decode cX9_of 1 = .ok (.getfield 10, 3) := by decide +kernel
theorem dX9_of_4 : decode cX9_of 4 = .ok (.iload_n 1, 1) := by decide +kernel
theorem dX9_of_5 : decode cX9_of 5 = .ok (.iload_n 2, 1) := by decide +kernel
theorem dX9_of_6 : decode cX9_of 6 = .ok (.invokevirtual 108, 3) := by decide +kernel
theorem dX9_of_9 : decode cX9_of 9 = .ok (.istore_n 3, 1) := by decide +kernel
theorem dX9_of_10 : decode cX9_of 10 = .ok (.iload_n 3, 1) := by decide +kernel
theorem dX9_of_11 : decode cX9_of 11 = .ok (.ifCond .lt 13, 3) := by decide +kernel
theorem dX9_of_14 : decode cX9_of 14 = .ok (.aload_n 0, 1) := by decide +kernel
theorem dX9_of_15 : decode cX9_of 15 = .ok (.getfield 10, 3) := by decide +kernel
theorem dX9_of_18 : decode cX9_of 18 = .ok (.getfield 113, 3) := by decide +kernel
theorem dX9_of_21 : decode cX9_of 21 = .ok (.iload_n 3, 1) := by decide +kernel
theorem dX9_of_22 : decode cX9_of 22 = .ok (.iaload, 1) := by decide +kernel
theorem dX9_of_23 : decode cX9_of 23 = .ok (.ireturn, 1) := by decide +kernel
theorem dX9_of_24 : decode cX9_of 24 = .ok (.iload_n 1, 1) := by decide +kernel
theorem dX9_of_25 : decode cX9_of 25 = .ok (.ifCond .eq 6, 3) := by decide +kernel
theorem dX9_of_28 : decode cX9_of 28 = .ok (.ldc 112, 2) := by decide +kernel
theorem dX9_of_30 : decode cX9_of 30 = .ok (.ireturn, 1) := by decide +kernel
theorem dX9_of_31 : decode cX9_of 31 = .ok (.iload_n 2, 1) := by decide +kernel
theorem dX9_of_32 : decode cX9_of 32 = .ok (.tableswitch 52 12 14 #[28, 36, 44], 28) := by decide +kernel
theorem dX9_of_60 : decode cX9_of 60 = .ok (.aload_n 0, 1) := by decide +kernel
theorem dX9_of_61 : decode cX9_of 61 = .ok (.getfield 37, 3) := by decide +kernel
theorem dX9_of_64 : decode cX9_of 64 = .ok (.getfield 120, 3) := by decide +kernel
theorem dX9_of_67 : decode cX9_of 67 = .ok (.ireturn, 1) := by decide +kernel
theorem dX9_of_68 : decode cX9_of 68 = .ok (.aload_n 0, 1) := by decide +kernel
theorem dX9_of_69 : decode cX9_of 69 = .ok (.getfield 37, 3) := by decide +kernel
theorem dX9_of_72 : decode cX9_of 72 = .ok (.getfield 123, 3) := by decide +kernel
theorem dX9_of_75 : decode cX9_of 75 = .ok (.ireturn, 1) := by decide +kernel
theorem dX9_of_76 : decode cX9_of 76 = .ok (.aload_n 0, 1) := by decide +kernel
theorem dX9_of_77 : decode cX9_of 77 = .ok (.getfield 37, 3) := by decide +kernel
theorem dX9_of_80 : decode cX9_of 80 = .ok (.getfield 126, 3) := by decide +kernel
theorem dX9_of_83 : decode cX9_of 83 = .ok (.ireturn, 1) := by decide +kernel
theorem dX9_of_84 : decode cX9_of 84 = .ok (.ldc 112, 2) := by decide +kernel
theorem dX9_of_86 : decode cX9_of 86 = .ok (.ireturn, 1) := by decide +kernel
theorem dX9_feed_0 : decode cX9_feed 0 = .ok (.iload_n 1, 1) := by decide +kernel
theorem dX9_feed_1 : decode cX9_feed 1 = .ok (.ifCond .lt 10, 3) := by decide +kernel
theorem dX9_feed_4 : decode cX9_feed 4 = .ok (.iload_n 1, 1) := by decide +kernel
theorem dX9_feed_5 : decode cX9_feed 5 = .ok (.sipush 255, 3) := by decide +kernel
theorem dX9_feed_8 : decode cX9_feed 8 = .ok (.if_icmp .le 5, 3) := by decide +kernel
theorem dX9_feed_11 : decode cX9_feed 11 = .ok (.iconst (-1), 1) := by decide +kernel
theorem dX9_feed_12 : decode cX9_feed 12 = .ok (.ireturn, 1) := by decide +kernel
theorem dX9_feed_13 : decode cX9_feed 13 = .ok (.aload_n 0, 1) := by decide +kernel
theorem dX9_feed_14 : decode cX9_feed 14 = .ok (.getfield 19, 3) := by decide +kernel
theorem dX9_feed_17 : decode cX9_feed 17 = .ok (.iload_n 1, 1) := by decide +kernel
theorem dX9_feed_18 : decode cX9_feed 18 = .ok (.invokevirtual 129, 3) := by decide +kernel
theorem dX9_feed_21 : decode cX9_feed 21 = .ok (.ifCond .eq 13, 3) := by decide +kernel
theorem dX9_feed_24 : decode cX9_feed 24 = .ok (.aload_n 0, 1) := by decide +kernel
theorem dX9_feed_25 : decode cX9_feed 25 = .ok (.getfield 19, 3) := by decide +kernel
theorem dX9_feed_28 : decode cX9_feed 28 = .ok (.getfield 131, 3) := by decide +kernel
theorem dX9_feed_31 : decode cX9_feed 31 = .ok (.goto 5, 3) := by decide +kernel
theorem dX9_feed_34 : decode cX9_feed 34 = .ok (.bipush (-3), 2) := by decide +kernel
theorem dX9_feed_36 : decode cX9_feed 36 = .ok (.ireturn, 1) := by decide +kernel
theorem dX9_law_0 : decode cX9_law 0 = .ok (.aload_n 0, 1) := by decide +kernel
theorem dX9_law_1 : decode cX9_law 1 = .ok (.getfield 19, 3) := by decide +kernel
theorem dX9_law_4 : decode cX9_law 4 = .ok (.invokevirtual 134, 3) := by decide +kernel
theorem dX9_law_7 : decode cX9_law 7 = .ok (.istore_n 1, 1) := by decide +kernel
theorem dX9_law_8 : decode cX9_law 8 = .ok (.aload_n 0, 1) := by decide +kernel
theorem dX9_law_9 : decode cX9_law 9 = .ok (.getfield 19, 3) := by decide +kernel
theorem dX9_law_12 : decode cX9_law 12 = .ok (.iconst 0, 1) := by decide +kernel
theorem dX9_law_13 : decode cX9_law 13 = .ok (.putfield 131, 3) := by decide +kernel
theorem dX9_law_16 : decode cX9_law 16 = .ok (.iload_n 1, 1) := by decide +kernel
theorem dX9_law_17 : decode cX9_law 17 = .ok (.ifCond .lt 8, 3) := by decide +kernel
theorem dX9_law_20 : decode cX9_law 20 = .ok (.bipush (-100), 2) := by decide +kernel
theorem dX9_law_22 : decode cX9_law 22 = .ok (.iload_n 1, 1) := by decide +kernel
theorem dX9_law_23 : decode cX9_law 23 = .ok (.isub, 1) := by decide +kernel
theorem dX9_law_24 : decode cX9_law 24 = .ok (.ireturn, 1) := by decide +kernel
theorem dX9_law_25 : decode cX9_law 25 = .ok (.aload_n 0, 1) := by decide +kernel
theorem dX9_law_26 : decode cX9_law 26 = .ok (.getfield 19, 3) := by decide +kernel
theorem dX9_law_29 : decode cX9_law 29 = .ok (.getfield 138, 3) := by decide +kernel
theorem dX9_law_32 : decode cX9_law 32 = .ok (.astore_n 2, 1) := by decide +kernel
theorem dX9_law_33 : decode cX9_law 33 = .ok (.aload_n 0, 1) := by decide +kernel
theorem dX9_law_34 : decode cX9_law 34 = .ok (.getfield 19, 3) := by decide +kernel
theorem dX9_law_37 : decode cX9_law 37 = .ok (.aload_n 0, 1) := by decide +kernel
theorem dX9_law_38 : decode cX9_law 38 = .ok (.getfield 28, 3) := by decide +kernel
theorem dX9_law_41 : decode cX9_law 41 = .ok (.getfield 142, 3) := by decide +kernel
theorem dX9_law_44 : decode cX9_law 44 = .ok (.putfield 138, 3) := by decide +kernel
theorem dX9_law_47 : decode cX9_law 47 = .ok (.aload_n 0, 1) := by decide +kernel
theorem dX9_law_48 : decode cX9_law 48 = .ok (.getfield 28, 3) := by decide +kernel
theorem dX9_law_51 : decode cX9_law 51 = .ok (.aload_n 2, 1) := by decide +kernel
theorem dX9_law_52 : decode cX9_law 52 = .ok (.putfield 142, 3) := by decide +kernel
theorem dX9_law_55 : decode cX9_law 55 = .ok (.iconst 1, 1) := by decide +kernel
theorem dX9_law_56 : decode cX9_law 56 = .ok (.ireturn, 1) := by decide +kernel
theorem dX9_wants_0 : decode cX9_wants 0 = .ok (.aload_n 0, 1) := by decide +kernel
theorem dX9_wants_1 : decode cX9_wants 1 = .ok (.iload_n 1, 1) := by decide +kernel
theorem dX9_wants_2 : decode cX9_wants 2 = .ok (.invokevirtual 143, 3) := by decide +kernel
theorem dX9_wants_5 : decode cX9_wants 5 = .ok (.ifCond .eq 23, 3) := by decide +kernel
theorem dX9_wants_8 : decode cX9_wants 8 = .ok (.iload_n 2, 1) := by decide +kernel
theorem dX9_wants_9 : decode cX9_wants 9 = .ok (.sipush 999, 3) := by decide +kernel
theorem dX9_wants_12 : decode cX9_wants 12 = .ok (.invokestatic 146, 3) := by decide +kernel
theorem dX9_wants_15 : decode cX9_wants 15 = .ok (.ifCond .eq 13, 3) := by decide +kernel
theorem dX9_wants_18 : decode cX9_wants 18 = .ok (.iload_n 3, 1) := by decide +kernel
theorem dX9_wants_19 : decode cX9_wants 19 = .ok (.sipush 999, 3) := by decide +kernel
theorem dX9_wants_22 : decode cX9_wants 22 = .ok (.invokestatic 146, 3) := by decide +kernel
theorem dX9_wants_25 : decode cX9_wants 25 = .ok (.ifCond .ne 5, 3) := by decide +kernel
theorem dX9_wants_28 : decode cX9_wants 28 = .ok (.iconst (-1), 1) := by decide +kernel
theorem dX9_wants_29 : decode cX9_wants 29 = .ok (.ireturn, 1) := by decide +kernel
theorem dX9_wants_30 : decode cX9_wants 30 = .ok (.aload_n 0, 1) := by decide +kernel
theorem dX9_wants_31 : decode cX9_wants 31 = .ok (.getfield 28, 3) := by decide +kernel
theorem dX9_wants_34 : decode cX9_wants 34 = .ok (.iload_n 1, 1) := by decide +kernel
theorem dX9_wants_35 : decode cX9_wants 35 = .ok (.iload_n 2, 1) := by decide +kernel
theorem dX9_wants_36 : decode cX9_wants 36 = .ok (.iload_n 3, 1) := by decide +kernel
theorem dX9_wants_37 : decode cX9_wants 37 = .ok (.invokevirtual 149, 3) := by decide +kernel
theorem dX9_wants_40 : decode cX9_wants 40 = .ok (.ireturn, 1) := by decide +kernel
theorem dX9_glass_0 : decode cX9_glass 0 = .ok (.iload_n 1, 1) := by decide +kernel
theorem dX9_glass_1 : decode cX9_glass 1 = .ok (.sipush 999, 3) := by decide +kernel
theorem dX9_glass_4 : decode cX9_glass 4 = .ok (.invokestatic 146, 3) := by decide +kernel
theorem dX9_glass_7 : decode cX9_glass 7 = .ok (.ifCond .eq 19, 3) := by decide +kernel
theorem dX9_glass_10 : decode cX9_glass 10 = .ok (.aload_n 0, 1) := by decide +kernel
theorem dX9_glass_11 : decode cX9_glass 11 = .ok (.iload_n 2, 1) := by decide +kernel
theorem dX9_glass_12 : decode cX9_glass 12 = .ok (.invokevirtual 143, 3) := by decide +kernel
theorem dX9_glass_15 : decode cX9_glass 15 = .ok (.ifCond .eq 11, 3) := by decide +kernel
theorem dX9_glass_18 : decode cX9_glass 18 = .ok (.iload_n 3, 1) := by decide +kernel
theorem dX9_glass_19 : decode cX9_glass 19 = .ok (.iconst 2, 1) := by decide +kernel
theorem dX9_glass_20 : decode cX9_glass 20 = .ok (.invokestatic 146, 3) := by decide +kernel
theorem dX9_glass_23 : decode cX9_glass 23 = .ok (.ifCond .ne 5, 3) := by decide +kernel
theorem dX9_glass_26 : decode cX9_glass 26 = .ok (.iconst (-1), 1) := by decide +kernel
theorem dX9_glass_27 : decode cX9_glass 27 = .ok (.ireturn, 1) := by decide +kernel
theorem dX9_glass_28 : decode cX9_glass 28 = .ok (.aload_n 0, 1) := by decide +kernel
theorem dX9_glass_29 : decode cX9_glass 29 = .ok (.getfield 49, 3) := by decide +kernel
theorem dX9_glass_32 : decode cX9_glass 32 = .ok (.iload_n 1, 1) := by decide +kernel
theorem dX9_glass_33 : decode cX9_glass 33 = .ok (.invokevirtual 152, 3) := by decide +kernel
theorem dX9_glass_36 : decode cX9_glass 36 = .ok (.iload_n 2, 1) := by decide +kernel
theorem dX9_glass_37 : decode cX9_glass 37 = .ok (.iload_n 3, 1) := by decide +kernel
theorem dX9_glass_38 : decode cX9_glass 38 = .ok (.invokevirtual 156, 3) := by decide +kernel
theorem dX9_glass_41 : decode cX9_glass 41 = .ok (.ireturn, 1) := by decide +kernel
theorem dX9_level_0 : decode cX9_level 0 = .ok (.iload_n 1, 1) := by decide +kernel
theorem dX9_level_1 : decode cX9_level 1 = .ok (.sipush 999, 3) := by decide +kernel
theorem dX9_level_4 : decode cX9_level 4 = .ok (.invokestatic 146, 3) := by decide +kernel
theorem dX9_level_7 : decode cX9_level 7 = .ok (.ifCond .eq 11, 3) := by decide +kernel
theorem dX9_level_10 : decode cX9_level 10 = .ok (.iload_n 2, 1) := by decide +kernel
theorem dX9_level_11 : decode cX9_level 11 = .ok (.iconst 1, 1) := by decide +kernel
theorem dX9_level_12 : decode cX9_level 12 = .ok (.invokestatic 146, 3) := by decide +kernel
theorem dX9_level_15 : decode cX9_level 15 = .ok (.ifCond .ne 5, 3) := by decide +kernel
theorem dX9_level_18 : decode cX9_level 18 = .ok (.iconst (-1), 1) := by decide +kernel
theorem dX9_level_19 : decode cX9_level 19 = .ok (.ireturn, 1) := by decide +kernel
theorem dX9_level_20 : decode cX9_level 20 = .ok (.aload_n 0, 1) := by decide +kernel
theorem dX9_level_21 : decode cX9_level 21 = .ok (.getfield 49, 3) := by decide +kernel
theorem dX9_level_24 : decode cX9_level 24 = .ok (.iload_n 1, 1) := by decide +kernel
theorem dX9_level_25 : decode cX9_level 25 = .ok (.invokevirtual 152, 3) := by decide +kernel
theorem dX9_level_28 : decode cX9_level 28 = .ok (.astore_n 3, 1) := by decide +kernel
theorem dX9_level_29 : decode cX9_level 29 = .ok (.iload_n 2, 1) := by decide +kernel
theorem dX9_level_30 : decode cX9_level 30 = .ok (.ifCond .ne 10, 3) := by decide +kernel
theorem dX9_level_33 : decode cX9_level 33 = .ok (.aload_n 3, 1) := by decide +kernel
theorem dX9_level_34 : decode cX9_level 34 = .ok (.getfield 120, 3) := by decide +kernel
theorem dX9_level_37 : decode cX9_level 37 = .ok (.goto 7, 3) := by decide +kernel
theorem dX9_level_40 : decode cX9_level 40 = .ok (.aload_n 3, 1) := by decide +kernel
theorem dX9_level_41 : decode cX9_level 41 = .ok (.getfield 123, 3) := by decide +kernel
theorem dX9_level_44 : decode cX9_level 44 = .ok (.ireturn, 1) := by decide +kernel
theorem dX9_empty_0 : decode cX9_empty 0 = .ok (.aload_n 0, 1) := by decide +kernel
theorem dX9_empty_1 : decode cX9_empty 1 = .ok (.getfield 49, 3) := by decide +kernel
theorem dX9_empty_4 : decode cX9_empty 4 = .ok (.invokevirtual 159, 3) := by decide +kernel
theorem dX9_empty_7 : decode cX9_empty 7 = .ok (.ireturn, 1) := by decide +kernel
theorem dX9_more_0 : decode cX9_more 0 = .ok (.iload_n 1, 1) := by decide +kernel
theorem dX9_more_1 : decode cX9_more 1 = .ok (.sipush 999, 3) := by decide +kernel
theorem dX9_more_4 : decode cX9_more 4 = .ok (.invokestatic 146, 3) := by decide +kernel
theorem dX9_more_7 : decode cX9_more 7 = .ok (.ifCond .eq 11, 3) := by decide +kernel
theorem dX9_more_10 : decode cX9_more 10 = .ok (.iload_n 2, 1) := by decide +kernel
theorem dX9_more_11 : decode cX9_more 11 = .ok (.iconst 1, 1) := by decide +kernel
theorem dX9_more_12 : decode cX9_more 12 = .ok (.invokestatic 146, 3) := by decide +kernel
theorem dX9_more_15 : decode cX9_more 15 = .ok (.ifCond .ne 5, 3) := by decide +kernel
theorem dX9_more_18 : decode cX9_more 18 = .ok (.iconst (-1), 1) := by decide +kernel
theorem dX9_more_19 : decode cX9_more 19 = .ok (.ireturn, 1) := by decide +kernel
theorem dX9_more_20 : decode cX9_more 20 = .ok (.aload_n 0, 1) := by decide +kernel
theorem dX9_more_21 : decode cX9_more 21 = .ok (.getfield 10, 3) := by decide +kernel
theorem dX9_more_24 : decode cX9_more 24 = .ok (.getfield 82, 3) := by decide +kernel
theorem dX9_more_27 : decode cX9_more 27 = .ok (.ifCond .ne 14, 3) := by decide +kernel
theorem dX9_more_30 : decode cX9_more 30 = .ok (.iload_n 2, 1) := by decide +kernel
theorem dX9_more_31 : decode cX9_more 31 = .ok (.ifCond .ne 8, 3) := by decide +kernel
theorem dX9_more_34 : decode cX9_more 34 = .ok (.bipush (-2), 2) := by decide +kernel
theorem dX9_more_36 : decode cX9_more 36 = .ok (.goto 4, 3) := by decide +kernel
theorem dX9_more_39 : decode cX9_more 39 = .ok (.iconst 0, 1) := by decide +kernel
theorem dX9_more_40 : decode cX9_more 40 = .ok (.ireturn, 1) := by decide +kernel
theorem dX9_more_41 : decode cX9_more 41 = .ok (.aload_n 0, 1) := by decide +kernel
theorem dX9_more_42 : decode cX9_more 42 = .ok (.getfield 49, 3) := by decide +kernel
theorem dX9_more_45 : decode cX9_more 45 = .ok (.iload_n 1, 1) := by decide +kernel
theorem dX9_more_46 : decode cX9_more 46 = .ok (.invokevirtual 152, 3) := by decide +kernel
theorem dX9_more_49 : decode cX9_more 49 = .ok (.astore_n 3, 1) := by decide +kernel
theorem dX9_more_50 : decode cX9_more 50 = .ok (.aload_n 3, 1) := by decide +kernel
theorem dX9_more_51 : decode cX9_more 51 = .ok (.invokevirtual 162, 3) := by decide +kernel
theorem dX9_more_54 : decode cX9_more 54 = .ok (.istore 4, 2) := by decide +kernel
theorem dX9_more_56 : decode cX9_more 56 = .ok (.iload_n 2, 1) := by decide +kernel
theorem dX9_more_57 : decode cX9_more 57 = .ok (.ifCond .ne 8, 3) := by decide +kernel
theorem dX9_more_60 : decode cX9_more 60 = .ok (.iload 4, 2) := by decide +kernel
theorem dX9_more_62 : decode cX9_more 62 = .ok (.goto 15, 3) := by decide +kernel
theorem dX9_more_65 : decode cX9_more 65 = .ok (.aload_n 3, 1) := by decide +kernel
theorem dX9_more_66 : decode cX9_more 66 = .ok (.getfield 165, 3) := by decide +kernel
theorem dX9_more_69 : decode cX9_more 69 = .ok (.iload 4, 2) := by decide +kernel
theorem dX9_more_71 : decode cX9_more 71 = .ok (.iaload, 1) := by decide +kernel
theorem dX9_more_72 : decode cX9_more 72 = .ok (.aload_n 3, 1) := by decide +kernel
theorem dX9_more_73 : decode cX9_more 73 = .ok (.invokevirtual 168, 3) := by decide +kernel
theorem dX9_more_76 : decode cX9_more 76 = .ok (.isub, 1) := by decide +kernel
theorem dX9_more_77 : decode cX9_more 77 = .ok (.ireturn, 1) := by decide +kernel
theorem dX9_turns_0 : decode cX9_turns 0 = .ok (.iload_n 2, 1) := by decide +kernel
theorem dX9_turns_1 : decode cX9_turns 1 = .ok (.ifCond .lt 21, 3) := by decide +kernel
theorem dX9_turns_4 : decode cX9_turns 4 = .ok (.iload_n 1, 1) := by decide +kernel
theorem dX9_turns_5 : decode cX9_turns 5 = .ok (.sipush 999, 3) := by decide +kernel
theorem dX9_turns_8 : decode cX9_turns 8 = .ok (.invokestatic 146, 3) := by decide +kernel
theorem dX9_turns_11 : decode cX9_turns 11 = .ok (.ifCond .eq 11, 3) := by decide +kernel
theorem dX9_turns_14 : decode cX9_turns 14 = .ok (.aload_n 0, 1) := by decide +kernel
theorem dX9_turns_15 : decode cX9_turns 15 = .ok (.iload_n 3, 1) := by decide +kernel
theorem dX9_turns_16 : decode cX9_turns 16 = .ok (.invokevirtual 143, 3) := by decide +kernel
theorem dX9_turns_19 : decode cX9_turns 19 = .ok (.ifCond .ne 5, 3) := by decide +kernel
theorem dX9_turns_22 : decode cX9_turns 22 = .ok (.iconst (-1), 1) := by decide +kernel
theorem dX9_turns_23 : decode cX9_turns 23 = .ok (.ireturn, 1) := by decide +kernel
theorem dX9_turns_24 : decode cX9_turns 24 = .ok (.iload_n 2, 1) := by decide +kernel
theorem dX9_turns_25 : decode cX9_turns 25 = .ok (.bipush 10, 2) := by decide +kernel
theorem dX9_turns_27 : decode cX9_turns 27 = .ok (.idiv, 1) := by decide +kernel
theorem dX9_turns_28 : decode cX9_turns 28 = .ok (.istore 4, 2) := by decide +kernel
theorem dX9_turns_30 : decode cX9_turns 30 = .ok (.iload_n 2, 1) := by decide +kernel
theorem dX9_turns_31 : decode cX9_turns 31 = .ok (.bipush 10, 2) := by decide +kernel
theorem dX9_turns_33 : decode cX9_turns 33 = .ok (.irem, 1) := by decide +kernel
theorem dX9_turns_34 : decode cX9_turns 34 = .ok (.istore 5, 2) := by decide +kernel
theorem dX9_turns_36 : decode cX9_turns 36 = .ok (.iload 4, 2) := by decide +kernel
theorem dX9_turns_38 : decode cX9_turns 38 = .ok (.iconst 1, 1) := by decide +kernel
theorem dX9_turns_39 : decode cX9_turns 39 = .ok (.if_icmp .lt 19, 3) := by decide +kernel
theorem dX9_turns_42 : decode cX9_turns 42 = .ok (.iload 4, 2) := by decide +kernel
theorem dX9_turns_44 : decode cX9_turns 44 = .ok (.bipush 60, 2) := by decide +kernel
theorem dX9_turns_46 : decode cX9_turns 46 = .ok (.if_icmp .gt 12, 3) := by decide +kernel
theorem dX9_turns_49 : decode cX9_turns 49 = .ok (.aload_n 0, 1) := by decide +kernel
theorem dX9_turns_50 : decode cX9_turns 50 = .ok (.iload 5, 2) := by decide +kernel
theorem dX9_turns_52 : decode cX9_turns 52 = .ok (.invokevirtual 143, 3) := by decide +kernel
theorem dX9_turns_55 : decode cX9_turns 55 = .ok (.ifCond .ne 5, 3) := by decide +kernel
theorem dX9_turns_58 : decode cX9_turns 58 = .ok (.iconst (-1), 1) := by decide +kernel
theorem dX9_turns_59 : decode cX9_turns 59 = .ok (.ireturn, 1) := by decide +kernel
theorem dX9_turns_60 : decode cX9_turns 60 = .ok (.aload_n 0, 1) := by decide +kernel
theorem dX9_turns_61 : decode cX9_turns 61 = .ok (.getfield 49, 3) := by decide +kernel
theorem dX9_turns_64 : decode cX9_turns 64 = .ok (.iload_n 1, 1) := by decide +kernel
theorem dX9_turns_65 : decode cX9_turns 65 = .ok (.iload 4, 2) := by decide +kernel
theorem dX9_turns_67 : decode cX9_turns 67 = .ok (.iload 5, 2) := by decide +kernel
theorem dX9_turns_69 : decode cX9_turns 69 = .ok (.invokevirtual 171, 3) := by decide +kernel
theorem dX9_turns_72 : decode cX9_turns 72 = .ok (.getfield 165, 3) := by decide +kernel
theorem dX9_turns_75 : decode cX9_turns 75 = .ok (.iload_n 3, 1) := by decide +kernel
theorem dX9_turns_76 : decode cX9_turns 76 = .ok (.iaload, 1) := by decide +kernel
theorem dX9_turns_77 : decode cX9_turns 77 = .ok (.ireturn, 1) := by decide +kernel
theorem dX9_mark_0 : decode cX9_mark 0 = .ok (.aload_n 0, 1) := by decide +kernel
theorem dX9_mark_1 : decode cX9_mark 1 = .ok (.iload_n 1, 1) := by decide +kernel
theorem dX9_mark_2 : decode cX9_mark 2 = .ok (.invokevirtual 175, 3) := by decide +kernel
theorem dX9_mark_5 : decode cX9_mark 5 = .ok (.ifCond .eq 21, 3) := by decide +kernel
theorem dX9_mark_8 : decode cX9_mark 8 = .ok (.aload_n 0, 1) := by decide +kernel
theorem dX9_mark_9 : decode cX9_mark 9 = .ok (.getfield 49, 3) := by decide +kernel
theorem dX9_mark_12 : decode cX9_mark 12 = .ok (.iload_n 1, 1) := by decide +kernel
theorem dX9_mark_13 : decode cX9_mark 13 = .ok (.bipush 10, 2) := by decide +kernel
theorem dX9_mark_15 : decode cX9_mark 15 = .ok (.idiv, 1) := by decide +kernel
theorem dX9_mark_16 : decode cX9_mark 16 = .ok (.iload_n 1, 1) := by decide +kernel
theorem dX9_mark_17 : decode cX9_mark 17 = .ok (.bipush 10, 2) := by decide +kernel
theorem dX9_mark_19 : decode cX9_mark 19 = .ok (.irem, 1) := by decide +kernel
theorem dX9_mark_20 : decode cX9_mark 20 = .ok (.invokevirtual 178, 3) := by decide +kernel
theorem dX9_mark_23 : decode cX9_mark 23 = .ok (.goto 4, 3) := by decide +kernel
theorem dX9_mark_26 : decode cX9_mark 26 = .ok (.iconst (-1), 1) := by decide +kernel
theorem dX9_mark_27 : decode cX9_mark 27 = .ok (.ireturn, 1) := by decide +kernel
theorem dX9_halves_0 : decode cX9_halves 0 = .ok (.aload_n 0, 1) := by decide +kernel
theorem dX9_halves_1 : decode cX9_halves 1 = .ok (.iload_n 1, 1) := by decide +kernel
theorem dX9_halves_2 : decode cX9_halves 2 = .ok (.invokevirtual 175, 3) := by decide +kernel
theorem dX9_halves_5 : decode cX9_halves 5 = .ok (.ifCond .eq 11, 3) := by decide +kernel
theorem dX9_halves_8 : decode cX9_halves 8 = .ok (.iload_n 2, 1) := by decide +kernel
theorem dX9_halves_9 : decode cX9_halves 9 = .ok (.iconst 2, 1) := by decide +kernel
theorem dX9_halves_10 : decode cX9_halves 10 = .ok (.invokestatic 146, 3) := by decide +kernel
theorem dX9_halves_13 : decode cX9_halves 13 = .ok (.ifCond .ne 5, 3) := by decide +kernel
theorem dX9_halves_16 : decode cX9_halves 16 = .ok (.iconst (-1), 1) := by decide +kernel
theorem dX9_halves_17 : decode cX9_halves 17 = .ok (.ireturn, 1) := by decide +kernel
theorem dX9_halves_18 : decode cX9_halves 18 = .ok (.aload_n 0, 1) := by decide +kernel
theorem dX9_halves_19 : decode cX9_halves 19 = .ok (.getfield 49, 3) := by decide +kernel
theorem dX9_halves_22 : decode cX9_halves 22 = .ok (.iload_n 1, 1) := by decide +kernel
theorem dX9_halves_23 : decode cX9_halves 23 = .ok (.bipush 10, 2) := by decide +kernel
theorem dX9_halves_25 : decode cX9_halves 25 = .ok (.idiv, 1) := by decide +kernel
theorem dX9_halves_26 : decode cX9_halves 26 = .ok (.iload_n 1, 1) := by decide +kernel
theorem dX9_halves_27 : decode cX9_halves 27 = .ok (.bipush 10, 2) := by decide +kernel
theorem dX9_halves_29 : decode cX9_halves 29 = .ok (.irem, 1) := by decide +kernel
theorem dX9_halves_30 : decode cX9_halves 30 = .ok (.iload_n 2, 1) := by decide +kernel
theorem dX9_halves_31 : decode cX9_halves 31 = .ok (.invokevirtual 181, 3) := by decide +kernel
theorem dX9_halves_34 : decode cX9_halves 34 = .ok (.ireturn, 1) := by decide +kernel
theorem dX9_reachFor_0 : decode cX9_reachFor 0 = .ok (.aload_n 0, 1) := by decide +kernel
theorem dX9_reachFor_1 : decode cX9_reachFor 1 = .ok (.iload_n 1, 1) := by decide +kernel
theorem dX9_reachFor_2 : decode cX9_reachFor 2 = .ok (.invokevirtual 143, 3) := by decide +kernel
theorem dX9_reachFor_5 : decode cX9_reachFor 5 = .ok (.ifCond .eq 20, 3) := by decide +kernel
theorem dX9_reachFor_8 : decode cX9_reachFor 8 = .ok (.iload_n 2, 1) := by decide +kernel
theorem dX9_reachFor_9 : decode cX9_reachFor 9 = .ok (.bipush 60, 2) := by decide +kernel
theorem dX9_reachFor_11 : decode cX9_reachFor 11 = .ok (.invokestatic 146, 3) := by decide +kernel
theorem dX9_reachFor_14 : decode cX9_reachFor 14 = .ok (.ifCond .eq 11, 3) := by decide +kernel
theorem dX9_reachFor_17 : decode cX9_reachFor 17 = .ok (.iload_n 3, 1) := by decide +kernel
theorem dX9_reachFor_18 : decode cX9_reachFor 18 = .ok (.iconst 3, 1) := by decide +kernel
theorem dX9_reachFor_19 : decode cX9_reachFor 19 = .ok (.invokestatic 146, 3) := by decide +kernel
theorem dX9_reachFor_22 : decode cX9_reachFor 22 = .ok (.ifCond .ne 5, 3) := by decide +kernel
theorem dX9_reachFor_25 : decode cX9_reachFor 25 = .ok (.iconst (-1), 1) := by decide +kernel
theorem dX9_reachFor_26 : decode cX9_reachFor 26 = .ok (.ireturn, 1) := by decide +kernel
theorem dX9_reachFor_27 : decode cX9_reachFor 27 = .ok (.sipush 999, 3) := by decide +kernel
theorem dX9_reachFor_30 : decode cX9_reachFor 30 = .ok (.aload_n 0, 1) := by decide +kernel
theorem dX9_reachFor_31 : decode cX9_reachFor 31 = .ok (.getfield 37, 3) := by decide +kernel
theorem dX9_reachFor_34 : decode cX9_reachFor 34 = .ok (.getfield 120, 3) := by decide +kernel
theorem dX9_reachFor_37 : decode cX9_reachFor 37 = .ok (.aload_n 0, 1) := by decide +kernel
theorem dX9_reachFor_38 : decode cX9_reachFor 38 = .ok (.getfield 37, 3) := by decide +kernel
theorem dX9_reachFor_41 : decode cX9_reachFor 41 = .ok (.getfield 123, 3) := by decide +kernel
theorem dX9_reachFor_44 : decode cX9_reachFor 44 = .ok (.iadd, 1) := by decide +kernel
theorem dX9_reachFor_45 : decode cX9_reachFor 45 = .ok (.invokestatic 184, 3) := by decide +kernel
theorem dX9_reachFor_48 : decode cX9_reachFor 48 = .ok (.istore 4, 2) := by decide +kernel
theorem dX9_reachFor_50 : decode cX9_reachFor 50 = .ok (.aload_n 0, 1) := by decide +kernel
theorem dX9_reachFor_51 : decode cX9_reachFor 51 = .ok (.getfield 49, 3) := by decide +kernel
theorem dX9_reachFor_54 : decode cX9_reachFor 54 = .ok (.iload_n 1, 1) := by decide +kernel
theorem dX9_reachFor_55 : decode cX9_reachFor 55 = .ok (.iconst 2, 1) := by decide +kernel
theorem dX9_reachFor_56 : decode cX9_reachFor 56 = .ok (.iload 4, 2) := by decide +kernel
theorem dX9_reachFor_58 : decode cX9_reachFor 58 = .ok (.iload_n 2, 1) := by decide +kernel
theorem dX9_reachFor_59 : decode cX9_reachFor 59 = .ok (.iload_n 3, 1) := by decide +kernel
theorem dX9_reachFor_60 : decode cX9_reachFor 60 = .ok (.iconst 2, 1) := by decide +kernel
theorem dX9_reachFor_61 : decode cX9_reachFor 61 = .ok (.if_icmp .lt 7, 3) := by decide +kernel
theorem dX9_reachFor_64 : decode cX9_reachFor 64 = .ok (.iconst 1, 1) := by decide +kernel
theorem dX9_reachFor_65 : decode cX9_reachFor 65 = .ok (.goto 4, 3) := by decide +kernel
theorem dX9_reachFor_68 : decode cX9_reachFor 68 = .ok (.iconst 0, 1) := by decide +kernel
theorem dX9_reachFor_69 : decode cX9_reachFor 69 = .ok (.invokevirtual 189, 3) := by decide +kernel
theorem dX9_reachFor_72 : decode cX9_reachFor 72 = .ok (.istore 5, 2) := by decide +kernel
theorem dX9_reachFor_74 : decode cX9_reachFor 74 = .ok (.iload_n 3, 1) := by decide +kernel
theorem dX9_reachFor_75 : decode cX9_reachFor 75 = .ok (.iconst 2, 1) := by decide +kernel
theorem dX9_reachFor_76 : decode cX9_reachFor 76 = .ok (.irem, 1) := by decide +kernel
theorem dX9_reachFor_77 : decode cX9_reachFor 77 = .ok (.ifCond .ne 8, 3) := by decide +kernel
theorem dX9_reachFor_80 : decode cX9_reachFor 80 = .ok (.iload 5, 2) := by decide +kernel
theorem dX9_reachFor_82 : decode cX9_reachFor 82 = .ok (.goto 10, 3) := by decide +kernel
theorem dX9_reachFor_85 : decode cX9_reachFor 85 = .ok (.aload_n 0, 1) := by decide +kernel
theorem dX9_reachFor_86 : decode cX9_reachFor 86 = .ok (.getfield 49, 3) := by decide +kernel
theorem dX9_reachFor_89 : decode cX9_reachFor 89 = .ok (.getfield 193, 3) := by decide +kernel
theorem dX9_reachFor_92 : decode cX9_reachFor 92 = .ok (.ireturn, 1) := by decide +kernel
theorem dX9_slow_0 : decode cX9_slow 0 = .ok (.aload_n 0, 1) := by decide +kernel
theorem dX9_slow_1 : decode cX9_slow 1 = .ok (.iload_n 1, 1) := by decide +kernel
theorem dX9_slow_2 : decode cX9_slow 2 = .ok (.invokevirtual 143, 3) := by decide +kernel
theorem dX9_slow_5 : decode cX9_slow 5 = .ok (.ifCond .eq 12, 3) := by decide +kernel
theorem dX9_slow_8 : decode cX9_slow 8 = .ok (.iload_n 2, 1) := by decide +kernel
theorem dX9_slow_9 : decode cX9_slow 9 = .ok (.bipush 60, 2) := by decide +kernel
theorem dX9_slow_11 : decode cX9_slow 11 = .ok (.invokestatic 146, 3) := by decide +kernel
theorem dX9_slow_14 : decode cX9_slow 14 = .ok (.ifCond .ne 5, 3) := by decide +kernel
theorem dX9_slow_17 : decode cX9_slow 17 = .ok (.iconst (-1), 1) := by decide +kernel
theorem dX9_slow_18 : decode cX9_slow 18 = .ok (.ireturn, 1) := by decide +kernel
theorem dX9_slow_19 : decode cX9_slow 19 = .ok (.aload_n 0, 1) := by decide +kernel
theorem dX9_slow_20 : decode cX9_slow 20 = .ok (.getfield 49, 3) := by decide +kernel
theorem dX9_slow_23 : decode cX9_slow 23 = .ok (.iload_n 1, 1) := by decide +kernel
theorem dX9_slow_24 : decode cX9_slow 24 = .ok (.iconst 0, 1) := by decide +kernel
theorem dX9_slow_25 : decode cX9_slow 25 = .ok (.aload_n 0, 1) := by decide +kernel
theorem dX9_slow_26 : decode cX9_slow 26 = .ok (.getfield 10, 3) := by decide +kernel
theorem dX9_slow_29 : decode cX9_slow 29 = .ok (.iload_n 1, 1) := by decide +kernel
theorem dX9_slow_30 : decode cX9_slow 30 = .ok (.iconst 0, 1) := by decide +kernel
theorem dX9_slow_31 : decode cX9_slow 31 = .ok (.invokevirtual 196, 3) := by decide +kernel
theorem dX9_slow_34 : decode cX9_slow 34 = .ok (.iload_n 2, 1) := by decide +kernel
theorem dX9_slow_35 : decode cX9_slow 35 = .ok (.iconst 0, 1) := by decide +kernel
theorem dX9_slow_36 : decode cX9_slow 36 = .ok (.invokevirtual 189, 3) := by decide +kernel
theorem dX9_slow_39 : decode cX9_slow 39 = .ok (.ireturn, 1) := by decide +kernel
theorem dX9_both_0 : decode cX9_both 0 = .ok (.iload_n 1, 1) := by decide +kernel
theorem dX9_both_1 : decode cX9_both 1 = .ok (.bipush 60, 2) := by decide +kernel
theorem dX9_both_3 : decode cX9_both 3 = .ok (.invokestatic 146, 3) := by decide +kernel
theorem dX9_both_6 : decode cX9_both 6 = .ok (.ifCond .eq 11, 3) := by decide +kernel
theorem dX9_both_9 : decode cX9_both 9 = .ok (.iload_n 2, 1) := by decide +kernel
theorem dX9_both_10 : decode cX9_both 10 = .ok (.iconst 1, 1) := by decide +kernel
theorem dX9_both_11 : decode cX9_both 11 = .ok (.invokestatic 146, 3) := by decide +kernel
theorem dX9_both_14 : decode cX9_both 14 = .ok (.ifCond .ne 5, 3) := by decide +kernel
theorem dX9_both_17 : decode cX9_both 17 = .ok (.iconst (-1), 1) := by decide +kernel
theorem dX9_both_18 : decode cX9_both 18 = .ok (.ireturn, 1) := by decide +kernel
theorem dX9_both_19 : decode cX9_both 19 = .ok (.aload_n 0, 1) := by decide +kernel
theorem dX9_both_20 : decode cX9_both 20 = .ok (.getfield 10, 3) := by decide +kernel
theorem dX9_both_23 : decode cX9_both 23 = .ok (.getfield 82, 3) := by decide +kernel
theorem dX9_both_26 : decode cX9_both 26 = .ok (.iconst 2, 1) := by decide +kernel
theorem dX9_both_27 : decode cX9_both 27 = .ok (.if_icmp .ge 6, 3) := by decide +kernel
theorem dX9_both_30 : decode cX9_both 30 = .ok (.bipush (-5), 2) := by decide +kernel
theorem dX9_both_32 : decode cX9_both 32 = .ok (.ireturn, 1) := by decide +kernel
theorem dX9_both_33 : decode cX9_both 33 = .ok (.iload_n 2, 1) := by decide +kernel
theorem dX9_both_34 : decode cX9_both 34 = .ok (.ifCond .ne 14, 3) := by decide +kernel
theorem dX9_both_37 : decode cX9_both 37 = .ok (.aload_n 0, 1) := by decide +kernel
theorem dX9_both_38 : decode cX9_both 38 = .ok (.getfield 49, 3) := by decide +kernel
theorem dX9_both_41 : decode cX9_both 41 = .ok (.iload_n 1, 1) := by decide +kernel
theorem dX9_both_42 : decode cX9_both 42 = .ok (.invokevirtual 199, 3) := by decide +kernel
theorem dX9_both_45 : decode cX9_both 45 = .ok (.goto 11, 3) := by decide +kernel
theorem dX9_both_48 : decode cX9_both 48 = .ok (.aload_n 0, 1) := by decide +kernel
theorem dX9_both_49 : decode cX9_both 49 = .ok (.getfield 49, 3) := by decide +kernel
theorem dX9_both_52 : decode cX9_both 52 = .ok (.iload_n 1, 1) := by decide +kernel
theorem dX9_both_53 : decode cX9_both 53 = .ok (.invokevirtual 203, 3) := by decide +kernel
theorem dX9_both_56 : decode cX9_both 56 = .ok (.ireturn, 1) := by decide +kernel
theorem dX9_holeFor_0 : decode cX9_holeFor 0 = .ok (.aload_n 0, 1) := by decide +kernel
theorem dX9_holeFor_1 : decode cX9_holeFor 1 = .ok (.iload_n 1, 1) := by decide +kernel
theorem dX9_holeFor_2 : decode cX9_holeFor 2 = .ok (.invokevirtual 143, 3) := by decide +kernel
theorem dX9_holeFor_5 : decode cX9_holeFor 5 = .ok (.ifCond .eq 22, 3) := by decide +kernel
theorem dX9_holeFor_8 : decode cX9_holeFor 8 = .ok (.iload_n 2, 1) := by decide +kernel
theorem dX9_holeFor_9 : decode cX9_holeFor 9 = .ok (.sipush 999, 3) := by decide +kernel
theorem dX9_holeFor_12 : decode cX9_holeFor 12 = .ok (.invokestatic 146, 3) := by decide +kernel
theorem dX9_holeFor_15 : decode cX9_holeFor 15 = .ok (.ifCond .eq 12, 3) := by decide +kernel
theorem dX9_holeFor_18 : decode cX9_holeFor 18 = .ok (.iload_n 3, 1) := by decide +kernel
theorem dX9_holeFor_19 : decode cX9_holeFor 19 = .ok (.bipush 60, 2) := by decide +kernel
theorem dX9_holeFor_21 : decode cX9_holeFor 21 = .ok (.invokestatic 146, 3) := by decide +kernel
theorem dX9_holeFor_24 : decode cX9_holeFor 24 = .ok (.ifCond .ne 6, 3) := by decide +kernel
theorem dX9_holeFor_27 : decode cX9_holeFor 27 = .ok (.ldc 112, 2) := by decide +kernel
theorem dX9_holeFor_29 : decode cX9_holeFor 29 = .ok (.ireturn, 1) := by decide +kernel
theorem dX9_holeFor_30 : decode cX9_holeFor 30 = .ok (.aload_n 0, 1) := by decide +kernel
theorem dX9_holeFor_31 : decode cX9_holeFor 31 = .ok (.getfield 49, 3) := by decide +kernel
theorem dX9_holeFor_34 : decode cX9_holeFor 34 = .ok (.iload_n 1, 1) := by decide +kernel
theorem dX9_holeFor_35 : decode cX9_holeFor 35 = .ok (.iload_n 2, 1) := by decide +kernel
theorem dX9_holeFor_36 : decode cX9_holeFor 36 = .ok (.iload_n 3, 1) := by decide +kernel
theorem dX9_holeFor_37 : decode cX9_holeFor 37 = .ok (.invokevirtual 206, 3) := by decide +kernel
theorem dX9_holeFor_40 : decode cX9_holeFor 40 = .ok (.aload_n 0, 1) := by decide +kernel
theorem dX9_holeFor_41 : decode cX9_holeFor 41 = .ok (.getfield 49, 3) := by decide +kernel
theorem dX9_holeFor_44 : decode cX9_holeFor 44 = .ok (.iload_n 1, 1) := by decide +kernel
theorem dX9_holeFor_45 : decode cX9_holeFor 45 = .ok (.getstatic 86, 3) := by decide +kernel
theorem dX9_holeFor_48 : decode cX9_holeFor 48 = .ok (.bipush 6, 2) := by decide +kernel
theorem dX9_holeFor_50 : decode cX9_holeFor 50 = .ok (.iaload, 1) := by decide +kernel
theorem dX9_holeFor_51 : decode cX9_holeFor 51 = .ok (.iload_n 3, 1) := by decide +kernel
theorem dX9_holeFor_52 : decode cX9_holeFor 52 = .ok (.invokevirtual 206, 3) := by decide +kernel
theorem dX9_holeFor_55 : decode cX9_holeFor 55 = .ok (.isub, 1) := by decide +kernel
theorem dX9_holeFor_56 : decode cX9_holeFor 56 = .ok (.ireturn, 1) := by decide +kernel
theorem dX9_stopFor_0 : decode cX9_stopFor 0 = .ok (.aload_n 0, 1) := by decide +kernel
theorem dX9_stopFor_1 : decode cX9_stopFor 1 = .ok (.iload_n 1, 1) := by decide +kernel
theorem dX9_stopFor_2 : decode cX9_stopFor 2 = .ok (.invokevirtual 143, 3) := by decide +kernel
theorem dX9_stopFor_5 : decode cX9_stopFor 5 = .ok (.ifCond .eq 14, 3) := by decide +kernel
theorem dX9_stopFor_8 : decode cX9_stopFor 8 = .ok (.aload_n 0, 1) := by decide +kernel
theorem dX9_stopFor_9 : decode cX9_stopFor 9 = .ok (.getfield 49, 3) := by decide +kernel
theorem dX9_stopFor_12 : decode cX9_stopFor 12 = .ok (.iload_n 1, 1) := by decide +kernel
theorem dX9_stopFor_13 : decode cX9_stopFor 13 = .ok (.invokevirtual 209, 3) := by decide +kernel
theorem dX9_stopFor_16 : decode cX9_stopFor 16 = .ok (.goto 4, 3) := by decide +kernel
theorem dX9_stopFor_19 : decode cX9_stopFor 19 = .ok (.iconst (-1), 1) := by decide +kernel
theorem dX9_stopFor_20 : decode cX9_stopFor 20 = .ok (.ireturn, 1) := by decide +kernel
theorem dX9_judge_0 : decode cX9_judge 0 = .ok (.aload_n 0, 1) := by decide +kernel
theorem dX9_judge_1 : decode cX9_judge 1 = .ok (.iload_n 1, 1) := by decide +kernel
theorem dX9_judge_2 : decode cX9_judge 2 = .ok (.invokevirtual 212, 3) := by decide +kernel
theorem dX9_judge_5 : decode cX9_judge 5 = .ok (.istore_n 2, 1) := by decide +kernel
theorem dX9_judge_6 : decode cX9_judge 6 = .ok (.iload_n 2, 1) := by decide +kernel
theorem dX9_judge_7 : decode cX9_judge 7 = .ok (.ifCond .eq 7, 3) := by decide +kernel
theorem dX9_judge_10 : decode cX9_judge 10 = .ok (.iload_n 2, 1) := by decide +kernel
theorem dX9_judge_11 : decode cX9_judge 11 = .ok (.goto 18, 3) := by decide +kernel
theorem dX9_judge_14 : decode cX9_judge 14 = .ok (.aload_n 0, 1) := by decide +kernel
theorem dX9_judge_15 : decode cX9_judge 15 = .ok (.getfield 49, 3) := by decide +kernel
theorem dX9_judge_18 : decode cX9_judge 18 = .ok (.aload_n 0, 1) := by decide +kernel
theorem dX9_judge_19 : decode cX9_judge 19 = .ok (.getfield 69, 3) := by decide +kernel
theorem dX9_judge_22 : decode cX9_judge 22 = .ok (.iload_n 1, 1) := by decide +kernel
theorem dX9_judge_23 : decode cX9_judge 23 = .ok (.aaload, 1) := by decide +kernel
theorem dX9_judge_24 : decode cX9_judge 24 = .ok (.bipush 7, 2) := by decide +kernel
theorem dX9_judge_26 : decode cX9_judge 26 = .ok (.invokevirtual 215, 3) := by decide +kernel
theorem dX9_judge_29 : decode cX9_judge 29 = .ok (.ireturn, 1) := by decide +kernel
theorem dX9_who_0 : decode cX9_who 0 = .ok (.iload_n 2, 1) := by decide +kernel
theorem dX9_who_1 : decode cX9_who 1 = .ok (.iconst 1, 1) := by decide +kernel
theorem dX9_who_2 : decode cX9_who 2 = .ok (.invokestatic 146, 3) := by decide +kernel
theorem dX9_who_5 : decode cX9_who 5 = .ok (.ifCond .ne 5, 3) := by decide +kernel
theorem dX9_who_8 : decode cX9_who 8 = .ok (.iconst (-1), 1) := by decide +kernel
theorem dX9_who_9 : decode cX9_who 9 = .ok (.ireturn, 1) := by decide +kernel
theorem dX9_who_10 : decode cX9_who 10 = .ok (.aload_n 0, 1) := by decide +kernel
theorem dX9_who_11 : decode cX9_who 11 = .ok (.iload_n 1, 1) := by decide +kernel
theorem dX9_who_12 : decode cX9_who 12 = .ok (.invokevirtual 212, 3) := by decide +kernel
theorem dX9_who_15 : decode cX9_who 15 = .ok (.istore_n 3, 1) := by decide +kernel
theorem dX9_who_16 : decode cX9_who 16 = .ok (.iload_n 3, 1) := by decide +kernel
theorem dX9_who_17 : decode cX9_who 17 = .ok (.ifCond .eq 5, 3) := by decide +kernel
theorem dX9_who_20 : decode cX9_who 20 = .ok (.iload_n 3, 1) := by decide +kernel
theorem dX9_who_21 : decode cX9_who 21 = .ok (.ireturn, 1) := by decide +kernel
theorem dX9_who_22 : decode cX9_who 22 = .ok (.iload_n 2, 1) := by decide +kernel
theorem dX9_who_23 : decode cX9_who 23 = .ok (.ifCond .ne 19, 3) := by decide +kernel
theorem dX9_who_26 : decode cX9_who 26 = .ok (.aload_n 0, 1) := by decide +kernel
theorem dX9_who_27 : decode cX9_who 27 = .ok (.getfield 49, 3) := by decide +kernel
theorem dX9_who_30 : decode cX9_who 30 = .ok (.aload_n 0, 1) := by decide +kernel
theorem dX9_who_31 : decode cX9_who 31 = .ok (.getfield 69, 3) := by decide +kernel
theorem dX9_who_34 : decode cX9_who 34 = .ok (.iload_n 1, 1) := by decide +kernel
theorem dX9_who_35 : decode cX9_who 35 = .ok (.aaload, 1) := by decide +kernel
theorem dX9_who_36 : decode cX9_who 36 = .ok (.invokevirtual 219, 3) := by decide +kernel
theorem dX9_who_39 : decode cX9_who 39 = .ok (.goto 16, 3) := by decide +kernel
theorem dX9_who_42 : decode cX9_who 42 = .ok (.aload_n 0, 1) := by decide +kernel
theorem dX9_who_43 : decode cX9_who 43 = .ok (.getfield 49, 3) := by decide +kernel
theorem dX9_who_46 : decode cX9_who 46 = .ok (.aload_n 0, 1) := by decide +kernel
theorem dX9_who_47 : decode cX9_who 47 = .ok (.getfield 69, 3) := by decide +kernel
theorem dX9_who_50 : decode cX9_who 50 = .ok (.iload_n 1, 1) := by decide +kernel
theorem dX9_who_51 : decode cX9_who 51 = .ok (.aaload, 1) := by decide +kernel
theorem dX9_who_52 : decode cX9_who 52 = .ok (.invokevirtual 223, 3) := by decide +kernel
theorem dX9_who_55 : decode cX9_who 55 = .ok (.ireturn, 1) := by decide +kernel
theorem dX9_since_0 : decode cX9_since 0 = .ok (.aload_n 0, 1) := by decide +kernel
theorem dX9_since_1 : decode cX9_since 1 = .ok (.iload_n 2, 1) := by decide +kernel
theorem dX9_since_2 : decode cX9_since 2 = .ok (.invokevirtual 143, 3) := by decide +kernel
theorem dX9_since_5 : decode cX9_since 5 = .ok (.ifCond .ne 5, 3) := by decide +kernel
theorem dX9_since_8 : decode cX9_since 8 = .ok (.iconst (-1), 1) := by decide +kernel
theorem dX9_since_9 : decode cX9_since 9 = .ok (.ireturn, 1) := by decide +kernel
theorem dX9_since_10 : decode cX9_since 10 = .ok (.aload_n 0, 1) := by decide +kernel
theorem dX9_since_11 : decode cX9_since 11 = .ok (.iload_n 1, 1) := by decide +kernel
theorem dX9_since_12 : decode cX9_since 12 = .ok (.invokevirtual 212, 3) := by decide +kernel
theorem dX9_since_15 : decode cX9_since 15 = .ok (.istore_n 3, 1) := by decide +kernel
theorem dX9_since_16 : decode cX9_since 16 = .ok (.iload_n 3, 1) := by decide +kernel
theorem dX9_since_17 : decode cX9_since 17 = .ok (.ifCond .eq 7, 3) := by decide +kernel
theorem dX9_since_20 : decode cX9_since 20 = .ok (.iload_n 3, 1) := by decide +kernel
theorem dX9_since_21 : decode cX9_since 21 = .ok (.goto 17, 3) := by decide +kernel
theorem dX9_since_24 : decode cX9_since 24 = .ok (.aload_n 0, 1) := by decide +kernel
theorem dX9_since_25 : decode cX9_since 25 = .ok (.getfield 49, 3) := by decide +kernel
theorem dX9_since_28 : decode cX9_since 28 = .ok (.aload_n 0, 1) := by decide +kernel
theorem dX9_since_29 : decode cX9_since 29 = .ok (.getfield 69, 3) := by decide +kernel
theorem dX9_since_32 : decode cX9_since 32 = .ok (.iload_n 1, 1) := by decide +kernel
theorem dX9_since_33 : decode cX9_since 33 = .ok (.aaload, 1) := by decide +kernel
theorem dX9_since_34 : decode cX9_since 34 = .ok (.iload_n 2, 1) := by decide +kernel
theorem dX9_since_35 : decode cX9_since 35 = .ok (.invokevirtual 226, 3) := by decide +kernel
theorem dX9_since_38 : decode cX9_since 38 = .ok (.ireturn, 1) := by decide +kernel
theorem dX9_drawn_0 : decode cX9_drawn 0 = .ok (.iload_n 2, 1) := by decide +kernel
theorem dX9_drawn_1 : decode cX9_drawn 1 = .ok (.iconst 1, 1) := by decide +kernel
theorem dX9_drawn_2 : decode cX9_drawn 2 = .ok (.if_icmp .lt 22, 3) := by decide +kernel
theorem dX9_drawn_5 : decode cX9_drawn 5 = .ok (.iload_n 2, 1) := by decide +kernel
theorem dX9_drawn_6 : decode cX9_drawn 6 = .ok (.bipush 20, 2) := by decide +kernel
theorem dX9_drawn_8 : decode cX9_drawn 8 = .ok (.if_icmp .gt 16, 3) := by decide +kernel
theorem dX9_drawn_11 : decode cX9_drawn 11 = .ok (.iload_n 3, 1) := by decide +kernel
theorem dX9_drawn_12 : decode cX9_drawn 12 = .ok (.iconst (-1), 1) := by decide +kernel
theorem dX9_drawn_13 : decode cX9_drawn 13 = .ok (.if_icmp .eq 13, 3) := by decide +kernel
theorem dX9_drawn_16 : decode cX9_drawn 16 = .ok (.aload_n 0, 1) := by decide +kernel
theorem dX9_drawn_17 : decode cX9_drawn 17 = .ok (.iload_n 3, 1) := by decide +kernel
theorem dX9_drawn_18 : decode cX9_drawn 18 = .ok (.invokevirtual 143, 3) := by decide +kernel
theorem dX9_drawn_21 : decode cX9_drawn 21 = .ok (.ifCond .ne 5, 3) := by decide +kernel
theorem dX9_drawn_24 : decode cX9_drawn 24 = .ok (.iconst (-1), 1) := by decide +kernel
theorem dX9_drawn_25 : decode cX9_drawn 25 = .ok (.ireturn, 1) := by decide +kernel
theorem dX9_drawn_26 : decode cX9_drawn 26 = .ok (.aload_n 0, 1) := by decide +kernel
theorem dX9_drawn_27 : decode cX9_drawn 27 = .ok (.getfield 49, 3) := by decide +kernel
theorem dX9_drawn_30 : decode cX9_drawn 30 = .ok (.iload_n 1, 1) := by decide +kernel
theorem dX9_drawn_31 : decode cX9_drawn 31 = .ok (.iload_n 2, 1) := by decide +kernel
theorem dX9_drawn_32 : decode cX9_drawn 32 = .ok (.iload_n 3, 1) := by decide +kernel
theorem dX9_drawn_33 : decode cX9_drawn 33 = .ok (.invokevirtual 229, 3) := by decide +kernel
theorem dX9_drawn_36 : decode cX9_drawn 36 = .ok (.ireturn, 1) := by decide +kernel
theorem dX9_second_0 : decode cX9_second 0 = .ok (.aload_n 0, 1) := by decide +kernel
theorem dX9_second_1 : decode cX9_second 1 = .ok (.getfield 37, 3) := by decide +kernel
theorem dX9_second_4 : decode cX9_second 4 = .ok (.getfield 126, 3) := by decide +kernel
theorem dX9_second_7 : decode cX9_second 7 = .ok (.sipush 999, 3) := by decide +kernel
theorem dX9_second_10 : decode cX9_second 10 = .ok (.if_icmp .lt 6, 3) := by decide +kernel
theorem dX9_second_13 : decode cX9_second 13 = .ok (.bipush (-5), 2) := by decide +kernel
theorem dX9_second_15 : decode cX9_second 15 = .ok (.ireturn, 1) := by decide +kernel
theorem dX9_second_16 : decode cX9_second 16 = .ok (.aload_n 0, 1) := by decide +kernel
theorem dX9_second_17 : decode cX9_second 17 = .ok (.getfield 37, 3) := by decide +kernel
theorem dX9_second_20 : decode cX9_second 20 = .ok (.bipush 7, 2) := by decide +kernel
theorem dX9_second_22 : decode cX9_second 22 = .ok (.iconst 0, 1) := by decide +kernel
theorem dX9_second_23 : decode cX9_second 23 = .ok (.iconst 0, 1) := by decide +kernel
theorem dX9_second_24 : decode cX9_second 24 = .ok (.invokevirtual 232, 3) := by decide +kernel
theorem dX9_second_27 : decode cX9_second 27 = .ok (.aload_n 0, 1) := by decide +kernel
theorem dX9_second_28 : decode cX9_second 28 = .ok (.getfield 37, 3) := by decide +kernel
theorem dX9_second_31 : decode cX9_second 31 = .ok (.dup, 1) := by decide +kernel
theorem dX9_second_32 : decode cX9_second 32 = .ok (.getfield 235, 3) := by decide +kernel
theorem dX9_second_35 : decode cX9_second 35 = .ok (.iconst 1, 1) := by decide +kernel
theorem dX9_second_36 : decode cX9_second 36 = .ok (.iadd, 1) := by decide +kernel
theorem dX9_second_37 : decode cX9_second 37 = .ok (.putfield 235, 3) := by decide +kernel
theorem dX9_second_40 : decode cX9_second 40 = .ok (.aload_n 0, 1) := by decide +kernel
theorem dX9_second_41 : decode cX9_second 41 = .ok (.getfield 37, 3) := by decide +kernel
theorem dX9_second_44 : decode cX9_second 44 = .ok (.getfield 120, 3) := by decide +kernel
theorem dX9_second_47 : decode cX9_second 47 = .ok (.ireturn, 1) := by decide +kernel
theorem dX9_fill_0 : decode cX9_fill 0 = .ok (.iload_n 1, 1) := by decide +kernel
theorem dX9_fill_1 : decode cX9_fill 1 = .ok (.sipush 999, 3) := by decide +kernel
theorem dX9_fill_4 : decode cX9_fill 4 = .ok (.invokestatic 146, 3) := by decide +kernel
theorem dX9_fill_7 : decode cX9_fill 7 = .ok (.ifCond .ne 5, 3) := by decide +kernel
theorem dX9_fill_10 : decode cX9_fill 10 = .ok (.iconst (-1), 1) := by decide +kernel
theorem dX9_fill_11 : decode cX9_fill 11 = .ok (.ireturn, 1) := by decide +kernel
theorem dX9_fill_12 : decode cX9_fill 12 = .ok (.aload_n 0, 1) := by decide +kernel
theorem dX9_fill_13 : decode cX9_fill 13 = .ok (.getfield 37, 3) := by decide +kernel
theorem dX9_fill_16 : decode cX9_fill 16 = .ok (.getfield 120, 3) := by decide +kernel
theorem dX9_fill_19 : decode cX9_fill 19 = .ok (.istore_n 2, 1) := by decide +kernel
theorem dX9_fill_20 : decode cX9_fill 20 = .ok (.aload_n 0, 1) := by decide +kernel
theorem dX9_fill_21 : decode cX9_fill 21 = .ok (.getfield 37, 3) := by decide +kernel
theorem dX9_fill_24 : decode cX9_fill 24 = .ok (.iload_n 1, 1) := by decide +kernel
theorem dX9_fill_25 : decode cX9_fill 25 = .ok (.invokevirtual 238, 3) := by decide +kernel
theorem dX9_fill_28 : decode cX9_fill 28 = .ok (.iload_n 2, 1) := by decide +kernel
theorem dX9_fill_29 : decode cX9_fill 29 = .ok (.ireturn, 1) := by decide +kernel
theorem dX9_ice_0 : decode cX9_ice 0 = .ok (.iload_n 1, 1) := by decide +kernel
theorem dX9_ice_1 : decode cX9_ice 1 = .ok (.iconst 1, 1) := by decide +kernel
theorem dX9_ice_2 : decode cX9_ice 2 = .ok (.if_icmp .lt 9, 3) := by decide +kernel
theorem dX9_ice_5 : decode cX9_ice 5 = .ok (.iload_n 1, 1) := by decide +kernel
theorem dX9_ice_6 : decode cX9_ice 6 = .ok (.bipush 99, 2) := by decide +kernel
theorem dX9_ice_8 : decode cX9_ice 8 = .ok (.if_icmp .le 5, 3) := by decide +kernel
theorem dX9_ice_11 : decode cX9_ice 11 = .ok (.iconst (-1), 1) := by decide +kernel
theorem dX9_ice_12 : decode cX9_ice 12 = .ok (.ireturn, 1) := by decide +kernel
theorem dX9_ice_13 : decode cX9_ice 13 = .ok (.aload_n 0, 1) := by decide +kernel
theorem dX9_ice_14 : decode cX9_ice 14 = .ok (.getfield 37, 3) := by decide +kernel
theorem dX9_ice_17 : decode cX9_ice 17 = .ok (.getfield 123, 3) := by decide +kernel
theorem dX9_ice_20 : decode cX9_ice 20 = .ok (.iload_n 1, 1) := by decide +kernel
theorem dX9_ice_21 : decode cX9_ice 21 = .ok (.iadd, 1) := by decide +kernel
theorem dX9_ice_22 : decode cX9_ice 22 = .ok (.bipush 99, 2) := by decide +kernel
theorem dX9_ice_24 : decode cX9_ice 24 = .ok (.if_icmp .le 6, 3) := by decide +kernel
theorem dX9_ice_27 : decode cX9_ice 27 = .ok (.bipush (-5), 2) := by decide +kernel
theorem dX9_ice_29 : decode cX9_ice 29 = .ok (.ireturn, 1) := by decide +kernel
theorem dX9_ice_30 : decode cX9_ice 30 = .ok (.aload_n 0, 1) := by decide +kernel
theorem dX9_ice_31 : decode cX9_ice 31 = .ok (.getfield 37, 3) := by decide +kernel
theorem dX9_ice_34 : decode cX9_ice 34 = .ok (.dup, 1) := by decide +kernel
theorem dX9_ice_35 : decode cX9_ice 35 = .ok (.getfield 123, 3) := by decide +kernel
theorem dX9_ice_38 : decode cX9_ice 38 = .ok (.iload_n 1, 1) := by decide +kernel
theorem dX9_ice_39 : decode cX9_ice 39 = .ok (.iadd, 1) := by decide +kernel
theorem dX9_ice_40 : decode cX9_ice 40 = .ok (.putfield 123, 3) := by decide +kernel
theorem dX9_ice_43 : decode cX9_ice 43 = .ok (.aload_n 0, 1) := by decide +kernel
theorem dX9_ice_44 : decode cX9_ice 44 = .ok (.getfield 37, 3) := by decide +kernel
theorem dX9_ice_47 : decode cX9_ice 47 = .ok (.getfield 123, 3) := by decide +kernel
theorem dX9_ice_50 : decode cX9_ice 50 = .ok (.ireturn, 1) := by decide +kernel
theorem dX9_led_0 : decode cX9_led 0 = .ok (.iload_n 2, 1) := by decide +kernel
theorem dX9_led_1 : decode cX9_led 1 = .ok (.iconst 3, 1) := by decide +kernel
theorem dX9_led_2 : decode cX9_led 2 = .ok (.if_icmp .eq 8, 3) := by decide +kernel
theorem dX9_led_5 : decode cX9_led 5 = .ok (.iload_n 2, 1) := by decide +kernel
theorem dX9_led_6 : decode cX9_led 6 = .ok (.iconst 4, 1) := by decide +kernel
theorem dX9_led_7 : decode cX9_led 7 = .ok (.if_icmp .ne 32, 3) := by decide +kernel
theorem dX9_led_10 : decode cX9_led 10 = .ok (.iload_n 1, 1) := by decide +kernel
theorem dX9_led_11 : decode cX9_led 11 = .ok (.ifCond .eq 5, 3) := by decide +kernel
theorem dX9_led_14 : decode cX9_led 14 = .ok (.iconst (-1), 1) := by decide +kernel
theorem dX9_led_15 : decode cX9_led 15 = .ok (.ireturn, 1) := by decide +kernel
theorem dX9_led_16 : decode cX9_led 16 = .ok (.iload_n 2, 1) := by decide +kernel
theorem dX9_led_17 : decode cX9_led 17 = .ok (.iconst 3, 1) := by decide +kernel
theorem dX9_led_18 : decode cX9_led 18 = .ok (.if_icmp .ne 13, 3) := by decide +kernel
theorem dX9_led_21 : decode cX9_led 21 = .ok (.aload_n 0, 1) := by decide +kernel
theorem dX9_led_22 : decode cX9_led 22 = .ok (.getfield 37, 3) := by decide +kernel
theorem dX9_led_25 : decode cX9_led 25 = .ok (.getfield 235, 3) := by decide +kernel
theorem dX9_led_28 : decode cX9_led 28 = .ok (.goto 10, 3) := by decide +kernel
theorem dX9_led_31 : decode cX9_led 31 = .ok (.aload_n 0, 1) := by decide +kernel
theorem dX9_led_32 : decode cX9_led 32 = .ok (.getfield 37, 3) := by decide +kernel
theorem dX9_led_35 : decode cX9_led 35 = .ok (.getfield 242, 3) := by decide +kernel
theorem dX9_led_38 : decode cX9_led 38 = .ok (.ireturn, 1) := by decide +kernel
theorem dX9_led_39 : decode cX9_led 39 = .ok (.aload_n 0, 1) := by decide +kernel
theorem dX9_led_40 : decode cX9_led 40 = .ok (.iload_n 1, 1) := by decide +kernel
theorem dX9_led_41 : decode cX9_led 41 = .ok (.invokevirtual 143, 3) := by decide +kernel
theorem dX9_led_44 : decode cX9_led 44 = .ok (.ifCond .eq 11, 3) := by decide +kernel
theorem dX9_led_47 : decode cX9_led 47 = .ok (.iload_n 2, 1) := by decide +kernel
theorem dX9_led_48 : decode cX9_led 48 = .ok (.iconst 2, 1) := by decide +kernel
theorem dX9_led_49 : decode cX9_led 49 = .ok (.invokestatic 146, 3) := by decide +kernel
theorem dX9_led_52 : decode cX9_led 52 = .ok (.ifCond .ne 5, 3) := by decide +kernel
theorem dX9_led_55 : decode cX9_led 55 = .ok (.iconst (-1), 1) := by decide +kernel
theorem dX9_led_56 : decode cX9_led 56 = .ok (.ireturn, 1) := by decide +kernel
theorem dX9_led_57 : decode cX9_led 57 = .ok (.aload_n 0, 1) := by decide +kernel
theorem dX9_led_58 : decode cX9_led 58 = .ok (.getfield 37, 3) := by decide +kernel
theorem dX9_led_61 : decode cX9_led 61 = .ok (.iload_n 1, 1) := by decide +kernel
theorem dX9_led_62 : decode cX9_led 62 = .ok (.iload_n 2, 1) := by decide +kernel
theorem dX9_led_63 : decode cX9_led 63 = .ok (.invokevirtual 156, 3) := by decide +kernel
theorem dX9_led_66 : decode cX9_led 66 = .ok (.ireturn, 1) := by decide +kernel
theorem dX9_image_0 : decode cX9_image 0 = .ok (.aload_n 0, 1) := by decide +kernel
theorem dX9_image_1 : decode cX9_image 1 = .ok (.getfield 41, 3) := by decide +kernel
theorem dX9_image_4 : decode cX9_image 4 = .ok (.aload_n 0, 1) := by decide +kernel
theorem dX9_image_5 : decode cX9_image 5 = .ok (.getfield 37, 3) := by decide +kernel
theorem dX9_image_8 : decode cX9_image 8 = .ok (.invokevirtual 245, 3) := by decide +kernel
theorem dX9_image_11 : decode cX9_image 11 = .ok (.aload_n 0, 1) := by decide +kernel
theorem dX9_image_12 : decode cX9_image 12 = .ok (.iconst 1, 1) := by decide +kernel
theorem dX9_image_13 : decode cX9_image 13 = .ok (.putfield 74, 3) := by decide +kernel
theorem dX9_image_16 : decode cX9_image 16 = .ok (.aload_n 0, 1) := by decide +kernel
theorem dX9_image_17 : decode cX9_image 17 = .ok (.getfield 37, 3) := by decide +kernel
theorem dX9_image_20 : decode cX9_image 20 = .ok (.getfield 120, 3) := by decide +kernel
theorem dX9_image_23 : decode cX9_image 23 = .ok (.ireturn, 1) := by decide +kernel
theorem dX9_back_0 : decode cX9_back 0 = .ok (.aload_n 0, 1) := by decide +kernel
theorem dX9_back_1 : decode cX9_back 1 = .ok (.getfield 74, 3) := by decide +kernel
theorem dX9_back_4 : decode cX9_back 4 = .ok (.ifCond .ne 6, 3) := by decide +kernel
theorem dX9_back_7 : decode cX9_back 7 = .ok (.bipush (-5), 2) := by decide +kernel
theorem dX9_back_9 : decode cX9_back 9 = .ok (.ireturn, 1) := by decide +kernel
theorem dX9_back_10 : decode cX9_back 10 = .ok (.aload_n 0, 1) := by decide +kernel
theorem dX9_back_11 : decode cX9_back 11 = .ok (.getfield 37, 3) := by decide +kernel
theorem dX9_back_14 : decode cX9_back 14 = .ok (.aload_n 0, 1) := by decide +kernel
theorem dX9_back_15 : decode cX9_back 15 = .ok (.getfield 41, 3) := by decide +kernel
theorem dX9_back_18 : decode cX9_back 18 = .ok (.invokevirtual 245, 3) := by decide +kernel
theorem dX9_back_21 : decode cX9_back 21 = .ok (.aload_n 0, 1) := by decide +kernel
theorem dX9_back_22 : decode cX9_back 22 = .ok (.getfield 37, 3) := by decide +kernel
theorem dX9_back_25 : decode cX9_back 25 = .ok (.getfield 120, 3) := by decide +kernel
theorem dX9_back_28 : decode cX9_back 28 = .ok (.ireturn, 1) := by decide +kernel
theorem dX9_undo_0 : decode cX9_undo 0 = .ok (.aload_n 0, 1) := by decide +kernel
theorem dX9_undo_1 : decode cX9_undo 1 = .ok (.getfield 56, 3) := by decide +kernel
theorem dX9_undo_4 : decode cX9_undo 4 = .ok (.aload_n 0, 1) := by decide +kernel
theorem dX9_undo_5 : decode cX9_undo 5 = .ok (.getfield 10, 3) := by decide +kernel
theorem dX9_undo_8 : decode cX9_undo 8 = .ok (.getfield 113, 3) := by decide +kernel
theorem dX9_undo_11 : decode cX9_undo 11 = .ok (.invokevirtual 249, 3) := by decide +kernel
theorem dX9_undo_14 : decode cX9_undo 14 = .ok (.ifCond .eq 13, 3) := by decide +kernel
theorem dX9_undo_17 : decode cX9_undo 17 = .ok (.aload_n 0, 1) := by decide +kernel
theorem dX9_undo_18 : decode cX9_undo 18 = .ok (.getfield 56, 3) := by decide +kernel
theorem dX9_undo_21 : decode cX9_undo 21 = .ok (.getfield 253, 3) := by decide +kernel
theorem dX9_undo_24 : decode cX9_undo 24 = .ok (.goto 5, 3) := by decide +kernel
theorem dX9_undo_27 : decode cX9_undo 27 = .ok (.bipush (-5), 2) := by decide +kernel
theorem dX9_undo_29 : decode cX9_undo 29 = .ok (.ireturn, 1) := by decide +kernel
theorem dX9_redo_0 : decode cX9_redo 0 = .ok (.aload_n 0, 1) := by decide +kernel
theorem dX9_redo_1 : decode cX9_redo 1 = .ok (.getfield 56, 3) := by decide +kernel
theorem dX9_redo_4 : decode cX9_redo 4 = .ok (.aload_n 0, 1) := by decide +kernel
theorem dX9_redo_5 : decode cX9_redo 5 = .ok (.getfield 10, 3) := by decide +kernel
theorem dX9_redo_8 : decode cX9_redo 8 = .ok (.getfield 113, 3) := by decide +kernel
theorem dX9_redo_11 : decode cX9_redo 11 = .ok (.invokevirtual 256, 3) := by decide +kernel
theorem dX9_redo_14 : decode cX9_redo 14 = .ok (.ifCond .eq 21, 3) := by decide +kernel
theorem dX9_redo_17 : decode cX9_redo 17 = .ok (.aload_n 0, 1) := by decide +kernel
theorem dX9_redo_18 : decode cX9_redo 18 = .ok (.getfield 56, 3) := by decide +kernel
theorem dX9_redo_21 : decode cX9_redo 21 = .ok (.getfield 259, 3) := by decide +kernel
theorem dX9_redo_24 : decode cX9_redo 24 = .ok (.aload_n 0, 1) := by decide +kernel
theorem dX9_redo_25 : decode cX9_redo 25 = .ok (.getfield 56, 3) := by decide +kernel
theorem dX9_redo_28 : decode cX9_redo 28 = .ok (.getfield 253, 3) := by decide +kernel
theorem dX9_redo_31 : decode cX9_redo 31 = .ok (.isub, 1) := by decide +kernel
theorem dX9_redo_32 : decode cX9_redo 32 = .ok (.goto 5, 3) := by decide +kernel
theorem dX9_redo_35 : decode cX9_redo 35 = .ok (.bipush (-5), 2) := by decide +kernel
theorem dX9_redo_37 : decode cX9_redo 37 = .ok (.ireturn, 1) := by decide +kernel
theorem dX9_body_0 : decode cX9_body 0 = .ok (.iload_n 1, 1) := by decide +kernel
theorem dX9_body_1 : decode cX9_body 1 = .ok (.bipush 7, 2) := by decide +kernel
theorem dX9_body_3 : decode cX9_body 3 = .ok (.invokestatic 146, 3) := by decide +kernel
theorem dX9_body_6 : decode cX9_body 6 = .ok (.ifCond .ne 5, 3) := by decide +kernel
theorem dX9_body_9 : decode cX9_body 9 = .ok (.iconst (-1), 1) := by decide +kernel
theorem dX9_body_10 : decode cX9_body 10 = .ok (.ireturn, 1) := by decide +kernel
theorem dX9_body_11 : decode cX9_body 11 = .ok (.aload_n 0, 1) := by decide +kernel
theorem dX9_body_12 : decode cX9_body 12 = .ok (.getfield 63, 3) := by decide +kernel
theorem dX9_body_15 : decode cX9_body 15 = .ok (.iload_n 1, 1) := by decide +kernel
theorem dX9_body_16 : decode cX9_body 16 = .ok (.invokevirtual 262, 3) := by decide +kernel
theorem dX9_body_19 : decode cX9_body 19 = .ok (.ireturn, 1) := by decide +kernel
theorem dX9_act_0 : decode cX9_act 0 = .ok (.aload_n 0, 1) := by decide +kernel
theorem dX9_act_1 : decode cX9_act 1 = .ok (.getfield 63, 3) := by decide +kernel
theorem dX9_act_4 : decode cX9_act 4 = .ok (.iload_n 1, 1) := by decide +kernel
theorem dX9_act_5 : decode cX9_act 5 = .ok (.iload_n 2, 1) := by decide +kernel
theorem dX9_act_6 : decode cX9_act 6 = .ok (.iload_n 3, 1) := by decide +kernel
theorem dX9_act_7 : decode cX9_act 7 = .ok (.invokevirtual 264, 3) := by decide +kernel
theorem dX9_act_10 : decode cX9_act 10 = .ok (.ireturn, 1) := by decide +kernel
theorem dX9_trace_0 : decode cX9_trace 0 = .ok (.aload_n 0, 1) := by decide +kernel
theorem dX9_trace_1 : decode cX9_trace 1 = .ok (.getfield 63, 3) := by decide +kernel
theorem dX9_trace_4 : decode cX9_trace 4 = .ok (.iload_n 1, 1) := by decide +kernel
theorem dX9_trace_5 : decode cX9_trace 5 = .ok (.invokevirtual 267, 3) := by decide +kernel
theorem dX9_trace_8 : decode cX9_trace 8 = .ok (.ireturn, 1) := by decide +kernel
theorem dX9_keep_0 : decode cX9_keep 0 = .ok (.iload_n 1, 1) := by decide +kernel
theorem dX9_keep_1 : decode cX9_keep 1 = .ok (.invokestatic 94, 3) := by decide +kernel
theorem dX9_keep_4 : decode cX9_keep 4 = .ok (.ifCond .eq 19, 3) := by decide +kernel
theorem dX9_keep_7 : decode cX9_keep 7 = .ok (.iload_n 2, 1) := by decide +kernel
theorem dX9_keep_8 : decode cX9_keep 8 = .ok (.iconst (-1), 1) := by decide +kernel
theorem dX9_keep_9 : decode cX9_keep 9 = .ok (.if_icmp .eq 16, 3) := by decide +kernel
theorem dX9_keep_12 : decode cX9_keep 12 = .ok (.aload_n 0, 1) := by decide +kernel
theorem dX9_keep_13 : decode cX9_keep 13 = .ok (.getfield 63, 3) := by decide +kernel
theorem dX9_keep_16 : decode cX9_keep 16 = .ok (.iload_n 2, 1) := by decide +kernel
theorem dX9_keep_17 : decode cX9_keep 17 = .ok (.invokevirtual 270, 3) := by decide +kernel
theorem dX9_keep_20 : decode cX9_keep 20 = .ok (.ifCond .ne 5, 3) := by decide +kernel
theorem dX9_keep_23 : decode cX9_keep 23 = .ok (.iconst (-1), 1) := by decide +kernel
theorem dX9_keep_24 : decode cX9_keep 24 = .ok (.ireturn, 1) := by decide +kernel
theorem dX9_keep_25 : decode cX9_keep 25 = .ok (.iload_n 2, 1) := by decide +kernel
theorem dX9_keep_26 : decode cX9_keep 26 = .ok (.iconst (-1), 1) := by decide +kernel
theorem dX9_keep_27 : decode cX9_keep 27 = .ok (.if_icmp .ne 15, 3) := by decide +kernel
theorem dX9_keep_30 : decode cX9_keep 30 = .ok (.aload_n 0, 1) := by decide +kernel
theorem dX9_keep_31 : decode cX9_keep 31 = .ok (.getfield 69, 3) := by decide +kernel
theorem dX9_keep_34 : decode cX9_keep 34 = .ok (.iload_n 1, 1) := by decide +kernel
theorem dX9_keep_35 : decode cX9_keep 35 = .ok (.aaload, 1) := by decide +kernel
theorem dX9_keep_36 : decode cX9_keep 36 = .ok (.invokevirtual 273, 3) := by decide +kernel
theorem dX9_keep_39 : decode cX9_keep 39 = .ok (.goto 13, 3) := by decide +kernel
theorem dX9_keep_42 : decode cX9_keep 42 = .ok (.aload_n 0, 1) := by decide +kernel
theorem dX9_keep_43 : decode cX9_keep 43 = .ok (.getfield 69, 3) := by decide +kernel
theorem dX9_keep_46 : decode cX9_keep 46 = .ok (.iload_n 1, 1) := by decide +kernel
theorem dX9_keep_47 : decode cX9_keep 47 = .ok (.aaload, 1) := by decide +kernel
theorem dX9_keep_48 : decode cX9_keep 48 = .ok (.iload_n 2, 1) := by decide +kernel
theorem dX9_keep_49 : decode cX9_keep 49 = .ok (.invokevirtual 276, 3) := by decide +kernel
theorem dX9_keep_52 : decode cX9_keep 52 = .ok (.iconst 1, 1) := by decide +kernel
theorem dX9_keep_53 : decode cX9_keep 53 = .ok (.ireturn, 1) := by decide +kernel
theorem dX9_row_0 : decode cX9_row 0 = .ok (.iload_n 1, 1) := by decide +kernel
theorem dX9_row_1 : decode cX9_row 1 = .ok (.invokestatic 94, 3) := by decide +kernel
theorem dX9_row_4 : decode cX9_row 4 = .ok (.ifCond .eq 17, 3) := by decide +kernel
theorem dX9_row_7 : decode cX9_row 7 = .ok (.iload_n 2, 1) := by decide +kernel
theorem dX9_row_8 : decode cX9_row 8 = .ok (.iconst 4, 1) := by decide +kernel
theorem dX9_row_9 : decode cX9_row 9 = .ok (.invokestatic 146, 3) := by decide +kernel
theorem dX9_row_12 : decode cX9_row 12 = .ok (.ifCond .eq 9, 3) := by decide +kernel
theorem dX9_row_15 : decode cX9_row 15 = .ok (.iload_n 3, 1) := by decide +kernel
theorem dX9_row_16 : decode cX9_row 16 = .ok (.bipush 60, 2) := by decide +kernel
theorem dX9_row_18 : decode cX9_row 18 = .ok (.if_icmp .le 5, 3) := by decide +kernel
theorem dX9_row_21 : decode cX9_row 21 = .ok (.iconst (-1), 1) := by decide +kernel
theorem dX9_row_22 : decode cX9_row 22 = .ok (.ireturn, 1) := by decide +kernel
theorem dX9_row_23 : decode cX9_row 23 = .ok (.iload_n 3, 1) := by decide +kernel
theorem dX9_row_24 : decode cX9_row 24 = .ok (.ifCond .ge 6, 3) := by decide +kernel
theorem dX9_row_27 : decode cX9_row 27 = .ok (.bipush (-14), 2) := by decide +kernel
theorem dX9_row_29 : decode cX9_row 29 = .ok (.ireturn, 1) := by decide +kernel
theorem dX9_row_30 : decode cX9_row 30 = .ok (.aload_n 0, 1) := by decide +kernel
theorem dX9_row_31 : decode cX9_row 31 = .ok (.getfield 69, 3) := by decide +kernel
theorem dX9_row_34 : decode cX9_row 34 = .ok (.iload_n 1, 1) := by decide +kernel
theorem dX9_row_35 : decode cX9_row 35 = .ok (.aaload, 1) := by decide +kernel
theorem dX9_row_36 : decode cX9_row 36 = .ok (.iload_n 2, 1) := by decide +kernel
theorem dX9_row_37 : decode cX9_row 37 = .ok (.iload_n 3, 1) := by decide +kernel
theorem dX9_row_38 : decode cX9_row 38 = .ok (.invokevirtual 279, 3) := by decide +kernel
theorem dX9_row_41 : decode cX9_row 41 = .ok (.iconst 1, 1) := by decide +kernel
theorem dX9_row_42 : decode cX9_row 42 = .ok (.ireturn, 1) := by decide +kernel
theorem dX9_put_0 : decode cX9_put 0 = .ok (.aload_n 0, 1) := by decide +kernel
theorem dX9_put_1 : decode cX9_put 1 = .ok (.iload_n 1, 1) := by decide +kernel
theorem dX9_put_2 : decode cX9_put 2 = .ok (.iload_n 2, 1) := by decide +kernel
theorem dX9_put_3 : decode cX9_put 3 = .ok (.invokevirtual 283, 3) := by decide +kernel
theorem dX9_put_6 : decode cX9_put 6 = .ok (.istore 5, 2) := by decide +kernel
theorem dX9_put_8 : decode cX9_put 8 = .ok (.iload 5, 2) := by decide +kernel
theorem dX9_put_10 : decode cX9_put 10 = .ok (.ifCond .eq 6, 3) := by decide +kernel
theorem dX9_put_13 : decode cX9_put 13 = .ok (.iload 5, 2) := by decide +kernel
theorem dX9_put_15 : decode cX9_put 15 = .ok (.ireturn, 1) := by decide +kernel
theorem dX9_put_16 : decode cX9_put 16 = .ok (.aload_n 0, 1) := by decide +kernel
theorem dX9_put_17 : decode cX9_put 17 = .ok (.getfield 69, 3) := by decide +kernel
theorem dX9_put_20 : decode cX9_put 20 = .ok (.iload_n 1, 1) := by decide +kernel
theorem dX9_put_21 : decode cX9_put 21 = .ok (.aaload, 1) := by decide +kernel
theorem dX9_put_22 : decode cX9_put 22 = .ok (.astore 6, 2) := by decide +kernel
theorem dX9_put_24 : decode cX9_put 24 = .ok (.aload 6, 2) := by decide +kernel
theorem dX9_put_26 : decode cX9_put 26 = .ok (.getfield 286, 3) := by decide +kernel
theorem dX9_put_29 : decode cX9_put 29 = .ok (.iload_n 2, 1) := by decide +kernel
theorem dX9_put_30 : decode cX9_put 30 = .ok (.aload 6, 2) := by decide +kernel
theorem dX9_put_32 : decode cX9_put 32 = .ok (.getfield 98, 3) := by decide +kernel
theorem dX9_put_35 : decode cX9_put 35 = .ok (.lload_n 3, 1) := by decide +kernel
theorem dX9_put_36 : decode cX9_put 36 = .ok (.invokestatic 290, 3) := by decide +kernel
theorem dX9_put_39 : decode cX9_put 39 = .ok (.lastore, 1) := by decide +kernel
theorem dX9_put_40 : decode cX9_put 40 = .ok (.iconst 1, 1) := by decide +kernel
theorem dX9_put_41 : decode cX9_put 41 = .ok (.ireturn, 1) := by decide +kernel
theorem dX9_element_0 : decode cX9_element 0 = .ok (.aload_n 0, 1) := by decide +kernel
theorem dX9_element_1 : decode cX9_element 1 = .ok (.iload_n 1, 1) := by decide +kernel
theorem dX9_element_2 : decode cX9_element 2 = .ok (.iload_n 2, 1) := by decide +kernel
theorem dX9_element_3 : decode cX9_element 3 = .ok (.invokevirtual 283, 3) := by decide +kernel
theorem dX9_element_6 : decode cX9_element 6 = .ok (.ifCond .eq 9, 3) := by decide +kernel
theorem dX9_element_9 : decode cX9_element 9 = .ok (.ldc2_w 296, 3) := by decide +kernel
theorem dX9_element_12 : decode cX9_element 12 = .ok (.goto 14, 3) := by decide +kernel
theorem dX9_element_15 : decode cX9_element 15 = .ok (.aload_n 0, 1) := by decide +kernel
theorem dX9_element_16 : decode cX9_element 16 = .ok (.getfield 69, 3) := by decide +kernel
theorem dX9_element_19 : decode cX9_element 19 = .ok (.iload_n 1, 1) := by decide +kernel
theorem dX9_element_20 : decode cX9_element 20 = .ok (.aaload, 1) := by decide +kernel
theorem dX9_element_21 : decode cX9_element 21 = .ok (.getfield 286, 3) := by decide +kernel
theorem dX9_element_24 : decode cX9_element 24 = .ok (.iload_n 2, 1) := by decide +kernel
theorem dX9_element_25 : decode cX9_element 25 = .ok (.laload, 1) := by decide +kernel
theorem dX9_element_26 : decode cX9_element 26 = .ok (.lreturn, 1) := by decide +kernel
theorem dX9_shift_0 : decode cX9_shift 0 = .ok (.iload_n 1, 1) := by decide +kernel
theorem dX9_shift_1 : decode cX9_shift 1 = .ok (.invokestatic 94, 3) := by decide +kernel
theorem dX9_shift_4 : decode cX9_shift 4 = .ok (.ifCond .eq 10, 3) := by decide +kernel
theorem dX9_shift_7 : decode cX9_shift 7 = .ok (.iload_n 3, 1) := by decide +kernel
theorem dX9_shift_8 : decode cX9_shift 8 = .ok (.invokestatic 94, 3) := by decide +kernel
theorem dX9_shift_11 : decode cX9_shift 11 = .ok (.ifCond .ne 5, 3) := by decide +kernel
theorem dX9_shift_14 : decode cX9_shift 14 = .ok (.iconst (-1), 1) := by decide +kernel
theorem dX9_shift_15 : decode cX9_shift 15 = .ok (.ireturn, 1) := by decide +kernel
theorem dX9_shift_16 : decode cX9_shift 16 = .ok (.aload_n 0, 1) := by decide +kernel
theorem dX9_shift_17 : decode cX9_shift 17 = .ok (.getfield 69, 3) := by decide +kernel
theorem dX9_shift_20 : decode cX9_shift 20 = .ok (.iload_n 1, 1) := by decide +kernel
theorem dX9_shift_21 : decode cX9_shift 21 = .ok (.aaload, 1) := by decide +kernel
theorem dX9_shift_22 : decode cX9_shift 22 = .ok (.astore 6, 2) := by decide +kernel
theorem dX9_shift_24 : decode cX9_shift 24 = .ok (.aload_n 0, 1) := by decide +kernel
theorem dX9_shift_25 : decode cX9_shift 25 = .ok (.getfield 69, 3) := by decide +kernel
theorem dX9_shift_28 : decode cX9_shift 28 = .ok (.iload_n 3, 1) := by decide +kernel
theorem dX9_shift_29 : decode cX9_shift 29 = .ok (.aaload, 1) := by decide +kernel
theorem dX9_shift_30 : decode cX9_shift 30 = .ok (.astore 7, 2) := by decide +kernel
theorem dX9_shift_32 : decode cX9_shift 32 = .ok (.aload 6, 2) := by decide +kernel
theorem dX9_shift_34 : decode cX9_shift 34 = .ok (.getfield 98, 3) := by decide +kernel
theorem dX9_shift_37 : decode cX9_shift 37 = .ok (.bipush (-2), 2) := by decide +kernel
theorem dX9_shift_39 : decode cX9_shift 39 = .ok (.if_icmp .eq 13, 3) := by decide +kernel
theorem dX9_shift_42 : decode cX9_shift 42 = .ok (.aload 7, 2) := by decide +kernel
theorem dX9_shift_44 : decode cX9_shift 44 = .ok (.getfield 98, 3) := by decide +kernel
theorem dX9_shift_47 : decode cX9_shift 47 = .ok (.bipush (-2), 2) := by decide +kernel
theorem dX9_shift_49 : decode cX9_shift 49 = .ok (.if_icmp .ne 6, 3) := by decide +kernel
theorem dX9_shift_52 : decode cX9_shift 52 = .ok (.bipush (-11), 2) := by decide +kernel
theorem dX9_shift_54 : decode cX9_shift 54 = .ok (.ireturn, 1) := by decide +kernel
theorem dX9_shift_55 : decode cX9_shift 55 = .ok (.aload 6, 2) := by decide +kernel
theorem dX9_shift_57 : decode cX9_shift 57 = .ok (.getfield 98, 3) := by decide +kernel
theorem dX9_shift_60 : decode cX9_shift 60 = .ok (.iconst (-1), 1) := by decide +kernel
theorem dX9_shift_61 : decode cX9_shift 61 = .ok (.if_icmp .eq 16, 3) := by decide +kernel
theorem dX9_shift_64 : decode cX9_shift 64 = .ok (.aload 6, 2) := by decide +kernel
theorem dX9_shift_66 : decode cX9_shift 66 = .ok (.getfield 98, 3) := by decide +kernel
theorem dX9_shift_69 : decode cX9_shift 69 = .ok (.aload 7, 2) := by decide +kernel
theorem dX9_shift_71 : decode cX9_shift 71 = .ok (.getfield 98, 3) := by decide +kernel
theorem dX9_shift_74 : decode cX9_shift 74 = .ok (.if_icmp .eq 6, 3) := by decide +kernel
theorem dX9_shift_77 : decode cX9_shift 77 = .ok (.bipush (-12), 2) := by decide +kernel
theorem dX9_shift_79 : decode cX9_shift 79 = .ok (.ireturn, 1) := by decide +kernel
theorem dX9_shift_80 : decode cX9_shift 80 = .ok (.aload 6, 2) := by decide +kernel
theorem dX9_shift_82 : decode cX9_shift 82 = .ok (.iload_n 2, 1) := by decide +kernel
theorem dX9_shift_83 : decode cX9_shift 83 = .ok (.iload 5, 2) := by decide +kernel
theorem dX9_shift_85 : decode cX9_shift 85 = .ok (.invokevirtual 101, 3) := by decide +kernel
theorem dX9_shift_88 : decode cX9_shift 88 = .ok (.ifCond .eq 15, 3) := by decide +kernel
theorem dX9_shift_91 : decode cX9_shift 91 = .ok (.aload 7, 2) := by decide +kernel
theorem dX9_shift_93 : decode cX9_shift 93 = .ok (.iload 4, 2) := by decide +kernel
theorem dX9_shift_95 : decode cX9_shift 95 = .ok (.iload 5, 2) := by decide +kernel
theorem dX9_shift_97 : decode cX9_shift 97 = .ok (.invokevirtual 101, 3) := by decide +kernel
theorem dX9_shift_100 : decode cX9_shift 100 = .ok (.ifCond .ne 6, 3) := by decide +kernel
theorem dX9_shift_103 : decode cX9_shift 103 = .ok (.bipush (-13), 2) := by decide +kernel
theorem dX9_shift_105 : decode cX9_shift 105 = .ok (.ireturn, 1) := by decide +kernel
theorem dX9_shift_106 : decode cX9_shift 106 = .ok (.aload 6, 2) := by decide +kernel
theorem dX9_shift_108 : decode cX9_shift 108 = .ok (.getfield 286, 3) := by decide +kernel
theorem dX9_shift_111 : decode cX9_shift 111 = .ok (.iload_n 2, 1) := by decide +kernel
theorem dX9_shift_112 : decode cX9_shift 112 = .ok (.aload 7, 2) := by decide +kernel
theorem dX9_shift_114 : decode cX9_shift 114 = .ok (.getfield 286, 3) := by decide +kernel
theorem dX9_shift_117 : decode cX9_shift 117 = .ok (.iload 4, 2) := by decide +kernel
theorem dX9_shift_119 : decode cX9_shift 119 = .ok (.iload 5, 2) := by decide +kernel
theorem dX9_shift_121 : decode cX9_shift 121 = .ok (.invokestatic 298, 3) := by decide +kernel
theorem dX9_shift_124 : decode cX9_shift 124 = .ok (.iload 5, 2) := by decide +kernel
theorem dX9_shift_126 : decode cX9_shift 126 = .ok (.ireturn, 1) := by decide +kernel
theorem dX9_taken_0 : decode cX9_taken 0 = .ok (.iload_n 1, 1) := by decide +kernel
theorem dX9_taken_1 : decode cX9_taken 1 = .ok (.invokestatic 94, 3) := by decide +kernel
theorem dX9_taken_4 : decode cX9_taken 4 = .ok (.ifCond .eq 12, 3) := by decide +kernel
theorem dX9_taken_7 : decode cX9_taken 7 = .ok (.iload_n 2, 1) := by decide +kernel
theorem dX9_taken_8 : decode cX9_taken 8 = .ok (.bipush 7, 2) := by decide +kernel
theorem dX9_taken_10 : decode cX9_taken 10 = .ok (.invokestatic 146, 3) := by decide +kernel
theorem dX9_taken_13 : decode cX9_taken 13 = .ok (.ifCond .ne 5, 3) := by decide +kernel
theorem dX9_taken_16 : decode cX9_taken 16 = .ok (.iconst (-1), 1) := by decide +kernel
theorem dX9_taken_17 : decode cX9_taken 17 = .ok (.ireturn, 1) := by decide +kernel
theorem dX9_taken_18 : decode cX9_taken 18 = .ok (.aload_n 0, 1) := by decide +kernel
theorem dX9_taken_19 : decode cX9_taken 19 = .ok (.getfield 69, 3) := by decide +kernel
theorem dX9_taken_22 : decode cX9_taken 22 = .ok (.iload_n 1, 1) := by decide +kernel
theorem dX9_taken_23 : decode cX9_taken 23 = .ok (.aaload, 1) := by decide +kernel
theorem dX9_taken_24 : decode cX9_taken 24 = .ok (.astore_n 3, 1) := by decide +kernel
theorem dX9_taken_25 : decode cX9_taken 25 = .ok (.aload_n 3, 1) := by decide +kernel
theorem dX9_taken_26 : decode cX9_taken 26 = .ok (.getfield 98, 3) := by decide +kernel
theorem dX9_taken_29 : decode cX9_taken 29 = .ok (.bipush (-2), 2) := by decide +kernel
theorem dX9_taken_31 : decode cX9_taken 31 = .ok (.if_icmp .ne 6, 3) := by decide +kernel
theorem dX9_taken_34 : decode cX9_taken 34 = .ok (.bipush (-11), 2) := by decide +kernel
theorem dX9_taken_36 : decode cX9_taken 36 = .ok (.ireturn, 1) := by decide +kernel
theorem dX9_taken_37 : decode cX9_taken 37 = .ok (.aload_n 3, 1) := by decide +kernel
theorem dX9_taken_38 : decode cX9_taken 38 = .ok (.getfield 98, 3) := by decide +kernel
theorem dX9_taken_41 : decode cX9_taken 41 = .ok (.iconst (-1), 1) := by decide +kernel
theorem dX9_taken_42 : decode cX9_taken 42 = .ok (.if_icmp .eq 6, 3) := by decide +kernel
theorem dX9_taken_45 : decode cX9_taken 45 = .ok (.bipush (-12), 2) := by decide +kernel
theorem dX9_taken_47 : decode cX9_taken 47 = .ok (.ireturn, 1) := by decide +kernel
theorem dX9_taken_48 : decode cX9_taken 48 = .ok (.aload_n 0, 1) := by decide +kernel
theorem dX9_taken_49 : decode cX9_taken 49 = .ok (.getfield 63, 3) := by decide +kernel
theorem dX9_taken_52 : decode cX9_taken 52 = .ok (.aload_n 3, 1) := by decide +kernel
theorem dX9_taken_53 : decode cX9_taken 53 = .ok (.getfield 304, 3) := by decide +kernel
theorem dX9_taken_56 : decode cX9_taken 56 = .ok (.invokevirtual 307, 3) := by decide +kernel
theorem dX9_taken_59 : decode cX9_taken 59 = .ok (.istore 4, 2) := by decide +kernel
theorem dX9_taken_61 : decode cX9_taken 61 = .ok (.iload 4, 2) := by decide +kernel
theorem dX9_taken_63 : decode cX9_taken 63 = .ok (.iload_n 2, 1) := by decide +kernel
theorem dX9_taken_64 : decode cX9_taken 64 = .ok (.invokestatic 310, 3) := by decide +kernel
theorem dX9_taken_67 : decode cX9_taken 67 = .ok (.ifCond .eq 8, 3) := by decide +kernel
theorem dX9_taken_70 : decode cX9_taken 70 = .ok (.iload 4, 2) := by decide +kernel
theorem dX9_taken_72 : decode cX9_taken 72 = .ok (.goto 5, 3) := by decide +kernel
theorem dX9_taken_75 : decode cX9_taken 75 = .ok (.bipush (-12), 2) := by decide +kernel
theorem dX9_taken_77 : decode cX9_taken 77 = .ok (.ireturn, 1) := by decide +kernel
theorem dX9_count_0 : decode cX9_count 0 = .ok (.iload_n 1, 1) := by decide +kernel
theorem dX9_count_1 : decode cX9_count 1 = .ok (.tableswitch 75 0 4 #[35, 43, 51, 59, 67], 35) := by decide +kernel
theorem dX9_count_36 : decode cX9_count 36 = .ok (.aload_n 0, 1) := by decide +kernel
theorem dX9_count_37 : decode cX9_count 37 = .ok (.getfield 10, 3) := by decide +kernel
theorem dX9_count_40 : decode cX9_count 40 = .ok (.getfield 82, 3) := by decide +kernel
theorem dX9_count_43 : decode cX9_count 43 = .ok (.ireturn, 1) := by decide +kernel
theorem dX9_count_44 : decode cX9_count 44 = .ok (.aload_n 0, 1) := by decide +kernel
theorem dX9_count_45 : decode cX9_count 45 = .ok (.getfield 19, 3) := by decide +kernel
theorem dX9_count_48 : decode cX9_count 48 = .ok (.getfield 131, 3) := by decide +kernel
theorem dX9_count_51 : decode cX9_count 51 = .ok (.ireturn, 1) := by decide +kernel
theorem dX9_count_52 : decode cX9_count 52 = .ok (.aload_n 0, 1) := by decide +kernel
theorem dX9_count_53 : decode cX9_count 53 = .ok (.getfield 56, 3) := by decide +kernel
theorem dX9_count_56 : decode cX9_count 56 = .ok (.getfield 253, 3) := by decide +kernel
theorem dX9_count_59 : decode cX9_count 59 = .ok (.ireturn, 1) := by decide +kernel
theorem dX9_count_60 : decode cX9_count 60 = .ok (.aload_n 0, 1) := by decide +kernel
theorem dX9_count_61 : decode cX9_count 61 = .ok (.getfield 63, 3) := by decide +kernel
theorem dX9_count_64 : decode cX9_count 64 = .ok (.getfield 313, 3) := by decide +kernel
theorem dX9_count_67 : decode cX9_count 67 = .ok (.ireturn, 1) := by decide +kernel
theorem dX9_count_68 : decode cX9_count 68 = .ok (.aload_n 0, 1) := by decide +kernel
theorem dX9_count_69 : decode cX9_count 69 = .ok (.getfield 63, 3) := by decide +kernel
theorem dX9_count_72 : decode cX9_count 72 = .ok (.getfield 316, 3) := by decide +kernel
theorem dX9_count_75 : decode cX9_count 75 = .ok (.ireturn, 1) := by decide +kernel
theorem dX9_count_76 : decode cX9_count 76 = .ok (.iconst (-1), 1) := by decide +kernel
theorem dX9_count_77 : decode cX9_count 77 = .ok (.ireturn, 1) := by decide +kernel
theorem dX9_isWithin_0 : decode cX9_isWithin 0 = .ok (.iload_n 0, 1) := by decide +kernel
theorem dX9_isWithin_1 : decode cX9_isWithin 1 = .ok (.ifCond .lt 12, 3) := by decide +kernel
theorem dX9_isWithin_4 : decode cX9_isWithin 4 = .ok (.iload_n 0, 1) := by decide +kernel
theorem dX9_isWithin_5 : decode cX9_isWithin 5 = .ok (.iload_n 1, 1) := by decide +kernel
theorem dX9_isWithin_6 : decode cX9_isWithin 6 = .ok (.if_icmp .gt 7, 3) := by decide +kernel
theorem dX9_isWithin_9 : decode cX9_isWithin 9 = .ok (.iconst 1, 1) := by decide +kernel
theorem dX9_isWithin_10 : decode cX9_isWithin 10 = .ok (.goto 4, 3) := by decide +kernel
theorem dX9_isWithin_13 : decode cX9_isWithin 13 = .ok (.iconst 0, 1) := by decide +kernel
theorem dX9_isWithin_14 : decode cX9_isWithin 14 = .ok (.ireturn, 1) := by decide +kernel
theorem dX9_isShelf_0 : decode cX9_isShelf 0 = .ok (.iload_n 0, 1) := by decide +kernel
theorem dX9_isShelf_1 : decode cX9_isShelf 1 = .ok (.iconst 5, 1) := by decide +kernel
theorem dX9_isShelf_2 : decode cX9_isShelf 2 = .ok (.invokestatic 146, 3) := by decide +kernel
theorem dX9_isShelf_5 : decode cX9_isShelf 5 = .ok (.ireturn, 1) := by decide +kernel
theorem dX9_isStraw_0 : decode cX9_isStraw 0 = .ok (.iload_n 1, 1) := by decide +kernel
theorem dX9_isStraw_1 : decode cX9_isStraw 1 = .ok (.aload_n 0, 1) := by decide +kernel
theorem dX9_isStraw_2 : decode cX9_isStraw 2 = .ok (.getfield 10, 3) := by decide +kernel
theorem dX9_isStraw_5 : decode cX9_isStraw 5 = .ok (.getfield 82, 3) := by decide +kernel
theorem dX9_isStraw_8 : decode cX9_isStraw 8 = .ok (.iconst 1, 1) := by decide +kernel
theorem dX9_isStraw_9 : decode cX9_isStraw 9 = .ok (.isub, 1) := by decide +kernel
theorem dX9_isStraw_10 : decode cX9_isStraw 10 = .ok (.invokestatic 146, 3) := by decide +kernel
theorem dX9_isStraw_13 : decode cX9_isStraw 13 = .ok (.ireturn, 1) := by decide +kernel
theorem dX9_isPair_0 : decode cX9_isPair 0 = .ok (.iload_n 1, 1) := by decide +kernel
theorem dX9_isPair_1 : decode cX9_isPair 1 = .ok (.ifCond .lt 40, 3) := by decide +kernel
theorem dX9_isPair_4 : decode cX9_isPair 4 = .ok (.aload_n 0, 1) := by decide +kernel
theorem dX9_isPair_5 : decode cX9_isPair 5 = .ok (.iload_n 1, 1) := by decide +kernel
theorem dX9_isPair_6 : decode cX9_isPair 6 = .ok (.bipush 10, 2) := by decide +kernel
theorem dX9_isPair_8 : decode cX9_isPair 8 = .ok (.idiv, 1) := by decide +kernel
theorem dX9_isPair_9 : decode cX9_isPair 9 = .ok (.invokevirtual 143, 3) := by decide +kernel
theorem dX9_isPair_12 : decode cX9_isPair 12 = .ok (.ifCond .eq 29, 3) := by decide +kernel
theorem dX9_isPair_15 : decode cX9_isPair 15 = .ok (.aload_n 0, 1) := by decide +kernel
theorem dX9_isPair_16 : decode cX9_isPair 16 = .ok (.iload_n 1, 1) := by decide +kernel
theorem dX9_isPair_17 : decode cX9_isPair 17 = .ok (.bipush 10, 2) := by decide +kernel
theorem dX9_isPair_19 : decode cX9_isPair 19 = .ok (.irem, 1) := by decide +kernel
theorem dX9_isPair_20 : decode cX9_isPair 20 = .ok (.invokevirtual 143, 3) := by decide +kernel
theorem dX9_isPair_23 : decode cX9_isPair 23 = .ok (.ifCond .eq 18, 3) := by decide +kernel
theorem dX9_isPair_26 : decode cX9_isPair 26 = .ok (.iload_n 1, 1) := by decide +kernel
theorem dX9_isPair_27 : decode cX9_isPair 27 = .ok (.bipush 10, 2) := by decide +kernel
theorem dX9_isPair_29 : decode cX9_isPair 29 = .ok (.idiv, 1) := by decide +kernel
theorem dX9_isPair_30 : decode cX9_isPair 30 = .ok (.iload_n 1, 1) := by decide +kernel
theorem dX9_isPair_31 : decode cX9_isPair 31 = .ok (.bipush 10, 2) := by decide +kernel
theorem dX9_isPair_33 : decode cX9_isPair 33 = .ok (.irem, 1) := by decide +kernel
theorem dX9_isPair_34 : decode cX9_isPair 34 = .ok (.if_icmp .eq 7, 3) := by decide +kernel
theorem dX9_isPair_37 : decode cX9_isPair 37 = .ok (.iconst 1, 1) := by decide +kernel
theorem dX9_isPair_38 : decode cX9_isPair 38 = .ok (.goto 4, 3) := by decide +kernel
theorem dX9_isPair_41 : decode cX9_isPair 41 = .ok (.iconst 0, 1) := by decide +kernel
theorem dX9_isPair_42 : decode cX9_isPair 42 = .ok (.ireturn, 1) := by decide +kernel
theorem dX9_refusedRings_0 : decode cX9_refusedRings 0 = .ok (.iload_n 1, 1) := by decide +kernel
theorem dX9_refusedRings_1 : decode cX9_refusedRings 1 = .ok (.invokestatic 94, 3) := by decide +kernel
theorem dX9_refusedRings_4 : decode cX9_refusedRings 4 = .ok (.ifCond .ne 5, 3) := by decide +kernel
theorem dX9_refusedRings_7 : decode cX9_refusedRings 7 = .ok (.iconst (-1), 1) := by decide +kernel
theorem dX9_refusedRings_8 : decode cX9_refusedRings 8 = .ok (.ireturn, 1) := by decide +kernel
theorem dX9_refusedRings_9 : decode cX9_refusedRings 9 = .ok (.aload_n 0, 1) := by decide +kernel
theorem dX9_refusedRings_10 : decode cX9_refusedRings 10 = .ok (.getfield 69, 3) := by decide +kernel
theorem dX9_refusedRings_13 : decode cX9_refusedRings 13 = .ok (.iload_n 1, 1) := by decide +kernel
theorem dX9_refusedRings_14 : decode cX9_refusedRings 14 = .ok (.aaload, 1) := by decide +kernel
theorem dX9_refusedRings_15 : decode cX9_refusedRings 15 = .ok (.getfield 98, 3) := by decide +kernel
theorem dX9_refusedRings_18 : decode cX9_refusedRings 18 = .ok (.istore_n 2, 1) := by decide +kernel
theorem dX9_refusedRings_19 : decode cX9_refusedRings 19 = .ok (.iload_n 2, 1) := by decide +kernel
theorem dX9_refusedRings_20 : decode cX9_refusedRings 20 = .ok (.bipush (-2), 2) := by decide +kernel
theorem dX9_refusedRings_22 : decode cX9_refusedRings 22 = .ok (.if_icmp .ne 6, 3) := by decide +kernel
theorem dX9_refusedRings_25 : decode cX9_refusedRings 25 = .ok (.bipush (-11), 2) := by decide +kernel
theorem dX9_refusedRings_27 : decode cX9_refusedRings 27 = .ok (.ireturn, 1) := by decide +kernel
theorem dX9_refusedRings_28 : decode cX9_refusedRings 28 = .ok (.iload_n 2, 1) := by decide +kernel
theorem dX9_refusedRings_29 : decode cX9_refusedRings 29 = .ok (.iconst 1, 1) := by decide +kernel
theorem dX9_refusedRings_30 : decode cX9_refusedRings 30 = .ok (.if_icmp .ne 7, 3) := by decide +kernel
theorem dX9_refusedRings_33 : decode cX9_refusedRings 33 = .ok (.iconst 0, 1) := by decide +kernel
theorem dX9_refusedRings_34 : decode cX9_refusedRings 34 = .ok (.goto 5, 3) := by decide +kernel
theorem dX9_refusedRings_37 : decode cX9_refusedRings 37 = .ok (.bipush (-12), 2) := by decide +kernel
theorem dX9_refusedRings_39 : decode cX9_refusedRings 39 = .ok (.ireturn, 1) := by decide +kernel
theorem dX9_refusedElement_0 : decode cX9_refusedElement 0 = .ok (.iload_n 1, 1) := by decide +kernel
theorem dX9_refusedElement_1 : decode cX9_refusedElement 1 = .ok (.invokestatic 94, 3) := by decide +kernel
theorem dX9_refusedElement_4 : decode cX9_refusedElement 4 = .ok (.ifCond .ne 5, 3) := by decide +kernel
theorem dX9_refusedElement_7 : decode cX9_refusedElement 7 = .ok (.iconst (-1), 1) := by decide +kernel
theorem dX9_refusedElement_8 : decode cX9_refusedElement 8 = .ok (.ireturn, 1) := by decide +kernel
theorem dX9_refusedElement_9 : decode cX9_refusedElement 9 = .ok (.aload_n 0, 1) := by decide +kernel
theorem dX9_refusedElement_10 : decode cX9_refusedElement 10 = .ok (.getfield 69, 3) := by decide +kernel
theorem dX9_refusedElement_13 : decode cX9_refusedElement 13 = .ok (.iload_n 1, 1) := by decide +kernel
theorem dX9_refusedElement_14 : decode cX9_refusedElement 14 = .ok (.aaload, 1) := by decide +kernel
theorem dX9_refusedElement_15 : decode cX9_refusedElement 15 = .ok (.astore_n 3, 1) := by decide +kernel
theorem dX9_refusedElement_16 : decode cX9_refusedElement 16 = .ok (.aload_n 3, 1) := by decide +kernel
theorem dX9_refusedElement_17 : decode cX9_refusedElement 17 = .ok (.getfield 98, 3) := by decide +kernel
theorem dX9_refusedElement_20 : decode cX9_refusedElement 20 = .ok (.bipush (-2), 2) := by decide +kernel
theorem dX9_refusedElement_22 : decode cX9_refusedElement 22 = .ok (.if_icmp .ne 6, 3) := by decide +kernel
theorem dX9_refusedElement_25 : decode cX9_refusedElement 25 = .ok (.bipush (-11), 2) := by decide +kernel
theorem dX9_refusedElement_27 : decode cX9_refusedElement 27 = .ok (.ireturn, 1) := by decide +kernel
theorem dX9_refusedElement_28 : decode cX9_refusedElement 28 = .ok (.aload_n 3, 1) := by decide +kernel
theorem dX9_refusedElement_29 : decode cX9_refusedElement 29 = .ok (.getfield 98, 3) := by decide +kernel
theorem dX9_refusedElement_32 : decode cX9_refusedElement 32 = .ok (.iconst (-1), 1) := by decide +kernel
theorem dX9_refusedElement_33 : decode cX9_refusedElement 33 = .ok (.if_icmp .ne 6, 3) := by decide +kernel
theorem dX9_refusedElement_36 : decode cX9_refusedElement 36 = .ok (.bipush (-12), 2) := by decide +kernel
theorem dX9_refusedElement_38 : decode cX9_refusedElement 38 = .ok (.ireturn, 1) := by decide +kernel
theorem dX9_refusedElement_39 : decode cX9_refusedElement 39 = .ok (.iload_n 2, 1) := by decide +kernel
theorem dX9_refusedElement_40 : decode cX9_refusedElement 40 = .ok (.ifCond .lt 15, 3) := by decide +kernel
theorem dX9_refusedElement_43 : decode cX9_refusedElement 43 = .ok (.iload_n 2, 1) := by decide +kernel
theorem dX9_refusedElement_44 : decode cX9_refusedElement 44 = .ok (.aload_n 3, 1) := by decide +kernel
theorem dX9_refusedElement_45 : decode cX9_refusedElement 45 = .ok (.getfield 319, 3) := by decide +kernel
theorem dX9_refusedElement_48 : decode cX9_refusedElement 48 = .ok (.if_icmp .ge 7, 3) := by decide +kernel
theorem dX9_refusedElement_51 : decode cX9_refusedElement 51 = .ok (.iconst 0, 1) := by decide +kernel
theorem dX9_refusedElement_52 : decode cX9_refusedElement 52 = .ok (.goto 5, 3) := by decide +kernel
theorem dX9_refusedElement_55 : decode cX9_refusedElement 55 = .ok (.bipush (-13), 2) := by decide +kernel
theorem dX9_refusedElement_57 : decode cX9_refusedElement 57 = .ok (.ireturn, 1) := by decide +kernel
theorem dX9_addStraw_0 : decode cX9_addStraw 0 = .ok (.aload_n 1, 1) := by decide +kernel
theorem dX9_addStraw_1 : decode cX9_addStraw 1 = .ok (.getfield 286, 3) := by decide +kernel
theorem dX9_addStraw_4 : decode cX9_addStraw 4 = .ok (.iload_n 2, 1) := by decide +kernel
theorem dX9_addStraw_5 : decode cX9_addStraw 5 = .ok (.laload, 1) := by decide +kernel
theorem dX9_addStraw_6 : decode cX9_addStraw 6 = .ok (.l2i, 1) := by decide +kernel
theorem dX9_addStraw_7 : decode cX9_addStraw 7 = .ok (.istore_n 3, 1) := by decide +kernel
theorem dX9_addStraw_8 : decode cX9_addStraw 8 = .ok (.aload_n 1, 1) := by decide +kernel
theorem dX9_addStraw_9 : decode cX9_addStraw 9 = .ok (.getfield 286, 3) := by decide +kernel
theorem dX9_addStraw_12 : decode cX9_addStraw 12 = .ok (.iload_n 2, 1) := by decide +kernel
theorem dX9_addStraw_13 : decode cX9_addStraw 13 = .ok (.iconst 1, 1) := by decide +kernel
theorem dX9_addStraw_14 : decode cX9_addStraw 14 = .ok (.iadd, 1) := by decide +kernel
theorem dX9_addStraw_15 : decode cX9_addStraw 15 = .ok (.laload, 1) := by decide +kernel
theorem dX9_addStraw_16 : decode cX9_addStraw 16 = .ok (.l2i, 1) := by decide +kernel
theorem dX9_addStraw_17 : decode cX9_addStraw 17 = .ok (.istore 4, 2) := by decide +kernel
theorem dX9_addStraw_19 : decode cX9_addStraw 19 = .ok (.aload_n 1, 1) := by decide +kernel
theorem dX9_addStraw_20 : decode cX9_addStraw 20 = .ok (.getfield 286, 3) := by decide +kernel
theorem dX9_addStraw_23 : decode cX9_addStraw 23 = .ok (.iload_n 2, 1) := by decide +kernel
theorem dX9_addStraw_24 : decode cX9_addStraw 24 = .ok (.iconst 2, 1) := by decide +kernel
theorem dX9_addStraw_25 : decode cX9_addStraw 25 = .ok (.iadd, 1) := by decide +kernel
theorem dX9_addStraw_26 : decode cX9_addStraw 26 = .ok (.laload, 1) := by decide +kernel
theorem dX9_addStraw_27 : decode cX9_addStraw 27 = .ok (.l2i, 1) := by decide +kernel
theorem dX9_addStraw_28 : decode cX9_addStraw 28 = .ok (.istore 5, 2) := by decide +kernel
theorem dX9_addStraw_30 : decode cX9_addStraw 30 = .ok (.iconst 0, 1) := by decide +kernel
theorem dX9_addStraw_31 : decode cX9_addStraw 31 = .ok (.iload_n 3, 1) := by decide +kernel
theorem dX9_addStraw_32 : decode cX9_addStraw 32 = .ok (.invokestatic 78, 3) := by decide +kernel
theorem dX9_addStraw_35 : decode cX9_addStraw 35 = .ok (.ifCond .eq 21, 3) := by decide +kernel
theorem dX9_addStraw_38 : decode cX9_addStraw 38 = .ok (.iconst 1, 1) := by decide +kernel
theorem dX9_addStraw_39 : decode cX9_addStraw 39 = .ok (.iload 4, 2) := by decide +kernel
theorem dX9_addStraw_41 : decode cX9_addStraw 41 = .ok (.invokestatic 78, 3) := by decide +kernel
theorem dX9_addStraw_44 : decode cX9_addStraw 44 = .ok (.ifCond .eq 12, 3) := by decide +kernel
theorem dX9_addStraw_47 : decode cX9_addStraw 47 = .ok (.iconst 2, 1) := by decide +kernel
theorem dX9_addStraw_48 : decode cX9_addStraw 48 = .ok (.iload 5, 2) := by decide +kernel
theorem dX9_addStraw_50 : decode cX9_addStraw 50 = .ok (.invokestatic 78, 3) := by decide +kernel
theorem dX9_addStraw_53 : decode cX9_addStraw 53 = .ok (.ifCond .ne 5, 3) := by decide +kernel
theorem dX9_addStraw_56 : decode cX9_addStraw 56 = .ok (.iconst 0, 1) := by decide +kernel
theorem dX9_addStraw_57 : decode cX9_addStraw 57 = .ok (.ireturn, 1) := by decide +kernel
theorem dX9_addStraw_58 : decode cX9_addStraw 58 = .ok (.aload_n 0, 1) := by decide +kernel
theorem dX9_addStraw_59 : decode cX9_addStraw 59 = .ok (.getfield 10, 3) := by decide +kernel
theorem dX9_addStraw_62 : decode cX9_addStraw 62 = .ok (.iload_n 3, 1) := by decide +kernel
theorem dX9_addStraw_63 : decode cX9_addStraw 63 = .ok (.iload 4, 2) := by decide +kernel
theorem dX9_addStraw_65 : decode cX9_addStraw 65 = .ok (.iload 5, 2) := by decide +kernel
theorem dX9_addStraw_67 : decode cX9_addStraw 67 = .ok (.invokevirtual 90, 3) := by decide +kernel
theorem dX9_addStraw_70 : decode cX9_addStraw 70 = .ok (.ifCond .lt 7, 3) := by decide +kernel
theorem dX9_addStraw_73 : decode cX9_addStraw 73 = .ok (.iconst 1, 1) := by decide +kernel
theorem dX9_addStraw_74 : decode cX9_addStraw 74 = .ok (.goto 4, 3) := by decide +kernel
theorem dX9_addStraw_77 : decode cX9_addStraw 77 = .ok (.iconst 0, 1) := by decide +kernel
theorem dX9_addStraw_78 : decode cX9_addStraw 78 = .ok (.ireturn, 1) := by decide +kernel
