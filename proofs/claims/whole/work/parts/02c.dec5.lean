theorem dX5_init_0 : decode cX5_init 0 = .ok (.aload_n 0, 1) := by decide +kernel
theorem dX5_init_1 : decode cX5_init 1 = .ok (.invokespecial 1, 3) := by decide +kernel
theorem dX5_init_4 : decode cX5_init 4 = .ok (.aload_n 0, 1) := by decide +kernel
theorem dX5_init_5 : decode cX5_init 5 = .ok (.iconst 4, 1) := by decide +kernel
theorem dX5_init_6 : decode cX5_init 6 = .ok (.newarray .int, 2) := by decide +kernel
theorem dX5_init_8 : decode cX5_init 8 = .ok (.putfield 7, 3) := by decide +kernel
theorem dX5_init_11 : decode cX5_init 11 = .ok (.aload_n 0, 1) := by decide +kernel
theorem dX5_init_12 : decode cX5_init 12 = .ok (.bipush 32, 2) := by decide +kernel
theorem dX5_init_14 : decode cX5_init 14 = .ok (.newarray .int, 2) := by decide +kernel
theorem dX5_init_16 : decode cX5_init 16 = .ok (.putfield 13, 3) := by decide +kernel
theorem dX5_init_19 : decode cX5_init 19 = .ok (.aload_n 0, 1) := by decide +kernel
theorem dX5_init_20 : decode cX5_init 20 = .ok (.bipush 8, 2) := by decide +kernel
theorem dX5_init_22 : decode cX5_init 22 = .ok (.newarray .int, 2) := by decide +kernel
theorem dX5_init_24 : decode cX5_init 24 = .ok (.putfield 16, 3) := by decide +kernel
theorem dX5_init_27 : decode cX5_init 27 = .ok (.aload_n 0, 1) := by decide +kernel
theorem dX5_init_28 : decode cX5_init 28 = .ok (.iconst 4, 1) := by decide +kernel
theorem dX5_init_29 : decode cX5_init 29 = .ok (.newarray .int, 2) := by decide +kernel
theorem dX5_init_31 : decode cX5_init 31 = .ok (.dup, 1) := by decide +kernel
theorem dX5_init_32 : decode cX5_init 32 = .ok (.iconst 0, 1) := by decide +kernel
theorem dX5_init_33 : decode cX5_init 33 = .ok (.iconst 2, 1) := by decide +kernel
theorem dX5_init_34 : decode cX5_init 34 = .ok (.iastore, 1) := by decide +kernel
theorem dX5_init_35 : decode cX5_init 35 = .ok (.dup, 1) := by decide +kernel
theorem dX5_init_36 : decode cX5_init 36 = .ok (.iconst 1, 1) := by decide +kernel
theorem dX5_init_37 : decode cX5_init 37 = .ok (.iconst 2, 1) := by decide +kernel
theorem dX5_init_38 : decode cX5_init 38 = .ok (.iastore, 1) := by decide +kernel
theorem dX5_init_39 : decode cX5_init 39 = .ok (.dup, 1) := by decide +kernel
theorem dX5_init_40 : decode cX5_init 40 = .ok (.iconst 2, 1) := by decide +kernel
theorem dX5_init_41 : decode cX5_init 41 = .ok (.iconst 2, 1) := by decide +kernel
theorem dX5_init_42 : decode cX5_init 42 = .ok (.iastore, 1) := by decide +kernel
theorem dX5_init_43 : decode cX5_init 43 = .ok (.dup, 1) := by decide +kernel
theorem dX5_init_44 : decode cX5_init 44 = .ok (.iconst 3, 1) := by decide +kernel
theorem dX5_init_45 : decode cX5_init 45 = .ok (.iconst 2, 1) := by decide +kernel
theorem dX5_init_46 : decode cX5_init 46 = .ok (.iastore, 1) := by decide +kernel
theorem dX5_init_47 : decode cX5_init 47 = .ok (.putfield 19, 3) := by decide +kernel
theorem dX5_init_50 : decode cX5_init 50 = .ok (.aload_n 0, 1) := by decide +kernel
theorem dX5_init_51 : decode cX5_init 51 = .ok (.bipush 40, 2) := by decide +kernel
theorem dX5_init_53 : decode cX5_init 53 = .ok (.newarray .int, 2) := by decide +kernel
theorem dX5_init_55 : decode cX5_init 55 = .ok (.putfield 22, 3) := by decide +kernel
theorem dX5_init_58 : decode cX5_init 58 = .ok (.aload_n 0, 1) := by decide +kernel
theorem dX5_init_59 : decode cX5_init 59 = .ok (.bipush 40, 2) := by decide +kernel
theorem dX5_init_61 : decode cX5_init 61 = .ok (.newarray .int, 2) := by decide +kernel
theorem dX5_init_63 : decode cX5_init 63 = .ok (.putfield 25, 3) := by decide +kernel
theorem dX5_init_66 : decode cX5_init 66 = .ok (.aload_n 0, 1) := by decide +kernel
theorem dX5_init_67 : decode cX5_init 67 = .ok (.sipush 320, 3) := by decide +kernel
theorem dX5_init_70 : decode cX5_init 70 = .ok (.newarray .int, 2) := by decide +kernel
theorem dX5_init_72 : decode cX5_init 72 = .ok (.putfield 28, 3) := by decide +kernel
theorem dX5_init_75 : decode cX5_init 75 = .ok (.aload_n 0, 1) := by decide +kernel
theorem dX5_init_76 : decode cX5_init 76 = .ok (.bipush 40, 2) := by decide +kernel
theorem dX5_init_78 : decode cX5_init 78 = .ok (.newarray .int, 2) := by decide +kernel
theorem dX5_init_80 : decode cX5_init 80 = .ok (.putfield 31, 3) := by decide +kernel
theorem dX5_init_83 : decode cX5_init 83 = .ok (.aload_n 0, 1) := by decide +kernel
theorem dX5_init_84 : decode cX5_init 84 = .ok (.bipush 40, 2) := by decide +kernel
theorem dX5_init_86 : decode cX5_init 86 = .ok (.newarray .int, 2) := by decide +kernel
theorem dX5_init_88 : decode cX5_init 88 = .ok (.putfield 34, 3) := by decide +kernel
theorem dX5_init_91 : decode cX5_init 91 = .ok (.aload_n 0, 1) := by decide +kernel
theorem dX5_init_92 : decode cX5_init 92 = .ok (.bipush 40, 2) := by decide +kernel
theorem dX5_init_94 : decode cX5_init 94 = .ok (.newarray .int, 2) := by decide +kernel
theorem dX5_init_96 : decode cX5_init 96 = .ok (.putfield 37, 3) := by decide +kernel
theorem dX5_init_99 : decode cX5_init 99 = .ok (.aload_n 0, 1) := by decide +kernel
theorem dX5_init_100 : decode cX5_init 100 = .ok (.bipush 40, 2) := by decide +kernel
theorem dX5_init_102 : decode cX5_init 102 = .ok (.newarray .int, 2) := by decide +kernel
theorem dX5_init_104 : decode cX5_init 104 = .ok (.putfield 40, 3) := by decide +kernel
theorem dX5_init_107 : decode cX5_init 107 = .ok (.aload_n 0, 1) := by decide +kernel
theorem dX5_init_108 : decode cX5_init 108 = .ok (.sipush 640, 3) := by decide +kernel
theorem dX5_init_111 : decode cX5_init 111 = .ok (.newarray .int, 2) := by decide +kernel
theorem dX5_init_113 : decode cX5_init 113 = .ok (.putfield 43, 3) := by decide +kernel
theorem dX5_init_116 : decode cX5_init 116 = .ok (.aload_n 0, 1) := by decide +kernel
theorem dX5_init_117 : decode cX5_init 117 = .ok (.bipush 40, 2) := by decide +kernel
theorem dX5_init_119 : decode cX5_init 119 = .ok (.newarray .boolean, 2) := by decide +kernel
theorem dX5_init_121 : decode cX5_init 121 = .ok (.putfield 46, 3) := by decide +kernel
theorem dX5_init_124 : decode cX5_init 124 = .ok (.aload_n 0, 1) := by decide +kernel
theorem dX5_init_125 : decode cX5_init 125 = .ok (.bipush 40, 2) := by decide +kernel
theorem dX5_init_127 : decode cX5_init 127 = .ok (.newarray .int, 2) := by decide +kernel
theorem dX5_init_129 : decode cX5_init 129 = .ok (.putfield 50, 3) := by decide +kernel
theorem dX5_init_132 : decode cX5_init 132 = .ok (.aload_n 0, 1) := by decide +kernel
theorem dX5_init_133 : decode cX5_init 133 = .ok (.bipush 40, 2) := by decide +kernel
theorem dX5_init_135 : decode cX5_init 135 = .ok (.newarray .int, 2) := by decide +kernel
theorem dX5_init_137 : decode cX5_init 137 = .ok (.putfield 53, 3) := by decide +kernel
theorem dX5_init_140 : decode cX5_init 140 = .ok (.aload_n 0, 1) := by decide +kernel
theorem dX5_init_141 : decode cX5_init 141 = .ok (.bipush 40, 2) := by decide +kernel
theorem dX5_init_143 : decode cX5_init 143 = .ok (.newarray .int, 2) := by decide +kernel
theorem dX5_init_145 : decode cX5_init 145 = .ok (.putfield 56, 3) := by decide +kernel
theorem dX5_init_148 : decode cX5_init 148 = .ok (.aload_n 0, 1) := by decide +kernel
theorem dX5_init_149 : decode cX5_init 149 = .ok (.bipush 40, 2) := by decide +kernel
theorem dX5_init_151 : decode cX5_init 151 = .ok (.newarray .int, 2) := by decide +kernel
theorem dX5_init_153 : decode cX5_init 153 = .ok (.putfield 59, 3) := by decide +kernel
theorem dX5_init_156 : decode cX5_init 156 = .ok (.aload_n 0, 1) := by decide +kernel
theorem dX5_init_157 : decode cX5_init 157 = .ok (.sipush 320, 3) := by decide +kernel
theorem dX5_init_160 : decode cX5_init 160 = .ok (.newarray .int, 2) := by decide +kernel
theorem dX5_init_162 : decode cX5_init 162 = .ok (.putfield 62, 3) := by decide +kernel
theorem dX5_init_165 : decode cX5_init 165 = .ok (.aload_n 0, 1) := by decide +kernel
theorem dX5_init_166 : decode cX5_init 166 = .ok (.bipush 40, 2) := by decide +kernel
theorem dX5_init_168 : decode cX5_init 168 = .ok (.newarray .boolean, 2) := by decide +kernel
theorem dX5_init_170 : decode cX5_init 170 = .ok (.putfield 65, 3) := by decide +kernel
theorem dX5_init_173 : decode cX5_init 173 = .ok (.aload_n 0, 1) := by decide +kernel
theorem dX5_init_174 : decode cX5_init 174 = .ok (.bipush 40, 2) := by decide +kernel
theorem dX5_init_176 : decode cX5_init 176 = .ok (.newarray .boolean, 2) := by decide +kernel
theorem dX5_init_178 : decode cX5_init 178 = .ok (.putfield 68, 3) := by decide +kernel
theorem dX5_init_181 : decode cX5_init 181 = .ok (.aload_n 0, 1) := by decide +kernel
theorem dX5_init_182 : decode cX5_init 182 = .ok (.bipush 16, 2) := by decide +kernel
theorem dX5_init_184 : decode cX5_init 184 = .ok (.newarray .int, 2) := by decide +kernel
theorem dX5_init_186 : decode cX5_init 186 = .ok (.putfield 71, 3) := by decide +kernel
theorem dX5_init_189 : decode cX5_init 189 = .ok (.aload_n 0, 1) := by decide +kernel
theorem dX5_init_190 : decode cX5_init 190 = .ok (.bipush 20, 2) := by decide +kernel
theorem dX5_init_192 : decode cX5_init 192 = .ok (.newarray .int, 2) := by decide +kernel
theorem dX5_init_194 : decode cX5_init 194 = .ok (.putfield 74, 3) := by decide +kernel
theorem dX5_init_197 : decode cX5_init 197 = .ok (.return_, 1) := by decide +kernel
theorem dX5_isCode_0 : decode cX5_isCode 0 = .ok (.iload_n 1, 1) := by decide +kernel
theorem dX5_isCode_1 : decode cX5_isCode 1 = .ok (.ifCond .lt 12, 3) := by decide +kernel
theorem dX5_isCode_4 : decode cX5_isCode 4 = .ok (.iload_n 1, 1) := by decide +kernel
theorem dX5_isCode_5 : decode cX5_isCode 5 = .ok (.iconst 4, 1) := by decide +kernel
theorem dX5_isCode_6 : decode cX5_isCode 6 = .ok (.if_icmp .ge 7, 3) := by decide +kernel
theorem dX5_isCode_9 : decode cX5_isCode 9 = .ok (.iconst 1, 1) := by decide +kernel
theorem dX5_isCode_10 : decode cX5_isCode 10 = .ok (.goto 4, 3) := by decide +kernel
theorem dX5_isCode_13 : decode cX5_isCode 13 = .ok (.iconst 0, 1) := by decide +kernel
theorem dX5_isCode_14 : decode cX5_isCode 14 = .ok (.ireturn, 1) := by decide +kernel
theorem dX5_code_0 : decode cX5_code 0 = .ok (.aload_n 0, 1) := by decide +kernel
theorem dX5_code_1 : decode cX5_code 1 = .ok (.iconst 0, 1) := by decide +kernel
theorem dX5_code_2 : decode cX5_code 2 = .ok (.putfield 77, 3) := by decide +kernel
theorem dX5_code_5 : decode cX5_code 5 = .ok (.aload_n 0, 1) := by decide +kernel
theorem dX5_code_6 : decode cX5_code 6 = .ok (.iload_n 1, 1) := by decide +kernel
theorem dX5_code_7 : decode cX5_code 7 = .ok (.invokevirtual 81, 3) := by decide +kernel
theorem dX5_code_10 : decode cX5_code 10 = .ok (.ifCond .eq 13, 3) := by decide +kernel
theorem dX5_code_13 : decode cX5_code 13 = .ok (.iload_n 2, 1) := by decide +kernel
theorem dX5_code_14 : decode cX5_code 14 = .ok (.ifCond .lt 9, 3) := by decide +kernel
theorem dX5_code_17 : decode cX5_code 17 = .ok (.iload_n 2, 1) := by decide +kernel
theorem dX5_code_18 : decode cX5_code 18 = .ok (.bipush 8, 2) := by decide +kernel
theorem dX5_code_20 : decode cX5_code 20 = .ok (.if_icmp .le 5, 3) := by decide +kernel
theorem dX5_code_23 : decode cX5_code 23 = .ok (.iconst 0, 1) := by decide +kernel
theorem dX5_code_24 : decode cX5_code 24 = .ok (.ireturn, 1) := by decide +kernel
theorem dX5_code_25 : decode cX5_code 25 = .ok (.aload_n 0, 1) := by decide +kernel
theorem dX5_code_26 : decode cX5_code 26 = .ok (.getfield 7, 3) := by decide +kernel
theorem dX5_code_29 : decode cX5_code 29 = .ok (.iload_n 1, 1) := by decide +kernel
theorem dX5_code_30 : decode cX5_code 30 = .ok (.iload_n 2, 1) := by decide +kernel
theorem dX5_code_31 : decode cX5_code 31 = .ok (.iastore, 1) := by decide +kernel
theorem dX5_code_32 : decode cX5_code 32 = .ok (.iconst 0, 1) := by decide +kernel
theorem dX5_code_33 : decode cX5_code 33 = .ok (.istore 5, 2) := by decide +kernel
theorem dX5_code_35 : decode cX5_code 35 = .ok (.iload 5, 2) := by decide +kernel
theorem dX5_code_37 : decode cX5_code 37 = .ok (.bipush 8, 2) := by decide +kernel
theorem dX5_code_39 : decode cX5_code 39 = .ok (.if_icmp .ge 65, 3) := by decide +kernel
theorem dX5_code_42 : decode cX5_code 42 = .ok (.aload_n 0, 1) := by decide +kernel
theorem dX5_code_43 : decode cX5_code 43 = .ok (.getfield 13, 3) := by decide +kernel
theorem dX5_code_46 : decode cX5_code 46 = .ok (.bipush 8, 2) := by decide +kernel
theorem dX5_code_48 : decode cX5_code 48 = .ok (.iload_n 1, 1) := by decide +kernel
theorem dX5_code_49 : decode cX5_code 49 = .ok (.imul, 1) := by decide +kernel
theorem dX5_code_50 : decode cX5_code 50 = .ok (.iload 5, 2) := by decide +kernel
theorem dX5_code_52 : decode cX5_code 52 = .ok (.iadd, 1) := by decide +kernel
theorem dX5_code_53 : decode cX5_code 53 = .ok (.iload 5, 2) := by decide +kernel
theorem dX5_code_55 : decode cX5_code 55 = .ok (.iload_n 2, 1) := by decide +kernel
theorem dX5_code_56 : decode cX5_code 56 = .ok (.if_icmp .ge 40, 3) := by decide +kernel
theorem dX5_code_59 : decode cX5_code 59 = .ok (.iload 5, 2) := by decide +kernel
theorem dX5_code_61 : decode cX5_code 61 = .ok (.iconst 4, 1) := by decide +kernel
theorem dX5_code_62 : decode cX5_code 62 = .ok (.if_icmp .ge 16, 3) := by decide +kernel
theorem dX5_code_65 : decode cX5_code 65 = .ok (.iload_n 3, 1) := by decide +kernel
theorem dX5_code_66 : decode cX5_code 66 = .ok (.bipush 24, 2) := by decide +kernel
theorem dX5_code_68 : decode cX5_code 68 = .ok (.bipush 8, 2) := by decide +kernel
theorem dX5_code_70 : decode cX5_code 70 = .ok (.iload 5, 2) := by decide +kernel
theorem dX5_code_72 : decode cX5_code 72 = .ok (.imul, 1) := by decide +kernel
theorem dX5_code_73 : decode cX5_code 73 = .ok (.isub, 1) := by decide +kernel
theorem dX5_code_74 : decode cX5_code 74 = .ok (.ishr, 1) := by decide +kernel
theorem dX5_code_75 : decode cX5_code 75 = .ok (.goto 14, 3) := by decide +kernel
theorem dX5_code_78 : decode cX5_code 78 = .ok (.iload 4, 2) := by decide +kernel
theorem dX5_code_80 : decode cX5_code 80 = .ok (.bipush 56, 2) := by decide +kernel
theorem dX5_code_82 : decode cX5_code 82 = .ok (.bipush 8, 2) := by decide +kernel
theorem dX5_code_84 : decode cX5_code 84 = .ok (.iload 5, 2) := by decide +kernel
theorem dX5_code_86 : decode cX5_code 86 = .ok (.imul, 1) := by decide +kernel
theorem dX5_code_87 : decode cX5_code 87 = .ok (.isub, 1) := by decide +kernel
theorem dX5_code_88 : decode cX5_code 88 = .ok (.ishr, 1) := by decide +kernel
theorem dX5_code_89 : decode cX5_code 89 = .ok (.sipush 255, 3) := by decide +kernel
theorem dX5_code_92 : decode cX5_code 92 = .ok (.iand, 1) := by decide +kernel
theorem dX5_code_93 : decode cX5_code 93 = .ok (.goto 4, 3) := by decide +kernel
theorem dX5_code_96 : decode cX5_code 96 = .ok (.iconst 0, 1) := by decide +kernel
theorem dX5_code_97 : decode cX5_code 97 = .ok (.iastore, 1) := by decide +kernel
theorem dX5_code_98 : decode cX5_code 98 = .ok (.iinc 5 1, 3) := by decide +kernel
theorem dX5_code_101 : decode cX5_code 101 = .ok (.goto (-66), 3) := by decide +kernel
theorem dX5_code_104 : decode cX5_code 104 = .ok (.iconst 1, 1) := by decide +kernel
theorem dX5_code_105 : decode cX5_code 105 = .ok (.ireturn, 1) := by decide +kernel
theorem dX5_data_0 : decode cX5_data 0 = .ok (.aload_n 0, 1) := by decide +kernel
theorem dX5_data_1 : decode cX5_data 1 = .ok (.iconst 0, 1) := by decide +kernel
theorem dX5_data_2 : decode cX5_data 2 = .ok (.putfield 77, 3) := by decide +kernel
theorem dX5_data_5 : decode cX5_data 5 = .ok (.iload_n 1, 1) := by decide +kernel
theorem dX5_data_6 : decode cX5_data 6 = .ok (.ifCond .lt 9, 3) := by decide +kernel
theorem dX5_data_9 : decode cX5_data 9 = .ok (.iload_n 1, 1) := by decide +kernel
theorem dX5_data_10 : decode cX5_data 10 = .ok (.bipush 7, 2) := by decide +kernel
theorem dX5_data_12 : decode cX5_data 12 = .ok (.if_icmp .le 5, 3) := by decide +kernel
theorem dX5_data_15 : decode cX5_data 15 = .ok (.iconst 0, 1) := by decide +kernel
theorem dX5_data_16 : decode cX5_data 16 = .ok (.ireturn, 1) := by decide +kernel
theorem dX5_data_17 : decode cX5_data 17 = .ok (.aload_n 0, 1) := by decide +kernel
theorem dX5_data_18 : decode cX5_data 18 = .ok (.getfield 16, 3) := by decide +kernel
theorem dX5_data_21 : decode cX5_data 21 = .ok (.iload_n 1, 1) := by decide +kernel
theorem dX5_data_22 : decode cX5_data 22 = .ok (.iload_n 2, 1) := by decide +kernel
theorem dX5_data_23 : decode cX5_data 23 = .ok (.iastore, 1) := by decide +kernel
theorem dX5_data_24 : decode cX5_data 24 = .ok (.iconst 1, 1) := by decide +kernel
theorem dX5_data_25 : decode cX5_data 25 = .ok (.ireturn, 1) := by decide +kernel
theorem dX5_bound_0 : decode cX5_bound 0 = .ok (.aload_n 0, 1) := by decide +kernel
theorem dX5_bound_1 : decode cX5_bound 1 = .ok (.iconst 0, 1) := by decide +kernel
theorem dX5_bound_2 : decode cX5_bound 2 = .ok (.putfield 77, 3) := by decide +kernel
theorem dX5_bound_5 : decode cX5_bound 5 = .ok (.iload_n 1, 1) := by decide +kernel
theorem dX5_bound_6 : decode cX5_bound 6 = .ok (.ifCond .lt 19, 3) := by decide +kernel
theorem dX5_bound_9 : decode cX5_bound 9 = .ok (.iload_n 1, 1) := by decide +kernel
theorem dX5_bound_10 : decode cX5_bound 10 = .ok (.iconst 3, 1) := by decide +kernel
theorem dX5_bound_11 : decode cX5_bound 11 = .ok (.if_icmp .gt 14, 3) := by decide +kernel
theorem dX5_bound_14 : decode cX5_bound 14 = .ok (.iload_n 2, 1) := by decide +kernel
theorem dX5_bound_15 : decode cX5_bound 15 = .ok (.iconst 1, 1) := by decide +kernel
theorem dX5_bound_16 : decode cX5_bound 16 = .ok (.if_icmp .lt 9, 3) := by decide +kernel
theorem dX5_bound_19 : decode cX5_bound 19 = .ok (.iload_n 2, 1) := by decide +kernel
theorem dX5_bound_20 : decode cX5_bound 20 = .ok (.bipush 6, 2) := by decide +kernel
theorem dX5_bound_22 : decode cX5_bound 22 = .ok (.if_icmp .le 5, 3) := by decide +kernel
theorem dX5_bound_25 : decode cX5_bound 25 = .ok (.iconst 0, 1) := by decide +kernel
theorem dX5_bound_26 : decode cX5_bound 26 = .ok (.ireturn, 1) := by decide +kernel
theorem dX5_bound_27 : decode cX5_bound 27 = .ok (.aload_n 0, 1) := by decide +kernel
theorem dX5_bound_28 : decode cX5_bound 28 = .ok (.getfield 19, 3) := by decide +kernel
theorem dX5_bound_31 : decode cX5_bound 31 = .ok (.iload_n 1, 1) := by decide +kernel
theorem dX5_bound_32 : decode cX5_bound 32 = .ok (.iload_n 2, 1) := by decide +kernel
theorem dX5_bound_33 : decode cX5_bound 33 = .ok (.iastore, 1) := by decide +kernel
theorem dX5_bound_34 : decode cX5_bound 34 = .ok (.iconst 1, 1) := by decide +kernel
theorem dX5_bound_35 : decode cX5_bound 35 = .ok (.ireturn, 1) := by decide +kernel
theorem dX5_setting_0 : decode cX5_setting 0 = .ok (.iload_n 1, 1) := by decide +kernel
theorem dX5_setting_1 : decode cX5_setting 1 = .ok (.iconst 4, 1) := by decide +kernel
theorem dX5_setting_2 : decode cX5_setting 2 = .ok (.iload_n 2, 1) := by decide +kernel
theorem dX5_setting_3 : decode cX5_setting 3 = .ok (.imul, 1) := by decide +kernel
theorem dX5_setting_4 : decode cX5_setting 4 = .ok (.ishr, 1) := by decide +kernel
theorem dX5_setting_5 : decode cX5_setting 5 = .ok (.bipush 15, 2) := by decide +kernel
theorem dX5_setting_7 : decode cX5_setting 7 = .ok (.iand, 1) := by decide +kernel
theorem dX5_setting_8 : decode cX5_setting 8 = .ok (.ireturn, 1) := by decide +kernel
theorem dX5_areSettings_0 : decode cX5_areSettings 0 = .ok (.iload_n 1, 1) := by decide +kernel
theorem dX5_areSettings_1 : decode cX5_areSettings 1 = .ok (.ifCond .lt 9, 3) := by decide +kernel
theorem dX5_areSettings_4 : decode cX5_areSettings 4 = .ok (.iload_n 1, 1) := by decide +kernel
theorem dX5_areSettings_5 : decode cX5_areSettings 5 = .ok (.ldc 85, 2) := by decide +kernel
theorem dX5_areSettings_7 : decode cX5_areSettings 7 = .ok (.if_icmp .le 5, 3) := by decide +kernel
theorem dX5_areSettings_10 : decode cX5_areSettings 10 = .ok (.iconst 0, 1) := by decide +kernel
theorem dX5_areSettings_11 : decode cX5_areSettings 11 = .ok (.ireturn, 1) := by decide +kernel
theorem dX5_areSettings_12 : decode cX5_areSettings 12 = .ok (.iconst 0, 1) := by decide +kernel
theorem dX5_areSettings_13 : decode cX5_areSettings 13 = .ok (.istore_n 2, 1) := by decide +kernel
theorem dX5_areSettings_14 : decode cX5_areSettings 14 = .ok (.iload_n 2, 1) := by decide +kernel
theorem dX5_areSettings_15 : decode cX5_areSettings 15 = .ok (.iconst 4, 1) := by decide +kernel
theorem dX5_areSettings_16 : decode cX5_areSettings 16 = .ok (.if_icmp .ge 21, 3) := by decide +kernel
theorem dX5_areSettings_19 : decode cX5_areSettings 19 = .ok (.aload_n 0, 1) := by decide +kernel
theorem dX5_areSettings_20 : decode cX5_areSettings 20 = .ok (.iload_n 1, 1) := by decide +kernel
theorem dX5_areSettings_21 : decode cX5_areSettings 21 = .ok (.iload_n 2, 1) := by decide +kernel
theorem dX5_areSettings_22 : decode cX5_areSettings 22 = .ok (.invokevirtual 86, 3) := by decide +kernel
theorem dX5_areSettings_25 : decode cX5_areSettings 25 = .ok (.iconst 5, 1) := by decide +kernel
theorem dX5_areSettings_26 : decode cX5_areSettings 26 = .ok (.if_icmp .le 5, 3) := by decide +kernel
theorem dX5_areSettings_29 : decode cX5_areSettings 29 = .ok (.iconst 0, 1) := by decide +kernel
theorem dX5_areSettings_30 : decode cX5_areSettings 30 = .ok (.ireturn, 1) := by decide +kernel
theorem dX5_areSettings_31 : decode cX5_areSettings 31 = .ok (.iinc 2 1, 3) := by decide +kernel
theorem dX5_areSettings_34 : decode cX5_areSettings 34 = .ok (.goto (-20), 3) := by decide +kernel
theorem dX5_areSettings_37 : decode cX5_areSettings 37 = .ok (.iconst 1, 1) := by decide +kernel
theorem dX5_areSettings_38 : decode cX5_areSettings 38 = .ok (.ireturn, 1) := by decide +kernel
theorem dX5_isSeed_0 : decode cX5_isSeed 0 = .ok (.iload_n 1, 1) := by decide +kernel
theorem dX5_isSeed_1 : decode cX5_isSeed 1 = .ok (.ifCond .lt 13, 3) := by decide +kernel
theorem dX5_isSeed_4 : decode cX5_isSeed 4 = .ok (.iload_n 1, 1) := by decide +kernel
theorem dX5_isSeed_5 : decode cX5_isSeed 5 = .ok (.bipush 100, 2) := by decide +kernel
theorem dX5_isSeed_7 : decode cX5_isSeed 7 = .ok (.if_icmp .ge 7, 3) := by decide +kernel
theorem dX5_isSeed_10 : decode cX5_isSeed 10 = .ok (.iconst 1, 1) := by decide +kernel
theorem dX5_isSeed_11 : decode cX5_isSeed 11 = .ok (.goto 4, 3) := by decide +kernel
theorem dX5_isSeed_14 : decode cX5_isSeed 14 = .ok (.iconst 0, 1) := by decide +kernel
theorem dX5_isSeed_15 : decode cX5_isSeed 15 = .ok (.ireturn, 1) := by decide +kernel
theorem dX5_areTicks_0 : decode cX5_areTicks 0 = .ok (.iload_n 1, 1) := by decide +kernel
theorem dX5_areTicks_1 : decode cX5_areTicks 1 = .ok (.iconst 1, 1) := by decide +kernel
theorem dX5_areTicks_2 : decode cX5_areTicks 2 = .ok (.if_icmp .lt 13, 3) := by decide +kernel
theorem dX5_areTicks_5 : decode cX5_areTicks 5 = .ok (.iload_n 1, 1) := by decide +kernel
theorem dX5_areTicks_6 : decode cX5_areTicks 6 = .ok (.bipush 16, 2) := by decide +kernel
theorem dX5_areTicks_8 : decode cX5_areTicks 8 = .ok (.if_icmp .gt 7, 3) := by decide +kernel
theorem dX5_areTicks_11 : decode cX5_areTicks 11 = .ok (.iconst 1, 1) := by decide +kernel
theorem dX5_areTicks_12 : decode cX5_areTicks 12 = .ok (.goto 4, 3) := by decide +kernel
theorem dX5_areTicks_15 : decode cX5_areTicks 15 = .ok (.iconst 0, 1) := by decide +kernel
theorem dX5_areTicks_16 : decode cX5_areTicks 16 = .ok (.ireturn, 1) := by decide +kernel
theorem dX5_isRun_0 : decode cX5_isRun 0 = .ok (.iload_n 1, 1) := by decide +kernel
theorem dX5_isRun_1 : decode cX5_isRun 1 = .ok (.ifCond .lt 15, 3) := by decide +kernel
theorem dX5_isRun_4 : decode cX5_isRun 4 = .ok (.iload_n 1, 1) := by decide +kernel
theorem dX5_isRun_5 : decode cX5_isRun 5 = .ok (.aload_n 0, 1) := by decide +kernel
theorem dX5_isRun_6 : decode cX5_isRun 6 = .ok (.getfield 90, 3) := by decide +kernel
theorem dX5_isRun_9 : decode cX5_isRun 9 = .ok (.if_icmp .ge 7, 3) := by decide +kernel
theorem dX5_isRun_12 : decode cX5_isRun 12 = .ok (.iconst 1, 1) := by decide +kernel
theorem dX5_isRun_13 : decode cX5_isRun 13 = .ok (.goto 4, 3) := by decide +kernel
theorem dX5_isRun_16 : decode cX5_isRun 16 = .ok (.iconst 0, 1) := by decide +kernel
theorem dX5_isRun_17 : decode cX5_isRun 17 = .ok (.ireturn, 1) := by decide +kernel
theorem dX5_step_0 : decode cX5_step 0 = .ok (.iload_n 2, 1) := by decide +kernel
theorem dX5_step_1 : decode cX5_step 1 = .ok (.bipush 15, 2) := by decide +kernel
theorem dX5_step_3 : decode cX5_step 3 = .ok (.iand, 1) := by decide +kernel
theorem dX5_step_4 : decode cX5_step 4 = .ok (.istore 6, 2) := by decide +kernel
theorem dX5_step_6 : decode cX5_step 6 = .ok (.iload_n 2, 1) := by decide +kernel
theorem dX5_step_7 : decode cX5_step 7 = .ok (.iconst 4, 1) := by decide +kernel
theorem dX5_step_8 : decode cX5_step 8 = .ok (.ishr, 1) := by decide +kernel
theorem dX5_step_9 : decode cX5_step 9 = .ok (.istore 7, 2) := by decide +kernel
theorem dX5_step_11 : decode cX5_step 11 = .ok (.iload 7, 2) := by decide +kernel
theorem dX5_step_13 : decode cX5_step 13 = .ok (.ifCond .ne 8, 3) := by decide +kernel
theorem dX5_step_16 : decode cX5_step 16 = .ok (.iload_n 1, 1) := by decide +kernel
theorem dX5_step_17 : decode cX5_step 17 = .ok (.iload 6, 2) := by decide +kernel
theorem dX5_step_19 : decode cX5_step 19 = .ok (.iadd, 1) := by decide +kernel
theorem dX5_step_20 : decode cX5_step 20 = .ok (.ireturn, 1) := by decide +kernel
theorem dX5_step_21 : decode cX5_step 21 = .ok (.iload 7, 2) := by decide +kernel
theorem dX5_step_23 : decode cX5_step 23 = .ok (.iconst 1, 1) := by decide +kernel
theorem dX5_step_24 : decode cX5_step 24 = .ok (.if_icmp .ne 8, 3) := by decide +kernel
theorem dX5_step_27 : decode cX5_step 27 = .ok (.iload_n 1, 1) := by decide +kernel
theorem dX5_step_28 : decode cX5_step 28 = .ok (.iload 6, 2) := by decide +kernel
theorem dX5_step_30 : decode cX5_step 30 = .ok (.imul, 1) := by decide +kernel
theorem dX5_step_31 : decode cX5_step 31 = .ok (.ireturn, 1) := by decide +kernel
theorem dX5_step_32 : decode cX5_step 32 = .ok (.iload 7, 2) := by decide +kernel
theorem dX5_step_34 : decode cX5_step 34 = .ok (.iconst 2, 1) := by decide +kernel
theorem dX5_step_35 : decode cX5_step 35 = .ok (.if_icmp .eq 9, 3) := by decide +kernel
theorem dX5_step_38 : decode cX5_step 38 = .ok (.iload 7, 2) := by decide +kernel
theorem dX5_step_40 : decode cX5_step 40 = .ok (.iconst 3, 1) := by decide +kernel
theorem dX5_step_41 : decode cX5_step 41 = .ok (.if_icmp .ne 63, 3) := by decide +kernel
theorem dX5_step_44 : decode cX5_step 44 = .ok (.aload_n 0, 1) := by decide +kernel
theorem dX5_step_45 : decode cX5_step 45 = .ok (.aload_n 0, 1) := by decide +kernel
theorem dX5_step_46 : decode cX5_step 46 = .ok (.getfield 93, 3) := by decide +kernel
theorem dX5_step_49 : decode cX5_step 49 = .ok (.iconst 1, 1) := by decide +kernel
theorem dX5_step_50 : decode cX5_step 50 = .ok (.iload 6, 2) := by decide +kernel
theorem dX5_step_52 : decode cX5_step 52 = .ok (.iconst 4, 1) := by decide +kernel
theorem dX5_step_53 : decode cX5_step 53 = .ok (.irem, 1) := by decide +kernel
theorem dX5_step_54 : decode cX5_step 54 = .ok (.ishl, 1) := by decide +kernel
theorem dX5_step_55 : decode cX5_step 55 = .ok (.ior, 1) := by decide +kernel
theorem dX5_step_56 : decode cX5_step 56 = .ok (.putfield 93, 3) := by decide +kernel
theorem dX5_step_59 : decode cX5_step 59 = .ok (.iload 7, 2) := by decide +kernel
theorem dX5_step_61 : decode cX5_step 61 = .ok (.iconst 2, 1) := by decide +kernel
theorem dX5_step_62 : decode cX5_step 62 = .ok (.if_icmp .ne 15, 3) := by decide +kernel
theorem dX5_step_65 : decode cX5_step 65 = .ok (.iload_n 1, 1) := by decide +kernel
theorem dX5_step_66 : decode cX5_step 66 = .ok (.aload_n 0, 1) := by decide +kernel
theorem dX5_step_67 : decode cX5_step 67 = .ok (.iload_n 3, 1) := by decide +kernel
theorem dX5_step_68 : decode cX5_step 68 = .ok (.iload 6, 2) := by decide +kernel
theorem dX5_step_70 : decode cX5_step 70 = .ok (.iconst 4, 1) := by decide +kernel
theorem dX5_step_71 : decode cX5_step 71 = .ok (.irem, 1) := by decide +kernel
theorem dX5_step_72 : decode cX5_step 72 = .ok (.invokevirtual 86, 3) := by decide +kernel
theorem dX5_step_75 : decode cX5_step 75 = .ok (.iadd, 1) := by decide +kernel
theorem dX5_step_76 : decode cX5_step 76 = .ok (.ireturn, 1) := by decide +kernel
theorem dX5_step_77 : decode cX5_step 77 = .ok (.aload_n 0, 1) := by decide +kernel
theorem dX5_step_78 : decode cX5_step 78 = .ok (.aload_n 0, 1) := by decide +kernel
theorem dX5_step_79 : decode cX5_step 79 = .ok (.iload_n 3, 1) := by decide +kernel
theorem dX5_step_80 : decode cX5_step 80 = .ok (.iload 6, 2) := by decide +kernel
theorem dX5_step_82 : decode cX5_step 82 = .ok (.iconst 4, 1) := by decide +kernel
theorem dX5_step_83 : decode cX5_step 83 = .ok (.irem, 1) := by decide +kernel
theorem dX5_step_84 : decode cX5_step 84 = .ok (.invokevirtual 86, 3) := by decide +kernel
theorem dX5_step_87 : decode cX5_step 87 = .ok (.iload 6, 2) := by decide +kernel
theorem dX5_step_89 : decode cX5_step 89 = .ok (.iconst 4, 1) := by decide +kernel
theorem dX5_step_90 : decode cX5_step 90 = .ok (.idiv, 1) := by decide +kernel
theorem dX5_step_91 : decode cX5_step 91 = .ok (.if_icmp .le 7, 3) := by decide +kernel
theorem dX5_step_94 : decode cX5_step 94 = .ok (.iconst 1, 1) := by decide +kernel
theorem dX5_step_95 : decode cX5_step 95 = .ok (.goto 4, 3) := by decide +kernel
theorem dX5_step_98 : decode cX5_step 98 = .ok (.iconst 0, 1) := by decide +kernel
theorem dX5_step_99 : decode cX5_step 99 = .ok (.putfield 96, 3) := by decide +kernel
theorem dX5_step_102 : decode cX5_step 102 = .ok (.iload_n 1, 1) := by decide +kernel
theorem dX5_step_103 : decode cX5_step 103 = .ok (.ireturn, 1) := by decide +kernel
theorem dX5_step_104 : decode cX5_step 104 = .ok (.iload 7, 2) := by decide +kernel
theorem dX5_step_106 : decode cX5_step 106 = .ok (.iconst 4, 1) := by decide +kernel
theorem dX5_step_107 : decode cX5_step 107 = .ok (.if_icmp .ne 18, 3) := by decide +kernel
theorem dX5_step_110 : decode cX5_step 110 = .ok (.aload_n 0, 1) := by decide +kernel
theorem dX5_step_111 : decode cX5_step 111 = .ok (.iconst 1, 1) := by decide +kernel
theorem dX5_step_112 : decode cX5_step 112 = .ok (.putfield 100, 3) := by decide +kernel
theorem dX5_step_115 : decode cX5_step 115 = .ok (.iload_n 1, 1) := by decide +kernel
theorem dX5_step_116 : decode cX5_step 116 = .ok (.iload 4, 2) := by decide +kernel
theorem dX5_step_118 : decode cX5_step 118 = .ok (.iload 6, 2) := by decide +kernel
theorem dX5_step_120 : decode cX5_step 120 = .ok (.iconst 1, 1) := by decide +kernel
theorem dX5_step_121 : decode cX5_step 121 = .ok (.iadd, 1) := by decide +kernel
theorem dX5_step_122 : decode cX5_step 122 = .ok (.imul, 1) := by decide +kernel
theorem dX5_step_123 : decode cX5_step 123 = .ok (.ixor, 1) := by decide +kernel
theorem dX5_step_124 : decode cX5_step 124 = .ok (.ireturn, 1) := by decide +kernel
theorem dX5_step_125 : decode cX5_step 125 = .ok (.iload 7, 2) := by decide +kernel
theorem dX5_step_127 : decode cX5_step 127 = .ok (.iconst 5, 1) := by decide +kernel
theorem dX5_step_128 : decode cX5_step 128 = .ok (.if_icmp .ne 38, 3) := by decide +kernel
theorem dX5_step_131 : decode cX5_step 131 = .ok (.aload_n 0, 1) := by decide +kernel
theorem dX5_step_132 : decode cX5_step 132 = .ok (.aload_n 0, 1) := by decide +kernel
theorem dX5_step_133 : decode cX5_step 133 = .ok (.getfield 103, 3) := by decide +kernel
theorem dX5_step_136 : decode cX5_step 136 = .ok (.iconst 1, 1) := by decide +kernel
theorem dX5_step_137 : decode cX5_step 137 = .ok (.iload 5, 2) := by decide +kernel
theorem dX5_step_139 : decode cX5_step 139 = .ok (.iload 6, 2) := by decide +kernel
theorem dX5_step_141 : decode cX5_step 141 = .ok (.iadd, 1) := by decide +kernel
theorem dX5_step_142 : decode cX5_step 142 = .ok (.bipush 8, 2) := by decide +kernel
theorem dX5_step_144 : decode cX5_step 144 = .ok (.irem, 1) := by decide +kernel
theorem dX5_step_145 : decode cX5_step 145 = .ok (.ishl, 1) := by decide +kernel
theorem dX5_step_146 : decode cX5_step 146 = .ok (.ior, 1) := by decide +kernel
theorem dX5_step_147 : decode cX5_step 147 = .ok (.putfield 103, 3) := by decide +kernel
theorem dX5_step_150 : decode cX5_step 150 = .ok (.iload_n 1, 1) := by decide +kernel
theorem dX5_step_151 : decode cX5_step 151 = .ok (.aload_n 0, 1) := by decide +kernel
theorem dX5_step_152 : decode cX5_step 152 = .ok (.getfield 16, 3) := by decide +kernel
theorem dX5_step_155 : decode cX5_step 155 = .ok (.iload 5, 2) := by decide +kernel
theorem dX5_step_157 : decode cX5_step 157 = .ok (.iload 6, 2) := by decide +kernel
theorem dX5_step_159 : decode cX5_step 159 = .ok (.iadd, 1) := by decide +kernel
theorem dX5_step_160 : decode cX5_step 160 = .ok (.bipush 8, 2) := by decide +kernel
theorem dX5_step_162 : decode cX5_step 162 = .ok (.irem, 1) := by decide +kernel
theorem dX5_step_163 : decode cX5_step 163 = .ok (.iaload, 1) := by decide +kernel
theorem dX5_step_164 : decode cX5_step 164 = .ok (.iadd, 1) := by decide +kernel
theorem dX5_step_165 : decode cX5_step 165 = .ok (.ireturn, 1) := by decide +kernel
theorem dX5_step_166 : decode cX5_step 166 = .ok (.iload 7, 2) := by decide +kernel
theorem dX5_step_168 : decode cX5_step 168 = .ok (.bipush 6, 2) := by decide +kernel
theorem dX5_step_170 : decode cX5_step 170 = .ok (.if_icmp .ne 15, 3) := by decide +kernel
theorem dX5_step_173 : decode cX5_step 173 = .ok (.aload_n 0, 1) := by decide +kernel
theorem dX5_step_174 : decode cX5_step 174 = .ok (.iconst 1, 1) := by decide +kernel
theorem dX5_step_175 : decode cX5_step 175 = .ok (.putfield 106, 3) := by decide +kernel
theorem dX5_step_178 : decode cX5_step 178 = .ok (.iload_n 1, 1) := by decide +kernel
theorem dX5_step_179 : decode cX5_step 179 = .ok (.aload_n 0, 1) := by decide +kernel
theorem dX5_step_180 : decode cX5_step 180 = .ok (.getfield 109, 3) := by decide +kernel
theorem dX5_step_183 : decode cX5_step 183 = .ok (.iadd, 1) := by decide +kernel
theorem dX5_step_184 : decode cX5_step 184 = .ok (.ireturn, 1) := by decide +kernel
theorem dX5_step_185 : decode cX5_step 185 = .ok (.iload 7, 2) := by decide +kernel
theorem dX5_step_187 : decode cX5_step 187 = .ok (.bipush 7, 2) := by decide +kernel
theorem dX5_step_189 : decode cX5_step 189 = .ok (.if_icmp .ne 25, 3) := by decide +kernel
theorem dX5_step_192 : decode cX5_step 192 = .ok (.iload 6, 2) := by decide +kernel
theorem dX5_step_194 : decode cX5_step 194 = .ok (.ifCond .ne 7, 3) := by decide +kernel
theorem dX5_step_197 : decode cX5_step 197 = .ok (.iload_n 1, 1) := by decide +kernel
theorem dX5_step_198 : decode cX5_step 198 = .ok (.goto 15, 3) := by decide +kernel
theorem dX5_step_201 : decode cX5_step 201 = .ok (.iload_n 1, 1) := by decide +kernel
theorem dX5_step_202 : decode cX5_step 202 = .ok (.iload 6, 2) := by decide +kernel
theorem dX5_step_204 : decode cX5_step 204 = .ok (.ishl, 1) := by decide +kernel
theorem dX5_step_205 : decode cX5_step 205 = .ok (.iload_n 1, 1) := by decide +kernel
theorem dX5_step_206 : decode cX5_step 206 = .ok (.bipush 32, 2) := by decide +kernel
theorem dX5_step_208 : decode cX5_step 208 = .ok (.iload 6, 2) := by decide +kernel
theorem dX5_step_210 : decode cX5_step 210 = .ok (.isub, 1) := by decide +kernel
theorem dX5_step_211 : decode cX5_step 211 = .ok (.iushr, 1) := by decide +kernel
theorem dX5_step_212 : decode cX5_step 212 = .ok (.ior, 1) := by decide +kernel
theorem dX5_step_213 : decode cX5_step 213 = .ok (.ireturn, 1) := by decide +kernel
theorem dX5_step_214 : decode cX5_step 214 = .ok (.iload 7, 2) := by decide +kernel
theorem dX5_step_216 : decode cX5_step 216 = .ok (.bipush 8, 2) := by decide +kernel
theorem dX5_step_218 : decode cX5_step 218 = .ok (.if_icmp .ne 10, 3) := by decide +kernel
theorem dX5_step_221 : decode cX5_step 221 = .ok (.iload_n 1, 1) := by decide +kernel
theorem dX5_step_222 : decode cX5_step 222 = .ok (.iload 6, 2) := by decide +kernel
theorem dX5_step_224 : decode cX5_step 224 = .ok (.iconst 2, 1) := by decide +kernel
theorem dX5_step_225 : decode cX5_step 225 = .ok (.iadd, 1) := by decide +kernel
theorem dX5_step_226 : decode cX5_step 226 = .ok (.irem, 1) := by decide +kernel
theorem dX5_step_227 : decode cX5_step 227 = .ok (.ireturn, 1) := by decide +kernel
theorem dX5_step_228 : decode cX5_step 228 = .ok (.iload 7, 2) := by decide +kernel
theorem dX5_step_230 : decode cX5_step 230 = .ok (.bipush 9, 2) := by decide +kernel
theorem dX5_step_232 : decode cX5_step 232 = .ok (.if_icmp .ne 21, 3) := by decide +kernel
theorem dX5_step_235 : decode cX5_step 235 = .ok (.aload_n 0, 1) := by decide +kernel
theorem dX5_step_236 : decode cX5_step 236 = .ok (.iload_n 1, 1) := by decide +kernel
theorem dX5_step_237 : decode cX5_step 237 = .ok (.iload 6, 2) := by decide +kernel
theorem dX5_step_239 : decode cX5_step 239 = .ok (.iconst 1, 1) := by decide +kernel
theorem dX5_step_240 : decode cX5_step 240 = .ok (.iadd, 1) := by decide +kernel
theorem dX5_step_241 : decode cX5_step 241 = .ok (.irem, 1) := by decide +kernel
theorem dX5_step_242 : decode cX5_step 242 = .ok (.ifCond .ne 7, 3) := by decide +kernel
theorem dX5_step_245 : decode cX5_step 245 = .ok (.iconst 1, 1) := by decide +kernel
theorem dX5_step_246 : decode cX5_step 246 = .ok (.goto 4, 3) := by decide +kernel
theorem dX5_step_249 : decode cX5_step 249 = .ok (.iconst 0, 1) := by decide +kernel
theorem dX5_step_250 : decode cX5_step 250 = .ok (.putfield 112, 3) := by decide +kernel
theorem dX5_step_253 : decode cX5_step 253 = .ok (.iload_n 1, 1) := by decide +kernel
theorem dX5_step_254 : decode cX5_step 254 = .ok (.ireturn, 1) := by decide +kernel
theorem dX5_goes_0 : decode cX5_goes 0 = .ok (.iload_n 3, 1) := by decide +kernel
theorem dX5_goes_1 : decode cX5_goes 1 = .ok (.istore 7, 2) := by decide +kernel
theorem dX5_goes_3 : decode cX5_goes 3 = .ok (.aload_n 0, 1) := by decide +kernel
theorem dX5_goes_4 : decode cX5_goes 4 = .ok (.iload_n 2, 1) := by decide +kernel
theorem dX5_goes_5 : decode cX5_goes 5 = .ok (.putfield 115, 3) := by decide +kernel
theorem dX5_goes_8 : decode cX5_goes 8 = .ok (.aload_n 0, 1) := by decide +kernel
theorem dX5_goes_9 : decode cX5_goes 9 = .ok (.iconst 0, 1) := by decide +kernel
theorem dX5_goes_10 : decode cX5_goes 10 = .ok (.putfield 118, 3) := by decide +kernel
theorem dX5_goes_13 : decode cX5_goes 13 = .ok (.aload_n 0, 1) := by decide +kernel
theorem dX5_goes_14 : decode cX5_goes 14 = .ok (.iconst 0, 1) := by decide +kernel
theorem dX5_goes_15 : decode cX5_goes 15 = .ok (.putfield 93, 3) := by decide +kernel
theorem dX5_goes_18 : decode cX5_goes 18 = .ok (.aload_n 0, 1) := by decide +kernel
theorem dX5_goes_19 : decode cX5_goes 19 = .ok (.iconst 0, 1) := by decide +kernel
theorem dX5_goes_20 : decode cX5_goes 20 = .ok (.putfield 103, 3) := by decide +kernel
theorem dX5_goes_23 : decode cX5_goes 23 = .ok (.aload_n 0, 1) := by decide +kernel
theorem dX5_goes_24 : decode cX5_goes 24 = .ok (.iconst 0, 1) := by decide +kernel
theorem dX5_goes_25 : decode cX5_goes 25 = .ok (.putfield 100, 3) := by decide +kernel
theorem dX5_goes_28 : decode cX5_goes 28 = .ok (.aload_n 0, 1) := by decide +kernel
theorem dX5_goes_29 : decode cX5_goes 29 = .ok (.iconst 0, 1) := by decide +kernel
theorem dX5_goes_30 : decode cX5_goes 30 = .ok (.putfield 106, 3) := by decide +kernel
theorem dX5_goes_33 : decode cX5_goes 33 = .ok (.aload_n 0, 1) := by decide +kernel
theorem dX5_goes_34 : decode cX5_goes 34 = .ok (.iconst 0, 1) := by decide +kernel
theorem dX5_goes_35 : decode cX5_goes 35 = .ok (.putfield 112, 3) := by decide +kernel
theorem dX5_goes_38 : decode cX5_goes 38 = .ok (.iload_n 2, 1) := by decide +kernel
theorem dX5_goes_39 : decode cX5_goes 39 = .ok (.istore 8, 2) := by decide +kernel
theorem dX5_goes_41 : decode cX5_goes 41 = .ok (.iload 8, 2) := by decide +kernel
theorem dX5_goes_43 : decode cX5_goes 43 = .ok (.iload 6, 2) := by decide +kernel
theorem dX5_goes_45 : decode cX5_goes 45 = .ok (.if_icmp .ge 116, 3) := by decide +kernel
theorem dX5_goes_48 : decode cX5_goes 48 = .ok (.aload_n 0, 1) := by decide +kernel
theorem dX5_goes_49 : decode cX5_goes 49 = .ok (.getfield 112, 3) := by decide +kernel
theorem dX5_goes_52 : decode cX5_goes 52 = .ok (.ifCond .ne 109, 3) := by decide +kernel
theorem dX5_goes_55 : decode cX5_goes 55 = .ok (.aload_n 0, 1) := by decide +kernel
theorem dX5_goes_56 : decode cX5_goes 56 = .ok (.iconst 0, 1) := by decide +kernel
theorem dX5_goes_57 : decode cX5_goes 57 = .ok (.putfield 96, 3) := by decide +kernel
theorem dX5_goes_60 : decode cX5_goes 60 = .ok (.iconst 0, 1) := by decide +kernel
theorem dX5_goes_61 : decode cX5_goes 61 = .ok (.istore 9, 2) := by decide +kernel
theorem dX5_goes_63 : decode cX5_goes 63 = .ok (.iload 9, 2) := by decide +kernel
theorem dX5_goes_65 : decode cX5_goes 65 = .ok (.aload_n 0, 1) := by decide +kernel
theorem dX5_goes_66 : decode cX5_goes 66 = .ok (.getfield 25, 3) := by decide +kernel
theorem dX5_goes_69 : decode cX5_goes 69 = .ok (.iload_n 1, 1) := by decide +kernel
theorem dX5_goes_70 : decode cX5_goes 70 = .ok (.iaload, 1) := by decide +kernel
theorem dX5_goes_71 : decode cX5_goes 71 = .ok (.if_icmp .ge 57, 3) := by decide +kernel
theorem dX5_goes_74 : decode cX5_goes 74 = .ok (.aload_n 0, 1) := by decide +kernel
theorem dX5_goes_75 : decode cX5_goes 75 = .ok (.getfield 112, 3) := by decide +kernel
theorem dX5_goes_78 : decode cX5_goes 78 = .ok (.ifCond .ne 50, 3) := by decide +kernel
theorem dX5_goes_81 : decode cX5_goes 81 = .ok (.aload_n 0, 1) := by decide +kernel
theorem dX5_goes_82 : decode cX5_goes 82 = .ok (.getfield 96, 3) := by decide +kernel
theorem dX5_goes_85 : decode cX5_goes 85 = .ok (.ifCond .eq 11, 3) := by decide +kernel
theorem dX5_goes_88 : decode cX5_goes 88 = .ok (.aload_n 0, 1) := by decide +kernel
theorem dX5_goes_89 : decode cX5_goes 89 = .ok (.iconst 0, 1) := by decide +kernel
theorem dX5_goes_90 : decode cX5_goes 90 = .ok (.putfield 96, 3) := by decide +kernel
theorem dX5_goes_93 : decode cX5_goes 93 = .ok (.goto 29, 3) := by decide +kernel
theorem dX5_goes_96 : decode cX5_goes 96 = .ok (.aload_n 0, 1) := by decide +kernel
theorem dX5_goes_97 : decode cX5_goes 97 = .ok (.iload 7, 2) := by decide +kernel
theorem dX5_goes_99 : decode cX5_goes 99 = .ok (.aload_n 0, 1) := by decide +kernel
theorem dX5_goes_100 : decode cX5_goes 100 = .ok (.getfield 28, 3) := by decide +kernel
theorem dX5_goes_103 : decode cX5_goes 103 = .ok (.bipush 8, 2) := by decide +kernel
theorem dX5_goes_105 : decode cX5_goes 105 = .ok (.iload_n 1, 1) := by decide +kernel
theorem dX5_goes_106 : decode cX5_goes 106 = .ok (.imul, 1) := by decide +kernel
theorem dX5_goes_107 : decode cX5_goes 107 = .ok (.iload 9, 2) := by decide +kernel
theorem dX5_goes_109 : decode cX5_goes 109 = .ok (.iadd, 1) := by decide +kernel
theorem dX5_goes_110 : decode cX5_goes 110 = .ok (.iaload, 1) := by decide +kernel
theorem dX5_goes_111 : decode cX5_goes 111 = .ok (.iload 4, 2) := by decide +kernel
theorem dX5_goes_113 : decode cX5_goes 113 = .ok (.iload 5, 2) := by decide +kernel
theorem dX5_goes_115 : decode cX5_goes 115 = .ok (.iload 8, 2) := by decide +kernel
theorem dX5_goes_117 : decode cX5_goes 117 = .ok (.invokevirtual 121, 3) := by decide +kernel
theorem dX5_goes_120 : decode cX5_goes 120 = .ok (.istore 7, 2) := by decide +kernel
theorem dX5_goes_122 : decode cX5_goes 122 = .ok (.iinc 9 1, 3) := by decide +kernel
theorem dX5_goes_125 : decode cX5_goes 125 = .ok (.goto (-62), 3) := by decide +kernel
theorem dX5_goes_128 : decode cX5_goes 128 = .ok (.aload_n 0, 1) := by decide +kernel
theorem dX5_goes_129 : decode cX5_goes 129 = .ok (.getfield 112, 3) := by decide +kernel
theorem dX5_goes_132 : decode cX5_goes 132 = .ok (.ifCond .eq 6, 3) := by decide +kernel
theorem dX5_goes_135 : decode cX5_goes 135 = .ok (.goto 20, 3) := by decide +kernel
theorem dX5_goes_138 : decode cX5_goes 138 = .ok (.aload_n 0, 1) := by decide +kernel
theorem dX5_goes_139 : decode cX5_goes 139 = .ok (.getfield 71, 3) := by decide +kernel
theorem dX5_goes_142 : decode cX5_goes 142 = .ok (.iload 8, 2) := by decide +kernel
theorem dX5_goes_144 : decode cX5_goes 144 = .ok (.iload 7, 2) := by decide +kernel
theorem dX5_goes_146 : decode cX5_goes 146 = .ok (.iastore, 1) := by decide +kernel
theorem dX5_goes_147 : decode cX5_goes 147 = .ok (.aload_n 0, 1) := by decide +kernel
theorem dX5_goes_148 : decode cX5_goes 148 = .ok (.iload 8, 2) := by decide +kernel
theorem dX5_goes_150 : decode cX5_goes 150 = .ok (.iconst 1, 1) := by decide +kernel
theorem dX5_goes_151 : decode cX5_goes 151 = .ok (.iadd, 1) := by decide +kernel
theorem dX5_goes_152 : decode cX5_goes 152 = .ok (.putfield 115, 3) := by decide +kernel
theorem dX5_goes_155 : decode cX5_goes 155 = .ok (.iinc 8 1, 3) := by decide +kernel
theorem dX5_goes_158 : decode cX5_goes 158 = .ok (.goto (-117), 3) := by decide +kernel
theorem dX5_goes_161 : decode cX5_goes 161 = .ok (.aload_n 0, 1) := by decide +kernel
theorem dX5_goes_162 : decode cX5_goes 162 = .ok (.aload_n 0, 1) := by decide +kernel
theorem dX5_goes_163 : decode cX5_goes 163 = .ok (.getfield 112, 3) := by decide +kernel
theorem dX5_goes_166 : decode cX5_goes 166 = .ok (.putfield 118, 3) := by decide +kernel
theorem dX5_goes_169 : decode cX5_goes 169 = .ok (.return_, 1) := by decide +kernel
theorem dX5_takes_0 : decode cX5_takes 0 = .ok (.iload_n 2, 1) := by decide +kernel
theorem dX5_takes_1 : decode cX5_takes 1 = .ok (.istore_n 3, 1) := by decide +kernel
theorem dX5_takes_2 : decode cX5_takes 2 = .ok (.iload_n 3, 1) := by decide +kernel
theorem dX5_takes_3 : decode cX5_takes 3 = .ok (.aload_n 0, 1) := by decide +kernel
theorem dX5_takes_4 : decode cX5_takes 4 = .ok (.getfield 115, 3) := by decide +kernel
theorem dX5_takes_7 : decode cX5_takes 7 = .ok (.if_icmp .ge 26, 3) := by decide +kernel
theorem dX5_takes_10 : decode cX5_takes 10 = .ok (.aload_n 0, 1) := by decide +kernel
theorem dX5_takes_11 : decode cX5_takes 11 = .ok (.getfield 43, 3) := by decide +kernel
theorem dX5_takes_14 : decode cX5_takes 14 = .ok (.bipush 16, 2) := by decide +kernel
theorem dX5_takes_16 : decode cX5_takes 16 = .ok (.iload_n 1, 1) := by decide +kernel
theorem dX5_takes_17 : decode cX5_takes 17 = .ok (.imul, 1) := by decide +kernel
theorem dX5_takes_18 : decode cX5_takes 18 = .ok (.iload_n 3, 1) := by decide +kernel
theorem dX5_takes_19 : decode cX5_takes 19 = .ok (.iadd, 1) := by decide +kernel
theorem dX5_takes_20 : decode cX5_takes 20 = .ok (.aload_n 0, 1) := by decide +kernel
theorem dX5_takes_21 : decode cX5_takes 21 = .ok (.getfield 71, 3) := by decide +kernel
theorem dX5_takes_24 : decode cX5_takes 24 = .ok (.iload_n 3, 1) := by decide +kernel
theorem dX5_takes_25 : decode cX5_takes 25 = .ok (.iaload, 1) := by decide +kernel
theorem dX5_takes_26 : decode cX5_takes 26 = .ok (.iastore, 1) := by decide +kernel
theorem dX5_takes_27 : decode cX5_takes 27 = .ok (.iinc 3 1, 3) := by decide +kernel
theorem dX5_takes_30 : decode cX5_takes 30 = .ok (.goto (-28), 3) := by decide +kernel
theorem dX5_takes_33 : decode cX5_takes 33 = .ok (.aload_n 0, 1) := by decide +kernel
theorem dX5_takes_34 : decode cX5_takes 34 = .ok (.getfield 40, 3) := by decide +kernel
theorem dX5_takes_37 : decode cX5_takes 37 = .ok (.iload_n 1, 1) := by decide +kernel
theorem dX5_takes_38 : decode cX5_takes 38 = .ok (.aload_n 0, 1) := by decide +kernel
theorem dX5_takes_39 : decode cX5_takes 39 = .ok (.getfield 115, 3) := by decide +kernel
theorem dX5_takes_42 : decode cX5_takes 42 = .ok (.iastore, 1) := by decide +kernel
theorem dX5_takes_43 : decode cX5_takes 43 = .ok (.aload_n 0, 1) := by decide +kernel
theorem dX5_takes_44 : decode cX5_takes 44 = .ok (.getfield 46, 3) := by decide +kernel
theorem dX5_takes_47 : decode cX5_takes 47 = .ok (.iload_n 1, 1) := by decide +kernel
theorem dX5_takes_48 : decode cX5_takes 48 = .ok (.aload_n 0, 1) := by decide +kernel
theorem dX5_takes_49 : decode cX5_takes 49 = .ok (.getfield 118, 3) := by decide +kernel
theorem dX5_takes_52 : decode cX5_takes 52 = .ok (.bastore, 1) := by decide +kernel
theorem dX5_takes_53 : decode cX5_takes 53 = .ok (.aload_n 0, 1) := by decide +kernel
theorem dX5_takes_54 : decode cX5_takes 54 = .ok (.getfield 56, 3) := by decide +kernel
theorem dX5_takes_57 : decode cX5_takes 57 = .ok (.iload_n 1, 1) := by decide +kernel
theorem dX5_takes_58 : decode cX5_takes 58 = .ok (.aload_n 0, 1) := by decide +kernel
theorem dX5_takes_59 : decode cX5_takes 59 = .ok (.getfield 56, 3) := by decide +kernel
theorem dX5_takes_62 : decode cX5_takes 62 = .ok (.iload_n 1, 1) := by decide +kernel
theorem dX5_takes_63 : decode cX5_takes 63 = .ok (.iaload, 1) := by decide +kernel
theorem dX5_takes_64 : decode cX5_takes 64 = .ok (.aload_n 0, 1) := by decide +kernel
theorem dX5_takes_65 : decode cX5_takes 65 = .ok (.getfield 93, 3) := by decide +kernel
theorem dX5_takes_68 : decode cX5_takes 68 = .ok (.ior, 1) := by decide +kernel
theorem dX5_takes_69 : decode cX5_takes 69 = .ok (.iastore, 1) := by decide +kernel
theorem dX5_takes_70 : decode cX5_takes 70 = .ok (.aload_n 0, 1) := by decide +kernel
theorem dX5_takes_71 : decode cX5_takes 71 = .ok (.getfield 65, 3) := by decide +kernel
theorem dX5_takes_74 : decode cX5_takes 74 = .ok (.iload_n 1, 1) := by decide +kernel
theorem dX5_takes_75 : decode cX5_takes 75 = .ok (.aload_n 0, 1) := by decide +kernel
theorem dX5_takes_76 : decode cX5_takes 76 = .ok (.getfield 65, 3) := by decide +kernel
theorem dX5_takes_79 : decode cX5_takes 79 = .ok (.iload_n 1, 1) := by decide +kernel
theorem dX5_takes_80 : decode cX5_takes 80 = .ok (.baload, 1) := by decide +kernel
theorem dX5_takes_81 : decode cX5_takes 81 = .ok (.ifCond .ne 10, 3) := by decide +kernel
theorem dX5_takes_84 : decode cX5_takes 84 = .ok (.aload_n 0, 1) := by decide +kernel
theorem dX5_takes_85 : decode cX5_takes 85 = .ok (.getfield 100, 3) := by decide +kernel
theorem dX5_takes_88 : decode cX5_takes 88 = .ok (.ifCond .eq 7, 3) := by decide +kernel
theorem dX5_takes_91 : decode cX5_takes 91 = .ok (.iconst 1, 1) := by decide +kernel
theorem dX5_takes_92 : decode cX5_takes 92 = .ok (.goto 4, 3) := by decide +kernel
theorem dX5_takes_95 : decode cX5_takes 95 = .ok (.iconst 0, 1) := by decide +kernel
theorem dX5_takes_96 : decode cX5_takes 96 = .ok (.bastore, 1) := by decide +kernel
theorem dX5_takes_97 : decode cX5_takes 97 = .ok (.aload_n 0, 1) := by decide +kernel
theorem dX5_takes_98 : decode cX5_takes 98 = .ok (.getfield 68, 3) := by decide +kernel
theorem dX5_takes_101 : decode cX5_takes 101 = .ok (.iload_n 1, 1) := by decide +kernel
theorem dX5_takes_102 : decode cX5_takes 102 = .ok (.aload_n 0, 1) := by decide +kernel
theorem dX5_takes_103 : decode cX5_takes 103 = .ok (.getfield 68, 3) := by decide +kernel
theorem dX5_takes_106 : decode cX5_takes 106 = .ok (.iload_n 1, 1) := by decide +kernel
theorem dX5_takes_107 : decode cX5_takes 107 = .ok (.baload, 1) := by decide +kernel
theorem dX5_takes_108 : decode cX5_takes 108 = .ok (.ifCond .ne 10, 3) := by decide +kernel
theorem dX5_takes_111 : decode cX5_takes 111 = .ok (.aload_n 0, 1) := by decide +kernel
theorem dX5_takes_112 : decode cX5_takes 112 = .ok (.getfield 106, 3) := by decide +kernel
theorem dX5_takes_115 : decode cX5_takes 115 = .ok (.ifCond .eq 7, 3) := by decide +kernel
theorem dX5_takes_118 : decode cX5_takes 118 = .ok (.iconst 1, 1) := by decide +kernel
theorem dX5_takes_119 : decode cX5_takes 119 = .ok (.goto 4, 3) := by decide +kernel
theorem dX5_takes_122 : decode cX5_takes 122 = .ok (.iconst 0, 1) := by decide +kernel
theorem dX5_takes_123 : decode cX5_takes 123 = .ok (.bastore, 1) := by decide +kernel
theorem dX5_takes_124 : decode cX5_takes 124 = .ok (.iconst 0, 1) := by decide +kernel
theorem dX5_takes_125 : decode cX5_takes 125 = .ok (.istore_n 3, 1) := by decide +kernel
theorem dX5_takes_126 : decode cX5_takes 126 = .ok (.iload_n 3, 1) := by decide +kernel
theorem dX5_takes_127 : decode cX5_takes 127 = .ok (.bipush 8, 2) := by decide +kernel
theorem dX5_takes_129 : decode cX5_takes 129 = .ok (.if_icmp .ge 40, 3) := by decide +kernel
theorem dX5_takes_132 : decode cX5_takes 132 = .ok (.aload_n 0, 1) := by decide +kernel
theorem dX5_takes_133 : decode cX5_takes 133 = .ok (.getfield 103, 3) := by decide +kernel
theorem dX5_takes_136 : decode cX5_takes 136 = .ok (.iload_n 3, 1) := by decide +kernel
theorem dX5_takes_137 : decode cX5_takes 137 = .ok (.ishr, 1) := by decide +kernel
theorem dX5_takes_138 : decode cX5_takes 138 = .ok (.iconst 1, 1) := by decide +kernel
theorem dX5_takes_139 : decode cX5_takes 139 = .ok (.iand, 1) := by decide +kernel
theorem dX5_takes_140 : decode cX5_takes 140 = .ok (.ifCond .ne 6, 3) := by decide +kernel
theorem dX5_takes_143 : decode cX5_takes 143 = .ok (.goto 20, 3) := by decide +kernel
theorem dX5_takes_146 : decode cX5_takes 146 = .ok (.aload_n 0, 1) := by decide +kernel
theorem dX5_takes_147 : decode cX5_takes 147 = .ok (.getfield 62, 3) := by decide +kernel
theorem dX5_takes_150 : decode cX5_takes 150 = .ok (.bipush 8, 2) := by decide +kernel
theorem dX5_takes_152 : decode cX5_takes 152 = .ok (.iload_n 1, 1) := by decide +kernel
theorem dX5_takes_153 : decode cX5_takes 153 = .ok (.imul, 1) := by decide +kernel
theorem dX5_takes_154 : decode cX5_takes 154 = .ok (.iload_n 3, 1) := by decide +kernel
theorem dX5_takes_155 : decode cX5_takes 155 = .ok (.iadd, 1) := by decide +kernel
theorem dX5_takes_156 : decode cX5_takes 156 = .ok (.aload_n 0, 1) := by decide +kernel
theorem dX5_takes_157 : decode cX5_takes 157 = .ok (.getfield 16, 3) := by decide +kernel
theorem dX5_takes_160 : decode cX5_takes 160 = .ok (.iload_n 3, 1) := by decide +kernel
theorem dX5_takes_161 : decode cX5_takes 161 = .ok (.iaload, 1) := by decide +kernel
theorem dX5_takes_162 : decode cX5_takes 162 = .ok (.iastore, 1) := by decide +kernel
theorem dX5_takes_163 : decode cX5_takes 163 = .ok (.iinc 3 1, 3) := by decide +kernel
theorem dX5_takes_166 : decode cX5_takes 166 = .ok (.goto (-40), 3) := by decide +kernel
theorem dX5_takes_169 : decode cX5_takes 169 = .ok (.aload_n 0, 1) := by decide +kernel
theorem dX5_takes_170 : decode cX5_takes 170 = .ok (.getfield 59, 3) := by decide +kernel
theorem dX5_takes_173 : decode cX5_takes 173 = .ok (.iload_n 1, 1) := by decide +kernel
theorem dX5_takes_174 : decode cX5_takes 174 = .ok (.aload_n 0, 1) := by decide +kernel
theorem dX5_takes_175 : decode cX5_takes 175 = .ok (.getfield 59, 3) := by decide +kernel
theorem dX5_takes_178 : decode cX5_takes 178 = .ok (.iload_n 1, 1) := by decide +kernel
theorem dX5_takes_179 : decode cX5_takes 179 = .ok (.iaload, 1) := by decide +kernel
theorem dX5_takes_180 : decode cX5_takes 180 = .ok (.aload_n 0, 1) := by decide +kernel
theorem dX5_takes_181 : decode cX5_takes 181 = .ok (.getfield 103, 3) := by decide +kernel
theorem dX5_takes_184 : decode cX5_takes 184 = .ok (.ior, 1) := by decide +kernel
theorem dX5_takes_185 : decode cX5_takes 185 = .ok (.iastore, 1) := by decide +kernel
theorem dX5_takes_186 : decode cX5_takes 186 = .ok (.return_, 1) := by decide +kernel
theorem dX5_run_0 : decode cX5_run 0 = .ok (.aload_n 0, 1) := by decide +kernel
theorem dX5_run_1 : decode cX5_run 1 = .ok (.iconst 0, 1) := by decide +kernel
theorem dX5_run_2 : decode cX5_run 2 = .ok (.putfield 77, 3) := by decide +kernel
theorem dX5_run_5 : decode cX5_run 5 = .ok (.aload_n 0, 1) := by decide +kernel
theorem dX5_run_6 : decode cX5_run 6 = .ok (.iload_n 1, 1) := by decide +kernel
theorem dX5_run_7 : decode cX5_run 7 = .ok (.invokevirtual 81, 3) := by decide +kernel
theorem dX5_run_10 : decode cX5_run 10 = .ok (.ifCond .eq 37, 3) := by decide +kernel
theorem dX5_run_13 : decode cX5_run 13 = .ok (.aload_n 0, 1) := by decide +kernel
theorem dX5_run_14 : decode cX5_run 14 = .ok (.iload_n 2, 1) := by decide +kernel
theorem dX5_run_15 : decode cX5_run 15 = .ok (.invokevirtual 125, 3) := by decide +kernel
theorem dX5_run_18 : decode cX5_run 18 = .ok (.ifCond .eq 29, 3) := by decide +kernel
theorem dX5_run_21 : decode cX5_run 21 = .ok (.aload_n 0, 1) := by decide +kernel
theorem dX5_run_22 : decode cX5_run 22 = .ok (.iload_n 3, 1) := by decide +kernel
theorem dX5_run_23 : decode cX5_run 23 = .ok (.invokevirtual 128, 3) := by decide +kernel
theorem dX5_run_26 : decode cX5_run 26 = .ok (.ifCond .eq 21, 3) := by decide +kernel
theorem dX5_run_29 : decode cX5_run 29 = .ok (.aload_n 0, 1) := by decide +kernel
theorem dX5_run_30 : decode cX5_run 30 = .ok (.iload 4, 2) := by decide +kernel
theorem dX5_run_32 : decode cX5_run 32 = .ok (.invokevirtual 131, 3) := by decide +kernel
theorem dX5_run_35 : decode cX5_run 35 = .ok (.ifCond .eq 12, 3) := by decide +kernel
theorem dX5_run_38 : decode cX5_run 38 = .ok (.aload_n 0, 1) := by decide +kernel
theorem dX5_run_39 : decode cX5_run 39 = .ok (.getfield 90, 3) := by decide +kernel
theorem dX5_run_42 : decode cX5_run 42 = .ok (.bipush 40, 2) := by decide +kernel
theorem dX5_run_44 : decode cX5_run 44 = .ok (.if_icmp .ne 5, 3) := by decide +kernel
theorem dX5_run_47 : decode cX5_run 47 = .ok (.iconst (-1), 1) := by decide +kernel
theorem dX5_run_48 : decode cX5_run 48 = .ok (.ireturn, 1) := by decide +kernel
theorem dX5_run_49 : decode cX5_run 49 = .ok (.aload_n 0, 1) := by decide +kernel
theorem dX5_run_50 : decode cX5_run 50 = .ok (.getfield 90, 3) := by decide +kernel
theorem dX5_run_53 : decode cX5_run 53 = .ok (.istore 5, 2) := by decide +kernel
theorem dX5_run_55 : decode cX5_run 55 = .ok (.aload_n 0, 1) := by decide +kernel
theorem dX5_run_56 : decode cX5_run 56 = .ok (.aload_n 0, 1) := by decide +kernel
theorem dX5_run_57 : decode cX5_run 57 = .ok (.getfield 90, 3) := by decide +kernel
theorem dX5_run_60 : decode cX5_run 60 = .ok (.iconst 1, 1) := by decide +kernel
theorem dX5_run_61 : decode cX5_run 61 = .ok (.iadd, 1) := by decide +kernel
theorem dX5_run_62 : decode cX5_run 62 = .ok (.putfield 90, 3) := by decide +kernel
theorem dX5_run_65 : decode cX5_run 65 = .ok (.aload_n 0, 1) := by decide +kernel
theorem dX5_run_66 : decode cX5_run 66 = .ok (.aload_n 0, 1) := by decide +kernel
theorem dX5_run_67 : decode cX5_run 67 = .ok (.getfield 109, 3) := by decide +kernel
theorem dX5_run_70 : decode cX5_run 70 = .ok (.iconst 1, 1) := by decide +kernel
theorem dX5_run_71 : decode cX5_run 71 = .ok (.iadd, 1) := by decide +kernel
theorem dX5_run_72 : decode cX5_run 72 = .ok (.putfield 109, 3) := by decide +kernel
theorem dX5_run_75 : decode cX5_run 75 = .ok (.aload_n 0, 1) := by decide +kernel
theorem dX5_run_76 : decode cX5_run 76 = .ok (.getfield 22, 3) := by decide +kernel
theorem dX5_run_79 : decode cX5_run 79 = .ok (.iload 5, 2) := by decide +kernel
theorem dX5_run_81 : decode cX5_run 81 = .ok (.iload_n 1, 1) := by decide +kernel
theorem dX5_run_82 : decode cX5_run 82 = .ok (.iastore, 1) := by decide +kernel
theorem dX5_run_83 : decode cX5_run 83 = .ok (.aload_n 0, 1) := by decide +kernel
theorem dX5_run_84 : decode cX5_run 84 = .ok (.getfield 25, 3) := by decide +kernel
theorem dX5_run_87 : decode cX5_run 87 = .ok (.iload 5, 2) := by decide +kernel
theorem dX5_run_89 : decode cX5_run 89 = .ok (.aload_n 0, 1) := by decide +kernel
theorem dX5_run_90 : decode cX5_run 90 = .ok (.getfield 7, 3) := by decide +kernel
theorem dX5_run_93 : decode cX5_run 93 = .ok (.iload_n 1, 1) := by decide +kernel
theorem dX5_run_94 : decode cX5_run 94 = .ok (.iaload, 1) := by decide +kernel
theorem dX5_run_95 : decode cX5_run 95 = .ok (.iastore, 1) := by decide +kernel
theorem dX5_run_96 : decode cX5_run 96 = .ok (.iconst 0, 1) := by decide +kernel
theorem dX5_run_97 : decode cX5_run 97 = .ok (.istore 6, 2) := by decide +kernel
theorem dX5_run_99 : decode cX5_run 99 = .ok (.iload 6, 2) := by decide +kernel
theorem dX5_run_101 : decode cX5_run 101 = .ok (.bipush 8, 2) := by decide +kernel
theorem dX5_run_103 : decode cX5_run 103 = .ok (.if_icmp .ge 34, 3) := by decide +kernel
theorem dX5_run_106 : decode cX5_run 106 = .ok (.aload_n 0, 1) := by decide +kernel
theorem dX5_run_107 : decode cX5_run 107 = .ok (.getfield 28, 3) := by decide +kernel
theorem dX5_run_110 : decode cX5_run 110 = .ok (.bipush 8, 2) := by decide +kernel
theorem dX5_run_112 : decode cX5_run 112 = .ok (.iload 5, 2) := by decide +kernel
theorem dX5_run_114 : decode cX5_run 114 = .ok (.imul, 1) := by decide +kernel
theorem dX5_run_115 : decode cX5_run 115 = .ok (.iload 6, 2) := by decide +kernel
theorem dX5_run_117 : decode cX5_run 117 = .ok (.iadd, 1) := by decide +kernel
theorem dX5_run_118 : decode cX5_run 118 = .ok (.aload_n 0, 1) := by decide +kernel
theorem dX5_run_119 : decode cX5_run 119 = .ok (.getfield 13, 3) := by decide +kernel
theorem dX5_run_122 : decode cX5_run 122 = .ok (.bipush 8, 2) := by decide +kernel
theorem dX5_run_124 : decode cX5_run 124 = .ok (.iload_n 1, 1) := by decide +kernel
theorem dX5_run_125 : decode cX5_run 125 = .ok (.imul, 1) := by decide +kernel
theorem dX5_run_126 : decode cX5_run 126 = .ok (.iload 6, 2) := by decide +kernel
theorem dX5_run_128 : decode cX5_run 128 = .ok (.iadd, 1) := by decide +kernel
theorem dX5_run_129 : decode cX5_run 129 = .ok (.iaload, 1) := by decide +kernel
theorem dX5_run_130 : decode cX5_run 130 = .ok (.iastore, 1) := by decide +kernel
theorem dX5_run_131 : decode cX5_run 131 = .ok (.iinc 6 1, 3) := by decide +kernel
theorem dX5_run_134 : decode cX5_run 134 = .ok (.goto (-35), 3) := by decide +kernel
theorem dX5_run_137 : decode cX5_run 137 = .ok (.aload_n 0, 1) := by decide +kernel
theorem dX5_run_138 : decode cX5_run 138 = .ok (.getfield 31, 3) := by decide +kernel
theorem dX5_run_141 : decode cX5_run 141 = .ok (.iload 5, 2) := by decide +kernel
theorem dX5_run_143 : decode cX5_run 143 = .ok (.iload_n 2, 1) := by decide +kernel
theorem dX5_run_144 : decode cX5_run 144 = .ok (.iastore, 1) := by decide +kernel
theorem dX5_run_145 : decode cX5_run 145 = .ok (.aload_n 0, 1) := by decide +kernel
theorem dX5_run_146 : decode cX5_run 146 = .ok (.getfield 34, 3) := by decide +kernel
theorem dX5_run_149 : decode cX5_run 149 = .ok (.iload 5, 2) := by decide +kernel
theorem dX5_run_151 : decode cX5_run 151 = .ok (.iload_n 3, 1) := by decide +kernel
theorem dX5_run_152 : decode cX5_run 152 = .ok (.iastore, 1) := by decide +kernel
theorem dX5_run_153 : decode cX5_run 153 = .ok (.aload_n 0, 1) := by decide +kernel
theorem dX5_run_154 : decode cX5_run 154 = .ok (.getfield 37, 3) := by decide +kernel
theorem dX5_run_157 : decode cX5_run 157 = .ok (.iload 5, 2) := by decide +kernel
theorem dX5_run_159 : decode cX5_run 159 = .ok (.iload 4, 2) := by decide +kernel
theorem dX5_run_161 : decode cX5_run 161 = .ok (.iastore, 1) := by decide +kernel
theorem dX5_run_162 : decode cX5_run 162 = .ok (.aload_n 0, 1) := by decide +kernel
theorem dX5_run_163 : decode cX5_run 163 = .ok (.getfield 50, 3) := by decide +kernel
theorem dX5_run_166 : decode cX5_run 166 = .ok (.iload 5, 2) := by decide +kernel
theorem dX5_run_168 : decode cX5_run 168 = .ok (.iconst (-1), 1) := by decide +kernel
theorem dX5_run_169 : decode cX5_run 169 = .ok (.iastore, 1) := by decide +kernel
theorem dX5_run_170 : decode cX5_run 170 = .ok (.aload_n 0, 1) := by decide +kernel
theorem dX5_run_171 : decode cX5_run 171 = .ok (.getfield 53, 3) := by decide +kernel
theorem dX5_run_174 : decode cX5_run 174 = .ok (.iload 5, 2) := by decide +kernel
theorem dX5_run_176 : decode cX5_run 176 = .ok (.iconst (-1), 1) := by decide +kernel
theorem dX5_run_177 : decode cX5_run 177 = .ok (.iastore, 1) := by decide +kernel
theorem dX5_run_178 : decode cX5_run 178 = .ok (.aload_n 0, 1) := by decide +kernel
theorem dX5_run_179 : decode cX5_run 179 = .ok (.iload 5, 2) := by decide +kernel
theorem dX5_run_181 : decode cX5_run 181 = .ok (.iconst 0, 1) := by decide +kernel
theorem dX5_run_182 : decode cX5_run 182 = .ok (.iconst 0, 1) := by decide +kernel
theorem dX5_run_183 : decode cX5_run 183 = .ok (.iload_n 2, 1) := by decide +kernel
theorem dX5_run_184 : decode cX5_run 184 = .ok (.iload_n 3, 1) := by decide +kernel
theorem dX5_run_185 : decode cX5_run 185 = .ok (.iload 4, 2) := by decide +kernel
theorem dX5_run_187 : decode cX5_run 187 = .ok (.invokevirtual 134, 3) := by decide +kernel
theorem dX5_run_190 : decode cX5_run 190 = .ok (.aload_n 0, 1) := by decide +kernel
theorem dX5_run_191 : decode cX5_run 191 = .ok (.iload 5, 2) := by decide +kernel
theorem dX5_run_193 : decode cX5_run 193 = .ok (.iconst 0, 1) := by decide +kernel
theorem dX5_run_194 : decode cX5_run 194 = .ok (.invokevirtual 138, 3) := by decide +kernel
theorem dX5_run_197 : decode cX5_run 197 = .ok (.iload 5, 2) := by decide +kernel
theorem dX5_run_199 : decode cX5_run 199 = .ok (.ireturn, 1) := by decide +kernel
theorem dX5_fork_0 : decode cX5_fork 0 = .ok (.aload_n 0, 1) := by decide +kernel
theorem dX5_fork_1 : decode cX5_fork 1 = .ok (.iconst 0, 1) := by decide +kernel
theorem dX5_fork_2 : decode cX5_fork 2 = .ok (.putfield 77, 3) := by decide +kernel
theorem dX5_fork_5 : decode cX5_fork 5 = .ok (.aload_n 0, 1) := by decide +kernel
theorem dX5_fork_6 : decode cX5_fork 6 = .ok (.iload_n 1, 1) := by decide +kernel
theorem dX5_fork_7 : decode cX5_fork 7 = .ok (.invokevirtual 142, 3) := by decide +kernel
theorem dX5_fork_10 : decode cX5_fork 10 = .ok (.ifCond .eq 52, 3) := by decide +kernel
theorem dX5_fork_13 : decode cX5_fork 13 = .ok (.aload_n 0, 1) := by decide +kernel
theorem dX5_fork_14 : decode cX5_fork 14 = .ok (.getfield 46, 3) := by decide +kernel
theorem dX5_fork_17 : decode cX5_fork 17 = .ok (.iload_n 1, 1) := by decide +kernel
theorem dX5_fork_18 : decode cX5_fork 18 = .ok (.baload, 1) := by decide +kernel
theorem dX5_fork_19 : decode cX5_fork 19 = .ok (.ifCond .ne 43, 3) := by decide +kernel
theorem dX5_fork_22 : decode cX5_fork 22 = .ok (.iload_n 2, 1) := by decide +kernel
theorem dX5_fork_23 : decode cX5_fork 23 = .ok (.ifCond .lt 39, 3) := by decide +kernel
theorem dX5_fork_26 : decode cX5_fork 26 = .ok (.iload_n 2, 1) := by decide +kernel
theorem dX5_fork_27 : decode cX5_fork 27 = .ok (.aload_n 0, 1) := by decide +kernel
theorem dX5_fork_28 : decode cX5_fork 28 = .ok (.getfield 40, 3) := by decide +kernel
theorem dX5_fork_31 : decode cX5_fork 31 = .ok (.iload_n 1, 1) := by decide +kernel
theorem dX5_fork_32 : decode cX5_fork 32 = .ok (.iaload, 1) := by decide +kernel
theorem dX5_fork_33 : decode cX5_fork 33 = .ok (.if_icmp .gt 29, 3) := by decide +kernel
theorem dX5_fork_36 : decode cX5_fork 36 = .ok (.aload_n 0, 1) := by decide +kernel
theorem dX5_fork_37 : decode cX5_fork 37 = .ok (.iload_n 3, 1) := by decide +kernel
theorem dX5_fork_38 : decode cX5_fork 38 = .ok (.invokevirtual 125, 3) := by decide +kernel
theorem dX5_fork_41 : decode cX5_fork 41 = .ok (.ifCond .eq 21, 3) := by decide +kernel
theorem dX5_fork_44 : decode cX5_fork 44 = .ok (.aload_n 0, 1) := by decide +kernel
theorem dX5_fork_45 : decode cX5_fork 45 = .ok (.iload 4, 2) := by decide +kernel
theorem dX5_fork_47 : decode cX5_fork 47 = .ok (.invokevirtual 128, 3) := by decide +kernel
theorem dX5_fork_50 : decode cX5_fork 50 = .ok (.ifCond .eq 12, 3) := by decide +kernel
theorem dX5_fork_53 : decode cX5_fork 53 = .ok (.aload_n 0, 1) := by decide +kernel
theorem dX5_fork_54 : decode cX5_fork 54 = .ok (.getfield 90, 3) := by decide +kernel
theorem dX5_fork_57 : decode cX5_fork 57 = .ok (.bipush 40, 2) := by decide +kernel
theorem dX5_fork_59 : decode cX5_fork 59 = .ok (.if_icmp .ne 5, 3) := by decide +kernel
theorem dX5_fork_62 : decode cX5_fork 62 = .ok (.iconst (-1), 1) := by decide +kernel
theorem dX5_fork_63 : decode cX5_fork 63 = .ok (.ireturn, 1) := by decide +kernel
theorem dX5_fork_64 : decode cX5_fork 64 = .ok (.aload_n 0, 1) := by decide +kernel
theorem dX5_fork_65 : decode cX5_fork 65 = .ok (.getfield 90, 3) := by decide +kernel
theorem dX5_fork_68 : decode cX5_fork 68 = .ok (.istore 5, 2) := by decide +kernel
theorem dX5_fork_70 : decode cX5_fork 70 = .ok (.aload_n 0, 1) := by decide +kernel
theorem dX5_fork_71 : decode cX5_fork 71 = .ok (.aload_n 0, 1) := by decide +kernel
theorem dX5_fork_72 : decode cX5_fork 72 = .ok (.getfield 90, 3) := by decide +kernel
theorem dX5_fork_75 : decode cX5_fork 75 = .ok (.iconst 1, 1) := by decide +kernel
theorem dX5_fork_76 : decode cX5_fork 76 = .ok (.iadd, 1) := by decide +kernel
theorem dX5_fork_77 : decode cX5_fork 77 = .ok (.putfield 90, 3) := by decide +kernel
theorem dX5_fork_80 : decode cX5_fork 80 = .ok (.aload_n 0, 1) := by decide +kernel
theorem dX5_fork_81 : decode cX5_fork 81 = .ok (.aload_n 0, 1) := by decide +kernel
theorem dX5_fork_82 : decode cX5_fork 82 = .ok (.getfield 109, 3) := by decide +kernel
theorem dX5_fork_85 : decode cX5_fork 85 = .ok (.iconst 1, 1) := by decide +kernel
theorem dX5_fork_86 : decode cX5_fork 86 = .ok (.iadd, 1) := by decide +kernel
theorem dX5_fork_87 : decode cX5_fork 87 = .ok (.putfield 109, 3) := by decide +kernel
theorem dX5_fork_90 : decode cX5_fork 90 = .ok (.aload_n 0, 1) := by decide +kernel
theorem dX5_fork_91 : decode cX5_fork 91 = .ok (.getfield 22, 3) := by decide +kernel
theorem dX5_fork_94 : decode cX5_fork 94 = .ok (.iload 5, 2) := by decide +kernel
theorem dX5_fork_96 : decode cX5_fork 96 = .ok (.aload_n 0, 1) := by decide +kernel
theorem dX5_fork_97 : decode cX5_fork 97 = .ok (.getfield 22, 3) := by decide +kernel
theorem dX5_fork_100 : decode cX5_fork 100 = .ok (.iload_n 1, 1) := by decide +kernel
theorem dX5_fork_101 : decode cX5_fork 101 = .ok (.iaload, 1) := by decide +kernel
theorem dX5_fork_102 : decode cX5_fork 102 = .ok (.iastore, 1) := by decide +kernel
theorem dX5_fork_103 : decode cX5_fork 103 = .ok (.aload_n 0, 1) := by decide +kernel
theorem dX5_fork_104 : decode cX5_fork 104 = .ok (.getfield 25, 3) := by decide +kernel
theorem dX5_fork_107 : decode cX5_fork 107 = .ok (.iload 5, 2) := by decide +kernel
theorem dX5_fork_109 : decode cX5_fork 109 = .ok (.aload_n 0, 1) := by decide +kernel
theorem dX5_fork_110 : decode cX5_fork 110 = .ok (.getfield 25, 3) := by decide +kernel
theorem dX5_fork_113 : decode cX5_fork 113 = .ok (.iload_n 1, 1) := by decide +kernel
theorem dX5_fork_114 : decode cX5_fork 114 = .ok (.iaload, 1) := by decide +kernel
theorem dX5_fork_115 : decode cX5_fork 115 = .ok (.iastore, 1) := by decide +kernel
theorem dX5_fork_116 : decode cX5_fork 116 = .ok (.iconst 0, 1) := by decide +kernel
theorem dX5_fork_117 : decode cX5_fork 117 = .ok (.istore 6, 2) := by decide +kernel
theorem dX5_fork_119 : decode cX5_fork 119 = .ok (.iload 6, 2) := by decide +kernel
theorem dX5_fork_121 : decode cX5_fork 121 = .ok (.bipush 8, 2) := by decide +kernel
theorem dX5_fork_123 : decode cX5_fork 123 = .ok (.if_icmp .ge 34, 3) := by decide +kernel
theorem dX5_fork_126 : decode cX5_fork 126 = .ok (.aload_n 0, 1) := by decide +kernel
theorem dX5_fork_127 : decode cX5_fork 127 = .ok (.getfield 28, 3) := by decide +kernel
theorem dX5_fork_130 : decode cX5_fork 130 = .ok (.bipush 8, 2) := by decide +kernel
theorem dX5_fork_132 : decode cX5_fork 132 = .ok (.iload 5, 2) := by decide +kernel
theorem dX5_fork_134 : decode cX5_fork 134 = .ok (.imul, 1) := by decide +kernel
theorem dX5_fork_135 : decode cX5_fork 135 = .ok (.iload 6, 2) := by decide +kernel
theorem dX5_fork_137 : decode cX5_fork 137 = .ok (.iadd, 1) := by decide +kernel
theorem dX5_fork_138 : decode cX5_fork 138 = .ok (.aload_n 0, 1) := by decide +kernel
theorem dX5_fork_139 : decode cX5_fork 139 = .ok (.getfield 28, 3) := by decide +kernel
theorem dX5_fork_142 : decode cX5_fork 142 = .ok (.bipush 8, 2) := by decide +kernel
theorem dX5_fork_144 : decode cX5_fork 144 = .ok (.iload_n 1, 1) := by decide +kernel
theorem dX5_fork_145 : decode cX5_fork 145 = .ok (.imul, 1) := by decide +kernel
theorem dX5_fork_146 : decode cX5_fork 146 = .ok (.iload 6, 2) := by decide +kernel
theorem dX5_fork_148 : decode cX5_fork 148 = .ok (.iadd, 1) := by decide +kernel
theorem dX5_fork_149 : decode cX5_fork 149 = .ok (.iaload, 1) := by decide +kernel
theorem dX5_fork_150 : decode cX5_fork 150 = .ok (.iastore, 1) := by decide +kernel
theorem dX5_fork_151 : decode cX5_fork 151 = .ok (.iinc 6 1, 3) := by decide +kernel
theorem dX5_fork_154 : decode cX5_fork 154 = .ok (.goto (-35), 3) := by decide +kernel
theorem dX5_fork_157 : decode cX5_fork 157 = .ok (.aload_n 0, 1) := by decide +kernel
theorem dX5_fork_158 : decode cX5_fork 158 = .ok (.getfield 31, 3) := by decide +kernel
theorem dX5_fork_161 : decode cX5_fork 161 = .ok (.iload 5, 2) := by decide +kernel
theorem dX5_fork_163 : decode cX5_fork 163 = .ok (.iload_n 3, 1) := by decide +kernel
theorem dX5_fork_164 : decode cX5_fork 164 = .ok (.iastore, 1) := by decide +kernel
theorem dX5_fork_165 : decode cX5_fork 165 = .ok (.aload_n 0, 1) := by decide +kernel
theorem dX5_fork_166 : decode cX5_fork 166 = .ok (.getfield 34, 3) := by decide +kernel
theorem dX5_fork_169 : decode cX5_fork 169 = .ok (.iload 5, 2) := by decide +kernel
theorem dX5_fork_171 : decode cX5_fork 171 = .ok (.iload 4, 2) := by decide +kernel
theorem dX5_fork_173 : decode cX5_fork 173 = .ok (.iastore, 1) := by decide +kernel
theorem dX5_fork_174 : decode cX5_fork 174 = .ok (.aload_n 0, 1) := by decide +kernel
theorem dX5_fork_175 : decode cX5_fork 175 = .ok (.getfield 37, 3) := by decide +kernel
theorem dX5_fork_178 : decode cX5_fork 178 = .ok (.iload 5, 2) := by decide +kernel
theorem dX5_fork_180 : decode cX5_fork 180 = .ok (.aload_n 0, 1) := by decide +kernel
theorem dX5_fork_181 : decode cX5_fork 181 = .ok (.getfield 37, 3) := by decide +kernel
theorem dX5_fork_184 : decode cX5_fork 184 = .ok (.iload_n 1, 1) := by decide +kernel
theorem dX5_fork_185 : decode cX5_fork 185 = .ok (.iaload, 1) := by decide +kernel
theorem dX5_fork_186 : decode cX5_fork 186 = .ok (.iastore, 1) := by decide +kernel
theorem dX5_fork_187 : decode cX5_fork 187 = .ok (.aload_n 0, 1) := by decide +kernel
theorem dX5_fork_188 : decode cX5_fork 188 = .ok (.getfield 50, 3) := by decide +kernel
theorem dX5_fork_191 : decode cX5_fork 191 = .ok (.iload 5, 2) := by decide +kernel
theorem dX5_fork_193 : decode cX5_fork 193 = .ok (.iload_n 1, 1) := by decide +kernel
theorem dX5_fork_194 : decode cX5_fork 194 = .ok (.iastore, 1) := by decide +kernel
theorem dX5_fork_195 : decode cX5_fork 195 = .ok (.aload_n 0, 1) := by decide +kernel
theorem dX5_fork_196 : decode cX5_fork 196 = .ok (.getfield 53, 3) := by decide +kernel
theorem dX5_fork_199 : decode cX5_fork 199 = .ok (.iload 5, 2) := by decide +kernel
theorem dX5_fork_201 : decode cX5_fork 201 = .ok (.iload_n 2, 1) := by decide +kernel
theorem dX5_fork_202 : decode cX5_fork 202 = .ok (.iastore, 1) := by decide +kernel
theorem dX5_fork_203 : decode cX5_fork 203 = .ok (.iconst 0, 1) := by decide +kernel
theorem dX5_fork_204 : decode cX5_fork 204 = .ok (.istore 6, 2) := by decide +kernel
theorem dX5_fork_206 : decode cX5_fork 206 = .ok (.iload 6, 2) := by decide +kernel
theorem dX5_fork_208 : decode cX5_fork 208 = .ok (.iload_n 2, 1) := by decide +kernel
theorem dX5_fork_209 : decode cX5_fork 209 = .ok (.if_icmp .ge 34, 3) := by decide +kernel
theorem dX5_fork_212 : decode cX5_fork 212 = .ok (.aload_n 0, 1) := by decide +kernel
theorem dX5_fork_213 : decode cX5_fork 213 = .ok (.getfield 43, 3) := by decide +kernel
theorem dX5_fork_216 : decode cX5_fork 216 = .ok (.bipush 16, 2) := by decide +kernel
theorem dX5_fork_218 : decode cX5_fork 218 = .ok (.iload 5, 2) := by decide +kernel
theorem dX5_fork_220 : decode cX5_fork 220 = .ok (.imul, 1) := by decide +kernel
theorem dX5_fork_221 : decode cX5_fork 221 = .ok (.iload 6, 2) := by decide +kernel
theorem dX5_fork_223 : decode cX5_fork 223 = .ok (.iadd, 1) := by decide +kernel
theorem dX5_fork_224 : decode cX5_fork 224 = .ok (.aload_n 0, 1) := by decide +kernel
theorem dX5_fork_225 : decode cX5_fork 225 = .ok (.getfield 43, 3) := by decide +kernel
theorem dX5_fork_228 : decode cX5_fork 228 = .ok (.bipush 16, 2) := by decide +kernel
theorem dX5_fork_230 : decode cX5_fork 230 = .ok (.iload_n 1, 1) := by decide +kernel
theorem dX5_fork_231 : decode cX5_fork 231 = .ok (.imul, 1) := by decide +kernel
theorem dX5_fork_232 : decode cX5_fork 232 = .ok (.iload 6, 2) := by decide +kernel
theorem dX5_fork_234 : decode cX5_fork 234 = .ok (.iadd, 1) := by decide +kernel
theorem dX5_fork_235 : decode cX5_fork 235 = .ok (.iaload, 1) := by decide +kernel
theorem dX5_fork_236 : decode cX5_fork 236 = .ok (.iastore, 1) := by decide +kernel
theorem dX5_fork_237 : decode cX5_fork 237 = .ok (.iinc 6 1, 3) := by decide +kernel
theorem dX5_fork_240 : decode cX5_fork 240 = .ok (.goto (-34), 3) := by decide +kernel
theorem dX5_fork_243 : decode cX5_fork 243 = .ok (.aload_n 0, 1) := by decide +kernel
theorem dX5_fork_244 : decode cX5_fork 244 = .ok (.getfield 56, 3) := by decide +kernel
theorem dX5_fork_247 : decode cX5_fork 247 = .ok (.iload 5, 2) := by decide +kernel
theorem dX5_fork_249 : decode cX5_fork 249 = .ok (.aload_n 0, 1) := by decide +kernel
theorem dX5_fork_250 : decode cX5_fork 250 = .ok (.getfield 56, 3) := by decide +kernel
theorem dX5_fork_253 : decode cX5_fork 253 = .ok (.iload_n 1, 1) := by decide +kernel
theorem dX5_fork_254 : decode cX5_fork 254 = .ok (.iaload, 1) := by decide +kernel
theorem dX5_fork_255 : decode cX5_fork 255 = .ok (.iastore, 1) := by decide +kernel
theorem dX5_fork_256 : decode cX5_fork 256 = .ok (.aload_n 0, 1) := by decide +kernel
theorem dX5_fork_257 : decode cX5_fork 257 = .ok (.getfield 59, 3) := by decide +kernel
theorem dX5_fork_260 : decode cX5_fork 260 = .ok (.iload 5, 2) := by decide +kernel
theorem dX5_fork_262 : decode cX5_fork 262 = .ok (.aload_n 0, 1) := by decide +kernel
theorem dX5_fork_263 : decode cX5_fork 263 = .ok (.getfield 59, 3) := by decide +kernel
theorem dX5_fork_266 : decode cX5_fork 266 = .ok (.iload_n 1, 1) := by decide +kernel
theorem dX5_fork_267 : decode cX5_fork 267 = .ok (.iaload, 1) := by decide +kernel
theorem dX5_fork_268 : decode cX5_fork 268 = .ok (.iastore, 1) := by decide +kernel
theorem dX5_fork_269 : decode cX5_fork 269 = .ok (.iconst 0, 1) := by decide +kernel
theorem dX5_fork_270 : decode cX5_fork 270 = .ok (.istore 6, 2) := by decide +kernel
theorem dX5_fork_272 : decode cX5_fork 272 = .ok (.iload 6, 2) := by decide +kernel
theorem dX5_fork_274 : decode cX5_fork 274 = .ok (.bipush 8, 2) := by decide +kernel
theorem dX5_fork_276 : decode cX5_fork 276 = .ok (.if_icmp .ge 34, 3) := by decide +kernel
theorem dX5_fork_279 : decode cX5_fork 279 = .ok (.aload_n 0, 1) := by decide +kernel
theorem dX5_fork_280 : decode cX5_fork 280 = .ok (.getfield 62, 3) := by decide +kernel
theorem dX5_fork_283 : decode cX5_fork 283 = .ok (.bipush 8, 2) := by decide +kernel
theorem dX5_fork_285 : decode cX5_fork 285 = .ok (.iload 5, 2) := by decide +kernel
theorem dX5_fork_287 : decode cX5_fork 287 = .ok (.imul, 1) := by decide +kernel
theorem dX5_fork_288 : decode cX5_fork 288 = .ok (.iload 6, 2) := by decide +kernel
theorem dX5_fork_290 : decode cX5_fork 290 = .ok (.iadd, 1) := by decide +kernel
theorem dX5_fork_291 : decode cX5_fork 291 = .ok (.aload_n 0, 1) := by decide +kernel
theorem dX5_fork_292 : decode cX5_fork 292 = .ok (.getfield 62, 3) := by decide +kernel
theorem dX5_fork_295 : decode cX5_fork 295 = .ok (.bipush 8, 2) := by decide +kernel
theorem dX5_fork_297 : decode cX5_fork 297 = .ok (.iload_n 1, 1) := by decide +kernel
theorem dX5_fork_298 : decode cX5_fork 298 = .ok (.imul, 1) := by decide +kernel
theorem dX5_fork_299 : decode cX5_fork 299 = .ok (.iload 6, 2) := by decide +kernel
theorem dX5_fork_301 : decode cX5_fork 301 = .ok (.iadd, 1) := by decide +kernel
theorem dX5_fork_302 : decode cX5_fork 302 = .ok (.iaload, 1) := by decide +kernel
theorem dX5_fork_303 : decode cX5_fork 303 = .ok (.iastore, 1) := by decide +kernel
theorem dX5_fork_304 : decode cX5_fork 304 = .ok (.iinc 6 1, 3) := by decide +kernel
theorem dX5_fork_307 : decode cX5_fork 307 = .ok (.goto (-35), 3) := by decide +kernel
theorem dX5_fork_310 : decode cX5_fork 310 = .ok (.aload_n 0, 1) := by decide +kernel
theorem dX5_fork_311 : decode cX5_fork 311 = .ok (.getfield 65, 3) := by decide +kernel
theorem dX5_fork_314 : decode cX5_fork 314 = .ok (.iload 5, 2) := by decide +kernel
theorem dX5_fork_316 : decode cX5_fork 316 = .ok (.aload_n 0, 1) := by decide +kernel
theorem dX5_fork_317 : decode cX5_fork 317 = .ok (.getfield 65, 3) := by decide +kernel
theorem dX5_fork_320 : decode cX5_fork 320 = .ok (.iload_n 1, 1) := by decide +kernel
theorem dX5_fork_321 : decode cX5_fork 321 = .ok (.baload, 1) := by decide +kernel
theorem dX5_fork_322 : decode cX5_fork 322 = .ok (.bastore, 1) := by decide +kernel
theorem dX5_fork_323 : decode cX5_fork 323 = .ok (.aload_n 0, 1) := by decide +kernel
theorem dX5_fork_324 : decode cX5_fork 324 = .ok (.getfield 68, 3) := by decide +kernel
theorem dX5_fork_327 : decode cX5_fork 327 = .ok (.iload 5, 2) := by decide +kernel
theorem dX5_fork_329 : decode cX5_fork 329 = .ok (.aload_n 0, 1) := by decide +kernel
theorem dX5_fork_330 : decode cX5_fork 330 = .ok (.getfield 68, 3) := by decide +kernel
theorem dX5_fork_333 : decode cX5_fork 333 = .ok (.iload_n 1, 1) := by decide +kernel
theorem dX5_fork_334 : decode cX5_fork 334 = .ok (.baload, 1) := by decide +kernel
theorem dX5_fork_335 : decode cX5_fork 335 = .ok (.bastore, 1) := by decide +kernel
theorem dX5_fork_336 : decode cX5_fork 336 = .ok (.aload_n 0, 1) := by decide +kernel
theorem dX5_fork_337 : decode cX5_fork 337 = .ok (.iload 5, 2) := by decide +kernel
theorem dX5_fork_339 : decode cX5_fork 339 = .ok (.iload_n 2, 1) := by decide +kernel
theorem dX5_fork_340 : decode cX5_fork 340 = .ok (.iload_n 2, 1) := by decide +kernel
theorem dX5_fork_341 : decode cX5_fork 341 = .ok (.ifCond .ne 7, 3) := by decide +kernel
theorem dX5_fork_344 : decode cX5_fork 344 = .ok (.iconst 0, 1) := by decide +kernel
theorem dX5_fork_345 : decode cX5_fork 345 = .ok (.goto 17, 3) := by decide +kernel
theorem dX5_fork_348 : decode cX5_fork 348 = .ok (.aload_n 0, 1) := by decide +kernel
theorem dX5_fork_349 : decode cX5_fork 349 = .ok (.getfield 43, 3) := by decide +kernel
theorem dX5_fork_352 : decode cX5_fork 352 = .ok (.bipush 16, 2) := by decide +kernel
theorem dX5_fork_354 : decode cX5_fork 354 = .ok (.iload 5, 2) := by decide +kernel
theorem dX5_fork_356 : decode cX5_fork 356 = .ok (.imul, 1) := by decide +kernel
theorem dX5_fork_357 : decode cX5_fork 357 = .ok (.iload_n 2, 1) := by decide +kernel
theorem dX5_fork_358 : decode cX5_fork 358 = .ok (.iadd, 1) := by decide +kernel
theorem dX5_fork_359 : decode cX5_fork 359 = .ok (.iconst 1, 1) := by decide +kernel
theorem dX5_fork_360 : decode cX5_fork 360 = .ok (.isub, 1) := by decide +kernel
theorem dX5_fork_361 : decode cX5_fork 361 = .ok (.iaload, 1) := by decide +kernel
theorem dX5_fork_362 : decode cX5_fork 362 = .ok (.iload_n 3, 1) := by decide +kernel
theorem dX5_fork_363 : decode cX5_fork 363 = .ok (.iload 4, 2) := by decide +kernel
theorem dX5_fork_365 : decode cX5_fork 365 = .ok (.aload_n 0, 1) := by decide +kernel
theorem dX5_fork_366 : decode cX5_fork 366 = .ok (.getfield 37, 3) := by decide +kernel
theorem dX5_fork_369 : decode cX5_fork 369 = .ok (.iload 5, 2) := by decide +kernel
theorem dX5_fork_371 : decode cX5_fork 371 = .ok (.iaload, 1) := by decide +kernel
theorem dX5_fork_372 : decode cX5_fork 372 = .ok (.invokevirtual 134, 3) := by decide +kernel
theorem dX5_fork_375 : decode cX5_fork 375 = .ok (.aload_n 0, 1) := by decide +kernel
theorem dX5_fork_376 : decode cX5_fork 376 = .ok (.iload 5, 2) := by decide +kernel
theorem dX5_fork_378 : decode cX5_fork 378 = .ok (.iload_n 2, 1) := by decide +kernel
theorem dX5_fork_379 : decode cX5_fork 379 = .ok (.invokevirtual 138, 3) := by decide +kernel
theorem dX5_fork_382 : decode cX5_fork 382 = .ok (.iload 5, 2) := by decide +kernel
theorem dX5_fork_384 : decode cX5_fork 384 = .ok (.ireturn, 1) := by decide +kernel
theorem dX5_isOtherWord_0 : decode cX5_isOtherWord 0 = .ok (.aload_n 0, 1) := by decide +kernel
theorem dX5_isOtherWord_1 : decode cX5_isOtherWord 1 = .ok (.getfield 59, 3) := by decide +kernel
theorem dX5_isOtherWord_4 : decode cX5_isOtherWord 4 = .ok (.iload_n 1, 1) := by decide +kernel
theorem dX5_isOtherWord_5 : decode cX5_isOtherWord 5 = .ok (.iaload, 1) := by decide +kernel
theorem dX5_isOtherWord_6 : decode cX5_isOtherWord 6 = .ok (.iload_n 2, 1) := by decide +kernel
theorem dX5_isOtherWord_7 : decode cX5_isOtherWord 7 = .ok (.ishr, 1) := by decide +kernel
theorem dX5_isOtherWord_8 : decode cX5_isOtherWord 8 = .ok (.iconst 1, 1) := by decide +kernel
theorem dX5_isOtherWord_9 : decode cX5_isOtherWord 9 = .ok (.iand, 1) := by decide +kernel
theorem dX5_isOtherWord_10 : decode cX5_isOtherWord 10 = .ok (.iconst 1, 1) := by decide +kernel
theorem dX5_isOtherWord_11 : decode cX5_isOtherWord 11 = .ok (.if_icmp .ne 27, 3) := by decide +kernel
theorem dX5_isOtherWord_14 : decode cX5_isOtherWord 14 = .ok (.aload_n 0, 1) := by decide +kernel
theorem dX5_isOtherWord_15 : decode cX5_isOtherWord 15 = .ok (.getfield 62, 3) := by decide +kernel
theorem dX5_isOtherWord_18 : decode cX5_isOtherWord 18 = .ok (.bipush 8, 2) := by decide +kernel
theorem dX5_isOtherWord_20 : decode cX5_isOtherWord 20 = .ok (.iload_n 1, 1) := by decide +kernel
theorem dX5_isOtherWord_21 : decode cX5_isOtherWord 21 = .ok (.imul, 1) := by decide +kernel
theorem dX5_isOtherWord_22 : decode cX5_isOtherWord 22 = .ok (.iload_n 2, 1) := by decide +kernel
theorem dX5_isOtherWord_23 : decode cX5_isOtherWord 23 = .ok (.iadd, 1) := by decide +kernel
theorem dX5_isOtherWord_24 : decode cX5_isOtherWord 24 = .ok (.iaload, 1) := by decide +kernel
theorem dX5_isOtherWord_25 : decode cX5_isOtherWord 25 = .ok (.aload_n 0, 1) := by decide +kernel
theorem dX5_isOtherWord_26 : decode cX5_isOtherWord 26 = .ok (.getfield 16, 3) := by decide +kernel
theorem dX5_isOtherWord_29 : decode cX5_isOtherWord 29 = .ok (.iload_n 2, 1) := by decide +kernel
theorem dX5_isOtherWord_30 : decode cX5_isOtherWord 30 = .ok (.iaload, 1) := by decide +kernel
theorem dX5_isOtherWord_31 : decode cX5_isOtherWord 31 = .ok (.if_icmp .eq 7, 3) := by decide +kernel
theorem dX5_isOtherWord_34 : decode cX5_isOtherWord 34 = .ok (.iconst 1, 1) := by decide +kernel
theorem dX5_isOtherWord_35 : decode cX5_isOtherWord 35 = .ok (.goto 4, 3) := by decide +kernel
theorem dX5_isOtherWord_38 : decode cX5_isOtherWord 38 = .ok (.iconst 0, 1) := by decide +kernel
theorem dX5_isOtherWord_39 : decode cX5_isOtherWord 39 = .ok (.ireturn, 1) := by decide +kernel
theorem dX5_isCodeOf_0 : decode cX5_isCodeOf 0 = .ok (.aload_n 0, 1) := by decide +kernel
theorem dX5_isCodeOf_1 : decode cX5_isCodeOf 1 = .ok (.getfield 25, 3) := by decide +kernel
theorem dX5_isCodeOf_4 : decode cX5_isCodeOf 4 = .ok (.iload_n 1, 1) := by decide +kernel
theorem dX5_isCodeOf_5 : decode cX5_isCodeOf 5 = .ok (.iaload, 1) := by decide +kernel
theorem dX5_isCodeOf_6 : decode cX5_isCodeOf 6 = .ok (.aload_n 0, 1) := by decide +kernel
theorem dX5_isCodeOf_7 : decode cX5_isCodeOf 7 = .ok (.getfield 7, 3) := by decide +kernel
theorem dX5_isCodeOf_10 : decode cX5_isCodeOf 10 = .ok (.iload_n 2, 1) := by decide +kernel
theorem dX5_isCodeOf_11 : decode cX5_isCodeOf 11 = .ok (.iaload, 1) := by decide +kernel
theorem dX5_isCodeOf_12 : decode cX5_isCodeOf 12 = .ok (.if_icmp .eq 5, 3) := by decide +kernel
theorem dX5_isCodeOf_15 : decode cX5_isCodeOf 15 = .ok (.iconst 0, 1) := by decide +kernel
theorem dX5_isCodeOf_16 : decode cX5_isCodeOf 16 = .ok (.ireturn, 1) := by decide +kernel
theorem dX5_isCodeOf_17 : decode cX5_isCodeOf 17 = .ok (.iconst 0, 1) := by decide +kernel
theorem dX5_isCodeOf_18 : decode cX5_isCodeOf 18 = .ok (.istore_n 3, 1) := by decide +kernel
theorem dX5_isCodeOf_19 : decode cX5_isCodeOf 19 = .ok (.iload_n 3, 1) := by decide +kernel
theorem dX5_isCodeOf_20 : decode cX5_isCodeOf 20 = .ok (.aload_n 0, 1) := by decide +kernel
theorem dX5_isCodeOf_21 : decode cX5_isCodeOf 21 = .ok (.getfield 25, 3) := by decide +kernel
theorem dX5_isCodeOf_24 : decode cX5_isCodeOf 24 = .ok (.iload_n 1, 1) := by decide +kernel
theorem dX5_isCodeOf_25 : decode cX5_isCodeOf 25 = .ok (.iaload, 1) := by decide +kernel
theorem dX5_isCodeOf_26 : decode cX5_isCodeOf 26 = .ok (.if_icmp .ge 36, 3) := by decide +kernel
theorem dX5_isCodeOf_29 : decode cX5_isCodeOf 29 = .ok (.aload_n 0, 1) := by decide +kernel
theorem dX5_isCodeOf_30 : decode cX5_isCodeOf 30 = .ok (.getfield 28, 3) := by decide +kernel
theorem dX5_isCodeOf_33 : decode cX5_isCodeOf 33 = .ok (.bipush 8, 2) := by decide +kernel
theorem dX5_isCodeOf_35 : decode cX5_isCodeOf 35 = .ok (.iload_n 1, 1) := by decide +kernel
theorem dX5_isCodeOf_36 : decode cX5_isCodeOf 36 = .ok (.imul, 1) := by decide +kernel
theorem dX5_isCodeOf_37 : decode cX5_isCodeOf 37 = .ok (.iload_n 3, 1) := by decide +kernel
theorem dX5_isCodeOf_38 : decode cX5_isCodeOf 38 = .ok (.iadd, 1) := by decide +kernel
theorem dX5_isCodeOf_39 : decode cX5_isCodeOf 39 = .ok (.iaload, 1) := by decide +kernel
theorem dX5_isCodeOf_40 : decode cX5_isCodeOf 40 = .ok (.aload_n 0, 1) := by decide +kernel
theorem dX5_isCodeOf_41 : decode cX5_isCodeOf 41 = .ok (.getfield 13, 3) := by decide +kernel
theorem dX5_isCodeOf_44 : decode cX5_isCodeOf 44 = .ok (.bipush 8, 2) := by decide +kernel
theorem dX5_isCodeOf_46 : decode cX5_isCodeOf 46 = .ok (.iload_n 2, 1) := by decide +kernel
theorem dX5_isCodeOf_47 : decode cX5_isCodeOf 47 = .ok (.imul, 1) := by decide +kernel
theorem dX5_isCodeOf_48 : decode cX5_isCodeOf 48 = .ok (.iload_n 3, 1) := by decide +kernel
theorem dX5_isCodeOf_49 : decode cX5_isCodeOf 49 = .ok (.iadd, 1) := by decide +kernel
theorem dX5_isCodeOf_50 : decode cX5_isCodeOf 50 = .ok (.iaload, 1) := by decide +kernel
theorem dX5_isCodeOf_51 : decode cX5_isCodeOf 51 = .ok (.if_icmp .eq 5, 3) := by decide +kernel
theorem dX5_isCodeOf_54 : decode cX5_isCodeOf 54 = .ok (.iconst 0, 1) := by decide +kernel
theorem dX5_isCodeOf_55 : decode cX5_isCodeOf 55 = .ok (.ireturn, 1) := by decide +kernel
theorem dX5_isCodeOf_56 : decode cX5_isCodeOf 56 = .ok (.iinc 3 1, 3) := by decide +kernel
theorem dX5_isCodeOf_59 : decode cX5_isCodeOf 59 = .ok (.goto (-40), 3) := by decide +kernel
theorem dX5_isCodeOf_62 : decode cX5_isCodeOf 62 = .ok (.iconst 1, 1) := by decide +kernel
theorem dX5_isCodeOf_63 : decode cX5_isCodeOf 63 = .ok (.ireturn, 1) := by decide +kernel
theorem dX5_isStale_0 : decode cX5_isStale 0 = .ok (.aload_n 0, 1) := by decide +kernel
theorem dX5_isStale_1 : decode cX5_isStale 1 = .ok (.iload_n 1, 1) := by decide +kernel
theorem dX5_isStale_2 : decode cX5_isStale 2 = .ok (.aload_n 0, 1) := by decide +kernel
theorem dX5_isStale_3 : decode cX5_isStale 3 = .ok (.getfield 22, 3) := by decide +kernel
theorem dX5_isStale_6 : decode cX5_isStale 6 = .ok (.iload_n 1, 1) := by decide +kernel
theorem dX5_isStale_7 : decode cX5_isStale 7 = .ok (.iaload, 1) := by decide +kernel
theorem dX5_isStale_8 : decode cX5_isStale 8 = .ok (.invokevirtual 145, 3) := by decide +kernel
theorem dX5_isStale_11 : decode cX5_isStale 11 = .ok (.ifCond .ne 5, 3) := by decide +kernel
theorem dX5_isStale_14 : decode cX5_isStale 14 = .ok (.iconst 1, 1) := by decide +kernel
theorem dX5_isStale_15 : decode cX5_isStale 15 = .ok (.ireturn, 1) := by decide +kernel
theorem dX5_isStale_16 : decode cX5_isStale 16 = .ok (.iconst 0, 1) := by decide +kernel
theorem dX5_isStale_17 : decode cX5_isStale 17 = .ok (.istore_n 2, 1) := by decide +kernel
theorem dX5_isStale_18 : decode cX5_isStale 18 = .ok (.iload_n 2, 1) := by decide +kernel
theorem dX5_isStale_19 : decode cX5_isStale 19 = .ok (.bipush 8, 2) := by decide +kernel
theorem dX5_isStale_21 : decode cX5_isStale 21 = .ok (.if_icmp .ge 20, 3) := by decide +kernel
theorem dX5_isStale_24 : decode cX5_isStale 24 = .ok (.aload_n 0, 1) := by decide +kernel
theorem dX5_isStale_25 : decode cX5_isStale 25 = .ok (.iload_n 1, 1) := by decide +kernel
theorem dX5_isStale_26 : decode cX5_isStale 26 = .ok (.iload_n 2, 1) := by decide +kernel
theorem dX5_isStale_27 : decode cX5_isStale 27 = .ok (.invokevirtual 149, 3) := by decide +kernel
theorem dX5_isStale_30 : decode cX5_isStale 30 = .ok (.ifCond .eq 5, 3) := by decide +kernel
theorem dX5_isStale_33 : decode cX5_isStale 33 = .ok (.iconst 1, 1) := by decide +kernel
theorem dX5_isStale_34 : decode cX5_isStale 34 = .ok (.ireturn, 1) := by decide +kernel
theorem dX5_isStale_35 : decode cX5_isStale 35 = .ok (.iinc 2 1, 3) := by decide +kernel
theorem dX5_isStale_38 : decode cX5_isStale 38 = .ok (.goto (-20), 3) := by decide +kernel
theorem dX5_isStale_41 : decode cX5_isStale 41 = .ok (.iconst 0, 1) := by decide +kernel
theorem dX5_isStale_42 : decode cX5_isStale 42 = .ok (.ireturn, 1) := by decide +kernel
theorem dX5_of_0 : decode cX5_of 0 = .ok (.aload_n 0, 1) := by decide +kernel
theorem dX5_of_1 : decode cX5_of 1 = .ok (.iconst 0, 1) := by decide +kernel
theorem dX5_of_2 : decode cX5_of 2 = .ok (.putfield 77, 3) := by decide +kernel
theorem dX5_of_5 : decode cX5_of 5 = .ok (.aload_n 0, 1) := by decide +kernel
theorem dX5_of_6 : decode cX5_of 6 = .ok (.iload_n 1, 1) := by decide +kernel
theorem dX5_of_7 : decode cX5_of 7 = .ok (.invokevirtual 142, 3) := by decide +kernel
theorem dX5_of_10 : decode cX5_of 10 = .ok (.ifCond .ne 5, 3) := by decide +kernel
theorem dX5_of_13 : decode cX5_of 13 = .ok (.iconst (-1), 1) := by decide +kernel
theorem dX5_of_14 : decode cX5_of 14 = .ok (.ireturn, 1) := by decide +kernel
theorem dX5_of_15 : decode cX5_of 15 = .ok (.iload_n 2, 1) := by decide +kernel
theorem dX5_of_16 : decode cX5_of 16 = .ok (.ifCond .ne 10, 3) := by decide +kernel
theorem dX5_of_19 : decode cX5_of 19 = .ok (.aload_n 0, 1) := by decide +kernel
theorem dX5_of_20 : decode cX5_of 20 = .ok (.getfield 22, 3) := by decide +kernel
theorem dX5_of_23 : decode cX5_of 23 = .ok (.iload_n 1, 1) := by decide +kernel
theorem dX5_of_24 : decode cX5_of 24 = .ok (.iaload, 1) := by decide +kernel
theorem dX5_of_25 : decode cX5_of 25 = .ok (.ireturn, 1) := by decide +kernel
theorem dX5_of_26 : decode cX5_of 26 = .ok (.iload_n 2, 1) := by decide +kernel
theorem dX5_of_27 : decode cX5_of 27 = .ok (.iconst 1, 1) := by decide +kernel
theorem dX5_of_28 : decode cX5_of 28 = .ok (.if_icmp .ne 10, 3) := by decide +kernel
theorem dX5_of_31 : decode cX5_of 31 = .ok (.aload_n 0, 1) := by decide +kernel
theorem dX5_of_32 : decode cX5_of 32 = .ok (.getfield 31, 3) := by decide +kernel
theorem dX5_of_35 : decode cX5_of 35 = .ok (.iload_n 1, 1) := by decide +kernel
theorem dX5_of_36 : decode cX5_of 36 = .ok (.iaload, 1) := by decide +kernel
theorem dX5_of_37 : decode cX5_of 37 = .ok (.ireturn, 1) := by decide +kernel
theorem dX5_of_38 : decode cX5_of 38 = .ok (.iload_n 2, 1) := by decide +kernel
theorem dX5_of_39 : decode cX5_of 39 = .ok (.iconst 2, 1) := by decide +kernel
theorem dX5_of_40 : decode cX5_of 40 = .ok (.if_icmp .ne 10, 3) := by decide +kernel
theorem dX5_of_43 : decode cX5_of 43 = .ok (.aload_n 0, 1) := by decide +kernel
theorem dX5_of_44 : decode cX5_of 44 = .ok (.getfield 34, 3) := by decide +kernel
theorem dX5_of_47 : decode cX5_of 47 = .ok (.iload_n 1, 1) := by decide +kernel
theorem dX5_of_48 : decode cX5_of 48 = .ok (.iaload, 1) := by decide +kernel
theorem dX5_of_49 : decode cX5_of 49 = .ok (.ireturn, 1) := by decide +kernel
theorem dX5_of_50 : decode cX5_of 50 = .ok (.iload_n 2, 1) := by decide +kernel
theorem dX5_of_51 : decode cX5_of 51 = .ok (.iconst 3, 1) := by decide +kernel
theorem dX5_of_52 : decode cX5_of 52 = .ok (.if_icmp .ne 10, 3) := by decide +kernel
theorem dX5_of_55 : decode cX5_of 55 = .ok (.aload_n 0, 1) := by decide +kernel
theorem dX5_of_56 : decode cX5_of 56 = .ok (.getfield 37, 3) := by decide +kernel
theorem dX5_of_59 : decode cX5_of 59 = .ok (.iload_n 1, 1) := by decide +kernel
theorem dX5_of_60 : decode cX5_of 60 = .ok (.iaload, 1) := by decide +kernel
theorem dX5_of_61 : decode cX5_of 61 = .ok (.ireturn, 1) := by decide +kernel
theorem dX5_of_62 : decode cX5_of 62 = .ok (.iload_n 2, 1) := by decide +kernel
theorem dX5_of_63 : decode cX5_of 63 = .ok (.iconst 4, 1) := by decide +kernel
theorem dX5_of_64 : decode cX5_of 64 = .ok (.if_icmp .ne 10, 3) := by decide +kernel
theorem dX5_of_67 : decode cX5_of 67 = .ok (.aload_n 0, 1) := by decide +kernel
theorem dX5_of_68 : decode cX5_of 68 = .ok (.getfield 40, 3) := by decide +kernel
theorem dX5_of_71 : decode cX5_of 71 = .ok (.iload_n 1, 1) := by decide +kernel
theorem dX5_of_72 : decode cX5_of 72 = .ok (.iaload, 1) := by decide +kernel
theorem dX5_of_73 : decode cX5_of 73 = .ok (.ireturn, 1) := by decide +kernel
theorem dX5_of_74 : decode cX5_of 74 = .ok (.iload_n 2, 1) := by decide +kernel
theorem dX5_of_75 : decode cX5_of 75 = .ok (.iconst 5, 1) := by decide +kernel
theorem dX5_of_76 : decode cX5_of 76 = .ok (.if_icmp .ne 18, 3) := by decide +kernel
theorem dX5_of_79 : decode cX5_of 79 = .ok (.aload_n 0, 1) := by decide +kernel
theorem dX5_of_80 : decode cX5_of 80 = .ok (.getfield 46, 3) := by decide +kernel
theorem dX5_of_83 : decode cX5_of 83 = .ok (.iload_n 1, 1) := by decide +kernel
theorem dX5_of_84 : decode cX5_of 84 = .ok (.baload, 1) := by decide +kernel
theorem dX5_of_85 : decode cX5_of 85 = .ok (.ifCond .eq 7, 3) := by decide +kernel
theorem dX5_of_88 : decode cX5_of 88 = .ok (.iconst 1, 1) := by decide +kernel
theorem dX5_of_89 : decode cX5_of 89 = .ok (.goto 4, 3) := by decide +kernel
theorem dX5_of_92 : decode cX5_of 92 = .ok (.iconst 0, 1) := by decide +kernel
theorem dX5_of_93 : decode cX5_of 93 = .ok (.ireturn, 1) := by decide +kernel
theorem dX5_of_94 : decode cX5_of 94 = .ok (.iload_n 2, 1) := by decide +kernel
theorem dX5_of_95 : decode cX5_of 95 = .ok (.bipush 6, 2) := by decide +kernel
theorem dX5_of_97 : decode cX5_of 97 = .ok (.if_icmp .ne 10, 3) := by decide +kernel
theorem dX5_of_100 : decode cX5_of 100 = .ok (.aload_n 0, 1) := by decide +kernel
theorem dX5_of_101 : decode cX5_of 101 = .ok (.getfield 50, 3) := by decide +kernel
theorem dX5_of_104 : decode cX5_of 104 = .ok (.iload_n 1, 1) := by decide +kernel
theorem dX5_of_105 : decode cX5_of 105 = .ok (.iaload, 1) := by decide +kernel
theorem dX5_of_106 : decode cX5_of 106 = .ok (.ireturn, 1) := by decide +kernel
theorem dX5_of_107 : decode cX5_of 107 = .ok (.iload_n 2, 1) := by decide +kernel
theorem dX5_of_108 : decode cX5_of 108 = .ok (.bipush 7, 2) := by decide +kernel
theorem dX5_of_110 : decode cX5_of 110 = .ok (.if_icmp .ne 10, 3) := by decide +kernel
theorem dX5_of_113 : decode cX5_of 113 = .ok (.aload_n 0, 1) := by decide +kernel
theorem dX5_of_114 : decode cX5_of 114 = .ok (.getfield 53, 3) := by decide +kernel
theorem dX5_of_117 : decode cX5_of 117 = .ok (.iload_n 1, 1) := by decide +kernel
theorem dX5_of_118 : decode cX5_of 118 = .ok (.iaload, 1) := by decide +kernel
theorem dX5_of_119 : decode cX5_of 119 = .ok (.ireturn, 1) := by decide +kernel
theorem dX5_of_120 : decode cX5_of 120 = .ok (.iload_n 2, 1) := by decide +kernel
theorem dX5_of_121 : decode cX5_of 121 = .ok (.bipush 8, 2) := by decide +kernel
theorem dX5_of_123 : decode cX5_of 123 = .ok (.if_icmp .ne 10, 3) := by decide +kernel
theorem dX5_of_126 : decode cX5_of 126 = .ok (.aload_n 0, 1) := by decide +kernel
theorem dX5_of_127 : decode cX5_of 127 = .ok (.getfield 56, 3) := by decide +kernel
theorem dX5_of_130 : decode cX5_of 130 = .ok (.iload_n 1, 1) := by decide +kernel
theorem dX5_of_131 : decode cX5_of 131 = .ok (.iaload, 1) := by decide +kernel
theorem dX5_of_132 : decode cX5_of 132 = .ok (.ireturn, 1) := by decide +kernel
theorem dX5_of_133 : decode cX5_of 133 = .ok (.iload_n 2, 1) := by decide +kernel
theorem dX5_of_134 : decode cX5_of 134 = .ok (.bipush 9, 2) := by decide +kernel
theorem dX5_of_136 : decode cX5_of 136 = .ok (.if_icmp .ne 10, 3) := by decide +kernel
theorem dX5_of_139 : decode cX5_of 139 = .ok (.aload_n 0, 1) := by decide +kernel
theorem dX5_of_140 : decode cX5_of 140 = .ok (.getfield 59, 3) := by decide +kernel
theorem dX5_of_143 : decode cX5_of 143 = .ok (.iload_n 1, 1) := by decide +kernel
theorem dX5_of_144 : decode cX5_of 144 = .ok (.iaload, 1) := by decide +kernel
theorem dX5_of_145 : decode cX5_of 145 = .ok (.ireturn, 1) := by decide +kernel
theorem dX5_of_146 : decode cX5_of 146 = .ok (.iload_n 2, 1) := by decide +kernel
theorem dX5_of_147 : decode cX5_of 147 = .ok (.bipush 10, 2) := by decide +kernel
theorem dX5_of_149 : decode cX5_of 149 = .ok (.if_icmp .ne 18, 3) := by decide +kernel
theorem dX5_of_152 : decode cX5_of 152 = .ok (.aload_n 0, 1) := by decide +kernel
theorem dX5_of_153 : decode cX5_of 153 = .ok (.getfield 65, 3) := by decide +kernel
theorem dX5_of_156 : decode cX5_of 156 = .ok (.iload_n 1, 1) := by decide +kernel
theorem dX5_of_157 : decode cX5_of 157 = .ok (.baload, 1) := by decide +kernel
theorem dX5_of_158 : decode cX5_of 158 = .ok (.ifCond .eq 7, 3) := by decide +kernel
theorem dX5_of_161 : decode cX5_of 161 = .ok (.iconst 1, 1) := by decide +kernel
theorem dX5_of_162 : decode cX5_of 162 = .ok (.goto 4, 3) := by decide +kernel
theorem dX5_of_165 : decode cX5_of 165 = .ok (.iconst 0, 1) := by decide +kernel
theorem dX5_of_166 : decode cX5_of 166 = .ok (.ireturn, 1) := by decide +kernel
theorem dX5_of_167 : decode cX5_of 167 = .ok (.iload_n 2, 1) := by decide +kernel
theorem dX5_of_168 : decode cX5_of 168 = .ok (.bipush 11, 2) := by decide +kernel
theorem dX5_of_170 : decode cX5_of 170 = .ok (.if_icmp .ne 18, 3) := by decide +kernel
theorem dX5_of_173 : decode cX5_of 173 = .ok (.aload_n 0, 1) := by decide +kernel
theorem dX5_of_174 : decode cX5_of 174 = .ok (.getfield 68, 3) := by decide +kernel
theorem dX5_of_177 : decode cX5_of 177 = .ok (.iload_n 1, 1) := by decide +kernel
theorem dX5_of_178 : decode cX5_of 178 = .ok (.baload, 1) := by decide +kernel
theorem dX5_of_179 : decode cX5_of 179 = .ok (.ifCond .eq 7, 3) := by decide +kernel
theorem dX5_of_182 : decode cX5_of 182 = .ok (.iconst 1, 1) := by decide +kernel
theorem dX5_of_183 : decode cX5_of 183 = .ok (.goto 4, 3) := by decide +kernel
theorem dX5_of_186 : decode cX5_of 186 = .ok (.iconst 0, 1) := by decide +kernel
theorem dX5_of_187 : decode cX5_of 187 = .ok (.ireturn, 1) := by decide +kernel
theorem dX5_of_188 : decode cX5_of 188 = .ok (.iload_n 2, 1) := by decide +kernel
theorem dX5_of_189 : decode cX5_of 189 = .ok (.bipush 12, 2) := by decide +kernel
theorem dX5_of_191 : decode cX5_of 191 = .ok (.if_icmp .ne 17, 3) := by decide +kernel
theorem dX5_of_194 : decode cX5_of 194 = .ok (.aload_n 0, 1) := by decide +kernel
theorem dX5_of_195 : decode cX5_of 195 = .ok (.iload_n 1, 1) := by decide +kernel
theorem dX5_of_196 : decode cX5_of 196 = .ok (.invokevirtual 152, 3) := by decide +kernel
theorem dX5_of_199 : decode cX5_of 199 = .ok (.ifCond .eq 7, 3) := by decide +kernel
theorem dX5_of_202 : decode cX5_of 202 = .ok (.iconst 1, 1) := by decide +kernel
theorem dX5_of_203 : decode cX5_of 203 = .ok (.goto 4, 3) := by decide +kernel
theorem dX5_of_206 : decode cX5_of 206 = .ok (.iconst 0, 1) := by decide +kernel
theorem dX5_of_207 : decode cX5_of 207 = .ok (.ireturn, 1) := by decide +kernel
theorem dX5_of_208 : decode cX5_of 208 = .ok (.iload_n 2, 1) := by decide +kernel
theorem dX5_of_209 : decode cX5_of 209 = .ok (.bipush 100, 2) := by decide +kernel
theorem dX5_of_211 : decode cX5_of 211 = .ok (.if_icmp .lt 33, 3) := by decide +kernel
theorem dX5_of_214 : decode cX5_of 214 = .ok (.iload_n 2, 1) := by decide +kernel
theorem dX5_of_215 : decode cX5_of 215 = .ok (.bipush 100, 2) := by decide +kernel
theorem dX5_of_217 : decode cX5_of 217 = .ok (.isub, 1) := by decide +kernel
theorem dX5_of_218 : decode cX5_of 218 = .ok (.aload_n 0, 1) := by decide +kernel
theorem dX5_of_219 : decode cX5_of 219 = .ok (.getfield 40, 3) := by decide +kernel
theorem dX5_of_222 : decode cX5_of 222 = .ok (.iload_n 1, 1) := by decide +kernel
theorem dX5_of_223 : decode cX5_of 223 = .ok (.iaload, 1) := by decide +kernel
theorem dX5_of_224 : decode cX5_of 224 = .ok (.if_icmp .ge 20, 3) := by decide +kernel
theorem dX5_of_227 : decode cX5_of 227 = .ok (.aload_n 0, 1) := by decide +kernel
theorem dX5_of_228 : decode cX5_of 228 = .ok (.getfield 43, 3) := by decide +kernel
theorem dX5_of_231 : decode cX5_of 231 = .ok (.bipush 16, 2) := by decide +kernel
theorem dX5_of_233 : decode cX5_of 233 = .ok (.iload_n 1, 1) := by decide +kernel
theorem dX5_of_234 : decode cX5_of 234 = .ok (.imul, 1) := by decide +kernel
theorem dX5_of_235 : decode cX5_of 235 = .ok (.iload_n 2, 1) := by decide +kernel
theorem dX5_of_236 : decode cX5_of 236 = .ok (.iadd, 1) := by decide +kernel
