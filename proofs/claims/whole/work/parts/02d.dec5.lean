theorem dX5_of_237 : decode cX5_of 237 = .ok (.bipush 100, 2) := by decide +kernel
theorem dX5_of_239 : decode cX5_of 239 = .ok (.isub, 1) := by decide +kernel
theorem dX5_of_240 : decode cX5_of 240 = .ok (.iaload, 1) := by decide +kernel
theorem dX5_of_241 : decode cX5_of 241 = .ok (.goto 4, 3) := by decide +kernel
theorem dX5_of_244 : decode cX5_of 244 = .ok (.iconst (-1), 1) := by decide +kernel
theorem dX5_of_245 : decode cX5_of 245 = .ok (.ireturn, 1) := by decide +kernel
theorem dX5_clock_0 : decode cX5_clock 0 = .ok (.aload_n 0, 1) := by decide +kernel
theorem dX5_clock_1 : decode cX5_clock 1 = .ok (.iconst 0, 1) := by decide +kernel
theorem dX5_clock_2 : decode cX5_clock 2 = .ok (.putfield 77, 3) := by decide +kernel
theorem dX5_clock_5 : decode cX5_clock 5 = .ok (.aload_n 0, 1) := by decide +kernel
theorem dX5_clock_6 : decode cX5_clock 6 = .ok (.getfield 109, 3) := by decide +kernel
theorem dX5_clock_9 : decode cX5_clock 9 = .ok (.ireturn, 1) := by decide +kernel
theorem dX5_runs_0 : decode cX5_runs 0 = .ok (.aload_n 0, 1) := by decide +kernel
theorem dX5_runs_1 : decode cX5_runs 1 = .ok (.iconst 0, 1) := by decide +kernel
theorem dX5_runs_2 : decode cX5_runs 2 = .ok (.putfield 77, 3) := by decide +kernel
theorem dX5_runs_5 : decode cX5_runs 5 = .ok (.aload_n 0, 1) := by decide +kernel
theorem dX5_runs_6 : decode cX5_runs 6 = .ok (.getfield 90, 3) := by decide +kernel
theorem dX5_runs_9 : decode cX5_runs 9 = .ok (.ireturn, 1) := by decide +kernel
theorem dX5_again_0 : decode cX5_again 0 = .ok (.aload_n 0, 1) := by decide +kernel
theorem dX5_again_1 : decode cX5_again 1 = .ok (.iconst 0, 1) := by decide +kernel
theorem dX5_again_2 : decode cX5_again 2 = .ok (.putfield 77, 3) := by decide +kernel
theorem dX5_again_5 : decode cX5_again 5 = .ok (.aload_n 0, 1) := by decide +kernel
theorem dX5_again_6 : decode cX5_again 6 = .ok (.iload_n 1, 1) := by decide +kernel
theorem dX5_again_7 : decode cX5_again 7 = .ok (.invokevirtual 142, 3) := by decide +kernel
theorem dX5_again_10 : decode cX5_again 10 = .ok (.ifCond .ne 5, 3) := by decide +kernel
theorem dX5_again_13 : decode cX5_again 13 = .ok (.iconst (-1), 1) := by decide +kernel
theorem dX5_again_14 : decode cX5_again 14 = .ok (.ireturn, 1) := by decide +kernel
theorem dX5_again_15 : decode cX5_again 15 = .ok (.aload_n 0, 1) := by decide +kernel
theorem dX5_again_16 : decode cX5_again 16 = .ok (.aload_n 0, 1) := by decide +kernel
theorem dX5_again_17 : decode cX5_again 17 = .ok (.getfield 109, 3) := by decide +kernel
theorem dX5_again_20 : decode cX5_again 20 = .ok (.iconst 1, 1) := by decide +kernel
theorem dX5_again_21 : decode cX5_again 21 = .ok (.iadd, 1) := by decide +kernel
theorem dX5_again_22 : decode cX5_again 22 = .ok (.putfield 109, 3) := by decide +kernel
theorem dX5_again_25 : decode cX5_again 25 = .ok (.aload_n 0, 1) := by decide +kernel
theorem dX5_again_26 : decode cX5_again 26 = .ok (.getfield 53, 3) := by decide +kernel
theorem dX5_again_29 : decode cX5_again 29 = .ok (.iload_n 1, 1) := by decide +kernel
theorem dX5_again_30 : decode cX5_again 30 = .ok (.iaload, 1) := by decide +kernel
theorem dX5_again_31 : decode cX5_again 31 = .ok (.iconst (-1), 1) := by decide +kernel
theorem dX5_again_32 : decode cX5_again 32 = .ok (.if_icmp .ne 7, 3) := by decide +kernel
theorem dX5_again_35 : decode cX5_again 35 = .ok (.iconst 0, 1) := by decide +kernel
theorem dX5_again_36 : decode cX5_again 36 = .ok (.goto 9, 3) := by decide +kernel
theorem dX5_again_39 : decode cX5_again 39 = .ok (.aload_n 0, 1) := by decide +kernel
theorem dX5_again_40 : decode cX5_again 40 = .ok (.getfield 53, 3) := by decide +kernel
theorem dX5_again_43 : decode cX5_again 43 = .ok (.iload_n 1, 1) := by decide +kernel
theorem dX5_again_44 : decode cX5_again 44 = .ok (.iaload, 1) := by decide +kernel
theorem dX5_again_45 : decode cX5_again 45 = .ok (.istore_n 2, 1) := by decide +kernel
theorem dX5_again_46 : decode cX5_again 46 = .ok (.aload_n 0, 1) := by decide +kernel
theorem dX5_again_47 : decode cX5_again 47 = .ok (.iload_n 1, 1) := by decide +kernel
theorem dX5_again_48 : decode cX5_again 48 = .ok (.iload_n 2, 1) := by decide +kernel
theorem dX5_again_49 : decode cX5_again 49 = .ok (.iload_n 2, 1) := by decide +kernel
theorem dX5_again_50 : decode cX5_again 50 = .ok (.ifCond .ne 7, 3) := by decide +kernel
theorem dX5_again_53 : decode cX5_again 53 = .ok (.iconst 0, 1) := by decide +kernel
theorem dX5_again_54 : decode cX5_again 54 = .ok (.goto 16, 3) := by decide +kernel
theorem dX5_again_57 : decode cX5_again 57 = .ok (.aload_n 0, 1) := by decide +kernel
theorem dX5_again_58 : decode cX5_again 58 = .ok (.getfield 43, 3) := by decide +kernel
theorem dX5_again_61 : decode cX5_again 61 = .ok (.bipush 16, 2) := by decide +kernel
theorem dX5_again_63 : decode cX5_again 63 = .ok (.iload_n 1, 1) := by decide +kernel
theorem dX5_again_64 : decode cX5_again 64 = .ok (.imul, 1) := by decide +kernel
theorem dX5_again_65 : decode cX5_again 65 = .ok (.iload_n 2, 1) := by decide +kernel
theorem dX5_again_66 : decode cX5_again 66 = .ok (.iadd, 1) := by decide +kernel
theorem dX5_again_67 : decode cX5_again 67 = .ok (.iconst 1, 1) := by decide +kernel
theorem dX5_again_68 : decode cX5_again 68 = .ok (.isub, 1) := by decide +kernel
theorem dX5_again_69 : decode cX5_again 69 = .ok (.iaload, 1) := by decide +kernel
theorem dX5_again_70 : decode cX5_again 70 = .ok (.aload_n 0, 1) := by decide +kernel
theorem dX5_again_71 : decode cX5_again 71 = .ok (.getfield 31, 3) := by decide +kernel
theorem dX5_again_74 : decode cX5_again 74 = .ok (.iload_n 1, 1) := by decide +kernel
theorem dX5_again_75 : decode cX5_again 75 = .ok (.iaload, 1) := by decide +kernel
theorem dX5_again_76 : decode cX5_again 76 = .ok (.aload_n 0, 1) := by decide +kernel
theorem dX5_again_77 : decode cX5_again 77 = .ok (.getfield 34, 3) := by decide +kernel
theorem dX5_again_80 : decode cX5_again 80 = .ok (.iload_n 1, 1) := by decide +kernel
theorem dX5_again_81 : decode cX5_again 81 = .ok (.iaload, 1) := by decide +kernel
theorem dX5_again_82 : decode cX5_again 82 = .ok (.aload_n 0, 1) := by decide +kernel
theorem dX5_again_83 : decode cX5_again 83 = .ok (.getfield 37, 3) := by decide +kernel
theorem dX5_again_86 : decode cX5_again 86 = .ok (.iload_n 1, 1) := by decide +kernel
theorem dX5_again_87 : decode cX5_again 87 = .ok (.iaload, 1) := by decide +kernel
theorem dX5_again_88 : decode cX5_again 88 = .ok (.invokevirtual 134, 3) := by decide +kernel
theorem dX5_again_91 : decode cX5_again 91 = .ok (.iload_n 2, 1) := by decide +kernel
theorem dX5_again_92 : decode cX5_again 92 = .ok (.istore_n 3, 1) := by decide +kernel
theorem dX5_again_93 : decode cX5_again 93 = .ok (.iload_n 3, 1) := by decide +kernel
theorem dX5_again_94 : decode cX5_again 94 = .ok (.aload_n 0, 1) := by decide +kernel
theorem dX5_again_95 : decode cX5_again 95 = .ok (.getfield 37, 3) := by decide +kernel
theorem dX5_again_98 : decode cX5_again 98 = .ok (.iload_n 1, 1) := by decide +kernel
theorem dX5_again_99 : decode cX5_again 99 = .ok (.iaload, 1) := by decide +kernel
theorem dX5_again_100 : decode cX5_again 100 = .ok (.if_icmp .ge 75, 3) := by decide +kernel
theorem dX5_again_103 : decode cX5_again 103 = .ok (.iload_n 3, 1) := by decide +kernel
theorem dX5_again_104 : decode cX5_again 104 = .ok (.aload_n 0, 1) := by decide +kernel
theorem dX5_again_105 : decode cX5_again 105 = .ok (.getfield 40, 3) := by decide +kernel
theorem dX5_again_108 : decode cX5_again 108 = .ok (.iload_n 1, 1) := by decide +kernel
theorem dX5_again_109 : decode cX5_again 109 = .ok (.iaload, 1) := by decide +kernel
theorem dX5_again_110 : decode cX5_again 110 = .ok (.if_icmp .ge 7, 3) := by decide +kernel
theorem dX5_again_113 : decode cX5_again 113 = .ok (.iconst 1, 1) := by decide +kernel
theorem dX5_again_114 : decode cX5_again 114 = .ok (.goto 4, 3) := by decide +kernel
theorem dX5_again_117 : decode cX5_again 117 = .ok (.iconst 0, 1) := by decide +kernel
theorem dX5_again_118 : decode cX5_again 118 = .ok (.istore 4, 2) := by decide +kernel
theorem dX5_again_120 : decode cX5_again 120 = .ok (.iload_n 3, 1) := by decide +kernel
theorem dX5_again_121 : decode cX5_again 121 = .ok (.aload_n 0, 1) := by decide +kernel
theorem dX5_again_122 : decode cX5_again 122 = .ok (.getfield 115, 3) := by decide +kernel
theorem dX5_again_125 : decode cX5_again 125 = .ok (.if_icmp .ge 7, 3) := by decide +kernel
theorem dX5_again_128 : decode cX5_again 128 = .ok (.iconst 1, 1) := by decide +kernel
theorem dX5_again_129 : decode cX5_again 129 = .ok (.goto 4, 3) := by decide +kernel
theorem dX5_again_132 : decode cX5_again 132 = .ok (.iconst 0, 1) := by decide +kernel
theorem dX5_again_133 : decode cX5_again 133 = .ok (.istore 5, 2) := by decide +kernel
theorem dX5_again_135 : decode cX5_again 135 = .ok (.iload 4, 2) := by decide +kernel
theorem dX5_again_137 : decode cX5_again 137 = .ok (.iload 5, 2) := by decide +kernel
theorem dX5_again_139 : decode cX5_again 139 = .ok (.if_icmp .ne 28, 3) := by decide +kernel
theorem dX5_again_142 : decode cX5_again 142 = .ok (.iload 4, 2) := by decide +kernel
theorem dX5_again_144 : decode cX5_again 144 = .ok (.ifCond .eq 25, 3) := by decide +kernel
theorem dX5_again_147 : decode cX5_again 147 = .ok (.aload_n 0, 1) := by decide +kernel
theorem dX5_again_148 : decode cX5_again 148 = .ok (.getfield 43, 3) := by decide +kernel
theorem dX5_again_151 : decode cX5_again 151 = .ok (.bipush 16, 2) := by decide +kernel
theorem dX5_again_153 : decode cX5_again 153 = .ok (.iload_n 1, 1) := by decide +kernel
theorem dX5_again_154 : decode cX5_again 154 = .ok (.imul, 1) := by decide +kernel
theorem dX5_again_155 : decode cX5_again 155 = .ok (.iload_n 3, 1) := by decide +kernel
theorem dX5_again_156 : decode cX5_again 156 = .ok (.iadd, 1) := by decide +kernel
theorem dX5_again_157 : decode cX5_again 157 = .ok (.iaload, 1) := by decide +kernel
theorem dX5_again_158 : decode cX5_again 158 = .ok (.aload_n 0, 1) := by decide +kernel
theorem dX5_again_159 : decode cX5_again 159 = .ok (.getfield 71, 3) := by decide +kernel
theorem dX5_again_162 : decode cX5_again 162 = .ok (.iload_n 3, 1) := by decide +kernel
theorem dX5_again_163 : decode cX5_again 163 = .ok (.iaload, 1) := by decide +kernel
theorem dX5_again_164 : decode cX5_again 164 = .ok (.if_icmp .eq 5, 3) := by decide +kernel
theorem dX5_again_167 : decode cX5_again 167 = .ok (.iload_n 3, 1) := by decide +kernel
theorem dX5_again_168 : decode cX5_again 168 = .ok (.ireturn, 1) := by decide +kernel
theorem dX5_again_169 : decode cX5_again 169 = .ok (.iinc 3 1, 3) := by decide +kernel
theorem dX5_again_172 : decode cX5_again 172 = .ok (.goto (-79), 3) := by decide +kernel
theorem dX5_again_175 : decode cX5_again 175 = .ok (.aload_n 0, 1) := by decide +kernel
theorem dX5_again_176 : decode cX5_again 176 = .ok (.getfield 37, 3) := by decide +kernel
theorem dX5_again_179 : decode cX5_again 179 = .ok (.iload_n 1, 1) := by decide +kernel
theorem dX5_again_180 : decode cX5_again 180 = .ok (.iaload, 1) := by decide +kernel
theorem dX5_again_181 : decode cX5_again 181 = .ok (.ireturn, 1) := by decide +kernel
theorem dX5_loose_0 : decode cX5_loose 0 = .ok (.aload_n 0, 1) := by decide +kernel
theorem dX5_loose_1 : decode cX5_loose 1 = .ok (.iconst 0, 1) := by decide +kernel
theorem dX5_loose_2 : decode cX5_loose 2 = .ok (.putfield 77, 3) := by decide +kernel
theorem dX5_loose_5 : decode cX5_loose 5 = .ok (.aload_n 0, 1) := by decide +kernel
theorem dX5_loose_6 : decode cX5_loose 6 = .ok (.iload_n 1, 1) := by decide +kernel
theorem dX5_loose_7 : decode cX5_loose 7 = .ok (.invokevirtual 142, 3) := by decide +kernel
theorem dX5_loose_10 : decode cX5_loose 10 = .ok (.ifCond .ne 5, 3) := by decide +kernel
theorem dX5_loose_13 : decode cX5_loose 13 = .ok (.iconst (-1), 1) := by decide +kernel
theorem dX5_loose_14 : decode cX5_loose 14 = .ok (.ireturn, 1) := by decide +kernel
theorem dX5_loose_15 : decode cX5_loose 15 = .ok (.aload_n 0, 1) := by decide +kernel
theorem dX5_loose_16 : decode cX5_loose 16 = .ok (.getfield 68, 3) := by decide +kernel
theorem dX5_loose_19 : decode cX5_loose 19 = .ok (.iload_n 1, 1) := by decide +kernel
theorem dX5_loose_20 : decode cX5_loose 20 = .ok (.baload, 1) := by decide +kernel
theorem dX5_loose_21 : decode cX5_loose 21 = .ok (.ifCond .eq 9, 3) := by decide +kernel
theorem dX5_loose_24 : decode cX5_loose 24 = .ok (.sipush 256, 3) := by decide +kernel
theorem dX5_loose_27 : decode cX5_loose 27 = .ok (.goto 4, 3) := by decide +kernel
theorem dX5_loose_30 : decode cX5_loose 30 = .ok (.iconst 0, 1) := by decide +kernel
theorem dX5_loose_31 : decode cX5_loose 31 = .ok (.istore_n 2, 1) := by decide +kernel
theorem dX5_loose_32 : decode cX5_loose 32 = .ok (.iconst 0, 1) := by decide +kernel
theorem dX5_loose_33 : decode cX5_loose 33 = .ok (.istore_n 3, 1) := by decide +kernel
theorem dX5_loose_34 : decode cX5_loose 34 = .ok (.iload_n 3, 1) := by decide +kernel
theorem dX5_loose_35 : decode cX5_loose 35 = .ok (.bipush 8, 2) := by decide +kernel
theorem dX5_loose_37 : decode cX5_loose 37 = .ok (.if_icmp .ge 24, 3) := by decide +kernel
theorem dX5_loose_40 : decode cX5_loose 40 = .ok (.aload_n 0, 1) := by decide +kernel
theorem dX5_loose_41 : decode cX5_loose 41 = .ok (.iload_n 1, 1) := by decide +kernel
theorem dX5_loose_42 : decode cX5_loose 42 = .ok (.iload_n 3, 1) := by decide +kernel
theorem dX5_loose_43 : decode cX5_loose 43 = .ok (.invokevirtual 149, 3) := by decide +kernel
theorem dX5_loose_46 : decode cX5_loose 46 = .ok (.ifCond .eq 9, 3) := by decide +kernel
theorem dX5_loose_49 : decode cX5_loose 49 = .ok (.iload_n 2, 1) := by decide +kernel
theorem dX5_loose_50 : decode cX5_loose 50 = .ok (.iconst 1, 1) := by decide +kernel
theorem dX5_loose_51 : decode cX5_loose 51 = .ok (.iload_n 3, 1) := by decide +kernel
theorem dX5_loose_52 : decode cX5_loose 52 = .ok (.ishl, 1) := by decide +kernel
theorem dX5_loose_53 : decode cX5_loose 53 = .ok (.ior, 1) := by decide +kernel
theorem dX5_loose_54 : decode cX5_loose 54 = .ok (.istore_n 2, 1) := by decide +kernel
theorem dX5_loose_55 : decode cX5_loose 55 = .ok (.iinc 3 1, 3) := by decide +kernel
theorem dX5_loose_58 : decode cX5_loose 58 = .ok (.goto (-24), 3) := by decide +kernel
theorem dX5_loose_61 : decode cX5_loose 61 = .ok (.iload_n 2, 1) := by decide +kernel
theorem dX5_loose_62 : decode cX5_loose 62 = .ok (.ireturn, 1) := by decide +kernel
theorem dX5_savedBy_0 : decode cX5_savedBy 0 = .ok (.iconst 0, 1) := by decide +kernel
theorem dX5_savedBy_1 : decode cX5_savedBy 1 = .ok (.istore 5, 2) := by decide +kernel
theorem dX5_savedBy_3 : decode cX5_savedBy 3 = .ok (.iload 5, 2) := by decide +kernel
theorem dX5_savedBy_5 : decode cX5_savedBy 5 = .ok (.aload_n 0, 1) := by decide +kernel
theorem dX5_savedBy_6 : decode cX5_savedBy 6 = .ok (.getfield 90, 3) := by decide +kernel
theorem dX5_savedBy_9 : decode cX5_savedBy 9 = .ok (.if_icmp .ge 205, 3) := by decide +kernel
theorem dX5_savedBy_12 : decode cX5_savedBy 12 = .ok (.aload_n 0, 1) := by decide +kernel
theorem dX5_savedBy_13 : decode cX5_savedBy 13 = .ok (.getfield 50, 3) := by decide +kernel
theorem dX5_savedBy_16 : decode cX5_savedBy 16 = .ok (.iload 5, 2) := by decide +kernel
theorem dX5_savedBy_18 : decode cX5_savedBy 18 = .ok (.iaload, 1) := by decide +kernel
theorem dX5_savedBy_19 : decode cX5_savedBy 19 = .ok (.iconst (-1), 1) := by decide +kernel
theorem dX5_savedBy_20 : decode cX5_savedBy 20 = .ok (.if_icmp .ne 188, 3) := by decide +kernel
theorem dX5_savedBy_23 : decode cX5_savedBy 23 = .ok (.aload_n 0, 1) := by decide +kernel
theorem dX5_savedBy_24 : decode cX5_savedBy 24 = .ok (.getfield 46, 3) := by decide +kernel
theorem dX5_savedBy_27 : decode cX5_savedBy 27 = .ok (.iload 5, 2) := by decide +kernel
theorem dX5_savedBy_29 : decode cX5_savedBy 29 = .ok (.baload, 1) := by decide +kernel
theorem dX5_savedBy_30 : decode cX5_savedBy 30 = .ok (.ifCond .ne 178, 3) := by decide +kernel
theorem dX5_savedBy_33 : decode cX5_savedBy 33 = .ok (.aload_n 0, 1) := by decide +kernel
theorem dX5_savedBy_34 : decode cX5_savedBy 34 = .ok (.getfield 68, 3) := by decide +kernel
theorem dX5_savedBy_37 : decode cX5_savedBy 37 = .ok (.iload 5, 2) := by decide +kernel
theorem dX5_savedBy_39 : decode cX5_savedBy 39 = .ok (.baload, 1) := by decide +kernel
theorem dX5_savedBy_40 : decode cX5_savedBy 40 = .ok (.ifCond .ne 168, 3) := by decide +kernel
theorem dX5_savedBy_43 : decode cX5_savedBy 43 = .ok (.aload_n 0, 1) := by decide +kernel
theorem dX5_savedBy_44 : decode cX5_savedBy 44 = .ok (.getfield 37, 3) := by decide +kernel
theorem dX5_savedBy_47 : decode cX5_savedBy 47 = .ok (.iload 5, 2) := by decide +kernel
theorem dX5_savedBy_49 : decode cX5_savedBy 49 = .ok (.iaload, 1) := by decide +kernel
theorem dX5_savedBy_50 : decode cX5_savedBy 50 = .ok (.iload 4, 2) := by decide +kernel
theorem dX5_savedBy_52 : decode cX5_savedBy 52 = .ok (.if_icmp .lt 156, 3) := by decide +kernel
theorem dX5_savedBy_55 : decode cX5_savedBy 55 = .ok (.aload_n 0, 1) := by decide +kernel
theorem dX5_savedBy_56 : decode cX5_savedBy 56 = .ok (.iload 5, 2) := by decide +kernel
theorem dX5_savedBy_58 : decode cX5_savedBy 58 = .ok (.iload_n 1, 1) := by decide +kernel
theorem dX5_savedBy_59 : decode cX5_savedBy 59 = .ok (.invokevirtual 145, 3) := by decide +kernel
theorem dX5_savedBy_62 : decode cX5_savedBy 62 = .ok (.ifCond .ne 6, 3) := by decide +kernel
theorem dX5_savedBy_65 : decode cX5_savedBy 65 = .ok (.goto 143, 3) := by decide +kernel
theorem dX5_savedBy_68 : decode cX5_savedBy 68 = .ok (.aload_n 0, 1) := by decide +kernel
theorem dX5_savedBy_69 : decode cX5_savedBy 69 = .ok (.getfield 65, 3) := by decide +kernel
theorem dX5_savedBy_72 : decode cX5_savedBy 72 = .ok (.iload 5, 2) := by decide +kernel
theorem dX5_savedBy_74 : decode cX5_savedBy 74 = .ok (.baload, 1) := by decide +kernel
theorem dX5_savedBy_75 : decode cX5_savedBy 75 = .ok (.ifCond .eq 14, 3) := by decide +kernel
theorem dX5_savedBy_78 : decode cX5_savedBy 78 = .ok (.aload_n 0, 1) := by decide +kernel
theorem dX5_savedBy_79 : decode cX5_savedBy 79 = .ok (.getfield 34, 3) := by decide +kernel
theorem dX5_savedBy_82 : decode cX5_savedBy 82 = .ok (.iload 5, 2) := by decide +kernel
theorem dX5_savedBy_84 : decode cX5_savedBy 84 = .ok (.iaload, 1) := by decide +kernel
theorem dX5_savedBy_85 : decode cX5_savedBy 85 = .ok (.iload_n 3, 1) := by decide +kernel
theorem dX5_savedBy_86 : decode cX5_savedBy 86 = .ok (.if_icmp .ne 7, 3) := by decide +kernel
theorem dX5_savedBy_89 : decode cX5_savedBy 89 = .ok (.iconst 1, 1) := by decide +kernel
theorem dX5_savedBy_90 : decode cX5_savedBy 90 = .ok (.goto 4, 3) := by decide +kernel
theorem dX5_savedBy_93 : decode cX5_savedBy 93 = .ok (.iconst 0, 1) := by decide +kernel
theorem dX5_savedBy_94 : decode cX5_savedBy 94 = .ok (.istore 6, 2) := by decide +kernel
theorem dX5_savedBy_96 : decode cX5_savedBy 96 = .ok (.iconst 0, 1) := by decide +kernel
theorem dX5_savedBy_97 : decode cX5_savedBy 97 = .ok (.istore 7, 2) := by decide +kernel
theorem dX5_savedBy_99 : decode cX5_savedBy 99 = .ok (.iload 7, 2) := by decide +kernel
theorem dX5_savedBy_101 : decode cX5_savedBy 101 = .ok (.iconst 4, 1) := by decide +kernel
theorem dX5_savedBy_102 : decode cX5_savedBy 102 = .ok (.if_icmp .ge 59, 3) := by decide +kernel
theorem dX5_savedBy_105 : decode cX5_savedBy 105 = .ok (.iload 6, 2) := by decide +kernel
theorem dX5_savedBy_107 : decode cX5_savedBy 107 = .ok (.ifCond .eq 45, 3) := by decide +kernel
theorem dX5_savedBy_110 : decode cX5_savedBy 110 = .ok (.aload_n 0, 1) := by decide +kernel
theorem dX5_savedBy_111 : decode cX5_savedBy 111 = .ok (.getfield 56, 3) := by decide +kernel
theorem dX5_savedBy_114 : decode cX5_savedBy 114 = .ok (.iload 5, 2) := by decide +kernel
theorem dX5_savedBy_116 : decode cX5_savedBy 116 = .ok (.iaload, 1) := by decide +kernel
theorem dX5_savedBy_117 : decode cX5_savedBy 117 = .ok (.iload 7, 2) := by decide +kernel
theorem dX5_savedBy_119 : decode cX5_savedBy 119 = .ok (.ishr, 1) := by decide +kernel
theorem dX5_savedBy_120 : decode cX5_savedBy 120 = .ok (.iconst 1, 1) := by decide +kernel
theorem dX5_savedBy_121 : decode cX5_savedBy 121 = .ok (.iand, 1) := by decide +kernel
theorem dX5_savedBy_122 : decode cX5_savedBy 122 = .ok (.ifCond .eq 26, 3) := by decide +kernel
theorem dX5_savedBy_125 : decode cX5_savedBy 125 = .ok (.aload_n 0, 1) := by decide +kernel
theorem dX5_savedBy_126 : decode cX5_savedBy 126 = .ok (.aload_n 0, 1) := by decide +kernel
theorem dX5_savedBy_127 : decode cX5_savedBy 127 = .ok (.getfield 31, 3) := by decide +kernel
theorem dX5_savedBy_130 : decode cX5_savedBy 130 = .ok (.iload 5, 2) := by decide +kernel
theorem dX5_savedBy_132 : decode cX5_savedBy 132 = .ok (.iaload, 1) := by decide +kernel
theorem dX5_savedBy_133 : decode cX5_savedBy 133 = .ok (.iload 7, 2) := by decide +kernel
theorem dX5_savedBy_135 : decode cX5_savedBy 135 = .ok (.invokevirtual 86, 3) := by decide +kernel
theorem dX5_savedBy_138 : decode cX5_savedBy 138 = .ok (.aload_n 0, 1) := by decide +kernel
theorem dX5_savedBy_139 : decode cX5_savedBy 139 = .ok (.iload_n 2, 1) := by decide +kernel
theorem dX5_savedBy_140 : decode cX5_savedBy 140 = .ok (.iload 7, 2) := by decide +kernel
theorem dX5_savedBy_142 : decode cX5_savedBy 142 = .ok (.invokevirtual 86, 3) := by decide +kernel
theorem dX5_savedBy_145 : decode cX5_savedBy 145 = .ok (.if_icmp .ne 7, 3) := by decide +kernel
theorem dX5_savedBy_148 : decode cX5_savedBy 148 = .ok (.iconst 1, 1) := by decide +kernel
theorem dX5_savedBy_149 : decode cX5_savedBy 149 = .ok (.goto 4, 3) := by decide +kernel
theorem dX5_savedBy_152 : decode cX5_savedBy 152 = .ok (.iconst 0, 1) := by decide +kernel
theorem dX5_savedBy_153 : decode cX5_savedBy 153 = .ok (.istore 6, 2) := by decide +kernel
theorem dX5_savedBy_155 : decode cX5_savedBy 155 = .ok (.iinc 7 1, 3) := by decide +kernel
theorem dX5_savedBy_158 : decode cX5_savedBy 158 = .ok (.goto (-59), 3) := by decide +kernel
theorem dX5_savedBy_161 : decode cX5_savedBy 161 = .ok (.iconst 0, 1) := by decide +kernel
theorem dX5_savedBy_162 : decode cX5_savedBy 162 = .ok (.istore 7, 2) := by decide +kernel
theorem dX5_savedBy_164 : decode cX5_savedBy 164 = .ok (.iload 7, 2) := by decide +kernel
theorem dX5_savedBy_166 : decode cX5_savedBy 166 = .ok (.bipush 8, 2) := by decide +kernel
theorem dX5_savedBy_168 : decode cX5_savedBy 168 = .ok (.if_icmp .ge 32, 3) := by decide +kernel
theorem dX5_savedBy_171 : decode cX5_savedBy 171 = .ok (.iload 6, 2) := by decide +kernel
theorem dX5_savedBy_173 : decode cX5_savedBy 173 = .ok (.ifCond .eq 18, 3) := by decide +kernel
theorem dX5_savedBy_176 : decode cX5_savedBy 176 = .ok (.aload_n 0, 1) := by decide +kernel
theorem dX5_savedBy_177 : decode cX5_savedBy 177 = .ok (.iload 5, 2) := by decide +kernel
theorem dX5_savedBy_179 : decode cX5_savedBy 179 = .ok (.iload 7, 2) := by decide +kernel
theorem dX5_savedBy_181 : decode cX5_savedBy 181 = .ok (.invokevirtual 149, 3) := by decide +kernel
theorem dX5_savedBy_184 : decode cX5_savedBy 184 = .ok (.ifCond .ne 7, 3) := by decide +kernel
theorem dX5_savedBy_187 : decode cX5_savedBy 187 = .ok (.iconst 1, 1) := by decide +kernel
theorem dX5_savedBy_188 : decode cX5_savedBy 188 = .ok (.goto 4, 3) := by decide +kernel
theorem dX5_savedBy_191 : decode cX5_savedBy 191 = .ok (.iconst 0, 1) := by decide +kernel
theorem dX5_savedBy_192 : decode cX5_savedBy 192 = .ok (.istore 6, 2) := by decide +kernel
theorem dX5_savedBy_194 : decode cX5_savedBy 194 = .ok (.iinc 7 1, 3) := by decide +kernel
theorem dX5_savedBy_197 : decode cX5_savedBy 197 = .ok (.goto (-33), 3) := by decide +kernel
theorem dX5_savedBy_200 : decode cX5_savedBy 200 = .ok (.iload 6, 2) := by decide +kernel
theorem dX5_savedBy_202 : decode cX5_savedBy 202 = .ok (.ifCond .eq 6, 3) := by decide +kernel
theorem dX5_savedBy_205 : decode cX5_savedBy 205 = .ok (.iload 5, 2) := by decide +kernel
theorem dX5_savedBy_207 : decode cX5_savedBy 207 = .ok (.ireturn, 1) := by decide +kernel
theorem dX5_savedBy_208 : decode cX5_savedBy 208 = .ok (.iinc 5 1, 3) := by decide +kernel
theorem dX5_savedBy_211 : decode cX5_savedBy 211 = .ok (.goto (-208), 3) := by decide +kernel
theorem dX5_savedBy_214 : decode cX5_savedBy 214 = .ok (.iconst (-1), 1) := by decide +kernel
theorem dX5_savedBy_215 : decode cX5_savedBy 215 = .ok (.ireturn, 1) := by decide +kernel
theorem dX5_saved_0 : decode cX5_saved 0 = .ok (.aload_n 0, 1) := by decide +kernel
theorem dX5_saved_1 : decode cX5_saved 1 = .ok (.iconst 0, 1) := by decide +kernel
theorem dX5_saved_2 : decode cX5_saved 2 = .ok (.putfield 77, 3) := by decide +kernel
theorem dX5_saved_5 : decode cX5_saved 5 = .ok (.aload_n 0, 1) := by decide +kernel
theorem dX5_saved_6 : decode cX5_saved 6 = .ok (.iload_n 1, 1) := by decide +kernel
theorem dX5_saved_7 : decode cX5_saved 7 = .ok (.invokevirtual 81, 3) := by decide +kernel
theorem dX5_saved_10 : decode cX5_saved 10 = .ok (.ifCond .eq 40, 3) := by decide +kernel
theorem dX5_saved_13 : decode cX5_saved 13 = .ok (.aload_n 0, 1) := by decide +kernel
theorem dX5_saved_14 : decode cX5_saved 14 = .ok (.iload_n 2, 1) := by decide +kernel
theorem dX5_saved_15 : decode cX5_saved 15 = .ok (.invokevirtual 125, 3) := by decide +kernel
theorem dX5_saved_18 : decode cX5_saved 18 = .ok (.ifCond .eq 32, 3) := by decide +kernel
theorem dX5_saved_21 : decode cX5_saved 21 = .ok (.aload_n 0, 1) := by decide +kernel
theorem dX5_saved_22 : decode cX5_saved 22 = .ok (.iload_n 3, 1) := by decide +kernel
theorem dX5_saved_23 : decode cX5_saved 23 = .ok (.invokevirtual 128, 3) := by decide +kernel
theorem dX5_saved_26 : decode cX5_saved 26 = .ok (.ifCond .eq 24, 3) := by decide +kernel
theorem dX5_saved_29 : decode cX5_saved 29 = .ok (.aload_n 0, 1) := by decide +kernel
theorem dX5_saved_30 : decode cX5_saved 30 = .ok (.iload 4, 2) := by decide +kernel
theorem dX5_saved_32 : decode cX5_saved 32 = .ok (.invokevirtual 131, 3) := by decide +kernel
theorem dX5_saved_35 : decode cX5_saved 35 = .ok (.ifCond .eq 15, 3) := by decide +kernel
theorem dX5_saved_38 : decode cX5_saved 38 = .ok (.aload_n 0, 1) := by decide +kernel
theorem dX5_saved_39 : decode cX5_saved 39 = .ok (.iload_n 1, 1) := by decide +kernel
theorem dX5_saved_40 : decode cX5_saved 40 = .ok (.iload_n 2, 1) := by decide +kernel
theorem dX5_saved_41 : decode cX5_saved 41 = .ok (.iload_n 3, 1) := by decide +kernel
theorem dX5_saved_42 : decode cX5_saved 42 = .ok (.iload 4, 2) := by decide +kernel
theorem dX5_saved_44 : decode cX5_saved 44 = .ok (.invokevirtual 155, 3) := by decide +kernel
theorem dX5_saved_47 : decode cX5_saved 47 = .ok (.goto 4, 3) := by decide +kernel
theorem dX5_saved_50 : decode cX5_saved 50 = .ok (.iconst (-1), 1) := by decide +kernel
theorem dX5_saved_51 : decode cX5_saved 51 = .ok (.ireturn, 1) := by decide +kernel
theorem dX5_isLikeCode_0 : decode cX5_isLikeCode 0 = .ok (.aload_n 0, 1) := by decide +kernel
theorem dX5_isLikeCode_1 : decode cX5_isLikeCode 1 = .ok (.getfield 25, 3) := by decide +kernel
theorem dX5_isLikeCode_4 : decode cX5_isLikeCode 4 = .ok (.iload_n 1, 1) := by decide +kernel
theorem dX5_isLikeCode_5 : decode cX5_isLikeCode 5 = .ok (.iaload, 1) := by decide +kernel
theorem dX5_isLikeCode_6 : decode cX5_isLikeCode 6 = .ok (.aload_n 0, 1) := by decide +kernel
theorem dX5_isLikeCode_7 : decode cX5_isLikeCode 7 = .ok (.getfield 25, 3) := by decide +kernel
theorem dX5_isLikeCode_10 : decode cX5_isLikeCode 10 = .ok (.iload_n 2, 1) := by decide +kernel
theorem dX5_isLikeCode_11 : decode cX5_isLikeCode 11 = .ok (.iaload, 1) := by decide +kernel
theorem dX5_isLikeCode_12 : decode cX5_isLikeCode 12 = .ok (.if_icmp .eq 5, 3) := by decide +kernel
theorem dX5_isLikeCode_15 : decode cX5_isLikeCode 15 = .ok (.iconst 0, 1) := by decide +kernel
theorem dX5_isLikeCode_16 : decode cX5_isLikeCode 16 = .ok (.ireturn, 1) := by decide +kernel
theorem dX5_isLikeCode_17 : decode cX5_isLikeCode 17 = .ok (.iconst 0, 1) := by decide +kernel
theorem dX5_isLikeCode_18 : decode cX5_isLikeCode 18 = .ok (.istore_n 3, 1) := by decide +kernel
theorem dX5_isLikeCode_19 : decode cX5_isLikeCode 19 = .ok (.iload_n 3, 1) := by decide +kernel
theorem dX5_isLikeCode_20 : decode cX5_isLikeCode 20 = .ok (.aload_n 0, 1) := by decide +kernel
theorem dX5_isLikeCode_21 : decode cX5_isLikeCode 21 = .ok (.getfield 25, 3) := by decide +kernel
theorem dX5_isLikeCode_24 : decode cX5_isLikeCode 24 = .ok (.iload_n 1, 1) := by decide +kernel
theorem dX5_isLikeCode_25 : decode cX5_isLikeCode 25 = .ok (.iaload, 1) := by decide +kernel
theorem dX5_isLikeCode_26 : decode cX5_isLikeCode 26 = .ok (.if_icmp .ge 36, 3) := by decide +kernel
theorem dX5_isLikeCode_29 : decode cX5_isLikeCode 29 = .ok (.aload_n 0, 1) := by decide +kernel
theorem dX5_isLikeCode_30 : decode cX5_isLikeCode 30 = .ok (.getfield 28, 3) := by decide +kernel
theorem dX5_isLikeCode_33 : decode cX5_isLikeCode 33 = .ok (.bipush 8, 2) := by decide +kernel
theorem dX5_isLikeCode_35 : decode cX5_isLikeCode 35 = .ok (.iload_n 1, 1) := by decide +kernel
theorem dX5_isLikeCode_36 : decode cX5_isLikeCode 36 = .ok (.imul, 1) := by decide +kernel
theorem dX5_isLikeCode_37 : decode cX5_isLikeCode 37 = .ok (.iload_n 3, 1) := by decide +kernel
theorem dX5_isLikeCode_38 : decode cX5_isLikeCode 38 = .ok (.iadd, 1) := by decide +kernel
theorem dX5_isLikeCode_39 : decode cX5_isLikeCode 39 = .ok (.iaload, 1) := by decide +kernel
theorem dX5_isLikeCode_40 : decode cX5_isLikeCode 40 = .ok (.aload_n 0, 1) := by decide +kernel
theorem dX5_isLikeCode_41 : decode cX5_isLikeCode 41 = .ok (.getfield 28, 3) := by decide +kernel
theorem dX5_isLikeCode_44 : decode cX5_isLikeCode 44 = .ok (.bipush 8, 2) := by decide +kernel
theorem dX5_isLikeCode_46 : decode cX5_isLikeCode 46 = .ok (.iload_n 2, 1) := by decide +kernel
theorem dX5_isLikeCode_47 : decode cX5_isLikeCode 47 = .ok (.imul, 1) := by decide +kernel
theorem dX5_isLikeCode_48 : decode cX5_isLikeCode 48 = .ok (.iload_n 3, 1) := by decide +kernel
theorem dX5_isLikeCode_49 : decode cX5_isLikeCode 49 = .ok (.iadd, 1) := by decide +kernel
theorem dX5_isLikeCode_50 : decode cX5_isLikeCode 50 = .ok (.iaload, 1) := by decide +kernel
theorem dX5_isLikeCode_51 : decode cX5_isLikeCode 51 = .ok (.if_icmp .eq 5, 3) := by decide +kernel
theorem dX5_isLikeCode_54 : decode cX5_isLikeCode 54 = .ok (.iconst 0, 1) := by decide +kernel
theorem dX5_isLikeCode_55 : decode cX5_isLikeCode 55 = .ok (.ireturn, 1) := by decide +kernel
theorem dX5_isLikeCode_56 : decode cX5_isLikeCode 56 = .ok (.iinc 3 1, 3) := by decide +kernel
theorem dX5_isLikeCode_59 : decode cX5_isLikeCode 59 = .ok (.goto (-40), 3) := by decide +kernel
theorem dX5_isLikeCode_62 : decode cX5_isLikeCode 62 = .ok (.iconst 1, 1) := by decide +kernel
theorem dX5_isLikeCode_63 : decode cX5_isLikeCode 63 = .ok (.ireturn, 1) := by decide +kernel
theorem dX5_isLike_0 : decode cX5_isLike 0 = .ok (.aload_n 0, 1) := by decide +kernel
theorem dX5_isLike_1 : decode cX5_isLike 1 = .ok (.iload_n 1, 1) := by decide +kernel
theorem dX5_isLike_2 : decode cX5_isLike 2 = .ok (.iload_n 2, 1) := by decide +kernel
theorem dX5_isLike_3 : decode cX5_isLike 3 = .ok (.invokevirtual 159, 3) := by decide +kernel
theorem dX5_isLike_6 : decode cX5_isLike 6 = .ok (.ifCond .eq 33, 3) := by decide +kernel
theorem dX5_isLike_9 : decode cX5_isLike 9 = .ok (.aload_n 0, 1) := by decide +kernel
theorem dX5_isLike_10 : decode cX5_isLike 10 = .ok (.getfield 34, 3) := by decide +kernel
theorem dX5_isLike_13 : decode cX5_isLike 13 = .ok (.iload_n 1, 1) := by decide +kernel
theorem dX5_isLike_14 : decode cX5_isLike 14 = .ok (.iaload, 1) := by decide +kernel
theorem dX5_isLike_15 : decode cX5_isLike 15 = .ok (.aload_n 0, 1) := by decide +kernel
theorem dX5_isLike_16 : decode cX5_isLike 16 = .ok (.getfield 34, 3) := by decide +kernel
theorem dX5_isLike_19 : decode cX5_isLike 19 = .ok (.iload_n 2, 1) := by decide +kernel
theorem dX5_isLike_20 : decode cX5_isLike 20 = .ok (.iaload, 1) := by decide +kernel
theorem dX5_isLike_21 : decode cX5_isLike 21 = .ok (.if_icmp .ne 18, 3) := by decide +kernel
theorem dX5_isLike_24 : decode cX5_isLike 24 = .ok (.aload_n 0, 1) := by decide +kernel
theorem dX5_isLike_25 : decode cX5_isLike 25 = .ok (.getfield 37, 3) := by decide +kernel
theorem dX5_isLike_28 : decode cX5_isLike 28 = .ok (.iload_n 1, 1) := by decide +kernel
theorem dX5_isLike_29 : decode cX5_isLike 29 = .ok (.iaload, 1) := by decide +kernel
theorem dX5_isLike_30 : decode cX5_isLike 30 = .ok (.aload_n 0, 1) := by decide +kernel
theorem dX5_isLike_31 : decode cX5_isLike 31 = .ok (.getfield 37, 3) := by decide +kernel
theorem dX5_isLike_34 : decode cX5_isLike 34 = .ok (.iload_n 2, 1) := by decide +kernel
theorem dX5_isLike_35 : decode cX5_isLike 35 = .ok (.iaload, 1) := by decide +kernel
theorem dX5_isLike_36 : decode cX5_isLike 36 = .ok (.if_icmp .eq 5, 3) := by decide +kernel
theorem dX5_isLike_39 : decode cX5_isLike 39 = .ok (.iconst 0, 1) := by decide +kernel
theorem dX5_isLike_40 : decode cX5_isLike 40 = .ok (.ireturn, 1) := by decide +kernel
theorem dX5_isLike_41 : decode cX5_isLike 41 = .ok (.iconst 0, 1) := by decide +kernel
theorem dX5_isLike_42 : decode cX5_isLike 42 = .ok (.istore_n 3, 1) := by decide +kernel
theorem dX5_isLike_43 : decode cX5_isLike 43 = .ok (.iload_n 3, 1) := by decide +kernel
theorem dX5_isLike_44 : decode cX5_isLike 44 = .ok (.bipush 8, 2) := by decide +kernel
theorem dX5_isLike_46 : decode cX5_isLike 46 = .ok (.if_icmp .ge 57, 3) := by decide +kernel
theorem dX5_isLike_49 : decode cX5_isLike 49 = .ok (.aload_n 0, 1) := by decide +kernel
theorem dX5_isLike_50 : decode cX5_isLike 50 = .ok (.getfield 59, 3) := by decide +kernel
theorem dX5_isLike_53 : decode cX5_isLike 53 = .ok (.iload_n 1, 1) := by decide +kernel
theorem dX5_isLike_54 : decode cX5_isLike 54 = .ok (.iaload, 1) := by decide +kernel
theorem dX5_isLike_55 : decode cX5_isLike 55 = .ok (.aload_n 0, 1) := by decide +kernel
theorem dX5_isLike_56 : decode cX5_isLike 56 = .ok (.getfield 59, 3) := by decide +kernel
theorem dX5_isLike_59 : decode cX5_isLike 59 = .ok (.iload_n 2, 1) := by decide +kernel
theorem dX5_isLike_60 : decode cX5_isLike 60 = .ok (.iaload, 1) := by decide +kernel
theorem dX5_isLike_61 : decode cX5_isLike 61 = .ok (.iand, 1) := by decide +kernel
theorem dX5_isLike_62 : decode cX5_isLike 62 = .ok (.iload_n 3, 1) := by decide +kernel
theorem dX5_isLike_63 : decode cX5_isLike 63 = .ok (.ishr, 1) := by decide +kernel
theorem dX5_isLike_64 : decode cX5_isLike 64 = .ok (.iconst 1, 1) := by decide +kernel
theorem dX5_isLike_65 : decode cX5_isLike 65 = .ok (.iand, 1) := by decide +kernel
theorem dX5_isLike_66 : decode cX5_isLike 66 = .ok (.iconst 1, 1) := by decide +kernel
theorem dX5_isLike_67 : decode cX5_isLike 67 = .ok (.if_icmp .ne 30, 3) := by decide +kernel
theorem dX5_isLike_70 : decode cX5_isLike 70 = .ok (.aload_n 0, 1) := by decide +kernel
theorem dX5_isLike_71 : decode cX5_isLike 71 = .ok (.getfield 62, 3) := by decide +kernel
theorem dX5_isLike_74 : decode cX5_isLike 74 = .ok (.bipush 8, 2) := by decide +kernel
theorem dX5_isLike_76 : decode cX5_isLike 76 = .ok (.iload_n 1, 1) := by decide +kernel
theorem dX5_isLike_77 : decode cX5_isLike 77 = .ok (.imul, 1) := by decide +kernel
theorem dX5_isLike_78 : decode cX5_isLike 78 = .ok (.iload_n 3, 1) := by decide +kernel
theorem dX5_isLike_79 : decode cX5_isLike 79 = .ok (.iadd, 1) := by decide +kernel
theorem dX5_isLike_80 : decode cX5_isLike 80 = .ok (.iaload, 1) := by decide +kernel
theorem dX5_isLike_81 : decode cX5_isLike 81 = .ok (.aload_n 0, 1) := by decide +kernel
theorem dX5_isLike_82 : decode cX5_isLike 82 = .ok (.getfield 62, 3) := by decide +kernel
theorem dX5_isLike_85 : decode cX5_isLike 85 = .ok (.bipush 8, 2) := by decide +kernel
theorem dX5_isLike_87 : decode cX5_isLike 87 = .ok (.iload_n 2, 1) := by decide +kernel
theorem dX5_isLike_88 : decode cX5_isLike 88 = .ok (.imul, 1) := by decide +kernel
theorem dX5_isLike_89 : decode cX5_isLike 89 = .ok (.iload_n 3, 1) := by decide +kernel
theorem dX5_isLike_90 : decode cX5_isLike 90 = .ok (.iadd, 1) := by decide +kernel
theorem dX5_isLike_91 : decode cX5_isLike 91 = .ok (.iaload, 1) := by decide +kernel
theorem dX5_isLike_92 : decode cX5_isLike 92 = .ok (.if_icmp .eq 5, 3) := by decide +kernel
theorem dX5_isLike_95 : decode cX5_isLike 95 = .ok (.iconst 0, 1) := by decide +kernel
theorem dX5_isLike_96 : decode cX5_isLike 96 = .ok (.ireturn, 1) := by decide +kernel
theorem dX5_isLike_97 : decode cX5_isLike 97 = .ok (.iinc 3 1, 3) := by decide +kernel
theorem dX5_isLike_100 : decode cX5_isLike 100 = .ok (.goto (-57), 3) := by decide +kernel
theorem dX5_isLike_103 : decode cX5_isLike 103 = .ok (.iconst 1, 1) := by decide +kernel
theorem dX5_isLike_104 : decode cX5_isLike 104 = .ok (.ireturn, 1) := by decide +kernel
theorem dX5_mayBe_0 : decode cX5_mayBe 0 = .ok (.aload_n 0, 1) := by decide +kernel
theorem dX5_mayBe_1 : decode cX5_mayBe 1 = .ok (.getfield 50, 3) := by decide +kernel
theorem dX5_mayBe_4 : decode cX5_mayBe 4 = .ok (.iload_n 1, 1) := by decide +kernel
theorem dX5_mayBe_5 : decode cX5_mayBe 5 = .ok (.iaload, 1) := by decide +kernel
theorem dX5_mayBe_6 : decode cX5_mayBe 6 = .ok (.iconst (-1), 1) := by decide +kernel
theorem dX5_mayBe_7 : decode cX5_mayBe 7 = .ok (.if_icmp .ne 35, 3) := by decide +kernel
theorem dX5_mayBe_10 : decode cX5_mayBe 10 = .ok (.aload_n 0, 1) := by decide +kernel
theorem dX5_mayBe_11 : decode cX5_mayBe 11 = .ok (.getfield 46, 3) := by decide +kernel
theorem dX5_mayBe_14 : decode cX5_mayBe 14 = .ok (.iload_n 1, 1) := by decide +kernel
theorem dX5_mayBe_15 : decode cX5_mayBe 15 = .ok (.baload, 1) := by decide +kernel
theorem dX5_mayBe_16 : decode cX5_mayBe 16 = .ok (.ifCond .ne 26, 3) := by decide +kernel
theorem dX5_mayBe_19 : decode cX5_mayBe 19 = .ok (.aload_n 0, 1) := by decide +kernel
theorem dX5_mayBe_20 : decode cX5_mayBe 20 = .ok (.getfield 68, 3) := by decide +kernel
theorem dX5_mayBe_23 : decode cX5_mayBe 23 = .ok (.iload_n 1, 1) := by decide +kernel
theorem dX5_mayBe_24 : decode cX5_mayBe 24 = .ok (.baload, 1) := by decide +kernel
theorem dX5_mayBe_25 : decode cX5_mayBe 25 = .ok (.ifCond .ne 17, 3) := by decide +kernel
theorem dX5_mayBe_28 : decode cX5_mayBe 28 = .ok (.aload_n 0, 1) := by decide +kernel
theorem dX5_mayBe_29 : decode cX5_mayBe 29 = .ok (.getfield 37, 3) := by decide +kernel
theorem dX5_mayBe_32 : decode cX5_mayBe 32 = .ok (.iload_n 1, 1) := by decide +kernel
theorem dX5_mayBe_33 : decode cX5_mayBe 33 = .ok (.iaload, 1) := by decide +kernel
theorem dX5_mayBe_34 : decode cX5_mayBe 34 = .ok (.iload_n 2, 1) := by decide +kernel
theorem dX5_mayBe_35 : decode cX5_mayBe 35 = .ok (.if_icmp .ne 7, 3) := by decide +kernel
theorem dX5_mayBe_38 : decode cX5_mayBe 38 = .ok (.iconst 1, 1) := by decide +kernel
theorem dX5_mayBe_39 : decode cX5_mayBe 39 = .ok (.goto 4, 3) := by decide +kernel
theorem dX5_mayBe_42 : decode cX5_mayBe 42 = .ok (.iconst 0, 1) := by decide +kernel
theorem dX5_mayBe_43 : decode cX5_mayBe 43 = .ok (.ireturn, 1) := by decide +kernel
theorem dX5_isLeast_0 : decode cX5_isLeast 0 = .ok (.iconst 0, 1) := by decide +kernel
theorem dX5_isLeast_1 : decode cX5_isLeast 1 = .ok (.istore_n 3, 1) := by decide +kernel
theorem dX5_isLeast_2 : decode cX5_isLeast 2 = .ok (.iload_n 3, 1) := by decide +kernel
theorem dX5_isLeast_3 : decode cX5_isLeast 3 = .ok (.iload_n 1, 1) := by decide +kernel
theorem dX5_isLeast_4 : decode cX5_isLeast 4 = .ok (.if_icmp .ge 44, 3) := by decide +kernel
theorem dX5_isLeast_7 : decode cX5_isLeast 7 = .ok (.aload_n 0, 1) := by decide +kernel
theorem dX5_isLeast_8 : decode cX5_isLeast 8 = .ok (.iload_n 3, 1) := by decide +kernel
theorem dX5_isLeast_9 : decode cX5_isLeast 9 = .ok (.iload_n 2, 1) := by decide +kernel
theorem dX5_isLeast_10 : decode cX5_isLeast 10 = .ok (.invokevirtual 162, 3) := by decide +kernel
theorem dX5_isLeast_13 : decode cX5_isLeast 13 = .ok (.ifCond .eq 29, 3) := by decide +kernel
theorem dX5_isLeast_16 : decode cX5_isLeast 16 = .ok (.aload_n 0, 1) := by decide +kernel
theorem dX5_isLeast_17 : decode cX5_isLeast 17 = .ok (.getfield 31, 3) := by decide +kernel
theorem dX5_isLeast_20 : decode cX5_isLeast 20 = .ok (.iload_n 3, 1) := by decide +kernel
theorem dX5_isLeast_21 : decode cX5_isLeast 21 = .ok (.iaload, 1) := by decide +kernel
theorem dX5_isLeast_22 : decode cX5_isLeast 22 = .ok (.aload_n 0, 1) := by decide +kernel
theorem dX5_isLeast_23 : decode cX5_isLeast 23 = .ok (.getfield 31, 3) := by decide +kernel
theorem dX5_isLeast_26 : decode cX5_isLeast 26 = .ok (.iload_n 1, 1) := by decide +kernel
theorem dX5_isLeast_27 : decode cX5_isLeast 27 = .ok (.iaload, 1) := by decide +kernel
theorem dX5_isLeast_28 : decode cX5_isLeast 28 = .ok (.if_icmp .ne 14, 3) := by decide +kernel
theorem dX5_isLeast_31 : decode cX5_isLeast 31 = .ok (.aload_n 0, 1) := by decide +kernel
theorem dX5_isLeast_32 : decode cX5_isLeast 32 = .ok (.iload_n 3, 1) := by decide +kernel
theorem dX5_isLeast_33 : decode cX5_isLeast 33 = .ok (.iload_n 1, 1) := by decide +kernel
theorem dX5_isLeast_34 : decode cX5_isLeast 34 = .ok (.invokevirtual 165, 3) := by decide +kernel
theorem dX5_isLeast_37 : decode cX5_isLeast 37 = .ok (.ifCond .eq 5, 3) := by decide +kernel
theorem dX5_isLeast_40 : decode cX5_isLeast 40 = .ok (.iconst 0, 1) := by decide +kernel
theorem dX5_isLeast_41 : decode cX5_isLeast 41 = .ok (.ireturn, 1) := by decide +kernel
theorem dX5_isLeast_42 : decode cX5_isLeast 42 = .ok (.iinc 3 1, 3) := by decide +kernel
theorem dX5_isLeast_45 : decode cX5_isLeast 45 = .ok (.goto (-43), 3) := by decide +kernel
theorem dX5_isLeast_48 : decode cX5_isLeast 48 = .ok (.iconst 1, 1) := by decide +kernel
theorem dX5_isLeast_49 : decode cX5_isLeast 49 = .ok (.ireturn, 1) := by decide +kernel
theorem dX5_isPair_0 : decode cX5_isPair 0 = .ok (.aload_n 0, 1) := by decide +kernel
theorem dX5_isPair_1 : decode cX5_isPair 1 = .ok (.iload_n 1, 1) := by decide +kernel
theorem dX5_isPair_2 : decode cX5_isPair 2 = .ok (.iload 6, 2) := by decide +kernel
theorem dX5_isPair_4 : decode cX5_isPair 4 = .ok (.invokevirtual 162, 3) := by decide +kernel
theorem dX5_isPair_7 : decode cX5_isPair 7 = .ok (.ifCond .eq 45, 3) := by decide +kernel
theorem dX5_isPair_10 : decode cX5_isPair 10 = .ok (.aload_n 0, 1) := by decide +kernel
theorem dX5_isPair_11 : decode cX5_isPair 11 = .ok (.iload_n 2, 1) := by decide +kernel
theorem dX5_isPair_12 : decode cX5_isPair 12 = .ok (.iload 6, 2) := by decide +kernel
theorem dX5_isPair_14 : decode cX5_isPair 14 = .ok (.invokevirtual 162, 3) := by decide +kernel
theorem dX5_isPair_17 : decode cX5_isPair 17 = .ok (.ifCond .eq 35, 3) := by decide +kernel
theorem dX5_isPair_20 : decode cX5_isPair 20 = .ok (.aload_n 0, 1) := by decide +kernel
theorem dX5_isPair_21 : decode cX5_isPair 21 = .ok (.aload_n 0, 1) := by decide +kernel
theorem dX5_isPair_22 : decode cX5_isPair 22 = .ok (.getfield 31, 3) := by decide +kernel
theorem dX5_isPair_25 : decode cX5_isPair 25 = .ok (.iload_n 1, 1) := by decide +kernel
theorem dX5_isPair_26 : decode cX5_isPair 26 = .ok (.iaload, 1) := by decide +kernel
theorem dX5_isPair_27 : decode cX5_isPair 27 = .ok (.iload_n 3, 1) := by decide +kernel
theorem dX5_isPair_28 : decode cX5_isPair 28 = .ok (.invokevirtual 86, 3) := by decide +kernel
theorem dX5_isPair_31 : decode cX5_isPair 31 = .ok (.iload 4, 2) := by decide +kernel
theorem dX5_isPair_33 : decode cX5_isPair 33 = .ok (.if_icmp .ne 19, 3) := by decide +kernel
theorem dX5_isPair_36 : decode cX5_isPair 36 = .ok (.aload_n 0, 1) := by decide +kernel
theorem dX5_isPair_37 : decode cX5_isPair 37 = .ok (.aload_n 0, 1) := by decide +kernel
theorem dX5_isPair_38 : decode cX5_isPair 38 = .ok (.getfield 31, 3) := by decide +kernel
theorem dX5_isPair_41 : decode cX5_isPair 41 = .ok (.iload_n 2, 1) := by decide +kernel
theorem dX5_isPair_42 : decode cX5_isPair 42 = .ok (.iaload, 1) := by decide +kernel
theorem dX5_isPair_43 : decode cX5_isPair 43 = .ok (.iload_n 3, 1) := by decide +kernel
theorem dX5_isPair_44 : decode cX5_isPair 44 = .ok (.invokevirtual 86, 3) := by decide +kernel
theorem dX5_isPair_47 : decode cX5_isPair 47 = .ok (.iload 5, 2) := by decide +kernel
theorem dX5_isPair_49 : decode cX5_isPair 49 = .ok (.if_icmp .eq 5, 3) := by decide +kernel
theorem dX5_isPair_52 : decode cX5_isPair 52 = .ok (.iconst 0, 1) := by decide +kernel
theorem dX5_isPair_53 : decode cX5_isPair 53 = .ok (.ireturn, 1) := by decide +kernel
theorem dX5_isPair_54 : decode cX5_isPair 54 = .ok (.aload_n 0, 1) := by decide +kernel
theorem dX5_isPair_55 : decode cX5_isPair 55 = .ok (.getfield 31, 3) := by decide +kernel
theorem dX5_isPair_58 : decode cX5_isPair 58 = .ok (.iload_n 1, 1) := by decide +kernel
theorem dX5_isPair_59 : decode cX5_isPair 59 = .ok (.iaload, 1) := by decide +kernel
theorem dX5_isPair_60 : decode cX5_isPair 60 = .ok (.aload_n 0, 1) := by decide +kernel
theorem dX5_isPair_61 : decode cX5_isPair 61 = .ok (.getfield 31, 3) := by decide +kernel
theorem dX5_isPair_64 : decode cX5_isPair 64 = .ok (.iload_n 2, 1) := by decide +kernel
theorem dX5_isPair_65 : decode cX5_isPair 65 = .ok (.iaload, 1) := by decide +kernel
theorem dX5_isPair_66 : decode cX5_isPair 66 = .ok (.ixor, 1) := by decide +kernel
theorem dX5_isPair_67 : decode cX5_isPair 67 = .ok (.iload 4, 2) := by decide +kernel
theorem dX5_isPair_69 : decode cX5_isPair 69 = .ok (.iload 5, 2) := by decide +kernel
theorem dX5_isPair_71 : decode cX5_isPair 71 = .ok (.ixor, 1) := by decide +kernel
theorem dX5_isPair_72 : decode cX5_isPair 72 = .ok (.iconst 4, 1) := by decide +kernel
theorem dX5_isPair_73 : decode cX5_isPair 73 = .ok (.iload_n 3, 1) := by decide +kernel
theorem dX5_isPair_74 : decode cX5_isPair 74 = .ok (.imul, 1) := by decide +kernel
theorem dX5_isPair_75 : decode cX5_isPair 75 = .ok (.ishl, 1) := by decide +kernel
theorem dX5_isPair_76 : decode cX5_isPair 76 = .ok (.if_icmp .ne 12, 3) := by decide +kernel
theorem dX5_isPair_79 : decode cX5_isPair 79 = .ok (.aload_n 0, 1) := by decide +kernel
theorem dX5_isPair_80 : decode cX5_isPair 80 = .ok (.iload_n 1, 1) := by decide +kernel
theorem dX5_isPair_81 : decode cX5_isPair 81 = .ok (.iload_n 2, 1) := by decide +kernel
theorem dX5_isPair_82 : decode cX5_isPair 82 = .ok (.invokevirtual 165, 3) := by decide +kernel
theorem dX5_isPair_85 : decode cX5_isPair 85 = .ok (.ifCond .ne 5, 3) := by decide +kernel
theorem dX5_isPair_88 : decode cX5_isPair 88 = .ok (.iconst 0, 1) := by decide +kernel
theorem dX5_isPair_89 : decode cX5_isPair 89 = .ok (.ireturn, 1) := by decide +kernel
theorem dX5_isPair_90 : decode cX5_isPair 90 = .ok (.aload_n 0, 1) := by decide +kernel
theorem dX5_isPair_91 : decode cX5_isPair 91 = .ok (.iload_n 1, 1) := by decide +kernel
theorem dX5_isPair_92 : decode cX5_isPair 92 = .ok (.iload 6, 2) := by decide +kernel
theorem dX5_isPair_94 : decode cX5_isPair 94 = .ok (.invokevirtual 168, 3) := by decide +kernel
theorem dX5_isPair_97 : decode cX5_isPair 97 = .ok (.ifCond .eq 17, 3) := by decide +kernel
theorem dX5_isPair_100 : decode cX5_isPair 100 = .ok (.aload_n 0, 1) := by decide +kernel
theorem dX5_isPair_101 : decode cX5_isPair 101 = .ok (.iload_n 2, 1) := by decide +kernel
theorem dX5_isPair_102 : decode cX5_isPair 102 = .ok (.iload 6, 2) := by decide +kernel
theorem dX5_isPair_104 : decode cX5_isPair 104 = .ok (.invokevirtual 168, 3) := by decide +kernel
theorem dX5_isPair_107 : decode cX5_isPair 107 = .ok (.ifCond .eq 7, 3) := by decide +kernel
theorem dX5_isPair_110 : decode cX5_isPair 110 = .ok (.iconst 1, 1) := by decide +kernel
theorem dX5_isPair_111 : decode cX5_isPair 111 = .ok (.goto 4, 3) := by decide +kernel
theorem dX5_isPair_114 : decode cX5_isPair 114 = .ok (.iconst 0, 1) := by decide +kernel
theorem dX5_isPair_115 : decode cX5_isPair 115 = .ok (.ireturn, 1) := by decide +kernel
theorem dX5_findPairs_0 : decode cX5_findPairs 0 = .ok (.aload_n 0, 1) := by decide +kernel
theorem dX5_findPairs_1 : decode cX5_findPairs 1 = .ok (.iconst 0, 1) := by decide +kernel
theorem dX5_findPairs_2 : decode cX5_findPairs 2 = .ok (.putfield 171, 3) := by decide +kernel
theorem dX5_findPairs_5 : decode cX5_findPairs 5 = .ok (.aload_n 0, 1) := by decide +kernel
theorem dX5_findPairs_6 : decode cX5_findPairs 6 = .ok (.iconst 0, 1) := by decide +kernel
theorem dX5_findPairs_7 : decode cX5_findPairs 7 = .ok (.putfield 174, 3) := by decide +kernel
theorem dX5_findPairs_10 : decode cX5_findPairs 10 = .ok (.aload_n 0, 1) := by decide +kernel
theorem dX5_findPairs_11 : decode cX5_findPairs 11 = .ok (.iconst 0, 1) := by decide +kernel
theorem dX5_findPairs_12 : decode cX5_findPairs 12 = .ok (.putfield 177, 3) := by decide +kernel
theorem dX5_findPairs_15 : decode cX5_findPairs 15 = .ok (.iconst 0, 1) := by decide +kernel
theorem dX5_findPairs_16 : decode cX5_findPairs 16 = .ok (.istore 5, 2) := by decide +kernel
theorem dX5_findPairs_18 : decode cX5_findPairs 18 = .ok (.iload 5, 2) := by decide +kernel
theorem dX5_findPairs_20 : decode cX5_findPairs 20 = .ok (.aload_n 0, 1) := by decide +kernel
theorem dX5_findPairs_21 : decode cX5_findPairs 21 = .ok (.getfield 90, 3) := by decide +kernel
theorem dX5_findPairs_24 : decode cX5_findPairs 24 = .ok (.if_icmp .ge 124, 3) := by decide +kernel
theorem dX5_findPairs_27 : decode cX5_findPairs 27 = .ok (.iconst 0, 1) := by decide +kernel
theorem dX5_findPairs_28 : decode cX5_findPairs 28 = .ok (.istore 6, 2) := by decide +kernel
theorem dX5_findPairs_30 : decode cX5_findPairs 30 = .ok (.iload 6, 2) := by decide +kernel
theorem dX5_findPairs_32 : decode cX5_findPairs 32 = .ok (.aload_n 0, 1) := by decide +kernel
theorem dX5_findPairs_33 : decode cX5_findPairs 33 = .ok (.getfield 90, 3) := by decide +kernel
theorem dX5_findPairs_36 : decode cX5_findPairs 36 = .ok (.if_icmp .ge 106, 3) := by decide +kernel
theorem dX5_findPairs_39 : decode cX5_findPairs 39 = .ok (.aload_n 0, 1) := by decide +kernel
theorem dX5_findPairs_40 : decode cX5_findPairs 40 = .ok (.iload 5, 2) := by decide +kernel
theorem dX5_findPairs_42 : decode cX5_findPairs 42 = .ok (.iload 6, 2) := by decide +kernel
theorem dX5_findPairs_44 : decode cX5_findPairs 44 = .ok (.iload_n 1, 1) := by decide +kernel
theorem dX5_findPairs_45 : decode cX5_findPairs 45 = .ok (.iload_n 2, 1) := by decide +kernel
theorem dX5_findPairs_46 : decode cX5_findPairs 46 = .ok (.iload_n 3, 1) := by decide +kernel
theorem dX5_findPairs_47 : decode cX5_findPairs 47 = .ok (.iload 4, 2) := by decide +kernel
theorem dX5_findPairs_49 : decode cX5_findPairs 49 = .ok (.invokevirtual 180, 3) := by decide +kernel
theorem dX5_findPairs_52 : decode cX5_findPairs 52 = .ok (.ifCond .ne 6, 3) := by decide +kernel
theorem dX5_findPairs_55 : decode cX5_findPairs 55 = .ok (.goto 81, 3) := by decide +kernel
theorem dX5_findPairs_58 : decode cX5_findPairs 58 = .ok (.aload_n 0, 1) := by decide +kernel
theorem dX5_findPairs_59 : decode cX5_findPairs 59 = .ok (.aload_n 0, 1) := by decide +kernel
theorem dX5_findPairs_60 : decode cX5_findPairs 60 = .ok (.getfield 171, 3) := by decide +kernel
theorem dX5_findPairs_63 : decode cX5_findPairs 63 = .ok (.iconst 1, 1) := by decide +kernel
theorem dX5_findPairs_64 : decode cX5_findPairs 64 = .ok (.iadd, 1) := by decide +kernel
theorem dX5_findPairs_65 : decode cX5_findPairs 65 = .ok (.putfield 171, 3) := by decide +kernel
theorem dX5_findPairs_68 : decode cX5_findPairs 68 = .ok (.aload_n 0, 1) := by decide +kernel
theorem dX5_findPairs_69 : decode cX5_findPairs 69 = .ok (.getfield 43, 3) := by decide +kernel
theorem dX5_findPairs_72 : decode cX5_findPairs 72 = .ok (.bipush 16, 2) := by decide +kernel
theorem dX5_findPairs_74 : decode cX5_findPairs 74 = .ok (.iload 5, 2) := by decide +kernel
theorem dX5_findPairs_76 : decode cX5_findPairs 76 = .ok (.imul, 1) := by decide +kernel
theorem dX5_findPairs_77 : decode cX5_findPairs 77 = .ok (.iload 4, 2) := by decide +kernel
theorem dX5_findPairs_79 : decode cX5_findPairs 79 = .ok (.iadd, 1) := by decide +kernel
theorem dX5_findPairs_80 : decode cX5_findPairs 80 = .ok (.iconst 1, 1) := by decide +kernel
theorem dX5_findPairs_81 : decode cX5_findPairs 81 = .ok (.isub, 1) := by decide +kernel
theorem dX5_findPairs_82 : decode cX5_findPairs 82 = .ok (.iaload, 1) := by decide +kernel
theorem dX5_findPairs_83 : decode cX5_findPairs 83 = .ok (.istore 7, 2) := by decide +kernel
theorem dX5_findPairs_85 : decode cX5_findPairs 85 = .ok (.aload_n 0, 1) := by decide +kernel
theorem dX5_findPairs_86 : decode cX5_findPairs 86 = .ok (.getfield 43, 3) := by decide +kernel
theorem dX5_findPairs_89 : decode cX5_findPairs 89 = .ok (.bipush 16, 2) := by decide +kernel
theorem dX5_findPairs_91 : decode cX5_findPairs 91 = .ok (.iload 6, 2) := by decide +kernel
theorem dX5_findPairs_93 : decode cX5_findPairs 93 = .ok (.imul, 1) := by decide +kernel
theorem dX5_findPairs_94 : decode cX5_findPairs 94 = .ok (.iload 4, 2) := by decide +kernel
theorem dX5_findPairs_96 : decode cX5_findPairs 96 = .ok (.iadd, 1) := by decide +kernel
theorem dX5_findPairs_97 : decode cX5_findPairs 97 = .ok (.iconst 1, 1) := by decide +kernel
theorem dX5_findPairs_98 : decode cX5_findPairs 98 = .ok (.isub, 1) := by decide +kernel
theorem dX5_findPairs_99 : decode cX5_findPairs 99 = .ok (.iaload, 1) := by decide +kernel
theorem dX5_findPairs_100 : decode cX5_findPairs 100 = .ok (.istore 8, 2) := by decide +kernel
theorem dX5_findPairs_102 : decode cX5_findPairs 102 = .ok (.iload 8, 2) := by decide +kernel
theorem dX5_findPairs_104 : decode cX5_findPairs 104 = .ok (.iload 7, 2) := by decide +kernel
theorem dX5_findPairs_106 : decode cX5_findPairs 106 = .ok (.if_icmp .le 13, 3) := by decide +kernel
theorem dX5_findPairs_109 : decode cX5_findPairs 109 = .ok (.aload_n 0, 1) := by decide +kernel
theorem dX5_findPairs_110 : decode cX5_findPairs 110 = .ok (.aload_n 0, 1) := by decide +kernel
theorem dX5_findPairs_111 : decode cX5_findPairs 111 = .ok (.getfield 174, 3) := by decide +kernel
theorem dX5_findPairs_114 : decode cX5_findPairs 114 = .ok (.iconst 1, 1) := by decide +kernel
theorem dX5_findPairs_115 : decode cX5_findPairs 115 = .ok (.iadd, 1) := by decide +kernel
theorem dX5_findPairs_116 : decode cX5_findPairs 116 = .ok (.putfield 174, 3) := by decide +kernel
theorem dX5_findPairs_119 : decode cX5_findPairs 119 = .ok (.iload 8, 2) := by decide +kernel
theorem dX5_findPairs_121 : decode cX5_findPairs 121 = .ok (.iload 7, 2) := by decide +kernel
theorem dX5_findPairs_123 : decode cX5_findPairs 123 = .ok (.if_icmp .ge 13, 3) := by decide +kernel
theorem dX5_findPairs_126 : decode cX5_findPairs 126 = .ok (.aload_n 0, 1) := by decide +kernel
theorem dX5_findPairs_127 : decode cX5_findPairs 127 = .ok (.aload_n 0, 1) := by decide +kernel
theorem dX5_findPairs_128 : decode cX5_findPairs 128 = .ok (.getfield 177, 3) := by decide +kernel
theorem dX5_findPairs_131 : decode cX5_findPairs 131 = .ok (.iconst 1, 1) := by decide +kernel
theorem dX5_findPairs_132 : decode cX5_findPairs 132 = .ok (.iadd, 1) := by decide +kernel
theorem dX5_findPairs_133 : decode cX5_findPairs 133 = .ok (.putfield 177, 3) := by decide +kernel
theorem dX5_findPairs_136 : decode cX5_findPairs 136 = .ok (.iinc 6 1, 3) := by decide +kernel
theorem dX5_findPairs_139 : decode cX5_findPairs 139 = .ok (.goto (-109), 3) := by decide +kernel
theorem dX5_findPairs_142 : decode cX5_findPairs 142 = .ok (.iinc 5 1, 3) := by decide +kernel
theorem dX5_findPairs_145 : decode cX5_findPairs 145 = .ok (.goto (-127), 3) := by decide +kernel
theorem dX5_findPairs_148 : decode cX5_findPairs 148 = .ok (.return_, 1) := by decide +kernel
theorem dX5_canPair_0 : decode cX5_canPair 0 = .ok (.iload_n 1, 1) := by decide +kernel
theorem dX5_canPair_1 : decode cX5_canPair 1 = .ok (.ifCond .lt 46, 3) := by decide +kernel
theorem dX5_canPair_4 : decode cX5_canPair 4 = .ok (.iload_n 1, 1) := by decide +kernel
theorem dX5_canPair_5 : decode cX5_canPair 5 = .ok (.iconst 4, 1) := by decide +kernel
theorem dX5_canPair_6 : decode cX5_canPair 6 = .ok (.if_icmp .ge 41, 3) := by decide +kernel
theorem dX5_canPair_9 : decode cX5_canPair 9 = .ok (.iload_n 2, 1) := by decide +kernel
theorem dX5_canPair_10 : decode cX5_canPair 10 = .ok (.ifCond .lt 37, 3) := by decide +kernel
theorem dX5_canPair_13 : decode cX5_canPair 13 = .ok (.iload_n 2, 1) := by decide +kernel
theorem dX5_canPair_14 : decode cX5_canPair 14 = .ok (.bipush 6, 2) := by decide +kernel
theorem dX5_canPair_16 : decode cX5_canPair 16 = .ok (.if_icmp .ge 31, 3) := by decide +kernel
theorem dX5_canPair_19 : decode cX5_canPair 19 = .ok (.iload_n 3, 1) := by decide +kernel
theorem dX5_canPair_20 : decode cX5_canPair 20 = .ok (.ifCond .lt 27, 3) := by decide +kernel
theorem dX5_canPair_23 : decode cX5_canPair 23 = .ok (.iload_n 3, 1) := by decide +kernel
theorem dX5_canPair_24 : decode cX5_canPair 24 = .ok (.bipush 6, 2) := by decide +kernel
theorem dX5_canPair_26 : decode cX5_canPair 26 = .ok (.if_icmp .ge 21, 3) := by decide +kernel
theorem dX5_canPair_29 : decode cX5_canPair 29 = .ok (.iload_n 2, 1) := by decide +kernel
theorem dX5_canPair_30 : decode cX5_canPair 30 = .ok (.iload_n 3, 1) := by decide +kernel
theorem dX5_canPair_31 : decode cX5_canPair 31 = .ok (.if_icmp .eq 16, 3) := by decide +kernel
theorem dX5_canPair_34 : decode cX5_canPair 34 = .ok (.aload_n 0, 1) := by decide +kernel
theorem dX5_canPair_35 : decode cX5_canPair 35 = .ok (.iload 4, 2) := by decide +kernel
theorem dX5_canPair_37 : decode cX5_canPair 37 = .ok (.invokevirtual 131, 3) := by decide +kernel
theorem dX5_canPair_40 : decode cX5_canPair 40 = .ok (.ifCond .eq 7, 3) := by decide +kernel
theorem dX5_canPair_43 : decode cX5_canPair 43 = .ok (.iconst 1, 1) := by decide +kernel
theorem dX5_canPair_44 : decode cX5_canPair 44 = .ok (.goto 4, 3) := by decide +kernel
theorem dX5_canPair_47 : decode cX5_canPair 47 = .ok (.iconst 0, 1) := by decide +kernel
theorem dX5_canPair_48 : decode cX5_canPair 48 = .ok (.ireturn, 1) := by decide +kernel
theorem dX5_pairs_0 : decode cX5_pairs 0 = .ok (.aload_n 0, 1) := by decide +kernel
theorem dX5_pairs_1 : decode cX5_pairs 1 = .ok (.iconst 0, 1) := by decide +kernel
theorem dX5_pairs_2 : decode cX5_pairs 2 = .ok (.putfield 77, 3) := by decide +kernel
theorem dX5_pairs_5 : decode cX5_pairs 5 = .ok (.aload_n 0, 1) := by decide +kernel
theorem dX5_pairs_6 : decode cX5_pairs 6 = .ok (.iload_n 1, 1) := by decide +kernel
theorem dX5_pairs_7 : decode cX5_pairs 7 = .ok (.iload_n 2, 1) := by decide +kernel
theorem dX5_pairs_8 : decode cX5_pairs 8 = .ok (.iload_n 3, 1) := by decide +kernel
theorem dX5_pairs_9 : decode cX5_pairs 9 = .ok (.iload 4, 2) := by decide +kernel
theorem dX5_pairs_11 : decode cX5_pairs 11 = .ok (.invokevirtual 184, 3) := by decide +kernel
theorem dX5_pairs_14 : decode cX5_pairs 14 = .ok (.ifCond .eq 14, 3) := by decide +kernel
theorem dX5_pairs_17 : decode cX5_pairs 17 = .ok (.iload 5, 2) := by decide +kernel
theorem dX5_pairs_19 : decode cX5_pairs 19 = .ok (.ifCond .lt 9, 3) := by decide +kernel
theorem dX5_pairs_22 : decode cX5_pairs 22 = .ok (.iload 5, 2) := by decide +kernel
theorem dX5_pairs_24 : decode cX5_pairs 24 = .ok (.iconst 2, 1) := by decide +kernel
theorem dX5_pairs_25 : decode cX5_pairs 25 = .ok (.if_icmp .le 5, 3) := by decide +kernel
theorem dX5_pairs_28 : decode cX5_pairs 28 = .ok (.iconst (-1), 1) := by decide +kernel
theorem dX5_pairs_29 : decode cX5_pairs 29 = .ok (.ireturn, 1) := by decide +kernel
theorem dX5_pairs_30 : decode cX5_pairs 30 = .ok (.aload_n 0, 1) := by decide +kernel
theorem dX5_pairs_31 : decode cX5_pairs 31 = .ok (.iload_n 1, 1) := by decide +kernel
theorem dX5_pairs_32 : decode cX5_pairs 32 = .ok (.iload_n 2, 1) := by decide +kernel
theorem dX5_pairs_33 : decode cX5_pairs 33 = .ok (.iload_n 3, 1) := by decide +kernel
theorem dX5_pairs_34 : decode cX5_pairs 34 = .ok (.iload 4, 2) := by decide +kernel
theorem dX5_pairs_36 : decode cX5_pairs 36 = .ok (.invokevirtual 188, 3) := by decide +kernel
theorem dX5_pairs_39 : decode cX5_pairs 39 = .ok (.iload 5, 2) := by decide +kernel
theorem dX5_pairs_41 : decode cX5_pairs 41 = .ok (.ifCond .ne 10, 3) := by decide +kernel
theorem dX5_pairs_44 : decode cX5_pairs 44 = .ok (.aload_n 0, 1) := by decide +kernel
theorem dX5_pairs_45 : decode cX5_pairs 45 = .ok (.getfield 171, 3) := by decide +kernel
theorem dX5_pairs_48 : decode cX5_pairs 48 = .ok (.goto 20, 3) := by decide +kernel
theorem dX5_pairs_51 : decode cX5_pairs 51 = .ok (.iload 5, 2) := by decide +kernel
theorem dX5_pairs_53 : decode cX5_pairs 53 = .ok (.iconst 1, 1) := by decide +kernel
theorem dX5_pairs_54 : decode cX5_pairs 54 = .ok (.if_icmp .ne 10, 3) := by decide +kernel
theorem dX5_pairs_57 : decode cX5_pairs 57 = .ok (.aload_n 0, 1) := by decide +kernel
theorem dX5_pairs_58 : decode cX5_pairs 58 = .ok (.getfield 174, 3) := by decide +kernel
theorem dX5_pairs_61 : decode cX5_pairs 61 = .ok (.goto 7, 3) := by decide +kernel
theorem dX5_pairs_64 : decode cX5_pairs 64 = .ok (.aload_n 0, 1) := by decide +kernel
theorem dX5_pairs_65 : decode cX5_pairs 65 = .ok (.getfield 177, 3) := by decide +kernel
theorem dX5_pairs_68 : decode cX5_pairs 68 = .ok (.ireturn, 1) := by decide +kernel
theorem dX5_pair_0 : decode cX5_pair 0 = .ok (.aload_n 0, 1) := by decide +kernel
theorem dX5_pair_1 : decode cX5_pair 1 = .ok (.iconst 0, 1) := by decide +kernel
theorem dX5_pair_2 : decode cX5_pair 2 = .ok (.putfield 77, 3) := by decide +kernel
theorem dX5_pair_5 : decode cX5_pair 5 = .ok (.aload_n 0, 1) := by decide +kernel
theorem dX5_pair_6 : decode cX5_pair 6 = .ok (.iload_n 1, 1) := by decide +kernel
theorem dX5_pair_7 : decode cX5_pair 7 = .ok (.iload_n 2, 1) := by decide +kernel
theorem dX5_pair_8 : decode cX5_pair 8 = .ok (.iload_n 3, 1) := by decide +kernel
theorem dX5_pair_9 : decode cX5_pair 9 = .ok (.iload 4, 2) := by decide +kernel
theorem dX5_pair_11 : decode cX5_pair 11 = .ok (.invokevirtual 184, 3) := by decide +kernel
theorem dX5_pair_14 : decode cX5_pair 14 = .ok (.ifCond .eq 19, 3) := by decide +kernel
theorem dX5_pair_17 : decode cX5_pair 17 = .ok (.iload 5, 2) := by decide +kernel
theorem dX5_pair_19 : decode cX5_pair 19 = .ok (.ifCond .lt 14, 3) := by decide +kernel
theorem dX5_pair_22 : decode cX5_pair 22 = .ok (.iload 6, 2) := by decide +kernel
theorem dX5_pair_24 : decode cX5_pair 24 = .ok (.ifCond .lt 9, 3) := by decide +kernel
theorem dX5_pair_27 : decode cX5_pair 27 = .ok (.iload 6, 2) := by decide +kernel
theorem dX5_pair_29 : decode cX5_pair 29 = .ok (.iconst 1, 1) := by decide +kernel
theorem dX5_pair_30 : decode cX5_pair 30 = .ok (.if_icmp .le 5, 3) := by decide +kernel
theorem dX5_pair_33 : decode cX5_pair 33 = .ok (.iconst (-1), 1) := by decide +kernel
theorem dX5_pair_34 : decode cX5_pair 34 = .ok (.ireturn, 1) := by decide +kernel
theorem dX5_pair_35 : decode cX5_pair 35 = .ok (.iconst 0, 1) := by decide +kernel
theorem dX5_pair_36 : decode cX5_pair 36 = .ok (.istore 7, 2) := by decide +kernel
theorem dX5_pair_38 : decode cX5_pair 38 = .ok (.iconst 0, 1) := by decide +kernel
theorem dX5_pair_39 : decode cX5_pair 39 = .ok (.istore 8, 2) := by decide +kernel
theorem dX5_pair_41 : decode cX5_pair 41 = .ok (.iload 8, 2) := by decide +kernel
theorem dX5_pair_43 : decode cX5_pair 43 = .ok (.aload_n 0, 1) := by decide +kernel
theorem dX5_pair_44 : decode cX5_pair 44 = .ok (.getfield 90, 3) := by decide +kernel
theorem dX5_pair_47 : decode cX5_pair 47 = .ok (.if_icmp .ge 72, 3) := by decide +kernel
theorem dX5_pair_50 : decode cX5_pair 50 = .ok (.iconst 0, 1) := by decide +kernel
theorem dX5_pair_51 : decode cX5_pair 51 = .ok (.istore 9, 2) := by decide +kernel
theorem dX5_pair_53 : decode cX5_pair 53 = .ok (.iload 9, 2) := by decide +kernel
theorem dX5_pair_55 : decode cX5_pair 55 = .ok (.aload_n 0, 1) := by decide +kernel
theorem dX5_pair_56 : decode cX5_pair 56 = .ok (.getfield 90, 3) := by decide +kernel
theorem dX5_pair_59 : decode cX5_pair 59 = .ok (.if_icmp .ge 54, 3) := by decide +kernel
theorem dX5_pair_62 : decode cX5_pair 62 = .ok (.aload_n 0, 1) := by decide +kernel
theorem dX5_pair_63 : decode cX5_pair 63 = .ok (.iload 8, 2) := by decide +kernel
theorem dX5_pair_65 : decode cX5_pair 65 = .ok (.iload 9, 2) := by decide +kernel
theorem dX5_pair_67 : decode cX5_pair 67 = .ok (.iload_n 1, 1) := by decide +kernel
theorem dX5_pair_68 : decode cX5_pair 68 = .ok (.iload_n 2, 1) := by decide +kernel
theorem dX5_pair_69 : decode cX5_pair 69 = .ok (.iload_n 3, 1) := by decide +kernel
theorem dX5_pair_70 : decode cX5_pair 70 = .ok (.iload 4, 2) := by decide +kernel
theorem dX5_pair_72 : decode cX5_pair 72 = .ok (.invokevirtual 180, 3) := by decide +kernel
theorem dX5_pair_75 : decode cX5_pair 75 = .ok (.ifCond .ne 6, 3) := by decide +kernel
theorem dX5_pair_78 : decode cX5_pair 78 = .ok (.goto 29, 3) := by decide +kernel
theorem dX5_pair_81 : decode cX5_pair 81 = .ok (.iload 7, 2) := by decide +kernel
theorem dX5_pair_83 : decode cX5_pair 83 = .ok (.iload 5, 2) := by decide +kernel
theorem dX5_pair_85 : decode cX5_pair 85 = .ok (.if_icmp .ne 16, 3) := by decide +kernel
theorem dX5_pair_88 : decode cX5_pair 88 = .ok (.iload 6, 2) := by decide +kernel
theorem dX5_pair_90 : decode cX5_pair 90 = .ok (.ifCond .ne 8, 3) := by decide +kernel
theorem dX5_pair_93 : decode cX5_pair 93 = .ok (.iload 8, 2) := by decide +kernel
theorem dX5_pair_95 : decode cX5_pair 95 = .ok (.goto 5, 3) := by decide +kernel
theorem dX5_pair_98 : decode cX5_pair 98 = .ok (.iload 9, 2) := by decide +kernel
theorem dX5_pair_100 : decode cX5_pair 100 = .ok (.ireturn, 1) := by decide +kernel
theorem dX5_pair_101 : decode cX5_pair 101 = .ok (.iload 7, 2) := by decide +kernel
theorem dX5_pair_103 : decode cX5_pair 103 = .ok (.iconst 1, 1) := by decide +kernel
theorem dX5_pair_104 : decode cX5_pair 104 = .ok (.iadd, 1) := by decide +kernel
theorem dX5_pair_105 : decode cX5_pair 105 = .ok (.istore 7, 2) := by decide +kernel
theorem dX5_pair_107 : decode cX5_pair 107 = .ok (.iinc 9 1, 3) := by decide +kernel
theorem dX5_pair_110 : decode cX5_pair 110 = .ok (.goto (-57), 3) := by decide +kernel
theorem dX5_pair_113 : decode cX5_pair 113 = .ok (.iinc 8 1, 3) := by decide +kernel
theorem dX5_pair_116 : decode cX5_pair 116 = .ok (.goto (-75), 3) := by decide +kernel
theorem dX5_pair_119 : decode cX5_pair 119 = .ok (.iconst (-1), 1) := by decide +kernel
theorem dX5_pair_120 : decode cX5_pair 120 = .ok (.ireturn, 1) := by decide +kernel
theorem dX5_overs_0 : decode cX5_overs 0 = .ok (.lconst 0, 1) := by decide +kernel
theorem dX5_overs_1 : decode cX5_overs 1 = .ok (.lstore_n 3, 1) := by decide +kernel
theorem dX5_overs_2 : decode cX5_overs 2 = .ok (.lconst 1, 1) := by decide +kernel
theorem dX5_overs_3 : decode cX5_overs 3 = .ok (.lstore 5, 2) := by decide +kernel
theorem dX5_overs_5 : decode cX5_overs 5 = .ok (.iconst 0, 1) := by decide +kernel
theorem dX5_overs_6 : decode cX5_overs 6 = .ok (.istore 7, 2) := by decide +kernel
theorem dX5_overs_8 : decode cX5_overs 8 = .ok (.iload 7, 2) := by decide +kernel
theorem dX5_overs_10 : decode cX5_overs 10 = .ok (.iload_n 1, 1) := by decide +kernel
theorem dX5_overs_11 : decode cX5_overs 11 = .ok (.if_icmp .gt 36, 3) := by decide +kernel
theorem dX5_overs_14 : decode cX5_overs 14 = .ok (.iload 7, 2) := by decide +kernel
theorem dX5_overs_16 : decode cX5_overs 16 = .ok (.iload_n 2, 1) := by decide +kernel
theorem dX5_overs_17 : decode cX5_overs 17 = .ok (.if_icmp .lt 8, 3) := by decide +kernel
theorem dX5_overs_20 : decode cX5_overs 20 = .ok (.lload_n 3, 1) := by decide +kernel
theorem dX5_overs_21 : decode cX5_overs 21 = .ok (.lload 5, 2) := by decide +kernel
theorem dX5_overs_23 : decode cX5_overs 23 = .ok (.ladd, 1) := by decide +kernel
theorem dX5_overs_24 : decode cX5_overs 24 = .ok (.lstore_n 3, 1) := by decide +kernel
theorem dX5_overs_25 : decode cX5_overs 25 = .ok (.lload 5, 2) := by decide +kernel
theorem dX5_overs_27 : decode cX5_overs 27 = .ok (.iload_n 1, 1) := by decide +kernel
theorem dX5_overs_28 : decode cX5_overs 28 = .ok (.iload 7, 2) := by decide +kernel
theorem dX5_overs_30 : decode cX5_overs 30 = .ok (.isub, 1) := by decide +kernel
theorem dX5_overs_31 : decode cX5_overs 31 = .ok (.i2l, 1) := by decide +kernel
theorem dX5_overs_32 : decode cX5_overs 32 = .ok (.lmul, 1) := by decide +kernel
theorem dX5_overs_33 : decode cX5_overs 33 = .ok (.iload 7, 2) := by decide +kernel
theorem dX5_overs_35 : decode cX5_overs 35 = .ok (.iconst 1, 1) := by decide +kernel
theorem dX5_overs_36 : decode cX5_overs 36 = .ok (.iadd, 1) := by decide +kernel
theorem dX5_overs_37 : decode cX5_overs 37 = .ok (.i2l, 1) := by decide +kernel
theorem dX5_overs_38 : decode cX5_overs 38 = .ok (.ldiv, 1) := by decide +kernel
theorem dX5_overs_39 : decode cX5_overs 39 = .ok (.lstore 5, 2) := by decide +kernel
theorem dX5_overs_41 : decode cX5_overs 41 = .ok (.iinc 7 1, 3) := by decide +kernel
theorem dX5_overs_44 : decode cX5_overs 44 = .ok (.goto (-36), 3) := by decide +kernel
theorem dX5_overs_47 : decode cX5_overs 47 = .ok (.lload_n 3, 1) := by decide +kernel
theorem dX5_overs_48 : decode cX5_overs 48 = .ok (.lreturn, 1) := by decide +kernel
theorem dX5_sureOf_0 : decode cX5_sureOf 0 = .ok (.aload_n 0, 1) := by decide +kernel
theorem dX5_sureOf_1 : decode cX5_sureOf 1 = .ok (.iload_n 1, 1) := by decide +kernel
theorem dX5_sureOf_2 : decode cX5_sureOf 2 = .ok (.iload_n 2, 1) := by decide +kernel
theorem dX5_sureOf_3 : decode cX5_sureOf 3 = .ok (.iload_n 3, 1) := by decide +kernel
theorem dX5_sureOf_4 : decode cX5_sureOf 4 = .ok (.iload 4, 2) := by decide +kernel
theorem dX5_sureOf_6 : decode cX5_sureOf 6 = .ok (.invokevirtual 188, 3) := by decide +kernel
theorem dX5_sureOf_9 : decode cX5_sureOf 9 = .ok (.aload_n 0, 1) := by decide +kernel
theorem dX5_sureOf_10 : decode cX5_sureOf 10 = .ok (.getfield 174, 3) := by decide +kernel
theorem dX5_sureOf_13 : decode cX5_sureOf 13 = .ok (.aload_n 0, 1) := by decide +kernel
theorem dX5_sureOf_14 : decode cX5_sureOf 14 = .ok (.getfield 177, 3) := by decide +kernel
theorem dX5_sureOf_17 : decode cX5_sureOf 17 = .ok (.iadd, 1) := by decide +kernel
theorem dX5_sureOf_18 : decode cX5_sureOf 18 = .ok (.istore 7, 2) := by decide +kernel
theorem dX5_sureOf_20 : decode cX5_sureOf 20 = .ok (.iload 7, 2) := by decide +kernel
theorem dX5_sureOf_22 : decode cX5_sureOf 22 = .ok (.bipush 30, 2) := by decide +kernel
theorem dX5_sureOf_24 : decode cX5_sureOf 24 = .ok (.if_icmp .le 5, 3) := by decide +kernel
theorem dX5_sureOf_27 : decode cX5_sureOf 27 = .ok (.iconst (-1), 1) := by decide +kernel
theorem dX5_sureOf_28 : decode cX5_sureOf 28 = .ok (.ireturn, 1) := by decide +kernel
theorem dX5_sureOf_29 : decode cX5_sureOf 29 = .ok (.lload 5, 2) := by decide +kernel
theorem dX5_sureOf_31 : decode cX5_sureOf 31 = .ok (.aload_n 0, 1) := by decide +kernel
theorem dX5_sureOf_32 : decode cX5_sureOf 32 = .ok (.iload 7, 2) := by decide +kernel
theorem dX5_sureOf_34 : decode cX5_sureOf 34 = .ok (.aload_n 0, 1) := by decide +kernel
theorem dX5_sureOf_35 : decode cX5_sureOf 35 = .ok (.getfield 174, 3) := by decide +kernel
theorem dX5_sureOf_38 : decode cX5_sureOf 38 = .ok (.invokevirtual 192, 3) := by decide +kernel
theorem dX5_sureOf_41 : decode cX5_sureOf 41 = .ok (.lmul, 1) := by decide +kernel
theorem dX5_sureOf_42 : decode cX5_sureOf 42 = .ok (.lconst 1, 1) := by decide +kernel
theorem dX5_sureOf_43 : decode cX5_sureOf 43 = .ok (.iload 7, 2) := by decide +kernel
theorem dX5_sureOf_45 : decode cX5_sureOf 45 = .ok (.lshl, 1) := by decide +kernel
theorem dX5_sureOf_46 : decode cX5_sureOf 46 = .ok (.lcmp, 1) := by decide +kernel
theorem dX5_sureOf_47 : decode cX5_sureOf 47 = .ok (.ifCond .gt 7, 3) := by decide +kernel
theorem dX5_sureOf_50 : decode cX5_sureOf 50 = .ok (.iconst 1, 1) := by decide +kernel
theorem dX5_sureOf_51 : decode cX5_sureOf 51 = .ok (.goto 4, 3) := by decide +kernel
theorem dX5_sureOf_54 : decode cX5_sureOf 54 = .ok (.iconst 0, 1) := by decide +kernel
theorem dX5_sureOf_55 : decode cX5_sureOf 55 = .ok (.ireturn, 1) := by decide +kernel
theorem dX5_sure_0 : decode cX5_sure 0 = .ok (.aload_n 0, 1) := by decide +kernel
theorem dX5_sure_1 : decode cX5_sure 1 = .ok (.iconst 0, 1) := by decide +kernel
theorem dX5_sure_2 : decode cX5_sure 2 = .ok (.putfield 77, 3) := by decide +kernel
theorem dX5_sure_5 : decode cX5_sure 5 = .ok (.aload_n 0, 1) := by decide +kernel
theorem dX5_sure_6 : decode cX5_sure 6 = .ok (.iload_n 1, 1) := by decide +kernel
theorem dX5_sure_7 : decode cX5_sure 7 = .ok (.iload_n 2, 1) := by decide +kernel
theorem dX5_sure_8 : decode cX5_sure 8 = .ok (.iload_n 3, 1) := by decide +kernel
theorem dX5_sure_9 : decode cX5_sure 9 = .ok (.iload 4, 2) := by decide +kernel
theorem dX5_sure_11 : decode cX5_sure 11 = .ok (.invokevirtual 184, 3) := by decide +kernel
theorem dX5_sure_14 : decode cX5_sure 14 = .ok (.ifCond .eq 30, 3) := by decide +kernel
theorem dX5_sure_17 : decode cX5_sure 17 = .ok (.iload 5, 2) := by decide +kernel
theorem dX5_sure_19 : decode cX5_sure 19 = .ok (.iconst 1, 1) := by decide +kernel
theorem dX5_sure_20 : decode cX5_sure 20 = .ok (.if_icmp .lt 24, 3) := by decide +kernel
theorem dX5_sure_23 : decode cX5_sure 23 = .ok (.iload 5, 2) := by decide +kernel
theorem dX5_sure_25 : decode cX5_sure 25 = .ok (.sipush 1000, 3) := by decide +kernel
theorem dX5_sure_28 : decode cX5_sure 28 = .ok (.if_icmp .gt 16, 3) := by decide +kernel
theorem dX5_sure_31 : decode cX5_sure 31 = .ok (.iload 6, 2) := by decide +kernel
theorem dX5_sure_33 : decode cX5_sure 33 = .ok (.iconst 1, 1) := by decide +kernel
theorem dX5_sure_34 : decode cX5_sure 34 = .ok (.if_icmp .lt 10, 3) := by decide +kernel
theorem dX5_sure_37 : decode cX5_sure 37 = .ok (.iload 6, 2) := by decide +kernel
theorem dX5_sure_39 : decode cX5_sure 39 = .ok (.ldc 196, 2) := by decide +kernel
theorem dX5_sure_41 : decode cX5_sure 41 = .ok (.if_icmp .le 7, 3) := by decide +kernel
theorem dX5_sure_44 : decode cX5_sure 44 = .ok (.iconst (-1), 1) := by decide +kernel
theorem dX5_sure_45 : decode cX5_sure 45 = .ok (.goto 19, 3) := by decide +kernel
theorem dX5_sure_48 : decode cX5_sure 48 = .ok (.aload_n 0, 1) := by decide +kernel
theorem dX5_sure_49 : decode cX5_sure 49 = .ok (.iload_n 1, 1) := by decide +kernel
theorem dX5_sure_50 : decode cX5_sure 50 = .ok (.iload_n 2, 1) := by decide +kernel
theorem dX5_sure_51 : decode cX5_sure 51 = .ok (.iload_n 3, 1) := by decide +kernel
theorem dX5_sure_52 : decode cX5_sure 52 = .ok (.iload 4, 2) := by decide +kernel
theorem dX5_sure_54 : decode cX5_sure 54 = .ok (.iload 5, 2) := by decide +kernel
theorem dX5_sure_56 : decode cX5_sure 56 = .ok (.i2l, 1) := by decide +kernel
theorem dX5_sure_57 : decode cX5_sure 57 = .ok (.iload 6, 2) := by decide +kernel
theorem dX5_sure_59 : decode cX5_sure 59 = .ok (.i2l, 1) := by decide +kernel
theorem dX5_sure_60 : decode cX5_sure 60 = .ok (.lmul, 1) := by decide +kernel
theorem dX5_sure_61 : decode cX5_sure 61 = .ok (.invokevirtual 197, 3) := by decide +kernel
theorem dX5_sure_64 : decode cX5_sure 64 = .ok (.ireturn, 1) := by decide +kernel
theorem dX5_best_0 : decode cX5_best 0 = .ok (.aload_n 0, 1) := by decide +kernel
theorem dX5_best_1 : decode cX5_best 1 = .ok (.iconst 0, 1) := by decide +kernel
theorem dX5_best_2 : decode cX5_best 2 = .ok (.putfield 77, 3) := by decide +kernel
theorem dX5_best_5 : decode cX5_best 5 = .ok (.iload_n 1, 1) := by decide +kernel
theorem dX5_best_6 : decode cX5_best 6 = .ok (.ifCond .lt 37, 3) := by decide +kernel
theorem dX5_best_9 : decode cX5_best 9 = .ok (.iload_n 1, 1) := by decide +kernel
theorem dX5_best_10 : decode cX5_best 10 = .ok (.iconst 3, 1) := by decide +kernel
theorem dX5_best_11 : decode cX5_best 11 = .ok (.if_icmp .gt 32, 3) := by decide +kernel
theorem dX5_best_14 : decode cX5_best 14 = .ok (.aload_n 0, 1) := by decide +kernel
theorem dX5_best_15 : decode cX5_best 15 = .ok (.iload_n 2, 1) := by decide +kernel
theorem dX5_best_16 : decode cX5_best 16 = .ok (.invokevirtual 131, 3) := by decide +kernel
theorem dX5_best_19 : decode cX5_best 19 = .ok (.ifCond .eq 24, 3) := by decide +kernel
theorem dX5_best_22 : decode cX5_best 22 = .ok (.iload_n 3, 1) := by decide +kernel
theorem dX5_best_23 : decode cX5_best 23 = .ok (.iconst 1, 1) := by decide +kernel
theorem dX5_best_24 : decode cX5_best 24 = .ok (.if_icmp .lt 19, 3) := by decide +kernel
theorem dX5_best_27 : decode cX5_best 27 = .ok (.iload_n 3, 1) := by decide +kernel
theorem dX5_best_28 : decode cX5_best 28 = .ok (.ldc 196, 2) := by decide +kernel
theorem dX5_best_30 : decode cX5_best 30 = .ok (.if_icmp .gt 13, 3) := by decide +kernel
theorem dX5_best_33 : decode cX5_best 33 = .ok (.aload_n 0, 1) := by decide +kernel
theorem dX5_best_34 : decode cX5_best 34 = .ok (.getfield 19, 3) := by decide +kernel
theorem dX5_best_37 : decode cX5_best 37 = .ok (.iload_n 1, 1) := by decide +kernel
theorem dX5_best_38 : decode cX5_best 38 = .ok (.iaload, 1) := by decide +kernel
theorem dX5_best_39 : decode cX5_best 39 = .ok (.iconst 2, 1) := by decide +kernel
theorem dX5_best_40 : decode cX5_best 40 = .ok (.if_icmp .ge 5, 3) := by decide +kernel
theorem dX5_best_43 : decode cX5_best 43 = .ok (.iconst (-1), 1) := by decide +kernel
theorem dX5_best_44 : decode cX5_best 44 = .ok (.ireturn, 1) := by decide +kernel
theorem dX5_best_45 : decode cX5_best 45 = .ok (.iconst 0, 1) := by decide +kernel
theorem dX5_best_46 : decode cX5_best 46 = .ok (.istore 4, 2) := by decide +kernel
theorem dX5_best_48 : decode cX5_best 48 = .ok (.iload 4, 2) := by decide +kernel
theorem dX5_best_50 : decode cX5_best 50 = .ok (.aload_n 0, 1) := by decide +kernel
theorem dX5_best_51 : decode cX5_best 51 = .ok (.getfield 19, 3) := by decide +kernel
theorem dX5_best_54 : decode cX5_best 54 = .ok (.iload_n 1, 1) := by decide +kernel
theorem dX5_best_55 : decode cX5_best 55 = .ok (.iaload, 1) := by decide +kernel
theorem dX5_best_56 : decode cX5_best 56 = .ok (.if_icmp .ge 93, 3) := by decide +kernel
theorem dX5_best_59 : decode cX5_best 59 = .ok (.iconst 1, 1) := by decide +kernel
theorem dX5_best_60 : decode cX5_best 60 = .ok (.istore 5, 2) := by decide +kernel
theorem dX5_best_62 : decode cX5_best 62 = .ok (.iconst 0, 1) := by decide +kernel
theorem dX5_best_63 : decode cX5_best 63 = .ok (.istore 6, 2) := by decide +kernel
theorem dX5_best_65 : decode cX5_best 65 = .ok (.iload 6, 2) := by decide +kernel
theorem dX5_best_67 : decode cX5_best 67 = .ok (.aload_n 0, 1) := by decide +kernel
theorem dX5_best_68 : decode cX5_best 68 = .ok (.getfield 19, 3) := by decide +kernel
theorem dX5_best_71 : decode cX5_best 71 = .ok (.iload_n 1, 1) := by decide +kernel
theorem dX5_best_72 : decode cX5_best 72 = .ok (.iaload, 1) := by decide +kernel
theorem dX5_best_73 : decode cX5_best 73 = .ok (.if_icmp .ge 62, 3) := by decide +kernel
theorem dX5_best_76 : decode cX5_best 76 = .ok (.iload 5, 2) := by decide +kernel
theorem dX5_best_78 : decode cX5_best 78 = .ok (.ifCond .eq 57, 3) := by decide +kernel
theorem dX5_best_81 : decode cX5_best 81 = .ok (.iload 6, 2) := by decide +kernel
theorem dX5_best_83 : decode cX5_best 83 = .ok (.iload 4, 2) := by decide +kernel
theorem dX5_best_85 : decode cX5_best 85 = .ok (.if_icmp .eq 37, 3) := by decide +kernel
theorem dX5_best_88 : decode cX5_best 88 = .ok (.aload_n 0, 1) := by decide +kernel
theorem dX5_best_89 : decode cX5_best 89 = .ok (.iload_n 1, 1) := by decide +kernel
theorem dX5_best_90 : decode cX5_best 90 = .ok (.iload 6, 2) := by decide +kernel
theorem dX5_best_92 : decode cX5_best 92 = .ok (.iload 4, 2) := by decide +kernel
theorem dX5_best_94 : decode cX5_best 94 = .ok (.iload_n 2, 1) := by decide +kernel
theorem dX5_best_95 : decode cX5_best 95 = .ok (.aload_n 0, 1) := by decide +kernel
theorem dX5_best_96 : decode cX5_best 96 = .ok (.getfield 19, 3) := by decide +kernel
theorem dX5_best_99 : decode cX5_best 99 = .ok (.iload_n 1, 1) := by decide +kernel
theorem dX5_best_100 : decode cX5_best 100 = .ok (.iaload, 1) := by decide +kernel
theorem dX5_best_101 : decode cX5_best 101 = .ok (.i2l, 1) := by decide +kernel
theorem dX5_best_102 : decode cX5_best 102 = .ok (.aload_n 0, 1) := by decide +kernel
theorem dX5_best_103 : decode cX5_best 103 = .ok (.getfield 19, 3) := by decide +kernel
theorem dX5_best_106 : decode cX5_best 106 = .ok (.iload_n 1, 1) := by decide +kernel
theorem dX5_best_107 : decode cX5_best 107 = .ok (.iaload, 1) := by decide +kernel
theorem dX5_best_108 : decode cX5_best 108 = .ok (.iconst 1, 1) := by decide +kernel
theorem dX5_best_109 : decode cX5_best 109 = .ok (.isub, 1) := by decide +kernel
theorem dX5_best_110 : decode cX5_best 110 = .ok (.i2l, 1) := by decide +kernel
theorem dX5_best_111 : decode cX5_best 111 = .ok (.lmul, 1) := by decide +kernel
theorem dX5_best_112 : decode cX5_best 112 = .ok (.iload_n 3, 1) := by decide +kernel
theorem dX5_best_113 : decode cX5_best 113 = .ok (.i2l, 1) := by decide +kernel
theorem dX5_best_114 : decode cX5_best 114 = .ok (.lmul, 1) := by decide +kernel
theorem dX5_best_115 : decode cX5_best 115 = .ok (.invokevirtual 197, 3) := by decide +kernel
theorem dX5_best_118 : decode cX5_best 118 = .ok (.iconst 1, 1) := by decide +kernel
theorem dX5_best_119 : decode cX5_best 119 = .ok (.if_icmp .ne 7, 3) := by decide +kernel
theorem dX5_best_122 : decode cX5_best 122 = .ok (.iconst 1, 1) := by decide +kernel
theorem dX5_best_123 : decode cX5_best 123 = .ok (.goto 4, 3) := by decide +kernel
theorem dX5_best_126 : decode cX5_best 126 = .ok (.iconst 0, 1) := by decide +kernel
theorem dX5_best_127 : decode cX5_best 127 = .ok (.istore 5, 2) := by decide +kernel
theorem dX5_best_129 : decode cX5_best 129 = .ok (.iinc 6 1, 3) := by decide +kernel
theorem dX5_best_132 : decode cX5_best 132 = .ok (.goto (-67), 3) := by decide +kernel
theorem dX5_best_135 : decode cX5_best 135 = .ok (.iload 5, 2) := by decide +kernel
theorem dX5_best_137 : decode cX5_best 137 = .ok (.ifCond .eq 6, 3) := by decide +kernel
theorem dX5_best_140 : decode cX5_best 140 = .ok (.iload 4, 2) := by decide +kernel
theorem dX5_best_142 : decode cX5_best 142 = .ok (.ireturn, 1) := by decide +kernel
theorem dX5_best_143 : decode cX5_best 143 = .ok (.iinc 4 1, 3) := by decide +kernel
theorem dX5_best_146 : decode cX5_best 146 = .ok (.goto (-98), 3) := by decide +kernel
theorem dX5_best_149 : decode cX5_best 149 = .ok (.iconst (-1), 1) := by decide +kernel
theorem dX5_best_150 : decode cX5_best 150 = .ok (.ireturn, 1) := by decide +kernel
theorem dX5_settingsAt_0 : decode cX5_settingsAt 0 = .ok (.iload_n 1, 1) := by decide +kernel
theorem dX5_settingsAt_1 : decode cX5_settingsAt 1 = .ok (.istore_n 2, 1) := by decide +kernel
theorem dX5_settingsAt_2 : decode cX5_settingsAt 2 = .ok (.iconst 0, 1) := by decide +kernel
theorem dX5_settingsAt_3 : decode cX5_settingsAt 3 = .ok (.istore_n 3, 1) := by decide +kernel
theorem dX5_settingsAt_4 : decode cX5_settingsAt 4 = .ok (.iconst 3, 1) := by decide +kernel
theorem dX5_settingsAt_5 : decode cX5_settingsAt 5 = .ok (.istore 4, 2) := by decide +kernel
theorem dX5_settingsAt_7 : decode cX5_settingsAt 7 = .ok (.iload 4, 2) := by decide +kernel
theorem dX5_settingsAt_9 : decode cX5_settingsAt 9 = .ok (.ifCond .lt 36, 3) := by decide +kernel
theorem dX5_settingsAt_12 : decode cX5_settingsAt 12 = .ok (.iload_n 3, 1) := by decide +kernel
theorem dX5_settingsAt_13 : decode cX5_settingsAt 13 = .ok (.iload_n 2, 1) := by decide +kernel
theorem dX5_settingsAt_14 : decode cX5_settingsAt 14 = .ok (.aload_n 0, 1) := by decide +kernel
theorem dX5_settingsAt_15 : decode cX5_settingsAt 15 = .ok (.getfield 19, 3) := by decide +kernel
theorem dX5_settingsAt_18 : decode cX5_settingsAt 18 = .ok (.iload 4, 2) := by decide +kernel
theorem dX5_settingsAt_20 : decode cX5_settingsAt 20 = .ok (.iaload, 1) := by decide +kernel
theorem dX5_settingsAt_21 : decode cX5_settingsAt 21 = .ok (.irem, 1) := by decide +kernel
theorem dX5_settingsAt_22 : decode cX5_settingsAt 22 = .ok (.iconst 4, 1) := by decide +kernel
theorem dX5_settingsAt_23 : decode cX5_settingsAt 23 = .ok (.iload 4, 2) := by decide +kernel
theorem dX5_settingsAt_25 : decode cX5_settingsAt 25 = .ok (.imul, 1) := by decide +kernel
theorem dX5_settingsAt_26 : decode cX5_settingsAt 26 = .ok (.ishl, 1) := by decide +kernel
theorem dX5_settingsAt_27 : decode cX5_settingsAt 27 = .ok (.ior, 1) := by decide +kernel
theorem dX5_settingsAt_28 : decode cX5_settingsAt 28 = .ok (.istore_n 3, 1) := by decide +kernel
theorem dX5_settingsAt_29 : decode cX5_settingsAt 29 = .ok (.iload_n 2, 1) := by decide +kernel
theorem dX5_settingsAt_30 : decode cX5_settingsAt 30 = .ok (.aload_n 0, 1) := by decide +kernel
theorem dX5_settingsAt_31 : decode cX5_settingsAt 31 = .ok (.getfield 19, 3) := by decide +kernel
theorem dX5_settingsAt_34 : decode cX5_settingsAt 34 = .ok (.iload 4, 2) := by decide +kernel
theorem dX5_settingsAt_36 : decode cX5_settingsAt 36 = .ok (.iaload, 1) := by decide +kernel
theorem dX5_settingsAt_37 : decode cX5_settingsAt 37 = .ok (.idiv, 1) := by decide +kernel
theorem dX5_settingsAt_38 : decode cX5_settingsAt 38 = .ok (.istore_n 2, 1) := by decide +kernel
theorem dX5_settingsAt_39 : decode cX5_settingsAt 39 = .ok (.iinc 4 (-1), 3) := by decide +kernel
theorem dX5_settingsAt_42 : decode cX5_settingsAt 42 = .ok (.goto (-35), 3) := by decide +kernel
theorem dX5_settingsAt_45 : decode cX5_settingsAt 45 = .ok (.iload_n 3, 1) := by decide +kernel
theorem dX5_settingsAt_46 : decode cX5_settingsAt 46 = .ok (.ireturn, 1) := by decide +kernel
theorem dX5_grid_0 : decode cX5_grid 0 = .ok (.aload_n 0, 1) := by decide +kernel
theorem dX5_grid_1 : decode cX5_grid 1 = .ok (.getfield 19, 3) := by decide +kernel
theorem dX5_grid_4 : decode cX5_grid 4 = .ok (.iconst 0, 1) := by decide +kernel
theorem dX5_grid_5 : decode cX5_grid 5 = .ok (.iaload, 1) := by decide +kernel
theorem dX5_grid_6 : decode cX5_grid 6 = .ok (.aload_n 0, 1) := by decide +kernel
theorem dX5_grid_7 : decode cX5_grid 7 = .ok (.getfield 19, 3) := by decide +kernel
theorem dX5_grid_10 : decode cX5_grid 10 = .ok (.iconst 1, 1) := by decide +kernel
theorem dX5_grid_11 : decode cX5_grid 11 = .ok (.iaload, 1) := by decide +kernel
theorem dX5_grid_12 : decode cX5_grid 12 = .ok (.imul, 1) := by decide +kernel
theorem dX5_grid_13 : decode cX5_grid 13 = .ok (.aload_n 0, 1) := by decide +kernel
theorem dX5_grid_14 : decode cX5_grid 14 = .ok (.getfield 19, 3) := by decide +kernel
theorem dX5_grid_17 : decode cX5_grid 17 = .ok (.iconst 2, 1) := by decide +kernel
theorem dX5_grid_18 : decode cX5_grid 18 = .ok (.iaload, 1) := by decide +kernel
theorem dX5_grid_19 : decode cX5_grid 19 = .ok (.imul, 1) := by decide +kernel
theorem dX5_grid_20 : decode cX5_grid 20 = .ok (.aload_n 0, 1) := by decide +kernel
theorem dX5_grid_21 : decode cX5_grid 21 = .ok (.getfield 19, 3) := by decide +kernel
theorem dX5_grid_24 : decode cX5_grid 24 = .ok (.iconst 3, 1) := by decide +kernel
theorem dX5_grid_25 : decode cX5_grid 25 = .ok (.iaload, 1) := by decide +kernel
theorem dX5_grid_26 : decode cX5_grid 26 = .ok (.imul, 1) := by decide +kernel
theorem dX5_grid_27 : decode cX5_grid 27 = .ok (.ireturn, 1) := by decide +kernel
theorem dX5_canHole_0 : decode cX5_canHole 0 = .ok (.aload_n 0, 1) := by decide +kernel
theorem dX5_canHole_1 : decode cX5_canHole 1 = .ok (.iload_n 1, 1) := by decide +kernel
theorem dX5_canHole_2 : decode cX5_canHole 2 = .ok (.invokevirtual 81, 3) := by decide +kernel
theorem dX5_canHole_5 : decode cX5_canHole 5 = .ok (.ifCond .eq 26, 3) := by decide +kernel
theorem dX5_canHole_8 : decode cX5_canHole 8 = .ok (.aload_n 0, 1) := by decide +kernel
theorem dX5_canHole_9 : decode cX5_canHole 9 = .ok (.iload_n 2, 1) := by decide +kernel
theorem dX5_canHole_10 : decode cX5_canHole 10 = .ok (.invokevirtual 131, 3) := by decide +kernel
theorem dX5_canHole_13 : decode cX5_canHole 13 = .ok (.ifCond .eq 18, 3) := by decide +kernel
theorem dX5_canHole_16 : decode cX5_canHole 16 = .ok (.iload_n 3, 1) := by decide +kernel
theorem dX5_canHole_17 : decode cX5_canHole 17 = .ok (.iconst 1, 1) := by decide +kernel
theorem dX5_canHole_18 : decode cX5_canHole 18 = .ok (.if_icmp .lt 13, 3) := by decide +kernel
theorem dX5_canHole_21 : decode cX5_canHole 21 = .ok (.iload_n 3, 1) := by decide +kernel
theorem dX5_canHole_22 : decode cX5_canHole 22 = .ok (.bipush 8, 2) := by decide +kernel
theorem dX5_canHole_24 : decode cX5_canHole 24 = .ok (.if_icmp .gt 7, 3) := by decide +kernel
theorem dX5_canHole_27 : decode cX5_canHole 27 = .ok (.iconst 1, 1) := by decide +kernel
theorem dX5_canHole_28 : decode cX5_canHole 28 = .ok (.goto 4, 3) := by decide +kernel
theorem dX5_canHole_31 : decode cX5_canHole 31 = .ok (.iconst 0, 1) := by decide +kernel
theorem dX5_canHole_32 : decode cX5_canHole 32 = .ok (.ireturn, 1) := by decide +kernel
theorem dX5_holes_0 : decode cX5_holes 0 = .ok (.aload_n 0, 1) := by decide +kernel
theorem dX5_holes_1 : decode cX5_holes 1 = .ok (.iconst 0, 1) := by decide +kernel
theorem dX5_holes_2 : decode cX5_holes 2 = .ok (.putfield 77, 3) := by decide +kernel
theorem dX5_holes_5 : decode cX5_holes 5 = .ok (.aload_n 0, 1) := by decide +kernel
theorem dX5_holes_6 : decode cX5_holes 6 = .ok (.iload_n 1, 1) := by decide +kernel
theorem dX5_holes_7 : decode cX5_holes 7 = .ok (.iload_n 2, 1) := by decide +kernel
theorem dX5_holes_8 : decode cX5_holes 8 = .ok (.iload_n 3, 1) := by decide +kernel
theorem dX5_holes_9 : decode cX5_holes 9 = .ok (.invokevirtual 201, 3) := by decide +kernel
theorem dX5_holes_12 : decode cX5_holes 12 = .ok (.ifCond .ne 5, 3) := by decide +kernel
theorem dX5_holes_15 : decode cX5_holes 15 = .ok (.iconst (-1), 1) := by decide +kernel
theorem dX5_holes_16 : decode cX5_holes 16 = .ok (.ireturn, 1) := by decide +kernel
theorem dX5_holes_17 : decode cX5_holes 17 = .ok (.iconst 0, 1) := by decide +kernel
theorem dX5_holes_18 : decode cX5_holes 18 = .ok (.istore 4, 2) := by decide +kernel
theorem dX5_holes_20 : decode cX5_holes 20 = .ok (.iconst 0, 1) := by decide +kernel
theorem dX5_holes_21 : decode cX5_holes 21 = .ok (.istore 5, 2) := by decide +kernel
theorem dX5_holes_23 : decode cX5_holes 23 = .ok (.iload 5, 2) := by decide +kernel
theorem dX5_holes_25 : decode cX5_holes 25 = .ok (.aload_n 0, 1) := by decide +kernel
theorem dX5_holes_26 : decode cX5_holes 26 = .ok (.invokevirtual 205, 3) := by decide +kernel
theorem dX5_holes_29 : decode cX5_holes 29 = .ok (.if_icmp .ge 48, 3) := by decide +kernel
theorem dX5_holes_32 : decode cX5_holes 32 = .ok (.iconst 0, 1) := by decide +kernel
theorem dX5_holes_33 : decode cX5_holes 33 = .ok (.istore 6, 2) := by decide +kernel
theorem dX5_holes_35 : decode cX5_holes 35 = .ok (.iload 6, 2) := by decide +kernel
theorem dX5_holes_37 : decode cX5_holes 37 = .ok (.iload_n 3, 1) := by decide +kernel
theorem dX5_holes_38 : decode cX5_holes 38 = .ok (.if_icmp .ge 33, 3) := by decide +kernel
theorem dX5_holes_41 : decode cX5_holes 41 = .ok (.aload_n 0, 1) := by decide +kernel
theorem dX5_holes_42 : decode cX5_holes 42 = .ok (.iload_n 1, 1) := by decide +kernel
theorem dX5_holes_43 : decode cX5_holes 43 = .ok (.aload_n 0, 1) := by decide +kernel
theorem dX5_holes_44 : decode cX5_holes 44 = .ok (.iload 5, 2) := by decide +kernel
theorem dX5_holes_46 : decode cX5_holes 46 = .ok (.invokevirtual 209, 3) := by decide +kernel
theorem dX5_holes_49 : decode cX5_holes 49 = .ok (.iload 6, 2) := by decide +kernel
theorem dX5_holes_51 : decode cX5_holes 51 = .ok (.iload_n 2, 1) := by decide +kernel
theorem dX5_holes_52 : decode cX5_holes 52 = .ok (.invokevirtual 155, 3) := by decide +kernel
theorem dX5_holes_55 : decode cX5_holes 55 = .ok (.iconst (-1), 1) := by decide +kernel
theorem dX5_holes_56 : decode cX5_holes 56 = .ok (.if_icmp .ne 9, 3) := by decide +kernel
theorem dX5_holes_59 : decode cX5_holes 59 = .ok (.iload 4, 2) := by decide +kernel
theorem dX5_holes_61 : decode cX5_holes 61 = .ok (.iconst 1, 1) := by decide +kernel
theorem dX5_holes_62 : decode cX5_holes 62 = .ok (.iadd, 1) := by decide +kernel
theorem dX5_holes_63 : decode cX5_holes 63 = .ok (.istore 4, 2) := by decide +kernel
theorem dX5_holes_65 : decode cX5_holes 65 = .ok (.iinc 6 1, 3) := by decide +kernel
theorem dX5_holes_68 : decode cX5_holes 68 = .ok (.goto (-33), 3) := by decide +kernel
theorem dX5_holes_71 : decode cX5_holes 71 = .ok (.iinc 5 1, 3) := by decide +kernel
theorem dX5_holes_74 : decode cX5_holes 74 = .ok (.goto (-51), 3) := by decide +kernel
theorem dX5_holes_77 : decode cX5_holes 77 = .ok (.iload 4, 2) := by decide +kernel
theorem dX5_holes_79 : decode cX5_holes 79 = .ok (.ireturn, 1) := by decide +kernel
theorem dX5_hole_0 : decode cX5_hole 0 = .ok (.aload_n 0, 1) := by decide +kernel
theorem dX5_hole_1 : decode cX5_hole 1 = .ok (.iconst 0, 1) := by decide +kernel
theorem dX5_hole_2 : decode cX5_hole 2 = .ok (.putfield 77, 3) := by decide +kernel
theorem dX5_hole_5 : decode cX5_hole 5 = .ok (.aload_n 0, 1) := by decide +kernel
theorem dX5_hole_6 : decode cX5_hole 6 = .ok (.iload_n 1, 1) := by decide +kernel
theorem dX5_hole_7 : decode cX5_hole 7 = .ok (.iload_n 2, 1) := by decide +kernel
theorem dX5_hole_8 : decode cX5_hole 8 = .ok (.iload_n 3, 1) := by decide +kernel
theorem dX5_hole_9 : decode cX5_hole 9 = .ok (.invokevirtual 201, 3) := by decide +kernel
theorem dX5_hole_12 : decode cX5_hole 12 = .ok (.ifCond .eq 19, 3) := by decide +kernel
theorem dX5_hole_15 : decode cX5_hole 15 = .ok (.iload 4, 2) := by decide +kernel
theorem dX5_hole_17 : decode cX5_hole 17 = .ok (.ifCond .lt 14, 3) := by decide +kernel
theorem dX5_hole_20 : decode cX5_hole 20 = .ok (.iload 5, 2) := by decide +kernel
theorem dX5_hole_22 : decode cX5_hole 22 = .ok (.ifCond .lt 9, 3) := by decide +kernel
theorem dX5_hole_25 : decode cX5_hole 25 = .ok (.iload 5, 2) := by decide +kernel
theorem dX5_hole_27 : decode cX5_hole 27 = .ok (.iconst 1, 1) := by decide +kernel
theorem dX5_hole_28 : decode cX5_hole 28 = .ok (.if_icmp .le 5, 3) := by decide +kernel
theorem dX5_hole_31 : decode cX5_hole 31 = .ok (.iconst (-1), 1) := by decide +kernel
theorem dX5_hole_32 : decode cX5_hole 32 = .ok (.ireturn, 1) := by decide +kernel
theorem dX5_hole_33 : decode cX5_hole 33 = .ok (.iconst 0, 1) := by decide +kernel
theorem dX5_hole_34 : decode cX5_hole 34 = .ok (.istore 6, 2) := by decide +kernel
theorem dX5_hole_36 : decode cX5_hole 36 = .ok (.iconst 0, 1) := by decide +kernel
theorem dX5_hole_37 : decode cX5_hole 37 = .ok (.istore 7, 2) := by decide +kernel
theorem dX5_hole_39 : decode cX5_hole 39 = .ok (.iload 7, 2) := by decide +kernel
theorem dX5_hole_41 : decode cX5_hole 41 = .ok (.aload_n 0, 1) := by decide +kernel
theorem dX5_hole_42 : decode cX5_hole 42 = .ok (.invokevirtual 205, 3) := by decide +kernel
theorem dX5_hole_45 : decode cX5_hole 45 = .ok (.if_icmp .ge 75, 3) := by decide +kernel
theorem dX5_hole_48 : decode cX5_hole 48 = .ok (.iconst 0, 1) := by decide +kernel
theorem dX5_hole_49 : decode cX5_hole 49 = .ok (.istore 8, 2) := by decide +kernel
theorem dX5_hole_51 : decode cX5_hole 51 = .ok (.iload 8, 2) := by decide +kernel
theorem dX5_hole_53 : decode cX5_hole 53 = .ok (.iload_n 3, 1) := by decide +kernel
theorem dX5_hole_54 : decode cX5_hole 54 = .ok (.if_icmp .ge 60, 3) := by decide +kernel
theorem dX5_hole_57 : decode cX5_hole 57 = .ok (.aload_n 0, 1) := by decide +kernel
theorem dX5_hole_58 : decode cX5_hole 58 = .ok (.iload_n 1, 1) := by decide +kernel
theorem dX5_hole_59 : decode cX5_hole 59 = .ok (.aload_n 0, 1) := by decide +kernel
theorem dX5_hole_60 : decode cX5_hole 60 = .ok (.iload 7, 2) := by decide +kernel
theorem dX5_hole_62 : decode cX5_hole 62 = .ok (.invokevirtual 209, 3) := by decide +kernel
theorem dX5_hole_65 : decode cX5_hole 65 = .ok (.iload 8, 2) := by decide +kernel
theorem dX5_hole_67 : decode cX5_hole 67 = .ok (.iload_n 2, 1) := by decide +kernel
theorem dX5_hole_68 : decode cX5_hole 68 = .ok (.invokevirtual 155, 3) := by decide +kernel
theorem dX5_hole_71 : decode cX5_hole 71 = .ok (.iconst (-1), 1) := by decide +kernel
theorem dX5_hole_72 : decode cX5_hole 72 = .ok (.if_icmp .eq 6, 3) := by decide +kernel
theorem dX5_hole_75 : decode cX5_hole 75 = .ok (.goto 33, 3) := by decide +kernel
theorem dX5_hole_78 : decode cX5_hole 78 = .ok (.iload 6, 2) := by decide +kernel
theorem dX5_hole_80 : decode cX5_hole 80 = .ok (.iload 4, 2) := by decide +kernel
theorem dX5_hole_82 : decode cX5_hole 82 = .ok (.if_icmp .ne 20, 3) := by decide +kernel
theorem dX5_hole_85 : decode cX5_hole 85 = .ok (.iload 5, 2) := by decide +kernel
theorem dX5_hole_87 : decode cX5_hole 87 = .ok (.ifCond .ne 12, 3) := by decide +kernel
theorem dX5_hole_90 : decode cX5_hole 90 = .ok (.aload_n 0, 1) := by decide +kernel
theorem dX5_hole_91 : decode cX5_hole 91 = .ok (.iload 7, 2) := by decide +kernel
theorem dX5_hole_93 : decode cX5_hole 93 = .ok (.invokevirtual 209, 3) := by decide +kernel
theorem dX5_hole_96 : decode cX5_hole 96 = .ok (.goto 5, 3) := by decide +kernel
theorem dX5_hole_99 : decode cX5_hole 99 = .ok (.iload 8, 2) := by decide +kernel
theorem dX5_hole_101 : decode cX5_hole 101 = .ok (.ireturn, 1) := by decide +kernel
theorem dX5_hole_102 : decode cX5_hole 102 = .ok (.iload 6, 2) := by decide +kernel
theorem dX5_hole_104 : decode cX5_hole 104 = .ok (.iconst 1, 1) := by decide +kernel
theorem dX5_hole_105 : decode cX5_hole 105 = .ok (.iadd, 1) := by decide +kernel
theorem dX5_hole_106 : decode cX5_hole 106 = .ok (.istore 6, 2) := by decide +kernel
theorem dX5_hole_108 : decode cX5_hole 108 = .ok (.iinc 8 1, 3) := by decide +kernel
theorem dX5_hole_111 : decode cX5_hole 111 = .ok (.goto (-60), 3) := by decide +kernel
theorem dX5_hole_114 : decode cX5_hole 114 = .ok (.iinc 7 1, 3) := by decide +kernel
theorem dX5_hole_117 : decode cX5_hole 117 = .ok (.goto (-78), 3) := by decide +kernel
theorem dX5_hole_120 : decode cX5_hole 120 = .ok (.iconst (-1), 1) := by decide +kernel
theorem dX5_hole_121 : decode cX5_hole 121 = .ok (.ireturn, 1) := by decide +kernel
theorem dX5_idle_0 : decode cX5_idle 0 = .ok (.aload_n 0, 1) := by decide +kernel
theorem dX5_idle_1 : decode cX5_idle 1 = .ok (.iconst 0, 1) := by decide +kernel
theorem dX5_idle_2 : decode cX5_idle 2 = .ok (.putfield 77, 3) := by decide +kernel
theorem dX5_idle_5 : decode cX5_idle 5 = .ok (.bipush 15, 2) := by decide +kernel
theorem dX5_idle_7 : decode cX5_idle 7 = .ok (.istore_n 1, 1) := by decide +kernel
theorem dX5_idle_8 : decode cX5_idle 8 = .ok (.iconst 0, 1) := by decide +kernel
theorem dX5_idle_9 : decode cX5_idle 9 = .ok (.istore_n 2, 1) := by decide +kernel
theorem dX5_idle_10 : decode cX5_idle 10 = .ok (.iload_n 2, 1) := by decide +kernel
theorem dX5_idle_11 : decode cX5_idle 11 = .ok (.aload_n 0, 1) := by decide +kernel
theorem dX5_idle_12 : decode cX5_idle 12 = .ok (.getfield 90, 3) := by decide +kernel
theorem dX5_idle_15 : decode cX5_idle 15 = .ok (.if_icmp .ge 20, 3) := by decide +kernel
theorem dX5_idle_18 : decode cX5_idle 18 = .ok (.iload_n 1, 1) := by decide +kernel
theorem dX5_idle_19 : decode cX5_idle 19 = .ok (.aload_n 0, 1) := by decide +kernel
theorem dX5_idle_20 : decode cX5_idle 20 = .ok (.getfield 56, 3) := by decide +kernel
theorem dX5_idle_23 : decode cX5_idle 23 = .ok (.iload_n 2, 1) := by decide +kernel
theorem dX5_idle_24 : decode cX5_idle 24 = .ok (.iaload, 1) := by decide +kernel
theorem dX5_idle_25 : decode cX5_idle 25 = .ok (.iconst (-1), 1) := by decide +kernel
theorem dX5_idle_26 : decode cX5_idle 26 = .ok (.ixor, 1) := by decide +kernel
theorem dX5_idle_27 : decode cX5_idle 27 = .ok (.iand, 1) := by decide +kernel
theorem dX5_idle_28 : decode cX5_idle 28 = .ok (.istore_n 1, 1) := by decide +kernel
theorem dX5_idle_29 : decode cX5_idle 29 = .ok (.iinc 2 1, 3) := by decide +kernel
theorem dX5_idle_32 : decode cX5_idle 32 = .ok (.goto (-22), 3) := by decide +kernel
theorem dX5_idle_35 : decode cX5_idle 35 = .ok (.iload_n 1, 1) := by decide +kernel
theorem dX5_idle_36 : decode cX5_idle 36 = .ok (.ireturn, 1) := by decide +kernel
theorem dX5_claim_0 : decode cX5_claim 0 = .ok (.aload_n 0, 1) := by decide +kernel
theorem dX5_claim_1 : decode cX5_claim 1 = .ok (.iconst 0, 1) := by decide +kernel
theorem dX5_claim_2 : decode cX5_claim 2 = .ok (.putfield 77, 3) := by decide +kernel
theorem dX5_claim_5 : decode cX5_claim 5 = .ok (.aload_n 0, 1) := by decide +kernel
theorem dX5_claim_6 : decode cX5_claim 6 = .ok (.iload_n 1, 1) := by decide +kernel
theorem dX5_claim_7 : decode cX5_claim 7 = .ok (.invokevirtual 142, 3) := by decide +kernel
theorem dX5_claim_10 : decode cX5_claim 10 = .ok (.ifCond .eq 21, 3) := by decide +kernel
theorem dX5_claim_13 : decode cX5_claim 13 = .ok (.aload_n 0, 1) := by decide +kernel
theorem dX5_claim_14 : decode cX5_claim 14 = .ok (.getfield 46, 3) := by decide +kernel
theorem dX5_claim_17 : decode cX5_claim 17 = .ok (.iload_n 1, 1) := by decide +kernel
theorem dX5_claim_18 : decode cX5_claim 18 = .ok (.baload, 1) := by decide +kernel
theorem dX5_claim_19 : decode cX5_claim 19 = .ok (.ifCond .ne 12, 3) := by decide +kernel
theorem dX5_claim_22 : decode cX5_claim 22 = .ok (.aload_n 0, 1) := by decide +kernel
theorem dX5_claim_23 : decode cX5_claim 23 = .ok (.getfield 213, 3) := by decide +kernel
theorem dX5_claim_26 : decode cX5_claim 26 = .ok (.bipush 20, 2) := by decide +kernel
theorem dX5_claim_28 : decode cX5_claim 28 = .ok (.if_icmp .ne 5, 3) := by decide +kernel
theorem dX5_claim_31 : decode cX5_claim 31 = .ok (.iconst (-1), 1) := by decide +kernel
theorem dX5_claim_32 : decode cX5_claim 32 = .ok (.ireturn, 1) := by decide +kernel
theorem dX5_claim_33 : decode cX5_claim 33 = .ok (.aload_n 0, 1) := by decide +kernel
theorem dX5_claim_34 : decode cX5_claim 34 = .ok (.getfield 74, 3) := by decide +kernel
theorem dX5_claim_37 : decode cX5_claim 37 = .ok (.aload_n 0, 1) := by decide +kernel
theorem dX5_claim_38 : decode cX5_claim 38 = .ok (.getfield 213, 3) := by decide +kernel
theorem dX5_claim_41 : decode cX5_claim 41 = .ok (.iload_n 1, 1) := by decide +kernel
theorem dX5_claim_42 : decode cX5_claim 42 = .ok (.iastore, 1) := by decide +kernel
theorem dX5_claim_43 : decode cX5_claim 43 = .ok (.aload_n 0, 1) := by decide +kernel
theorem dX5_claim_44 : decode cX5_claim 44 = .ok (.aload_n 0, 1) := by decide +kernel
theorem dX5_claim_45 : decode cX5_claim 45 = .ok (.getfield 213, 3) := by decide +kernel
theorem dX5_claim_48 : decode cX5_claim 48 = .ok (.iconst 1, 1) := by decide +kernel
theorem dX5_claim_49 : decode cX5_claim 49 = .ok (.iadd, 1) := by decide +kernel
theorem dX5_claim_50 : decode cX5_claim 50 = .ok (.putfield 213, 3) := by decide +kernel
theorem dX5_claim_53 : decode cX5_claim 53 = .ok (.aload_n 0, 1) := by decide +kernel
theorem dX5_claim_54 : decode cX5_claim 54 = .ok (.getfield 213, 3) := by decide +kernel
theorem dX5_claim_57 : decode cX5_claim 57 = .ok (.iconst 1, 1) := by decide +kernel
theorem dX5_claim_58 : decode cX5_claim 58 = .ok (.isub, 1) := by decide +kernel
theorem dX5_claim_59 : decode cX5_claim 59 = .ok (.ireturn, 1) := by decide +kernel
theorem dX5_claimed_0 : decode cX5_claimed 0 = .ok (.aload_n 0, 1) := by decide +kernel
theorem dX5_claimed_1 : decode cX5_claimed 1 = .ok (.iconst 0, 1) := by decide +kernel
theorem dX5_claimed_2 : decode cX5_claimed 2 = .ok (.putfield 77, 3) := by decide +kernel
theorem dX5_claimed_5 : decode cX5_claimed 5 = .ok (.iload_n 1, 1) := by decide +kernel
theorem dX5_claimed_6 : decode cX5_claimed 6 = .ok (.ifCond .lt 11, 3) := by decide +kernel
theorem dX5_claimed_9 : decode cX5_claimed 9 = .ok (.iload_n 1, 1) := by decide +kernel
theorem dX5_claimed_10 : decode cX5_claimed 10 = .ok (.aload_n 0, 1) := by decide +kernel
theorem dX5_claimed_11 : decode cX5_claimed 11 = .ok (.getfield 213, 3) := by decide +kernel
theorem dX5_claimed_14 : decode cX5_claimed 14 = .ok (.if_icmp .lt 5, 3) := by decide +kernel
theorem dX5_claimed_17 : decode cX5_claimed 17 = .ok (.iconst (-1), 1) := by decide +kernel
theorem dX5_claimed_18 : decode cX5_claimed 18 = .ok (.ireturn, 1) := by decide +kernel
theorem dX5_claimed_19 : decode cX5_claimed 19 = .ok (.aload_n 0, 1) := by decide +kernel
theorem dX5_claimed_20 : decode cX5_claimed 20 = .ok (.getfield 74, 3) := by decide +kernel
theorem dX5_claimed_23 : decode cX5_claimed 23 = .ok (.iload_n 1, 1) := by decide +kernel
theorem dX5_claimed_24 : decode cX5_claimed 24 = .ok (.iaload, 1) := by decide +kernel
theorem dX5_claimed_25 : decode cX5_claimed 25 = .ok (.istore_n 3, 1) := by decide +kernel
theorem dX5_claimed_26 : decode cX5_claimed 26 = .ok (.iload_n 2, 1) := by decide +kernel
theorem dX5_claimed_27 : decode cX5_claimed 27 = .ok (.ifCond .ne 5, 3) := by decide +kernel
theorem dX5_claimed_30 : decode cX5_claimed 30 = .ok (.iload_n 3, 1) := by decide +kernel
theorem dX5_claimed_31 : decode cX5_claimed 31 = .ok (.ireturn, 1) := by decide +kernel
theorem dX5_claimed_32 : decode cX5_claimed 32 = .ok (.iload_n 2, 1) := by decide +kernel
theorem dX5_claimed_33 : decode cX5_claimed 33 = .ok (.iconst 1, 1) := by decide +kernel
theorem dX5_claimed_34 : decode cX5_claimed 34 = .ok (.if_icmp .ne 22, 3) := by decide +kernel
theorem dX5_claimed_37 : decode cX5_claimed 37 = .ok (.aload_n 0, 1) := by decide +kernel
theorem dX5_claimed_38 : decode cX5_claimed 38 = .ok (.getfield 43, 3) := by decide +kernel
theorem dX5_claimed_41 : decode cX5_claimed 41 = .ok (.bipush 16, 2) := by decide +kernel
theorem dX5_claimed_43 : decode cX5_claimed 43 = .ok (.iload_n 3, 1) := by decide +kernel
theorem dX5_claimed_44 : decode cX5_claimed 44 = .ok (.imul, 1) := by decide +kernel
theorem dX5_claimed_45 : decode cX5_claimed 45 = .ok (.aload_n 0, 1) := by decide +kernel
theorem dX5_claimed_46 : decode cX5_claimed 46 = .ok (.getfield 40, 3) := by decide +kernel
theorem dX5_claimed_49 : decode cX5_claimed 49 = .ok (.iload_n 3, 1) := by decide +kernel
theorem dX5_claimed_50 : decode cX5_claimed 50 = .ok (.iaload, 1) := by decide +kernel
theorem dX5_claimed_51 : decode cX5_claimed 51 = .ok (.iadd, 1) := by decide +kernel
theorem dX5_claimed_52 : decode cX5_claimed 52 = .ok (.iconst 1, 1) := by decide +kernel
theorem dX5_claimed_53 : decode cX5_claimed 53 = .ok (.isub, 1) := by decide +kernel
theorem dX5_claimed_54 : decode cX5_claimed 54 = .ok (.iaload, 1) := by decide +kernel
theorem dX5_claimed_55 : decode cX5_claimed 55 = .ok (.ireturn, 1) := by decide +kernel
theorem dX5_claimed_56 : decode cX5_claimed 56 = .ok (.iload_n 2, 1) := by decide +kernel
theorem dX5_claimed_57 : decode cX5_claimed 57 = .ok (.iconst 2, 1) := by decide +kernel
theorem dX5_claimed_58 : decode cX5_claimed 58 = .ok (.if_icmp .ne 19, 3) := by decide +kernel
theorem dX5_claimed_61 : decode cX5_claimed 61 = .ok (.aload_n 0, 1) := by decide +kernel
theorem dX5_claimed_62 : decode cX5_claimed 62 = .ok (.iload_n 3, 1) := by decide +kernel
theorem dX5_claimed_63 : decode cX5_claimed 63 = .ok (.invokevirtual 152, 3) := by decide +kernel
theorem dX5_claimed_66 : decode cX5_claimed 66 = .ok (.ifCond .eq 7, 3) := by decide +kernel
theorem dX5_claimed_69 : decode cX5_claimed 69 = .ok (.iconst 1, 1) := by decide +kernel
theorem dX5_claimed_70 : decode cX5_claimed 70 = .ok (.goto 8, 3) := by decide +kernel
theorem dX5_claimed_73 : decode cX5_claimed 73 = .ok (.iconst 0, 1) := by decide +kernel
theorem dX5_claimed_74 : decode cX5_claimed 74 = .ok (.goto 4, 3) := by decide +kernel
theorem dX5_claimed_77 : decode cX5_claimed 77 = .ok (.iconst (-1), 1) := by decide +kernel
theorem dX5_claimed_78 : decode cX5_claimed 78 = .ok (.ireturn, 1) := by decide +kernel
