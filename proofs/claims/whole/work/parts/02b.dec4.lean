theorem dX4_init_0 : decode cX4_init 0 = .ok (.aload_n 0, 1) := by decide +kernel
theorem dX4_init_1 : decode cX4_init 1 = .ok (.invokespecial 1, 3) := by decide +kernel
theorem dX4_init_4 : decode cX4_init 4 = .ok (.aload_n 0, 1) := by decide +kernel
theorem dX4_init_5 : decode cX4_init 5 = .ok (.iconst 4, 1) := by decide +kernel
theorem dX4_init_6 : decode cX4_init 6 = .ok (.anewarray 9, 3) := by decide +kernel
theorem dX4_init_9 : decode cX4_init 9 = .ok (.putfield 11, 3) := by decide +kernel
theorem dX4_init_12 : decode cX4_init 12 = .ok (.aload_n 0, 1) := by decide +kernel
theorem dX4_init_13 : decode cX4_init 13 = .ok (.iconst 4, 1) := by decide +kernel
theorem dX4_init_14 : decode cX4_init 14 = .ok (.newarray .int, 2) := by decide +kernel
theorem dX4_init_16 : decode cX4_init 16 = .ok (.putfield 15, 3) := by decide +kernel
theorem dX4_init_19 : decode cX4_init 19 = .ok (.aload_n 0, 1) := by decide +kernel
theorem dX4_init_20 : decode cX4_init 20 = .ok (.new 19, 3) := by decide +kernel
theorem dX4_init_23 : decode cX4_init 23 = .ok (.dup, 1) := by decide +kernel
theorem dX4_init_24 : decode cX4_init 24 = .ok (.invokespecial 21, 3) := by decide +kernel
theorem dX4_init_27 : decode cX4_init 27 = .ok (.putfield 22, 3) := by decide +kernel
theorem dX4_init_30 : decode cX4_init 30 = .ok (.aload_n 0, 1) := by decide +kernel
theorem dX4_init_31 : decode cX4_init 31 = .ok (.bipush 40, 2) := by decide +kernel
theorem dX4_init_33 : decode cX4_init 33 = .ok (.anewarray 26, 3) := by decide +kernel
theorem dX4_init_36 : decode cX4_init 36 = .ok (.putfield 28, 3) := by decide +kernel
theorem dX4_init_39 : decode cX4_init 39 = .ok (.aload_n 0, 1) := by decide +kernel
theorem dX4_init_40 : decode cX4_init 40 = .ok (.bipush 20, 2) := by decide +kernel
theorem dX4_init_42 : decode cX4_init 42 = .ok (.newarray .int, 2) := by decide +kernel
theorem dX4_init_44 : decode cX4_init 44 = .ok (.putfield 32, 3) := by decide +kernel
theorem dX4_init_47 : decode cX4_init 47 = .ok (.aload_n 0, 1) := by decide +kernel
theorem dX4_init_48 : decode cX4_init 48 = .ok (.bipush 20, 2) := by decide +kernel
theorem dX4_init_50 : decode cX4_init 50 = .ok (.newarray .int, 2) := by decide +kernel
theorem dX4_init_52 : decode cX4_init 52 = .ok (.putfield 35, 3) := by decide +kernel
theorem dX4_init_55 : decode cX4_init 55 = .ok (.aload_n 0, 1) := by decide +kernel
theorem dX4_init_56 : decode cX4_init 56 = .ok (.bipush 40, 2) := by decide +kernel
theorem dX4_init_58 : decode cX4_init 58 = .ok (.anewarray 26, 3) := by decide +kernel
theorem dX4_init_61 : decode cX4_init 61 = .ok (.putfield 38, 3) := by decide +kernel
theorem dX4_init_64 : decode cX4_init 64 = .ok (.iconst 0, 1) := by decide +kernel
theorem dX4_init_65 : decode cX4_init 65 = .ok (.istore_n 1, 1) := by decide +kernel
theorem dX4_init_66 : decode cX4_init 66 = .ok (.iload_n 1, 1) := by decide +kernel
theorem dX4_init_67 : decode cX4_init 67 = .ok (.aload_n 0, 1) := by decide +kernel
theorem dX4_init_68 : decode cX4_init 68 = .ok (.getfield 11, 3) := by decide +kernel
theorem dX4_init_71 : decode cX4_init 71 = .ok (.arraylength, 1) := by decide +kernel
theorem dX4_init_72 : decode cX4_init 72 = .ok (.if_icmp .ge 25, 3) := by decide +kernel
theorem dX4_init_75 : decode cX4_init 75 = .ok (.aload_n 0, 1) := by decide +kernel
theorem dX4_init_76 : decode cX4_init 76 = .ok (.getfield 11, 3) := by decide +kernel
theorem dX4_init_79 : decode cX4_init 79 = .ok (.iload_n 1, 1) := by decide +kernel
theorem dX4_init_80 : decode cX4_init 80 = .ok (.new 9, 3) := by decide +kernel
theorem dX4_init_83 : decode cX4_init 83 = .ok (.dup, 1) := by decide +kernel
theorem dX4_init_84 : decode cX4_init 84 = .ok (.iconst 0, 1) := by decide +kernel
theorem dX4_init_85 : decode cX4_init 85 = .ok (.iconst 0, 1) := by decide +kernel
theorem dX4_init_86 : decode cX4_init 86 = .ok (.iconst 0, 1) := by decide +kernel
theorem dX4_init_87 : decode cX4_init 87 = .ok (.invokespecial 41, 3) := by decide +kernel
theorem dX4_init_90 : decode cX4_init 90 = .ok (.aastore, 1) := by decide +kernel
theorem dX4_init_91 : decode cX4_init 91 = .ok (.iinc 1 1, 3) := by decide +kernel
theorem dX4_init_94 : decode cX4_init 94 = .ok (.goto (-28), 3) := by decide +kernel
theorem dX4_init_97 : decode cX4_init 97 = .ok (.iconst 0, 1) := by decide +kernel
theorem dX4_init_98 : decode cX4_init 98 = .ok (.istore_n 1, 1) := by decide +kernel
theorem dX4_init_99 : decode cX4_init 99 = .ok (.iload_n 1, 1) := by decide +kernel
theorem dX4_init_100 : decode cX4_init 100 = .ok (.aload_n 0, 1) := by decide +kernel
theorem dX4_init_101 : decode cX4_init 101 = .ok (.getfield 15, 3) := by decide +kernel
theorem dX4_init_104 : decode cX4_init 104 = .ok (.arraylength, 1) := by decide +kernel
theorem dX4_init_105 : decode cX4_init 105 = .ok (.if_icmp .ge 16, 3) := by decide +kernel
theorem dX4_init_108 : decode cX4_init 108 = .ok (.aload_n 0, 1) := by decide +kernel
theorem dX4_init_109 : decode cX4_init 109 = .ok (.getfield 15, 3) := by decide +kernel
theorem dX4_init_112 : decode cX4_init 112 = .ok (.iload_n 1, 1) := by decide +kernel
theorem dX4_init_113 : decode cX4_init 113 = .ok (.iconst 2, 1) := by decide +kernel
theorem dX4_init_114 : decode cX4_init 114 = .ok (.iastore, 1) := by decide +kernel
theorem dX4_init_115 : decode cX4_init 115 = .ok (.iinc 1 1, 3) := by decide +kernel
theorem dX4_init_118 : decode cX4_init 118 = .ok (.goto (-19), 3) := by decide +kernel
theorem dX4_init_121 : decode cX4_init 121 = .ok (.return_, 1) := by decide +kernel
theorem dX4_code_0 : decode cX4_code 0 = .ok (.iload_n 1, 1) := by decide +kernel
theorem dX4_code_1 : decode cX4_code 1 = .ok (.ifCond .lt 22, 3) := by decide +kernel
theorem dX4_code_4 : decode cX4_code 4 = .ok (.iload_n 1, 1) := by decide +kernel
theorem dX4_code_5 : decode cX4_code 5 = .ok (.aload_n 0, 1) := by decide +kernel
theorem dX4_code_6 : decode cX4_code 6 = .ok (.getfield 11, 3) := by decide +kernel
theorem dX4_code_9 : decode cX4_code 9 = .ok (.arraylength, 1) := by decide +kernel
theorem dX4_code_10 : decode cX4_code 10 = .ok (.if_icmp .ge 13, 3) := by decide +kernel
theorem dX4_code_13 : decode cX4_code 13 = .ok (.iload_n 2, 1) := by decide +kernel
theorem dX4_code_14 : decode cX4_code 14 = .ok (.ifCond .lt 9, 3) := by decide +kernel
theorem dX4_code_17 : decode cX4_code 17 = .ok (.iload_n 2, 1) := by decide +kernel
theorem dX4_code_18 : decode cX4_code 18 = .ok (.bipush 8, 2) := by decide +kernel
theorem dX4_code_20 : decode cX4_code 20 = .ok (.if_icmp .le 5, 3) := by decide +kernel
theorem dX4_code_23 : decode cX4_code 23 = .ok (.iconst 0, 1) := by decide +kernel
theorem dX4_code_24 : decode cX4_code 24 = .ok (.ireturn, 1) := by decide +kernel
theorem dX4_code_25 : decode cX4_code 25 = .ok (.aload_n 0, 1) := by decide +kernel
theorem dX4_code_26 : decode cX4_code 26 = .ok (.getfield 11, 3) := by decide +kernel
theorem dX4_code_29 : decode cX4_code 29 = .ok (.iload_n 1, 1) := by decide +kernel
theorem dX4_code_30 : decode cX4_code 30 = .ok (.new 9, 3) := by decide +kernel
theorem dX4_code_33 : decode cX4_code 33 = .ok (.dup, 1) := by decide +kernel
theorem dX4_code_34 : decode cX4_code 34 = .ok (.iload_n 2, 1) := by decide +kernel
theorem dX4_code_35 : decode cX4_code 35 = .ok (.iload_n 3, 1) := by decide +kernel
theorem dX4_code_36 : decode cX4_code 36 = .ok (.iload 4, 2) := by decide +kernel
theorem dX4_code_38 : decode cX4_code 38 = .ok (.invokespecial 41, 3) := by decide +kernel
theorem dX4_code_41 : decode cX4_code 41 = .ok (.aastore, 1) := by decide +kernel
theorem dX4_code_42 : decode cX4_code 42 = .ok (.iconst 1, 1) := by decide +kernel
theorem dX4_code_43 : decode cX4_code 43 = .ok (.ireturn, 1) := by decide +kernel
theorem dX4_data_0 : decode cX4_data 0 = .ok (.aload_n 0, 1) := by decide +kernel
theorem dX4_data_1 : decode cX4_data 1 = .ok (.getfield 22, 3) := by decide +kernel
theorem dX4_data_4 : decode cX4_data 4 = .ok (.iload_n 1, 1) := by decide +kernel
theorem dX4_data_5 : decode cX4_data 5 = .ok (.iload_n 2, 1) := by decide +kernel
theorem dX4_data_6 : decode cX4_data 6 = .ok (.invokevirtual 44, 3) := by decide +kernel
theorem dX4_data_9 : decode cX4_data 9 = .ok (.ireturn, 1) := by decide +kernel
theorem dX4_bound_0 : decode cX4_bound 0 = .ok (.iload_n 1, 1) := by decide +kernel
theorem dX4_bound_1 : decode cX4_bound 1 = .ok (.ifCond .lt 23, 3) := by decide +kernel
theorem dX4_bound_4 : decode cX4_bound 4 = .ok (.iload_n 1, 1) := by decide +kernel
theorem dX4_bound_5 : decode cX4_bound 5 = .ok (.aload_n 0, 1) := by decide +kernel
theorem dX4_bound_6 : decode cX4_bound 6 = .ok (.getfield 15, 3) := by decide +kernel
theorem dX4_bound_9 : decode cX4_bound 9 = .ok (.arraylength, 1) := by decide +kernel
theorem dX4_bound_10 : decode cX4_bound 10 = .ok (.if_icmp .ge 14, 3) := by decide +kernel
theorem dX4_bound_13 : decode cX4_bound 13 = .ok (.iload_n 2, 1) := by decide +kernel
theorem dX4_bound_14 : decode cX4_bound 14 = .ok (.iconst 1, 1) := by decide +kernel
theorem dX4_bound_15 : decode cX4_bound 15 = .ok (.if_icmp .lt 9, 3) := by decide +kernel
theorem dX4_bound_18 : decode cX4_bound 18 = .ok (.iload_n 2, 1) := by decide +kernel
theorem dX4_bound_19 : decode cX4_bound 19 = .ok (.bipush 6, 2) := by decide +kernel
theorem dX4_bound_21 : decode cX4_bound 21 = .ok (.if_icmp .le 5, 3) := by decide +kernel
theorem dX4_bound_24 : decode cX4_bound 24 = .ok (.iconst 0, 1) := by decide +kernel
theorem dX4_bound_25 : decode cX4_bound 25 = .ok (.ireturn, 1) := by decide +kernel
theorem dX4_bound_26 : decode cX4_bound 26 = .ok (.aload_n 0, 1) := by decide +kernel
theorem dX4_bound_27 : decode cX4_bound 27 = .ok (.getfield 15, 3) := by decide +kernel
theorem dX4_bound_30 : decode cX4_bound 30 = .ok (.iload_n 1, 1) := by decide +kernel
theorem dX4_bound_31 : decode cX4_bound 31 = .ok (.iload_n 2, 1) := by decide +kernel
theorem dX4_bound_32 : decode cX4_bound 32 = .ok (.iastore, 1) := by decide +kernel
theorem dX4_bound_33 : decode cX4_bound 33 = .ok (.iconst 1, 1) := by decide +kernel
theorem dX4_bound_34 : decode cX4_bound 34 = .ok (.ireturn, 1) := by decide +kernel
theorem dX4_run_0 : decode cX4_run 0 = .ok (.aload_n 0, 1) := by decide +kernel
theorem dX4_run_1 : decode cX4_run 1 = .ok (.iload_n 1, 1) := by decide +kernel
theorem dX4_run_2 : decode cX4_run 2 = .ok (.invokevirtual 48, 3) := by decide +kernel
theorem dX4_run_5 : decode cX4_run 5 = .ok (.astore 5, 2) := by decide +kernel
theorem dX4_run_7 : decode cX4_run 7 = .ok (.aload 5, 2) := by decide +kernel
theorem dX4_run_9 : decode cX4_run 9 = .ok (.ifnull 25, 3) := by decide +kernel
theorem dX4_run_12 : decode cX4_run 12 = .ok (.iload_n 2, 1) := by decide +kernel
theorem dX4_run_13 : decode cX4_run 13 = .ok (.invokestatic 52, 3) := by decide +kernel
theorem dX4_run_16 : decode cX4_run 16 = .ok (.ifCond .eq 18, 3) := by decide +kernel
theorem dX4_run_19 : decode cX4_run 19 = .ok (.iload_n 3, 1) := by decide +kernel
theorem dX4_run_20 : decode cX4_run 20 = .ok (.invokestatic 56, 3) := by decide +kernel
theorem dX4_run_23 : decode cX4_run 23 = .ok (.ifCond .eq 11, 3) := by decide +kernel
theorem dX4_run_26 : decode cX4_run 26 = .ok (.iload 4, 2) := by decide +kernel
theorem dX4_run_28 : decode cX4_run 28 = .ok (.invokestatic 59, 3) := by decide +kernel
theorem dX4_run_31 : decode cX4_run 31 = .ok (.ifCond .ne 5, 3) := by decide +kernel
theorem dX4_run_34 : decode cX4_run 34 = .ok (.iconst (-1), 1) := by decide +kernel
theorem dX4_run_35 : decode cX4_run 35 = .ok (.ireturn, 1) := by decide +kernel
theorem dX4_run_36 : decode cX4_run 36 = .ok (.aload_n 0, 1) := by decide +kernel
theorem dX4_run_37 : decode cX4_run 37 = .ok (.new 26, 3) := by decide +kernel
theorem dX4_run_40 : decode cX4_run 40 = .ok (.dup, 1) := by decide +kernel
theorem dX4_run_41 : decode cX4_run 41 = .ok (.iload_n 1, 1) := by decide +kernel
theorem dX4_run_42 : decode cX4_run 42 = .ok (.aload 5, 2) := by decide +kernel
theorem dX4_run_44 : decode cX4_run 44 = .ok (.iload_n 2, 1) := by decide +kernel
theorem dX4_run_45 : decode cX4_run 45 = .ok (.iload_n 3, 1) := by decide +kernel
theorem dX4_run_46 : decode cX4_run 46 = .ok (.iload 4, 2) := by decide +kernel
theorem dX4_run_48 : decode cX4_run 48 = .ok (.invokespecial 62, 3) := by decide +kernel
theorem dX4_run_51 : decode cX4_run 51 = .ok (.invokevirtual 65, 3) := by decide +kernel
theorem dX4_run_54 : decode cX4_run 54 = .ok (.ireturn, 1) := by decide +kernel
theorem dX4_fork_0 : decode cX4_fork 0 = .ok (.aload_n 0, 1) := by decide +kernel
theorem dX4_fork_1 : decode cX4_fork 1 = .ok (.iload_n 1, 1) := by decide +kernel
theorem dX4_fork_2 : decode cX4_fork 2 = .ok (.invokevirtual 69, 3) := by decide +kernel
theorem dX4_fork_5 : decode cX4_fork 5 = .ok (.astore 5, 2) := by decide +kernel
theorem dX4_fork_7 : decode cX4_fork 7 = .ok (.aload 5, 2) := by decide +kernel
theorem dX4_fork_9 : decode cX4_fork 9 = .ok (.ifnull 24, 3) := by decide +kernel
theorem dX4_fork_12 : decode cX4_fork 12 = .ok (.aload 5, 2) := by decide +kernel
theorem dX4_fork_14 : decode cX4_fork 14 = .ok (.getfield 73, 3) := by decide +kernel
theorem dX4_fork_17 : decode cX4_fork 17 = .ok (.ifCond .ne 16, 3) := by decide +kernel
theorem dX4_fork_20 : decode cX4_fork 20 = .ok (.iload_n 2, 1) := by decide +kernel
theorem dX4_fork_21 : decode cX4_fork 21 = .ok (.ifCond .lt 12, 3) := by decide +kernel
theorem dX4_fork_24 : decode cX4_fork 24 = .ok (.iload_n 2, 1) := by decide +kernel
theorem dX4_fork_25 : decode cX4_fork 25 = .ok (.aload 5, 2) := by decide +kernel
theorem dX4_fork_27 : decode cX4_fork 27 = .ok (.getfield 77, 3) := by decide +kernel
theorem dX4_fork_30 : decode cX4_fork 30 = .ok (.if_icmp .le 5, 3) := by decide +kernel
theorem dX4_fork_33 : decode cX4_fork 33 = .ok (.iconst (-1), 1) := by decide +kernel
theorem dX4_fork_34 : decode cX4_fork 34 = .ok (.ireturn, 1) := by decide +kernel
theorem dX4_fork_35 : decode cX4_fork 35 = .ok (.iload_n 3, 1) := by decide +kernel
theorem dX4_fork_36 : decode cX4_fork 36 = .ok (.invokestatic 52, 3) := by decide +kernel
theorem dX4_fork_39 : decode cX4_fork 39 = .ok (.ifCond .eq 11, 3) := by decide +kernel
theorem dX4_fork_42 : decode cX4_fork 42 = .ok (.iload 4, 2) := by decide +kernel
theorem dX4_fork_44 : decode cX4_fork 44 = .ok (.invokestatic 56, 3) := by decide +kernel
theorem dX4_fork_47 : decode cX4_fork 47 = .ok (.ifCond .ne 5, 3) := by decide +kernel
theorem dX4_fork_50 : decode cX4_fork 50 = .ok (.iconst (-1), 1) := by decide +kernel
theorem dX4_fork_51 : decode cX4_fork 51 = .ok (.ireturn, 1) := by decide +kernel
theorem dX4_fork_52 : decode cX4_fork 52 = .ok (.new 26, 3) := by decide +kernel
theorem dX4_fork_55 : decode cX4_fork 55 = .ok (.dup, 1) := by decide +kernel
theorem dX4_fork_56 : decode cX4_fork 56 = .ok (.aload 5, 2) := by decide +kernel
theorem dX4_fork_58 : decode cX4_fork 58 = .ok (.getfield 81, 3) := by decide +kernel
theorem dX4_fork_61 : decode cX4_fork 61 = .ok (.aload 5, 2) := by decide +kernel
theorem dX4_fork_63 : decode cX4_fork 63 = .ok (.getfield 84, 3) := by decide +kernel
theorem dX4_fork_66 : decode cX4_fork 66 = .ok (.iload_n 3, 1) := by decide +kernel
theorem dX4_fork_67 : decode cX4_fork 67 = .ok (.iload 4, 2) := by decide +kernel
theorem dX4_fork_69 : decode cX4_fork 69 = .ok (.aload 5, 2) := by decide +kernel
theorem dX4_fork_71 : decode cX4_fork 71 = .ok (.getfield 88, 3) := by decide +kernel
theorem dX4_fork_74 : decode cX4_fork 74 = .ok (.invokespecial 62, 3) := by decide +kernel
theorem dX4_fork_77 : decode cX4_fork 77 = .ok (.astore 6, 2) := by decide +kernel
theorem dX4_fork_79 : decode cX4_fork 79 = .ok (.aload 6, 2) := by decide +kernel
theorem dX4_fork_81 : decode cX4_fork 81 = .ok (.iload_n 1, 1) := by decide +kernel
theorem dX4_fork_82 : decode cX4_fork 82 = .ok (.iload_n 2, 1) := by decide +kernel
theorem dX4_fork_83 : decode cX4_fork 83 = .ok (.invokevirtual 91, 3) := by decide +kernel
theorem dX4_fork_86 : decode cX4_fork 86 = .ok (.aload 6, 2) := by decide +kernel
theorem dX4_fork_88 : decode cX4_fork 88 = .ok (.aload 5, 2) := by decide +kernel
theorem dX4_fork_90 : decode cX4_fork 90 = .ok (.iload_n 2, 1) := by decide +kernel
theorem dX4_fork_91 : decode cX4_fork 91 = .ok (.invokevirtual 95, 3) := by decide +kernel
theorem dX4_fork_94 : decode cX4_fork 94 = .ok (.aload 6, 2) := by decide +kernel
theorem dX4_fork_96 : decode cX4_fork 96 = .ok (.getfield 99, 3) := by decide +kernel
theorem dX4_fork_99 : decode cX4_fork 99 = .ok (.aload 5, 2) := by decide +kernel
theorem dX4_fork_101 : decode cX4_fork 101 = .ok (.getfield 99, 3) := by decide +kernel
theorem dX4_fork_104 : decode cX4_fork 104 = .ok (.invokevirtual 103, 3) := by decide +kernel
theorem dX4_fork_107 : decode cX4_fork 107 = .ok (.aload_n 0, 1) := by decide +kernel
theorem dX4_fork_108 : decode cX4_fork 108 = .ok (.aload 6, 2) := by decide +kernel
theorem dX4_fork_110 : decode cX4_fork 110 = .ok (.invokevirtual 65, 3) := by decide +kernel
theorem dX4_fork_113 : decode cX4_fork 113 = .ok (.ireturn, 1) := by decide +kernel
theorem dX4_of_0 : decode cX4_of 0 = .ok (.aload_n 0, 1) := by decide +kernel
theorem dX4_of_1 : decode cX4_of 1 = .ok (.iload_n 1, 1) := by decide +kernel
theorem dX4_of_2 : decode cX4_of 2 = .ok (.invokevirtual 69, 3) := by decide +kernel
theorem dX4_of_5 : decode cX4_of 5 = .ok (.astore_n 3, 1) := by decide +kernel
theorem dX4_of_6 : decode cX4_of 6 = .ok (.aload_n 3, 1) := by decide +kernel
theorem dX4_of_7 : decode cX4_of 7 = .ok (.ifnonnull 5, 3) := by decide +kernel
theorem dX4_of_10 : decode cX4_of 10 = .ok (.iconst (-1), 1) := by decide +kernel
theorem dX4_of_11 : decode cX4_of 11 = .ok (.ireturn, 1) := by decide +kernel
theorem dX4_of_12 : decode cX4_of 12 = .ok (.iload_n 2, 1) := by decide +kernel
theorem dX4_of_13 : decode cX4_of 13 = .ok (.bipush 100, 2) := by decide +kernel
theorem dX4_of_15 : decode cX4_of 15 = .ok (.if_icmp .lt 12, 3) := by decide +kernel
theorem dX4_of_18 : decode cX4_of 18 = .ok (.aload_n 3, 1) := by decide +kernel
theorem dX4_of_19 : decode cX4_of 19 = .ok (.iload_n 2, 1) := by decide +kernel
theorem dX4_of_20 : decode cX4_of 20 = .ok (.bipush 100, 2) := by decide +kernel
theorem dX4_of_22 : decode cX4_of 22 = .ok (.isub, 1) := by decide +kernel
theorem dX4_of_23 : decode cX4_of 23 = .ok (.invokevirtual 109, 3) := by decide +kernel
theorem dX4_of_26 : decode cX4_of 26 = .ok (.ireturn, 1) := by decide +kernel
theorem dX4_of_27 : decode cX4_of 27 = .ok (.iload_n 2, 1) := by decide +kernel
theorem dX4_of_28 : decode cX4_of 28 = .ok (.tableswitch 158 0 12 #[68, 73, 78, 83, 88, 93, 101, 106, 111, 119, 127, 138, 149], 68) := by decide +kernel
theorem dX4_of_96 : decode cX4_of 96 = .ok (.aload_n 3, 1) := by decide +kernel
theorem dX4_of_97 : decode cX4_of 97 = .ok (.getfield 81, 3) := by decide +kernel
theorem dX4_of_100 : decode cX4_of 100 = .ok (.ireturn, 1) := by decide +kernel
theorem dX4_of_101 : decode cX4_of 101 = .ok (.aload_n 3, 1) := by decide +kernel
theorem dX4_of_102 : decode cX4_of 102 = .ok (.getfield 113, 3) := by decide +kernel
theorem dX4_of_105 : decode cX4_of 105 = .ok (.ireturn, 1) := by decide +kernel
theorem dX4_of_106 : decode cX4_of 106 = .ok (.aload_n 3, 1) := by decide +kernel
theorem dX4_of_107 : decode cX4_of 107 = .ok (.getfield 116, 3) := by decide +kernel
theorem dX4_of_110 : decode cX4_of 110 = .ok (.ireturn, 1) := by decide +kernel
theorem dX4_of_111 : decode cX4_of 111 = .ok (.aload_n 3, 1) := by decide +kernel
theorem dX4_of_112 : decode cX4_of 112 = .ok (.getfield 88, 3) := by decide +kernel
theorem dX4_of_115 : decode cX4_of 115 = .ok (.ireturn, 1) := by decide +kernel
theorem dX4_of_116 : decode cX4_of 116 = .ok (.aload_n 3, 1) := by decide +kernel
theorem dX4_of_117 : decode cX4_of 117 = .ok (.getfield 77, 3) := by decide +kernel
theorem dX4_of_120 : decode cX4_of 120 = .ok (.ireturn, 1) := by decide +kernel
theorem dX4_of_121 : decode cX4_of 121 = .ok (.aload_n 3, 1) := by decide +kernel
theorem dX4_of_122 : decode cX4_of 122 = .ok (.getfield 73, 3) := by decide +kernel
theorem dX4_of_125 : decode cX4_of 125 = .ok (.invokestatic 119, 3) := by decide +kernel
theorem dX4_of_128 : decode cX4_of 128 = .ok (.ireturn, 1) := by decide +kernel
theorem dX4_of_129 : decode cX4_of 129 = .ok (.aload_n 3, 1) := by decide +kernel
theorem dX4_of_130 : decode cX4_of 130 = .ok (.getfield 123, 3) := by decide +kernel
theorem dX4_of_133 : decode cX4_of 133 = .ok (.ireturn, 1) := by decide +kernel
theorem dX4_of_134 : decode cX4_of 134 = .ok (.aload_n 3, 1) := by decide +kernel
theorem dX4_of_135 : decode cX4_of 135 = .ok (.getfield 126, 3) := by decide +kernel
theorem dX4_of_138 : decode cX4_of 138 = .ok (.ireturn, 1) := by decide +kernel
theorem dX4_of_139 : decode cX4_of 139 = .ok (.aload_n 3, 1) := by decide +kernel
theorem dX4_of_140 : decode cX4_of 140 = .ok (.getfield 99, 3) := by decide +kernel
theorem dX4_of_143 : decode cX4_of 143 = .ok (.getfield 129, 3) := by decide +kernel
theorem dX4_of_146 : decode cX4_of 146 = .ok (.ireturn, 1) := by decide +kernel
theorem dX4_of_147 : decode cX4_of 147 = .ok (.aload_n 3, 1) := by decide +kernel
theorem dX4_of_148 : decode cX4_of 148 = .ok (.getfield 99, 3) := by decide +kernel
theorem dX4_of_151 : decode cX4_of 151 = .ok (.getfield 130, 3) := by decide +kernel
theorem dX4_of_154 : decode cX4_of 154 = .ok (.ireturn, 1) := by decide +kernel
theorem dX4_of_155 : decode cX4_of 155 = .ok (.aload_n 3, 1) := by decide +kernel
theorem dX4_of_156 : decode cX4_of 156 = .ok (.getfield 99, 3) := by decide +kernel
theorem dX4_of_159 : decode cX4_of 159 = .ok (.getfield 133, 3) := by decide +kernel
theorem dX4_of_162 : decode cX4_of 162 = .ok (.invokestatic 119, 3) := by decide +kernel
theorem dX4_of_165 : decode cX4_of 165 = .ok (.ireturn, 1) := by decide +kernel
theorem dX4_of_166 : decode cX4_of 166 = .ok (.aload_n 3, 1) := by decide +kernel
theorem dX4_of_167 : decode cX4_of 167 = .ok (.getfield 99, 3) := by decide +kernel
theorem dX4_of_170 : decode cX4_of 170 = .ok (.getfield 135, 3) := by decide +kernel
theorem dX4_of_173 : decode cX4_of 173 = .ok (.invokestatic 119, 3) := by decide +kernel
theorem dX4_of_176 : decode cX4_of 176 = .ok (.ireturn, 1) := by decide +kernel
theorem dX4_of_177 : decode cX4_of 177 = .ok (.aload_n 0, 1) := by decide +kernel
theorem dX4_of_178 : decode cX4_of 178 = .ok (.aload_n 3, 1) := by decide +kernel
theorem dX4_of_179 : decode cX4_of 179 = .ok (.invokevirtual 138, 3) := by decide +kernel
theorem dX4_of_182 : decode cX4_of 182 = .ok (.invokestatic 119, 3) := by decide +kernel
theorem dX4_of_185 : decode cX4_of 185 = .ok (.ireturn, 1) := by decide +kernel
theorem dX4_of_186 : decode cX4_of 186 = .ok (.iconst (-1), 1) := by decide +kernel
theorem dX4_of_187 : decode cX4_of 187 = .ok (.ireturn, 1) := by decide +kernel
theorem dX4_clock_0 : decode cX4_clock 0 = .ok (.aload_n 0, 1) := by decide +kernel
theorem dX4_clock_1 : decode cX4_clock 1 = .ok (.getfield 22, 3) := by decide +kernel
theorem dX4_clock_4 : decode cX4_clock 4 = .ok (.getfield 142, 3) := by decide +kernel
theorem dX4_clock_7 : decode cX4_clock 7 = .ok (.ireturn, 1) := by decide +kernel
theorem dX4_runs_0 : decode cX4_runs 0 = .ok (.aload_n 0, 1) := by decide +kernel
theorem dX4_runs_1 : decode cX4_runs 1 = .ok (.getfield 144, 3) := by decide +kernel
theorem dX4_runs_4 : decode cX4_runs 4 = .ok (.ireturn, 1) := by decide +kernel
theorem dX4_again_0 : decode cX4_again 0 = .ok (.aload_n 0, 1) := by decide +kernel
theorem dX4_again_1 : decode cX4_again 1 = .ok (.iload_n 1, 1) := by decide +kernel
theorem dX4_again_2 : decode cX4_again 2 = .ok (.invokevirtual 69, 3) := by decide +kernel
theorem dX4_again_5 : decode cX4_again 5 = .ok (.astore_n 2, 1) := by decide +kernel
theorem dX4_again_6 : decode cX4_again 6 = .ok (.aload_n 2, 1) := by decide +kernel
theorem dX4_again_7 : decode cX4_again 7 = .ok (.ifnonnull 5, 3) := by decide +kernel
theorem dX4_again_10 : decode cX4_again 10 = .ok (.iconst (-1), 1) := by decide +kernel
theorem dX4_again_11 : decode cX4_again 11 = .ok (.ireturn, 1) := by decide +kernel
theorem dX4_again_12 : decode cX4_again 12 = .ok (.new 26, 3) := by decide +kernel
theorem dX4_again_15 : decode cX4_again 15 = .ok (.dup, 1) := by decide +kernel
theorem dX4_again_16 : decode cX4_again 16 = .ok (.aload_n 2, 1) := by decide +kernel
theorem dX4_again_17 : decode cX4_again 17 = .ok (.getfield 81, 3) := by decide +kernel
theorem dX4_again_20 : decode cX4_again 20 = .ok (.aload_n 2, 1) := by decide +kernel
theorem dX4_again_21 : decode cX4_again 21 = .ok (.getfield 84, 3) := by decide +kernel
theorem dX4_again_24 : decode cX4_again 24 = .ok (.aload_n 2, 1) := by decide +kernel
theorem dX4_again_25 : decode cX4_again 25 = .ok (.getfield 113, 3) := by decide +kernel
theorem dX4_again_28 : decode cX4_again 28 = .ok (.aload_n 2, 1) := by decide +kernel
theorem dX4_again_29 : decode cX4_again 29 = .ok (.getfield 116, 3) := by decide +kernel
theorem dX4_again_32 : decode cX4_again 32 = .ok (.aload_n 2, 1) := by decide +kernel
theorem dX4_again_33 : decode cX4_again 33 = .ok (.getfield 88, 3) := by decide +kernel
theorem dX4_again_36 : decode cX4_again 36 = .ok (.invokespecial 62, 3) := by decide +kernel
theorem dX4_again_39 : decode cX4_again 39 = .ok (.astore_n 3, 1) := by decide +kernel
theorem dX4_again_40 : decode cX4_again 40 = .ok (.aload_n 2, 1) := by decide +kernel
theorem dX4_again_41 : decode cX4_again 41 = .ok (.invokevirtual 147, 3) := by decide +kernel
theorem dX4_again_44 : decode cX4_again 44 = .ok (.ifCond .eq 12, 3) := by decide +kernel
theorem dX4_again_47 : decode cX4_again 47 = .ok (.aload_n 3, 1) := by decide +kernel
theorem dX4_again_48 : decode cX4_again 48 = .ok (.aload_n 2, 1) := by decide +kernel
theorem dX4_again_49 : decode cX4_again 49 = .ok (.aload_n 2, 1) := by decide +kernel
theorem dX4_again_50 : decode cX4_again 50 = .ok (.getfield 126, 3) := by decide +kernel
theorem dX4_again_53 : decode cX4_again 53 = .ok (.invokevirtual 95, 3) := by decide +kernel
theorem dX4_again_56 : decode cX4_again 56 = .ok (.aload_n 0, 1) := by decide +kernel
theorem dX4_again_57 : decode cX4_again 57 = .ok (.getfield 22, 3) := by decide +kernel
theorem dX4_again_60 : decode cX4_again 60 = .ok (.dup, 1) := by decide +kernel
theorem dX4_again_61 : decode cX4_again 61 = .ok (.getfield 142, 3) := by decide +kernel
theorem dX4_again_64 : decode cX4_again 64 = .ok (.iconst 1, 1) := by decide +kernel
theorem dX4_again_65 : decode cX4_again 65 = .ok (.iadd, 1) := by decide +kernel
theorem dX4_again_66 : decode cX4_again 66 = .ok (.putfield 142, 3) := by decide +kernel
theorem dX4_again_69 : decode cX4_again 69 = .ok (.aload_n 3, 1) := by decide +kernel
theorem dX4_again_70 : decode cX4_again 70 = .ok (.aload_n 0, 1) := by decide +kernel
theorem dX4_again_71 : decode cX4_again 71 = .ok (.getfield 22, 3) := by decide +kernel
theorem dX4_again_74 : decode cX4_again 74 = .ok (.invokevirtual 151, 3) := by decide +kernel
theorem dX4_again_77 : decode cX4_again 77 = .ok (.aload_n 2, 1) := by decide +kernel
theorem dX4_again_78 : decode cX4_again 78 = .ok (.aload_n 3, 1) := by decide +kernel
theorem dX4_again_79 : decode cX4_again 79 = .ok (.invokevirtual 155, 3) := by decide +kernel
theorem dX4_again_82 : decode cX4_again 82 = .ok (.ireturn, 1) := by decide +kernel
theorem dX4_loose_0 : decode cX4_loose 0 = .ok (.aload_n 0, 1) := by decide +kernel
theorem dX4_loose_1 : decode cX4_loose 1 = .ok (.iload_n 1, 1) := by decide +kernel
theorem dX4_loose_2 : decode cX4_loose 2 = .ok (.invokevirtual 69, 3) := by decide +kernel
theorem dX4_loose_5 : decode cX4_loose 5 = .ok (.astore_n 2, 1) := by decide +kernel
theorem dX4_loose_6 : decode cX4_loose 6 = .ok (.aload_n 2, 1) := by decide +kernel
theorem dX4_loose_7 : decode cX4_loose 7 = .ok (.ifnonnull 5, 3) := by decide +kernel
theorem dX4_loose_10 : decode cX4_loose 10 = .ok (.iconst (-1), 1) := by decide +kernel
theorem dX4_loose_11 : decode cX4_loose 11 = .ok (.ireturn, 1) := by decide +kernel
theorem dX4_loose_12 : decode cX4_loose 12 = .ok (.aload_n 2, 1) := by decide +kernel
theorem dX4_loose_13 : decode cX4_loose 13 = .ok (.getfield 99, 3) := by decide +kernel
theorem dX4_loose_16 : decode cX4_loose 16 = .ok (.aload_n 0, 1) := by decide +kernel
theorem dX4_loose_17 : decode cX4_loose 17 = .ok (.getfield 22, 3) := by decide +kernel
theorem dX4_loose_20 : decode cX4_loose 20 = .ok (.invokevirtual 158, 3) := by decide +kernel
theorem dX4_loose_23 : decode cX4_loose 23 = .ok (.aload_n 2, 1) := by decide +kernel
theorem dX4_loose_24 : decode cX4_loose 24 = .ok (.getfield 99, 3) := by decide +kernel
theorem dX4_loose_27 : decode cX4_loose 27 = .ok (.getfield 135, 3) := by decide +kernel
theorem dX4_loose_30 : decode cX4_loose 30 = .ok (.ifCond .eq 9, 3) := by decide +kernel
theorem dX4_loose_33 : decode cX4_loose 33 = .ok (.sipush 256, 3) := by decide +kernel
theorem dX4_loose_36 : decode cX4_loose 36 = .ok (.goto 4, 3) := by decide +kernel
theorem dX4_loose_39 : decode cX4_loose 39 = .ok (.iconst 0, 1) := by decide +kernel
theorem dX4_loose_40 : decode cX4_loose 40 = .ok (.iadd, 1) := by decide +kernel
theorem dX4_loose_41 : decode cX4_loose 41 = .ok (.ireturn, 1) := by decide +kernel
theorem dX4_saved_0 : decode cX4_saved 0 = .ok (.aload_n 0, 1) := by decide +kernel
theorem dX4_saved_1 : decode cX4_saved 1 = .ok (.iload_n 1, 1) := by decide +kernel
theorem dX4_saved_2 : decode cX4_saved 2 = .ok (.invokevirtual 48, 3) := by decide +kernel
theorem dX4_saved_5 : decode cX4_saved 5 = .ok (.astore 5, 2) := by decide +kernel
theorem dX4_saved_7 : decode cX4_saved 7 = .ok (.aload 5, 2) := by decide +kernel
theorem dX4_saved_9 : decode cX4_saved 9 = .ok (.ifnull 25, 3) := by decide +kernel
theorem dX4_saved_12 : decode cX4_saved 12 = .ok (.iload_n 2, 1) := by decide +kernel
theorem dX4_saved_13 : decode cX4_saved 13 = .ok (.invokestatic 52, 3) := by decide +kernel
theorem dX4_saved_16 : decode cX4_saved 16 = .ok (.ifCond .eq 18, 3) := by decide +kernel
theorem dX4_saved_19 : decode cX4_saved 19 = .ok (.iload_n 3, 1) := by decide +kernel
theorem dX4_saved_20 : decode cX4_saved 20 = .ok (.invokestatic 56, 3) := by decide +kernel
theorem dX4_saved_23 : decode cX4_saved 23 = .ok (.ifCond .eq 11, 3) := by decide +kernel
theorem dX4_saved_26 : decode cX4_saved 26 = .ok (.iload 4, 2) := by decide +kernel
theorem dX4_saved_28 : decode cX4_saved 28 = .ok (.invokestatic 59, 3) := by decide +kernel
theorem dX4_saved_31 : decode cX4_saved 31 = .ok (.ifCond .ne 5, 3) := by decide +kernel
theorem dX4_saved_34 : decode cX4_saved 34 = .ok (.iconst (-1), 1) := by decide +kernel
theorem dX4_saved_35 : decode cX4_saved 35 = .ok (.ireturn, 1) := by decide +kernel
theorem dX4_saved_36 : decode cX4_saved 36 = .ok (.iconst 0, 1) := by decide +kernel
theorem dX4_saved_37 : decode cX4_saved 37 = .ok (.istore 6, 2) := by decide +kernel
theorem dX4_saved_39 : decode cX4_saved 39 = .ok (.iload 6, 2) := by decide +kernel
theorem dX4_saved_41 : decode cX4_saved 41 = .ok (.aload_n 0, 1) := by decide +kernel
theorem dX4_saved_42 : decode cX4_saved 42 = .ok (.getfield 144, 3) := by decide +kernel
theorem dX4_saved_45 : decode cX4_saved 45 = .ok (.if_icmp .ge 59, 3) := by decide +kernel
theorem dX4_saved_48 : decode cX4_saved 48 = .ok (.aload_n 0, 1) := by decide +kernel
theorem dX4_saved_49 : decode cX4_saved 49 = .ok (.iload 6, 2) := by decide +kernel
theorem dX4_saved_51 : decode cX4_saved 51 = .ok (.invokevirtual 69, 3) := by decide +kernel
theorem dX4_saved_54 : decode cX4_saved 54 = .ok (.astore 7, 2) := by decide +kernel
theorem dX4_saved_56 : decode cX4_saved 56 = .ok (.aload 7, 2) := by decide +kernel
theorem dX4_saved_58 : decode cX4_saved 58 = .ok (.ifnull 40, 3) := by decide +kernel
theorem dX4_saved_61 : decode cX4_saved 61 = .ok (.aload 7, 2) := by decide +kernel
theorem dX4_saved_63 : decode cX4_saved 63 = .ok (.iload_n 2, 1) := by decide +kernel
theorem dX4_saved_64 : decode cX4_saved 64 = .ok (.invokevirtual 162, 3) := by decide +kernel
theorem dX4_saved_67 : decode cX4_saved 67 = .ok (.ifCond .eq 31, 3) := by decide +kernel
theorem dX4_saved_70 : decode cX4_saved 70 = .ok (.aload 7, 2) := by decide +kernel
theorem dX4_saved_72 : decode cX4_saved 72 = .ok (.iload_n 3, 1) := by decide +kernel
theorem dX4_saved_73 : decode cX4_saved 73 = .ok (.invokevirtual 165, 3) := by decide +kernel
theorem dX4_saved_76 : decode cX4_saved 76 = .ok (.ifCond .eq 22, 3) := by decide +kernel
theorem dX4_saved_79 : decode cX4_saved 79 = .ok (.aload 7, 2) := by decide +kernel
theorem dX4_saved_81 : decode cX4_saved 81 = .ok (.aload 5, 2) := by decide +kernel
theorem dX4_saved_83 : decode cX4_saved 83 = .ok (.iload 4, 2) := by decide +kernel
theorem dX4_saved_85 : decode cX4_saved 85 = .ok (.aload_n 0, 1) := by decide +kernel
theorem dX4_saved_86 : decode cX4_saved 86 = .ok (.getfield 22, 3) := by decide +kernel
theorem dX4_saved_89 : decode cX4_saved 89 = .ok (.invokevirtual 168, 3) := by decide +kernel
theorem dX4_saved_92 : decode cX4_saved 92 = .ok (.ifCond .eq 6, 3) := by decide +kernel
theorem dX4_saved_95 : decode cX4_saved 95 = .ok (.iload 6, 2) := by decide +kernel
theorem dX4_saved_97 : decode cX4_saved 97 = .ok (.ireturn, 1) := by decide +kernel
theorem dX4_saved_98 : decode cX4_saved 98 = .ok (.iinc 6 1, 3) := by decide +kernel
theorem dX4_saved_101 : decode cX4_saved 101 = .ok (.goto (-62), 3) := by decide +kernel
theorem dX4_saved_104 : decode cX4_saved 104 = .ok (.iconst (-1), 1) := by decide +kernel
theorem dX4_saved_105 : decode cX4_saved 105 = .ok (.ireturn, 1) := by decide +kernel
theorem dX4_pairs_0 : decode cX4_pairs 0 = .ok (.iload_n 1, 1) := by decide +kernel
theorem dX4_pairs_1 : decode cX4_pairs 1 = .ok (.iload_n 2, 1) := by decide +kernel
theorem dX4_pairs_2 : decode cX4_pairs 2 = .ok (.iload_n 3, 1) := by decide +kernel
theorem dX4_pairs_3 : decode cX4_pairs 3 = .ok (.iload 4, 2) := by decide +kernel
theorem dX4_pairs_5 : decode cX4_pairs 5 = .ok (.invokestatic 172, 3) := by decide +kernel
theorem dX4_pairs_8 : decode cX4_pairs 8 = .ok (.ifCond .eq 14, 3) := by decide +kernel
theorem dX4_pairs_11 : decode cX4_pairs 11 = .ok (.iload 5, 2) := by decide +kernel
theorem dX4_pairs_13 : decode cX4_pairs 13 = .ok (.ifCond .lt 9, 3) := by decide +kernel
theorem dX4_pairs_16 : decode cX4_pairs 16 = .ok (.iload 5, 2) := by decide +kernel
theorem dX4_pairs_18 : decode cX4_pairs 18 = .ok (.iconst 2, 1) := by decide +kernel
theorem dX4_pairs_19 : decode cX4_pairs 19 = .ok (.if_icmp .le 5, 3) := by decide +kernel
theorem dX4_pairs_22 : decode cX4_pairs 22 = .ok (.iconst (-1), 1) := by decide +kernel
theorem dX4_pairs_23 : decode cX4_pairs 23 = .ok (.ireturn, 1) := by decide +kernel
theorem dX4_pairs_24 : decode cX4_pairs 24 = .ok (.aload_n 0, 1) := by decide +kernel
theorem dX4_pairs_25 : decode cX4_pairs 25 = .ok (.iload_n 1, 1) := by decide +kernel
theorem dX4_pairs_26 : decode cX4_pairs 26 = .ok (.iload_n 2, 1) := by decide +kernel
theorem dX4_pairs_27 : decode cX4_pairs 27 = .ok (.iload_n 3, 1) := by decide +kernel
theorem dX4_pairs_28 : decode cX4_pairs 28 = .ok (.iload 4, 2) := by decide +kernel
theorem dX4_pairs_30 : decode cX4_pairs 30 = .ok (.iload 5, 2) := by decide +kernel
theorem dX4_pairs_32 : decode cX4_pairs 32 = .ok (.invokevirtual 176, 3) := by decide +kernel
theorem dX4_pairs_35 : decode cX4_pairs 35 = .ok (.ireturn, 1) := by decide +kernel
theorem dX4_pair_0 : decode cX4_pair 0 = .ok (.iload_n 1, 1) := by decide +kernel
theorem dX4_pair_1 : decode cX4_pair 1 = .ok (.iload_n 2, 1) := by decide +kernel
theorem dX4_pair_2 : decode cX4_pair 2 = .ok (.iload_n 3, 1) := by decide +kernel
theorem dX4_pair_3 : decode cX4_pair 3 = .ok (.iload 4, 2) := by decide +kernel
theorem dX4_pair_5 : decode cX4_pair 5 = .ok (.invokestatic 172, 3) := by decide +kernel
theorem dX4_pair_8 : decode cX4_pair 8 = .ok (.ifCond .eq 19, 3) := by decide +kernel
theorem dX4_pair_11 : decode cX4_pair 11 = .ok (.iload 5, 2) := by decide +kernel
theorem dX4_pair_13 : decode cX4_pair 13 = .ok (.ifCond .lt 14, 3) := by decide +kernel
theorem dX4_pair_16 : decode cX4_pair 16 = .ok (.iload 6, 2) := by decide +kernel
theorem dX4_pair_18 : decode cX4_pair 18 = .ok (.ifCond .lt 9, 3) := by decide +kernel
theorem dX4_pair_21 : decode cX4_pair 21 = .ok (.iload 6, 2) := by decide +kernel
theorem dX4_pair_23 : decode cX4_pair 23 = .ok (.iconst 1, 1) := by decide +kernel
theorem dX4_pair_24 : decode cX4_pair 24 = .ok (.if_icmp .le 5, 3) := by decide +kernel
theorem dX4_pair_27 : decode cX4_pair 27 = .ok (.iconst (-1), 1) := by decide +kernel
theorem dX4_pair_28 : decode cX4_pair 28 = .ok (.ireturn, 1) := by decide +kernel
theorem dX4_pair_29 : decode cX4_pair 29 = .ok (.iload 5, 2) := by decide +kernel
theorem dX4_pair_31 : decode cX4_pair 31 = .ok (.istore 7, 2) := by decide +kernel
theorem dX4_pair_33 : decode cX4_pair 33 = .ok (.iconst 0, 1) := by decide +kernel
theorem dX4_pair_34 : decode cX4_pair 34 = .ok (.istore 8, 2) := by decide +kernel
theorem dX4_pair_36 : decode cX4_pair 36 = .ok (.iload 8, 2) := by decide +kernel
theorem dX4_pair_38 : decode cX4_pair 38 = .ok (.aload_n 0, 1) := by decide +kernel
theorem dX4_pair_39 : decode cX4_pair 39 = .ok (.getfield 144, 3) := by decide +kernel
theorem dX4_pair_42 : decode cX4_pair 42 = .ok (.if_icmp .ge 105, 3) := by decide +kernel
theorem dX4_pair_45 : decode cX4_pair 45 = .ok (.aload_n 0, 1) := by decide +kernel
theorem dX4_pair_46 : decode cX4_pair 46 = .ok (.iload 8, 2) := by decide +kernel
theorem dX4_pair_48 : decode cX4_pair 48 = .ok (.invokevirtual 69, 3) := by decide +kernel
theorem dX4_pair_51 : decode cX4_pair 51 = .ok (.astore 9, 2) := by decide +kernel
theorem dX4_pair_53 : decode cX4_pair 53 = .ok (.aload 9, 2) := by decide +kernel
theorem dX4_pair_55 : decode cX4_pair 55 = .ok (.iload_n 1, 1) := by decide +kernel
theorem dX4_pair_56 : decode cX4_pair 56 = .ok (.iload_n 2, 1) := by decide +kernel
theorem dX4_pair_57 : decode cX4_pair 57 = .ok (.iload 4, 2) := by decide +kernel
theorem dX4_pair_59 : decode cX4_pair 59 = .ok (.invokestatic 180, 3) := by decide +kernel
theorem dX4_pair_62 : decode cX4_pair 62 = .ok (.ifCond .ne 6, 3) := by decide +kernel
theorem dX4_pair_65 : decode cX4_pair 65 = .ok (.goto 76, 3) := by decide +kernel
theorem dX4_pair_68 : decode cX4_pair 68 = .ok (.iconst 0, 1) := by decide +kernel
theorem dX4_pair_69 : decode cX4_pair 69 = .ok (.istore 10, 2) := by decide +kernel
theorem dX4_pair_71 : decode cX4_pair 71 = .ok (.iload 10, 2) := by decide +kernel
theorem dX4_pair_73 : decode cX4_pair 73 = .ok (.aload_n 0, 1) := by decide +kernel
theorem dX4_pair_74 : decode cX4_pair 74 = .ok (.getfield 144, 3) := by decide +kernel
theorem dX4_pair_77 : decode cX4_pair 77 = .ok (.if_icmp .ge 64, 3) := by decide +kernel
theorem dX4_pair_80 : decode cX4_pair 80 = .ok (.aload_n 0, 1) := by decide +kernel
theorem dX4_pair_81 : decode cX4_pair 81 = .ok (.iload 10, 2) := by decide +kernel
theorem dX4_pair_83 : decode cX4_pair 83 = .ok (.invokevirtual 69, 3) := by decide +kernel
theorem dX4_pair_86 : decode cX4_pair 86 = .ok (.astore 11, 2) := by decide +kernel
theorem dX4_pair_88 : decode cX4_pair 88 = .ok (.aload 11, 2) := by decide +kernel
theorem dX4_pair_90 : decode cX4_pair 90 = .ok (.iload_n 1, 1) := by decide +kernel
theorem dX4_pair_91 : decode cX4_pair 91 = .ok (.iload_n 3, 1) := by decide +kernel
theorem dX4_pair_92 : decode cX4_pair 92 = .ok (.iload 4, 2) := by decide +kernel
theorem dX4_pair_94 : decode cX4_pair 94 = .ok (.invokestatic 180, 3) := by decide +kernel
theorem dX4_pair_97 : decode cX4_pair 97 = .ok (.ifCond .eq 38, 3) := by decide +kernel
theorem dX4_pair_100 : decode cX4_pair 100 = .ok (.aload 9, 2) := by decide +kernel
theorem dX4_pair_102 : decode cX4_pair 102 = .ok (.aload 11, 2) := by decide +kernel
theorem dX4_pair_104 : decode cX4_pair 104 = .ok (.iload_n 1, 1) := by decide +kernel
theorem dX4_pair_105 : decode cX4_pair 105 = .ok (.invokevirtual 184, 3) := by decide +kernel
theorem dX4_pair_108 : decode cX4_pair 108 = .ok (.ifCond .ne 6, 3) := by decide +kernel
theorem dX4_pair_111 : decode cX4_pair 111 = .ok (.goto 24, 3) := by decide +kernel
theorem dX4_pair_114 : decode cX4_pair 114 = .ok (.iload 7, 2) := by decide +kernel
theorem dX4_pair_116 : decode cX4_pair 116 = .ok (.ifCond .ne 16, 3) := by decide +kernel
theorem dX4_pair_119 : decode cX4_pair 119 = .ok (.iload 6, 2) := by decide +kernel
theorem dX4_pair_121 : decode cX4_pair 121 = .ok (.ifCond .ne 8, 3) := by decide +kernel
theorem dX4_pair_124 : decode cX4_pair 124 = .ok (.iload 8, 2) := by decide +kernel
theorem dX4_pair_126 : decode cX4_pair 126 = .ok (.goto 5, 3) := by decide +kernel
theorem dX4_pair_129 : decode cX4_pair 129 = .ok (.iload 10, 2) := by decide +kernel
theorem dX4_pair_131 : decode cX4_pair 131 = .ok (.ireturn, 1) := by decide +kernel
theorem dX4_pair_132 : decode cX4_pair 132 = .ok (.iinc 7 (-1), 3) := by decide +kernel
theorem dX4_pair_135 : decode cX4_pair 135 = .ok (.iinc 10 1, 3) := by decide +kernel
theorem dX4_pair_138 : decode cX4_pair 138 = .ok (.goto (-67), 3) := by decide +kernel
theorem dX4_pair_141 : decode cX4_pair 141 = .ok (.iinc 8 1, 3) := by decide +kernel
theorem dX4_pair_144 : decode cX4_pair 144 = .ok (.goto (-108), 3) := by decide +kernel
theorem dX4_pair_147 : decode cX4_pair 147 = .ok (.iconst (-1), 1) := by decide +kernel
theorem dX4_pair_148 : decode cX4_pair 148 = .ok (.ireturn, 1) := by decide +kernel
theorem dX4_sure_0 : decode cX4_sure 0 = .ok (.iload_n 1, 1) := by decide +kernel
theorem dX4_sure_1 : decode cX4_sure 1 = .ok (.iload_n 2, 1) := by decide +kernel
theorem dX4_sure_2 : decode cX4_sure 2 = .ok (.iload_n 3, 1) := by decide +kernel
theorem dX4_sure_3 : decode cX4_sure 3 = .ok (.iload 4, 2) := by decide +kernel
theorem dX4_sure_5 : decode cX4_sure 5 = .ok (.invokestatic 172, 3) := by decide +kernel
theorem dX4_sure_8 : decode cX4_sure 8 = .ok (.ifCond .eq 25, 3) := by decide +kernel
theorem dX4_sure_11 : decode cX4_sure 11 = .ok (.iload 5, 2) := by decide +kernel
theorem dX4_sure_13 : decode cX4_sure 13 = .ok (.iconst 1, 1) := by decide +kernel
theorem dX4_sure_14 : decode cX4_sure 14 = .ok (.if_icmp .lt 19, 3) := by decide +kernel
theorem dX4_sure_17 : decode cX4_sure 17 = .ok (.iload 5, 2) := by decide +kernel
theorem dX4_sure_19 : decode cX4_sure 19 = .ok (.sipush 1000, 3) := by decide +kernel
theorem dX4_sure_22 : decode cX4_sure 22 = .ok (.if_icmp .gt 11, 3) := by decide +kernel
theorem dX4_sure_25 : decode cX4_sure 25 = .ok (.iload 6, 2) := by decide +kernel
theorem dX4_sure_27 : decode cX4_sure 27 = .ok (.invokestatic 188, 3) := by decide +kernel
theorem dX4_sure_30 : decode cX4_sure 30 = .ok (.ifCond .ne 5, 3) := by decide +kernel
theorem dX4_sure_33 : decode cX4_sure 33 = .ok (.iconst (-1), 1) := by decide +kernel
theorem dX4_sure_34 : decode cX4_sure 34 = .ok (.ireturn, 1) := by decide +kernel
theorem dX4_sure_35 : decode cX4_sure 35 = .ok (.aload_n 0, 1) := by decide +kernel
theorem dX4_sure_36 : decode cX4_sure 36 = .ok (.iload_n 1, 1) := by decide +kernel
theorem dX4_sure_37 : decode cX4_sure 37 = .ok (.iload_n 2, 1) := by decide +kernel
theorem dX4_sure_38 : decode cX4_sure 38 = .ok (.iload_n 3, 1) := by decide +kernel
theorem dX4_sure_39 : decode cX4_sure 39 = .ok (.iload 4, 2) := by decide +kernel
theorem dX4_sure_41 : decode cX4_sure 41 = .ok (.iload 5, 2) := by decide +kernel
theorem dX4_sure_43 : decode cX4_sure 43 = .ok (.i2l, 1) := by decide +kernel
theorem dX4_sure_44 : decode cX4_sure 44 = .ok (.iload 6, 2) := by decide +kernel
theorem dX4_sure_46 : decode cX4_sure 46 = .ok (.i2l, 1) := by decide +kernel
theorem dX4_sure_47 : decode cX4_sure 47 = .ok (.lmul, 1) := by decide +kernel
theorem dX4_sure_48 : decode cX4_sure 48 = .ok (.invokevirtual 191, 3) := by decide +kernel
theorem dX4_sure_51 : decode cX4_sure 51 = .ok (.ireturn, 1) := by decide +kernel
theorem dX4_best_0 : decode cX4_best 0 = .ok (.iload_n 1, 1) := by decide +kernel
theorem dX4_best_1 : decode cX4_best 1 = .ok (.invokestatic 195, 3) := by decide +kernel
theorem dX4_best_4 : decode cX4_best 4 = .ok (.ifCond .eq 17, 3) := by decide +kernel
theorem dX4_best_7 : decode cX4_best 7 = .ok (.iload_n 2, 1) := by decide +kernel
theorem dX4_best_8 : decode cX4_best 8 = .ok (.invokestatic 59, 3) := by decide +kernel
theorem dX4_best_11 : decode cX4_best 11 = .ok (.ifCond .eq 10, 3) := by decide +kernel
theorem dX4_best_14 : decode cX4_best 14 = .ok (.iload_n 3, 1) := by decide +kernel
theorem dX4_best_15 : decode cX4_best 15 = .ok (.invokestatic 188, 3) := by decide +kernel
theorem dX4_best_18 : decode cX4_best 18 = .ok (.ifCond .ne 5, 3) := by decide +kernel
theorem dX4_best_21 : decode cX4_best 21 = .ok (.iconst (-1), 1) := by decide +kernel
theorem dX4_best_22 : decode cX4_best 22 = .ok (.ireturn, 1) := by decide +kernel
theorem dX4_best_23 : decode cX4_best 23 = .ok (.aload_n 0, 1) := by decide +kernel
theorem dX4_best_24 : decode cX4_best 24 = .ok (.iload_n 1, 1) := by decide +kernel
theorem dX4_best_25 : decode cX4_best 25 = .ok (.invokevirtual 198, 3) := by decide +kernel
theorem dX4_best_28 : decode cX4_best 28 = .ok (.istore 4, 2) := by decide +kernel
theorem dX4_best_30 : decode cX4_best 30 = .ok (.iload 4, 2) := by decide +kernel
theorem dX4_best_32 : decode cX4_best 32 = .ok (.iconst 2, 1) := by decide +kernel
theorem dX4_best_33 : decode cX4_best 33 = .ok (.if_icmp .ge 5, 3) := by decide +kernel
theorem dX4_best_36 : decode cX4_best 36 = .ok (.iconst (-1), 1) := by decide +kernel
theorem dX4_best_37 : decode cX4_best 37 = .ok (.ireturn, 1) := by decide +kernel
theorem dX4_best_38 : decode cX4_best 38 = .ok (.iload 4, 2) := by decide +kernel
theorem dX4_best_40 : decode cX4_best 40 = .ok (.i2l, 1) := by decide +kernel
theorem dX4_best_41 : decode cX4_best 41 = .ok (.iload 4, 2) := by decide +kernel
theorem dX4_best_43 : decode cX4_best 43 = .ok (.iconst 1, 1) := by decide +kernel
theorem dX4_best_44 : decode cX4_best 44 = .ok (.isub, 1) := by decide +kernel
theorem dX4_best_45 : decode cX4_best 45 = .ok (.i2l, 1) := by decide +kernel
theorem dX4_best_46 : decode cX4_best 46 = .ok (.lmul, 1) := by decide +kernel
theorem dX4_best_47 : decode cX4_best 47 = .ok (.iload_n 3, 1) := by decide +kernel
theorem dX4_best_48 : decode cX4_best 48 = .ok (.i2l, 1) := by decide +kernel
theorem dX4_best_49 : decode cX4_best 49 = .ok (.lmul, 1) := by decide +kernel
theorem dX4_best_50 : decode cX4_best 50 = .ok (.lstore 5, 2) := by decide +kernel
theorem dX4_best_52 : decode cX4_best 52 = .ok (.iconst 0, 1) := by decide +kernel
theorem dX4_best_53 : decode cX4_best 53 = .ok (.istore 7, 2) := by decide +kernel
theorem dX4_best_55 : decode cX4_best 55 = .ok (.iload 7, 2) := by decide +kernel
theorem dX4_best_57 : decode cX4_best 57 = .ok (.iload 4, 2) := by decide +kernel
theorem dX4_best_59 : decode cX4_best 59 = .ok (.if_icmp .ge 25, 3) := by decide +kernel
theorem dX4_best_62 : decode cX4_best 62 = .ok (.aload_n 0, 1) := by decide +kernel
theorem dX4_best_63 : decode cX4_best 63 = .ok (.iload_n 1, 1) := by decide +kernel
theorem dX4_best_64 : decode cX4_best 64 = .ok (.iload 7, 2) := by decide +kernel
theorem dX4_best_66 : decode cX4_best 66 = .ok (.iload_n 2, 1) := by decide +kernel
theorem dX4_best_67 : decode cX4_best 67 = .ok (.lload 5, 2) := by decide +kernel
theorem dX4_best_69 : decode cX4_best 69 = .ok (.invokevirtual 201, 3) := by decide +kernel
theorem dX4_best_72 : decode cX4_best 72 = .ok (.ifCond .eq 6, 3) := by decide +kernel
theorem dX4_best_75 : decode cX4_best 75 = .ok (.iload 7, 2) := by decide +kernel
theorem dX4_best_77 : decode cX4_best 77 = .ok (.ireturn, 1) := by decide +kernel
theorem dX4_best_78 : decode cX4_best 78 = .ok (.iinc 7 1, 3) := by decide +kernel
theorem dX4_best_81 : decode cX4_best 81 = .ok (.goto (-26), 3) := by decide +kernel
theorem dX4_best_84 : decode cX4_best 84 = .ok (.iconst (-1), 1) := by decide +kernel
theorem dX4_best_85 : decode cX4_best 85 = .ok (.ireturn, 1) := by decide +kernel
theorem dX4_holes_0 : decode cX4_holes 0 = .ok (.aload_n 0, 1) := by decide +kernel
theorem dX4_holes_1 : decode cX4_holes 1 = .ok (.iload_n 1, 1) := by decide +kernel
theorem dX4_holes_2 : decode cX4_holes 2 = .ok (.invokevirtual 48, 3) := by decide +kernel
theorem dX4_holes_5 : decode cX4_holes 5 = .ok (.astore 4, 2) := by decide +kernel
theorem dX4_holes_7 : decode cX4_holes 7 = .ok (.aload 4, 2) := by decide +kernel
theorem dX4_holes_9 : decode cX4_holes 9 = .ok (.ifnull 17, 3) := by decide +kernel
theorem dX4_holes_12 : decode cX4_holes 12 = .ok (.iload_n 2, 1) := by decide +kernel
theorem dX4_holes_13 : decode cX4_holes 13 = .ok (.invokestatic 59, 3) := by decide +kernel
theorem dX4_holes_16 : decode cX4_holes 16 = .ok (.ifCond .eq 10, 3) := by decide +kernel
theorem dX4_holes_19 : decode cX4_holes 19 = .ok (.iload_n 3, 1) := by decide +kernel
theorem dX4_holes_20 : decode cX4_holes 20 = .ok (.invokestatic 205, 3) := by decide +kernel
theorem dX4_holes_23 : decode cX4_holes 23 = .ok (.ifCond .ne 5, 3) := by decide +kernel
theorem dX4_holes_26 : decode cX4_holes 26 = .ok (.iconst (-1), 1) := by decide +kernel
theorem dX4_holes_27 : decode cX4_holes 27 = .ok (.ireturn, 1) := by decide +kernel
theorem dX4_holes_28 : decode cX4_holes 28 = .ok (.aload_n 0, 1) := by decide +kernel
theorem dX4_holes_29 : decode cX4_holes 29 = .ok (.aload 4, 2) := by decide +kernel
theorem dX4_holes_31 : decode cX4_holes 31 = .ok (.iload_n 2, 1) := by decide +kernel
theorem dX4_holes_32 : decode cX4_holes 32 = .ok (.invokevirtual 208, 3) := by decide +kernel
theorem dX4_holes_35 : decode cX4_holes 35 = .ok (.iconst 0, 1) := by decide +kernel
theorem dX4_holes_36 : decode cX4_holes 36 = .ok (.istore 5, 2) := by decide +kernel
theorem dX4_holes_38 : decode cX4_holes 38 = .ok (.iconst 0, 1) := by decide +kernel
theorem dX4_holes_39 : decode cX4_holes 39 = .ok (.istore 6, 2) := by decide +kernel
theorem dX4_holes_41 : decode cX4_holes 41 = .ok (.iconst 0, 1) := by decide +kernel
theorem dX4_holes_42 : decode cX4_holes 42 = .ok (.istore 7, 2) := by decide +kernel
theorem dX4_holes_44 : decode cX4_holes 44 = .ok (.iload 7, 2) := by decide +kernel
theorem dX4_holes_46 : decode cX4_holes 46 = .ok (.sipush 1296, 3) := by decide +kernel
theorem dX4_holes_49 : decode cX4_holes 49 = .ok (.if_icmp .ge 38, 3) := by decide +kernel
theorem dX4_holes_52 : decode cX4_holes 52 = .ok (.iload 6, 2) := by decide +kernel
theorem dX4_holes_54 : decode cX4_holes 54 = .ok (.iconst (-1), 1) := by decide +kernel
theorem dX4_holes_55 : decode cX4_holes 55 = .ok (.if_icmp .eq 32, 3) := by decide +kernel
theorem dX4_holes_58 : decode cX4_holes 58 = .ok (.iload 5, 2) := by decide +kernel
theorem dX4_holes_60 : decode cX4_holes 60 = .ok (.aload_n 0, 1) := by decide +kernel
theorem dX4_holes_61 : decode cX4_holes 61 = .ok (.iload 6, 2) := by decide +kernel
theorem dX4_holes_63 : decode cX4_holes 63 = .ok (.iload_n 3, 1) := by decide +kernel
theorem dX4_holes_64 : decode cX4_holes 64 = .ok (.invokevirtual 212, 3) := by decide +kernel
theorem dX4_holes_67 : decode cX4_holes 67 = .ok (.invokestatic 216, 3) := by decide +kernel
theorem dX4_holes_70 : decode cX4_holes 70 = .ok (.iadd, 1) := by decide +kernel
theorem dX4_holes_71 : decode cX4_holes 71 = .ok (.istore 5, 2) := by decide +kernel
theorem dX4_holes_73 : decode cX4_holes 73 = .ok (.aload_n 0, 1) := by decide +kernel
theorem dX4_holes_74 : decode cX4_holes 74 = .ok (.iload 6, 2) := by decide +kernel
theorem dX4_holes_76 : decode cX4_holes 76 = .ok (.invokevirtual 221, 3) := by decide +kernel
theorem dX4_holes_79 : decode cX4_holes 79 = .ok (.istore 6, 2) := by decide +kernel
theorem dX4_holes_81 : decode cX4_holes 81 = .ok (.iinc 7 1, 3) := by decide +kernel
theorem dX4_holes_84 : decode cX4_holes 84 = .ok (.goto (-40), 3) := by decide +kernel
theorem dX4_holes_87 : decode cX4_holes 87 = .ok (.iload 5, 2) := by decide +kernel
theorem dX4_holes_89 : decode cX4_holes 89 = .ok (.ireturn, 1) := by decide +kernel
theorem dX4_hole_0 : decode cX4_hole 0 = .ok (.aload_n 0, 1) := by decide +kernel
theorem dX4_hole_1 : decode cX4_hole 1 = .ok (.iload_n 1, 1) := by decide +kernel
theorem dX4_hole_2 : decode cX4_hole 2 = .ok (.invokevirtual 48, 3) := by decide +kernel
theorem dX4_hole_5 : decode cX4_hole 5 = .ok (.astore 6, 2) := by decide +kernel
theorem dX4_hole_7 : decode cX4_hole 7 = .ok (.aload 6, 2) := by decide +kernel
theorem dX4_hole_9 : decode cX4_hole 9 = .ok (.ifnull 33, 3) := by decide +kernel
theorem dX4_hole_12 : decode cX4_hole 12 = .ok (.iload_n 2, 1) := by decide +kernel
theorem dX4_hole_13 : decode cX4_hole 13 = .ok (.invokestatic 59, 3) := by decide +kernel
theorem dX4_hole_16 : decode cX4_hole 16 = .ok (.ifCond .eq 26, 3) := by decide +kernel
theorem dX4_hole_19 : decode cX4_hole 19 = .ok (.iload_n 3, 1) := by decide +kernel
theorem dX4_hole_20 : decode cX4_hole 20 = .ok (.invokestatic 205, 3) := by decide +kernel
theorem dX4_hole_23 : decode cX4_hole 23 = .ok (.ifCond .eq 19, 3) := by decide +kernel
theorem dX4_hole_26 : decode cX4_hole 26 = .ok (.iload 4, 2) := by decide +kernel
theorem dX4_hole_28 : decode cX4_hole 28 = .ok (.ifCond .lt 14, 3) := by decide +kernel
theorem dX4_hole_31 : decode cX4_hole 31 = .ok (.iload 5, 2) := by decide +kernel
theorem dX4_hole_33 : decode cX4_hole 33 = .ok (.ifCond .lt 9, 3) := by decide +kernel
theorem dX4_hole_36 : decode cX4_hole 36 = .ok (.iload 5, 2) := by decide +kernel
theorem dX4_hole_38 : decode cX4_hole 38 = .ok (.iconst 1, 1) := by decide +kernel
theorem dX4_hole_39 : decode cX4_hole 39 = .ok (.if_icmp .le 5, 3) := by decide +kernel
theorem dX4_hole_42 : decode cX4_hole 42 = .ok (.iconst (-1), 1) := by decide +kernel
theorem dX4_hole_43 : decode cX4_hole 43 = .ok (.ireturn, 1) := by decide +kernel
theorem dX4_hole_44 : decode cX4_hole 44 = .ok (.aload_n 0, 1) := by decide +kernel
theorem dX4_hole_45 : decode cX4_hole 45 = .ok (.aload 6, 2) := by decide +kernel
theorem dX4_hole_47 : decode cX4_hole 47 = .ok (.iload_n 2, 1) := by decide +kernel
theorem dX4_hole_48 : decode cX4_hole 48 = .ok (.invokevirtual 208, 3) := by decide +kernel
theorem dX4_hole_51 : decode cX4_hole 51 = .ok (.iload 4, 2) := by decide +kernel
theorem dX4_hole_53 : decode cX4_hole 53 = .ok (.istore 7, 2) := by decide +kernel
theorem dX4_hole_55 : decode cX4_hole 55 = .ok (.iconst 0, 1) := by decide +kernel
theorem dX4_hole_56 : decode cX4_hole 56 = .ok (.istore 8, 2) := by decide +kernel
theorem dX4_hole_58 : decode cX4_hole 58 = .ok (.iconst 0, 1) := by decide +kernel
theorem dX4_hole_59 : decode cX4_hole 59 = .ok (.istore 9, 2) := by decide +kernel
theorem dX4_hole_61 : decode cX4_hole 61 = .ok (.iload 9, 2) := by decide +kernel
theorem dX4_hole_63 : decode cX4_hole 63 = .ok (.sipush 1296, 3) := by decide +kernel
theorem dX4_hole_66 : decode cX4_hole 66 = .ok (.if_icmp .ge 71, 3) := by decide +kernel
theorem dX4_hole_69 : decode cX4_hole 69 = .ok (.iload 8, 2) := by decide +kernel
theorem dX4_hole_71 : decode cX4_hole 71 = .ok (.iconst (-1), 1) := by decide +kernel
theorem dX4_hole_72 : decode cX4_hole 72 = .ok (.if_icmp .eq 65, 3) := by decide +kernel
theorem dX4_hole_75 : decode cX4_hole 75 = .ok (.aload_n 0, 1) := by decide +kernel
theorem dX4_hole_76 : decode cX4_hole 76 = .ok (.iload 8, 2) := by decide +kernel
theorem dX4_hole_78 : decode cX4_hole 78 = .ok (.iload_n 3, 1) := by decide +kernel
theorem dX4_hole_79 : decode cX4_hole 79 = .ok (.invokevirtual 212, 3) := by decide +kernel
theorem dX4_hole_82 : decode cX4_hole 82 = .ok (.istore 10, 2) := by decide +kernel
theorem dX4_hole_84 : decode cX4_hole 84 = .ok (.iload 10, 2) := by decide +kernel
theorem dX4_hole_86 : decode cX4_hole 86 = .ok (.invokestatic 216, 3) := by decide +kernel
theorem dX4_hole_89 : decode cX4_hole 89 = .ok (.istore 11, 2) := by decide +kernel
theorem dX4_hole_91 : decode cX4_hole 91 = .ok (.iload 7, 2) := by decide +kernel
theorem dX4_hole_93 : decode cX4_hole 93 = .ok (.iload 11, 2) := by decide +kernel
theorem dX4_hole_95 : decode cX4_hole 95 = .ok (.if_icmp .ge 21, 3) := by decide +kernel
theorem dX4_hole_98 : decode cX4_hole 98 = .ok (.iload 5, 2) := by decide +kernel
theorem dX4_hole_100 : decode cX4_hole 100 = .ok (.ifCond .ne 8, 3) := by decide +kernel
theorem dX4_hole_103 : decode cX4_hole 103 = .ok (.iload 8, 2) := by decide +kernel
theorem dX4_hole_105 : decode cX4_hole 105 = .ok (.goto 10, 3) := by decide +kernel
theorem dX4_hole_108 : decode cX4_hole 108 = .ok (.iload 10, 2) := by decide +kernel
theorem dX4_hole_110 : decode cX4_hole 110 = .ok (.iload 7, 2) := by decide +kernel
theorem dX4_hole_112 : decode cX4_hole 112 = .ok (.invokestatic 224, 3) := by decide +kernel
theorem dX4_hole_115 : decode cX4_hole 115 = .ok (.ireturn, 1) := by decide +kernel
theorem dX4_hole_116 : decode cX4_hole 116 = .ok (.iload 7, 2) := by decide +kernel
theorem dX4_hole_118 : decode cX4_hole 118 = .ok (.iload 11, 2) := by decide +kernel
theorem dX4_hole_120 : decode cX4_hole 120 = .ok (.isub, 1) := by decide +kernel
theorem dX4_hole_121 : decode cX4_hole 121 = .ok (.istore 7, 2) := by decide +kernel
theorem dX4_hole_123 : decode cX4_hole 123 = .ok (.aload_n 0, 1) := by decide +kernel
theorem dX4_hole_124 : decode cX4_hole 124 = .ok (.iload 8, 2) := by decide +kernel
theorem dX4_hole_126 : decode cX4_hole 126 = .ok (.invokevirtual 221, 3) := by decide +kernel
theorem dX4_hole_129 : decode cX4_hole 129 = .ok (.istore 8, 2) := by decide +kernel
theorem dX4_hole_131 : decode cX4_hole 131 = .ok (.iinc 9 1, 3) := by decide +kernel
theorem dX4_hole_134 : decode cX4_hole 134 = .ok (.goto (-73), 3) := by decide +kernel
theorem dX4_hole_137 : decode cX4_hole 137 = .ok (.iconst (-1), 1) := by decide +kernel
theorem dX4_hole_138 : decode cX4_hole 138 = .ok (.ireturn, 1) := by decide +kernel
theorem dX4_idle_0 : decode cX4_idle 0 = .ok (.iconst 0, 1) := by decide +kernel
theorem dX4_idle_1 : decode cX4_idle 1 = .ok (.istore_n 1, 1) := by decide +kernel
theorem dX4_idle_2 : decode cX4_idle 2 = .ok (.iconst 0, 1) := by decide +kernel
theorem dX4_idle_3 : decode cX4_idle 3 = .ok (.istore_n 2, 1) := by decide +kernel
theorem dX4_idle_4 : decode cX4_idle 4 = .ok (.iload_n 2, 1) := by decide +kernel
theorem dX4_idle_5 : decode cX4_idle 5 = .ok (.aload_n 0, 1) := by decide +kernel
theorem dX4_idle_6 : decode cX4_idle 6 = .ok (.getfield 144, 3) := by decide +kernel
theorem dX4_idle_9 : decode cX4_idle 9 = .ok (.if_icmp .ge 29, 3) := by decide +kernel
theorem dX4_idle_12 : decode cX4_idle 12 = .ok (.aload_n 0, 1) := by decide +kernel
theorem dX4_idle_13 : decode cX4_idle 13 = .ok (.iload_n 2, 1) := by decide +kernel
theorem dX4_idle_14 : decode cX4_idle 14 = .ok (.invokevirtual 69, 3) := by decide +kernel
theorem dX4_idle_17 : decode cX4_idle 17 = .ok (.astore_n 3, 1) := by decide +kernel
theorem dX4_idle_18 : decode cX4_idle 18 = .ok (.aload_n 3, 1) := by decide +kernel
theorem dX4_idle_19 : decode cX4_idle 19 = .ok (.ifnull 13, 3) := by decide +kernel
theorem dX4_idle_22 : decode cX4_idle 22 = .ok (.iload_n 1, 1) := by decide +kernel
theorem dX4_idle_23 : decode cX4_idle 23 = .ok (.aload_n 3, 1) := by decide +kernel
theorem dX4_idle_24 : decode cX4_idle 24 = .ok (.getfield 99, 3) := by decide +kernel
theorem dX4_idle_27 : decode cX4_idle 27 = .ok (.getfield 129, 3) := by decide +kernel
theorem dX4_idle_30 : decode cX4_idle 30 = .ok (.ior, 1) := by decide +kernel
theorem dX4_idle_31 : decode cX4_idle 31 = .ok (.istore_n 1, 1) := by decide +kernel
theorem dX4_idle_32 : decode cX4_idle 32 = .ok (.iinc 2 1, 3) := by decide +kernel
theorem dX4_idle_35 : decode cX4_idle 35 = .ok (.goto (-31), 3) := by decide +kernel
theorem dX4_idle_38 : decode cX4_idle 38 = .ok (.bipush 15, 2) := by decide +kernel
theorem dX4_idle_40 : decode cX4_idle 40 = .ok (.iload_n 1, 1) := by decide +kernel
theorem dX4_idle_41 : decode cX4_idle 41 = .ok (.iconst (-1), 1) := by decide +kernel
theorem dX4_idle_42 : decode cX4_idle 42 = .ok (.ixor, 1) := by decide +kernel
theorem dX4_idle_43 : decode cX4_idle 43 = .ok (.iand, 1) := by decide +kernel
theorem dX4_idle_44 : decode cX4_idle 44 = .ok (.ireturn, 1) := by decide +kernel
theorem dX4_claim_0 : decode cX4_claim 0 = .ok (.aload_n 0, 1) := by decide +kernel
theorem dX4_claim_1 : decode cX4_claim 1 = .ok (.iload_n 1, 1) := by decide +kernel
theorem dX4_claim_2 : decode cX4_claim 2 = .ok (.invokevirtual 69, 3) := by decide +kernel
theorem dX4_claim_5 : decode cX4_claim 5 = .ok (.astore_n 2, 1) := by decide +kernel
theorem dX4_claim_6 : decode cX4_claim 6 = .ok (.aload_n 2, 1) := by decide +kernel
theorem dX4_claim_7 : decode cX4_claim 7 = .ok (.ifnull 26, 3) := by decide +kernel
theorem dX4_claim_10 : decode cX4_claim 10 = .ok (.aload_n 2, 1) := by decide +kernel
theorem dX4_claim_11 : decode cX4_claim 11 = .ok (.getfield 73, 3) := by decide +kernel
theorem dX4_claim_14 : decode cX4_claim 14 = .ok (.ifCond .ne 19, 3) := by decide +kernel
theorem dX4_claim_17 : decode cX4_claim 17 = .ok (.aload_n 0, 1) := by decide +kernel
theorem dX4_claim_18 : decode cX4_claim 18 = .ok (.getfield 227, 3) := by decide +kernel
theorem dX4_claim_21 : decode cX4_claim 21 = .ok (.ifCond .lt 12, 3) := by decide +kernel
theorem dX4_claim_24 : decode cX4_claim 24 = .ok (.aload_n 0, 1) := by decide +kernel
theorem dX4_claim_25 : decode cX4_claim 25 = .ok (.getfield 227, 3) := by decide +kernel
theorem dX4_claim_28 : decode cX4_claim 28 = .ok (.bipush 20, 2) := by decide +kernel
theorem dX4_claim_30 : decode cX4_claim 30 = .ok (.if_icmp .lt 5, 3) := by decide +kernel
theorem dX4_claim_33 : decode cX4_claim 33 = .ok (.iconst (-1), 1) := by decide +kernel
theorem dX4_claim_34 : decode cX4_claim 34 = .ok (.ireturn, 1) := by decide +kernel
theorem dX4_claim_35 : decode cX4_claim 35 = .ok (.aload_n 0, 1) := by decide +kernel
theorem dX4_claim_36 : decode cX4_claim 36 = .ok (.getfield 32, 3) := by decide +kernel
theorem dX4_claim_39 : decode cX4_claim 39 = .ok (.aload_n 0, 1) := by decide +kernel
theorem dX4_claim_40 : decode cX4_claim 40 = .ok (.getfield 227, 3) := by decide +kernel
theorem dX4_claim_43 : decode cX4_claim 43 = .ok (.iload_n 1, 1) := by decide +kernel
theorem dX4_claim_44 : decode cX4_claim 44 = .ok (.iastore, 1) := by decide +kernel
theorem dX4_claim_45 : decode cX4_claim 45 = .ok (.aload_n 0, 1) := by decide +kernel
theorem dX4_claim_46 : decode cX4_claim 46 = .ok (.getfield 35, 3) := by decide +kernel
theorem dX4_claim_49 : decode cX4_claim 49 = .ok (.aload_n 0, 1) := by decide +kernel
theorem dX4_claim_50 : decode cX4_claim 50 = .ok (.getfield 227, 3) := by decide +kernel
theorem dX4_claim_53 : decode cX4_claim 53 = .ok (.aload_n 2, 1) := by decide +kernel
theorem dX4_claim_54 : decode cX4_claim 54 = .ok (.invokevirtual 230, 3) := by decide +kernel
theorem dX4_claim_57 : decode cX4_claim 57 = .ok (.iastore, 1) := by decide +kernel
theorem dX4_claim_58 : decode cX4_claim 58 = .ok (.aload_n 0, 1) := by decide +kernel
theorem dX4_claim_59 : decode cX4_claim 59 = .ok (.dup, 1) := by decide +kernel
theorem dX4_claim_60 : decode cX4_claim 60 = .ok (.getfield 227, 3) := by decide +kernel
theorem dX4_claim_63 : decode cX4_claim 63 = .ok (.iconst 1, 1) := by decide +kernel
theorem dX4_claim_64 : decode cX4_claim 64 = .ok (.iadd, 1) := by decide +kernel
theorem dX4_claim_65 : decode cX4_claim 65 = .ok (.putfield 227, 3) := by decide +kernel
theorem dX4_claim_68 : decode cX4_claim 68 = .ok (.aload_n 0, 1) := by decide +kernel
theorem dX4_claim_69 : decode cX4_claim 69 = .ok (.getfield 227, 3) := by decide +kernel
theorem dX4_claim_72 : decode cX4_claim 72 = .ok (.iconst 1, 1) := by decide +kernel
theorem dX4_claim_73 : decode cX4_claim 73 = .ok (.isub, 1) := by decide +kernel
theorem dX4_claim_74 : decode cX4_claim 74 = .ok (.ireturn, 1) := by decide +kernel
theorem dX4_claimed_0 : decode cX4_claimed 0 = .ok (.iload_n 1, 1) := by decide +kernel
theorem dX4_claimed_1 : decode cX4_claimed 1 = .ok (.ifCond .lt 17, 3) := by decide +kernel
theorem dX4_claimed_4 : decode cX4_claimed 4 = .ok (.iload_n 1, 1) := by decide +kernel
theorem dX4_claimed_5 : decode cX4_claimed 5 = .ok (.aload_n 0, 1) := by decide +kernel
theorem dX4_claimed_6 : decode cX4_claimed 6 = .ok (.getfield 227, 3) := by decide +kernel
theorem dX4_claimed_9 : decode cX4_claimed 9 = .ok (.if_icmp .ge 9, 3) := by decide +kernel
theorem dX4_claimed_12 : decode cX4_claimed 12 = .ok (.iload_n 1, 1) := by decide +kernel
theorem dX4_claimed_13 : decode cX4_claimed 13 = .ok (.bipush 20, 2) := by decide +kernel
theorem dX4_claimed_15 : decode cX4_claimed 15 = .ok (.if_icmp .lt 5, 3) := by decide +kernel
theorem dX4_claimed_18 : decode cX4_claimed 18 = .ok (.iconst (-1), 1) := by decide +kernel
theorem dX4_claimed_19 : decode cX4_claimed 19 = .ok (.ireturn, 1) := by decide +kernel
theorem dX4_claimed_20 : decode cX4_claimed 20 = .ok (.iload_n 2, 1) := by decide +kernel
theorem dX4_claimed_21 : decode cX4_claimed 21 = .ok (.tableswitch 59 0 2 #[27, 34, 41], 27) := by decide +kernel
theorem dX4_claimed_48 : decode cX4_claimed 48 = .ok (.aload_n 0, 1) := by decide +kernel
theorem dX4_claimed_49 : decode cX4_claimed 49 = .ok (.getfield 32, 3) := by decide +kernel
theorem dX4_claimed_52 : decode cX4_claimed 52 = .ok (.iload_n 1, 1) := by decide +kernel
theorem dX4_claimed_53 : decode cX4_claimed 53 = .ok (.iaload, 1) := by decide +kernel
theorem dX4_claimed_54 : decode cX4_claimed 54 = .ok (.ireturn, 1) := by decide +kernel
theorem dX4_claimed_55 : decode cX4_claimed 55 = .ok (.aload_n 0, 1) := by decide +kernel
theorem dX4_claimed_56 : decode cX4_claimed 56 = .ok (.getfield 35, 3) := by decide +kernel
theorem dX4_claimed_59 : decode cX4_claimed 59 = .ok (.iload_n 1, 1) := by decide +kernel
theorem dX4_claimed_60 : decode cX4_claimed 60 = .ok (.iaload, 1) := by decide +kernel
theorem dX4_claimed_61 : decode cX4_claimed 61 = .ok (.ireturn, 1) := by decide +kernel
theorem dX4_claimed_62 : decode cX4_claimed 62 = .ok (.aload_n 0, 1) := by decide +kernel
theorem dX4_claimed_63 : decode cX4_claimed 63 = .ok (.aload_n 0, 1) := by decide +kernel
theorem dX4_claimed_64 : decode cX4_claimed 64 = .ok (.aload_n 0, 1) := by decide +kernel
theorem dX4_claimed_65 : decode cX4_claimed 65 = .ok (.getfield 32, 3) := by decide +kernel
theorem dX4_claimed_68 : decode cX4_claimed 68 = .ok (.iload_n 1, 1) := by decide +kernel
theorem dX4_claimed_69 : decode cX4_claimed 69 = .ok (.iaload, 1) := by decide +kernel
theorem dX4_claimed_70 : decode cX4_claimed 70 = .ok (.invokevirtual 69, 3) := by decide +kernel
theorem dX4_claimed_73 : decode cX4_claimed 73 = .ok (.invokevirtual 138, 3) := by decide +kernel
theorem dX4_claimed_76 : decode cX4_claimed 76 = .ok (.invokestatic 119, 3) := by decide +kernel
theorem dX4_claimed_79 : decode cX4_claimed 79 = .ok (.ireturn, 1) := by decide +kernel
theorem dX4_claimed_80 : decode cX4_claimed 80 = .ok (.iconst (-1), 1) := by decide +kernel
theorem dX4_claimed_81 : decode cX4_claimed 81 = .ok (.ireturn, 1) := by decide +kernel
theorem dX4_codeAt_0 : decode cX4_codeAt 0 = .ok (.iload_n 1, 1) := by decide +kernel
theorem dX4_codeAt_1 : decode cX4_codeAt 1 = .ok (.ifCond .lt 21, 3) := by decide +kernel
theorem dX4_codeAt_4 : decode cX4_codeAt 4 = .ok (.iload_n 1, 1) := by decide +kernel
theorem dX4_codeAt_5 : decode cX4_codeAt 5 = .ok (.aload_n 0, 1) := by decide +kernel
theorem dX4_codeAt_6 : decode cX4_codeAt 6 = .ok (.getfield 11, 3) := by decide +kernel
theorem dX4_codeAt_9 : decode cX4_codeAt 9 = .ok (.arraylength, 1) := by decide +kernel
theorem dX4_codeAt_10 : decode cX4_codeAt 10 = .ok (.if_icmp .ge 12, 3) := by decide +kernel
theorem dX4_codeAt_13 : decode cX4_codeAt 13 = .ok (.aload_n 0, 1) := by decide +kernel
theorem dX4_codeAt_14 : decode cX4_codeAt 14 = .ok (.getfield 11, 3) := by decide +kernel
theorem dX4_codeAt_17 : decode cX4_codeAt 17 = .ok (.iload_n 1, 1) := by decide +kernel
theorem dX4_codeAt_18 : decode cX4_codeAt 18 = .ok (.aaload, 1) := by decide +kernel
theorem dX4_codeAt_19 : decode cX4_codeAt 19 = .ok (.goto 4, 3) := by decide +kernel
theorem dX4_codeAt_22 : decode cX4_codeAt 22 = .ok (.aconst_null, 1) := by decide +kernel
theorem dX4_codeAt_23 : decode cX4_codeAt 23 = .ok (.areturn, 1) := by decide +kernel
theorem dX4_runAt_0 : decode cX4_runAt 0 = .ok (.iload_n 1, 1) := by decide +kernel
theorem dX4_runAt_1 : decode cX4_runAt 1 = .ok (.ifCond .lt 29, 3) := by decide +kernel
theorem dX4_runAt_4 : decode cX4_runAt 4 = .ok (.iload_n 1, 1) := by decide +kernel
theorem dX4_runAt_5 : decode cX4_runAt 5 = .ok (.aload_n 0, 1) := by decide +kernel
theorem dX4_runAt_6 : decode cX4_runAt 6 = .ok (.getfield 144, 3) := by decide +kernel
theorem dX4_runAt_9 : decode cX4_runAt 9 = .ok (.if_icmp .ge 21, 3) := by decide +kernel
theorem dX4_runAt_12 : decode cX4_runAt 12 = .ok (.iload_n 1, 1) := by decide +kernel
theorem dX4_runAt_13 : decode cX4_runAt 13 = .ok (.aload_n 0, 1) := by decide +kernel
theorem dX4_runAt_14 : decode cX4_runAt 14 = .ok (.getfield 28, 3) := by decide +kernel
theorem dX4_runAt_17 : decode cX4_runAt 17 = .ok (.arraylength, 1) := by decide +kernel
theorem dX4_runAt_18 : decode cX4_runAt 18 = .ok (.if_icmp .ge 12, 3) := by decide +kernel
theorem dX4_runAt_21 : decode cX4_runAt 21 = .ok (.aload_n 0, 1) := by decide +kernel
theorem dX4_runAt_22 : decode cX4_runAt 22 = .ok (.getfield 28, 3) := by decide +kernel
theorem dX4_runAt_25 : decode cX4_runAt 25 = .ok (.iload_n 1, 1) := by decide +kernel
theorem dX4_runAt_26 : decode cX4_runAt 26 = .ok (.aaload, 1) := by decide +kernel
theorem dX4_runAt_27 : decode cX4_runAt 27 = .ok (.goto 4, 3) := by decide +kernel
theorem dX4_runAt_30 : decode cX4_runAt 30 = .ok (.aconst_null, 1) := by decide +kernel
theorem dX4_runAt_31 : decode cX4_runAt 31 = .ok (.areturn, 1) := by decide +kernel
theorem dX4_boundOf_0 : decode cX4_boundOf 0 = .ok (.iload_n 1, 1) := by decide +kernel
theorem dX4_boundOf_1 : decode cX4_boundOf 1 = .ok (.ifCond .lt 21, 3) := by decide +kernel
theorem dX4_boundOf_4 : decode cX4_boundOf 4 = .ok (.iload_n 1, 1) := by decide +kernel
theorem dX4_boundOf_5 : decode cX4_boundOf 5 = .ok (.aload_n 0, 1) := by decide +kernel
theorem dX4_boundOf_6 : decode cX4_boundOf 6 = .ok (.getfield 15, 3) := by decide +kernel
theorem dX4_boundOf_9 : decode cX4_boundOf 9 = .ok (.arraylength, 1) := by decide +kernel
theorem dX4_boundOf_10 : decode cX4_boundOf 10 = .ok (.if_icmp .ge 12, 3) := by decide +kernel
theorem dX4_boundOf_13 : decode cX4_boundOf 13 = .ok (.aload_n 0, 1) := by decide +kernel
theorem dX4_boundOf_14 : decode cX4_boundOf 14 = .ok (.getfield 15, 3) := by decide +kernel
theorem dX4_boundOf_17 : decode cX4_boundOf 17 = .ok (.iload_n 1, 1) := by decide +kernel
theorem dX4_boundOf_18 : decode cX4_boundOf 18 = .ok (.iaload, 1) := by decide +kernel
theorem dX4_boundOf_19 : decode cX4_boundOf 19 = .ok (.goto 4, 3) := by decide +kernel
theorem dX4_boundOf_22 : decode cX4_boundOf 22 = .ok (.iconst 1, 1) := by decide +kernel
theorem dX4_boundOf_23 : decode cX4_boundOf 23 = .ok (.ireturn, 1) := by decide +kernel
theorem dX4_enter_0 : decode cX4_enter 0 = .ok (.aload_n 0, 1) := by decide +kernel
theorem dX4_enter_1 : decode cX4_enter 1 = .ok (.getfield 144, 3) := by decide +kernel
theorem dX4_enter_4 : decode cX4_enter 4 = .ok (.ifCond .lt 15, 3) := by decide +kernel
theorem dX4_enter_7 : decode cX4_enter 7 = .ok (.aload_n 0, 1) := by decide +kernel
theorem dX4_enter_8 : decode cX4_enter 8 = .ok (.getfield 144, 3) := by decide +kernel
theorem dX4_enter_11 : decode cX4_enter 11 = .ok (.aload_n 0, 1) := by decide +kernel
theorem dX4_enter_12 : decode cX4_enter 12 = .ok (.getfield 28, 3) := by decide +kernel
theorem dX4_enter_15 : decode cX4_enter 15 = .ok (.arraylength, 1) := by decide +kernel
theorem dX4_enter_16 : decode cX4_enter 16 = .ok (.if_icmp .lt 5, 3) := by decide +kernel
theorem dX4_enter_19 : decode cX4_enter 19 = .ok (.iconst (-1), 1) := by decide +kernel
theorem dX4_enter_20 : decode cX4_enter 20 = .ok (.ireturn, 1) := by decide +kernel
theorem dX4_enter_21 : decode cX4_enter 21 = .ok (.aload_n 0, 1) := by decide +kernel
theorem dX4_enter_22 : decode cX4_enter 22 = .ok (.getfield 22, 3) := by decide +kernel
theorem dX4_enter_25 : decode cX4_enter 25 = .ok (.dup, 1) := by decide +kernel
theorem dX4_enter_26 : decode cX4_enter 26 = .ok (.getfield 142, 3) := by decide +kernel
theorem dX4_enter_29 : decode cX4_enter 29 = .ok (.iconst 1, 1) := by decide +kernel
theorem dX4_enter_30 : decode cX4_enter 30 = .ok (.iadd, 1) := by decide +kernel
theorem dX4_enter_31 : decode cX4_enter 31 = .ok (.putfield 142, 3) := by decide +kernel
theorem dX4_enter_34 : decode cX4_enter 34 = .ok (.aload_n 1, 1) := by decide +kernel
theorem dX4_enter_35 : decode cX4_enter 35 = .ok (.aload_n 0, 1) := by decide +kernel
theorem dX4_enter_36 : decode cX4_enter 36 = .ok (.getfield 22, 3) := by decide +kernel
theorem dX4_enter_39 : decode cX4_enter 39 = .ok (.invokevirtual 151, 3) := by decide +kernel
theorem dX4_enter_42 : decode cX4_enter 42 = .ok (.aload_n 1, 1) := by decide +kernel
theorem dX4_enter_43 : decode cX4_enter 43 = .ok (.aload_n 1, 1) := by decide +kernel
theorem dX4_enter_44 : decode cX4_enter 44 = .ok (.invokevirtual 234, 3) := by decide +kernel
theorem dX4_enter_47 : decode cX4_enter 47 = .ok (.ifCond .eq 15, 3) := by decide +kernel
theorem dX4_enter_50 : decode cX4_enter 50 = .ok (.aload_n 0, 1) := by decide +kernel
theorem dX4_enter_51 : decode cX4_enter 51 = .ok (.aload_n 1, 1) := by decide +kernel
theorem dX4_enter_52 : decode cX4_enter 52 = .ok (.invokevirtual 237, 3) := by decide +kernel
theorem dX4_enter_55 : decode cX4_enter 55 = .ok (.ifCond .ne 7, 3) := by decide +kernel
theorem dX4_enter_58 : decode cX4_enter 58 = .ok (.iconst 1, 1) := by decide +kernel
theorem dX4_enter_59 : decode cX4_enter 59 = .ok (.goto 4, 3) := by decide +kernel
theorem dX4_enter_62 : decode cX4_enter 62 = .ok (.iconst 0, 1) := by decide +kernel
theorem dX4_enter_63 : decode cX4_enter 63 = .ok (.putfield 240, 3) := by decide +kernel
theorem dX4_enter_66 : decode cX4_enter 66 = .ok (.aload_n 0, 1) := by decide +kernel
theorem dX4_enter_67 : decode cX4_enter 67 = .ok (.getfield 28, 3) := by decide +kernel
theorem dX4_enter_70 : decode cX4_enter 70 = .ok (.aload_n 0, 1) := by decide +kernel
theorem dX4_enter_71 : decode cX4_enter 71 = .ok (.getfield 144, 3) := by decide +kernel
theorem dX4_enter_74 : decode cX4_enter 74 = .ok (.aload_n 1, 1) := by decide +kernel
theorem dX4_enter_75 : decode cX4_enter 75 = .ok (.aastore, 1) := by decide +kernel
theorem dX4_enter_76 : decode cX4_enter 76 = .ok (.aload_n 0, 1) := by decide +kernel
theorem dX4_enter_77 : decode cX4_enter 77 = .ok (.dup, 1) := by decide +kernel
theorem dX4_enter_78 : decode cX4_enter 78 = .ok (.getfield 144, 3) := by decide +kernel
theorem dX4_enter_81 : decode cX4_enter 81 = .ok (.iconst 1, 1) := by decide +kernel
theorem dX4_enter_82 : decode cX4_enter 82 = .ok (.iadd, 1) := by decide +kernel
theorem dX4_enter_83 : decode cX4_enter 83 = .ok (.putfield 144, 3) := by decide +kernel
theorem dX4_enter_86 : decode cX4_enter 86 = .ok (.aload_n 0, 1) := by decide +kernel
theorem dX4_enter_87 : decode cX4_enter 87 = .ok (.getfield 144, 3) := by decide +kernel
theorem dX4_enter_90 : decode cX4_enter 90 = .ok (.iconst 1, 1) := by decide +kernel
theorem dX4_enter_91 : decode cX4_enter 91 = .ok (.isub, 1) := by decide +kernel
theorem dX4_enter_92 : decode cX4_enter 92 = .ok (.ireturn, 1) := by decide +kernel
theorem dX4_isCountedAlready_0 : decode cX4_isCountedAlready 0 = .ok (.iconst 0, 1) := by decide +kernel
theorem dX4_isCountedAlready_1 : decode cX4_isCountedAlready 1 = .ok (.istore_n 2, 1) := by decide +kernel
theorem dX4_isCountedAlready_2 : decode cX4_isCountedAlready 2 = .ok (.iload_n 2, 1) := by decide +kernel
theorem dX4_isCountedAlready_3 : decode cX4_isCountedAlready 3 = .ok (.aload_n 0, 1) := by decide +kernel
theorem dX4_isCountedAlready_4 : decode cX4_isCountedAlready 4 = .ok (.getfield 144, 3) := by decide +kernel
theorem dX4_isCountedAlready_7 : decode cX4_isCountedAlready 7 = .ok (.if_icmp .ge 36, 3) := by decide +kernel
theorem dX4_isCountedAlready_10 : decode cX4_isCountedAlready 10 = .ok (.aload_n 0, 1) := by decide +kernel
theorem dX4_isCountedAlready_11 : decode cX4_isCountedAlready 11 = .ok (.iload_n 2, 1) := by decide +kernel
theorem dX4_isCountedAlready_12 : decode cX4_isCountedAlready 12 = .ok (.invokevirtual 69, 3) := by decide +kernel
theorem dX4_isCountedAlready_15 : decode cX4_isCountedAlready 15 = .ok (.astore_n 3, 1) := by decide +kernel
theorem dX4_isCountedAlready_16 : decode cX4_isCountedAlready 16 = .ok (.aload_n 3, 1) := by decide +kernel
theorem dX4_isCountedAlready_17 : decode cX4_isCountedAlready 17 = .ok (.ifnull 20, 3) := by decide +kernel
theorem dX4_isCountedAlready_20 : decode cX4_isCountedAlready 20 = .ok (.aload_n 3, 1) := by decide +kernel
theorem dX4_isCountedAlready_21 : decode cX4_isCountedAlready 21 = .ok (.getfield 240, 3) := by decide +kernel
theorem dX4_isCountedAlready_24 : decode cX4_isCountedAlready 24 = .ok (.ifCond .eq 13, 3) := by decide +kernel
theorem dX4_isCountedAlready_27 : decode cX4_isCountedAlready 27 = .ok (.aload_n 3, 1) := by decide +kernel
theorem dX4_isCountedAlready_28 : decode cX4_isCountedAlready 28 = .ok (.aload_n 1, 1) := by decide +kernel
theorem dX4_isCountedAlready_29 : decode cX4_isCountedAlready 29 = .ok (.invokevirtual 243, 3) := by decide +kernel
theorem dX4_isCountedAlready_32 : decode cX4_isCountedAlready 32 = .ok (.ifCond .eq 5, 3) := by decide +kernel
theorem dX4_isCountedAlready_35 : decode cX4_isCountedAlready 35 = .ok (.iconst 1, 1) := by decide +kernel
theorem dX4_isCountedAlready_36 : decode cX4_isCountedAlready 36 = .ok (.ireturn, 1) := by decide +kernel
theorem dX4_isCountedAlready_37 : decode cX4_isCountedAlready 37 = .ok (.iinc 2 1, 3) := by decide +kernel
theorem dX4_isCountedAlready_40 : decode cX4_isCountedAlready 40 = .ok (.goto (-38), 3) := by decide +kernel
theorem dX4_isCountedAlready_43 : decode cX4_isCountedAlready 43 = .ok (.iconst 0, 1) := by decide +kernel
theorem dX4_isCountedAlready_44 : decode cX4_isCountedAlready 44 = .ok (.ireturn, 1) := by decide +kernel
theorem dX4_isStale_0 : decode cX4_isStale 0 = .ok (.aload_n 1, 1) := by decide +kernel
theorem dX4_isStale_1 : decode cX4_isStale 1 = .ok (.ifnonnull 5, 3) := by decide +kernel
theorem dX4_isStale_4 : decode cX4_isStale 4 = .ok (.iconst 0, 1) := by decide +kernel
theorem dX4_isStale_5 : decode cX4_isStale 5 = .ok (.ireturn, 1) := by decide +kernel
theorem dX4_isStale_6 : decode cX4_isStale 6 = .ok (.aload_n 1, 1) := by decide +kernel
theorem dX4_isStale_7 : decode cX4_isStale 7 = .ok (.getfield 84, 3) := by decide +kernel
theorem dX4_isStale_10 : decode cX4_isStale 10 = .ok (.aload_n 0, 1) := by decide +kernel
theorem dX4_isStale_11 : decode cX4_isStale 11 = .ok (.aload_n 1, 1) := by decide +kernel
theorem dX4_isStale_12 : decode cX4_isStale 12 = .ok (.getfield 81, 3) := by decide +kernel
theorem dX4_isStale_15 : decode cX4_isStale 15 = .ok (.invokevirtual 48, 3) := by decide +kernel
theorem dX4_isStale_18 : decode cX4_isStale 18 = .ok (.invokevirtual 246, 3) := by decide +kernel
theorem dX4_isStale_21 : decode cX4_isStale 21 = .ok (.ifCond .eq 17, 3) := by decide +kernel
theorem dX4_isStale_24 : decode cX4_isStale 24 = .ok (.aload_n 1, 1) := by decide +kernel
theorem dX4_isStale_25 : decode cX4_isStale 25 = .ok (.getfield 99, 3) := by decide +kernel
theorem dX4_isStale_28 : decode cX4_isStale 28 = .ok (.aload_n 0, 1) := by decide +kernel
theorem dX4_isStale_29 : decode cX4_isStale 29 = .ok (.getfield 22, 3) := by decide +kernel
theorem dX4_isStale_32 : decode cX4_isStale 32 = .ok (.invokevirtual 158, 3) := by decide +kernel
theorem dX4_isStale_35 : decode cX4_isStale 35 = .ok (.ifCond .eq 7, 3) := by decide +kernel
theorem dX4_isStale_38 : decode cX4_isStale 38 = .ok (.iconst 1, 1) := by decide +kernel
theorem dX4_isStale_39 : decode cX4_isStale 39 = .ok (.goto 4, 3) := by decide +kernel
theorem dX4_isStale_42 : decode cX4_isStale 42 = .ok (.iconst 0, 1) := by decide +kernel
theorem dX4_isStale_43 : decode cX4_isStale 43 = .ok (.ireturn, 1) := by decide +kernel
theorem dX4_canCompare_0 : decode cX4_canCompare 0 = .ok (.iload_n 0, 1) := by decide +kernel
theorem dX4_canCompare_1 : decode cX4_canCompare 1 = .ok (.invokestatic 195, 3) := by decide +kernel
theorem dX4_canCompare_4 : decode cX4_canCompare 4 = .ok (.ifCond .eq 33, 3) := by decide +kernel
theorem dX4_canCompare_7 : decode cX4_canCompare 7 = .ok (.iload_n 1, 1) := by decide +kernel
theorem dX4_canCompare_8 : decode cX4_canCompare 8 = .ok (.invokestatic 249, 3) := by decide +kernel
theorem dX4_canCompare_11 : decode cX4_canCompare 11 = .ok (.ifCond .eq 26, 3) := by decide +kernel
theorem dX4_canCompare_14 : decode cX4_canCompare 14 = .ok (.iload_n 2, 1) := by decide +kernel
theorem dX4_canCompare_15 : decode cX4_canCompare 15 = .ok (.invokestatic 249, 3) := by decide +kernel
theorem dX4_canCompare_18 : decode cX4_canCompare 18 = .ok (.ifCond .eq 19, 3) := by decide +kernel
theorem dX4_canCompare_21 : decode cX4_canCompare 21 = .ok (.iload_n 1, 1) := by decide +kernel
theorem dX4_canCompare_22 : decode cX4_canCompare 22 = .ok (.iload_n 2, 1) := by decide +kernel
theorem dX4_canCompare_23 : decode cX4_canCompare 23 = .ok (.if_icmp .eq 14, 3) := by decide +kernel
theorem dX4_canCompare_26 : decode cX4_canCompare 26 = .ok (.iload_n 3, 1) := by decide +kernel
theorem dX4_canCompare_27 : decode cX4_canCompare 27 = .ok (.invokestatic 59, 3) := by decide +kernel
theorem dX4_canCompare_30 : decode cX4_canCompare 30 = .ok (.ifCond .eq 7, 3) := by decide +kernel
theorem dX4_canCompare_33 : decode cX4_canCompare 33 = .ok (.iconst 1, 1) := by decide +kernel
theorem dX4_canCompare_34 : decode cX4_canCompare 34 = .ok (.goto 4, 3) := by decide +kernel
theorem dX4_canCompare_37 : decode cX4_canCompare 37 = .ok (.iconst 0, 1) := by decide +kernel
theorem dX4_canCompare_38 : decode cX4_canCompare 38 = .ok (.ireturn, 1) := by decide +kernel
theorem dX4_standsFor_0 : decode cX4_standsFor 0 = .ok (.aload_n 0, 1) := by decide +kernel
theorem dX4_standsFor_1 : decode cX4_standsFor 1 = .ok (.ifnull 34, 3) := by decide +kernel
theorem dX4_standsFor_4 : decode cX4_standsFor 4 = .ok (.aload_n 0, 1) := by decide +kernel
theorem dX4_standsFor_5 : decode cX4_standsFor 5 = .ok (.getfield 240, 3) := by decide +kernel
theorem dX4_standsFor_8 : decode cX4_standsFor 8 = .ok (.ifCond .eq 27, 3) := by decide +kernel
theorem dX4_standsFor_11 : decode cX4_standsFor 11 = .ok (.aload_n 0, 1) := by decide +kernel
theorem dX4_standsFor_12 : decode cX4_standsFor 12 = .ok (.getfield 88, 3) := by decide +kernel
theorem dX4_standsFor_15 : decode cX4_standsFor 15 = .ok (.iload_n 3, 1) := by decide +kernel
theorem dX4_standsFor_16 : decode cX4_standsFor 16 = .ok (.if_icmp .ne 19, 3) := by decide +kernel
theorem dX4_standsFor_19 : decode cX4_standsFor 19 = .ok (.aload_n 0, 1) := by decide +kernel
theorem dX4_standsFor_20 : decode cX4_standsFor 20 = .ok (.getfield 113, 3) := by decide +kernel
theorem dX4_standsFor_23 : decode cX4_standsFor 23 = .ok (.iload_n 1, 1) := by decide +kernel
theorem dX4_standsFor_24 : decode cX4_standsFor 24 = .ok (.invokestatic 252, 3) := by decide +kernel
theorem dX4_standsFor_27 : decode cX4_standsFor 27 = .ok (.iload_n 2, 1) := by decide +kernel
theorem dX4_standsFor_28 : decode cX4_standsFor 28 = .ok (.if_icmp .ne 7, 3) := by decide +kernel
theorem dX4_standsFor_31 : decode cX4_standsFor 31 = .ok (.iconst 1, 1) := by decide +kernel
theorem dX4_standsFor_32 : decode cX4_standsFor 32 = .ok (.goto 4, 3) := by decide +kernel
theorem dX4_standsFor_35 : decode cX4_standsFor 35 = .ok (.iconst 0, 1) := by decide +kernel
theorem dX4_standsFor_36 : decode cX4_standsFor 36 = .ok (.ireturn, 1) := by decide +kernel
theorem dX4_countPairs_0 : decode cX4_countPairs 0 = .ok (.iconst 0, 1) := by decide +kernel
theorem dX4_countPairs_1 : decode cX4_countPairs 1 = .ok (.istore 6, 2) := by decide +kernel
theorem dX4_countPairs_3 : decode cX4_countPairs 3 = .ok (.iconst 0, 1) := by decide +kernel
theorem dX4_countPairs_4 : decode cX4_countPairs 4 = .ok (.istore 7, 2) := by decide +kernel
theorem dX4_countPairs_6 : decode cX4_countPairs 6 = .ok (.iload 7, 2) := by decide +kernel
theorem dX4_countPairs_8 : decode cX4_countPairs 8 = .ok (.aload_n 0, 1) := by decide +kernel
theorem dX4_countPairs_9 : decode cX4_countPairs 9 = .ok (.getfield 144, 3) := by decide +kernel
theorem dX4_countPairs_12 : decode cX4_countPairs 12 = .ok (.if_icmp .ge 102, 3) := by decide +kernel
theorem dX4_countPairs_15 : decode cX4_countPairs 15 = .ok (.aload_n 0, 1) := by decide +kernel
theorem dX4_countPairs_16 : decode cX4_countPairs 16 = .ok (.iload 7, 2) := by decide +kernel
theorem dX4_countPairs_18 : decode cX4_countPairs 18 = .ok (.invokevirtual 69, 3) := by decide +kernel
theorem dX4_countPairs_21 : decode cX4_countPairs 21 = .ok (.astore 8, 2) := by decide +kernel
theorem dX4_countPairs_23 : decode cX4_countPairs 23 = .ok (.aload 8, 2) := by decide +kernel
theorem dX4_countPairs_25 : decode cX4_countPairs 25 = .ok (.iload_n 1, 1) := by decide +kernel
theorem dX4_countPairs_26 : decode cX4_countPairs 26 = .ok (.iload_n 2, 1) := by decide +kernel
theorem dX4_countPairs_27 : decode cX4_countPairs 27 = .ok (.iload 4, 2) := by decide +kernel
theorem dX4_countPairs_29 : decode cX4_countPairs 29 = .ok (.invokestatic 180, 3) := by decide +kernel
theorem dX4_countPairs_32 : decode cX4_countPairs 32 = .ok (.ifCond .ne 6, 3) := by decide +kernel
theorem dX4_countPairs_35 : decode cX4_countPairs 35 = .ok (.goto 73, 3) := by decide +kernel
theorem dX4_countPairs_38 : decode cX4_countPairs 38 = .ok (.iconst 0, 1) := by decide +kernel
theorem dX4_countPairs_39 : decode cX4_countPairs 39 = .ok (.istore 9, 2) := by decide +kernel
theorem dX4_countPairs_41 : decode cX4_countPairs 41 = .ok (.iload 9, 2) := by decide +kernel
theorem dX4_countPairs_43 : decode cX4_countPairs 43 = .ok (.aload_n 0, 1) := by decide +kernel
theorem dX4_countPairs_44 : decode cX4_countPairs 44 = .ok (.getfield 144, 3) := by decide +kernel
theorem dX4_countPairs_47 : decode cX4_countPairs 47 = .ok (.if_icmp .ge 61, 3) := by decide +kernel
theorem dX4_countPairs_50 : decode cX4_countPairs 50 = .ok (.aload_n 0, 1) := by decide +kernel
theorem dX4_countPairs_51 : decode cX4_countPairs 51 = .ok (.iload 9, 2) := by decide +kernel
theorem dX4_countPairs_53 : decode cX4_countPairs 53 = .ok (.invokevirtual 69, 3) := by decide +kernel
theorem dX4_countPairs_56 : decode cX4_countPairs 56 = .ok (.astore 10, 2) := by decide +kernel
theorem dX4_countPairs_58 : decode cX4_countPairs 58 = .ok (.aload 10, 2) := by decide +kernel
theorem dX4_countPairs_60 : decode cX4_countPairs 60 = .ok (.iload_n 1, 1) := by decide +kernel
theorem dX4_countPairs_61 : decode cX4_countPairs 61 = .ok (.iload_n 3, 1) := by decide +kernel
theorem dX4_countPairs_62 : decode cX4_countPairs 62 = .ok (.iload 4, 2) := by decide +kernel
theorem dX4_countPairs_64 : decode cX4_countPairs 64 = .ok (.invokestatic 180, 3) := by decide +kernel
theorem dX4_countPairs_67 : decode cX4_countPairs 67 = .ok (.ifCond .eq 35, 3) := by decide +kernel
theorem dX4_countPairs_70 : decode cX4_countPairs 70 = .ok (.aload 8, 2) := by decide +kernel
theorem dX4_countPairs_72 : decode cX4_countPairs 72 = .ok (.aload 10, 2) := by decide +kernel
theorem dX4_countPairs_74 : decode cX4_countPairs 74 = .ok (.iload_n 1, 1) := by decide +kernel
theorem dX4_countPairs_75 : decode cX4_countPairs 75 = .ok (.invokevirtual 184, 3) := by decide +kernel
theorem dX4_countPairs_78 : decode cX4_countPairs 78 = .ok (.ifCond .eq 24, 3) := by decide +kernel
theorem dX4_countPairs_81 : decode cX4_countPairs 81 = .ok (.aload 8, 2) := by decide +kernel
theorem dX4_countPairs_83 : decode cX4_countPairs 83 = .ok (.invokevirtual 230, 3) := by decide +kernel
theorem dX4_countPairs_86 : decode cX4_countPairs 86 = .ok (.aload 10, 2) := by decide +kernel
theorem dX4_countPairs_88 : decode cX4_countPairs 88 = .ok (.invokevirtual 230, 3) := by decide +kernel
theorem dX4_countPairs_91 : decode cX4_countPairs 91 = .ok (.iload 5, 2) := by decide +kernel
theorem dX4_countPairs_93 : decode cX4_countPairs 93 = .ok (.invokestatic 255, 3) := by decide +kernel
theorem dX4_countPairs_96 : decode cX4_countPairs 96 = .ok (.ifCond .eq 6, 3) := by decide +kernel
theorem dX4_countPairs_99 : decode cX4_countPairs 99 = .ok (.iinc 6 1, 3) := by decide +kernel
theorem dX4_countPairs_102 : decode cX4_countPairs 102 = .ok (.iinc 9 1, 3) := by decide +kernel
theorem dX4_countPairs_105 : decode cX4_countPairs 105 = .ok (.goto (-64), 3) := by decide +kernel
theorem dX4_countPairs_108 : decode cX4_countPairs 108 = .ok (.iinc 7 1, 3) := by decide +kernel
theorem dX4_countPairs_111 : decode cX4_countPairs 111 = .ok (.goto (-105), 3) := by decide +kernel
theorem dX4_countPairs_114 : decode cX4_countPairs 114 = .ok (.iload 6, 2) := by decide +kernel
theorem dX4_countPairs_116 : decode cX4_countPairs 116 = .ok (.ireturn, 1) := by decide +kernel
theorem dX4_endsAsAsked_0 : decode cX4_endsAsAsked 0 = .ok (.iload_n 2, 1) := by decide +kernel
theorem dX4_endsAsAsked_1 : decode cX4_endsAsAsked 1 = .ok (.iconst 1, 1) := by decide +kernel
theorem dX4_endsAsAsked_2 : decode cX4_endsAsAsked 2 = .ok (.if_icmp .ne 14, 3) := by decide +kernel
theorem dX4_endsAsAsked_5 : decode cX4_endsAsAsked 5 = .ok (.iload_n 1, 1) := by decide +kernel
theorem dX4_endsAsAsked_6 : decode cX4_endsAsAsked 6 = .ok (.iload_n 0, 1) := by decide +kernel
theorem dX4_endsAsAsked_7 : decode cX4_endsAsAsked 7 = .ok (.if_icmp .le 7, 3) := by decide +kernel
theorem dX4_endsAsAsked_10 : decode cX4_endsAsAsked 10 = .ok (.iconst 1, 1) := by decide +kernel
theorem dX4_endsAsAsked_11 : decode cX4_endsAsAsked 11 = .ok (.goto 4, 3) := by decide +kernel
theorem dX4_endsAsAsked_14 : decode cX4_endsAsAsked 14 = .ok (.iconst 0, 1) := by decide +kernel
theorem dX4_endsAsAsked_15 : decode cX4_endsAsAsked 15 = .ok (.ireturn, 1) := by decide +kernel
theorem dX4_endsAsAsked_16 : decode cX4_endsAsAsked 16 = .ok (.iload_n 2, 1) := by decide +kernel
theorem dX4_endsAsAsked_17 : decode cX4_endsAsAsked 17 = .ok (.iconst 2, 1) := by decide +kernel
theorem dX4_endsAsAsked_18 : decode cX4_endsAsAsked 18 = .ok (.if_icmp .ne 14, 3) := by decide +kernel
theorem dX4_endsAsAsked_21 : decode cX4_endsAsAsked 21 = .ok (.iload_n 1, 1) := by decide +kernel
theorem dX4_endsAsAsked_22 : decode cX4_endsAsAsked 22 = .ok (.iload_n 0, 1) := by decide +kernel
theorem dX4_endsAsAsked_23 : decode cX4_endsAsAsked 23 = .ok (.if_icmp .ge 7, 3) := by decide +kernel
theorem dX4_endsAsAsked_26 : decode cX4_endsAsAsked 26 = .ok (.iconst 1, 1) := by decide +kernel
theorem dX4_endsAsAsked_27 : decode cX4_endsAsAsked 27 = .ok (.goto 4, 3) := by decide +kernel
theorem dX4_endsAsAsked_30 : decode cX4_endsAsAsked 30 = .ok (.iconst 0, 1) := by decide +kernel
theorem dX4_endsAsAsked_31 : decode cX4_endsAsAsked 31 = .ok (.ireturn, 1) := by decide +kernel
theorem dX4_endsAsAsked_32 : decode cX4_endsAsAsked 32 = .ok (.iconst 1, 1) := by decide +kernel
theorem dX4_endsAsAsked_33 : decode cX4_endsAsAsked 33 = .ok (.ireturn, 1) := by decide +kernel
theorem dX4_judge_0 : decode cX4_judge 0 = .ok (.aload_n 0, 1) := by decide +kernel
theorem dX4_judge_1 : decode cX4_judge 1 = .ok (.iload_n 1, 1) := by decide +kernel
theorem dX4_judge_2 : decode cX4_judge 2 = .ok (.iload_n 2, 1) := by decide +kernel
theorem dX4_judge_3 : decode cX4_judge 3 = .ok (.iload_n 3, 1) := by decide +kernel
theorem dX4_judge_4 : decode cX4_judge 4 = .ok (.iload 4, 2) := by decide +kernel
theorem dX4_judge_6 : decode cX4_judge 6 = .ok (.iconst 1, 1) := by decide +kernel
theorem dX4_judge_7 : decode cX4_judge 7 = .ok (.invokevirtual 176, 3) := by decide +kernel
theorem dX4_judge_10 : decode cX4_judge 10 = .ok (.istore 7, 2) := by decide +kernel
theorem dX4_judge_12 : decode cX4_judge 12 = .ok (.iload 7, 2) := by decide +kernel
theorem dX4_judge_14 : decode cX4_judge 14 = .ok (.aload_n 0, 1) := by decide +kernel
theorem dX4_judge_15 : decode cX4_judge 15 = .ok (.iload_n 1, 1) := by decide +kernel
theorem dX4_judge_16 : decode cX4_judge 16 = .ok (.iload_n 2, 1) := by decide +kernel
theorem dX4_judge_17 : decode cX4_judge 17 = .ok (.iload_n 3, 1) := by decide +kernel
theorem dX4_judge_18 : decode cX4_judge 18 = .ok (.iload 4, 2) := by decide +kernel
theorem dX4_judge_20 : decode cX4_judge 20 = .ok (.iconst 2, 1) := by decide +kernel
theorem dX4_judge_21 : decode cX4_judge 21 = .ok (.invokevirtual 176, 3) := by decide +kernel
theorem dX4_judge_24 : decode cX4_judge 24 = .ok (.iadd, 1) := by decide +kernel
theorem dX4_judge_25 : decode cX4_judge 25 = .ok (.istore 8, 2) := by decide +kernel
theorem dX4_judge_27 : decode cX4_judge 27 = .ok (.iload 8, 2) := by decide +kernel
theorem dX4_judge_29 : decode cX4_judge 29 = .ok (.bipush 30, 2) := by decide +kernel
theorem dX4_judge_31 : decode cX4_judge 31 = .ok (.if_icmp .le 5, 3) := by decide +kernel
theorem dX4_judge_34 : decode cX4_judge 34 = .ok (.iconst (-1), 1) := by decide +kernel
theorem dX4_judge_35 : decode cX4_judge 35 = .ok (.ireturn, 1) := by decide +kernel
theorem dX4_judge_36 : decode cX4_judge 36 = .ok (.lload 5, 2) := by decide +kernel
theorem dX4_judge_38 : decode cX4_judge 38 = .ok (.iload 8, 2) := by decide +kernel
theorem dX4_judge_40 : decode cX4_judge 40 = .ok (.iload 7, 2) := by decide +kernel
theorem dX4_judge_42 : decode cX4_judge 42 = .ok (.invokestatic 259, 3) := by decide +kernel
theorem dX4_judge_45 : decode cX4_judge 45 = .ok (.lmul, 1) := by decide +kernel
theorem dX4_judge_46 : decode cX4_judge 46 = .ok (.lconst 1, 1) := by decide +kernel
theorem dX4_judge_47 : decode cX4_judge 47 = .ok (.iload 8, 2) := by decide +kernel
theorem dX4_judge_49 : decode cX4_judge 49 = .ok (.lshl, 1) := by decide +kernel
theorem dX4_judge_50 : decode cX4_judge 50 = .ok (.lcmp, 1) := by decide +kernel
theorem dX4_judge_51 : decode cX4_judge 51 = .ok (.ifCond .gt 7, 3) := by decide +kernel
theorem dX4_judge_54 : decode cX4_judge 54 = .ok (.iconst 1, 1) := by decide +kernel
theorem dX4_judge_55 : decode cX4_judge 55 = .ok (.goto 4, 3) := by decide +kernel
theorem dX4_judge_58 : decode cX4_judge 58 = .ok (.iconst 0, 1) := by decide +kernel
theorem dX4_judge_59 : decode cX4_judge 59 = .ok (.invokestatic 119, 3) := by decide +kernel
theorem dX4_judge_62 : decode cX4_judge 62 = .ok (.ireturn, 1) := by decide +kernel
theorem dX4_waysToWin_0 : decode cX4_waysToWin 0 = .ok (.lconst 0, 1) := by decide +kernel
theorem dX4_waysToWin_1 : decode cX4_waysToWin 1 = .ok (.lstore_n 2, 1) := by decide +kernel
theorem dX4_waysToWin_2 : decode cX4_waysToWin 2 = .ok (.lconst 1, 1) := by decide +kernel
theorem dX4_waysToWin_3 : decode cX4_waysToWin 3 = .ok (.lstore 4, 2) := by decide +kernel
theorem dX4_waysToWin_5 : decode cX4_waysToWin 5 = .ok (.iconst 0, 1) := by decide +kernel
theorem dX4_waysToWin_6 : decode cX4_waysToWin 6 = .ok (.istore 6, 2) := by decide +kernel
theorem dX4_waysToWin_8 : decode cX4_waysToWin 8 = .ok (.iload 6, 2) := by decide +kernel
theorem dX4_waysToWin_10 : decode cX4_waysToWin 10 = .ok (.iload_n 0, 1) := by decide +kernel
theorem dX4_waysToWin_11 : decode cX4_waysToWin 11 = .ok (.iload_n 1, 1) := by decide +kernel
theorem dX4_waysToWin_12 : decode cX4_waysToWin 12 = .ok (.isub, 1) := by decide +kernel
theorem dX4_waysToWin_13 : decode cX4_waysToWin 13 = .ok (.if_icmp .gt 30, 3) := by decide +kernel
theorem dX4_waysToWin_16 : decode cX4_waysToWin 16 = .ok (.lload_n 2, 1) := by decide +kernel
theorem dX4_waysToWin_17 : decode cX4_waysToWin 17 = .ok (.lload 4, 2) := by decide +kernel
theorem dX4_waysToWin_19 : decode cX4_waysToWin 19 = .ok (.ladd, 1) := by decide +kernel
theorem dX4_waysToWin_20 : decode cX4_waysToWin 20 = .ok (.lstore_n 2, 1) := by decide +kernel
theorem dX4_waysToWin_21 : decode cX4_waysToWin 21 = .ok (.lload 4, 2) := by decide +kernel
theorem dX4_waysToWin_23 : decode cX4_waysToWin 23 = .ok (.iload_n 0, 1) := by decide +kernel
theorem dX4_waysToWin_24 : decode cX4_waysToWin 24 = .ok (.iload 6, 2) := by decide +kernel
theorem dX4_waysToWin_26 : decode cX4_waysToWin 26 = .ok (.isub, 1) := by decide +kernel
theorem dX4_waysToWin_27 : decode cX4_waysToWin 27 = .ok (.i2l, 1) := by decide +kernel
theorem dX4_waysToWin_28 : decode cX4_waysToWin 28 = .ok (.lmul, 1) := by decide +kernel
theorem dX4_waysToWin_29 : decode cX4_waysToWin 29 = .ok (.iload 6, 2) := by decide +kernel
theorem dX4_waysToWin_31 : decode cX4_waysToWin 31 = .ok (.iconst 1, 1) := by decide +kernel
theorem dX4_waysToWin_32 : decode cX4_waysToWin 32 = .ok (.iadd, 1) := by decide +kernel
theorem dX4_waysToWin_33 : decode cX4_waysToWin 33 = .ok (.i2l, 1) := by decide +kernel
theorem dX4_waysToWin_34 : decode cX4_waysToWin 34 = .ok (.ldiv, 1) := by decide +kernel
theorem dX4_waysToWin_35 : decode cX4_waysToWin 35 = .ok (.lstore 4, 2) := by decide +kernel
theorem dX4_waysToWin_37 : decode cX4_waysToWin 37 = .ok (.iinc 6 1, 3) := by decide +kernel
theorem dX4_waysToWin_40 : decode cX4_waysToWin 40 = .ok (.goto (-32), 3) := by decide +kernel
theorem dX4_waysToWin_43 : decode cX4_waysToWin 43 = .ok (.lload_n 2, 1) := by decide +kernel
theorem dX4_waysToWin_44 : decode cX4_waysToWin 44 = .ok (.lreturn, 1) := by decide +kernel
theorem dX4_beatsOthers_0 : decode cX4_beatsOthers 0 = .ok (.aload_n 0, 1) := by decide +kernel
theorem dX4_beatsOthers_1 : decode cX4_beatsOthers 1 = .ok (.iload_n 1, 1) := by decide +kernel
theorem dX4_beatsOthers_2 : decode cX4_beatsOthers 2 = .ok (.invokevirtual 198, 3) := by decide +kernel
theorem dX4_beatsOthers_5 : decode cX4_beatsOthers 5 = .ok (.istore 6, 2) := by decide +kernel
theorem dX4_beatsOthers_7 : decode cX4_beatsOthers 7 = .ok (.iconst 0, 1) := by decide +kernel
theorem dX4_beatsOthers_8 : decode cX4_beatsOthers 8 = .ok (.istore 7, 2) := by decide +kernel
theorem dX4_beatsOthers_10 : decode cX4_beatsOthers 10 = .ok (.iload 7, 2) := by decide +kernel
theorem dX4_beatsOthers_12 : decode cX4_beatsOthers 12 = .ok (.iload 6, 2) := by decide +kernel
theorem dX4_beatsOthers_14 : decode cX4_beatsOthers 14 = .ok (.if_icmp .ge 32, 3) := by decide +kernel
theorem dX4_beatsOthers_17 : decode cX4_beatsOthers 17 = .ok (.iload 7, 2) := by decide +kernel
theorem dX4_beatsOthers_19 : decode cX4_beatsOthers 19 = .ok (.iload_n 2, 1) := by decide +kernel
theorem dX4_beatsOthers_20 : decode cX4_beatsOthers 20 = .ok (.if_icmp .eq 20, 3) := by decide +kernel
theorem dX4_beatsOthers_23 : decode cX4_beatsOthers 23 = .ok (.aload_n 0, 1) := by decide +kernel
theorem dX4_beatsOthers_24 : decode cX4_beatsOthers 24 = .ok (.iload_n 1, 1) := by decide +kernel
theorem dX4_beatsOthers_25 : decode cX4_beatsOthers 25 = .ok (.iload 7, 2) := by decide +kernel
theorem dX4_beatsOthers_27 : decode cX4_beatsOthers 27 = .ok (.iload_n 2, 1) := by decide +kernel
theorem dX4_beatsOthers_28 : decode cX4_beatsOthers 28 = .ok (.iload_n 3, 1) := by decide +kernel
theorem dX4_beatsOthers_29 : decode cX4_beatsOthers 29 = .ok (.lload 4, 2) := by decide +kernel
theorem dX4_beatsOthers_31 : decode cX4_beatsOthers 31 = .ok (.invokevirtual 191, 3) := by decide +kernel
theorem dX4_beatsOthers_34 : decode cX4_beatsOthers 34 = .ok (.iconst 1, 1) := by decide +kernel
theorem dX4_beatsOthers_35 : decode cX4_beatsOthers 35 = .ok (.if_icmp .eq 5, 3) := by decide +kernel
theorem dX4_beatsOthers_38 : decode cX4_beatsOthers 38 = .ok (.iconst 0, 1) := by decide +kernel
theorem dX4_beatsOthers_39 : decode cX4_beatsOthers 39 = .ok (.ireturn, 1) := by decide +kernel
theorem dX4_beatsOthers_40 : decode cX4_beatsOthers 40 = .ok (.iinc 7 1, 3) := by decide +kernel
theorem dX4_beatsOthers_43 : decode cX4_beatsOthers 43 = .ok (.goto (-33), 3) := by decide +kernel
theorem dX4_beatsOthers_46 : decode cX4_beatsOthers 46 = .ok (.iconst 1, 1) := by decide +kernel
theorem dX4_beatsOthers_47 : decode cX4_beatsOthers 47 = .ok (.ireturn, 1) := by decide +kernel
theorem dX4_gatherFillers_0 : decode cX4_gatherFillers 0 = .ok (.aload_n 0, 1) := by decide +kernel
theorem dX4_gatherFillers_1 : decode cX4_gatherFillers 1 = .ok (.iconst 0, 1) := by decide +kernel
theorem dX4_gatherFillers_2 : decode cX4_gatherFillers 2 = .ok (.putfield 263, 3) := by decide +kernel
theorem dX4_gatherFillers_5 : decode cX4_gatherFillers 5 = .ok (.iconst 0, 1) := by decide +kernel
theorem dX4_gatherFillers_6 : decode cX4_gatherFillers 6 = .ok (.istore_n 3, 1) := by decide +kernel
theorem dX4_gatherFillers_7 : decode cX4_gatherFillers 7 = .ok (.iload_n 3, 1) := by decide +kernel
theorem dX4_gatherFillers_8 : decode cX4_gatherFillers 8 = .ok (.aload_n 0, 1) := by decide +kernel
theorem dX4_gatherFillers_9 : decode cX4_gatherFillers 9 = .ok (.getfield 144, 3) := by decide +kernel
theorem dX4_gatherFillers_12 : decode cX4_gatherFillers 12 = .ok (.if_icmp .ge 68, 3) := by decide +kernel
theorem dX4_gatherFillers_15 : decode cX4_gatherFillers 15 = .ok (.aload_n 0, 1) := by decide +kernel
theorem dX4_gatherFillers_16 : decode cX4_gatherFillers 16 = .ok (.iload_n 3, 1) := by decide +kernel
theorem dX4_gatherFillers_17 : decode cX4_gatherFillers 17 = .ok (.invokevirtual 69, 3) := by decide +kernel
theorem dX4_gatherFillers_20 : decode cX4_gatherFillers 20 = .ok (.astore 4, 2) := by decide +kernel
theorem dX4_gatherFillers_22 : decode cX4_gatherFillers 22 = .ok (.aload 4, 2) := by decide +kernel
theorem dX4_gatherFillers_24 : decode cX4_gatherFillers 24 = .ok (.ifnull 50, 3) := by decide +kernel
theorem dX4_gatherFillers_27 : decode cX4_gatherFillers 27 = .ok (.aload 4, 2) := by decide +kernel
theorem dX4_gatherFillers_29 : decode cX4_gatherFillers 29 = .ok (.aload_n 1, 1) := by decide +kernel
theorem dX4_gatherFillers_30 : decode cX4_gatherFillers 30 = .ok (.iload_n 2, 1) := by decide +kernel
theorem dX4_gatherFillers_31 : decode cX4_gatherFillers 31 = .ok (.aload_n 0, 1) := by decide +kernel
theorem dX4_gatherFillers_32 : decode cX4_gatherFillers 32 = .ok (.getfield 22, 3) := by decide +kernel
theorem dX4_gatherFillers_35 : decode cX4_gatherFillers 35 = .ok (.invokevirtual 168, 3) := by decide +kernel
theorem dX4_gatherFillers_38 : decode cX4_gatherFillers 38 = .ok (.ifCond .eq 36, 3) := by decide +kernel
theorem dX4_gatherFillers_41 : decode cX4_gatherFillers 41 = .ok (.aload_n 0, 1) := by decide +kernel
theorem dX4_gatherFillers_42 : decode cX4_gatherFillers 42 = .ok (.getfield 263, 3) := by decide +kernel
theorem dX4_gatherFillers_45 : decode cX4_gatherFillers 45 = .ok (.aload_n 0, 1) := by decide +kernel
theorem dX4_gatherFillers_46 : decode cX4_gatherFillers 46 = .ok (.getfield 38, 3) := by decide +kernel
theorem dX4_gatherFillers_49 : decode cX4_gatherFillers 49 = .ok (.arraylength, 1) := by decide +kernel
theorem dX4_gatherFillers_50 : decode cX4_gatherFillers 50 = .ok (.if_icmp .ge 24, 3) := by decide +kernel
theorem dX4_gatherFillers_53 : decode cX4_gatherFillers 53 = .ok (.aload_n 0, 1) := by decide +kernel
theorem dX4_gatherFillers_54 : decode cX4_gatherFillers 54 = .ok (.getfield 38, 3) := by decide +kernel
theorem dX4_gatherFillers_57 : decode cX4_gatherFillers 57 = .ok (.aload_n 0, 1) := by decide +kernel
theorem dX4_gatherFillers_58 : decode cX4_gatherFillers 58 = .ok (.getfield 263, 3) := by decide +kernel
theorem dX4_gatherFillers_61 : decode cX4_gatherFillers 61 = .ok (.aload 4, 2) := by decide +kernel
theorem dX4_gatherFillers_63 : decode cX4_gatherFillers 63 = .ok (.aastore, 1) := by decide +kernel
theorem dX4_gatherFillers_64 : decode cX4_gatherFillers 64 = .ok (.aload_n 0, 1) := by decide +kernel
theorem dX4_gatherFillers_65 : decode cX4_gatherFillers 65 = .ok (.dup, 1) := by decide +kernel
theorem dX4_gatherFillers_66 : decode cX4_gatherFillers 66 = .ok (.getfield 263, 3) := by decide +kernel
theorem dX4_gatherFillers_69 : decode cX4_gatherFillers 69 = .ok (.iconst 1, 1) := by decide +kernel
theorem dX4_gatherFillers_70 : decode cX4_gatherFillers 70 = .ok (.iadd, 1) := by decide +kernel
theorem dX4_gatherFillers_71 : decode cX4_gatherFillers 71 = .ok (.putfield 263, 3) := by decide +kernel
theorem dX4_gatherFillers_74 : decode cX4_gatherFillers 74 = .ok (.iinc 3 1, 3) := by decide +kernel
theorem dX4_gatherFillers_77 : decode cX4_gatherFillers 77 = .ok (.goto (-70), 3) := by decide +kernel
theorem dX4_gatherFillers_80 : decode cX4_gatherFillers 80 = .ok (.return_, 1) := by decide +kernel
theorem dX4_openSeeds_0 : decode cX4_openSeeds 0 = .ok (.iconst 0, 1) := by decide +kernel
theorem dX4_openSeeds_1 : decode cX4_openSeeds 1 = .ok (.istore_n 3, 1) := by decide +kernel
theorem dX4_openSeeds_2 : decode cX4_openSeeds 2 = .ok (.iconst 0, 1) := by decide +kernel
theorem dX4_openSeeds_3 : decode cX4_openSeeds 3 = .ok (.istore 4, 2) := by decide +kernel
theorem dX4_openSeeds_5 : decode cX4_openSeeds 5 = .ok (.iload 4, 2) := by decide +kernel
theorem dX4_openSeeds_7 : decode cX4_openSeeds 7 = .ok (.aload_n 0, 1) := by decide +kernel
theorem dX4_openSeeds_8 : decode cX4_openSeeds 8 = .ok (.getfield 263, 3) := by decide +kernel
theorem dX4_openSeeds_11 : decode cX4_openSeeds 11 = .ok (.if_icmp .ge 50, 3) := by decide +kernel
theorem dX4_openSeeds_14 : decode cX4_openSeeds 14 = .ok (.iload 4, 2) := by decide +kernel
theorem dX4_openSeeds_16 : decode cX4_openSeeds 16 = .ok (.aload_n 0, 1) := by decide +kernel
theorem dX4_openSeeds_17 : decode cX4_openSeeds 17 = .ok (.getfield 38, 3) := by decide +kernel
theorem dX4_openSeeds_20 : decode cX4_openSeeds 20 = .ok (.arraylength, 1) := by decide +kernel
theorem dX4_openSeeds_21 : decode cX4_openSeeds 21 = .ok (.if_icmp .ge 40, 3) := by decide +kernel
theorem dX4_openSeeds_24 : decode cX4_openSeeds 24 = .ok (.aload_n 0, 1) := by decide +kernel
theorem dX4_openSeeds_25 : decode cX4_openSeeds 25 = .ok (.getfield 38, 3) := by decide +kernel
theorem dX4_openSeeds_28 : decode cX4_openSeeds 28 = .ok (.iload 4, 2) := by decide +kernel
theorem dX4_openSeeds_30 : decode cX4_openSeeds 30 = .ok (.aaload, 1) := by decide +kernel
theorem dX4_openSeeds_31 : decode cX4_openSeeds 31 = .ok (.astore 5, 2) := by decide +kernel
theorem dX4_openSeeds_33 : decode cX4_openSeeds 33 = .ok (.aload 5, 2) := by decide +kernel
theorem dX4_openSeeds_35 : decode cX4_openSeeds 35 = .ok (.ifnull 20, 3) := by decide +kernel
theorem dX4_openSeeds_38 : decode cX4_openSeeds 38 = .ok (.aload 5, 2) := by decide +kernel
theorem dX4_openSeeds_40 : decode cX4_openSeeds 40 = .ok (.iload_n 1, 1) := by decide +kernel
theorem dX4_openSeeds_41 : decode cX4_openSeeds 41 = .ok (.invokevirtual 162, 3) := by decide +kernel
theorem dX4_openSeeds_44 : decode cX4_openSeeds 44 = .ok (.ifCond .eq 11, 3) := by decide +kernel
theorem dX4_openSeeds_47 : decode cX4_openSeeds 47 = .ok (.iload_n 3, 1) := by decide +kernel
theorem dX4_openSeeds_48 : decode cX4_openSeeds 48 = .ok (.aload 5, 2) := by decide +kernel
theorem dX4_openSeeds_50 : decode cX4_openSeeds 50 = .ok (.invokevirtual 266, 3) := by decide +kernel
theorem dX4_openSeeds_53 : decode cX4_openSeeds 53 = .ok (.ior, 1) := by decide +kernel
theorem dX4_openSeeds_54 : decode cX4_openSeeds 54 = .ok (.istore_n 3, 1) := by decide +kernel
theorem dX4_openSeeds_55 : decode cX4_openSeeds 55 = .ok (.iinc 4 1, 3) := by decide +kernel
theorem dX4_openSeeds_58 : decode cX4_openSeeds 58 = .ok (.goto (-53), 3) := by decide +kernel
theorem dX4_openSeeds_61 : decode cX4_openSeeds 61 = .ok (.iload_n 3, 1) := by decide +kernel
theorem dX4_openSeeds_62 : decode cX4_openSeeds 62 = .ok (.iconst (-1), 1) := by decide +kernel
theorem dX4_openSeeds_63 : decode cX4_openSeeds 63 = .ok (.ixor, 1) := by decide +kernel
theorem dX4_openSeeds_64 : decode cX4_openSeeds 64 = .ok (.iconst 1, 1) := by decide +kernel
theorem dX4_openSeeds_65 : decode cX4_openSeeds 65 = .ok (.iload_n 2, 1) := by decide +kernel
theorem dX4_openSeeds_66 : decode cX4_openSeeds 66 = .ok (.ishl, 1) := by decide +kernel
theorem dX4_openSeeds_67 : decode cX4_openSeeds 67 = .ok (.iconst 1, 1) := by decide +kernel
theorem dX4_openSeeds_68 : decode cX4_openSeeds 68 = .ok (.isub, 1) := by decide +kernel
theorem dX4_openSeeds_69 : decode cX4_openSeeds 69 = .ok (.iand, 1) := by decide +kernel
theorem dX4_openSeeds_70 : decode cX4_openSeeds 70 = .ok (.ireturn, 1) := by decide +kernel
theorem dX4_nextSettings_0 : decode cX4_nextSettings 0 = .ok (.iload_n 1, 1) := by decide +kernel
theorem dX4_nextSettings_1 : decode cX4_nextSettings 1 = .ok (.istore_n 2, 1) := by decide +kernel
theorem dX4_nextSettings_2 : decode cX4_nextSettings 2 = .ok (.iconst 3, 1) := by decide +kernel
theorem dX4_nextSettings_3 : decode cX4_nextSettings 3 = .ok (.istore_n 3, 1) := by decide +kernel
theorem dX4_nextSettings_4 : decode cX4_nextSettings 4 = .ok (.iload_n 3, 1) := by decide +kernel
theorem dX4_nextSettings_5 : decode cX4_nextSettings 5 = .ok (.ifCond .lt 45, 3) := by decide +kernel
theorem dX4_nextSettings_8 : decode cX4_nextSettings 8 = .ok (.iload_n 2, 1) := by decide +kernel
theorem dX4_nextSettings_9 : decode cX4_nextSettings 9 = .ok (.iload_n 3, 1) := by decide +kernel
theorem dX4_nextSettings_10 : decode cX4_nextSettings 10 = .ok (.invokestatic 252, 3) := by decide +kernel
theorem dX4_nextSettings_13 : decode cX4_nextSettings 13 = .ok (.istore 4, 2) := by decide +kernel
theorem dX4_nextSettings_15 : decode cX4_nextSettings 15 = .ok (.iload 4, 2) := by decide +kernel
theorem dX4_nextSettings_17 : decode cX4_nextSettings 17 = .ok (.iconst 1, 1) := by decide +kernel
theorem dX4_nextSettings_18 : decode cX4_nextSettings 18 = .ok (.iadd, 1) := by decide +kernel
theorem dX4_nextSettings_19 : decode cX4_nextSettings 19 = .ok (.aload_n 0, 1) := by decide +kernel
theorem dX4_nextSettings_20 : decode cX4_nextSettings 20 = .ok (.iload_n 3, 1) := by decide +kernel
theorem dX4_nextSettings_21 : decode cX4_nextSettings 21 = .ok (.invokevirtual 198, 3) := by decide +kernel
theorem dX4_nextSettings_24 : decode cX4_nextSettings 24 = .ok (.if_icmp .ge 11, 3) := by decide +kernel
theorem dX4_nextSettings_27 : decode cX4_nextSettings 27 = .ok (.iload_n 2, 1) := by decide +kernel
theorem dX4_nextSettings_28 : decode cX4_nextSettings 28 = .ok (.iconst 1, 1) := by decide +kernel
theorem dX4_nextSettings_29 : decode cX4_nextSettings 29 = .ok (.iconst 4, 1) := by decide +kernel
theorem dX4_nextSettings_30 : decode cX4_nextSettings 30 = .ok (.iload_n 3, 1) := by decide +kernel
theorem dX4_nextSettings_31 : decode cX4_nextSettings 31 = .ok (.imul, 1) := by decide +kernel
theorem dX4_nextSettings_32 : decode cX4_nextSettings 32 = .ok (.ishl, 1) := by decide +kernel
theorem dX4_nextSettings_33 : decode cX4_nextSettings 33 = .ok (.iadd, 1) := by decide +kernel
theorem dX4_nextSettings_34 : decode cX4_nextSettings 34 = .ok (.ireturn, 1) := by decide +kernel
theorem dX4_nextSettings_35 : decode cX4_nextSettings 35 = .ok (.iload_n 2, 1) := by decide +kernel
theorem dX4_nextSettings_36 : decode cX4_nextSettings 36 = .ok (.iload 4, 2) := by decide +kernel
theorem dX4_nextSettings_38 : decode cX4_nextSettings 38 = .ok (.iconst 4, 1) := by decide +kernel
theorem dX4_nextSettings_39 : decode cX4_nextSettings 39 = .ok (.iload_n 3, 1) := by decide +kernel
theorem dX4_nextSettings_40 : decode cX4_nextSettings 40 = .ok (.imul, 1) := by decide +kernel
theorem dX4_nextSettings_41 : decode cX4_nextSettings 41 = .ok (.ishl, 1) := by decide +kernel
theorem dX4_nextSettings_42 : decode cX4_nextSettings 42 = .ok (.isub, 1) := by decide +kernel
theorem dX4_nextSettings_43 : decode cX4_nextSettings 43 = .ok (.istore_n 2, 1) := by decide +kernel
theorem dX4_nextSettings_44 : decode cX4_nextSettings 44 = .ok (.iinc 3 (-1), 3) := by decide +kernel
theorem dX4_nextSettings_47 : decode cX4_nextSettings 47 = .ok (.goto (-43), 3) := by decide +kernel
theorem dX4_nextSettings_50 : decode cX4_nextSettings 50 = .ok (.iconst (-1), 1) := by decide +kernel
theorem dX4_nextSettings_51 : decode cX4_nextSettings 51 = .ok (.ireturn, 1) := by decide +kernel
theorem dX4_memberAt_0 : decode cX4_memberAt 0 = .ok (.iload_n 1, 1) := by decide +kernel
theorem dX4_memberAt_1 : decode cX4_memberAt 1 = .ok (.istore_n 2, 1) := by decide +kernel
theorem dX4_memberAt_2 : decode cX4_memberAt 2 = .ok (.iconst 0, 1) := by decide +kernel
theorem dX4_memberAt_3 : decode cX4_memberAt 3 = .ok (.istore_n 3, 1) := by decide +kernel
theorem dX4_memberAt_4 : decode cX4_memberAt 4 = .ok (.iload_n 3, 1) := by decide +kernel
theorem dX4_memberAt_5 : decode cX4_memberAt 5 = .ok (.bipush 8, 2) := by decide +kernel
theorem dX4_memberAt_7 : decode cX4_memberAt 7 = .ok (.if_icmp .ge 29, 3) := by decide +kernel
theorem dX4_memberAt_10 : decode cX4_memberAt 10 = .ok (.iload_n 3, 1) := by decide +kernel
theorem dX4_memberAt_11 : decode cX4_memberAt 11 = .ok (.iload_n 0, 1) := by decide +kernel
theorem dX4_memberAt_12 : decode cX4_memberAt 12 = .ok (.invokestatic 269, 3) := by decide +kernel
theorem dX4_memberAt_15 : decode cX4_memberAt 15 = .ok (.ifCond .ne 6, 3) := by decide +kernel
theorem dX4_memberAt_18 : decode cX4_memberAt 18 = .ok (.goto 12, 3) := by decide +kernel
theorem dX4_memberAt_21 : decode cX4_memberAt 21 = .ok (.iload_n 2, 1) := by decide +kernel
theorem dX4_memberAt_22 : decode cX4_memberAt 22 = .ok (.ifCond .ne 5, 3) := by decide +kernel
theorem dX4_memberAt_25 : decode cX4_memberAt 25 = .ok (.iload_n 3, 1) := by decide +kernel
theorem dX4_memberAt_26 : decode cX4_memberAt 26 = .ok (.ireturn, 1) := by decide +kernel
theorem dX4_memberAt_27 : decode cX4_memberAt 27 = .ok (.iinc 2 (-1), 3) := by decide +kernel
theorem dX4_memberAt_30 : decode cX4_memberAt 30 = .ok (.iinc 3 1, 3) := by decide +kernel
theorem dX4_memberAt_33 : decode cX4_memberAt 33 = .ok (.goto (-29), 3) := by decide +kernel
theorem dX4_memberAt_36 : decode cX4_memberAt 36 = .ok (.iconst (-1), 1) := by decide +kernel
theorem dX4_memberAt_37 : decode cX4_memberAt 37 = .ok (.ireturn, 1) := by decide +kernel
theorem dX4_isIn_0 : decode cX4_isIn 0 = .ok (.iload_n 1, 1) := by decide +kernel
theorem dX4_isIn_1 : decode cX4_isIn 1 = .ok (.iload_n 0, 1) := by decide +kernel
theorem dX4_isIn_2 : decode cX4_isIn 2 = .ok (.ishr, 1) := by decide +kernel
theorem dX4_isIn_3 : decode cX4_isIn 3 = .ok (.iconst 1, 1) := by decide +kernel
theorem dX4_isIn_4 : decode cX4_isIn 4 = .ok (.iand, 1) := by decide +kernel
theorem dX4_isIn_5 : decode cX4_isIn 5 = .ok (.iconst 1, 1) := by decide +kernel
theorem dX4_isIn_6 : decode cX4_isIn 6 = .ok (.if_icmp .ne 7, 3) := by decide +kernel
theorem dX4_isIn_9 : decode cX4_isIn 9 = .ok (.iconst 1, 1) := by decide +kernel
theorem dX4_isIn_10 : decode cX4_isIn 10 = .ok (.goto 4, 3) := by decide +kernel
theorem dX4_isIn_13 : decode cX4_isIn 13 = .ok (.iconst 0, 1) := by decide +kernel
theorem dX4_isIn_14 : decode cX4_isIn 14 = .ok (.ireturn, 1) := by decide +kernel
theorem dX4_settingOf_0 : decode cX4_settingOf 0 = .ok (.iload_n 0, 1) := by decide +kernel
theorem dX4_settingOf_1 : decode cX4_settingOf 1 = .ok (.iconst 4, 1) := by decide +kernel
theorem dX4_settingOf_2 : decode cX4_settingOf 2 = .ok (.iload_n 1, 1) := by decide +kernel
theorem dX4_settingOf_3 : decode cX4_settingOf 3 = .ok (.imul, 1) := by decide +kernel
theorem dX4_settingOf_4 : decode cX4_settingOf 4 = .ok (.ishr, 1) := by decide +kernel
theorem dX4_settingOf_5 : decode cX4_settingOf 5 = .ok (.bipush 15, 2) := by decide +kernel
theorem dX4_settingOf_7 : decode cX4_settingOf 7 = .ok (.iand, 1) := by decide +kernel
theorem dX4_settingOf_8 : decode cX4_settingOf 8 = .ok (.ireturn, 1) := by decide +kernel
theorem dX4_areSettings_0 : decode cX4_areSettings 0 = .ok (.iload_n 0, 1) := by decide +kernel
theorem dX4_areSettings_1 : decode cX4_areSettings 1 = .ok (.ifCond .lt 10, 3) := by decide +kernel
theorem dX4_areSettings_4 : decode cX4_areSettings 4 = .ok (.iload_n 0, 1) := by decide +kernel
theorem dX4_areSettings_5 : decode cX4_areSettings 5 = .ok (.ldc_w 272, 3) := by decide +kernel
theorem dX4_areSettings_8 : decode cX4_areSettings 8 = .ok (.if_icmp .lt 5, 3) := by decide +kernel
theorem dX4_areSettings_11 : decode cX4_areSettings 11 = .ok (.iconst 0, 1) := by decide +kernel
theorem dX4_areSettings_12 : decode cX4_areSettings 12 = .ok (.ireturn, 1) := by decide +kernel
theorem dX4_areSettings_13 : decode cX4_areSettings 13 = .ok (.iconst 0, 1) := by decide +kernel
theorem dX4_areSettings_14 : decode cX4_areSettings 14 = .ok (.istore_n 1, 1) := by decide +kernel
theorem dX4_areSettings_15 : decode cX4_areSettings 15 = .ok (.iload_n 1, 1) := by decide +kernel
theorem dX4_areSettings_16 : decode cX4_areSettings 16 = .ok (.iconst 4, 1) := by decide +kernel
theorem dX4_areSettings_17 : decode cX4_areSettings 17 = .ok (.if_icmp .ge 22, 3) := by decide +kernel
theorem dX4_areSettings_20 : decode cX4_areSettings 20 = .ok (.iload_n 0, 1) := by decide +kernel
theorem dX4_areSettings_21 : decode cX4_areSettings 21 = .ok (.iload_n 1, 1) := by decide +kernel
theorem dX4_areSettings_22 : decode cX4_areSettings 22 = .ok (.invokestatic 252, 3) := by decide +kernel
theorem dX4_areSettings_25 : decode cX4_areSettings 25 = .ok (.invokestatic 249, 3) := by decide +kernel
theorem dX4_areSettings_28 : decode cX4_areSettings 28 = .ok (.ifCond .ne 5, 3) := by decide +kernel
theorem dX4_areSettings_31 : decode cX4_areSettings 31 = .ok (.iconst 0, 1) := by decide +kernel
theorem dX4_areSettings_32 : decode cX4_areSettings 32 = .ok (.ireturn, 1) := by decide +kernel
theorem dX4_areSettings_33 : decode cX4_areSettings 33 = .ok (.iinc 1 1, 3) := by decide +kernel
theorem dX4_areSettings_36 : decode cX4_areSettings 36 = .ok (.goto (-21), 3) := by decide +kernel
theorem dX4_areSettings_39 : decode cX4_areSettings 39 = .ok (.iconst 1, 1) := by decide +kernel
theorem dX4_areSettings_40 : decode cX4_areSettings 40 = .ok (.ireturn, 1) := by decide +kernel
theorem dX4_isSetting_0 : decode cX4_isSetting 0 = .ok (.iload_n 0, 1) := by decide +kernel
theorem dX4_isSetting_1 : decode cX4_isSetting 1 = .ok (.ifCond .lt 12, 3) := by decide +kernel
theorem dX4_isSetting_4 : decode cX4_isSetting 4 = .ok (.iload_n 0, 1) := by decide +kernel
theorem dX4_isSetting_5 : decode cX4_isSetting 5 = .ok (.iconst 4, 1) := by decide +kernel
theorem dX4_isSetting_6 : decode cX4_isSetting 6 = .ok (.if_icmp .ge 7, 3) := by decide +kernel
theorem dX4_isSetting_9 : decode cX4_isSetting 9 = .ok (.iconst 1, 1) := by decide +kernel
theorem dX4_isSetting_10 : decode cX4_isSetting 10 = .ok (.goto 4, 3) := by decide +kernel
theorem dX4_isSetting_13 : decode cX4_isSetting 13 = .ok (.iconst 0, 1) := by decide +kernel
theorem dX4_isSetting_14 : decode cX4_isSetting 14 = .ok (.ireturn, 1) := by decide +kernel
theorem dX4_isValue_0 : decode cX4_isValue 0 = .ok (.iload_n 0, 1) := by decide +kernel
theorem dX4_isValue_1 : decode cX4_isValue 1 = .ok (.ifCond .lt 13, 3) := by decide +kernel
theorem dX4_isValue_4 : decode cX4_isValue 4 = .ok (.iload_n 0, 1) := by decide +kernel
theorem dX4_isValue_5 : decode cX4_isValue 5 = .ok (.bipush 6, 2) := by decide +kernel
theorem dX4_isValue_7 : decode cX4_isValue 7 = .ok (.if_icmp .ge 7, 3) := by decide +kernel
theorem dX4_isValue_10 : decode cX4_isValue 10 = .ok (.iconst 1, 1) := by decide +kernel
theorem dX4_isValue_11 : decode cX4_isValue 11 = .ok (.goto 4, 3) := by decide +kernel
theorem dX4_isValue_14 : decode cX4_isValue 14 = .ok (.iconst 0, 1) := by decide +kernel
theorem dX4_isValue_15 : decode cX4_isValue 15 = .ok (.ireturn, 1) := by decide +kernel
theorem dX4_isSeed_0 : decode cX4_isSeed 0 = .ok (.iload_n 0, 1) := by decide +kernel
theorem dX4_isSeed_1 : decode cX4_isSeed 1 = .ok (.ifCond .lt 13, 3) := by decide +kernel
theorem dX4_isSeed_4 : decode cX4_isSeed 4 = .ok (.iload_n 0, 1) := by decide +kernel
theorem dX4_isSeed_5 : decode cX4_isSeed 5 = .ok (.bipush 100, 2) := by decide +kernel
theorem dX4_isSeed_7 : decode cX4_isSeed 7 = .ok (.if_icmp .ge 7, 3) := by decide +kernel
theorem dX4_isSeed_10 : decode cX4_isSeed 10 = .ok (.iconst 1, 1) := by decide +kernel
theorem dX4_isSeed_11 : decode cX4_isSeed 11 = .ok (.goto 4, 3) := by decide +kernel
theorem dX4_isSeed_14 : decode cX4_isSeed 14 = .ok (.iconst 0, 1) := by decide +kernel
theorem dX4_isSeed_15 : decode cX4_isSeed 15 = .ok (.ireturn, 1) := by decide +kernel
theorem dX4_areTicks_0 : decode cX4_areTicks 0 = .ok (.iload_n 0, 1) := by decide +kernel
theorem dX4_areTicks_1 : decode cX4_areTicks 1 = .ok (.iconst 1, 1) := by decide +kernel
theorem dX4_areTicks_2 : decode cX4_areTicks 2 = .ok (.if_icmp .lt 13, 3) := by decide +kernel
theorem dX4_areTicks_5 : decode cX4_areTicks 5 = .ok (.iload_n 0, 1) := by decide +kernel
theorem dX4_areTicks_6 : decode cX4_areTicks 6 = .ok (.bipush 16, 2) := by decide +kernel
theorem dX4_areTicks_8 : decode cX4_areTicks 8 = .ok (.if_icmp .gt 7, 3) := by decide +kernel
theorem dX4_areTicks_11 : decode cX4_areTicks 11 = .ok (.iconst 1, 1) := by decide +kernel
theorem dX4_areTicks_12 : decode cX4_areTicks 12 = .ok (.goto 4, 3) := by decide +kernel
theorem dX4_areTicks_15 : decode cX4_areTicks 15 = .ok (.iconst 0, 1) := by decide +kernel
theorem dX4_areTicks_16 : decode cX4_areTicks 16 = .ok (.ireturn, 1) := by decide +kernel
theorem dX4_areGridSeeds_0 : decode cX4_areGridSeeds 0 = .ok (.iload_n 0, 1) := by decide +kernel
theorem dX4_areGridSeeds_1 : decode cX4_areGridSeeds 1 = .ok (.iconst 1, 1) := by decide +kernel
theorem dX4_areGridSeeds_2 : decode cX4_areGridSeeds 2 = .ok (.if_icmp .lt 13, 3) := by decide +kernel
theorem dX4_areGridSeeds_5 : decode cX4_areGridSeeds 5 = .ok (.iload_n 0, 1) := by decide +kernel
theorem dX4_areGridSeeds_6 : decode cX4_areGridSeeds 6 = .ok (.bipush 8, 2) := by decide +kernel
theorem dX4_areGridSeeds_8 : decode cX4_areGridSeeds 8 = .ok (.if_icmp .gt 7, 3) := by decide +kernel
theorem dX4_areGridSeeds_11 : decode cX4_areGridSeeds 11 = .ok (.iconst 1, 1) := by decide +kernel
theorem dX4_areGridSeeds_12 : decode cX4_areGridSeeds 12 = .ok (.goto 4, 3) := by decide +kernel
theorem dX4_areGridSeeds_15 : decode cX4_areGridSeeds 15 = .ok (.iconst 0, 1) := by decide +kernel
theorem dX4_areGridSeeds_16 : decode cX4_areGridSeeds 16 = .ok (.ireturn, 1) := by decide +kernel
theorem dX4_areOdds_0 : decode cX4_areOdds 0 = .ok (.iload_n 0, 1) := by decide +kernel
theorem dX4_areOdds_1 : decode cX4_areOdds 1 = .ok (.iconst 1, 1) := by decide +kernel
theorem dX4_areOdds_2 : decode cX4_areOdds 2 = .ok (.if_icmp .lt 14, 3) := by decide +kernel
theorem dX4_areOdds_5 : decode cX4_areOdds 5 = .ok (.iload_n 0, 1) := by decide +kernel
theorem dX4_areOdds_6 : decode cX4_areOdds 6 = .ok (.ldc_w 273, 3) := by decide +kernel
theorem dX4_areOdds_9 : decode cX4_areOdds 9 = .ok (.if_icmp .gt 7, 3) := by decide +kernel
theorem dX4_areOdds_12 : decode cX4_areOdds 12 = .ok (.iconst 1, 1) := by decide +kernel
theorem dX4_areOdds_13 : decode cX4_areOdds 13 = .ok (.goto 4, 3) := by decide +kernel
theorem dX4_areOdds_16 : decode cX4_areOdds 16 = .ok (.iconst 0, 1) := by decide +kernel
theorem dX4_areOdds_17 : decode cX4_areOdds 17 = .ok (.ireturn, 1) := by decide +kernel
theorem dX4_asNumber_0 : decode cX4_asNumber 0 = .ok (.iload_n 0, 1) := by decide +kernel
theorem dX4_asNumber_1 : decode cX4_asNumber 1 = .ok (.ifCond .eq 7, 3) := by decide +kernel
theorem dX4_asNumber_4 : decode cX4_asNumber 4 = .ok (.iconst 1, 1) := by decide +kernel
theorem dX4_asNumber_5 : decode cX4_asNumber 5 = .ok (.goto 4, 3) := by decide +kernel
theorem dX4_asNumber_8 : decode cX4_asNumber 8 = .ok (.iconst 0, 1) := by decide +kernel
theorem dX4_asNumber_9 : decode cX4_asNumber 9 = .ok (.ireturn, 1) := by decide +kernel
theorem dX4_remainder_0 : decode cX4_remainder 0 = .ok (.iload_n 1, 1) := by decide +kernel
theorem dX4_remainder_1 : decode cX4_remainder 1 = .ok (.ifCond .ne 7, 3) := by decide +kernel
theorem dX4_remainder_4 : decode cX4_remainder 4 = .ok (.iconst 0, 1) := by decide +kernel
theorem dX4_remainder_5 : decode cX4_remainder 5 = .ok (.goto 6, 3) := by decide +kernel
theorem dX4_remainder_8 : decode cX4_remainder 8 = .ok (.iload_n 0, 1) := by decide +kernel
theorem dX4_remainder_9 : decode cX4_remainder 9 = .ok (.iload_n 1, 1) := by decide +kernel
theorem dX4_remainder_10 : decode cX4_remainder 10 = .ok (.irem, 1) := by decide +kernel
theorem dX4_remainder_11 : decode cX4_remainder 11 = .ok (.ireturn, 1) := by decide +kernel
