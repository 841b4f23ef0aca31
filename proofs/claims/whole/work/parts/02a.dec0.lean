theorem dX0_init_0 : decode cX0_init 0 = .ok (.aload_n 0, 1) := by decide +kernel
theorem dX0_init_1 : decode cX0_init 1 = .ok (.invokespecial 3, 3) := by decide +kernel
theorem dX0_init_4 : decode cX0_init 4 = .ok (.iload_n 2, 1) := by decide +kernel
theorem dX0_init_5 : decode cX0_init 5 = .ok (.i2l, 1) := by decide +kernel
theorem dX0_init_6 : decode cX0_init 6 = .ok (.bipush 32, 2) := by decide +kernel
theorem dX0_init_8 : decode cX0_init 8 = .ok (.lshl, 1) := by decide +kernel
theorem dX0_init_9 : decode cX0_init 9 = .ok (.iload_n 3, 1) := by decide +kernel
theorem dX0_init_10 : decode cX0_init 10 = .ok (.i2l, 1) := by decide +kernel
theorem dX0_init_11 : decode cX0_init 11 = .ok (.ldc2_w 9, 3) := by decide +kernel
theorem dX0_init_14 : decode cX0_init 14 = .ok (.land, 1) := by decide +kernel
theorem dX0_init_15 : decode cX0_init 15 = .ok (.lor, 1) := by decide +kernel
theorem dX0_init_16 : decode cX0_init 16 = .ok (.lstore 4, 2) := by decide +kernel
theorem dX0_init_18 : decode cX0_init 18 = .ok (.aload_n 0, 1) := by decide +kernel
theorem dX0_init_19 : decode cX0_init 19 = .ok (.iload_n 1, 1) := by decide +kernel
theorem dX0_init_20 : decode cX0_init 20 = .ok (.putfield 11, 3) := by decide +kernel
theorem dX0_init_23 : decode cX0_init 23 = .ok (.aload_n 0, 1) := by decide +kernel
theorem dX0_init_24 : decode cX0_init 24 = .ok (.iload_n 1, 1) := by decide +kernel
theorem dX0_init_25 : decode cX0_init 25 = .ok (.ifCond .gt 7, 3) := by decide +kernel
theorem dX0_init_28 : decode cX0_init 28 = .ok (.lconst 0, 1) := by decide +kernel
theorem dX0_init_29 : decode cX0_init 29 = .ok (.goto 13, 3) := by decide +kernel
theorem dX0_init_32 : decode cX0_init 32 = .ok (.lload 4, 2) := by decide +kernel
theorem dX0_init_34 : decode cX0_init 34 = .ok (.bipush 8, 2) := by decide +kernel
theorem dX0_init_36 : decode cX0_init 36 = .ok (.bipush 8, 2) := by decide +kernel
theorem dX0_init_38 : decode cX0_init 38 = .ok (.iload_n 1, 1) := by decide +kernel
theorem dX0_init_39 : decode cX0_init 39 = .ok (.isub, 1) := by decide +kernel
theorem dX0_init_40 : decode cX0_init 40 = .ok (.imul, 1) := by decide +kernel
theorem dX0_init_41 : decode cX0_init 41 = .ok (.lushr, 1) := by decide +kernel
theorem dX0_init_42 : decode cX0_init 42 = .ok (.putfield 17, 3) := by decide +kernel
theorem dX0_init_45 : decode cX0_init 45 = .ok (.return_, 1) := by decide +kernel
theorem dX0_stepAt_0 : decode cX0_stepAt 0 = .ok (.aload_n 0, 1) := by decide +kernel
theorem dX0_stepAt_1 : decode cX0_stepAt 1 = .ok (.getfield 17, 3) := by decide +kernel
theorem dX0_stepAt_4 : decode cX0_stepAt 4 = .ok (.bipush 8, 2) := by decide +kernel
theorem dX0_stepAt_6 : decode cX0_stepAt 6 = .ok (.aload_n 0, 1) := by decide +kernel
theorem dX0_stepAt_7 : decode cX0_stepAt 7 = .ok (.getfield 11, 3) := by decide +kernel
theorem dX0_stepAt_10 : decode cX0_stepAt 10 = .ok (.iconst 1, 1) := by decide +kernel
theorem dX0_stepAt_11 : decode cX0_stepAt 11 = .ok (.isub, 1) := by decide +kernel
theorem dX0_stepAt_12 : decode cX0_stepAt 12 = .ok (.iload_n 1, 1) := by decide +kernel
theorem dX0_stepAt_13 : decode cX0_stepAt 13 = .ok (.isub, 1) := by decide +kernel
theorem dX0_stepAt_14 : decode cX0_stepAt 14 = .ok (.imul, 1) := by decide +kernel
theorem dX0_stepAt_15 : decode cX0_stepAt 15 = .ok (.lushr, 1) := by decide +kernel
theorem dX0_stepAt_16 : decode cX0_stepAt 16 = .ok (.l2i, 1) := by decide +kernel
theorem dX0_stepAt_17 : decode cX0_stepAt 17 = .ok (.sipush 255, 3) := by decide +kernel
theorem dX0_stepAt_20 : decode cX0_stepAt 20 = .ok (.iand, 1) := by decide +kernel
theorem dX0_stepAt_21 : decode cX0_stepAt 21 = .ok (.ireturn, 1) := by decide +kernel
theorem dX0_isLike_0 : decode cX0_isLike 0 = .ok (.aload_n 1, 1) := by decide +kernel
theorem dX0_isLike_1 : decode cX0_isLike 1 = .ok (.ifnull 30, 3) := by decide +kernel
theorem dX0_isLike_4 : decode cX0_isLike 4 = .ok (.aload_n 0, 1) := by decide +kernel
theorem dX0_isLike_5 : decode cX0_isLike 5 = .ok (.getfield 11, 3) := by decide +kernel
theorem dX0_isLike_8 : decode cX0_isLike 8 = .ok (.aload_n 1, 1) := by decide +kernel
theorem dX0_isLike_9 : decode cX0_isLike 9 = .ok (.getfield 11, 3) := by decide +kernel
theorem dX0_isLike_12 : decode cX0_isLike 12 = .ok (.if_icmp .ne 19, 3) := by decide +kernel
theorem dX0_isLike_15 : decode cX0_isLike 15 = .ok (.aload_n 0, 1) := by decide +kernel
theorem dX0_isLike_16 : decode cX0_isLike 16 = .ok (.getfield 17, 3) := by decide +kernel
theorem dX0_isLike_19 : decode cX0_isLike 19 = .ok (.aload_n 1, 1) := by decide +kernel
theorem dX0_isLike_20 : decode cX0_isLike 20 = .ok (.getfield 17, 3) := by decide +kernel
theorem dX0_isLike_23 : decode cX0_isLike 23 = .ok (.lcmp, 1) := by decide +kernel
theorem dX0_isLike_24 : decode cX0_isLike 24 = .ok (.ifCond .ne 7, 3) := by decide +kernel
theorem dX0_isLike_27 : decode cX0_isLike 27 = .ok (.iconst 1, 1) := by decide +kernel
theorem dX0_isLike_28 : decode cX0_isLike 28 = .ok (.goto 4, 3) := by decide +kernel
theorem dX0_isLike_31 : decode cX0_isLike 31 = .ok (.iconst 0, 1) := by decide +kernel
theorem dX0_isLike_32 : decode cX0_isLike 32 = .ok (.ireturn, 1) := by decide +kernel
theorem dX1_init_0 : decode cX1_init 0 = .ok (.aload_n 0, 1) := by decide +kernel
theorem dX1_init_1 : decode cX1_init 1 = .ok (.invokespecial 3, 3) := by decide +kernel
theorem dX1_init_4 : decode cX1_init 4 = .ok (.aload_n 0, 1) := by decide +kernel
theorem dX1_init_5 : decode cX1_init 5 = .ok (.bipush 8, 2) := by decide +kernel
theorem dX1_init_7 : decode cX1_init 7 = .ok (.newarray .int, 2) := by decide +kernel
theorem dX1_init_9 : decode cX1_init 9 = .ok (.putfield 9, 3) := by decide +kernel
theorem dX1_init_12 : decode cX1_init 12 = .ok (.return_, 1) := by decide +kernel
theorem dX1_addWord_0 : decode cX1_addWord 0 = .ok (.iload_n 1, 1) := by decide +kernel
theorem dX1_addWord_1 : decode cX1_addWord 1 = .ok (.ifCond .lt 31, 3) := by decide +kernel
theorem dX1_addWord_4 : decode cX1_addWord 4 = .ok (.iload_n 1, 1) := by decide +kernel
theorem dX1_addWord_5 : decode cX1_addWord 5 = .ok (.aload_n 0, 1) := by decide +kernel
theorem dX1_addWord_6 : decode cX1_addWord 6 = .ok (.getfield 9, 3) := by decide +kernel
theorem dX1_addWord_9 : decode cX1_addWord 9 = .ok (.arraylength, 1) := by decide +kernel
theorem dX1_addWord_10 : decode cX1_addWord 10 = .ok (.if_icmp .ge 22, 3) := by decide +kernel
theorem dX1_addWord_13 : decode cX1_addWord 13 = .ok (.aload_n 0, 1) := by decide +kernel
theorem dX1_addWord_14 : decode cX1_addWord 14 = .ok (.dup, 1) := by decide +kernel
theorem dX1_addWord_15 : decode cX1_addWord 15 = .ok (.getfield 15, 3) := by decide +kernel
theorem dX1_addWord_18 : decode cX1_addWord 18 = .ok (.iconst 1, 1) := by decide +kernel
theorem dX1_addWord_19 : decode cX1_addWord 19 = .ok (.iload_n 1, 1) := by decide +kernel
theorem dX1_addWord_20 : decode cX1_addWord 20 = .ok (.ishl, 1) := by decide +kernel
theorem dX1_addWord_21 : decode cX1_addWord 21 = .ok (.ior, 1) := by decide +kernel
theorem dX1_addWord_22 : decode cX1_addWord 22 = .ok (.putfield 15, 3) := by decide +kernel
theorem dX1_addWord_25 : decode cX1_addWord 25 = .ok (.aload_n 0, 1) := by decide +kernel
theorem dX1_addWord_26 : decode cX1_addWord 26 = .ok (.getfield 9, 3) := by decide +kernel
theorem dX1_addWord_29 : decode cX1_addWord 29 = .ok (.iload_n 1, 1) := by decide +kernel
theorem dX1_addWord_30 : decode cX1_addWord 30 = .ok (.iload_n 2, 1) := by decide +kernel
theorem dX1_addWord_31 : decode cX1_addWord 31 = .ok (.iastore, 1) := by decide +kernel
theorem dX1_addWord_32 : decode cX1_addWord 32 = .ok (.return_, 1) := by decide +kernel
theorem dX1_addAll_0 : decode cX1_addAll 0 = .ok (.aload_n 0, 1) := by decide +kernel
theorem dX1_addAll_1 : decode cX1_addAll 1 = .ok (.dup, 1) := by decide +kernel
theorem dX1_addAll_2 : decode cX1_addAll 2 = .ok (.getfield 19, 3) := by decide +kernel
theorem dX1_addAll_5 : decode cX1_addAll 5 = .ok (.aload_n 1, 1) := by decide +kernel
theorem dX1_addAll_6 : decode cX1_addAll 6 = .ok (.getfield 19, 3) := by decide +kernel
theorem dX1_addAll_9 : decode cX1_addAll 9 = .ok (.ior, 1) := by decide +kernel
theorem dX1_addAll_10 : decode cX1_addAll 10 = .ok (.putfield 19, 3) := by decide +kernel
theorem dX1_addAll_13 : decode cX1_addAll 13 = .ok (.aload_n 0, 1) := by decide +kernel
theorem dX1_addAll_14 : decode cX1_addAll 14 = .ok (.aload_n 0, 1) := by decide +kernel
theorem dX1_addAll_15 : decode cX1_addAll 15 = .ok (.getfield 22, 3) := by decide +kernel
theorem dX1_addAll_18 : decode cX1_addAll 18 = .ok (.ifCond .ne 10, 3) := by decide +kernel
theorem dX1_addAll_21 : decode cX1_addAll 21 = .ok (.aload_n 1, 1) := by decide +kernel
theorem dX1_addAll_22 : decode cX1_addAll 22 = .ok (.getfield 22, 3) := by decide +kernel
theorem dX1_addAll_25 : decode cX1_addAll 25 = .ok (.ifCond .eq 7, 3) := by decide +kernel
theorem dX1_addAll_28 : decode cX1_addAll 28 = .ok (.iconst 1, 1) := by decide +kernel
theorem dX1_addAll_29 : decode cX1_addAll 29 = .ok (.goto 4, 3) := by decide +kernel
theorem dX1_addAll_32 : decode cX1_addAll 32 = .ok (.iconst 0, 1) := by decide +kernel
theorem dX1_addAll_33 : decode cX1_addAll 33 = .ok (.putfield 22, 3) := by decide +kernel
theorem dX1_addAll_36 : decode cX1_addAll 36 = .ok (.aload_n 0, 1) := by decide +kernel
theorem dX1_addAll_37 : decode cX1_addAll 37 = .ok (.aload_n 0, 1) := by decide +kernel
theorem dX1_addAll_38 : decode cX1_addAll 38 = .ok (.getfield 26, 3) := by decide +kernel
theorem dX1_addAll_41 : decode cX1_addAll 41 = .ok (.ifCond .ne 10, 3) := by decide +kernel
theorem dX1_addAll_44 : decode cX1_addAll 44 = .ok (.aload_n 1, 1) := by decide +kernel
theorem dX1_addAll_45 : decode cX1_addAll 45 = .ok (.getfield 26, 3) := by decide +kernel
theorem dX1_addAll_48 : decode cX1_addAll 48 = .ok (.ifCond .eq 7, 3) := by decide +kernel
theorem dX1_addAll_51 : decode cX1_addAll 51 = .ok (.iconst 1, 1) := by decide +kernel
theorem dX1_addAll_52 : decode cX1_addAll 52 = .ok (.goto 4, 3) := by decide +kernel
theorem dX1_addAll_55 : decode cX1_addAll 55 = .ok (.iconst 0, 1) := by decide +kernel
theorem dX1_addAll_56 : decode cX1_addAll 56 = .ok (.putfield 26, 3) := by decide +kernel
theorem dX1_addAll_59 : decode cX1_addAll 59 = .ok (.iconst 0, 1) := by decide +kernel
theorem dX1_addAll_60 : decode cX1_addAll 60 = .ok (.istore_n 2, 1) := by decide +kernel
theorem dX1_addAll_61 : decode cX1_addAll 61 = .ok (.iload_n 2, 1) := by decide +kernel
theorem dX1_addAll_62 : decode cX1_addAll 62 = .ok (.aload_n 1, 1) := by decide +kernel
theorem dX1_addAll_63 : decode cX1_addAll 63 = .ok (.getfield 9, 3) := by decide +kernel
theorem dX1_addAll_66 : decode cX1_addAll 66 = .ok (.arraylength, 1) := by decide +kernel
theorem dX1_addAll_67 : decode cX1_addAll 67 = .ok (.if_icmp .ge 31, 3) := by decide +kernel
theorem dX1_addAll_70 : decode cX1_addAll 70 = .ok (.iload_n 2, 1) := by decide +kernel
theorem dX1_addAll_71 : decode cX1_addAll 71 = .ok (.aload_n 1, 1) := by decide +kernel
theorem dX1_addAll_72 : decode cX1_addAll 72 = .ok (.getfield 15, 3) := by decide +kernel
theorem dX1_addAll_75 : decode cX1_addAll 75 = .ok (.invokestatic 29, 3) := by decide +kernel
theorem dX1_addAll_78 : decode cX1_addAll 78 = .ok (.ifCond .eq 14, 3) := by decide +kernel
theorem dX1_addAll_81 : decode cX1_addAll 81 = .ok (.aload_n 0, 1) := by decide +kernel
theorem dX1_addAll_82 : decode cX1_addAll 82 = .ok (.iload_n 2, 1) := by decide +kernel
theorem dX1_addAll_83 : decode cX1_addAll 83 = .ok (.aload_n 1, 1) := by decide +kernel
theorem dX1_addAll_84 : decode cX1_addAll 84 = .ok (.getfield 9, 3) := by decide +kernel
theorem dX1_addAll_87 : decode cX1_addAll 87 = .ok (.iload_n 2, 1) := by decide +kernel
theorem dX1_addAll_88 : decode cX1_addAll 88 = .ok (.iaload, 1) := by decide +kernel
theorem dX1_addAll_89 : decode cX1_addAll 89 = .ok (.invokevirtual 33, 3) := by decide +kernel
theorem dX1_addAll_92 : decode cX1_addAll 92 = .ok (.iinc 2 1, 3) := by decide +kernel
theorem dX1_addAll_95 : decode cX1_addAll 95 = .ok (.goto (-34), 3) := by decide +kernel
theorem dX1_addAll_98 : decode cX1_addAll 98 = .ok (.return_, 1) := by decide +kernel
theorem dX1_changedWords_0 : decode cX1_changedWords 0 = .ok (.iconst 0, 1) := by decide +kernel
theorem dX1_changedWords_1 : decode cX1_changedWords 1 = .ok (.istore_n 2, 1) := by decide +kernel
theorem dX1_changedWords_2 : decode cX1_changedWords 2 = .ok (.iconst 0, 1) := by decide +kernel
theorem dX1_changedWords_3 : decode cX1_changedWords 3 = .ok (.istore_n 3, 1) := by decide +kernel
theorem dX1_changedWords_4 : decode cX1_changedWords 4 = .ok (.iload_n 3, 1) := by decide +kernel
theorem dX1_changedWords_5 : decode cX1_changedWords 5 = .ok (.aload_n 0, 1) := by decide +kernel
theorem dX1_changedWords_6 : decode cX1_changedWords 6 = .ok (.getfield 9, 3) := by decide +kernel
theorem dX1_changedWords_9 : decode cX1_changedWords 9 = .ok (.arraylength, 1) := by decide +kernel
theorem dX1_changedWords_10 : decode cX1_changedWords 10 = .ok (.if_icmp .ge 40, 3) := by decide +kernel
theorem dX1_changedWords_13 : decode cX1_changedWords 13 = .ok (.iload_n 3, 1) := by decide +kernel
theorem dX1_changedWords_14 : decode cX1_changedWords 14 = .ok (.aload_n 0, 1) := by decide +kernel
theorem dX1_changedWords_15 : decode cX1_changedWords 15 = .ok (.getfield 15, 3) := by decide +kernel
theorem dX1_changedWords_18 : decode cX1_changedWords 18 = .ok (.invokestatic 29, 3) := by decide +kernel
theorem dX1_changedWords_21 : decode cX1_changedWords 21 = .ok (.ifCond .eq 23, 3) := by decide +kernel
theorem dX1_changedWords_24 : decode cX1_changedWords 24 = .ok (.aload_n 0, 1) := by decide +kernel
theorem dX1_changedWords_25 : decode cX1_changedWords 25 = .ok (.getfield 9, 3) := by decide +kernel
theorem dX1_changedWords_28 : decode cX1_changedWords 28 = .ok (.iload_n 3, 1) := by decide +kernel
theorem dX1_changedWords_29 : decode cX1_changedWords 29 = .ok (.iaload, 1) := by decide +kernel
theorem dX1_changedWords_30 : decode cX1_changedWords 30 = .ok (.aload_n 1, 1) := by decide +kernel
theorem dX1_changedWords_31 : decode cX1_changedWords 31 = .ok (.iload_n 3, 1) := by decide +kernel
theorem dX1_changedWords_32 : decode cX1_changedWords 32 = .ok (.invokevirtual 37, 3) := by decide +kernel
theorem dX1_changedWords_35 : decode cX1_changedWords 35 = .ok (.if_icmp .eq 9, 3) := by decide +kernel
theorem dX1_changedWords_38 : decode cX1_changedWords 38 = .ok (.iload_n 2, 1) := by decide +kernel
theorem dX1_changedWords_39 : decode cX1_changedWords 39 = .ok (.iconst 1, 1) := by decide +kernel
theorem dX1_changedWords_40 : decode cX1_changedWords 40 = .ok (.iload_n 3, 1) := by decide +kernel
theorem dX1_changedWords_41 : decode cX1_changedWords 41 = .ok (.ishl, 1) := by decide +kernel
theorem dX1_changedWords_42 : decode cX1_changedWords 42 = .ok (.ior, 1) := by decide +kernel
theorem dX1_changedWords_43 : decode cX1_changedWords 43 = .ok (.istore_n 2, 1) := by decide +kernel
theorem dX1_changedWords_44 : decode cX1_changedWords 44 = .ok (.iinc 3 1, 3) := by decide +kernel
theorem dX1_changedWords_47 : decode cX1_changedWords 47 = .ok (.goto (-43), 3) := by decide +kernel
theorem dX1_changedWords_50 : decode cX1_changedWords 50 = .ok (.iload_n 2, 1) := by decide +kernel
theorem dX1_changedWords_51 : decode cX1_changedWords 51 = .ok (.ireturn, 1) := by decide +kernel
theorem dX1_agreesOnSharedWords_0 : decode cX1_agreesOnSharedWords 0 = .ok (.aload_n 0, 1) := by decide +kernel
theorem dX1_agreesOnSharedWords_1 : decode cX1_agreesOnSharedWords 1 = .ok (.getfield 15, 3) := by decide +kernel
theorem dX1_agreesOnSharedWords_4 : decode cX1_agreesOnSharedWords 4 = .ok (.aload_n 1, 1) := by decide +kernel
theorem dX1_agreesOnSharedWords_5 : decode cX1_agreesOnSharedWords 5 = .ok (.getfield 15, 3) := by decide +kernel
theorem dX1_agreesOnSharedWords_8 : decode cX1_agreesOnSharedWords 8 = .ok (.iand, 1) := by decide +kernel
theorem dX1_agreesOnSharedWords_9 : decode cX1_agreesOnSharedWords 9 = .ok (.istore_n 2, 1) := by decide +kernel
theorem dX1_agreesOnSharedWords_10 : decode cX1_agreesOnSharedWords 10 = .ok (.iconst 0, 1) := by decide +kernel
theorem dX1_agreesOnSharedWords_11 : decode cX1_agreesOnSharedWords 11 = .ok (.istore_n 3, 1) := by decide +kernel
theorem dX1_agreesOnSharedWords_12 : decode cX1_agreesOnSharedWords 12 = .ok (.iload_n 3, 1) := by decide +kernel
theorem dX1_agreesOnSharedWords_13 : decode cX1_agreesOnSharedWords 13 = .ok (.aload_n 0, 1) := by decide +kernel
theorem dX1_agreesOnSharedWords_14 : decode cX1_agreesOnSharedWords 14 = .ok (.getfield 9, 3) := by decide +kernel
theorem dX1_agreesOnSharedWords_17 : decode cX1_agreesOnSharedWords 17 = .ok (.arraylength, 1) := by decide +kernel
theorem dX1_agreesOnSharedWords_18 : decode cX1_agreesOnSharedWords 18 = .ok (.if_icmp .ge 43, 3) := by decide +kernel
theorem dX1_agreesOnSharedWords_21 : decode cX1_agreesOnSharedWords 21 = .ok (.iload_n 3, 1) := by decide +kernel
theorem dX1_agreesOnSharedWords_22 : decode cX1_agreesOnSharedWords 22 = .ok (.aload_n 1, 1) := by decide +kernel
theorem dX1_agreesOnSharedWords_23 : decode cX1_agreesOnSharedWords 23 = .ok (.getfield 9, 3) := by decide +kernel
theorem dX1_agreesOnSharedWords_26 : decode cX1_agreesOnSharedWords 26 = .ok (.arraylength, 1) := by decide +kernel
theorem dX1_agreesOnSharedWords_27 : decode cX1_agreesOnSharedWords 27 = .ok (.if_icmp .ge 34, 3) := by decide +kernel
theorem dX1_agreesOnSharedWords_30 : decode cX1_agreesOnSharedWords 30 = .ok (.iload_n 3, 1) := by decide +kernel
theorem dX1_agreesOnSharedWords_31 : decode cX1_agreesOnSharedWords 31 = .ok (.iload_n 2, 1) := by decide +kernel
theorem dX1_agreesOnSharedWords_32 : decode cX1_agreesOnSharedWords 32 = .ok (.invokestatic 29, 3) := by decide +kernel
theorem dX1_agreesOnSharedWords_35 : decode cX1_agreesOnSharedWords 35 = .ok (.ifCond .eq 20, 3) := by decide +kernel
theorem dX1_agreesOnSharedWords_38 : decode cX1_agreesOnSharedWords 38 = .ok (.aload_n 0, 1) := by decide +kernel
theorem dX1_agreesOnSharedWords_39 : decode cX1_agreesOnSharedWords 39 = .ok (.getfield 9, 3) := by decide +kernel
theorem dX1_agreesOnSharedWords_42 : decode cX1_agreesOnSharedWords 42 = .ok (.iload_n 3, 1) := by decide +kernel
theorem dX1_agreesOnSharedWords_43 : decode cX1_agreesOnSharedWords 43 = .ok (.iaload, 1) := by decide +kernel
theorem dX1_agreesOnSharedWords_44 : decode cX1_agreesOnSharedWords 44 = .ok (.aload_n 1, 1) := by decide +kernel
theorem dX1_agreesOnSharedWords_45 : decode cX1_agreesOnSharedWords 45 = .ok (.getfield 9, 3) := by decide +kernel
theorem dX1_agreesOnSharedWords_48 : decode cX1_agreesOnSharedWords 48 = .ok (.iload_n 3, 1) := by decide +kernel
theorem dX1_agreesOnSharedWords_49 : decode cX1_agreesOnSharedWords 49 = .ok (.iaload, 1) := by decide +kernel
theorem dX1_agreesOnSharedWords_50 : decode cX1_agreesOnSharedWords 50 = .ok (.if_icmp .eq 5, 3) := by decide +kernel
theorem dX1_agreesOnSharedWords_53 : decode cX1_agreesOnSharedWords 53 = .ok (.iconst 0, 1) := by decide +kernel
theorem dX1_agreesOnSharedWords_54 : decode cX1_agreesOnSharedWords 54 = .ok (.ireturn, 1) := by decide +kernel
theorem dX1_agreesOnSharedWords_55 : decode cX1_agreesOnSharedWords 55 = .ok (.iinc 3 1, 3) := by decide +kernel
theorem dX1_agreesOnSharedWords_58 : decode cX1_agreesOnSharedWords 58 = .ok (.goto (-46), 3) := by decide +kernel
theorem dX1_agreesOnSharedWords_61 : decode cX1_agreesOnSharedWords 61 = .ok (.iconst 1, 1) := by decide +kernel
theorem dX1_agreesOnSharedWords_62 : decode cX1_agreesOnSharedWords 62 = .ok (.ireturn, 1) := by decide +kernel
theorem dX2_init_0 : decode cX2_init 0 = .ok (.aload_n 0, 1) := by decide +kernel
theorem dX2_init_1 : decode cX2_init 1 = .ok (.invokespecial 3, 3) := by decide +kernel
theorem dX2_init_4 : decode cX2_init 4 = .ok (.aload_n 0, 1) := by decide +kernel
theorem dX2_init_5 : decode cX2_init 5 = .ok (.new 9, 3) := by decide +kernel
theorem dX2_init_8 : decode cX2_init 8 = .ok (.dup, 1) := by decide +kernel
theorem dX2_init_9 : decode cX2_init 9 = .ok (.invokespecial 11, 3) := by decide +kernel
theorem dX2_init_12 : decode cX2_init 12 = .ok (.putfield 12, 3) := by decide +kernel
theorem dX2_init_15 : decode cX2_init 15 = .ok (.aload_n 0, 1) := by decide +kernel
theorem dX2_init_16 : decode cX2_init 16 = .ok (.bipush 16, 2) := by decide +kernel
theorem dX2_init_18 : decode cX2_init 18 = .ok (.newarray .int, 2) := by decide +kernel
theorem dX2_init_20 : decode cX2_init 20 = .ok (.putfield 18, 3) := by decide +kernel
theorem dX2_init_23 : decode cX2_init 23 = .ok (.aload_n 0, 1) := by decide +kernel
theorem dX2_init_24 : decode cX2_init 24 = .ok (.iconst (-1), 1) := by decide +kernel
theorem dX2_init_25 : decode cX2_init 25 = .ok (.putfield 22, 3) := by decide +kernel
theorem dX2_init_28 : decode cX2_init 28 = .ok (.aload_n 0, 1) := by decide +kernel
theorem dX2_init_29 : decode cX2_init 29 = .ok (.iconst (-1), 1) := by decide +kernel
theorem dX2_init_30 : decode cX2_init 30 = .ok (.putfield 26, 3) := by decide +kernel
theorem dX2_init_33 : decode cX2_init 33 = .ok (.aload_n 0, 1) := by decide +kernel
theorem dX2_init_34 : decode cX2_init 34 = .ok (.iload_n 1, 1) := by decide +kernel
theorem dX2_init_35 : decode cX2_init 35 = .ok (.putfield 29, 3) := by decide +kernel
theorem dX2_init_38 : decode cX2_init 38 = .ok (.aload_n 0, 1) := by decide +kernel
theorem dX2_init_39 : decode cX2_init 39 = .ok (.aload_n 2, 1) := by decide +kernel
theorem dX2_init_40 : decode cX2_init 40 = .ok (.putfield 32, 3) := by decide +kernel
theorem dX2_init_43 : decode cX2_init 43 = .ok (.aload_n 0, 1) := by decide +kernel
theorem dX2_init_44 : decode cX2_init 44 = .ok (.iload_n 3, 1) := by decide +kernel
theorem dX2_init_45 : decode cX2_init 45 = .ok (.putfield 36, 3) := by decide +kernel
theorem dX2_init_48 : decode cX2_init 48 = .ok (.aload_n 0, 1) := by decide +kernel
theorem dX2_init_49 : decode cX2_init 49 = .ok (.iload 4, 2) := by decide +kernel
theorem dX2_init_51 : decode cX2_init 51 = .ok (.putfield 39, 3) := by decide +kernel
theorem dX2_init_54 : decode cX2_init 54 = .ok (.aload_n 0, 1) := by decide +kernel
theorem dX2_init_55 : decode cX2_init 55 = .ok (.iload 5, 2) := by decide +kernel
theorem dX2_init_57 : decode cX2_init 57 = .ok (.putfield 42, 3) := by decide +kernel
theorem dX2_init_60 : decode cX2_init 60 = .ok (.return_, 1) := by decide +kernel
theorem dX2_comeOf_0 : decode cX2_comeOf 0 = .ok (.aload_n 0, 1) := by decide +kernel
theorem dX2_comeOf_1 : decode cX2_comeOf 1 = .ok (.iload_n 1, 1) := by decide +kernel
theorem dX2_comeOf_2 : decode cX2_comeOf 2 = .ok (.putfield 22, 3) := by decide +kernel
theorem dX2_comeOf_5 : decode cX2_comeOf 5 = .ok (.aload_n 0, 1) := by decide +kernel
theorem dX2_comeOf_6 : decode cX2_comeOf 6 = .ok (.iload_n 2, 1) := by decide +kernel
theorem dX2_comeOf_7 : decode cX2_comeOf 7 = .ok (.putfield 26, 3) := by decide +kernel
theorem dX2_comeOf_10 : decode cX2_comeOf 10 = .ok (.return_, 1) := by decide +kernel
theorem dX2_takeRows_0 : decode cX2_takeRows 0 = .ok (.iconst 0, 1) := by decide +kernel
theorem dX2_takeRows_1 : decode cX2_takeRows 1 = .ok (.istore_n 3, 1) := by decide +kernel
theorem dX2_takeRows_2 : decode cX2_takeRows 2 = .ok (.iload_n 3, 1) := by decide +kernel
theorem dX2_takeRows_3 : decode cX2_takeRows 3 = .ok (.iload_n 2, 1) := by decide +kernel
theorem dX2_takeRows_4 : decode cX2_takeRows 4 = .ok (.if_icmp .ge 36, 3) := by decide +kernel
theorem dX2_takeRows_7 : decode cX2_takeRows 7 = .ok (.iload_n 3, 1) := by decide +kernel
theorem dX2_takeRows_8 : decode cX2_takeRows 8 = .ok (.aload_n 0, 1) := by decide +kernel
theorem dX2_takeRows_9 : decode cX2_takeRows 9 = .ok (.getfield 18, 3) := by decide +kernel
theorem dX2_takeRows_12 : decode cX2_takeRows 12 = .ok (.arraylength, 1) := by decide +kernel
theorem dX2_takeRows_13 : decode cX2_takeRows 13 = .ok (.if_icmp .ge 27, 3) := by decide +kernel
theorem dX2_takeRows_16 : decode cX2_takeRows 16 = .ok (.aload_n 0, 1) := by decide +kernel
theorem dX2_takeRows_17 : decode cX2_takeRows 17 = .ok (.getfield 18, 3) := by decide +kernel
theorem dX2_takeRows_20 : decode cX2_takeRows 20 = .ok (.iload_n 3, 1) := by decide +kernel
theorem dX2_takeRows_21 : decode cX2_takeRows 21 = .ok (.aload_n 1, 1) := by decide +kernel
theorem dX2_takeRows_22 : decode cX2_takeRows 22 = .ok (.iload_n 3, 1) := by decide +kernel
theorem dX2_takeRows_23 : decode cX2_takeRows 23 = .ok (.invokevirtual 45, 3) := by decide +kernel
theorem dX2_takeRows_26 : decode cX2_takeRows 26 = .ok (.iastore, 1) := by decide +kernel
theorem dX2_takeRows_27 : decode cX2_takeRows 27 = .ok (.aload_n 0, 1) := by decide +kernel
theorem dX2_takeRows_28 : decode cX2_takeRows 28 = .ok (.iload_n 3, 1) := by decide +kernel
theorem dX2_takeRows_29 : decode cX2_takeRows 29 = .ok (.iconst 1, 1) := by decide +kernel
theorem dX2_takeRows_30 : decode cX2_takeRows 30 = .ok (.iadd, 1) := by decide +kernel
theorem dX2_takeRows_31 : decode cX2_takeRows 31 = .ok (.putfield 49, 3) := by decide +kernel
theorem dX2_takeRows_34 : decode cX2_takeRows 34 = .ok (.iinc 3 1, 3) := by decide +kernel
theorem dX2_takeRows_37 : decode cX2_takeRows 37 = .ok (.goto (-35), 3) := by decide +kernel
theorem dX2_takeRows_40 : decode cX2_takeRows 40 = .ok (.return_, 1) := by decide +kernel
theorem dX2_isFork_0 : decode cX2_isFork 0 = .ok (.aload_n 0, 1) := by decide +kernel
theorem dX2_isFork_1 : decode cX2_isFork 1 = .ok (.getfield 22, 3) := by decide +kernel
theorem dX2_isFork_4 : decode cX2_isFork 4 = .ok (.iconst (-1), 1) := by decide +kernel
theorem dX2_isFork_5 : decode cX2_isFork 5 = .ok (.if_icmp .eq 7, 3) := by decide +kernel
theorem dX2_isFork_8 : decode cX2_isFork 8 = .ok (.iconst 1, 1) := by decide +kernel
theorem dX2_isFork_9 : decode cX2_isFork 9 = .ok (.goto 4, 3) := by decide +kernel
theorem dX2_isFork_12 : decode cX2_isFork 12 = .ok (.iconst 0, 1) := by decide +kernel
theorem dX2_isFork_13 : decode cX2_isFork 13 = .ok (.ireturn, 1) := by decide +kernel
theorem dX2_rowAt_0 : decode cX2_rowAt 0 = .ok (.iload_n 1, 1) := by decide +kernel
theorem dX2_rowAt_1 : decode cX2_rowAt 1 = .ok (.ifCond .lt 29, 3) := by decide +kernel
theorem dX2_rowAt_4 : decode cX2_rowAt 4 = .ok (.iload_n 1, 1) := by decide +kernel
theorem dX2_rowAt_5 : decode cX2_rowAt 5 = .ok (.aload_n 0, 1) := by decide +kernel
theorem dX2_rowAt_6 : decode cX2_rowAt 6 = .ok (.getfield 49, 3) := by decide +kernel
theorem dX2_rowAt_9 : decode cX2_rowAt 9 = .ok (.if_icmp .ge 21, 3) := by decide +kernel
theorem dX2_rowAt_12 : decode cX2_rowAt 12 = .ok (.iload_n 1, 1) := by decide +kernel
theorem dX2_rowAt_13 : decode cX2_rowAt 13 = .ok (.aload_n 0, 1) := by decide +kernel
theorem dX2_rowAt_14 : decode cX2_rowAt 14 = .ok (.getfield 18, 3) := by decide +kernel
theorem dX2_rowAt_17 : decode cX2_rowAt 17 = .ok (.arraylength, 1) := by decide +kernel
theorem dX2_rowAt_18 : decode cX2_rowAt 18 = .ok (.if_icmp .ge 12, 3) := by decide +kernel
theorem dX2_rowAt_21 : decode cX2_rowAt 21 = .ok (.aload_n 0, 1) := by decide +kernel
theorem dX2_rowAt_22 : decode cX2_rowAt 22 = .ok (.getfield 18, 3) := by decide +kernel
theorem dX2_rowAt_25 : decode cX2_rowAt 25 = .ok (.iload_n 1, 1) := by decide +kernel
theorem dX2_rowAt_26 : decode cX2_rowAt 26 = .ok (.iaload, 1) := by decide +kernel
theorem dX2_rowAt_27 : decode cX2_rowAt 27 = .ok (.goto 4, 3) := by decide +kernel
theorem dX2_rowAt_30 : decode cX2_rowAt 30 = .ok (.iconst (-1), 1) := by decide +kernel
theorem dX2_rowAt_31 : decode cX2_rowAt 31 = .ok (.ireturn, 1) := by decide +kernel
theorem dX2_lastRow_0 : decode cX2_lastRow 0 = .ok (.aload_n 0, 1) := by decide +kernel
theorem dX2_lastRow_1 : decode cX2_lastRow 1 = .ok (.getfield 49, 3) := by decide +kernel
theorem dX2_lastRow_4 : decode cX2_lastRow 4 = .ok (.ifCond .ne 7, 3) := by decide +kernel
theorem dX2_lastRow_7 : decode cX2_lastRow 7 = .ok (.iconst 0, 1) := by decide +kernel
theorem dX2_lastRow_8 : decode cX2_lastRow 8 = .ok (.goto 13, 3) := by decide +kernel
theorem dX2_lastRow_11 : decode cX2_lastRow 11 = .ok (.aload_n 0, 1) := by decide +kernel
theorem dX2_lastRow_12 : decode cX2_lastRow 12 = .ok (.aload_n 0, 1) := by decide +kernel
theorem dX2_lastRow_13 : decode cX2_lastRow 13 = .ok (.getfield 49, 3) := by decide +kernel
theorem dX2_lastRow_16 : decode cX2_lastRow 16 = .ok (.iconst 1, 1) := by decide +kernel
theorem dX2_lastRow_17 : decode cX2_lastRow 17 = .ok (.isub, 1) := by decide +kernel
theorem dX2_lastRow_18 : decode cX2_lastRow 18 = .ok (.invokevirtual 45, 3) := by decide +kernel
theorem dX2_lastRow_21 : decode cX2_lastRow 21 = .ok (.ireturn, 1) := by decide +kernel
theorem dX2_doTicks_0 : decode cX2_doTicks 0 = .ok (.aload_n 0, 1) := by decide +kernel
theorem dX2_doTicks_1 : decode cX2_doTicks 1 = .ok (.invokevirtual 52, 3) := by decide +kernel
theorem dX2_doTicks_4 : decode cX2_doTicks 4 = .ok (.istore_n 2, 1) := by decide +kernel
theorem dX2_doTicks_5 : decode cX2_doTicks 5 = .ok (.aload_n 0, 1) := by decide +kernel
theorem dX2_doTicks_6 : decode cX2_doTicks 6 = .ok (.getfield 49, 3) := by decide +kernel
theorem dX2_doTicks_9 : decode cX2_doTicks 9 = .ok (.istore_n 3, 1) := by decide +kernel
theorem dX2_doTicks_10 : decode cX2_doTicks 10 = .ok (.iload_n 3, 1) := by decide +kernel
theorem dX2_doTicks_11 : decode cX2_doTicks 11 = .ok (.aload_n 0, 1) := by decide +kernel
theorem dX2_doTicks_12 : decode cX2_doTicks 12 = .ok (.getfield 42, 3) := by decide +kernel
theorem dX2_doTicks_15 : decode cX2_doTicks 15 = .ok (.if_icmp .ge 48, 3) := by decide +kernel
theorem dX2_doTicks_18 : decode cX2_doTicks 18 = .ok (.iload_n 3, 1) := by decide +kernel
theorem dX2_doTicks_19 : decode cX2_doTicks 19 = .ok (.aload_n 0, 1) := by decide +kernel
theorem dX2_doTicks_20 : decode cX2_doTicks 20 = .ok (.getfield 18, 3) := by decide +kernel
theorem dX2_doTicks_23 : decode cX2_doTicks 23 = .ok (.arraylength, 1) := by decide +kernel
theorem dX2_doTicks_24 : decode cX2_doTicks 24 = .ok (.if_icmp .ge 39, 3) := by decide +kernel
theorem dX2_doTicks_27 : decode cX2_doTicks 27 = .ok (.aload_n 0, 1) := by decide +kernel
theorem dX2_doTicks_28 : decode cX2_doTicks 28 = .ok (.iload_n 2, 1) := by decide +kernel
theorem dX2_doTicks_29 : decode cX2_doTicks 29 = .ok (.iload_n 3, 1) := by decide +kernel
theorem dX2_doTicks_30 : decode cX2_doTicks 30 = .ok (.aload_n 1, 1) := by decide +kernel
theorem dX2_doTicks_31 : decode cX2_doTicks 31 = .ok (.invokevirtual 56, 3) := by decide +kernel
theorem dX2_doTicks_34 : decode cX2_doTicks 34 = .ok (.istore_n 2, 1) := by decide +kernel
theorem dX2_doTicks_35 : decode cX2_doTicks 35 = .ok (.aload_n 0, 1) := by decide +kernel
theorem dX2_doTicks_36 : decode cX2_doTicks 36 = .ok (.getfield 60, 3) := by decide +kernel
theorem dX2_doTicks_39 : decode cX2_doTicks 39 = .ok (.ifCond .eq 4, 3) := by decide +kernel
theorem dX2_doTicks_42 : decode cX2_doTicks 42 = .ok (.return_, 1) := by decide +kernel
theorem dX2_doTicks_43 : decode cX2_doTicks 43 = .ok (.aload_n 0, 1) := by decide +kernel
theorem dX2_doTicks_44 : decode cX2_doTicks 44 = .ok (.getfield 18, 3) := by decide +kernel
theorem dX2_doTicks_47 : decode cX2_doTicks 47 = .ok (.iload_n 3, 1) := by decide +kernel
theorem dX2_doTicks_48 : decode cX2_doTicks 48 = .ok (.iload_n 2, 1) := by decide +kernel
theorem dX2_doTicks_49 : decode cX2_doTicks 49 = .ok (.iastore, 1) := by decide +kernel
theorem dX2_doTicks_50 : decode cX2_doTicks 50 = .ok (.aload_n 0, 1) := by decide +kernel
theorem dX2_doTicks_51 : decode cX2_doTicks 51 = .ok (.iload_n 3, 1) := by decide +kernel
theorem dX2_doTicks_52 : decode cX2_doTicks 52 = .ok (.iconst 1, 1) := by decide +kernel
theorem dX2_doTicks_53 : decode cX2_doTicks 53 = .ok (.iadd, 1) := by decide +kernel
theorem dX2_doTicks_54 : decode cX2_doTicks 54 = .ok (.putfield 49, 3) := by decide +kernel
theorem dX2_doTicks_57 : decode cX2_doTicks 57 = .ok (.iinc 3 1, 3) := by decide +kernel
theorem dX2_doTicks_60 : decode cX2_doTicks 60 = .ok (.goto (-50), 3) := by decide +kernel
theorem dX2_doTicks_63 : decode cX2_doTicks 63 = .ok (.return_, 1) := by decide +kernel
theorem dX2_afterTick_0 : decode cX2_afterTick 0 = .ok (.iload_n 1, 1) := by decide +kernel
theorem dX2_afterTick_1 : decode cX2_afterTick 1 = .ok (.istore 4, 2) := by decide +kernel
theorem dX2_afterTick_3 : decode cX2_afterTick 3 = .ok (.iconst 0, 1) := by decide +kernel
theorem dX2_afterTick_4 : decode cX2_afterTick 4 = .ok (.istore 5, 2) := by decide +kernel
theorem dX2_afterTick_6 : decode cX2_afterTick 6 = .ok (.iload 5, 2) := by decide +kernel
theorem dX2_afterTick_8 : decode cX2_afterTick 8 = .ok (.aload_n 0, 1) := by decide +kernel
theorem dX2_afterTick_9 : decode cX2_afterTick 9 = .ok (.getfield 32, 3) := by decide +kernel
theorem dX2_afterTick_12 : decode cX2_afterTick 12 = .ok (.getfield 64, 3) := by decide +kernel
theorem dX2_afterTick_15 : decode cX2_afterTick 15 = .ok (.if_icmp .ge 110, 3) := by decide +kernel
theorem dX2_afterTick_18 : decode cX2_afterTick 18 = .ok (.aload_n 0, 1) := by decide +kernel
theorem dX2_afterTick_19 : decode cX2_afterTick 19 = .ok (.getfield 60, 3) := by decide +kernel
theorem dX2_afterTick_22 : decode cX2_afterTick 22 = .ok (.ifCond .ne 103, 3) := by decide +kernel
theorem dX2_afterTick_25 : decode cX2_afterTick 25 = .ok (.aload_n 0, 1) := by decide +kernel
theorem dX2_afterTick_26 : decode cX2_afterTick 26 = .ok (.getfield 32, 3) := by decide +kernel
theorem dX2_afterTick_29 : decode cX2_afterTick 29 = .ok (.iload 5, 2) := by decide +kernel
theorem dX2_afterTick_31 : decode cX2_afterTick 31 = .ok (.invokevirtual 69, 3) := by decide +kernel
theorem dX2_afterTick_34 : decode cX2_afterTick 34 = .ok (.istore 6, 2) := by decide +kernel
theorem dX2_afterTick_36 : decode cX2_afterTick 36 = .ok (.iload 6, 2) := by decide +kernel
theorem dX2_afterTick_38 : decode cX2_afterTick 38 = .ok (.iconst 4, 1) := by decide +kernel
theorem dX2_afterTick_39 : decode cX2_afterTick 39 = .ok (.ishr, 1) := by decide +kernel
theorem dX2_afterTick_40 : decode cX2_afterTick 40 = .ok (.istore 7, 2) := by decide +kernel
theorem dX2_afterTick_42 : decode cX2_afterTick 42 = .ok (.iload 6, 2) := by decide +kernel
theorem dX2_afterTick_44 : decode cX2_afterTick 44 = .ok (.bipush 15, 2) := by decide +kernel
theorem dX2_afterTick_46 : decode cX2_afterTick 46 = .ok (.iand, 1) := by decide +kernel
theorem dX2_afterTick_47 : decode cX2_afterTick 47 = .ok (.istore 8, 2) := by decide +kernel
theorem dX2_afterTick_49 : decode cX2_afterTick 49 = .ok (.iload 7, 2) := by decide +kernel
theorem dX2_afterTick_51 : decode cX2_afterTick 51 = .ok (.iconst 3, 1) := by decide +kernel
theorem dX2_afterTick_52 : decode cX2_afterTick 52 = .ok (.if_icmp .ne 22, 3) := by decide +kernel
theorem dX2_afterTick_55 : decode cX2_afterTick 55 = .ok (.aload_n 0, 1) := by decide +kernel
theorem dX2_afterTick_56 : decode cX2_afterTick 56 = .ok (.iload 8, 2) := by decide +kernel
theorem dX2_afterTick_58 : decode cX2_afterTick 58 = .ok (.invokevirtual 72, 3) := by decide +kernel
theorem dX2_afterTick_61 : decode cX2_afterTick 61 = .ok (.iload 8, 2) := by decide +kernel
theorem dX2_afterTick_63 : decode cX2_afterTick 63 = .ok (.iconst 4, 1) := by decide +kernel
theorem dX2_afterTick_64 : decode cX2_afterTick 64 = .ok (.idiv, 1) := by decide +kernel
theorem dX2_afterTick_65 : decode cX2_afterTick 65 = .ok (.if_icmp .le 54, 3) := by decide +kernel
theorem dX2_afterTick_68 : decode cX2_afterTick 68 = .ok (.iinc 5 1, 3) := by decide +kernel
theorem dX2_afterTick_71 : decode cX2_afterTick 71 = .ok (.goto 48, 3) := by decide +kernel
theorem dX2_afterTick_74 : decode cX2_afterTick 74 = .ok (.iload 7, 2) := by decide +kernel
theorem dX2_afterTick_76 : decode cX2_afterTick 76 = .ok (.bipush 9, 2) := by decide +kernel
theorem dX2_afterTick_78 : decode cX2_afterTick 78 = .ok (.if_icmp .ne 27, 3) := by decide +kernel
theorem dX2_afterTick_81 : decode cX2_afterTick 81 = .ok (.aload_n 0, 1) := by decide +kernel
theorem dX2_afterTick_82 : decode cX2_afterTick 82 = .ok (.iload 4, 2) := by decide +kernel
theorem dX2_afterTick_84 : decode cX2_afterTick 84 = .ok (.iload 8, 2) := by decide +kernel
theorem dX2_afterTick_86 : decode cX2_afterTick 86 = .ok (.iconst 1, 1) := by decide +kernel
theorem dX2_afterTick_87 : decode cX2_afterTick 87 = .ok (.iadd, 1) := by decide +kernel
theorem dX2_afterTick_88 : decode cX2_afterTick 88 = .ok (.invokestatic 75, 3) := by decide +kernel
theorem dX2_afterTick_91 : decode cX2_afterTick 91 = .ok (.ifCond .ne 7, 3) := by decide +kernel
theorem dX2_afterTick_94 : decode cX2_afterTick 94 = .ok (.iconst 1, 1) := by decide +kernel
theorem dX2_afterTick_95 : decode cX2_afterTick 95 = .ok (.goto 4, 3) := by decide +kernel
theorem dX2_afterTick_98 : decode cX2_afterTick 98 = .ok (.iconst 0, 1) := by decide +kernel
theorem dX2_afterTick_99 : decode cX2_afterTick 99 = .ok (.putfield 60, 3) := by decide +kernel
theorem dX2_afterTick_102 : decode cX2_afterTick 102 = .ok (.goto 17, 3) := by decide +kernel
theorem dX2_afterTick_105 : decode cX2_afterTick 105 = .ok (.aload_n 0, 1) := by decide +kernel
theorem dX2_afterTick_106 : decode cX2_afterTick 106 = .ok (.iload 4, 2) := by decide +kernel
theorem dX2_afterTick_108 : decode cX2_afterTick 108 = .ok (.iload 7, 2) := by decide +kernel
theorem dX2_afterTick_110 : decode cX2_afterTick 110 = .ok (.iload 8, 2) := by decide +kernel
theorem dX2_afterTick_112 : decode cX2_afterTick 112 = .ok (.iload_n 2, 1) := by decide +kernel
theorem dX2_afterTick_113 : decode cX2_afterTick 113 = .ok (.aload_n 3, 1) := by decide +kernel
theorem dX2_afterTick_114 : decode cX2_afterTick 114 = .ok (.invokevirtual 79, 3) := by decide +kernel
theorem dX2_afterTick_117 : decode cX2_afterTick 117 = .ok (.istore 4, 2) := by decide +kernel
theorem dX2_afterTick_119 : decode cX2_afterTick 119 = .ok (.iinc 5 1, 3) := by decide +kernel
theorem dX2_afterTick_122 : decode cX2_afterTick 122 = .ok (.goto (-116), 3) := by decide +kernel
theorem dX2_afterTick_125 : decode cX2_afterTick 125 = .ok (.iload 4, 2) := by decide +kernel
theorem dX2_afterTick_127 : decode cX2_afterTick 127 = .ok (.ireturn, 1) := by decide +kernel
theorem dX2_afterStep_0 : decode cX2_afterStep 0 = .ok (.iload_n 2, 1) := by decide +kernel
theorem dX2_afterStep_1 : decode cX2_afterStep 1 = .ok (.tableswitch 122 0 8 #[51, 55, 59, 122, 67, 78, 94, 103, 114], 51) := by decide +kernel
theorem dX2_afterStep_52 : decode cX2_afterStep 52 = .ok (.iload_n 1, 1) := by decide +kernel
theorem dX2_afterStep_53 : decode cX2_afterStep 53 = .ok (.iload_n 3, 1) := by decide +kernel
theorem dX2_afterStep_54 : decode cX2_afterStep 54 = .ok (.iadd, 1) := by decide +kernel
theorem dX2_afterStep_55 : decode cX2_afterStep 55 = .ok (.ireturn, 1) := by decide +kernel
theorem dX2_afterStep_56 : decode cX2_afterStep 56 = .ok (.iload_n 1, 1) := by decide +kernel
theorem dX2_afterStep_57 : decode cX2_afterStep 57 = .ok (.iload_n 3, 1) := by decide +kernel
theorem dX2_afterStep_58 : decode cX2_afterStep 58 = .ok (.imul, 1) := by decide +kernel
theorem dX2_afterStep_59 : decode cX2_afterStep 59 = .ok (.ireturn, 1) := by decide +kernel
theorem dX2_afterStep_60 : decode cX2_afterStep 60 = .ok (.iload_n 1, 1) := by decide +kernel
theorem dX2_afterStep_61 : decode cX2_afterStep 61 = .ok (.aload_n 0, 1) := by decide +kernel
theorem dX2_afterStep_62 : decode cX2_afterStep 62 = .ok (.iload_n 3, 1) := by decide +kernel
theorem dX2_afterStep_63 : decode cX2_afterStep 63 = .ok (.invokevirtual 72, 3) := by decide +kernel
theorem dX2_afterStep_66 : decode cX2_afterStep 66 = .ok (.iadd, 1) := by decide +kernel
theorem dX2_afterStep_67 : decode cX2_afterStep 67 = .ok (.ireturn, 1) := by decide +kernel
theorem dX2_afterStep_68 : decode cX2_afterStep 68 = .ok (.iload_n 1, 1) := by decide +kernel
theorem dX2_afterStep_69 : decode cX2_afterStep 69 = .ok (.aload_n 0, 1) := by decide +kernel
theorem dX2_afterStep_70 : decode cX2_afterStep 70 = .ok (.invokevirtual 83, 3) := by decide +kernel
theorem dX2_afterStep_73 : decode cX2_afterStep 73 = .ok (.iload_n 3, 1) := by decide +kernel
theorem dX2_afterStep_74 : decode cX2_afterStep 74 = .ok (.iconst 1, 1) := by decide +kernel
theorem dX2_afterStep_75 : decode cX2_afterStep 75 = .ok (.iadd, 1) := by decide +kernel
theorem dX2_afterStep_76 : decode cX2_afterStep 76 = .ok (.imul, 1) := by decide +kernel
theorem dX2_afterStep_77 : decode cX2_afterStep 77 = .ok (.ixor, 1) := by decide +kernel
theorem dX2_afterStep_78 : decode cX2_afterStep 78 = .ok (.ireturn, 1) := by decide +kernel
theorem dX2_afterStep_79 : decode cX2_afterStep 79 = .ok (.iload_n 1, 1) := by decide +kernel
theorem dX2_afterStep_80 : decode cX2_afterStep 80 = .ok (.aload_n 0, 1) := by decide +kernel
theorem dX2_afterStep_81 : decode cX2_afterStep 81 = .ok (.iload 4, 2) := by decide +kernel
theorem dX2_afterStep_83 : decode cX2_afterStep 83 = .ok (.iload_n 3, 1) := by decide +kernel
theorem dX2_afterStep_84 : decode cX2_afterStep 84 = .ok (.iadd, 1) := by decide +kernel
theorem dX2_afterStep_85 : decode cX2_afterStep 85 = .ok (.bipush 8, 2) := by decide +kernel
theorem dX2_afterStep_87 : decode cX2_afterStep 87 = .ok (.irem, 1) := by decide +kernel
theorem dX2_afterStep_88 : decode cX2_afterStep 88 = .ok (.aload 5, 2) := by decide +kernel
theorem dX2_afterStep_90 : decode cX2_afterStep 90 = .ok (.invokevirtual 86, 3) := by decide +kernel
theorem dX2_afterStep_93 : decode cX2_afterStep 93 = .ok (.iadd, 1) := by decide +kernel
theorem dX2_afterStep_94 : decode cX2_afterStep 94 = .ok (.ireturn, 1) := by decide +kernel
theorem dX2_afterStep_95 : decode cX2_afterStep 95 = .ok (.iload_n 1, 1) := by decide +kernel
theorem dX2_afterStep_96 : decode cX2_afterStep 96 = .ok (.aload_n 0, 1) := by decide +kernel
theorem dX2_afterStep_97 : decode cX2_afterStep 97 = .ok (.aload 5, 2) := by decide +kernel
theorem dX2_afterStep_99 : decode cX2_afterStep 99 = .ok (.invokevirtual 90, 3) := by decide +kernel
theorem dX2_afterStep_102 : decode cX2_afterStep 102 = .ok (.iadd, 1) := by decide +kernel
theorem dX2_afterStep_103 : decode cX2_afterStep 103 = .ok (.ireturn, 1) := by decide +kernel
theorem dX2_afterStep_104 : decode cX2_afterStep 104 = .ok (.iload_n 1, 1) := by decide +kernel
theorem dX2_afterStep_105 : decode cX2_afterStep 105 = .ok (.iload_n 3, 1) := by decide +kernel
theorem dX2_afterStep_106 : decode cX2_afterStep 106 = .ok (.ishl, 1) := by decide +kernel
theorem dX2_afterStep_107 : decode cX2_afterStep 107 = .ok (.iload_n 1, 1) := by decide +kernel
theorem dX2_afterStep_108 : decode cX2_afterStep 108 = .ok (.bipush 32, 2) := by decide +kernel
theorem dX2_afterStep_110 : decode cX2_afterStep 110 = .ok (.iload_n 3, 1) := by decide +kernel
theorem dX2_afterStep_111 : decode cX2_afterStep 111 = .ok (.isub, 1) := by decide +kernel
theorem dX2_afterStep_112 : decode cX2_afterStep 112 = .ok (.iushr, 1) := by decide +kernel
theorem dX2_afterStep_113 : decode cX2_afterStep 113 = .ok (.ior, 1) := by decide +kernel
theorem dX2_afterStep_114 : decode cX2_afterStep 114 = .ok (.ireturn, 1) := by decide +kernel
theorem dX2_afterStep_115 : decode cX2_afterStep 115 = .ok (.iload_n 1, 1) := by decide +kernel
theorem dX2_afterStep_116 : decode cX2_afterStep 116 = .ok (.iload_n 3, 1) := by decide +kernel
theorem dX2_afterStep_117 : decode cX2_afterStep 117 = .ok (.iconst 2, 1) := by decide +kernel
theorem dX2_afterStep_118 : decode cX2_afterStep 118 = .ok (.iadd, 1) := by decide +kernel
theorem dX2_afterStep_119 : decode cX2_afterStep 119 = .ok (.invokestatic 75, 3) := by decide +kernel
theorem dX2_afterStep_122 : decode cX2_afterStep 122 = .ok (.ireturn, 1) := by decide +kernel
theorem dX2_afterStep_123 : decode cX2_afterStep 123 = .ok (.iload_n 1, 1) := by decide +kernel
theorem dX2_afterStep_124 : decode cX2_afterStep 124 = .ok (.ireturn, 1) := by decide +kernel
theorem dX2_readSetting_0 : decode cX2_readSetting 0 = .ok (.iload_n 1, 1) := by decide +kernel
theorem dX2_readSetting_1 : decode cX2_readSetting 1 = .ok (.iconst 4, 1) := by decide +kernel
theorem dX2_readSetting_2 : decode cX2_readSetting 2 = .ok (.irem, 1) := by decide +kernel
theorem dX2_readSetting_3 : decode cX2_readSetting 3 = .ok (.istore_n 2, 1) := by decide +kernel
theorem dX2_readSetting_4 : decode cX2_readSetting 4 = .ok (.aload_n 0, 1) := by decide +kernel
theorem dX2_readSetting_5 : decode cX2_readSetting 5 = .ok (.getfield 12, 3) := by decide +kernel
theorem dX2_readSetting_8 : decode cX2_readSetting 8 = .ok (.dup, 1) := by decide +kernel
theorem dX2_readSetting_9 : decode cX2_readSetting 9 = .ok (.getfield 94, 3) := by decide +kernel
theorem dX2_readSetting_12 : decode cX2_readSetting 12 = .ok (.iconst 1, 1) := by decide +kernel
theorem dX2_readSetting_13 : decode cX2_readSetting 13 = .ok (.iload_n 2, 1) := by decide +kernel
theorem dX2_readSetting_14 : decode cX2_readSetting 14 = .ok (.ishl, 1) := by decide +kernel
theorem dX2_readSetting_15 : decode cX2_readSetting 15 = .ok (.ior, 1) := by decide +kernel
theorem dX2_readSetting_16 : decode cX2_readSetting 16 = .ok (.putfield 94, 3) := by decide +kernel
theorem dX2_readSetting_19 : decode cX2_readSetting 19 = .ok (.aload_n 0, 1) := by decide +kernel
theorem dX2_readSetting_20 : decode cX2_readSetting 20 = .ok (.getfield 36, 3) := by decide +kernel
theorem dX2_readSetting_23 : decode cX2_readSetting 23 = .ok (.iload_n 2, 1) := by decide +kernel
theorem dX2_readSetting_24 : decode cX2_readSetting 24 = .ok (.invokestatic 95, 3) := by decide +kernel
theorem dX2_readSetting_27 : decode cX2_readSetting 27 = .ok (.ireturn, 1) := by decide +kernel
theorem dX2_readSeed_0 : decode cX2_readSeed 0 = .ok (.aload_n 0, 1) := by decide +kernel
theorem dX2_readSeed_1 : decode cX2_readSeed 1 = .ok (.getfield 12, 3) := by decide +kernel
theorem dX2_readSeed_4 : decode cX2_readSeed 4 = .ok (.iconst 1, 1) := by decide +kernel
theorem dX2_readSeed_5 : decode cX2_readSeed 5 = .ok (.putfield 98, 3) := by decide +kernel
theorem dX2_readSeed_8 : decode cX2_readSeed 8 = .ok (.aload_n 0, 1) := by decide +kernel
theorem dX2_readSeed_9 : decode cX2_readSeed 9 = .ok (.getfield 39, 3) := by decide +kernel
theorem dX2_readSeed_12 : decode cX2_readSeed 12 = .ok (.ireturn, 1) := by decide +kernel
theorem dX2_readWord_0 : decode cX2_readWord 0 = .ok (.aload_n 2, 1) := by decide +kernel
theorem dX2_readWord_1 : decode cX2_readWord 1 = .ok (.iload_n 1, 1) := by decide +kernel
theorem dX2_readWord_2 : decode cX2_readWord 2 = .ok (.invokevirtual 100, 3) := by decide +kernel
theorem dX2_readWord_5 : decode cX2_readWord 5 = .ok (.istore_n 3, 1) := by decide +kernel
theorem dX2_readWord_6 : decode cX2_readWord 6 = .ok (.aload_n 0, 1) := by decide +kernel
theorem dX2_readWord_7 : decode cX2_readWord 7 = .ok (.getfield 12, 3) := by decide +kernel
theorem dX2_readWord_10 : decode cX2_readWord 10 = .ok (.iload_n 1, 1) := by decide +kernel
theorem dX2_readWord_11 : decode cX2_readWord 11 = .ok (.iload_n 3, 1) := by decide +kernel
theorem dX2_readWord_12 : decode cX2_readWord 12 = .ok (.invokevirtual 105, 3) := by decide +kernel
theorem dX2_readWord_15 : decode cX2_readWord 15 = .ok (.iload_n 3, 1) := by decide +kernel
theorem dX2_readWord_16 : decode cX2_readWord 16 = .ok (.ireturn, 1) := by decide +kernel
theorem dX2_readClock_0 : decode cX2_readClock 0 = .ok (.aload_n 0, 1) := by decide +kernel
theorem dX2_readClock_1 : decode cX2_readClock 1 = .ok (.getfield 12, 3) := by decide +kernel
theorem dX2_readClock_4 : decode cX2_readClock 4 = .ok (.iconst 1, 1) := by decide +kernel
theorem dX2_readClock_5 : decode cX2_readClock 5 = .ok (.putfield 109, 3) := by decide +kernel
theorem dX2_readClock_8 : decode cX2_readClock 8 = .ok (.aload_n 1, 1) := by decide +kernel
theorem dX2_readClock_9 : decode cX2_readClock 9 = .ok (.getfield 112, 3) := by decide +kernel
theorem dX2_readClock_12 : decode cX2_readClock 12 = .ok (.ireturn, 1) := by decide +kernel
theorem dX2_firstOtherTick_0 : decode cX2_firstOtherTick 0 = .ok (.aload_n 0, 1) := by decide +kernel
theorem dX2_firstOtherTick_1 : decode cX2_firstOtherTick 1 = .ok (.getfield 49, 3) := by decide +kernel
theorem dX2_firstOtherTick_4 : decode cX2_firstOtherTick 4 = .ok (.aload_n 1, 1) := by decide +kernel
theorem dX2_firstOtherTick_5 : decode cX2_firstOtherTick 5 = .ok (.getfield 49, 3) := by decide +kernel
theorem dX2_firstOtherTick_8 : decode cX2_firstOtherTick 8 = .ok (.invokestatic 114, 3) := by decide +kernel
theorem dX2_firstOtherTick_11 : decode cX2_firstOtherTick 11 = .ok (.istore_n 2, 1) := by decide +kernel
theorem dX2_firstOtherTick_12 : decode cX2_firstOtherTick 12 = .ok (.iconst 0, 1) := by decide +kernel
theorem dX2_firstOtherTick_13 : decode cX2_firstOtherTick 13 = .ok (.istore_n 3, 1) := by decide +kernel
theorem dX2_firstOtherTick_14 : decode cX2_firstOtherTick 14 = .ok (.iload_n 3, 1) := by decide +kernel
theorem dX2_firstOtherTick_15 : decode cX2_firstOtherTick 15 = .ok (.iload_n 2, 1) := by decide +kernel
theorem dX2_firstOtherTick_16 : decode cX2_firstOtherTick 16 = .ok (.if_icmp .ge 24, 3) := by decide +kernel
theorem dX2_firstOtherTick_19 : decode cX2_firstOtherTick 19 = .ok (.aload_n 0, 1) := by decide +kernel
theorem dX2_firstOtherTick_20 : decode cX2_firstOtherTick 20 = .ok (.iload_n 3, 1) := by decide +kernel
theorem dX2_firstOtherTick_21 : decode cX2_firstOtherTick 21 = .ok (.invokevirtual 45, 3) := by decide +kernel
theorem dX2_firstOtherTick_24 : decode cX2_firstOtherTick 24 = .ok (.aload_n 1, 1) := by decide +kernel
theorem dX2_firstOtherTick_25 : decode cX2_firstOtherTick 25 = .ok (.iload_n 3, 1) := by decide +kernel
theorem dX2_firstOtherTick_26 : decode cX2_firstOtherTick 26 = .ok (.invokevirtual 45, 3) := by decide +kernel
theorem dX2_firstOtherTick_29 : decode cX2_firstOtherTick 29 = .ok (.if_icmp .eq 5, 3) := by decide +kernel
theorem dX2_firstOtherTick_32 : decode cX2_firstOtherTick 32 = .ok (.iload_n 3, 1) := by decide +kernel
theorem dX2_firstOtherTick_33 : decode cX2_firstOtherTick 33 = .ok (.ireturn, 1) := by decide +kernel
theorem dX2_firstOtherTick_34 : decode cX2_firstOtherTick 34 = .ok (.iinc 3 1, 3) := by decide +kernel
theorem dX2_firstOtherTick_37 : decode cX2_firstOtherTick 37 = .ok (.goto (-23), 3) := by decide +kernel
theorem dX2_firstOtherTick_40 : decode cX2_firstOtherTick 40 = .ok (.aload_n 0, 1) := by decide +kernel
theorem dX2_firstOtherTick_41 : decode cX2_firstOtherTick 41 = .ok (.getfield 49, 3) := by decide +kernel
theorem dX2_firstOtherTick_44 : decode cX2_firstOtherTick 44 = .ok (.aload_n 1, 1) := by decide +kernel
theorem dX2_firstOtherTick_45 : decode cX2_firstOtherTick 45 = .ok (.getfield 49, 3) := by decide +kernel
theorem dX2_firstOtherTick_48 : decode cX2_firstOtherTick 48 = .ok (.if_icmp .ne 10, 3) := by decide +kernel
theorem dX2_firstOtherTick_51 : decode cX2_firstOtherTick 51 = .ok (.aload_n 0, 1) := by decide +kernel
theorem dX2_firstOtherTick_52 : decode cX2_firstOtherTick 52 = .ok (.getfield 42, 3) := by decide +kernel
theorem dX2_firstOtherTick_55 : decode cX2_firstOtherTick 55 = .ok (.goto 4, 3) := by decide +kernel
theorem dX2_firstOtherTick_58 : decode cX2_firstOtherTick 58 = .ok (.iload_n 2, 1) := by decide +kernel
theorem dX2_firstOtherTick_59 : decode cX2_firstOtherTick 59 = .ok (.ireturn, 1) := by decide +kernel
theorem dX2_isComparable_0 : decode cX2_isComparable 0 = .ok (.aload_n 0, 1) := by decide +kernel
theorem dX2_isComparable_1 : decode cX2_isComparable 1 = .ok (.invokevirtual 119, 3) := by decide +kernel
theorem dX2_isComparable_4 : decode cX2_isComparable 4 = .ok (.ifCond .ne 24, 3) := by decide +kernel
theorem dX2_isComparable_7 : decode cX2_isComparable 7 = .ok (.aload_n 0, 1) := by decide +kernel
theorem dX2_isComparable_8 : decode cX2_isComparable 8 = .ok (.getfield 60, 3) := by decide +kernel
theorem dX2_isComparable_11 : decode cX2_isComparable 11 = .ok (.ifCond .ne 17, 3) := by decide +kernel
theorem dX2_isComparable_14 : decode cX2_isComparable 14 = .ok (.aload_n 0, 1) := by decide +kernel
theorem dX2_isComparable_15 : decode cX2_isComparable 15 = .ok (.getfield 12, 3) := by decide +kernel
theorem dX2_isComparable_18 : decode cX2_isComparable 18 = .ok (.getfield 109, 3) := by decide +kernel
theorem dX2_isComparable_21 : decode cX2_isComparable 21 = .ok (.ifCond .ne 7, 3) := by decide +kernel
theorem dX2_isComparable_24 : decode cX2_isComparable 24 = .ok (.iconst 1, 1) := by decide +kernel
theorem dX2_isComparable_25 : decode cX2_isComparable 25 = .ok (.goto 4, 3) := by decide +kernel
theorem dX2_isComparable_28 : decode cX2_isComparable 28 = .ok (.iconst 0, 1) := by decide +kernel
theorem dX2_isComparable_29 : decode cX2_isComparable 29 = .ok (.ireturn, 1) := by decide +kernel
theorem dX2_isLike_0 : decode cX2_isLike 0 = .ok (.aload_n 0, 1) := by decide +kernel
theorem dX2_isLike_1 : decode cX2_isLike 1 = .ok (.getfield 32, 3) := by decide +kernel
theorem dX2_isLike_4 : decode cX2_isLike 4 = .ok (.aload_n 1, 1) := by decide +kernel
theorem dX2_isLike_5 : decode cX2_isLike 5 = .ok (.getfield 32, 3) := by decide +kernel
theorem dX2_isLike_8 : decode cX2_isLike 8 = .ok (.invokevirtual 123, 3) := by decide +kernel
theorem dX2_isLike_11 : decode cX2_isLike 11 = .ok (.ifCond .eq 71, 3) := by decide +kernel
theorem dX2_isLike_14 : decode cX2_isLike 14 = .ok (.aload_n 0, 1) := by decide +kernel
theorem dX2_isLike_15 : decode cX2_isLike 15 = .ok (.getfield 36, 3) := by decide +kernel
theorem dX2_isLike_18 : decode cX2_isLike 18 = .ok (.aload_n 1, 1) := by decide +kernel
theorem dX2_isLike_19 : decode cX2_isLike 19 = .ok (.getfield 36, 3) := by decide +kernel
theorem dX2_isLike_22 : decode cX2_isLike 22 = .ok (.if_icmp .ne 60, 3) := by decide +kernel
theorem dX2_isLike_25 : decode cX2_isLike 25 = .ok (.aload_n 0, 1) := by decide +kernel
theorem dX2_isLike_26 : decode cX2_isLike 26 = .ok (.getfield 39, 3) := by decide +kernel
theorem dX2_isLike_29 : decode cX2_isLike 29 = .ok (.aload_n 1, 1) := by decide +kernel
theorem dX2_isLike_30 : decode cX2_isLike 30 = .ok (.getfield 39, 3) := by decide +kernel
theorem dX2_isLike_33 : decode cX2_isLike 33 = .ok (.if_icmp .ne 49, 3) := by decide +kernel
theorem dX2_isLike_36 : decode cX2_isLike 36 = .ok (.aload_n 0, 1) := by decide +kernel
theorem dX2_isLike_37 : decode cX2_isLike 37 = .ok (.getfield 42, 3) := by decide +kernel
theorem dX2_isLike_40 : decode cX2_isLike 40 = .ok (.aload_n 1, 1) := by decide +kernel
theorem dX2_isLike_41 : decode cX2_isLike 41 = .ok (.getfield 42, 3) := by decide +kernel
theorem dX2_isLike_44 : decode cX2_isLike 44 = .ok (.if_icmp .ne 38, 3) := by decide +kernel
theorem dX2_isLike_47 : decode cX2_isLike 47 = .ok (.aload_n 0, 1) := by decide +kernel
theorem dX2_isLike_48 : decode cX2_isLike 48 = .ok (.getfield 12, 3) := by decide +kernel
theorem dX2_isLike_51 : decode cX2_isLike 51 = .ok (.getfield 127, 3) := by decide +kernel
theorem dX2_isLike_54 : decode cX2_isLike 54 = .ok (.aload_n 1, 1) := by decide +kernel
theorem dX2_isLike_55 : decode cX2_isLike 55 = .ok (.getfield 12, 3) := by decide +kernel
theorem dX2_isLike_58 : decode cX2_isLike 58 = .ok (.getfield 127, 3) := by decide +kernel
theorem dX2_isLike_61 : decode cX2_isLike 61 = .ok (.if_icmp .ne 21, 3) := by decide +kernel
theorem dX2_isLike_64 : decode cX2_isLike 64 = .ok (.aload_n 0, 1) := by decide +kernel
theorem dX2_isLike_65 : decode cX2_isLike 65 = .ok (.getfield 12, 3) := by decide +kernel
theorem dX2_isLike_68 : decode cX2_isLike 68 = .ok (.aload_n 1, 1) := by decide +kernel
theorem dX2_isLike_69 : decode cX2_isLike 69 = .ok (.getfield 12, 3) := by decide +kernel
theorem dX2_isLike_72 : decode cX2_isLike 72 = .ok (.invokevirtual 130, 3) := by decide +kernel
theorem dX2_isLike_75 : decode cX2_isLike 75 = .ok (.ifCond .eq 7, 3) := by decide +kernel
theorem dX2_isLike_78 : decode cX2_isLike 78 = .ok (.iconst 1, 1) := by decide +kernel
theorem dX2_isLike_79 : decode cX2_isLike 79 = .ok (.goto 4, 3) := by decide +kernel
theorem dX2_isLike_82 : decode cX2_isLike 82 = .ok (.iconst 0, 1) := by decide +kernel
theorem dX2_isLike_83 : decode cX2_isLike 83 = .ok (.ireturn, 1) := by decide +kernel
theorem dX2_pairsWith_0 : decode cX2_pairsWith 0 = .ok (.bipush 15, 2) := by decide +kernel
theorem dX2_pairsWith_2 : decode cX2_pairsWith 2 = .ok (.iconst 4, 1) := by decide +kernel
theorem dX2_pairsWith_3 : decode cX2_pairsWith 3 = .ok (.iload_n 2, 1) := by decide +kernel
theorem dX2_pairsWith_4 : decode cX2_pairsWith 4 = .ok (.imul, 1) := by decide +kernel
theorem dX2_pairsWith_5 : decode cX2_pairsWith 5 = .ok (.ishl, 1) := by decide +kernel
theorem dX2_pairsWith_6 : decode cX2_pairsWith 6 = .ok (.iconst (-1), 1) := by decide +kernel
theorem dX2_pairsWith_7 : decode cX2_pairsWith 7 = .ok (.ixor, 1) := by decide +kernel
theorem dX2_pairsWith_8 : decode cX2_pairsWith 8 = .ok (.istore_n 3, 1) := by decide +kernel
theorem dX2_pairsWith_9 : decode cX2_pairsWith 9 = .ok (.aload_n 0, 1) := by decide +kernel
theorem dX2_pairsWith_10 : decode cX2_pairsWith 10 = .ok (.getfield 32, 3) := by decide +kernel
theorem dX2_pairsWith_13 : decode cX2_pairsWith 13 = .ok (.aload_n 1, 1) := by decide +kernel
theorem dX2_pairsWith_14 : decode cX2_pairsWith 14 = .ok (.getfield 32, 3) := by decide +kernel
theorem dX2_pairsWith_17 : decode cX2_pairsWith 17 = .ok (.invokevirtual 123, 3) := by decide +kernel
theorem dX2_pairsWith_20 : decode cX2_pairsWith 20 = .ok (.ifCond .eq 47, 3) := by decide +kernel
theorem dX2_pairsWith_23 : decode cX2_pairsWith 23 = .ok (.aload_n 0, 1) := by decide +kernel
theorem dX2_pairsWith_24 : decode cX2_pairsWith 24 = .ok (.getfield 39, 3) := by decide +kernel
theorem dX2_pairsWith_27 : decode cX2_pairsWith 27 = .ok (.aload_n 1, 1) := by decide +kernel
theorem dX2_pairsWith_28 : decode cX2_pairsWith 28 = .ok (.getfield 39, 3) := by decide +kernel
theorem dX2_pairsWith_31 : decode cX2_pairsWith 31 = .ok (.if_icmp .ne 36, 3) := by decide +kernel
theorem dX2_pairsWith_34 : decode cX2_pairsWith 34 = .ok (.aload_n 0, 1) := by decide +kernel
theorem dX2_pairsWith_35 : decode cX2_pairsWith 35 = .ok (.getfield 36, 3) := by decide +kernel
theorem dX2_pairsWith_38 : decode cX2_pairsWith 38 = .ok (.iload_n 3, 1) := by decide +kernel
theorem dX2_pairsWith_39 : decode cX2_pairsWith 39 = .ok (.iand, 1) := by decide +kernel
theorem dX2_pairsWith_40 : decode cX2_pairsWith 40 = .ok (.aload_n 1, 1) := by decide +kernel
theorem dX2_pairsWith_41 : decode cX2_pairsWith 41 = .ok (.getfield 36, 3) := by decide +kernel
theorem dX2_pairsWith_44 : decode cX2_pairsWith 44 = .ok (.iload_n 3, 1) := by decide +kernel
theorem dX2_pairsWith_45 : decode cX2_pairsWith 45 = .ok (.iand, 1) := by decide +kernel
theorem dX2_pairsWith_46 : decode cX2_pairsWith 46 = .ok (.if_icmp .ne 21, 3) := by decide +kernel
theorem dX2_pairsWith_49 : decode cX2_pairsWith 49 = .ok (.aload_n 0, 1) := by decide +kernel
theorem dX2_pairsWith_50 : decode cX2_pairsWith 50 = .ok (.getfield 12, 3) := by decide +kernel
theorem dX2_pairsWith_53 : decode cX2_pairsWith 53 = .ok (.aload_n 1, 1) := by decide +kernel
theorem dX2_pairsWith_54 : decode cX2_pairsWith 54 = .ok (.getfield 12, 3) := by decide +kernel
theorem dX2_pairsWith_57 : decode cX2_pairsWith 57 = .ok (.invokevirtual 130, 3) := by decide +kernel
theorem dX2_pairsWith_60 : decode cX2_pairsWith 60 = .ok (.ifCond .eq 7, 3) := by decide +kernel
theorem dX2_pairsWith_63 : decode cX2_pairsWith 63 = .ok (.iconst 1, 1) := by decide +kernel
theorem dX2_pairsWith_64 : decode cX2_pairsWith 64 = .ok (.goto 4, 3) := by decide +kernel
theorem dX2_pairsWith_67 : decode cX2_pairsWith 67 = .ok (.iconst 0, 1) := by decide +kernel
theorem dX2_pairsWith_68 : decode cX2_pairsWith 68 = .ok (.ireturn, 1) := by decide +kernel
theorem dX2_isUsable_0 : decode cX2_isUsable 0 = .ok (.aload_n 0, 1) := by decide +kernel
theorem dX2_isUsable_1 : decode cX2_isUsable 1 = .ok (.invokevirtual 134, 3) := by decide +kernel
theorem dX2_isUsable_4 : decode cX2_isUsable 4 = .ok (.ifCond .eq 37, 3) := by decide +kernel
theorem dX2_isUsable_7 : decode cX2_isUsable 7 = .ok (.aload_n 0, 1) := by decide +kernel
theorem dX2_isUsable_8 : decode cX2_isUsable 8 = .ok (.getfield 42, 3) := by decide +kernel
theorem dX2_isUsable_11 : decode cX2_isUsable 11 = .ok (.iload_n 2, 1) := by decide +kernel
theorem dX2_isUsable_12 : decode cX2_isUsable 12 = .ok (.if_icmp .lt 29, 3) := by decide +kernel
theorem dX2_isUsable_15 : decode cX2_isUsable 15 = .ok (.aload_n 0, 1) := by decide +kernel
theorem dX2_isUsable_16 : decode cX2_isUsable 16 = .ok (.getfield 32, 3) := by decide +kernel
theorem dX2_isUsable_19 : decode cX2_isUsable 19 = .ok (.aload_n 1, 1) := by decide +kernel
theorem dX2_isUsable_20 : decode cX2_isUsable 20 = .ok (.invokevirtual 123, 3) := by decide +kernel
theorem dX2_isUsable_23 : decode cX2_isUsable 23 = .ok (.ifCond .eq 18, 3) := by decide +kernel
theorem dX2_isUsable_26 : decode cX2_isUsable 26 = .ok (.aload_n 0, 1) := by decide +kernel
theorem dX2_isUsable_27 : decode cX2_isUsable 27 = .ok (.getfield 12, 3) := by decide +kernel
theorem dX2_isUsable_30 : decode cX2_isUsable 30 = .ok (.aload_n 3, 1) := by decide +kernel
theorem dX2_isUsable_31 : decode cX2_isUsable 31 = .ok (.invokevirtual 137, 3) := by decide +kernel
theorem dX2_isUsable_34 : decode cX2_isUsable 34 = .ok (.ifCond .ne 7, 3) := by decide +kernel
theorem dX2_isUsable_37 : decode cX2_isUsable 37 = .ok (.iconst 1, 1) := by decide +kernel
theorem dX2_isUsable_38 : decode cX2_isUsable 38 = .ok (.goto 4, 3) := by decide +kernel
theorem dX2_isUsable_41 : decode cX2_isUsable 41 = .ok (.iconst 0, 1) := by decide +kernel
theorem dX2_isUsable_42 : decode cX2_isUsable 42 = .ok (.ireturn, 1) := by decide +kernel
theorem dX2_fitsSettings_0 : decode cX2_fitsSettings 0 = .ok (.iconst 0, 1) := by decide +kernel
theorem dX2_fitsSettings_1 : decode cX2_fitsSettings 1 = .ok (.istore_n 2, 1) := by decide +kernel
theorem dX2_fitsSettings_2 : decode cX2_fitsSettings 2 = .ok (.iload_n 2, 1) := by decide +kernel
theorem dX2_fitsSettings_3 : decode cX2_fitsSettings 3 = .ok (.iconst 4, 1) := by decide +kernel
theorem dX2_fitsSettings_4 : decode cX2_fitsSettings 4 = .ok (.if_icmp .ge 41, 3) := by decide +kernel
theorem dX2_fitsSettings_7 : decode cX2_fitsSettings 7 = .ok (.iload_n 2, 1) := by decide +kernel
theorem dX2_fitsSettings_8 : decode cX2_fitsSettings 8 = .ok (.aload_n 0, 1) := by decide +kernel
theorem dX2_fitsSettings_9 : decode cX2_fitsSettings 9 = .ok (.getfield 12, 3) := by decide +kernel
theorem dX2_fitsSettings_12 : decode cX2_fitsSettings 12 = .ok (.getfield 94, 3) := by decide +kernel
theorem dX2_fitsSettings_15 : decode cX2_fitsSettings 15 = .ok (.invokestatic 140, 3) := by decide +kernel
theorem dX2_fitsSettings_18 : decode cX2_fitsSettings 18 = .ok (.ifCond .eq 21, 3) := by decide +kernel
theorem dX2_fitsSettings_21 : decode cX2_fitsSettings 21 = .ok (.aload_n 0, 1) := by decide +kernel
theorem dX2_fitsSettings_22 : decode cX2_fitsSettings 22 = .ok (.getfield 36, 3) := by decide +kernel
theorem dX2_fitsSettings_25 : decode cX2_fitsSettings 25 = .ok (.iload_n 2, 1) := by decide +kernel
theorem dX2_fitsSettings_26 : decode cX2_fitsSettings 26 = .ok (.invokestatic 95, 3) := by decide +kernel
theorem dX2_fitsSettings_29 : decode cX2_fitsSettings 29 = .ok (.iload_n 1, 1) := by decide +kernel
theorem dX2_fitsSettings_30 : decode cX2_fitsSettings 30 = .ok (.iload_n 2, 1) := by decide +kernel
theorem dX2_fitsSettings_31 : decode cX2_fitsSettings 31 = .ok (.invokestatic 95, 3) := by decide +kernel
theorem dX2_fitsSettings_34 : decode cX2_fitsSettings 34 = .ok (.if_icmp .eq 5, 3) := by decide +kernel
theorem dX2_fitsSettings_37 : decode cX2_fitsSettings 37 = .ok (.iconst 0, 1) := by decide +kernel
theorem dX2_fitsSettings_38 : decode cX2_fitsSettings 38 = .ok (.ireturn, 1) := by decide +kernel
theorem dX2_fitsSettings_39 : decode cX2_fitsSettings 39 = .ok (.iinc 2 1, 3) := by decide +kernel
theorem dX2_fitsSettings_42 : decode cX2_fitsSettings 42 = .ok (.goto (-40), 3) := by decide +kernel
theorem dX2_fitsSettings_45 : decode cX2_fitsSettings 45 = .ok (.iconst 1, 1) := by decide +kernel
theorem dX2_fitsSettings_46 : decode cX2_fitsSettings 46 = .ok (.ireturn, 1) := by decide +kernel
theorem dX2_fitsSeed_0 : decode cX2_fitsSeed 0 = .ok (.aload_n 0, 1) := by decide +kernel
theorem dX2_fitsSeed_1 : decode cX2_fitsSeed 1 = .ok (.getfield 12, 3) := by decide +kernel
theorem dX2_fitsSeed_4 : decode cX2_fitsSeed 4 = .ok (.getfield 98, 3) := by decide +kernel
theorem dX2_fitsSeed_7 : decode cX2_fitsSeed 7 = .ok (.ifCond .eq 11, 3) := by decide +kernel
theorem dX2_fitsSeed_10 : decode cX2_fitsSeed 10 = .ok (.aload_n 0, 1) := by decide +kernel
theorem dX2_fitsSeed_11 : decode cX2_fitsSeed 11 = .ok (.getfield 39, 3) := by decide +kernel
theorem dX2_fitsSeed_14 : decode cX2_fitsSeed 14 = .ok (.iload_n 1, 1) := by decide +kernel
theorem dX2_fitsSeed_15 : decode cX2_fitsSeed 15 = .ok (.if_icmp .ne 7, 3) := by decide +kernel
theorem dX2_fitsSeed_18 : decode cX2_fitsSeed 18 = .ok (.iconst 1, 1) := by decide +kernel
theorem dX2_fitsSeed_19 : decode cX2_fitsSeed 19 = .ok (.goto 4, 3) := by decide +kernel
theorem dX2_fitsSeed_22 : decode cX2_fitsSeed 22 = .ok (.iconst 0, 1) := by decide +kernel
theorem dX2_fitsSeed_23 : decode cX2_fitsSeed 23 = .ok (.ireturn, 1) := by decide +kernel
theorem dX2_gridSeeds_0 : decode cX2_gridSeeds 0 = .ok (.aload_n 0, 1) := by decide +kernel
theorem dX2_gridSeeds_1 : decode cX2_gridSeeds 1 = .ok (.getfield 12, 3) := by decide +kernel
theorem dX2_gridSeeds_4 : decode cX2_gridSeeds 4 = .ok (.getfield 98, 3) := by decide +kernel
theorem dX2_gridSeeds_7 : decode cX2_gridSeeds 7 = .ok (.ifCond .ne 7, 3) := by decide +kernel
theorem dX2_gridSeeds_10 : decode cX2_gridSeeds 10 = .ok (.sipush 255, 3) := by decide +kernel
theorem dX2_gridSeeds_13 : decode cX2_gridSeeds 13 = .ok (.ireturn, 1) := by decide +kernel
theorem dX2_gridSeeds_14 : decode cX2_gridSeeds 14 = .ok (.aload_n 0, 1) := by decide +kernel
theorem dX2_gridSeeds_15 : decode cX2_gridSeeds 15 = .ok (.getfield 39, 3) := by decide +kernel
theorem dX2_gridSeeds_18 : decode cX2_gridSeeds 18 = .ok (.bipush 8, 2) := by decide +kernel
theorem dX2_gridSeeds_20 : decode cX2_gridSeeds 20 = .ok (.if_icmp .ge 12, 3) := by decide +kernel
theorem dX2_gridSeeds_23 : decode cX2_gridSeeds 23 = .ok (.iconst 1, 1) := by decide +kernel
theorem dX2_gridSeeds_24 : decode cX2_gridSeeds 24 = .ok (.aload_n 0, 1) := by decide +kernel
theorem dX2_gridSeeds_25 : decode cX2_gridSeeds 25 = .ok (.getfield 39, 3) := by decide +kernel
theorem dX2_gridSeeds_28 : decode cX2_gridSeeds 28 = .ok (.ishl, 1) := by decide +kernel
theorem dX2_gridSeeds_29 : decode cX2_gridSeeds 29 = .ok (.goto 4, 3) := by decide +kernel
theorem dX2_gridSeeds_32 : decode cX2_gridSeeds 32 = .ok (.iconst 0, 1) := by decide +kernel
theorem dX2_gridSeeds_33 : decode cX2_gridSeeds 33 = .ok (.ireturn, 1) := by decide +kernel
theorem dX3_init_0 : decode cX3_init 0 = .ok (.aload_n 0, 1) := by decide +kernel
theorem dX3_init_1 : decode cX3_init 1 = .ok (.invokespecial 3, 3) := by decide +kernel
theorem dX3_init_4 : decode cX3_init 4 = .ok (.aload_n 0, 1) := by decide +kernel
theorem dX3_init_5 : decode cX3_init 5 = .ok (.bipush 8, 2) := by decide +kernel
theorem dX3_init_7 : decode cX3_init 7 = .ok (.newarray .int, 2) := by decide +kernel
theorem dX3_init_9 : decode cX3_init 9 = .ok (.putfield 9, 3) := by decide +kernel
theorem dX3_init_12 : decode cX3_init 12 = .ok (.return_, 1) := by decide +kernel
theorem dX3_setWord_0 : decode cX3_setWord 0 = .ok (.iload_n 1, 1) := by decide +kernel
theorem dX3_setWord_1 : decode cX3_setWord 1 = .ok (.ifCond .lt 12, 3) := by decide +kernel
theorem dX3_setWord_4 : decode cX3_setWord 4 = .ok (.iload_n 1, 1) := by decide +kernel
theorem dX3_setWord_5 : decode cX3_setWord 5 = .ok (.aload_n 0, 1) := by decide +kernel
theorem dX3_setWord_6 : decode cX3_setWord 6 = .ok (.getfield 9, 3) := by decide +kernel
theorem dX3_setWord_9 : decode cX3_setWord 9 = .ok (.arraylength, 1) := by decide +kernel
theorem dX3_setWord_10 : decode cX3_setWord 10 = .ok (.if_icmp .lt 5, 3) := by decide +kernel
theorem dX3_setWord_13 : decode cX3_setWord 13 = .ok (.iconst 0, 1) := by decide +kernel
theorem dX3_setWord_14 : decode cX3_setWord 14 = .ok (.ireturn, 1) := by decide +kernel
theorem dX3_setWord_15 : decode cX3_setWord 15 = .ok (.aload_n 0, 1) := by decide +kernel
theorem dX3_setWord_16 : decode cX3_setWord 16 = .ok (.getfield 9, 3) := by decide +kernel
theorem dX3_setWord_19 : decode cX3_setWord 19 = .ok (.iload_n 1, 1) := by decide +kernel
theorem dX3_setWord_20 : decode cX3_setWord 20 = .ok (.iload_n 2, 1) := by decide +kernel
theorem dX3_setWord_21 : decode cX3_setWord 21 = .ok (.iastore, 1) := by decide +kernel
theorem dX3_setWord_22 : decode cX3_setWord 22 = .ok (.iconst 1, 1) := by decide +kernel
theorem dX3_setWord_23 : decode cX3_setWord 23 = .ok (.ireturn, 1) := by decide +kernel
theorem dX3_wordAt_0 : decode cX3_wordAt 0 = .ok (.iload_n 1, 1) := by decide +kernel
theorem dX3_wordAt_1 : decode cX3_wordAt 1 = .ok (.ifCond .lt 21, 3) := by decide +kernel
theorem dX3_wordAt_4 : decode cX3_wordAt 4 = .ok (.iload_n 1, 1) := by decide +kernel
theorem dX3_wordAt_5 : decode cX3_wordAt 5 = .ok (.aload_n 0, 1) := by decide +kernel
theorem dX3_wordAt_6 : decode cX3_wordAt 6 = .ok (.getfield 9, 3) := by decide +kernel
theorem dX3_wordAt_9 : decode cX3_wordAt 9 = .ok (.arraylength, 1) := by decide +kernel
theorem dX3_wordAt_10 : decode cX3_wordAt 10 = .ok (.if_icmp .ge 12, 3) := by decide +kernel
theorem dX3_wordAt_13 : decode cX3_wordAt 13 = .ok (.aload_n 0, 1) := by decide +kernel
theorem dX3_wordAt_14 : decode cX3_wordAt 14 = .ok (.getfield 9, 3) := by decide +kernel
theorem dX3_wordAt_17 : decode cX3_wordAt 17 = .ok (.iload_n 1, 1) := by decide +kernel
theorem dX3_wordAt_18 : decode cX3_wordAt 18 = .ok (.iaload, 1) := by decide +kernel
theorem dX3_wordAt_19 : decode cX3_wordAt 19 = .ok (.goto 4, 3) := by decide +kernel
theorem dX3_wordAt_22 : decode cX3_wordAt 22 = .ok (.iconst 0, 1) := by decide +kernel
theorem dX3_wordAt_23 : decode cX3_wordAt 23 = .ok (.ireturn, 1) := by decide +kernel
