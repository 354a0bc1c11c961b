theorem dX4_init_0 : decode cX4_init 0 = .ok (.aload_n 0, 1) := by decide +kernel
theorem dX4_init_1 : decode cX4_init 1 = .ok (.invokespecial 3, 3) := by decide +kernel
theorem dX4_init_4 : decode cX4_init 4 = .ok (.aload_n 0, 1) := by decide +kernel
theorem dX4_init_5 : decode cX4_init 5 = .ok (.bipush 10, 2) := by decide +kernel
theorem dX4_init_7 : decode cX4_init 7 = .ok (.newarray .int, 2) := by decide +kernel
theorem dX4_init_9 : decode cX4_init 9 = .ok (.putfield 9, 3) := by decide +kernel
theorem dX4_init_12 : decode cX4_init 12 = .ok (.aload_n 0, 1) := by decide +kernel
theorem dX4_init_13 : decode cX4_init 13 = .ok (.iconst 5, 1) := by decide +kernel
theorem dX4_init_14 : decode cX4_init 14 = .ok (.bipush 8, 2) := by decide +kernel
theorem dX4_init_16 : decode cX4_init 16 = .ok (.multianewarray 15 2, 4) := by decide +kernel
theorem dX4_init_20 : decode cX4_init 20 = .ok (.putfield 17, 3) := by decide +kernel
theorem dX4_init_23 : decode cX4_init 23 = .ok (.aload_n 0, 1) := by decide +kernel
theorem dX4_init_24 : decode cX4_init 24 = .ok (.bipush 30, 2) := by decide +kernel
theorem dX4_init_26 : decode cX4_init 26 = .ok (.newarray .int, 2) := by decide +kernel
theorem dX4_init_28 : decode cX4_init 28 = .ok (.putfield 20, 3) := by decide +kernel
theorem dX4_init_31 : decode cX4_init 31 = .ok (.aload_n 0, 1) := by decide +kernel
theorem dX4_init_32 : decode cX4_init 32 = .ok (.bipush 14, 2) := by decide +kernel
theorem dX4_init_34 : decode cX4_init 34 = .ok (.newarray .int, 2) := by decide +kernel
theorem dX4_init_36 : decode cX4_init 36 = .ok (.putfield 23, 3) := by decide +kernel
theorem dX4_init_39 : decode cX4_init 39 = .ok (.aload_n 0, 1) := by decide +kernel
theorem dX4_init_40 : decode cX4_init 40 = .ok (.lconst 1, 1) := by decide +kernel
theorem dX4_init_41 : decode cX4_init 41 = .ok (.putfield 26, 3) := by decide +kernel
theorem dX4_init_44 : decode cX4_init 44 = .ok (.return_, 1) := by decide +kernel
theorem dX4_find_0 : decode cX4_find 0 = .ok (.aload_n 1, 1) := by decide +kernel
theorem dX4_find_1 : decode cX4_find 1 = .ok (.invokevirtual 30, 3) := by decide +kernel
theorem dX4_find_4 : decode cX4_find 4 = .ok (.ifCond .ne 5, 3) := by decide +kernel
theorem dX4_find_7 : decode cX4_find 7 = .ok (.iconst 0, 1) := by decide +kernel
theorem dX4_find_8 : decode cX4_find 8 = .ok (.ireturn, 1) := by decide +kernel
theorem dX4_find_9 : decode cX4_find 9 = .ok (.aload_n 0, 1) := by decide +kernel
theorem dX4_find_10 : decode cX4_find 10 = .ok (.aload_n 1, 1) := by decide +kernel
theorem dX4_find_11 : decode cX4_find 11 = .ok (.invokevirtual 36, 3) := by decide +kernel
theorem dX4_find_14 : decode cX4_find 14 = .ok (.aload_n 0, 1) := by decide +kernel
theorem dX4_find_15 : decode cX4_find 15 = .ok (.aload_n 1, 1) := by decide +kernel
theorem dX4_find_16 : decode cX4_find 16 = .ok (.invokevirtual 40, 3) := by decide +kernel
theorem dX4_find_19 : decode cX4_find 19 = .ok (.aload_n 0, 1) := by decide +kernel
theorem dX4_find_20 : decode cX4_find 20 = .ok (.invokevirtual 43, 3) := by decide +kernel
theorem dX4_find_23 : decode cX4_find 23 = .ok (.ifCond .ne 5, 3) := by decide +kernel
theorem dX4_find_26 : decode cX4_find 26 = .ok (.iconst 0, 1) := by decide +kernel
theorem dX4_find_27 : decode cX4_find 27 = .ok (.ireturn, 1) := by decide +kernel
theorem dX4_find_28 : decode cX4_find 28 = .ok (.aload_n 0, 1) := by decide +kernel
theorem dX4_find_29 : decode cX4_find 29 = .ok (.aload_n 1, 1) := by decide +kernel
theorem dX4_find_30 : decode cX4_find 30 = .ok (.invokevirtual 46, 3) := by decide +kernel
theorem dX4_find_33 : decode cX4_find 33 = .ok (.aload_n 0, 1) := by decide +kernel
theorem dX4_find_34 : decode cX4_find 34 = .ok (.aload_n 1, 1) := by decide +kernel
theorem dX4_find_35 : decode cX4_find 35 = .ok (.invokevirtual 49, 3) := by decide +kernel
theorem dX4_find_38 : decode cX4_find 38 = .ok (.iconst 1, 1) := by decide +kernel
theorem dX4_find_39 : decode cX4_find 39 = .ok (.ireturn, 1) := by decide +kernel
theorem dX4_numberFreeJoints_0 : decode cX4_numberFreeJoints 0 = .ok (.aload_n 0, 1) := by decide +kernel
theorem dX4_numberFreeJoints_1 : decode cX4_numberFreeJoints 1 = .ok (.iconst 0, 1) := by decide +kernel
theorem dX4_numberFreeJoints_2 : decode cX4_numberFreeJoints 2 = .ok (.putfield 52, 3) := by decide +kernel
theorem dX4_numberFreeJoints_5 : decode cX4_numberFreeJoints 5 = .ok (.iconst 0, 1) := by decide +kernel
theorem dX4_numberFreeJoints_6 : decode cX4_numberFreeJoints 6 = .ok (.istore_n 2, 1) := by decide +kernel
theorem dX4_numberFreeJoints_7 : decode cX4_numberFreeJoints 7 = .ok (.iload_n 2, 1) := by decide +kernel
theorem dX4_numberFreeJoints_8 : decode cX4_numberFreeJoints 8 = .ok (.aload_n 1, 1) := by decide +kernel
theorem dX4_numberFreeJoints_9 : decode cX4_numberFreeJoints 9 = .ok (.getfield 56, 3) := by decide +kernel
theorem dX4_numberFreeJoints_12 : decode cX4_numberFreeJoints 12 = .ok (.if_icmp .ge 45, 3) := by decide +kernel
theorem dX4_numberFreeJoints_15 : decode cX4_numberFreeJoints 15 = .ok (.aload_n 1, 1) := by decide +kernel
theorem dX4_numberFreeJoints_16 : decode cX4_numberFreeJoints 16 = .ok (.iload_n 2, 1) := by decide +kernel
theorem dX4_numberFreeJoints_17 : decode cX4_numberFreeJoints 17 = .ok (.invokevirtual 59, 3) := by decide +kernel
theorem dX4_numberFreeJoints_20 : decode cX4_numberFreeJoints 20 = .ok (.ifCond .eq 31, 3) := by decide +kernel
theorem dX4_numberFreeJoints_23 : decode cX4_numberFreeJoints 23 = .ok (.aload_n 0, 1) := by decide +kernel
theorem dX4_numberFreeJoints_24 : decode cX4_numberFreeJoints 24 = .ok (.getfield 52, 3) := by decide +kernel
theorem dX4_numberFreeJoints_27 : decode cX4_numberFreeJoints 27 = .ok (.iconst 5, 1) := by decide +kernel
theorem dX4_numberFreeJoints_28 : decode cX4_numberFreeJoints 28 = .ok (.if_icmp .ge 23, 3) := by decide +kernel
theorem dX4_numberFreeJoints_31 : decode cX4_numberFreeJoints 31 = .ok (.aload_n 0, 1) := by decide +kernel
theorem dX4_numberFreeJoints_32 : decode cX4_numberFreeJoints 32 = .ok (.getfield 9, 3) := by decide +kernel
theorem dX4_numberFreeJoints_35 : decode cX4_numberFreeJoints 35 = .ok (.iload_n 2, 1) := by decide +kernel
theorem dX4_numberFreeJoints_36 : decode cX4_numberFreeJoints 36 = .ok (.aload_n 0, 1) := by decide +kernel
theorem dX4_numberFreeJoints_37 : decode cX4_numberFreeJoints 37 = .ok (.getfield 52, 3) := by decide +kernel
theorem dX4_numberFreeJoints_40 : decode cX4_numberFreeJoints 40 = .ok (.iastore, 1) := by decide +kernel
theorem dX4_numberFreeJoints_41 : decode cX4_numberFreeJoints 41 = .ok (.aload_n 0, 1) := by decide +kernel
theorem dX4_numberFreeJoints_42 : decode cX4_numberFreeJoints 42 = .ok (.dup, 1) := by decide +kernel
theorem dX4_numberFreeJoints_43 : decode cX4_numberFreeJoints 43 = .ok (.getfield 52, 3) := by decide +kernel
theorem dX4_numberFreeJoints_46 : decode cX4_numberFreeJoints 46 = .ok (.iconst 1, 1) := by decide +kernel
theorem dX4_numberFreeJoints_47 : decode cX4_numberFreeJoints 47 = .ok (.iadd, 1) := by decide +kernel
theorem dX4_numberFreeJoints_48 : decode cX4_numberFreeJoints 48 = .ok (.putfield 52, 3) := by decide +kernel
theorem dX4_numberFreeJoints_51 : decode cX4_numberFreeJoints 51 = .ok (.iinc 2 1, 3) := by decide +kernel
theorem dX4_numberFreeJoints_54 : decode cX4_numberFreeJoints 54 = .ok (.goto (-47), 3) := by decide +kernel
theorem dX4_numberFreeJoints_57 : decode cX4_numberFreeJoints 57 = .ok (.return_, 1) := by decide +kernel
theorem dX4_setUpRows_0 : decode cX4_setUpRows 0 = .ok (.iconst 0, 1) := by decide +kernel
theorem dX4_setUpRows_1 : decode cX4_setUpRows 1 = .ok (.istore_n 2, 1) := by decide +kernel
theorem dX4_setUpRows_2 : decode cX4_setUpRows 2 = .ok (.iload_n 2, 1) := by decide +kernel
theorem dX4_setUpRows_3 : decode cX4_setUpRows 3 = .ok (.aload_n 0, 1) := by decide +kernel
theorem dX4_setUpRows_4 : decode cX4_setUpRows 4 = .ok (.getfield 52, 3) := by decide +kernel
theorem dX4_setUpRows_7 : decode cX4_setUpRows 7 = .ok (.if_icmp .ge 36, 3) := by decide +kernel
theorem dX4_setUpRows_10 : decode cX4_setUpRows 10 = .ok (.iconst 0, 1) := by decide +kernel
theorem dX4_setUpRows_11 : decode cX4_setUpRows 11 = .ok (.istore_n 3, 1) := by decide +kernel
theorem dX4_setUpRows_12 : decode cX4_setUpRows 12 = .ok (.iload_n 3, 1) := by decide +kernel
theorem dX4_setUpRows_13 : decode cX4_setUpRows 13 = .ok (.aload_n 0, 1) := by decide +kernel
theorem dX4_setUpRows_14 : decode cX4_setUpRows 14 = .ok (.getfield 52, 3) := by decide +kernel
theorem dX4_setUpRows_17 : decode cX4_setUpRows 17 = .ok (.iconst 3, 1) := by decide +kernel
theorem dX4_setUpRows_18 : decode cX4_setUpRows 18 = .ok (.iadd, 1) := by decide +kernel
theorem dX4_setUpRows_19 : decode cX4_setUpRows 19 = .ok (.if_icmp .ge 18, 3) := by decide +kernel
theorem dX4_setUpRows_22 : decode cX4_setUpRows 22 = .ok (.aload_n 0, 1) := by decide +kernel
theorem dX4_setUpRows_23 : decode cX4_setUpRows 23 = .ok (.getfield 17, 3) := by decide +kernel
theorem dX4_setUpRows_26 : decode cX4_setUpRows 26 = .ok (.iload_n 2, 1) := by decide +kernel
theorem dX4_setUpRows_27 : decode cX4_setUpRows 27 = .ok (.aaload, 1) := by decide +kernel
theorem dX4_setUpRows_28 : decode cX4_setUpRows 28 = .ok (.iload_n 3, 1) := by decide +kernel
theorem dX4_setUpRows_29 : decode cX4_setUpRows 29 = .ok (.lconst 0, 1) := by decide +kernel
theorem dX4_setUpRows_30 : decode cX4_setUpRows 30 = .ok (.lastore, 1) := by decide +kernel
theorem dX4_setUpRows_31 : decode cX4_setUpRows 31 = .ok (.iinc 3 1, 3) := by decide +kernel
theorem dX4_setUpRows_34 : decode cX4_setUpRows 34 = .ok (.goto (-22), 3) := by decide +kernel
theorem dX4_setUpRows_37 : decode cX4_setUpRows 37 = .ok (.iinc 2 1, 3) := by decide +kernel
theorem dX4_setUpRows_40 : decode cX4_setUpRows 40 = .ok (.goto (-38), 3) := by decide +kernel
theorem dX4_setUpRows_43 : decode cX4_setUpRows 43 = .ok (.iconst 0, 1) := by decide +kernel
theorem dX4_setUpRows_44 : decode cX4_setUpRows 44 = .ok (.istore_n 2, 1) := by decide +kernel
theorem dX4_setUpRows_45 : decode cX4_setUpRows 45 = .ok (.iload_n 2, 1) := by decide +kernel
theorem dX4_setUpRows_46 : decode cX4_setUpRows 46 = .ok (.aload_n 1, 1) := by decide +kernel
theorem dX4_setUpRows_47 : decode cX4_setUpRows 47 = .ok (.getfield 56, 3) := by decide +kernel
theorem dX4_setUpRows_50 : decode cX4_setUpRows 50 = .ok (.if_icmp .ge 42, 3) := by decide +kernel
theorem dX4_setUpRows_53 : decode cX4_setUpRows 53 = .ok (.aload_n 1, 1) := by decide +kernel
theorem dX4_setUpRows_54 : decode cX4_setUpRows 54 = .ok (.iload_n 2, 1) := by decide +kernel
theorem dX4_setUpRows_55 : decode cX4_setUpRows 55 = .ok (.invokevirtual 59, 3) := by decide +kernel
theorem dX4_setUpRows_58 : decode cX4_setUpRows 58 = .ok (.ifCond .eq 28, 3) := by decide +kernel
theorem dX4_setUpRows_61 : decode cX4_setUpRows 61 = .ok (.aload_n 0, 1) := by decide +kernel
theorem dX4_setUpRows_62 : decode cX4_setUpRows 62 = .ok (.getfield 17, 3) := by decide +kernel
theorem dX4_setUpRows_65 : decode cX4_setUpRows 65 = .ok (.aload_n 0, 1) := by decide +kernel
theorem dX4_setUpRows_66 : decode cX4_setUpRows 66 = .ok (.getfield 9, 3) := by decide +kernel
theorem dX4_setUpRows_69 : decode cX4_setUpRows 69 = .ok (.iload_n 2, 1) := by decide +kernel
theorem dX4_setUpRows_70 : decode cX4_setUpRows 70 = .ok (.iaload, 1) := by decide +kernel
theorem dX4_setUpRows_71 : decode cX4_setUpRows 71 = .ok (.aaload, 1) := by decide +kernel
theorem dX4_setUpRows_72 : decode cX4_setUpRows 72 = .ok (.aload_n 0, 1) := by decide +kernel
theorem dX4_setUpRows_73 : decode cX4_setUpRows 73 = .ok (.getfield 52, 3) := by decide +kernel
theorem dX4_setUpRows_76 : decode cX4_setUpRows 76 = .ok (.iconst 2, 1) := by decide +kernel
theorem dX4_setUpRows_77 : decode cX4_setUpRows 77 = .ok (.iadd, 1) := by decide +kernel
theorem dX4_setUpRows_78 : decode cX4_setUpRows 78 = .ok (.aload_n 1, 1) := by decide +kernel
theorem dX4_setUpRows_79 : decode cX4_setUpRows 79 = .ok (.getfield 63, 3) := by decide +kernel
theorem dX4_setUpRows_82 : decode cX4_setUpRows 82 = .ok (.iload_n 2, 1) := by decide +kernel
theorem dX4_setUpRows_83 : decode cX4_setUpRows 83 = .ok (.iaload, 1) := by decide +kernel
theorem dX4_setUpRows_84 : decode cX4_setUpRows 84 = .ok (.i2l, 1) := by decide +kernel
theorem dX4_setUpRows_85 : decode cX4_setUpRows 85 = .ok (.lastore, 1) := by decide +kernel
theorem dX4_setUpRows_86 : decode cX4_setUpRows 86 = .ok (.iinc 2 1, 3) := by decide +kernel
theorem dX4_setUpRows_89 : decode cX4_setUpRows 89 = .ok (.goto (-44), 3) := by decide +kernel
theorem dX4_setUpRows_92 : decode cX4_setUpRows 92 = .ok (.iconst 0, 1) := by decide +kernel
theorem dX4_setUpRows_93 : decode cX4_setUpRows 93 = .ok (.istore_n 2, 1) := by decide +kernel
theorem dX4_setUpRows_94 : decode cX4_setUpRows 94 = .ok (.iload_n 2, 1) := by decide +kernel
theorem dX4_setUpRows_95 : decode cX4_setUpRows 95 = .ok (.aload_n 1, 1) := by decide +kernel
theorem dX4_setUpRows_96 : decode cX4_setUpRows 96 = .ok (.getfield 66, 3) := by decide +kernel
theorem dX4_setUpRows_99 : decode cX4_setUpRows 99 = .ok (.if_icmp .ge 41, 3) := by decide +kernel
theorem dX4_setUpRows_102 : decode cX4_setUpRows 102 = .ok (.aload_n 1, 1) := by decide +kernel
theorem dX4_setUpRows_103 : decode cX4_setUpRows 103 = .ok (.iload_n 2, 1) := by decide +kernel
theorem dX4_setUpRows_104 : decode cX4_setUpRows 104 = .ok (.invokevirtual 69, 3) := by decide +kernel
theorem dX4_setUpRows_107 : decode cX4_setUpRows 107 = .ok (.ifCond .eq 27, 3) := by decide +kernel
theorem dX4_setUpRows_110 : decode cX4_setUpRows 110 = .ok (.aload_n 0, 1) := by decide +kernel
theorem dX4_setUpRows_111 : decode cX4_setUpRows 111 = .ok (.aload_n 1, 1) := by decide +kernel
theorem dX4_setUpRows_112 : decode cX4_setUpRows 112 = .ok (.iload_n 2, 1) := by decide +kernel
theorem dX4_setUpRows_113 : decode cX4_setUpRows 113 = .ok (.aload_n 1, 1) := by decide +kernel
theorem dX4_setUpRows_114 : decode cX4_setUpRows 114 = .ok (.getfield 72, 3) := by decide +kernel
theorem dX4_setUpRows_117 : decode cX4_setUpRows 117 = .ok (.iload_n 2, 1) := by decide +kernel
theorem dX4_setUpRows_118 : decode cX4_setUpRows 118 = .ok (.iaload, 1) := by decide +kernel
theorem dX4_setUpRows_119 : decode cX4_setUpRows 119 = .ok (.invokevirtual 75, 3) := by decide +kernel
theorem dX4_setUpRows_122 : decode cX4_setUpRows 122 = .ok (.aload_n 0, 1) := by decide +kernel
theorem dX4_setUpRows_123 : decode cX4_setUpRows 123 = .ok (.aload_n 1, 1) := by decide +kernel
theorem dX4_setUpRows_124 : decode cX4_setUpRows 124 = .ok (.iload_n 2, 1) := by decide +kernel
theorem dX4_setUpRows_125 : decode cX4_setUpRows 125 = .ok (.aload_n 1, 1) := by decide +kernel
theorem dX4_setUpRows_126 : decode cX4_setUpRows 126 = .ok (.getfield 79, 3) := by decide +kernel
theorem dX4_setUpRows_129 : decode cX4_setUpRows 129 = .ok (.iload_n 2, 1) := by decide +kernel
theorem dX4_setUpRows_130 : decode cX4_setUpRows 130 = .ok (.iaload, 1) := by decide +kernel
theorem dX4_setUpRows_131 : decode cX4_setUpRows 131 = .ok (.invokevirtual 75, 3) := by decide +kernel
theorem dX4_setUpRows_134 : decode cX4_setUpRows 134 = .ok (.iinc 2 1, 3) := by decide +kernel
theorem dX4_setUpRows_137 : decode cX4_setUpRows 137 = .ok (.goto (-43), 3) := by decide +kernel
theorem dX4_setUpRows_140 : decode cX4_setUpRows 140 = .ok (.return_, 1) := by decide +kernel
theorem dX4_addPullOn_0 : decode cX4_addPullOn 0 = .ok (.aload_n 1, 1) := by decide +kernel
theorem dX4_addPullOn_1 : decode cX4_addPullOn 1 = .ok (.iload_n 3, 1) := by decide +kernel
theorem dX4_addPullOn_2 : decode cX4_addPullOn 2 = .ok (.invokevirtual 59, 3) := by decide +kernel
theorem dX4_addPullOn_5 : decode cX4_addPullOn 5 = .ok (.ifCond .ne 4, 3) := by decide +kernel
theorem dX4_addPullOn_8 : decode cX4_addPullOn 8 = .ok (.return_, 1) := by decide +kernel
theorem dX4_addPullOn_9 : decode cX4_addPullOn 9 = .ok (.aload_n 0, 1) := by decide +kernel
theorem dX4_addPullOn_10 : decode cX4_addPullOn 10 = .ok (.getfield 17, 3) := by decide +kernel
theorem dX4_addPullOn_13 : decode cX4_addPullOn 13 = .ok (.aload_n 0, 1) := by decide +kernel
theorem dX4_addPullOn_14 : decode cX4_addPullOn 14 = .ok (.getfield 9, 3) := by decide +kernel
theorem dX4_addPullOn_17 : decode cX4_addPullOn 17 = .ok (.iload_n 3, 1) := by decide +kernel
theorem dX4_addPullOn_18 : decode cX4_addPullOn 18 = .ok (.iaload, 1) := by decide +kernel
theorem dX4_addPullOn_19 : decode cX4_addPullOn 19 = .ok (.aaload, 1) := by decide +kernel
theorem dX4_addPullOn_20 : decode cX4_addPullOn 20 = .ok (.astore 4, 2) := by decide +kernel
theorem dX4_addPullOn_22 : decode cX4_addPullOn 22 = .ok (.aload_n 1, 1) := by decide +kernel
theorem dX4_addPullOn_23 : decode cX4_addPullOn 23 = .ok (.iload_n 2, 1) := by decide +kernel
theorem dX4_addPullOn_24 : decode cX4_addPullOn 24 = .ok (.iload_n 3, 1) := by decide +kernel
theorem dX4_addPullOn_25 : decode cX4_addPullOn 25 = .ok (.invokevirtual 82, 3) := by decide +kernel
theorem dX4_addPullOn_28 : decode cX4_addPullOn 28 = .ok (.istore 5, 2) := by decide +kernel
theorem dX4_addPullOn_30 : decode cX4_addPullOn 30 = .ok (.aload_n 1, 1) := by decide +kernel
theorem dX4_addPullOn_31 : decode cX4_addPullOn 31 = .ok (.getfield 86, 3) := by decide +kernel
theorem dX4_addPullOn_34 : decode cX4_addPullOn 34 = .ok (.iload_n 2, 1) := by decide +kernel
theorem dX4_addPullOn_35 : decode cX4_addPullOn 35 = .ok (.iaload, 1) := by decide +kernel
theorem dX4_addPullOn_36 : decode cX4_addPullOn 36 = .ok (.istore 6, 2) := by decide +kernel
theorem dX4_addPullOn_38 : decode cX4_addPullOn 38 = .ok (.aload 4, 2) := by decide +kernel
theorem dX4_addPullOn_40 : decode cX4_addPullOn 40 = .ok (.aload_n 0, 1) := by decide +kernel
theorem dX4_addPullOn_41 : decode cX4_addPullOn 41 = .ok (.getfield 9, 3) := by decide +kernel
theorem dX4_addPullOn_44 : decode cX4_addPullOn 44 = .ok (.iload_n 3, 1) := by decide +kernel
theorem dX4_addPullOn_45 : decode cX4_addPullOn 45 = .ok (.iaload, 1) := by decide +kernel
theorem dX4_addPullOn_46 : decode cX4_addPullOn 46 = .ok (.dup2, 1) := by decide +kernel
theorem dX4_addPullOn_47 : decode cX4_addPullOn 47 = .ok (.laload, 1) := by decide +kernel
theorem dX4_addPullOn_48 : decode cX4_addPullOn 48 = .ok (.iload 6, 2) := by decide +kernel
theorem dX4_addPullOn_50 : decode cX4_addPullOn 50 = .ok (.i2l, 1) := by decide +kernel
theorem dX4_addPullOn_51 : decode cX4_addPullOn 51 = .ok (.ladd, 1) := by decide +kernel
theorem dX4_addPullOn_52 : decode cX4_addPullOn 52 = .ok (.lastore, 1) := by decide +kernel
theorem dX4_addPullOn_53 : decode cX4_addPullOn 53 = .ok (.aload_n 1, 1) := by decide +kernel
theorem dX4_addPullOn_54 : decode cX4_addPullOn 54 = .ok (.iload 5, 2) := by decide +kernel
theorem dX4_addPullOn_56 : decode cX4_addPullOn 56 = .ok (.invokevirtual 59, 3) := by decide +kernel
theorem dX4_addPullOn_59 : decode cX4_addPullOn 59 = .ok (.ifCond .eq 20, 3) := by decide +kernel
theorem dX4_addPullOn_62 : decode cX4_addPullOn 62 = .ok (.aload 4, 2) := by decide +kernel
theorem dX4_addPullOn_64 : decode cX4_addPullOn 64 = .ok (.aload_n 0, 1) := by decide +kernel
theorem dX4_addPullOn_65 : decode cX4_addPullOn 65 = .ok (.getfield 9, 3) := by decide +kernel
theorem dX4_addPullOn_68 : decode cX4_addPullOn 68 = .ok (.iload 5, 2) := by decide +kernel
theorem dX4_addPullOn_70 : decode cX4_addPullOn 70 = .ok (.iaload, 1) := by decide +kernel
theorem dX4_addPullOn_71 : decode cX4_addPullOn 71 = .ok (.dup2, 1) := by decide +kernel
theorem dX4_addPullOn_72 : decode cX4_addPullOn 72 = .ok (.laload, 1) := by decide +kernel
theorem dX4_addPullOn_73 : decode cX4_addPullOn 73 = .ok (.iload 6, 2) := by decide +kernel
theorem dX4_addPullOn_75 : decode cX4_addPullOn 75 = .ok (.i2l, 1) := by decide +kernel
theorem dX4_addPullOn_76 : decode cX4_addPullOn 76 = .ok (.lsub, 1) := by decide +kernel
theorem dX4_addPullOn_77 : decode cX4_addPullOn 77 = .ok (.lastore, 1) := by decide +kernel
theorem dX4_addPullOn_78 : decode cX4_addPullOn 78 = .ok (.return_, 1) := by decide +kernel
theorem dX4_addPullOn_79 : decode cX4_addPullOn 79 = .ok (.iconst 0, 1) := by decide +kernel
theorem dX4_addPullOn_80 : decode cX4_addPullOn 80 = .ok (.istore 7, 2) := by decide +kernel
theorem dX4_addPullOn_82 : decode cX4_addPullOn 82 = .ok (.iload 7, 2) := by decide +kernel
theorem dX4_addPullOn_84 : decode cX4_addPullOn 84 = .ok (.iconst 3, 1) := by decide +kernel
theorem dX4_addPullOn_85 : decode cX4_addPullOn 85 = .ok (.if_icmp .ge 38, 3) := by decide +kernel
theorem dX4_addPullOn_88 : decode cX4_addPullOn 88 = .ok (.aload 4, 2) := by decide +kernel
theorem dX4_addPullOn_90 : decode cX4_addPullOn 90 = .ok (.aload_n 0, 1) := by decide +kernel
theorem dX4_addPullOn_91 : decode cX4_addPullOn 91 = .ok (.getfield 52, 3) := by decide +kernel
theorem dX4_addPullOn_94 : decode cX4_addPullOn 94 = .ok (.iload 7, 2) := by decide +kernel
theorem dX4_addPullOn_96 : decode cX4_addPullOn 96 = .ok (.iadd, 1) := by decide +kernel
theorem dX4_addPullOn_97 : decode cX4_addPullOn 97 = .ok (.dup2, 1) := by decide +kernel
theorem dX4_addPullOn_98 : decode cX4_addPullOn 98 = .ok (.laload, 1) := by decide +kernel
theorem dX4_addPullOn_99 : decode cX4_addPullOn 99 = .ok (.iload 6, 2) := by decide +kernel
theorem dX4_addPullOn_101 : decode cX4_addPullOn 101 = .ok (.aload_n 1, 1) := by decide +kernel
theorem dX4_addPullOn_102 : decode cX4_addPullOn 102 = .ok (.getfield 89, 3) := by decide +kernel
theorem dX4_addPullOn_105 : decode cX4_addPullOn 105 = .ok (.iload 5, 2) := by decide +kernel
theorem dX4_addPullOn_107 : decode cX4_addPullOn 107 = .ok (.iconst 3, 1) := by decide +kernel
theorem dX4_addPullOn_108 : decode cX4_addPullOn 108 = .ok (.imul, 1) := by decide +kernel
theorem dX4_addPullOn_109 : decode cX4_addPullOn 109 = .ok (.iload 7, 2) := by decide +kernel
theorem dX4_addPullOn_111 : decode cX4_addPullOn 111 = .ok (.iadd, 1) := by decide +kernel
theorem dX4_addPullOn_112 : decode cX4_addPullOn 112 = .ok (.iaload, 1) := by decide +kernel
theorem dX4_addPullOn_113 : decode cX4_addPullOn 113 = .ok (.imul, 1) := by decide +kernel
theorem dX4_addPullOn_114 : decode cX4_addPullOn 114 = .ok (.i2l, 1) := by decide +kernel
theorem dX4_addPullOn_115 : decode cX4_addPullOn 115 = .ok (.ladd, 1) := by decide +kernel
theorem dX4_addPullOn_116 : decode cX4_addPullOn 116 = .ok (.lastore, 1) := by decide +kernel
theorem dX4_addPullOn_117 : decode cX4_addPullOn 117 = .ok (.iinc 7 1, 3) := by decide +kernel
theorem dX4_addPullOn_120 : decode cX4_addPullOn 120 = .ok (.goto (-38), 3) := by decide +kernel
theorem dX4_addPullOn_123 : decode cX4_addPullOn 123 = .ok (.return_, 1) := by decide +kernel
theorem dX4_eliminate_0 : decode cX4_eliminate 0 = .ok (.aload_n 0, 1) := by decide +kernel
theorem dX4_eliminate_1 : decode cX4_eliminate 1 = .ok (.lconst 1, 1) := by decide +kernel
theorem dX4_eliminate_2 : decode cX4_eliminate 2 = .ok (.putfield 26, 3) := by decide +kernel
theorem dX4_eliminate_5 : decode cX4_eliminate 5 = .ok (.iconst 0, 1) := by decide +kernel
theorem dX4_eliminate_6 : decode cX4_eliminate 6 = .ok (.istore_n 1, 1) := by decide +kernel
theorem dX4_eliminate_7 : decode cX4_eliminate 7 = .ok (.iload_n 1, 1) := by decide +kernel
theorem dX4_eliminate_8 : decode cX4_eliminate 8 = .ok (.aload_n 0, 1) := by decide +kernel
theorem dX4_eliminate_9 : decode cX4_eliminate 9 = .ok (.getfield 52, 3) := by decide +kernel
theorem dX4_eliminate_12 : decode cX4_eliminate 12 = .ok (.if_icmp .ge 72, 3) := by decide +kernel
theorem dX4_eliminate_15 : decode cX4_eliminate 15 = .ok (.aload_n 0, 1) := by decide +kernel
theorem dX4_eliminate_16 : decode cX4_eliminate 16 = .ok (.getfield 17, 3) := by decide +kernel
theorem dX4_eliminate_19 : decode cX4_eliminate 19 = .ok (.iload_n 1, 1) := by decide +kernel
theorem dX4_eliminate_20 : decode cX4_eliminate 20 = .ok (.aaload, 1) := by decide +kernel
theorem dX4_eliminate_21 : decode cX4_eliminate 21 = .ok (.iload_n 1, 1) := by decide +kernel
theorem dX4_eliminate_22 : decode cX4_eliminate 22 = .ok (.laload, 1) := by decide +kernel
theorem dX4_eliminate_23 : decode cX4_eliminate 23 = .ok (.lstore_n 2, 1) := by decide +kernel
theorem dX4_eliminate_24 : decode cX4_eliminate 24 = .ok (.lload_n 2, 1) := by decide +kernel
theorem dX4_eliminate_25 : decode cX4_eliminate 25 = .ok (.lconst 0, 1) := by decide +kernel
theorem dX4_eliminate_26 : decode cX4_eliminate 26 = .ok (.lcmp, 1) := by decide +kernel
theorem dX4_eliminate_27 : decode cX4_eliminate 27 = .ok (.ifCond .le 12, 3) := by decide +kernel
theorem dX4_eliminate_30 : decode cX4_eliminate 30 = .ok (.aload_n 0, 1) := by decide +kernel
theorem dX4_eliminate_31 : decode cX4_eliminate 31 = .ok (.getfield 26, 3) := by decide +kernel
theorem dX4_eliminate_34 : decode cX4_eliminate 34 = .ok (.lconst 0, 1) := by decide +kernel
theorem dX4_eliminate_35 : decode cX4_eliminate 35 = .ok (.lcmp, 1) := by decide +kernel
theorem dX4_eliminate_36 : decode cX4_eliminate 36 = .ok (.ifCond .gt 5, 3) := by decide +kernel
theorem dX4_eliminate_39 : decode cX4_eliminate 39 = .ok (.iconst 0, 1) := by decide +kernel
theorem dX4_eliminate_40 : decode cX4_eliminate 40 = .ok (.ireturn, 1) := by decide +kernel
theorem dX4_eliminate_41 : decode cX4_eliminate 41 = .ok (.iconst 0, 1) := by decide +kernel
theorem dX4_eliminate_42 : decode cX4_eliminate 42 = .ok (.istore 4, 2) := by decide +kernel
theorem dX4_eliminate_44 : decode cX4_eliminate 44 = .ok (.iload 4, 2) := by decide +kernel
theorem dX4_eliminate_46 : decode cX4_eliminate 46 = .ok (.aload_n 0, 1) := by decide +kernel
theorem dX4_eliminate_47 : decode cX4_eliminate 47 = .ok (.getfield 52, 3) := by decide +kernel
theorem dX4_eliminate_50 : decode cX4_eliminate 50 = .ok (.if_icmp .ge 23, 3) := by decide +kernel
theorem dX4_eliminate_53 : decode cX4_eliminate 53 = .ok (.iload 4, 2) := by decide +kernel
theorem dX4_eliminate_55 : decode cX4_eliminate 55 = .ok (.iload_n 1, 1) := by decide +kernel
theorem dX4_eliminate_56 : decode cX4_eliminate 56 = .ok (.if_icmp .eq 11, 3) := by decide +kernel
theorem dX4_eliminate_59 : decode cX4_eliminate 59 = .ok (.aload_n 0, 1) := by decide +kernel
theorem dX4_eliminate_60 : decode cX4_eliminate 60 = .ok (.iload 4, 2) := by decide +kernel
theorem dX4_eliminate_62 : decode cX4_eliminate 62 = .ok (.iload_n 1, 1) := by decide +kernel
theorem dX4_eliminate_63 : decode cX4_eliminate 63 = .ok (.lload_n 2, 1) := by decide +kernel
theorem dX4_eliminate_64 : decode cX4_eliminate 64 = .ok (.invokevirtual 92, 3) := by decide +kernel
theorem dX4_eliminate_67 : decode cX4_eliminate 67 = .ok (.iinc 4 1, 3) := by decide +kernel
theorem dX4_eliminate_70 : decode cX4_eliminate 70 = .ok (.goto (-26), 3) := by decide +kernel
theorem dX4_eliminate_73 : decode cX4_eliminate 73 = .ok (.aload_n 0, 1) := by decide +kernel
theorem dX4_eliminate_74 : decode cX4_eliminate 74 = .ok (.lload_n 2, 1) := by decide +kernel
theorem dX4_eliminate_75 : decode cX4_eliminate 75 = .ok (.putfield 26, 3) := by decide +kernel
theorem dX4_eliminate_78 : decode cX4_eliminate 78 = .ok (.iinc 1 1, 3) := by decide +kernel
theorem dX4_eliminate_81 : decode cX4_eliminate 81 = .ok (.goto (-74), 3) := by decide +kernel
theorem dX4_eliminate_84 : decode cX4_eliminate 84 = .ok (.iconst 1, 1) := by decide +kernel
theorem dX4_eliminate_85 : decode cX4_eliminate 85 = .ok (.ireturn, 1) := by decide +kernel
theorem dX4_clearColumn_0 : decode cX4_clearColumn 0 = .ok (.aload_n 0, 1) := by decide +kernel
theorem dX4_clearColumn_1 : decode cX4_clearColumn 1 = .ok (.getfield 17, 3) := by decide +kernel
theorem dX4_clearColumn_4 : decode cX4_clearColumn 4 = .ok (.iload_n 1, 1) := by decide +kernel
theorem dX4_clearColumn_5 : decode cX4_clearColumn 5 = .ok (.aaload, 1) := by decide +kernel
theorem dX4_clearColumn_6 : decode cX4_clearColumn 6 = .ok (.iload_n 2, 1) := by decide +kernel
theorem dX4_clearColumn_7 : decode cX4_clearColumn 7 = .ok (.laload, 1) := by decide +kernel
theorem dX4_clearColumn_8 : decode cX4_clearColumn 8 = .ok (.lstore 5, 2) := by decide +kernel
theorem dX4_clearColumn_10 : decode cX4_clearColumn 10 = .ok (.aload_n 0, 1) := by decide +kernel
theorem dX4_clearColumn_11 : decode cX4_clearColumn 11 = .ok (.getfield 26, 3) := by decide +kernel
theorem dX4_clearColumn_14 : decode cX4_clearColumn 14 = .ok (.lconst 0, 1) := by decide +kernel
theorem dX4_clearColumn_15 : decode cX4_clearColumn 15 = .ok (.lcmp, 1) := by decide +kernel
theorem dX4_clearColumn_16 : decode cX4_clearColumn 16 = .ok (.ifCond .gt 4, 3) := by decide +kernel
theorem dX4_clearColumn_19 : decode cX4_clearColumn 19 = .ok (.return_, 1) := by decide +kernel
theorem dX4_clearColumn_20 : decode cX4_clearColumn 20 = .ok (.iconst 0, 1) := by decide +kernel
theorem dX4_clearColumn_21 : decode cX4_clearColumn 21 = .ok (.istore 7, 2) := by decide +kernel
theorem dX4_clearColumn_23 : decode cX4_clearColumn 23 = .ok (.iload 7, 2) := by decide +kernel
theorem dX4_clearColumn_25 : decode cX4_clearColumn 25 = .ok (.aload_n 0, 1) := by decide +kernel
theorem dX4_clearColumn_26 : decode cX4_clearColumn 26 = .ok (.getfield 52, 3) := by decide +kernel
theorem dX4_clearColumn_29 : decode cX4_clearColumn 29 = .ok (.iconst 3, 1) := by decide +kernel
theorem dX4_clearColumn_30 : decode cX4_clearColumn 30 = .ok (.iadd, 1) := by decide +kernel
theorem dX4_clearColumn_31 : decode cX4_clearColumn 31 = .ok (.if_icmp .ge 47, 3) := by decide +kernel
theorem dX4_clearColumn_34 : decode cX4_clearColumn 34 = .ok (.aload_n 0, 1) := by decide +kernel
theorem dX4_clearColumn_35 : decode cX4_clearColumn 35 = .ok (.getfield 17, 3) := by decide +kernel
theorem dX4_clearColumn_38 : decode cX4_clearColumn 38 = .ok (.iload_n 1, 1) := by decide +kernel
theorem dX4_clearColumn_39 : decode cX4_clearColumn 39 = .ok (.aaload, 1) := by decide +kernel
theorem dX4_clearColumn_40 : decode cX4_clearColumn 40 = .ok (.iload 7, 2) := by decide +kernel
theorem dX4_clearColumn_42 : decode cX4_clearColumn 42 = .ok (.lload_n 3, 1) := by decide +kernel
theorem dX4_clearColumn_43 : decode cX4_clearColumn 43 = .ok (.aload_n 0, 1) := by decide +kernel
theorem dX4_clearColumn_44 : decode cX4_clearColumn 44 = .ok (.getfield 17, 3) := by decide +kernel
theorem dX4_clearColumn_47 : decode cX4_clearColumn 47 = .ok (.iload_n 1, 1) := by decide +kernel
theorem dX4_clearColumn_48 : decode cX4_clearColumn 48 = .ok (.aaload, 1) := by decide +kernel
theorem dX4_clearColumn_49 : decode cX4_clearColumn 49 = .ok (.iload 7, 2) := by decide +kernel
theorem dX4_clearColumn_51 : decode cX4_clearColumn 51 = .ok (.laload, 1) := by decide +kernel
theorem dX4_clearColumn_52 : decode cX4_clearColumn 52 = .ok (.lmul, 1) := by decide +kernel
theorem dX4_clearColumn_53 : decode cX4_clearColumn 53 = .ok (.lload 5, 2) := by decide +kernel
theorem dX4_clearColumn_55 : decode cX4_clearColumn 55 = .ok (.aload_n 0, 1) := by decide +kernel
theorem dX4_clearColumn_56 : decode cX4_clearColumn 56 = .ok (.getfield 17, 3) := by decide +kernel
theorem dX4_clearColumn_59 : decode cX4_clearColumn 59 = .ok (.iload_n 2, 1) := by decide +kernel
theorem dX4_clearColumn_60 : decode cX4_clearColumn 60 = .ok (.aaload, 1) := by decide +kernel
theorem dX4_clearColumn_61 : decode cX4_clearColumn 61 = .ok (.iload 7, 2) := by decide +kernel
theorem dX4_clearColumn_63 : decode cX4_clearColumn 63 = .ok (.laload, 1) := by decide +kernel
theorem dX4_clearColumn_64 : decode cX4_clearColumn 64 = .ok (.lmul, 1) := by decide +kernel
theorem dX4_clearColumn_65 : decode cX4_clearColumn 65 = .ok (.lsub, 1) := by decide +kernel
theorem dX4_clearColumn_66 : decode cX4_clearColumn 66 = .ok (.aload_n 0, 1) := by decide +kernel
theorem dX4_clearColumn_67 : decode cX4_clearColumn 67 = .ok (.getfield 26, 3) := by decide +kernel
theorem dX4_clearColumn_70 : decode cX4_clearColumn 70 = .ok (.ldiv, 1) := by decide +kernel
theorem dX4_clearColumn_71 : decode cX4_clearColumn 71 = .ok (.lastore, 1) := by decide +kernel
theorem dX4_clearColumn_72 : decode cX4_clearColumn 72 = .ok (.iinc 7 1, 3) := by decide +kernel
theorem dX4_clearColumn_75 : decode cX4_clearColumn 75 = .ok (.goto (-52), 3) := by decide +kernel
theorem dX4_clearColumn_78 : decode cX4_clearColumn 78 = .ok (.return_, 1) := by decide +kernel
theorem dX4_above_0 : decode cX4_above 0 = .ok (.aload_n 1, 1) := by decide +kernel
theorem dX4_above_1 : decode cX4_above 1 = .ok (.iload_n 2, 1) := by decide +kernel
theorem dX4_above_2 : decode cX4_above 2 = .ok (.invokevirtual 59, 3) := by decide +kernel
theorem dX4_above_5 : decode cX4_above 5 = .ok (.ifCond .eq 22, 3) := by decide +kernel
theorem dX4_above_8 : decode cX4_above 8 = .ok (.aload_n 0, 1) := by decide +kernel
theorem dX4_above_9 : decode cX4_above 9 = .ok (.getfield 17, 3) := by decide +kernel
theorem dX4_above_12 : decode cX4_above 12 = .ok (.aload_n 0, 1) := by decide +kernel
theorem dX4_above_13 : decode cX4_above 13 = .ok (.getfield 9, 3) := by decide +kernel
theorem dX4_above_16 : decode cX4_above 16 = .ok (.iload_n 2, 1) := by decide +kernel
theorem dX4_above_17 : decode cX4_above 17 = .ok (.iaload, 1) := by decide +kernel
theorem dX4_above_18 : decode cX4_above 18 = .ok (.aaload, 1) := by decide +kernel
theorem dX4_above_19 : decode cX4_above 19 = .ok (.aload_n 0, 1) := by decide +kernel
theorem dX4_above_20 : decode cX4_above 20 = .ok (.getfield 52, 3) := by decide +kernel
theorem dX4_above_23 : decode cX4_above 23 = .ok (.iload_n 3, 1) := by decide +kernel
theorem dX4_above_24 : decode cX4_above 24 = .ok (.iadd, 1) := by decide +kernel
theorem dX4_above_25 : decode cX4_above 25 = .ok (.laload, 1) := by decide +kernel
theorem dX4_above_26 : decode cX4_above 26 = .ok (.lreturn, 1) := by decide +kernel
theorem dX4_above_27 : decode cX4_above 27 = .ok (.aload_n 1, 1) := by decide +kernel
theorem dX4_above_28 : decode cX4_above 28 = .ok (.getfield 89, 3) := by decide +kernel
theorem dX4_above_31 : decode cX4_above 31 = .ok (.iload_n 2, 1) := by decide +kernel
theorem dX4_above_32 : decode cX4_above 32 = .ok (.iconst 3, 1) := by decide +kernel
theorem dX4_above_33 : decode cX4_above 33 = .ok (.imul, 1) := by decide +kernel
theorem dX4_above_34 : decode cX4_above 34 = .ok (.iload_n 3, 1) := by decide +kernel
theorem dX4_above_35 : decode cX4_above 35 = .ok (.iadd, 1) := by decide +kernel
theorem dX4_above_36 : decode cX4_above 36 = .ok (.iaload, 1) := by decide +kernel
theorem dX4_above_37 : decode cX4_above 37 = .ok (.i2l, 1) := by decide +kernel
theorem dX4_above_38 : decode cX4_above 38 = .ok (.aload_n 0, 1) := by decide +kernel
theorem dX4_above_39 : decode cX4_above 39 = .ok (.getfield 26, 3) := by decide +kernel
theorem dX4_above_42 : decode cX4_above 42 = .ok (.lmul, 1) := by decide +kernel
theorem dX4_above_43 : decode cX4_above 43 = .ok (.lreturn, 1) := by decide +kernel
theorem dX4_tellHundredths_0 : decode cX4_tellHundredths 0 = .ok (.aload_n 0, 1) := by decide +kernel
theorem dX4_tellHundredths_1 : decode cX4_tellHundredths 1 = .ok (.getfield 26, 3) := by decide +kernel
theorem dX4_tellHundredths_4 : decode cX4_tellHundredths 4 = .ok (.lconst 0, 1) := by decide +kernel
theorem dX4_tellHundredths_5 : decode cX4_tellHundredths 5 = .ok (.lcmp, 1) := by decide +kernel
theorem dX4_tellHundredths_6 : decode cX4_tellHundredths 6 = .ok (.ifCond .gt 4, 3) := by decide +kernel
theorem dX4_tellHundredths_9 : decode cX4_tellHundredths 9 = .ok (.return_, 1) := by decide +kernel
theorem dX4_tellHundredths_10 : decode cX4_tellHundredths 10 = .ok (.iconst 0, 1) := by decide +kernel
theorem dX4_tellHundredths_11 : decode cX4_tellHundredths 11 = .ok (.istore_n 2, 1) := by decide +kernel
theorem dX4_tellHundredths_12 : decode cX4_tellHundredths 12 = .ok (.iload_n 2, 1) := by decide +kernel
theorem dX4_tellHundredths_13 : decode cX4_tellHundredths 13 = .ok (.aload_n 1, 1) := by decide +kernel
theorem dX4_tellHundredths_14 : decode cX4_tellHundredths 14 = .ok (.getfield 56, 3) := by decide +kernel
theorem dX4_tellHundredths_17 : decode cX4_tellHundredths 17 = .ok (.if_icmp .ge 51, 3) := by decide +kernel
theorem dX4_tellHundredths_20 : decode cX4_tellHundredths 20 = .ok (.iconst 0, 1) := by decide +kernel
theorem dX4_tellHundredths_21 : decode cX4_tellHundredths 21 = .ok (.istore_n 3, 1) := by decide +kernel
theorem dX4_tellHundredths_22 : decode cX4_tellHundredths 22 = .ok (.iload_n 3, 1) := by decide +kernel
theorem dX4_tellHundredths_23 : decode cX4_tellHundredths 23 = .ok (.iconst 3, 1) := by decide +kernel
theorem dX4_tellHundredths_24 : decode cX4_tellHundredths 24 = .ok (.if_icmp .ge 38, 3) := by decide +kernel
theorem dX4_tellHundredths_27 : decode cX4_tellHundredths 27 = .ok (.aload_n 0, 1) := by decide +kernel
theorem dX4_tellHundredths_28 : decode cX4_tellHundredths 28 = .ok (.getfield 20, 3) := by decide +kernel
theorem dX4_tellHundredths_31 : decode cX4_tellHundredths 31 = .ok (.iload_n 2, 1) := by decide +kernel
theorem dX4_tellHundredths_32 : decode cX4_tellHundredths 32 = .ok (.iconst 3, 1) := by decide +kernel
theorem dX4_tellHundredths_33 : decode cX4_tellHundredths 33 = .ok (.imul, 1) := by decide +kernel
theorem dX4_tellHundredths_34 : decode cX4_tellHundredths 34 = .ok (.iload_n 3, 1) := by decide +kernel
theorem dX4_tellHundredths_35 : decode cX4_tellHundredths 35 = .ok (.iadd, 1) := by decide +kernel
theorem dX4_tellHundredths_36 : decode cX4_tellHundredths 36 = .ok (.ldc2_w 96, 3) := by decide +kernel
theorem dX4_tellHundredths_39 : decode cX4_tellHundredths 39 = .ok (.aload_n 0, 1) := by decide +kernel
theorem dX4_tellHundredths_40 : decode cX4_tellHundredths 40 = .ok (.aload_n 1, 1) := by decide +kernel
theorem dX4_tellHundredths_41 : decode cX4_tellHundredths 41 = .ok (.iload_n 2, 1) := by decide +kernel
theorem dX4_tellHundredths_42 : decode cX4_tellHundredths 42 = .ok (.iload_n 3, 1) := by decide +kernel
theorem dX4_tellHundredths_43 : decode cX4_tellHundredths 43 = .ok (.invokevirtual 98, 3) := by decide +kernel
theorem dX4_tellHundredths_46 : decode cX4_tellHundredths 46 = .ok (.lmul, 1) := by decide +kernel
theorem dX4_tellHundredths_47 : decode cX4_tellHundredths 47 = .ok (.aload_n 0, 1) := by decide +kernel
theorem dX4_tellHundredths_48 : decode cX4_tellHundredths 48 = .ok (.getfield 26, 3) := by decide +kernel
theorem dX4_tellHundredths_51 : decode cX4_tellHundredths 51 = .ok (.invokestatic 102, 3) := by decide +kernel
theorem dX4_tellHundredths_54 : decode cX4_tellHundredths 54 = .ok (.l2i, 1) := by decide +kernel
theorem dX4_tellHundredths_55 : decode cX4_tellHundredths 55 = .ok (.iastore, 1) := by decide +kernel
theorem dX4_tellHundredths_56 : decode cX4_tellHundredths 56 = .ok (.iinc 3 1, 3) := by decide +kernel
theorem dX4_tellHundredths_59 : decode cX4_tellHundredths 59 = .ok (.goto (-37), 3) := by decide +kernel
theorem dX4_tellHundredths_62 : decode cX4_tellHundredths 62 = .ok (.iinc 2 1, 3) := by decide +kernel
theorem dX4_tellHundredths_65 : decode cX4_tellHundredths 65 = .ok (.goto (-53), 3) := by decide +kernel
theorem dX4_tellHundredths_68 : decode cX4_tellHundredths 68 = .ok (.return_, 1) := by decide +kernel
theorem dX4_tellLengths_0 : decode cX4_tellLengths 0 = .ok (.iconst 0, 1) := by decide +kernel
theorem dX4_tellLengths_1 : decode cX4_tellLengths 1 = .ok (.istore_n 2, 1) := by decide +kernel
theorem dX4_tellLengths_2 : decode cX4_tellLengths 2 = .ok (.iload_n 2, 1) := by decide +kernel
theorem dX4_tellLengths_3 : decode cX4_tellLengths 3 = .ok (.aload_n 1, 1) := by decide +kernel
theorem dX4_tellLengths_4 : decode cX4_tellLengths 4 = .ok (.getfield 66, 3) := by decide +kernel
theorem dX4_tellLengths_7 : decode cX4_tellLengths 7 = .ok (.if_icmp .ge 65, 3) := by decide +kernel
theorem dX4_tellLengths_10 : decode cX4_tellLengths 10 = .ok (.lconst 0, 1) := by decide +kernel
theorem dX4_tellLengths_11 : decode cX4_tellLengths 11 = .ok (.lstore_n 3, 1) := by decide +kernel
theorem dX4_tellLengths_12 : decode cX4_tellLengths 12 = .ok (.iconst 0, 1) := by decide +kernel
theorem dX4_tellLengths_13 : decode cX4_tellLengths 13 = .ok (.istore 5, 2) := by decide +kernel
theorem dX4_tellLengths_15 : decode cX4_tellLengths 15 = .ok (.iload 5, 2) := by decide +kernel
theorem dX4_tellLengths_17 : decode cX4_tellLengths 17 = .ok (.iconst 3, 1) := by decide +kernel
theorem dX4_tellLengths_18 : decode cX4_tellLengths 18 = .ok (.if_icmp .ge 38, 3) := by decide +kernel
theorem dX4_tellLengths_21 : decode cX4_tellLengths 21 = .ok (.aload_n 0, 1) := by decide +kernel
theorem dX4_tellLengths_22 : decode cX4_tellLengths 22 = .ok (.aload_n 1, 1) := by decide +kernel
theorem dX4_tellLengths_23 : decode cX4_tellLengths 23 = .ok (.getfield 72, 3) := by decide +kernel
theorem dX4_tellLengths_26 : decode cX4_tellLengths 26 = .ok (.iload_n 2, 1) := by decide +kernel
theorem dX4_tellLengths_27 : decode cX4_tellLengths 27 = .ok (.iaload, 1) := by decide +kernel
theorem dX4_tellLengths_28 : decode cX4_tellLengths 28 = .ok (.aload_n 1, 1) := by decide +kernel
theorem dX4_tellLengths_29 : decode cX4_tellLengths 29 = .ok (.getfield 79, 3) := by decide +kernel
theorem dX4_tellLengths_32 : decode cX4_tellLengths 32 = .ok (.iload_n 2, 1) := by decide +kernel
theorem dX4_tellLengths_33 : decode cX4_tellLengths 33 = .ok (.iaload, 1) := by decide +kernel
theorem dX4_tellLengths_34 : decode cX4_tellLengths 34 = .ok (.iload 5, 2) := by decide +kernel
theorem dX4_tellLengths_36 : decode cX4_tellLengths 36 = .ok (.invokevirtual 108, 3) := by decide +kernel
theorem dX4_tellLengths_39 : decode cX4_tellLengths 39 = .ok (.i2l, 1) := by decide +kernel
theorem dX4_tellLengths_40 : decode cX4_tellLengths 40 = .ok (.lstore 6, 2) := by decide +kernel
theorem dX4_tellLengths_42 : decode cX4_tellLengths 42 = .ok (.lload_n 3, 1) := by decide +kernel
theorem dX4_tellLengths_43 : decode cX4_tellLengths 43 = .ok (.lload 6, 2) := by decide +kernel
theorem dX4_tellLengths_45 : decode cX4_tellLengths 45 = .ok (.lload 6, 2) := by decide +kernel
theorem dX4_tellLengths_47 : decode cX4_tellLengths 47 = .ok (.lmul, 1) := by decide +kernel
theorem dX4_tellLengths_48 : decode cX4_tellLengths 48 = .ok (.ladd, 1) := by decide +kernel
theorem dX4_tellLengths_49 : decode cX4_tellLengths 49 = .ok (.lstore_n 3, 1) := by decide +kernel
theorem dX4_tellLengths_50 : decode cX4_tellLengths 50 = .ok (.iinc 5 1, 3) := by decide +kernel
theorem dX4_tellLengths_53 : decode cX4_tellLengths 53 = .ok (.goto (-38), 3) := by decide +kernel
theorem dX4_tellLengths_56 : decode cX4_tellLengths 56 = .ok (.aload_n 0, 1) := by decide +kernel
theorem dX4_tellLengths_57 : decode cX4_tellLengths 57 = .ok (.getfield 23, 3) := by decide +kernel
theorem dX4_tellLengths_60 : decode cX4_tellLengths 60 = .ok (.iload_n 2, 1) := by decide +kernel
theorem dX4_tellLengths_61 : decode cX4_tellLengths 61 = .ok (.lload_n 3, 1) := by decide +kernel
theorem dX4_tellLengths_62 : decode cX4_tellLengths 62 = .ok (.invokestatic 112, 3) := by decide +kernel
theorem dX4_tellLengths_65 : decode cX4_tellLengths 65 = .ok (.iastore, 1) := by decide +kernel
theorem dX4_tellLengths_66 : decode cX4_tellLengths 66 = .ok (.iinc 2 1, 3) := by decide +kernel
theorem dX4_tellLengths_69 : decode cX4_tellLengths 69 = .ok (.goto (-67), 3) := by decide +kernel
theorem dX4_tellLengths_72 : decode cX4_tellLengths 72 = .ok (.return_, 1) := by decide +kernel
theorem dX4_wayFrom_0 : decode cX4_wayFrom 0 = .ok (.aload_n 0, 1) := by decide +kernel
theorem dX4_wayFrom_1 : decode cX4_wayFrom 1 = .ok (.getfield 20, 3) := by decide +kernel
theorem dX4_wayFrom_4 : decode cX4_wayFrom 4 = .ok (.iload_n 2, 1) := by decide +kernel
theorem dX4_wayFrom_5 : decode cX4_wayFrom 5 = .ok (.iconst 3, 1) := by decide +kernel
theorem dX4_wayFrom_6 : decode cX4_wayFrom 6 = .ok (.imul, 1) := by decide +kernel
theorem dX4_wayFrom_7 : decode cX4_wayFrom 7 = .ok (.iload_n 3, 1) := by decide +kernel
theorem dX4_wayFrom_8 : decode cX4_wayFrom 8 = .ok (.iadd, 1) := by decide +kernel
theorem dX4_wayFrom_9 : decode cX4_wayFrom 9 = .ok (.iaload, 1) := by decide +kernel
theorem dX4_wayFrom_10 : decode cX4_wayFrom 10 = .ok (.aload_n 0, 1) := by decide +kernel
theorem dX4_wayFrom_11 : decode cX4_wayFrom 11 = .ok (.getfield 20, 3) := by decide +kernel
theorem dX4_wayFrom_14 : decode cX4_wayFrom 14 = .ok (.iload_n 1, 1) := by decide +kernel
theorem dX4_wayFrom_15 : decode cX4_wayFrom 15 = .ok (.iconst 3, 1) := by decide +kernel
theorem dX4_wayFrom_16 : decode cX4_wayFrom 16 = .ok (.imul, 1) := by decide +kernel
theorem dX4_wayFrom_17 : decode cX4_wayFrom 17 = .ok (.iload_n 3, 1) := by decide +kernel
theorem dX4_wayFrom_18 : decode cX4_wayFrom 18 = .ok (.iadd, 1) := by decide +kernel
theorem dX4_wayFrom_19 : decode cX4_wayFrom 19 = .ok (.iaload, 1) := by decide +kernel
theorem dX4_wayFrom_20 : decode cX4_wayFrom 20 = .ok (.isub, 1) := by decide +kernel
theorem dX4_wayFrom_21 : decode cX4_wayFrom 21 = .ok (.ireturn, 1) := by decide +kernel
theorem dX4_wholeRoot_0 : decode cX4_wholeRoot 0 = .ok (.iconst 0, 1) := by decide +kernel
theorem dX4_wholeRoot_1 : decode cX4_wholeRoot 1 = .ok (.istore_n 2, 1) := by decide +kernel
theorem dX4_wholeRoot_2 : decode cX4_wholeRoot 2 = .ok (.bipush 16, 2) := by decide +kernel
theorem dX4_wholeRoot_4 : decode cX4_wholeRoot 4 = .ok (.istore_n 3, 1) := by decide +kernel
theorem dX4_wholeRoot_5 : decode cX4_wholeRoot 5 = .ok (.iload_n 3, 1) := by decide +kernel
theorem dX4_wholeRoot_6 : decode cX4_wholeRoot 6 = .ok (.ifCond .lt 31, 3) := by decide +kernel
theorem dX4_wholeRoot_9 : decode cX4_wholeRoot 9 = .ok (.iload_n 2, 1) := by decide +kernel
theorem dX4_wholeRoot_10 : decode cX4_wholeRoot 10 = .ok (.iconst 1, 1) := by decide +kernel
theorem dX4_wholeRoot_11 : decode cX4_wholeRoot 11 = .ok (.iload_n 3, 1) := by decide +kernel
theorem dX4_wholeRoot_12 : decode cX4_wholeRoot 12 = .ok (.ishl, 1) := by decide +kernel
theorem dX4_wholeRoot_13 : decode cX4_wholeRoot 13 = .ok (.ior, 1) := by decide +kernel
theorem dX4_wholeRoot_14 : decode cX4_wholeRoot 14 = .ok (.i2l, 1) := by decide +kernel
theorem dX4_wholeRoot_15 : decode cX4_wholeRoot 15 = .ok (.lstore 4, 2) := by decide +kernel
theorem dX4_wholeRoot_17 : decode cX4_wholeRoot 17 = .ok (.lload 4, 2) := by decide +kernel
theorem dX4_wholeRoot_19 : decode cX4_wholeRoot 19 = .ok (.lload 4, 2) := by decide +kernel
theorem dX4_wholeRoot_21 : decode cX4_wholeRoot 21 = .ok (.lmul, 1) := by decide +kernel
theorem dX4_wholeRoot_22 : decode cX4_wholeRoot 22 = .ok (.lload_n 0, 1) := by decide +kernel
theorem dX4_wholeRoot_23 : decode cX4_wholeRoot 23 = .ok (.lcmp, 1) := by decide +kernel
theorem dX4_wholeRoot_24 : decode cX4_wholeRoot 24 = .ok (.ifCond .gt 7, 3) := by decide +kernel
theorem dX4_wholeRoot_27 : decode cX4_wholeRoot 27 = .ok (.lload 4, 2) := by decide +kernel
theorem dX4_wholeRoot_29 : decode cX4_wholeRoot 29 = .ok (.l2i, 1) := by decide +kernel
theorem dX4_wholeRoot_30 : decode cX4_wholeRoot 30 = .ok (.istore_n 2, 1) := by decide +kernel
theorem dX4_wholeRoot_31 : decode cX4_wholeRoot 31 = .ok (.iinc 3 (-1), 3) := by decide +kernel
theorem dX4_wholeRoot_34 : decode cX4_wholeRoot 34 = .ok (.goto (-29), 3) := by decide +kernel
theorem dX4_wholeRoot_37 : decode cX4_wholeRoot 37 = .ok (.iload_n 2, 1) := by decide +kernel
theorem dX4_wholeRoot_38 : decode cX4_wholeRoot 38 = .ok (.ireturn, 1) := by decide +kernel
theorem dX4_isWithinOthers_0 : decode cX4_isWithinOthers 0 = .ok (.aload_n 1, 1) := by decide +kernel
theorem dX4_isWithinOthers_1 : decode cX4_isWithinOthers 1 = .ok (.iload_n 2, 1) := by decide +kernel
theorem dX4_isWithinOthers_2 : decode cX4_isWithinOthers 2 = .ok (.invokevirtual 59, 3) := by decide +kernel
theorem dX4_isWithinOthers_5 : decode cX4_isWithinOthers 5 = .ok (.ifCond .ne 5, 3) := by decide +kernel
theorem dX4_isWithinOthers_8 : decode cX4_isWithinOthers 8 = .ok (.iconst 1, 1) := by decide +kernel
theorem dX4_isWithinOthers_9 : decode cX4_isWithinOthers 9 = .ok (.ireturn, 1) := by decide +kernel
theorem dX4_isWithinOthers_10 : decode cX4_isWithinOthers 10 = .ok (.iconst 0, 1) := by decide +kernel
theorem dX4_isWithinOthers_11 : decode cX4_isWithinOthers 11 = .ok (.istore_n 3, 1) := by decide +kernel
theorem dX4_isWithinOthers_12 : decode cX4_isWithinOthers 12 = .ok (.iload_n 3, 1) := by decide +kernel
theorem dX4_isWithinOthers_13 : decode cX4_isWithinOthers 13 = .ok (.iconst 3, 1) := by decide +kernel
theorem dX4_isWithinOthers_14 : decode cX4_isWithinOthers 14 = .ok (.if_icmp .ge 21, 3) := by decide +kernel
theorem dX4_isWithinOthers_17 : decode cX4_isWithinOthers 17 = .ok (.aload_n 0, 1) := by decide +kernel
theorem dX4_isWithinOthers_18 : decode cX4_isWithinOthers 18 = .ok (.aload_n 1, 1) := by decide +kernel
theorem dX4_isWithinOthers_19 : decode cX4_isWithinOthers 19 = .ok (.iload_n 2, 1) := by decide +kernel
theorem dX4_isWithinOthers_20 : decode cX4_isWithinOthers 20 = .ok (.iload_n 3, 1) := by decide +kernel
theorem dX4_isWithinOthers_21 : decode cX4_isWithinOthers 21 = .ok (.invokevirtual 116, 3) := by decide +kernel
theorem dX4_isWithinOthers_24 : decode cX4_isWithinOthers 24 = .ok (.ifCond .ne 5, 3) := by decide +kernel
theorem dX4_isWithinOthers_27 : decode cX4_isWithinOthers 27 = .ok (.iconst 0, 1) := by decide +kernel
theorem dX4_isWithinOthers_28 : decode cX4_isWithinOthers 28 = .ok (.ireturn, 1) := by decide +kernel
theorem dX4_isWithinOthers_29 : decode cX4_isWithinOthers 29 = .ok (.iinc 3 1, 3) := by decide +kernel
theorem dX4_isWithinOthers_32 : decode cX4_isWithinOthers 32 = .ok (.goto (-20), 3) := by decide +kernel
theorem dX4_isWithinOthers_35 : decode cX4_isWithinOthers 35 = .ok (.iconst 1, 1) := by decide +kernel
theorem dX4_isWithinOthers_36 : decode cX4_isWithinOthers 36 = .ok (.ireturn, 1) := by decide +kernel
theorem dX4_isBetweenOthers_0 : decode cX4_isBetweenOthers 0 = .ok (.aload_n 0, 1) := by decide +kernel
theorem dX4_isBetweenOthers_1 : decode cX4_isBetweenOthers 1 = .ok (.aload_n 1, 1) := by decide +kernel
theorem dX4_isBetweenOthers_2 : decode cX4_isBetweenOthers 2 = .ok (.iload_n 2, 1) := by decide +kernel
theorem dX4_isBetweenOthers_3 : decode cX4_isBetweenOthers 3 = .ok (.iload_n 3, 1) := by decide +kernel
theorem dX4_isBetweenOthers_4 : decode cX4_isBetweenOthers 4 = .ok (.invokevirtual 98, 3) := by decide +kernel
theorem dX4_isBetweenOthers_7 : decode cX4_isBetweenOthers 7 = .ok (.lstore 4, 2) := by decide +kernel
theorem dX4_isBetweenOthers_9 : decode cX4_isBetweenOthers 9 = .ok (.aload_n 1, 1) := by decide +kernel
theorem dX4_isBetweenOthers_10 : decode cX4_isBetweenOthers 10 = .ok (.iload_n 2, 1) := by decide +kernel
theorem dX4_isBetweenOthers_11 : decode cX4_isBetweenOthers 11 = .ok (.invokevirtual 120, 3) := by decide +kernel
theorem dX4_isBetweenOthers_14 : decode cX4_isBetweenOthers 14 = .ok (.aload_n 1, 1) := by decide +kernel
theorem dX4_isBetweenOthers_15 : decode cX4_isBetweenOthers 15 = .ok (.getfield 124, 3) := by decide +kernel
theorem dX4_isBetweenOthers_18 : decode cX4_isBetweenOthers 18 = .ok (.iand, 1) := by decide +kernel
theorem dX4_isBetweenOthers_19 : decode cX4_isBetweenOthers 19 = .ok (.istore 6, 2) := by decide +kernel
theorem dX4_isBetweenOthers_21 : decode cX4_isBetweenOthers 21 = .ok (.iconst 0, 1) := by decide +kernel
theorem dX4_isBetweenOthers_22 : decode cX4_isBetweenOthers 22 = .ok (.istore 7, 2) := by decide +kernel
theorem dX4_isBetweenOthers_24 : decode cX4_isBetweenOthers 24 = .ok (.iconst 0, 1) := by decide +kernel
theorem dX4_isBetweenOthers_25 : decode cX4_isBetweenOthers 25 = .ok (.istore 8, 2) := by decide +kernel
theorem dX4_isBetweenOthers_27 : decode cX4_isBetweenOthers 27 = .ok (.iconst 0, 1) := by decide +kernel
theorem dX4_isBetweenOthers_28 : decode cX4_isBetweenOthers 28 = .ok (.istore 9, 2) := by decide +kernel
theorem dX4_isBetweenOthers_30 : decode cX4_isBetweenOthers 30 = .ok (.iload 9, 2) := by decide +kernel
theorem dX4_isBetweenOthers_32 : decode cX4_isBetweenOthers 32 = .ok (.aload_n 1, 1) := by decide +kernel
theorem dX4_isBetweenOthers_33 : decode cX4_isBetweenOthers 33 = .ok (.getfield 66, 3) := by decide +kernel
theorem dX4_isBetweenOthers_36 : decode cX4_isBetweenOthers 36 = .ok (.if_icmp .ge 75, 3) := by decide +kernel
theorem dX4_isBetweenOthers_39 : decode cX4_isBetweenOthers 39 = .ok (.iload 6, 2) := by decide +kernel
theorem dX4_isBetweenOthers_41 : decode cX4_isBetweenOthers 41 = .ok (.iload 9, 2) := by decide +kernel
theorem dX4_isBetweenOthers_43 : decode cX4_isBetweenOthers 43 = .ok (.ishr, 1) := by decide +kernel
theorem dX4_isBetweenOthers_44 : decode cX4_isBetweenOthers 44 = .ok (.iconst 1, 1) := by decide +kernel
theorem dX4_isBetweenOthers_45 : decode cX4_isBetweenOthers 45 = .ok (.iand, 1) := by decide +kernel
theorem dX4_isBetweenOthers_46 : decode cX4_isBetweenOthers 46 = .ok (.iconst 1, 1) := by decide +kernel
theorem dX4_isBetweenOthers_47 : decode cX4_isBetweenOthers 47 = .ok (.if_icmp .ne 58, 3) := by decide +kernel
theorem dX4_isBetweenOthers_50 : decode cX4_isBetweenOthers 50 = .ok (.aload_n 0, 1) := by decide +kernel
theorem dX4_isBetweenOthers_51 : decode cX4_isBetweenOthers 51 = .ok (.aload_n 1, 1) := by decide +kernel
theorem dX4_isBetweenOthers_52 : decode cX4_isBetweenOthers 52 = .ok (.aload_n 1, 1) := by decide +kernel
theorem dX4_isBetweenOthers_53 : decode cX4_isBetweenOthers 53 = .ok (.iload 9, 2) := by decide +kernel
theorem dX4_isBetweenOthers_55 : decode cX4_isBetweenOthers 55 = .ok (.iload_n 2, 1) := by decide +kernel
theorem dX4_isBetweenOthers_56 : decode cX4_isBetweenOthers 56 = .ok (.invokevirtual 82, 3) := by decide +kernel
theorem dX4_isBetweenOthers_59 : decode cX4_isBetweenOthers 59 = .ok (.iload_n 3, 1) := by decide +kernel
theorem dX4_isBetweenOthers_60 : decode cX4_isBetweenOthers 60 = .ok (.invokevirtual 98, 3) := by decide +kernel
theorem dX4_isBetweenOthers_63 : decode cX4_isBetweenOthers 63 = .ok (.lstore 10, 2) := by decide +kernel
theorem dX4_isBetweenOthers_65 : decode cX4_isBetweenOthers 65 = .ok (.iload 7, 2) := by decide +kernel
theorem dX4_isBetweenOthers_67 : decode cX4_isBetweenOthers 67 = .ok (.ifCond .ne 11, 3) := by decide +kernel
theorem dX4_isBetweenOthers_70 : decode cX4_isBetweenOthers 70 = .ok (.lload 10, 2) := by decide +kernel
theorem dX4_isBetweenOthers_72 : decode cX4_isBetweenOthers 72 = .ok (.lload 4, 2) := by decide +kernel
theorem dX4_isBetweenOthers_74 : decode cX4_isBetweenOthers 74 = .ok (.lcmp, 1) := by decide +kernel
theorem dX4_isBetweenOthers_75 : decode cX4_isBetweenOthers 75 = .ok (.ifCond .gt 7, 3) := by decide +kernel
theorem dX4_isBetweenOthers_78 : decode cX4_isBetweenOthers 78 = .ok (.iconst 1, 1) := by decide +kernel
theorem dX4_isBetweenOthers_79 : decode cX4_isBetweenOthers 79 = .ok (.goto 4, 3) := by decide +kernel
theorem dX4_isBetweenOthers_82 : decode cX4_isBetweenOthers 82 = .ok (.iconst 0, 1) := by decide +kernel
theorem dX4_isBetweenOthers_83 : decode cX4_isBetweenOthers 83 = .ok (.istore 7, 2) := by decide +kernel
theorem dX4_isBetweenOthers_85 : decode cX4_isBetweenOthers 85 = .ok (.iload 8, 2) := by decide +kernel
theorem dX4_isBetweenOthers_87 : decode cX4_isBetweenOthers 87 = .ok (.ifCond .ne 11, 3) := by decide +kernel
theorem dX4_isBetweenOthers_90 : decode cX4_isBetweenOthers 90 = .ok (.lload 10, 2) := by decide +kernel
theorem dX4_isBetweenOthers_92 : decode cX4_isBetweenOthers 92 = .ok (.lload 4, 2) := by decide +kernel
theorem dX4_isBetweenOthers_94 : decode cX4_isBetweenOthers 94 = .ok (.lcmp, 1) := by decide +kernel
theorem dX4_isBetweenOthers_95 : decode cX4_isBetweenOthers 95 = .ok (.ifCond .lt 7, 3) := by decide +kernel
theorem dX4_isBetweenOthers_98 : decode cX4_isBetweenOthers 98 = .ok (.iconst 1, 1) := by decide +kernel
theorem dX4_isBetweenOthers_99 : decode cX4_isBetweenOthers 99 = .ok (.goto 4, 3) := by decide +kernel
theorem dX4_isBetweenOthers_102 : decode cX4_isBetweenOthers 102 = .ok (.iconst 0, 1) := by decide +kernel
theorem dX4_isBetweenOthers_103 : decode cX4_isBetweenOthers 103 = .ok (.istore 8, 2) := by decide +kernel
theorem dX4_isBetweenOthers_105 : decode cX4_isBetweenOthers 105 = .ok (.iinc 9 1, 3) := by decide +kernel
theorem dX4_isBetweenOthers_108 : decode cX4_isBetweenOthers 108 = .ok (.goto (-78), 3) := by decide +kernel
theorem dX4_isBetweenOthers_111 : decode cX4_isBetweenOthers 111 = .ok (.iload 7, 2) := by decide +kernel
theorem dX4_isBetweenOthers_113 : decode cX4_isBetweenOthers 113 = .ok (.ifCond .eq 12, 3) := by decide +kernel
theorem dX4_isBetweenOthers_116 : decode cX4_isBetweenOthers 116 = .ok (.iload 8, 2) := by decide +kernel
theorem dX4_isBetweenOthers_118 : decode cX4_isBetweenOthers 118 = .ok (.ifCond .eq 7, 3) := by decide +kernel
theorem dX4_isBetweenOthers_121 : decode cX4_isBetweenOthers 121 = .ok (.iconst 1, 1) := by decide +kernel
theorem dX4_isBetweenOthers_122 : decode cX4_isBetweenOthers 122 = .ok (.goto 4, 3) := by decide +kernel
theorem dX4_isBetweenOthers_125 : decode cX4_isBetweenOthers 125 = .ok (.iconst 0, 1) := by decide +kernel
theorem dX4_isBetweenOthers_126 : decode cX4_isBetweenOthers 126 = .ok (.ireturn, 1) := by decide +kernel
theorem dX4_borne_0 : decode cX4_borne 0 = .ok (.aload_n 1, 1) := by decide +kernel
theorem dX4_borne_1 : decode cX4_borne 1 = .ok (.iload_n 2, 1) := by decide +kernel
theorem dX4_borne_2 : decode cX4_borne 2 = .ok (.invokevirtual 120, 3) := by decide +kernel
theorem dX4_borne_5 : decode cX4_borne 5 = .ok (.aload_n 1, 1) := by decide +kernel
theorem dX4_borne_6 : decode cX4_borne 6 = .ok (.getfield 124, 3) := by decide +kernel
theorem dX4_borne_9 : decode cX4_borne 9 = .ok (.iand, 1) := by decide +kernel
theorem dX4_borne_10 : decode cX4_borne 10 = .ok (.istore 4, 2) := by decide +kernel
theorem dX4_borne_12 : decode cX4_borne 12 = .ok (.iconst 0, 1) := by decide +kernel
theorem dX4_borne_13 : decode cX4_borne 13 = .ok (.istore 5, 2) := by decide +kernel
theorem dX4_borne_15 : decode cX4_borne 15 = .ok (.iconst 0, 1) := by decide +kernel
theorem dX4_borne_16 : decode cX4_borne 16 = .ok (.istore 6, 2) := by decide +kernel
theorem dX4_borne_18 : decode cX4_borne 18 = .ok (.iload 6, 2) := by decide +kernel
theorem dX4_borne_20 : decode cX4_borne 20 = .ok (.aload_n 1, 1) := by decide +kernel
theorem dX4_borne_21 : decode cX4_borne 21 = .ok (.getfield 66, 3) := by decide +kernel
theorem dX4_borne_24 : decode cX4_borne 24 = .ok (.if_icmp .ge 46, 3) := by decide +kernel
theorem dX4_borne_27 : decode cX4_borne 27 = .ok (.iload 4, 2) := by decide +kernel
theorem dX4_borne_29 : decode cX4_borne 29 = .ok (.iload 6, 2) := by decide +kernel
theorem dX4_borne_31 : decode cX4_borne 31 = .ok (.ishr, 1) := by decide +kernel
theorem dX4_borne_32 : decode cX4_borne 32 = .ok (.iconst 1, 1) := by decide +kernel
theorem dX4_borne_33 : decode cX4_borne 33 = .ok (.iand, 1) := by decide +kernel
theorem dX4_borne_34 : decode cX4_borne 34 = .ok (.iconst 1, 1) := by decide +kernel
theorem dX4_borne_35 : decode cX4_borne 35 = .ok (.if_icmp .ne 29, 3) := by decide +kernel
theorem dX4_borne_38 : decode cX4_borne 38 = .ok (.iload 5, 2) := by decide +kernel
theorem dX4_borne_40 : decode cX4_borne 40 = .ok (.aload_n 1, 1) := by decide +kernel
theorem dX4_borne_41 : decode cX4_borne 41 = .ok (.getfield 86, 3) := by decide +kernel
theorem dX4_borne_44 : decode cX4_borne 44 = .ok (.iload 6, 2) := by decide +kernel
theorem dX4_borne_46 : decode cX4_borne 46 = .ok (.iaload, 1) := by decide +kernel
theorem dX4_borne_47 : decode cX4_borne 47 = .ok (.aload_n 0, 1) := by decide +kernel
theorem dX4_borne_48 : decode cX4_borne 48 = .ok (.iload_n 2, 1) := by decide +kernel
theorem dX4_borne_49 : decode cX4_borne 49 = .ok (.aload_n 1, 1) := by decide +kernel
theorem dX4_borne_50 : decode cX4_borne 50 = .ok (.iload 6, 2) := by decide +kernel
theorem dX4_borne_52 : decode cX4_borne 52 = .ok (.iload_n 2, 1) := by decide +kernel
theorem dX4_borne_53 : decode cX4_borne 53 = .ok (.invokevirtual 82, 3) := by decide +kernel
theorem dX4_borne_56 : decode cX4_borne 56 = .ok (.iload_n 3, 1) := by decide +kernel
theorem dX4_borne_57 : decode cX4_borne 57 = .ok (.invokevirtual 108, 3) := by decide +kernel
theorem dX4_borne_60 : decode cX4_borne 60 = .ok (.imul, 1) := by decide +kernel
theorem dX4_borne_61 : decode cX4_borne 61 = .ok (.iadd, 1) := by decide +kernel
theorem dX4_borne_62 : decode cX4_borne 62 = .ok (.istore 5, 2) := by decide +kernel
theorem dX4_borne_64 : decode cX4_borne 64 = .ok (.iinc 6 1, 3) := by decide +kernel
theorem dX4_borne_67 : decode cX4_borne 67 = .ok (.goto (-49), 3) := by decide +kernel
theorem dX4_borne_70 : decode cX4_borne 70 = .ok (.iload 5, 2) := by decide +kernel
theorem dX4_borne_72 : decode cX4_borne 72 = .ok (.ireturn, 1) := by decide +kernel
theorem dX4_pull_0 : decode cX4_pull 0 = .ok (.aload_n 1, 1) := by decide +kernel
theorem dX4_pull_1 : decode cX4_pull 1 = .ok (.getfield 86, 3) := by decide +kernel
theorem dX4_pull_4 : decode cX4_pull 4 = .ok (.iload_n 2, 1) := by decide +kernel
theorem dX4_pull_5 : decode cX4_pull 5 = .ok (.iaload, 1) := by decide +kernel
theorem dX4_pull_6 : decode cX4_pull 6 = .ok (.aload_n 0, 1) := by decide +kernel
theorem dX4_pull_7 : decode cX4_pull 7 = .ok (.getfield 23, 3) := by decide +kernel
theorem dX4_pull_10 : decode cX4_pull 10 = .ok (.iload_n 2, 1) := by decide +kernel
theorem dX4_pull_11 : decode cX4_pull 11 = .ok (.iaload, 1) := by decide +kernel
theorem dX4_pull_12 : decode cX4_pull 12 = .ok (.imul, 1) := by decide +kernel
theorem dX4_pull_13 : decode cX4_pull 13 = .ok (.ireturn, 1) := by decide +kernel
theorem dX4_off_0 : decode cX4_off 0 = .ok (.aload_n 0, 1) := by decide +kernel
theorem dX4_off_1 : decode cX4_off 1 = .ok (.getfield 23, 3) := by decide +kernel
theorem dX4_off_4 : decode cX4_off 4 = .ok (.iload_n 2, 1) := by decide +kernel
theorem dX4_off_5 : decode cX4_off 5 = .ok (.iaload, 1) := by decide +kernel
theorem dX4_off_6 : decode cX4_off 6 = .ok (.bipush 100, 2) := by decide +kernel
theorem dX4_off_8 : decode cX4_off 8 = .ok (.aload_n 1, 1) := by decide +kernel
theorem dX4_off_9 : decode cX4_off 9 = .ok (.getfield 127, 3) := by decide +kernel
theorem dX4_off_12 : decode cX4_off 12 = .ok (.iload_n 2, 1) := by decide +kernel
theorem dX4_off_13 : decode cX4_off 13 = .ok (.iaload, 1) := by decide +kernel
theorem dX4_off_14 : decode cX4_off 14 = .ok (.imul, 1) := by decide +kernel
theorem dX4_off_15 : decode cX4_off 15 = .ok (.isub, 1) := by decide +kernel
theorem dX4_off_16 : decode cX4_off 16 = .ok (.invokestatic 130, 3) := by decide +kernel
theorem dX4_off_19 : decode cX4_off 19 = .ok (.ireturn, 1) := by decide +kernel
theorem dX4_slackStrands_0 : decode cX4_slackStrands 0 = .ok (.iconst 0, 1) := by decide +kernel
theorem dX4_slackStrands_1 : decode cX4_slackStrands 1 = .ok (.istore_n 2, 1) := by decide +kernel
theorem dX4_slackStrands_2 : decode cX4_slackStrands 2 = .ok (.iconst 0, 1) := by decide +kernel
theorem dX4_slackStrands_3 : decode cX4_slackStrands 3 = .ok (.istore_n 3, 1) := by decide +kernel
theorem dX4_slackStrands_4 : decode cX4_slackStrands 4 = .ok (.iload_n 3, 1) := by decide +kernel
theorem dX4_slackStrands_5 : decode cX4_slackStrands 5 = .ok (.aload_n 1, 1) := by decide +kernel
theorem dX4_slackStrands_6 : decode cX4_slackStrands 6 = .ok (.getfield 66, 3) := by decide +kernel
theorem dX4_slackStrands_9 : decode cX4_slackStrands 9 = .ok (.if_icmp .ge 41, 3) := by decide +kernel
theorem dX4_slackStrands_12 : decode cX4_slackStrands 12 = .ok (.aload_n 1, 1) := by decide +kernel
theorem dX4_slackStrands_13 : decode cX4_slackStrands 13 = .ok (.iload_n 3, 1) := by decide +kernel
theorem dX4_slackStrands_14 : decode cX4_slackStrands 14 = .ok (.invokevirtual 69, 3) := by decide +kernel
theorem dX4_slackStrands_17 : decode cX4_slackStrands 17 = .ok (.ifCond .eq 27, 3) := by decide +kernel
theorem dX4_slackStrands_20 : decode cX4_slackStrands 20 = .ok (.aload_n 0, 1) := by decide +kernel
theorem dX4_slackStrands_21 : decode cX4_slackStrands 21 = .ok (.getfield 23, 3) := by decide +kernel
theorem dX4_slackStrands_24 : decode cX4_slackStrands 24 = .ok (.iload_n 3, 1) := by decide +kernel
theorem dX4_slackStrands_25 : decode cX4_slackStrands 25 = .ok (.iaload, 1) := by decide +kernel
theorem dX4_slackStrands_26 : decode cX4_slackStrands 26 = .ok (.bipush 100, 2) := by decide +kernel
theorem dX4_slackStrands_28 : decode cX4_slackStrands 28 = .ok (.aload_n 1, 1) := by decide +kernel
theorem dX4_slackStrands_29 : decode cX4_slackStrands 29 = .ok (.getfield 127, 3) := by decide +kernel
theorem dX4_slackStrands_32 : decode cX4_slackStrands 32 = .ok (.iload_n 3, 1) := by decide +kernel
theorem dX4_slackStrands_33 : decode cX4_slackStrands 33 = .ok (.iaload, 1) := by decide +kernel
theorem dX4_slackStrands_34 : decode cX4_slackStrands 34 = .ok (.imul, 1) := by decide +kernel
theorem dX4_slackStrands_35 : decode cX4_slackStrands 35 = .ok (.if_icmp .ge 9, 3) := by decide +kernel
theorem dX4_slackStrands_38 : decode cX4_slackStrands 38 = .ok (.iload_n 2, 1) := by decide +kernel
theorem dX4_slackStrands_39 : decode cX4_slackStrands 39 = .ok (.iconst 1, 1) := by decide +kernel
theorem dX4_slackStrands_40 : decode cX4_slackStrands 40 = .ok (.iload_n 3, 1) := by decide +kernel
theorem dX4_slackStrands_41 : decode cX4_slackStrands 41 = .ok (.ishl, 1) := by decide +kernel
theorem dX4_slackStrands_42 : decode cX4_slackStrands 42 = .ok (.ior, 1) := by decide +kernel
theorem dX4_slackStrands_43 : decode cX4_slackStrands 43 = .ok (.istore_n 2, 1) := by decide +kernel
theorem dX4_slackStrands_44 : decode cX4_slackStrands 44 = .ok (.iinc 3 1, 3) := by decide +kernel
theorem dX4_slackStrands_47 : decode cX4_slackStrands 47 = .ok (.goto (-43), 3) := by decide +kernel
theorem dX4_slackStrands_50 : decode cX4_slackStrands 50 = .ok (.iload_n 2, 1) := by decide +kernel
theorem dX4_slackStrands_51 : decode cX4_slackStrands 51 = .ok (.ireturn, 1) := by decide +kernel
theorem dX4_missed_0 : decode cX4_missed 0 = .ok (.iconst 0, 1) := by decide +kernel
theorem dX4_missed_1 : decode cX4_missed 1 = .ok (.istore_n 2, 1) := by decide +kernel
theorem dX4_missed_2 : decode cX4_missed 2 = .ok (.iconst 0, 1) := by decide +kernel
theorem dX4_missed_3 : decode cX4_missed 3 = .ok (.istore_n 3, 1) := by decide +kernel
theorem dX4_missed_4 : decode cX4_missed 4 = .ok (.iload_n 3, 1) := by decide +kernel
theorem dX4_missed_5 : decode cX4_missed 5 = .ok (.aload_n 1, 1) := by decide +kernel
theorem dX4_missed_6 : decode cX4_missed 6 = .ok (.getfield 66, 3) := by decide +kernel
theorem dX4_missed_9 : decode cX4_missed 9 = .ok (.if_icmp .ge 35, 3) := by decide +kernel
theorem dX4_missed_12 : decode cX4_missed 12 = .ok (.aload_n 1, 1) := by decide +kernel
theorem dX4_missed_13 : decode cX4_missed 13 = .ok (.iload_n 3, 1) := by decide +kernel
theorem dX4_missed_14 : decode cX4_missed 14 = .ok (.invokevirtual 69, 3) := by decide +kernel
theorem dX4_missed_17 : decode cX4_missed 17 = .ok (.ifCond .eq 21, 3) := by decide +kernel
theorem dX4_missed_20 : decode cX4_missed 20 = .ok (.aload_n 1, 1) := by decide +kernel
theorem dX4_missed_21 : decode cX4_missed 21 = .ok (.getfield 127, 3) := by decide +kernel
theorem dX4_missed_24 : decode cX4_missed 24 = .ok (.iload_n 3, 1) := by decide +kernel
theorem dX4_missed_25 : decode cX4_missed 25 = .ok (.iaload, 1) := by decide +kernel
theorem dX4_missed_26 : decode cX4_missed 26 = .ok (.ifCond .le 12, 3) := by decide +kernel
theorem dX4_missed_29 : decode cX4_missed 29 = .ok (.iload_n 2, 1) := by decide +kernel
theorem dX4_missed_30 : decode cX4_missed 30 = .ok (.aload_n 0, 1) := by decide +kernel
theorem dX4_missed_31 : decode cX4_missed 31 = .ok (.aload_n 1, 1) := by decide +kernel
theorem dX4_missed_32 : decode cX4_missed 32 = .ok (.iload_n 3, 1) := by decide +kernel
theorem dX4_missed_33 : decode cX4_missed 33 = .ok (.invokevirtual 133, 3) := by decide +kernel
theorem dX4_missed_36 : decode cX4_missed 36 = .ok (.iadd, 1) := by decide +kernel
theorem dX4_missed_37 : decode cX4_missed 37 = .ok (.istore_n 2, 1) := by decide +kernel
theorem dX4_missed_38 : decode cX4_missed 38 = .ok (.iinc 3 1, 3) := by decide +kernel
theorem dX4_missed_41 : decode cX4_missed 41 = .ok (.goto (-37), 3) := by decide +kernel
theorem dX4_missed_44 : decode cX4_missed 44 = .ok (.iload_n 2, 1) := by decide +kernel
theorem dX4_missed_45 : decode cX4_missed 45 = .ok (.ireturn, 1) := by decide +kernel
theorem dX7_init_0 : decode cX7_init 0 = .ok (.aload_n 0, 1) := by decide +kernel
theorem dX7_init_1 : decode cX7_init 1 = .ok (.invokespecial 1, 3) := by decide +kernel
theorem dX7_init_4 : decode cX7_init 4 = .ok (.aload_n 0, 1) := by decide +kernel
theorem dX7_init_5 : decode cX7_init 5 = .ok (.new 7, 3) := by decide +kernel
theorem dX7_init_8 : decode cX7_init 8 = .ok (.dup, 1) := by decide +kernel
theorem dX7_init_9 : decode cX7_init 9 = .ok (.invokespecial 9, 3) := by decide +kernel
theorem dX7_init_12 : decode cX7_init 12 = .ok (.putfield 10, 3) := by decide +kernel
theorem dX7_init_15 : decode cX7_init 15 = .ok (.aload_n 0, 1) := by decide +kernel
theorem dX7_init_16 : decode cX7_init 16 = .ok (.new 16, 3) := by decide +kernel
theorem dX7_init_19 : decode cX7_init 19 = .ok (.dup, 1) := by decide +kernel
theorem dX7_init_20 : decode cX7_init 20 = .ok (.invokespecial 18, 3) := by decide +kernel
theorem dX7_init_23 : decode cX7_init 23 = .ok (.putfield 19, 3) := by decide +kernel
theorem dX7_init_26 : decode cX7_init 26 = .ok (.aload_n 0, 1) := by decide +kernel
theorem dX7_init_27 : decode cX7_init 27 = .ok (.new 23, 3) := by decide +kernel
theorem dX7_init_30 : decode cX7_init 30 = .ok (.dup, 1) := by decide +kernel
theorem dX7_init_31 : decode cX7_init 31 = .ok (.invokespecial 25, 3) := by decide +kernel
theorem dX7_init_34 : decode cX7_init 34 = .ok (.putfield 26, 3) := by decide +kernel
theorem dX7_init_37 : decode cX7_init 37 = .ok (.aload_n 0, 1) := by decide +kernel
theorem dX7_init_38 : decode cX7_init 38 = .ok (.new 30, 3) := by decide +kernel
theorem dX7_init_41 : decode cX7_init 41 = .ok (.dup, 1) := by decide +kernel
theorem dX7_init_42 : decode cX7_init 42 = .ok (.invokespecial 32, 3) := by decide +kernel
theorem dX7_init_45 : decode cX7_init 45 = .ok (.putfield 33, 3) := by decide +kernel
theorem dX7_init_48 : decode cX7_init 48 = .ok (.aload_n 0, 1) := by decide +kernel
theorem dX7_init_49 : decode cX7_init 49 = .ok (.new 37, 3) := by decide +kernel
theorem dX7_init_52 : decode cX7_init 52 = .ok (.dup, 1) := by decide +kernel
theorem dX7_init_53 : decode cX7_init 53 = .ok (.invokespecial 39, 3) := by decide +kernel
theorem dX7_init_56 : decode cX7_init 56 = .ok (.putfield 40, 3) := by decide +kernel
theorem dX7_init_59 : decode cX7_init 59 = .ok (.aload_n 0, 1) := by decide +kernel
theorem dX7_init_60 : decode cX7_init 60 = .ok (.new 44, 3) := by decide +kernel
theorem dX7_init_63 : decode cX7_init 63 = .ok (.dup, 1) := by decide +kernel
theorem dX7_init_64 : decode cX7_init 64 = .ok (.invokespecial 46, 3) := by decide +kernel
theorem dX7_init_67 : decode cX7_init 67 = .ok (.putfield 47, 3) := by decide +kernel
theorem dX7_init_70 : decode cX7_init 70 = .ok (.aload_n 0, 1) := by decide +kernel
theorem dX7_init_71 : decode cX7_init 71 = .ok (.new 51, 3) := by decide +kernel
theorem dX7_init_74 : decode cX7_init 74 = .ok (.dup, 1) := by decide +kernel
theorem dX7_init_75 : decode cX7_init 75 = .ok (.invokespecial 53, 3) := by decide +kernel
theorem dX7_init_78 : decode cX7_init 78 = .ok (.putfield 54, 3) := by decide +kernel
theorem dX7_init_81 : decode cX7_init 81 = .ok (.aload_n 0, 1) := by decide +kernel
theorem dX7_init_82 : decode cX7_init 82 = .ok (.new 51, 3) := by decide +kernel
theorem dX7_init_85 : decode cX7_init 85 = .ok (.dup, 1) := by decide +kernel
theorem dX7_init_86 : decode cX7_init 86 = .ok (.invokespecial 53, 3) := by decide +kernel
theorem dX7_init_89 : decode cX7_init 89 = .ok (.putfield 58, 3) := by decide +kernel
theorem dX7_init_92 : decode cX7_init 92 = .ok (.iconst 0, 1) := by decide +kernel
theorem dX7_init_93 : decode cX7_init 93 = .ok (.istore_n 1, 1) := by decide +kernel
theorem dX7_init_94 : decode cX7_init 94 = .ok (.iload_n 1, 1) := by decide +kernel
theorem dX7_init_95 : decode cX7_init 95 = .ok (.ldc 61, 2) := by decide +kernel
theorem dX7_init_97 : decode cX7_init 97 = .ok (.invokevirtual 63, 3) := by decide +kernel
theorem dX7_init_100 : decode cX7_init 100 = .ok (.if_icmp .ge 23, 3) := by decide +kernel
theorem dX7_init_103 : decode cX7_init 103 = .ok (.aload_n 0, 1) := by decide +kernel
theorem dX7_init_104 : decode cX7_init 104 = .ok (.getfield 10, 3) := by decide +kernel
theorem dX7_init_107 : decode cX7_init 107 = .ok (.ldc 61, 2) := by decide +kernel
theorem dX7_init_109 : decode cX7_init 109 = .ok (.iload_n 1, 1) := by decide +kernel
theorem dX7_init_110 : decode cX7_init 110 = .ok (.invokevirtual 69, 3) := by decide +kernel
theorem dX7_init_113 : decode cX7_init 113 = .ok (.invokevirtual 73, 3) := by decide +kernel
theorem dX7_init_116 : decode cX7_init 116 = .ok (.pop, 1) := by decide +kernel
theorem dX7_init_117 : decode cX7_init 117 = .ok (.iinc 1 1, 3) := by decide +kernel
theorem dX7_init_120 : decode cX7_init 120 = .ok (.goto (-26), 3) := by decide +kernel
theorem dX7_init_123 : decode cX7_init 123 = .ok (.aload_n 0, 1) := by decide +kernel
theorem dX7_init_124 : decode cX7_init 124 = .ok (.getfield 19, 3) := by decide +kernel
theorem dX7_init_127 : decode cX7_init 127 = .ok (.aload_n 0, 1) := by decide +kernel
theorem dX7_init_128 : decode cX7_init 128 = .ok (.getfield 54, 3) := by decide +kernel
theorem dX7_init_131 : decode cX7_init 131 = .ok (.aload_n 0, 1) := by decide +kernel
theorem dX7_init_132 : decode cX7_init 132 = .ok (.getfield 10, 3) := by decide +kernel
theorem dX7_init_135 : decode cX7_init 135 = .ok (.invokevirtual 77, 3) := by decide +kernel
theorem dX7_init_138 : decode cX7_init 138 = .ok (.pop, 1) := by decide +kernel
theorem dX7_init_139 : decode cX7_init 139 = .ok (.aload_n 0, 1) := by decide +kernel
theorem dX7_init_140 : decode cX7_init 140 = .ok (.getfield 10, 3) := by decide +kernel
theorem dX7_init_143 : decode cX7_init 143 = .ok (.iconst 0, 1) := by decide +kernel
theorem dX7_init_144 : decode cX7_init 144 = .ok (.putfield 81, 3) := by decide +kernel
theorem dX7_init_147 : decode cX7_init 147 = .ok (.return_, 1) := by decide +kernel
theorem dX7_write_0 : decode cX7_write 0 = .ok (.iload_n 1, 1) := by decide +kernel
theorem dX7_write_1 : decode cX7_write 1 = .ok (.bipush 32, 2) := by decide +kernel
theorem dX7_write_3 : decode cX7_write 3 = .ok (.bipush 126, 2) := by decide +kernel
theorem dX7_write_5 : decode cX7_write 5 = .ok (.invokestatic 85, 3) := by decide +kernel
theorem dX7_write_8 : decode cX7_write 8 = .ok (.ifCond .ne 5, 3) := by decide +kernel
theorem dX7_write_11 : decode cX7_write 11 = .ok (.iconst (-1), 1) := by decide +kernel
theorem dX7_write_12 : decode cX7_write 12 = .ok (.ireturn, 1) := by decide +kernel
theorem dX7_write_13 : decode cX7_write 13 = .ok (.aload_n 0, 1) := by decide +kernel
theorem dX7_write_14 : decode cX7_write 14 = .ok (.getfield 10, 3) := by decide +kernel
theorem dX7_write_17 : decode cX7_write 17 = .ok (.iload_n 1, 1) := by decide +kernel
theorem dX7_write_18 : decode cX7_write 18 = .ok (.i2c, 1) := by decide +kernel
theorem dX7_write_19 : decode cX7_write 19 = .ok (.invokevirtual 73, 3) := by decide +kernel
theorem dX7_write_22 : decode cX7_write 22 = .ok (.ifCond .eq 13, 3) := by decide +kernel
theorem dX7_write_25 : decode cX7_write 25 = .ok (.aload_n 0, 1) := by decide +kernel
theorem dX7_write_26 : decode cX7_write 26 = .ok (.getfield 10, 3) := by decide +kernel
theorem dX7_write_29 : decode cX7_write 29 = .ok (.getfield 81, 3) := by decide +kernel
theorem dX7_write_32 : decode cX7_write 32 = .ok (.goto 5, 3) := by decide +kernel
theorem dX7_write_35 : decode cX7_write 35 = .ok (.bipush (-3), 2) := by decide +kernel
theorem dX7_write_37 : decode cX7_write 37 = .ok (.ireturn, 1) := by decide +kernel
theorem dX7_wipe_0 : decode cX7_wipe 0 = .ok (.aload_n 0, 1) := by decide +kernel
theorem dX7_wipe_1 : decode cX7_wipe 1 = .ok (.getfield 10, 3) := by decide +kernel
theorem dX7_wipe_4 : decode cX7_wipe 4 = .ok (.getfield 81, 3) := by decide +kernel
theorem dX7_wipe_7 : decode cX7_wipe 7 = .ok (.istore_n 1, 1) := by decide +kernel
theorem dX7_wipe_8 : decode cX7_wipe 8 = .ok (.aload_n 0, 1) := by decide +kernel
theorem dX7_wipe_9 : decode cX7_wipe 9 = .ok (.getfield 10, 3) := by decide +kernel
theorem dX7_wipe_12 : decode cX7_wipe 12 = .ok (.iconst 0, 1) := by decide +kernel
theorem dX7_wipe_13 : decode cX7_wipe 13 = .ok (.putfield 81, 3) := by decide +kernel
theorem dX7_wipe_16 : decode cX7_wipe 16 = .ok (.iload_n 1, 1) := by decide +kernel
theorem dX7_wipe_17 : decode cX7_wipe 17 = .ok (.ireturn, 1) := by decide +kernel
theorem dX7_fault_0 : decode cX7_fault 0 = .ok (.aload_n 0, 1) := by decide +kernel
theorem dX7_fault_1 : decode cX7_fault 1 = .ok (.getfield 19, 3) := by decide +kernel
theorem dX7_fault_4 : decode cX7_fault 4 = .ok (.aload_n 0, 1) := by decide +kernel
theorem dX7_fault_5 : decode cX7_fault 5 = .ok (.getfield 58, 3) := by decide +kernel
theorem dX7_fault_8 : decode cX7_fault 8 = .ok (.aload_n 0, 1) := by decide +kernel
theorem dX7_fault_9 : decode cX7_fault 9 = .ok (.getfield 10, 3) := by decide +kernel
theorem dX7_fault_12 : decode cX7_fault 12 = .ok (.invokevirtual 77, 3) := by decide +kernel
theorem dX7_fault_15 : decode cX7_fault 15 = .ok (.ireturn, 1) := by decide +kernel
theorem dX7_lay_0 : decode cX7_lay 0 = .ok (.aload_n 0, 1) := by decide +kernel
theorem dX7_lay_1 : decode cX7_lay 1 = .ok (.getfield 19, 3) := by decide +kernel
theorem dX7_lay_4 : decode cX7_lay 4 = .ok (.aload_n 0, 1) := by decide +kernel
theorem dX7_lay_5 : decode cX7_lay 5 = .ok (.getfield 58, 3) := by decide +kernel
theorem dX7_lay_8 : decode cX7_lay 8 = .ok (.aload_n 0, 1) := by decide +kernel
theorem dX7_lay_9 : decode cX7_lay 9 = .ok (.getfield 10, 3) := by decide +kernel
theorem dX7_lay_12 : decode cX7_lay 12 = .ok (.invokevirtual 77, 3) := by decide +kernel
theorem dX7_lay_15 : decode cX7_lay 15 = .ok (.bipush (-4), 2) := by decide +kernel
theorem dX7_lay_17 : decode cX7_lay 17 = .ok (.if_icmp .ne 13, 3) := by decide +kernel
theorem dX7_lay_20 : decode cX7_lay 20 = .ok (.aload_n 0, 1) := by decide +kernel
theorem dX7_lay_21 : decode cX7_lay 21 = .ok (.getfield 58, 3) := by decide +kernel
theorem dX7_lay_24 : decode cX7_lay 24 = .ok (.getfield 89, 3) := by decide +kernel
theorem dX7_lay_27 : decode cX7_lay 27 = .ok (.ifCond .ne 6, 3) := by decide +kernel
theorem dX7_lay_30 : decode cX7_lay 30 = .ok (.bipush (-2), 2) := by decide +kernel
theorem dX7_lay_32 : decode cX7_lay 32 = .ok (.ireturn, 1) := by decide +kernel
theorem dX7_lay_33 : decode cX7_lay 33 = .ok (.aload_n 0, 1) := by decide +kernel
theorem dX7_lay_34 : decode cX7_lay 34 = .ok (.getfield 58, 3) := by decide +kernel
theorem dX7_lay_37 : decode cX7_lay 37 = .ok (.astore_n 1, 1) := by decide +kernel
theorem dX7_lay_38 : decode cX7_lay 38 = .ok (.aload_n 0, 1) := by decide +kernel
theorem dX7_lay_39 : decode cX7_lay 39 = .ok (.aload_n 0, 1) := by decide +kernel
theorem dX7_lay_40 : decode cX7_lay 40 = .ok (.getfield 54, 3) := by decide +kernel
theorem dX7_lay_43 : decode cX7_lay 43 = .ok (.putfield 58, 3) := by decide +kernel
theorem dX7_lay_46 : decode cX7_lay 46 = .ok (.aload_n 0, 1) := by decide +kernel
theorem dX7_lay_47 : decode cX7_lay 47 = .ok (.aload_n 1, 1) := by decide +kernel
theorem dX7_lay_48 : decode cX7_lay 48 = .ok (.putfield 54, 3) := by decide +kernel
theorem dX7_lay_51 : decode cX7_lay 51 = .ok (.aload_n 0, 1) := by decide +kernel
theorem dX7_lay_52 : decode cX7_lay 52 = .ok (.getfield 26, 3) := by decide +kernel
theorem dX7_lay_55 : decode cX7_lay 55 = .ok (.iconst 0, 1) := by decide +kernel
theorem dX7_lay_56 : decode cX7_lay 56 = .ok (.putfield 92, 3) := by decide +kernel
theorem dX7_lay_59 : decode cX7_lay 59 = .ok (.aload_n 0, 1) := by decide +kernel
theorem dX7_lay_60 : decode cX7_lay 60 = .ok (.getfield 54, 3) := by decide +kernel
theorem dX7_lay_63 : decode cX7_lay 63 = .ok (.getfield 89, 3) := by decide +kernel
theorem dX7_lay_66 : decode cX7_lay 66 = .ok (.ireturn, 1) := by decide +kernel
theorem dX7_density_0 : decode cX7_density 0 = .ok (.aload_n 0, 1) := by decide +kernel
theorem dX7_density_1 : decode cX7_density 1 = .ok (.getfield 54, 3) := by decide +kernel
theorem dX7_density_4 : decode cX7_density 4 = .ok (.iload_n 1, 1) := by decide +kernel
theorem dX7_density_5 : decode cX7_density 5 = .ok (.invokevirtual 95, 3) := by decide +kernel
theorem dX7_density_8 : decode cX7_density 8 = .ok (.ifCond .eq 12, 3) := by decide +kernel
theorem dX7_density_11 : decode cX7_density 11 = .ok (.iload_n 2, 1) := by decide +kernel
theorem dX7_density_12 : decode cX7_density 12 = .ok (.iconst 1, 1) := by decide +kernel
theorem dX7_density_13 : decode cX7_density 13 = .ok (.iconst 5, 1) := by decide +kernel
theorem dX7_density_14 : decode cX7_density 14 = .ok (.invokestatic 85, 3) := by decide +kernel
theorem dX7_density_17 : decode cX7_density 17 = .ok (.ifCond .ne 5, 3) := by decide +kernel
theorem dX7_density_20 : decode cX7_density 20 = .ok (.iconst (-1), 1) := by decide +kernel
theorem dX7_density_21 : decode cX7_density 21 = .ok (.ireturn, 1) := by decide +kernel
theorem dX7_density_22 : decode cX7_density 22 = .ok (.aload_n 0, 1) := by decide +kernel
theorem dX7_density_23 : decode cX7_density 23 = .ok (.getfield 54, 3) := by decide +kernel
theorem dX7_density_26 : decode cX7_density 26 = .ok (.getfield 99, 3) := by decide +kernel
theorem dX7_density_29 : decode cX7_density 29 = .ok (.iload_n 1, 1) := by decide +kernel
theorem dX7_density_30 : decode cX7_density 30 = .ok (.iaload, 1) := by decide +kernel
theorem dX7_density_31 : decode cX7_density 31 = .ok (.istore_n 3, 1) := by decide +kernel
theorem dX7_density_32 : decode cX7_density 32 = .ok (.iload_n 3, 1) := by decide +kernel
theorem dX7_density_33 : decode cX7_density 33 = .ok (.iload_n 2, 1) := by decide +kernel
theorem dX7_density_34 : decode cX7_density 34 = .ok (.if_icmp .ne 6, 3) := by decide +kernel
theorem dX7_density_37 : decode cX7_density 37 = .ok (.bipush (-2), 2) := by decide +kernel
theorem dX7_density_39 : decode cX7_density 39 = .ok (.ireturn, 1) := by decide +kernel
theorem dX7_density_40 : decode cX7_density 40 = .ok (.aload_n 0, 1) := by decide +kernel
theorem dX7_density_41 : decode cX7_density 41 = .ok (.getfield 26, 3) := by decide +kernel
theorem dX7_density_44 : decode cX7_density 44 = .ok (.aload_n 0, 1) := by decide +kernel
theorem dX7_density_45 : decode cX7_density 45 = .ok (.getfield 54, 3) := by decide +kernel
theorem dX7_density_48 : decode cX7_density 48 = .ok (.invokevirtual 103, 3) := by decide +kernel
theorem dX7_density_51 : decode cX7_density 51 = .ok (.aload_n 0, 1) := by decide +kernel
theorem dX7_density_52 : decode cX7_density 52 = .ok (.getfield 54, 3) := by decide +kernel
theorem dX7_density_55 : decode cX7_density 55 = .ok (.getfield 99, 3) := by decide +kernel
theorem dX7_density_58 : decode cX7_density 58 = .ok (.iload_n 1, 1) := by decide +kernel
theorem dX7_density_59 : decode cX7_density 59 = .ok (.iload_n 2, 1) := by decide +kernel
theorem dX7_density_60 : decode cX7_density 60 = .ok (.iastore, 1) := by decide +kernel
theorem dX7_density_61 : decode cX7_density 61 = .ok (.iload_n 3, 1) := by decide +kernel
theorem dX7_density_62 : decode cX7_density 62 = .ok (.ireturn, 1) := by decide +kernel
theorem dX7_want_0 : decode cX7_want 0 = .ok (.aload_n 0, 1) := by decide +kernel
theorem dX7_want_1 : decode cX7_want 1 = .ok (.getfield 54, 3) := by decide +kernel
theorem dX7_want_4 : decode cX7_want 4 = .ok (.iload_n 1, 1) := by decide +kernel
theorem dX7_want_5 : decode cX7_want 5 = .ok (.invokevirtual 95, 3) := by decide +kernel
theorem dX7_want_8 : decode cX7_want 8 = .ok (.ifCond .eq 13, 3) := by decide +kernel
theorem dX7_want_11 : decode cX7_want 11 = .ok (.iload_n 2, 1) := by decide +kernel
theorem dX7_want_12 : decode cX7_want 12 = .ok (.iconst 0, 1) := by decide +kernel
theorem dX7_want_13 : decode cX7_want 13 = .ok (.bipush 99, 2) := by decide +kernel
theorem dX7_want_15 : decode cX7_want 15 = .ok (.invokestatic 85, 3) := by decide +kernel
theorem dX7_want_18 : decode cX7_want 18 = .ok (.ifCond .ne 5, 3) := by decide +kernel
theorem dX7_want_21 : decode cX7_want 21 = .ok (.iconst (-1), 1) := by decide +kernel
theorem dX7_want_22 : decode cX7_want 22 = .ok (.ireturn, 1) := by decide +kernel
theorem dX7_want_23 : decode cX7_want 23 = .ok (.aload_n 0, 1) := by decide +kernel
theorem dX7_want_24 : decode cX7_want 24 = .ok (.getfield 54, 3) := by decide +kernel
theorem dX7_want_27 : decode cX7_want 27 = .ok (.getfield 107, 3) := by decide +kernel
theorem dX7_want_30 : decode cX7_want 30 = .ok (.iload_n 1, 1) := by decide +kernel
theorem dX7_want_31 : decode cX7_want 31 = .ok (.iaload, 1) := by decide +kernel
theorem dX7_want_32 : decode cX7_want 32 = .ok (.istore_n 3, 1) := by decide +kernel
theorem dX7_want_33 : decode cX7_want 33 = .ok (.iload_n 3, 1) := by decide +kernel
theorem dX7_want_34 : decode cX7_want 34 = .ok (.iload_n 2, 1) := by decide +kernel
theorem dX7_want_35 : decode cX7_want 35 = .ok (.if_icmp .ne 6, 3) := by decide +kernel
theorem dX7_want_38 : decode cX7_want 38 = .ok (.bipush (-2), 2) := by decide +kernel
theorem dX7_want_40 : decode cX7_want 40 = .ok (.ireturn, 1) := by decide +kernel
theorem dX7_want_41 : decode cX7_want 41 = .ok (.aload_n 0, 1) := by decide +kernel
theorem dX7_want_42 : decode cX7_want 42 = .ok (.getfield 26, 3) := by decide +kernel
theorem dX7_want_45 : decode cX7_want 45 = .ok (.aload_n 0, 1) := by decide +kernel
theorem dX7_want_46 : decode cX7_want 46 = .ok (.getfield 54, 3) := by decide +kernel
theorem dX7_want_49 : decode cX7_want 49 = .ok (.invokevirtual 103, 3) := by decide +kernel
theorem dX7_want_52 : decode cX7_want 52 = .ok (.aload_n 0, 1) := by decide +kernel
theorem dX7_want_53 : decode cX7_want 53 = .ok (.getfield 54, 3) := by decide +kernel
theorem dX7_want_56 : decode cX7_want 56 = .ok (.getfield 107, 3) := by decide +kernel
theorem dX7_want_59 : decode cX7_want 59 = .ok (.iload_n 1, 1) := by decide +kernel
theorem dX7_want_60 : decode cX7_want 60 = .ok (.iload_n 2, 1) := by decide +kernel
theorem dX7_want_61 : decode cX7_want 61 = .ok (.iastore, 1) := by decide +kernel
theorem dX7_want_62 : decode cX7_want 62 = .ok (.iload_n 3, 1) := by decide +kernel
theorem dX7_want_63 : decode cX7_want 63 = .ok (.ireturn, 1) := by decide +kernel
theorem dX7_load_0 : decode cX7_load 0 = .ok (.aload_n 0, 1) := by decide +kernel
theorem dX7_load_1 : decode cX7_load 1 = .ok (.getfield 54, 3) := by decide +kernel
theorem dX7_load_4 : decode cX7_load 4 = .ok (.iload_n 1, 1) := by decide +kernel
theorem dX7_load_5 : decode cX7_load 5 = .ok (.invokevirtual 110, 3) := by decide +kernel
theorem dX7_load_8 : decode cX7_load 8 = .ok (.ifCond .eq 25, 3) := by decide +kernel
theorem dX7_load_11 : decode cX7_load 11 = .ok (.aload_n 0, 1) := by decide +kernel
theorem dX7_load_12 : decode cX7_load 12 = .ok (.getfield 54, 3) := by decide +kernel
theorem dX7_load_15 : decode cX7_load 15 = .ok (.iload_n 1, 1) := by decide +kernel
theorem dX7_load_16 : decode cX7_load 16 = .ok (.invokevirtual 113, 3) := by decide +kernel
theorem dX7_load_19 : decode cX7_load 19 = .ok (.ifCond .eq 14, 3) := by decide +kernel
theorem dX7_load_22 : decode cX7_load 22 = .ok (.iload_n 2, 1) := by decide +kernel
theorem dX7_load_23 : decode cX7_load 23 = .ok (.bipush (-9), 2) := by decide +kernel
theorem dX7_load_25 : decode cX7_load 25 = .ok (.bipush 9, 2) := by decide +kernel
theorem dX7_load_27 : decode cX7_load 27 = .ok (.invokestatic 85, 3) := by decide +kernel
theorem dX7_load_30 : decode cX7_load 30 = .ok (.ifCond .ne 5, 3) := by decide +kernel
theorem dX7_load_33 : decode cX7_load 33 = .ok (.iconst (-1), 1) := by decide +kernel
theorem dX7_load_34 : decode cX7_load 34 = .ok (.ireturn, 1) := by decide +kernel
theorem dX7_load_35 : decode cX7_load 35 = .ok (.aload_n 0, 1) := by decide +kernel
theorem dX7_load_36 : decode cX7_load 36 = .ok (.getfield 54, 3) := by decide +kernel
theorem dX7_load_39 : decode cX7_load 39 = .ok (.getfield 116, 3) := by decide +kernel
theorem dX7_load_42 : decode cX7_load 42 = .ok (.iload_n 1, 1) := by decide +kernel
theorem dX7_load_43 : decode cX7_load 43 = .ok (.iaload, 1) := by decide +kernel
theorem dX7_load_44 : decode cX7_load 44 = .ok (.istore_n 3, 1) := by decide +kernel
theorem dX7_load_45 : decode cX7_load 45 = .ok (.iload_n 3, 1) := by decide +kernel
theorem dX7_load_46 : decode cX7_load 46 = .ok (.iload_n 2, 1) := by decide +kernel
theorem dX7_load_47 : decode cX7_load 47 = .ok (.if_icmp .ne 6, 3) := by decide +kernel
theorem dX7_load_50 : decode cX7_load 50 = .ok (.bipush (-2), 2) := by decide +kernel
theorem dX7_load_52 : decode cX7_load 52 = .ok (.ireturn, 1) := by decide +kernel
theorem dX7_load_53 : decode cX7_load 53 = .ok (.aload_n 0, 1) := by decide +kernel
theorem dX7_load_54 : decode cX7_load 54 = .ok (.getfield 26, 3) := by decide +kernel
theorem dX7_load_57 : decode cX7_load 57 = .ok (.aload_n 0, 1) := by decide +kernel
theorem dX7_load_58 : decode cX7_load 58 = .ok (.getfield 54, 3) := by decide +kernel
theorem dX7_load_61 : decode cX7_load 61 = .ok (.invokevirtual 103, 3) := by decide +kernel
theorem dX7_load_64 : decode cX7_load 64 = .ok (.aload_n 0, 1) := by decide +kernel
theorem dX7_load_65 : decode cX7_load 65 = .ok (.getfield 54, 3) := by decide +kernel
theorem dX7_load_68 : decode cX7_load 68 = .ok (.getfield 116, 3) := by decide +kernel
theorem dX7_load_71 : decode cX7_load 71 = .ok (.iload_n 1, 1) := by decide +kernel
theorem dX7_load_72 : decode cX7_load 72 = .ok (.iload_n 2, 1) := by decide +kernel
theorem dX7_load_73 : decode cX7_load 73 = .ok (.iastore, 1) := by decide +kernel
theorem dX7_load_74 : decode cX7_load 74 = .ok (.iload_n 3, 1) := by decide +kernel
theorem dX7_load_75 : decode cX7_load 75 = .ok (.bipush 9, 2) := by decide +kernel
theorem dX7_load_77 : decode cX7_load 77 = .ok (.iadd, 1) := by decide +kernel
theorem dX7_load_78 : decode cX7_load 78 = .ok (.ireturn, 1) := by decide +kernel
theorem dX7_move_0 : decode cX7_move 0 = .ok (.aload_n 0, 1) := by decide +kernel
theorem dX7_move_1 : decode cX7_move 1 = .ok (.iload_n 1, 1) := by decide +kernel
theorem dX7_move_2 : decode cX7_move 2 = .ok (.invokevirtual 119, 3) := by decide +kernel
theorem dX7_move_5 : decode cX7_move 5 = .ok (.ifCond .eq 20, 3) := by decide +kernel
theorem dX7_move_8 : decode cX7_move 8 = .ok (.iload_n 2, 1) := by decide +kernel
theorem dX7_move_9 : decode cX7_move 9 = .ok (.invokestatic 122, 3) := by decide +kernel
theorem dX7_move_12 : decode cX7_move 12 = .ok (.ifCond .eq 13, 3) := by decide +kernel
theorem dX7_move_15 : decode cX7_move 15 = .ok (.iload_n 3, 1) := by decide +kernel
theorem dX7_move_16 : decode cX7_move 16 = .ok (.iconst 0, 1) := by decide +kernel
theorem dX7_move_17 : decode cX7_move 17 = .ok (.bipush 60, 2) := by decide +kernel
theorem dX7_move_19 : decode cX7_move 19 = .ok (.invokestatic 85, 3) := by decide +kernel
theorem dX7_move_22 : decode cX7_move 22 = .ok (.ifCond .ne 5, 3) := by decide +kernel
theorem dX7_move_25 : decode cX7_move 25 = .ok (.iconst (-1), 1) := by decide +kernel
theorem dX7_move_26 : decode cX7_move 26 = .ok (.ireturn, 1) := by decide +kernel
theorem dX7_move_27 : decode cX7_move 27 = .ok (.aload_n 0, 1) := by decide +kernel
theorem dX7_move_28 : decode cX7_move 28 = .ok (.getfield 54, 3) := by decide +kernel
theorem dX7_move_31 : decode cX7_move 31 = .ok (.getfield 125, 3) := by decide +kernel
theorem dX7_move_34 : decode cX7_move 34 = .ok (.iload_n 1, 1) := by decide +kernel
theorem dX7_move_35 : decode cX7_move 35 = .ok (.iconst 3, 1) := by decide +kernel
theorem dX7_move_36 : decode cX7_move 36 = .ok (.imul, 1) := by decide +kernel
theorem dX7_move_37 : decode cX7_move 37 = .ok (.iload_n 2, 1) := by decide +kernel
theorem dX7_move_38 : decode cX7_move 38 = .ok (.iadd, 1) := by decide +kernel
theorem dX7_move_39 : decode cX7_move 39 = .ok (.iaload, 1) := by decide +kernel
theorem dX7_move_40 : decode cX7_move 40 = .ok (.istore 4, 2) := by decide +kernel
theorem dX7_move_42 : decode cX7_move 42 = .ok (.iload 4, 2) := by decide +kernel
theorem dX7_move_44 : decode cX7_move 44 = .ok (.iload_n 3, 1) := by decide +kernel
theorem dX7_move_45 : decode cX7_move 45 = .ok (.if_icmp .ne 6, 3) := by decide +kernel
theorem dX7_move_48 : decode cX7_move 48 = .ok (.bipush (-2), 2) := by decide +kernel
theorem dX7_move_50 : decode cX7_move 50 = .ok (.ireturn, 1) := by decide +kernel
theorem dX7_move_51 : decode cX7_move 51 = .ok (.aload_n 0, 1) := by decide +kernel
theorem dX7_move_52 : decode cX7_move 52 = .ok (.getfield 26, 3) := by decide +kernel
theorem dX7_move_55 : decode cX7_move 55 = .ok (.aload_n 0, 1) := by decide +kernel
theorem dX7_move_56 : decode cX7_move 56 = .ok (.getfield 54, 3) := by decide +kernel
theorem dX7_move_59 : decode cX7_move 59 = .ok (.invokevirtual 103, 3) := by decide +kernel
theorem dX7_move_62 : decode cX7_move 62 = .ok (.aload_n 0, 1) := by decide +kernel
theorem dX7_move_63 : decode cX7_move 63 = .ok (.getfield 54, 3) := by decide +kernel
theorem dX7_move_66 : decode cX7_move 66 = .ok (.getfield 125, 3) := by decide +kernel
theorem dX7_move_69 : decode cX7_move 69 = .ok (.iload_n 1, 1) := by decide +kernel
theorem dX7_move_70 : decode cX7_move 70 = .ok (.iconst 3, 1) := by decide +kernel
theorem dX7_move_71 : decode cX7_move 71 = .ok (.imul, 1) := by decide +kernel
theorem dX7_move_72 : decode cX7_move 72 = .ok (.iload_n 2, 1) := by decide +kernel
theorem dX7_move_73 : decode cX7_move 73 = .ok (.iadd, 1) := by decide +kernel
theorem dX7_move_74 : decode cX7_move 74 = .ok (.iload_n 3, 1) := by decide +kernel
theorem dX7_move_75 : decode cX7_move 75 = .ok (.iastore, 1) := by decide +kernel
theorem dX7_move_76 : decode cX7_move 76 = .ok (.iload 4, 2) := by decide +kernel
theorem dX7_move_78 : decode cX7_move 78 = .ok (.ireturn, 1) := by decide +kernel
theorem dX7_down_0 : decode cX7_down 0 = .ok (.aload_n 0, 1) := by decide +kernel
theorem dX7_down_1 : decode cX7_down 1 = .ok (.getfield 54, 3) := by decide +kernel
theorem dX7_down_4 : decode cX7_down 4 = .ok (.iload_n 1, 1) := by decide +kernel
theorem dX7_down_5 : decode cX7_down 5 = .ok (.invokevirtual 95, 3) := by decide +kernel
theorem dX7_down_8 : decode cX7_down 8 = .ok (.ifCond .eq 12, 3) := by decide +kernel
theorem dX7_down_11 : decode cX7_down 11 = .ok (.iload_n 2, 1) := by decide +kernel
theorem dX7_down_12 : decode cX7_down 12 = .ok (.iconst 0, 1) := by decide +kernel
theorem dX7_down_13 : decode cX7_down 13 = .ok (.iconst 1, 1) := by decide +kernel
theorem dX7_down_14 : decode cX7_down 14 = .ok (.invokestatic 85, 3) := by decide +kernel
theorem dX7_down_17 : decode cX7_down 17 = .ok (.ifCond .ne 5, 3) := by decide +kernel
theorem dX7_down_20 : decode cX7_down 20 = .ok (.iconst (-1), 1) := by decide +kernel
theorem dX7_down_21 : decode cX7_down 21 = .ok (.ireturn, 1) := by decide +kernel
theorem dX7_down_22 : decode cX7_down 22 = .ok (.aload_n 0, 1) := by decide +kernel
theorem dX7_down_23 : decode cX7_down 23 = .ok (.getfield 54, 3) := by decide +kernel
theorem dX7_down_26 : decode cX7_down 26 = .ok (.iload_n 1, 1) := by decide +kernel
theorem dX7_down_27 : decode cX7_down 27 = .ok (.invokevirtual 128, 3) := by decide +kernel
theorem dX7_down_30 : decode cX7_down 30 = .ok (.iload_n 2, 1) := by decide +kernel
theorem dX7_down_31 : decode cX7_down 31 = .ok (.ifCond .ne 7, 3) := by decide +kernel
theorem dX7_down_34 : decode cX7_down 34 = .ok (.iconst 1, 1) := by decide +kernel
theorem dX7_down_35 : decode cX7_down 35 = .ok (.goto 4, 3) := by decide +kernel
theorem dX7_down_38 : decode cX7_down 38 = .ok (.iconst 0, 1) := by decide +kernel
theorem dX7_down_39 : decode cX7_down 39 = .ok (.if_icmp .ne 6, 3) := by decide +kernel
theorem dX7_down_42 : decode cX7_down 42 = .ok (.bipush (-2), 2) := by decide +kernel
theorem dX7_down_44 : decode cX7_down 44 = .ok (.ireturn, 1) := by decide +kernel
theorem dX7_down_45 : decode cX7_down 45 = .ok (.aload_n 0, 1) := by decide +kernel
theorem dX7_down_46 : decode cX7_down 46 = .ok (.getfield 26, 3) := by decide +kernel
theorem dX7_down_49 : decode cX7_down 49 = .ok (.aload_n 0, 1) := by decide +kernel
theorem dX7_down_50 : decode cX7_down 50 = .ok (.getfield 54, 3) := by decide +kernel
theorem dX7_down_53 : decode cX7_down 53 = .ok (.invokevirtual 103, 3) := by decide +kernel
theorem dX7_down_56 : decode cX7_down 56 = .ok (.aload_n 0, 1) := by decide +kernel
theorem dX7_down_57 : decode cX7_down 57 = .ok (.getfield 54, 3) := by decide +kernel
theorem dX7_down_60 : decode cX7_down 60 = .ok (.dup, 1) := by decide +kernel
theorem dX7_down_61 : decode cX7_down 61 = .ok (.getfield 131, 3) := by decide +kernel
theorem dX7_down_64 : decode cX7_down 64 = .ok (.iconst 1, 1) := by decide +kernel
theorem dX7_down_65 : decode cX7_down 65 = .ok (.iload_n 1, 1) := by decide +kernel
theorem dX7_down_66 : decode cX7_down 66 = .ok (.ishl, 1) := by decide +kernel
theorem dX7_down_67 : decode cX7_down 67 = .ok (.ixor, 1) := by decide +kernel
theorem dX7_down_68 : decode cX7_down 68 = .ok (.putfield 131, 3) := by decide +kernel
theorem dX7_down_71 : decode cX7_down 71 = .ok (.aload_n 0, 1) := by decide +kernel
theorem dX7_down_72 : decode cX7_down 72 = .ok (.getfield 54, 3) := by decide +kernel
theorem dX7_down_75 : decode cX7_down 75 = .ok (.getfield 131, 3) := by decide +kernel
theorem dX7_down_78 : decode cX7_down 78 = .ok (.invokestatic 134, 3) := by decide +kernel
theorem dX7_down_81 : decode cX7_down 81 = .ok (.ireturn, 1) := by decide +kernel
theorem dX7_round_0 : decode cX7_round 0 = .ok (.iload_n 1, 1) := by decide +kernel
theorem dX7_round_1 : decode cX7_round 1 = .ok (.iconst 1, 1) := by decide +kernel
theorem dX7_round_2 : decode cX7_round 2 = .ok (.bipush 20, 2) := by decide +kernel
theorem dX7_round_4 : decode cX7_round 4 = .ok (.invokestatic 85, 3) := by decide +kernel
theorem dX7_round_7 : decode cX7_round 7 = .ok (.ifCond .ne 5, 3) := by decide +kernel
theorem dX7_round_10 : decode cX7_round 10 = .ok (.iconst (-1), 1) := by decide +kernel
theorem dX7_round_11 : decode cX7_round 11 = .ok (.ireturn, 1) := by decide +kernel
theorem dX7_round_12 : decode cX7_round 12 = .ok (.aload_n 0, 1) := by decide +kernel
theorem dX7_round_13 : decode cX7_round 13 = .ok (.getfield 54, 3) := by decide +kernel
theorem dX7_round_16 : decode cX7_round 16 = .ok (.invokevirtual 140, 3) := by decide +kernel
theorem dX7_round_19 : decode cX7_round 19 = .ok (.ifCond .ne 6, 3) := by decide +kernel
theorem dX7_round_22 : decode cX7_round 22 = .ok (.bipush (-2), 2) := by decide +kernel
theorem dX7_round_24 : decode cX7_round 24 = .ok (.ireturn, 1) := by decide +kernel
theorem dX7_round_25 : decode cX7_round 25 = .ok (.aload_n 0, 1) := by decide +kernel
theorem dX7_round_26 : decode cX7_round 26 = .ok (.getfield 26, 3) := by decide +kernel
theorem dX7_round_29 : decode cX7_round 29 = .ok (.aload_n 0, 1) := by decide +kernel
theorem dX7_round_30 : decode cX7_round 30 = .ok (.getfield 54, 3) := by decide +kernel
theorem dX7_round_33 : decode cX7_round 33 = .ok (.invokevirtual 103, 3) := by decide +kernel
theorem dX7_round_36 : decode cX7_round 36 = .ok (.iconst 0, 1) := by decide +kernel
theorem dX7_round_37 : decode cX7_round 37 = .ok (.istore_n 2, 1) := by decide +kernel
theorem dX7_round_38 : decode cX7_round 38 = .ok (.iconst 0, 1) := by decide +kernel
theorem dX7_round_39 : decode cX7_round 39 = .ok (.istore_n 3, 1) := by decide +kernel
theorem dX7_round_40 : decode cX7_round 40 = .ok (.iload_n 3, 1) := by decide +kernel
theorem dX7_round_41 : decode cX7_round 41 = .ok (.iload_n 1, 1) := by decide +kernel
theorem dX7_round_42 : decode cX7_round 42 = .ok (.if_icmp .ge 43, 3) := by decide +kernel
theorem dX7_round_45 : decode cX7_round 45 = .ok (.aload_n 0, 1) := by decide +kernel
theorem dX7_round_46 : decode cX7_round 46 = .ok (.getfield 33, 3) := by decide +kernel
theorem dX7_round_49 : decode cX7_round 49 = .ok (.aload_n 0, 1) := by decide +kernel
theorem dX7_round_50 : decode cX7_round 50 = .ok (.getfield 54, 3) := by decide +kernel
theorem dX7_round_53 : decode cX7_round 53 = .ok (.invokevirtual 144, 3) := by decide +kernel
theorem dX7_round_56 : decode cX7_round 56 = .ok (.ifCond .eq 23, 3) := by decide +kernel
theorem dX7_round_59 : decode cX7_round 59 = .ok (.aload_n 0, 1) := by decide +kernel
theorem dX7_round_60 : decode cX7_round 60 = .ok (.getfield 54, 3) := by decide +kernel
theorem dX7_round_63 : decode cX7_round 63 = .ok (.aload_n 0, 1) := by decide +kernel
theorem dX7_round_64 : decode cX7_round 64 = .ok (.getfield 33, 3) := by decide +kernel
theorem dX7_round_67 : decode cX7_round 67 = .ok (.getfield 148, 3) := by decide +kernel
theorem dX7_round_70 : decode cX7_round 70 = .ok (.invokevirtual 151, 3) := by decide +kernel
theorem dX7_round_73 : decode cX7_round 73 = .ok (.ifCond .eq 6, 3) := by decide +kernel
theorem dX7_round_76 : decode cX7_round 76 = .ok (.iinc 2 1, 3) := by decide +kernel
theorem dX7_round_79 : decode cX7_round 79 = .ok (.iinc 3 1, 3) := by decide +kernel
theorem dX7_round_82 : decode cX7_round 82 = .ok (.goto (-42), 3) := by decide +kernel
theorem dX7_round_85 : decode cX7_round 85 = .ok (.iload_n 2, 1) := by decide +kernel
theorem dX7_round_86 : decode cX7_round 86 = .ok (.ireturn, 1) := by decide +kernel
theorem dX7_undo_0 : decode cX7_undo 0 = .ok (.aload_n 0, 1) := by decide +kernel
theorem dX7_undo_1 : decode cX7_undo 1 = .ok (.getfield 26, 3) := by decide +kernel
theorem dX7_undo_4 : decode cX7_undo 4 = .ok (.aload_n 0, 1) := by decide +kernel
theorem dX7_undo_5 : decode cX7_undo 5 = .ok (.getfield 54, 3) := by decide +kernel
theorem dX7_undo_8 : decode cX7_undo 8 = .ok (.invokevirtual 155, 3) := by decide +kernel
theorem dX7_undo_11 : decode cX7_undo 11 = .ok (.ifCond .eq 13, 3) := by decide +kernel
theorem dX7_undo_14 : decode cX7_undo 14 = .ok (.aload_n 0, 1) := by decide +kernel
theorem dX7_undo_15 : decode cX7_undo 15 = .ok (.getfield 26, 3) := by decide +kernel
theorem dX7_undo_18 : decode cX7_undo 18 = .ok (.getfield 92, 3) := by decide +kernel
theorem dX7_undo_21 : decode cX7_undo 21 = .ok (.goto 5, 3) := by decide +kernel
theorem dX7_undo_24 : decode cX7_undo 24 = .ok (.bipush (-2), 2) := by decide +kernel
theorem dX7_undo_26 : decode cX7_undo 26 = .ok (.ireturn, 1) := by decide +kernel
theorem dX7_joint_0 : decode cX7_joint 0 = .ok (.aload_n 0, 1) := by decide +kernel
theorem dX7_joint_1 : decode cX7_joint 1 = .ok (.getfield 54, 3) := by decide +kernel
theorem dX7_joint_4 : decode cX7_joint 4 = .ok (.iload_n 1, 1) := by decide +kernel
theorem dX7_joint_5 : decode cX7_joint 5 = .ok (.invokevirtual 110, 3) := by decide +kernel
theorem dX7_joint_8 : decode cX7_joint 8 = .ok (.ifCond .eq 13, 3) := by decide +kernel
theorem dX7_joint_11 : decode cX7_joint 11 = .ok (.iload_n 2, 1) := by decide +kernel
theorem dX7_joint_12 : decode cX7_joint 12 = .ok (.iconst 0, 1) := by decide +kernel
theorem dX7_joint_13 : decode cX7_joint 13 = .ok (.bipush 7, 2) := by decide +kernel
theorem dX7_joint_15 : decode cX7_joint 15 = .ok (.invokestatic 85, 3) := by decide +kernel
theorem dX7_joint_18 : decode cX7_joint 18 = .ok (.ifCond .ne 5, 3) := by decide +kernel
theorem dX7_joint_21 : decode cX7_joint 21 = .ok (.iconst (-1), 1) := by decide +kernel
theorem dX7_joint_22 : decode cX7_joint 22 = .ok (.ireturn, 1) := by decide +kernel
theorem dX7_joint_23 : decode cX7_joint 23 = .ok (.iload_n 2, 1) := by decide +kernel
theorem dX7_joint_24 : decode cX7_joint 24 = .ok (.iconst 1, 1) := by decide +kernel
theorem dX7_joint_25 : decode cX7_joint 25 = .ok (.iconst 3, 1) := by decide +kernel
theorem dX7_joint_26 : decode cX7_joint 26 = .ok (.invokestatic 85, 3) := by decide +kernel
theorem dX7_joint_29 : decode cX7_joint 29 = .ok (.ifCond .ne 9, 3) := by decide +kernel
theorem dX7_joint_32 : decode cX7_joint 32 = .ok (.iload_n 2, 1) := by decide +kernel
theorem dX7_joint_33 : decode cX7_joint 33 = .ok (.bipush 7, 2) := by decide +kernel
theorem dX7_joint_35 : decode cX7_joint 35 = .ok (.if_icmp .ne 7, 3) := by decide +kernel
theorem dX7_joint_38 : decode cX7_joint 38 = .ok (.iconst 1, 1) := by decide +kernel
theorem dX7_joint_39 : decode cX7_joint 39 = .ok (.goto 4, 3) := by decide +kernel
theorem dX7_joint_42 : decode cX7_joint 42 = .ok (.iconst 0, 1) := by decide +kernel
theorem dX7_joint_43 : decode cX7_joint 43 = .ok (.istore_n 3, 1) := by decide +kernel
theorem dX7_joint_44 : decode cX7_joint 44 = .ok (.iload_n 3, 1) := by decide +kernel
theorem dX7_joint_45 : decode cX7_joint 45 = .ok (.ifCond .eq 20, 3) := by decide +kernel
theorem dX7_joint_48 : decode cX7_joint 48 = .ok (.aload_n 0, 1) := by decide +kernel
theorem dX7_joint_49 : decode cX7_joint 49 = .ok (.getfield 33, 3) := by decide +kernel
theorem dX7_joint_52 : decode cX7_joint 52 = .ok (.aload_n 0, 1) := by decide +kernel
theorem dX7_joint_53 : decode cX7_joint 53 = .ok (.getfield 54, 3) := by decide +kernel
theorem dX7_joint_56 : decode cX7_joint 56 = .ok (.invokevirtual 144, 3) := by decide +kernel
theorem dX7_joint_59 : decode cX7_joint 59 = .ok (.ifCond .ne 6, 3) := by decide +kernel
theorem dX7_joint_62 : decode cX7_joint 62 = .ok (.bipush (-2), 2) := by decide +kernel
theorem dX7_joint_64 : decode cX7_joint 64 = .ok (.ireturn, 1) := by decide +kernel
theorem dX7_joint_65 : decode cX7_joint 65 = .ok (.iload_n 2, 1) := by decide +kernel
theorem dX7_joint_66 : decode cX7_joint 66 = .ok (.tableswitch 133 0 7 #[46, 133, 133, 133, 63, 80, 93, 112], 46) := by decide +kernel
theorem dX7_joint_112 : decode cX7_joint 112 = .ok (.aload_n 0, 1) := by decide +kernel
theorem dX7_joint_113 : decode cX7_joint 113 = .ok (.getfield 54, 3) := by decide +kernel
theorem dX7_joint_116 : decode cX7_joint 116 = .ok (.iload_n 1, 1) := by decide +kernel
theorem dX7_joint_117 : decode cX7_joint 117 = .ok (.invokevirtual 113, 3) := by decide +kernel
theorem dX7_joint_120 : decode cX7_joint 120 = .ok (.ifCond .eq 7, 3) := by decide +kernel
theorem dX7_joint_123 : decode cX7_joint 123 = .ok (.iconst 1, 1) := by decide +kernel
theorem dX7_joint_124 : decode cX7_joint 124 = .ok (.goto 4, 3) := by decide +kernel
theorem dX7_joint_127 : decode cX7_joint 127 = .ok (.iconst 0, 1) := by decide +kernel
theorem dX7_joint_128 : decode cX7_joint 128 = .ok (.ireturn, 1) := by decide +kernel
theorem dX7_joint_129 : decode cX7_joint 129 = .ok (.aload_n 0, 1) := by decide +kernel
theorem dX7_joint_130 : decode cX7_joint 130 = .ok (.getfield 54, 3) := by decide +kernel
theorem dX7_joint_133 : decode cX7_joint 133 = .ok (.iload_n 1, 1) := by decide +kernel
theorem dX7_joint_134 : decode cX7_joint 134 = .ok (.invokevirtual 158, 3) := by decide +kernel
theorem dX7_joint_137 : decode cX7_joint 137 = .ok (.aload_n 0, 1) := by decide +kernel
theorem dX7_joint_138 : decode cX7_joint 138 = .ok (.getfield 54, 3) := by decide +kernel
theorem dX7_joint_141 : decode cX7_joint 141 = .ok (.getfield 131, 3) := by decide +kernel
theorem dX7_joint_144 : decode cX7_joint 144 = .ok (.iand, 1) := by decide +kernel
theorem dX7_joint_145 : decode cX7_joint 145 = .ok (.ireturn, 1) := by decide +kernel
theorem dX7_joint_146 : decode cX7_joint 146 = .ok (.aload_n 0, 1) := by decide +kernel
theorem dX7_joint_147 : decode cX7_joint 147 = .ok (.getfield 54, 3) := by decide +kernel
theorem dX7_joint_150 : decode cX7_joint 150 = .ok (.getfield 116, 3) := by decide +kernel
theorem dX7_joint_153 : decode cX7_joint 153 = .ok (.iload_n 1, 1) := by decide +kernel
theorem dX7_joint_154 : decode cX7_joint 154 = .ok (.iaload, 1) := by decide +kernel
theorem dX7_joint_155 : decode cX7_joint 155 = .ok (.bipush 9, 2) := by decide +kernel
theorem dX7_joint_157 : decode cX7_joint 157 = .ok (.iadd, 1) := by decide +kernel
theorem dX7_joint_158 : decode cX7_joint 158 = .ok (.ireturn, 1) := by decide +kernel
theorem dX7_joint_159 : decode cX7_joint 159 = .ok (.aload_n 0, 1) := by decide +kernel
theorem dX7_joint_160 : decode cX7_joint 160 = .ok (.getfield 54, 3) := by decide +kernel
theorem dX7_joint_163 : decode cX7_joint 163 = .ok (.aload_n 0, 1) := by decide +kernel
theorem dX7_joint_164 : decode cX7_joint 164 = .ok (.getfield 54, 3) := by decide +kernel
theorem dX7_joint_167 : decode cX7_joint 167 = .ok (.getfield 131, 3) := by decide +kernel
theorem dX7_joint_170 : decode cX7_joint 170 = .ok (.invokevirtual 161, 3) := by decide +kernel
theorem dX7_joint_173 : decode cX7_joint 173 = .ok (.iload_n 1, 1) := by decide +kernel
theorem dX7_joint_174 : decode cX7_joint 174 = .ok (.ishr, 1) := by decide +kernel
theorem dX7_joint_175 : decode cX7_joint 175 = .ok (.iconst 1, 1) := by decide +kernel
theorem dX7_joint_176 : decode cX7_joint 176 = .ok (.iand, 1) := by decide +kernel
theorem dX7_joint_177 : decode cX7_joint 177 = .ok (.ireturn, 1) := by decide +kernel
theorem dX7_joint_178 : decode cX7_joint 178 = .ok (.aload_n 0, 1) := by decide +kernel
theorem dX7_joint_179 : decode cX7_joint 179 = .ok (.getfield 33, 3) := by decide +kernel
theorem dX7_joint_182 : decode cX7_joint 182 = .ok (.aload_n 0, 1) := by decide +kernel
theorem dX7_joint_183 : decode cX7_joint 183 = .ok (.getfield 54, 3) := by decide +kernel
theorem dX7_joint_186 : decode cX7_joint 186 = .ok (.iload_n 1, 1) := by decide +kernel
theorem dX7_joint_187 : decode cX7_joint 187 = .ok (.invokevirtual 164, 3) := by decide +kernel
theorem dX7_joint_190 : decode cX7_joint 190 = .ok (.ifCond .eq 7, 3) := by decide +kernel
theorem dX7_joint_193 : decode cX7_joint 193 = .ok (.iconst 1, 1) := by decide +kernel
theorem dX7_joint_194 : decode cX7_joint 194 = .ok (.goto 4, 3) := by decide +kernel
theorem dX7_joint_197 : decode cX7_joint 197 = .ok (.iconst 0, 1) := by decide +kernel
theorem dX7_joint_198 : decode cX7_joint 198 = .ok (.ireturn, 1) := by decide +kernel
theorem dX7_joint_199 : decode cX7_joint 199 = .ok (.aload_n 0, 1) := by decide +kernel
theorem dX7_joint_200 : decode cX7_joint 200 = .ok (.getfield 33, 3) := by decide +kernel
theorem dX7_joint_203 : decode cX7_joint 203 = .ok (.getfield 168, 3) := by decide +kernel
theorem dX7_joint_206 : decode cX7_joint 206 = .ok (.iload_n 1, 1) := by decide +kernel
theorem dX7_joint_207 : decode cX7_joint 207 = .ok (.iconst 3, 1) := by decide +kernel
theorem dX7_joint_208 : decode cX7_joint 208 = .ok (.imul, 1) := by decide +kernel
theorem dX7_joint_209 : decode cX7_joint 209 = .ok (.iload_n 2, 1) := by decide +kernel
theorem dX7_joint_210 : decode cX7_joint 210 = .ok (.iadd, 1) := by decide +kernel
theorem dX7_joint_211 : decode cX7_joint 211 = .ok (.iconst 1, 1) := by decide +kernel
theorem dX7_joint_212 : decode cX7_joint 212 = .ok (.isub, 1) := by decide +kernel
theorem dX7_joint_213 : decode cX7_joint 213 = .ok (.iaload, 1) := by decide +kernel
theorem dX7_joint_214 : decode cX7_joint 214 = .ok (.ldc 171, 2) := by decide +kernel
theorem dX7_joint_216 : decode cX7_joint 216 = .ok (.iadd, 1) := by decide +kernel
theorem dX7_joint_217 : decode cX7_joint 217 = .ok (.ireturn, 1) := by decide +kernel
theorem dX7_exact_0 : decode cX7_exact 0 = .ok (.aload_n 0, 1) := by decide +kernel
theorem dX7_exact_1 : decode cX7_exact 1 = .ok (.getfield 54, 3) := by decide +kernel
theorem dX7_exact_4 : decode cX7_exact 4 = .ok (.iload_n 1, 1) := by decide +kernel
theorem dX7_exact_5 : decode cX7_exact 5 = .ok (.invokevirtual 110, 3) := by decide +kernel
theorem dX7_exact_8 : decode cX7_exact 8 = .ok (.ifCond .eq 19, 3) := by decide +kernel
theorem dX7_exact_11 : decode cX7_exact 11 = .ok (.iload_n 2, 1) := by decide +kernel
theorem dX7_exact_12 : decode cX7_exact 12 = .ok (.invokestatic 122, 3) := by decide +kernel
theorem dX7_exact_15 : decode cX7_exact 15 = .ok (.ifCond .eq 12, 3) := by decide +kernel
theorem dX7_exact_18 : decode cX7_exact 18 = .ok (.iload_n 3, 1) := by decide +kernel
theorem dX7_exact_19 : decode cX7_exact 19 = .ok (.iconst 0, 1) := by decide +kernel
theorem dX7_exact_20 : decode cX7_exact 20 = .ok (.iconst 1, 1) := by decide +kernel
theorem dX7_exact_21 : decode cX7_exact 21 = .ok (.invokestatic 85, 3) := by decide +kernel
theorem dX7_exact_24 : decode cX7_exact 24 = .ok (.ifCond .ne 6, 3) := by decide +kernel
theorem dX7_exact_27 : decode cX7_exact 27 = .ok (.ldc 172, 2) := by decide +kernel
theorem dX7_exact_29 : decode cX7_exact 29 = .ok (.ireturn, 1) := by decide +kernel
theorem dX7_exact_30 : decode cX7_exact 30 = .ok (.aload_n 0, 1) := by decide +kernel
theorem dX7_exact_31 : decode cX7_exact 31 = .ok (.getfield 33, 3) := by decide +kernel
theorem dX7_exact_34 : decode cX7_exact 34 = .ok (.aload_n 0, 1) := by decide +kernel
theorem dX7_exact_35 : decode cX7_exact 35 = .ok (.getfield 54, 3) := by decide +kernel
theorem dX7_exact_38 : decode cX7_exact 38 = .ok (.invokevirtual 144, 3) := by decide +kernel
theorem dX7_exact_41 : decode cX7_exact 41 = .ok (.ifCond .ne 6, 3) := by decide +kernel
theorem dX7_exact_44 : decode cX7_exact 44 = .ok (.ldc 173, 2) := by decide +kernel
theorem dX7_exact_46 : decode cX7_exact 46 = .ok (.ireturn, 1) := by decide +kernel
theorem dX7_exact_47 : decode cX7_exact 47 = .ok (.aload_n 0, 1) := by decide +kernel
theorem dX7_exact_48 : decode cX7_exact 48 = .ok (.getfield 33, 3) := by decide +kernel
theorem dX7_exact_51 : decode cX7_exact 51 = .ok (.aload_n 0, 1) := by decide +kernel
theorem dX7_exact_52 : decode cX7_exact 52 = .ok (.getfield 54, 3) := by decide +kernel
theorem dX7_exact_55 : decode cX7_exact 55 = .ok (.iload_n 1, 1) := by decide +kernel
theorem dX7_exact_56 : decode cX7_exact 56 = .ok (.iload_n 2, 1) := by decide +kernel
theorem dX7_exact_57 : decode cX7_exact 57 = .ok (.invokevirtual 174, 3) := by decide +kernel
theorem dX7_exact_60 : decode cX7_exact 60 = .ok (.lstore 4, 2) := by decide +kernel
theorem dX7_exact_62 : decode cX7_exact 62 = .ok (.aload_n 0, 1) := by decide +kernel
theorem dX7_exact_63 : decode cX7_exact 63 = .ok (.getfield 33, 3) := by decide +kernel
theorem dX7_exact_66 : decode cX7_exact 66 = .ok (.getfield 178, 3) := by decide +kernel
theorem dX7_exact_69 : decode cX7_exact 69 = .ok (.lstore 6, 2) := by decide +kernel
theorem dX7_exact_71 : decode cX7_exact 71 = .ok (.lload 4, 2) := by decide +kernel
theorem dX7_exact_73 : decode cX7_exact 73 = .ok (.invokestatic 182, 3) := by decide +kernel
theorem dX7_exact_76 : decode cX7_exact 76 = .ok (.lload 6, 2) := by decide +kernel
theorem dX7_exact_78 : decode cX7_exact 78 = .ok (.invokestatic 188, 3) := by decide +kernel
theorem dX7_exact_81 : decode cX7_exact 81 = .ok (.lstore 8, 2) := by decide +kernel
theorem dX7_exact_83 : decode cX7_exact 83 = .ok (.iload_n 3, 1) := by decide +kernel
theorem dX7_exact_84 : decode cX7_exact 84 = .ok (.ifCond .ne 8, 3) := by decide +kernel
theorem dX7_exact_87 : decode cX7_exact 87 = .ok (.lload 4, 2) := by decide +kernel
theorem dX7_exact_89 : decode cX7_exact 89 = .ok (.goto 5, 3) := by decide +kernel
theorem dX7_exact_92 : decode cX7_exact 92 = .ok (.lload 6, 2) := by decide +kernel
theorem dX7_exact_94 : decode cX7_exact 94 = .ok (.lload 8, 2) := by decide +kernel
theorem dX7_exact_96 : decode cX7_exact 96 = .ok (.ldiv, 1) := by decide +kernel
theorem dX7_exact_97 : decode cX7_exact 97 = .ok (.l2i, 1) := by decide +kernel
theorem dX7_exact_98 : decode cX7_exact 98 = .ok (.ireturn, 1) := by decide +kernel
theorem dX7_bears_0 : decode cX7_bears 0 = .ok (.aload_n 0, 1) := by decide +kernel
theorem dX7_bears_1 : decode cX7_bears 1 = .ok (.iload_n 1, 1) := by decide +kernel
theorem dX7_bears_2 : decode cX7_bears 2 = .ok (.invokevirtual 119, 3) := by decide +kernel
theorem dX7_bears_5 : decode cX7_bears 5 = .ok (.ifCond .eq 10, 3) := by decide +kernel
theorem dX7_bears_8 : decode cX7_bears 8 = .ok (.iload_n 2, 1) := by decide +kernel
theorem dX7_bears_9 : decode cX7_bears 9 = .ok (.invokestatic 122, 3) := by decide +kernel
theorem dX7_bears_12 : decode cX7_bears 12 = .ok (.ifCond .ne 5, 3) := by decide +kernel
theorem dX7_bears_15 : decode cX7_bears 15 = .ok (.iconst (-1), 1) := by decide +kernel
theorem dX7_bears_16 : decode cX7_bears 16 = .ok (.ireturn, 1) := by decide +kernel
theorem dX7_bears_17 : decode cX7_bears 17 = .ok (.aload_n 0, 1) := by decide +kernel
theorem dX7_bears_18 : decode cX7_bears 18 = .ok (.getfield 33, 3) := by decide +kernel
theorem dX7_bears_21 : decode cX7_bears 21 = .ok (.aload_n 0, 1) := by decide +kernel
theorem dX7_bears_22 : decode cX7_bears 22 = .ok (.getfield 54, 3) := by decide +kernel
theorem dX7_bears_25 : decode cX7_bears 25 = .ok (.invokevirtual 144, 3) := by decide +kernel
theorem dX7_bears_28 : decode cX7_bears 28 = .ok (.ifCond .ne 6, 3) := by decide +kernel
theorem dX7_bears_31 : decode cX7_bears 31 = .ok (.bipush (-2), 2) := by decide +kernel
theorem dX7_bears_33 : decode cX7_bears 33 = .ok (.ireturn, 1) := by decide +kernel
theorem dX7_bears_34 : decode cX7_bears 34 = .ok (.aload_n 0, 1) := by decide +kernel
theorem dX7_bears_35 : decode cX7_bears 35 = .ok (.getfield 33, 3) := by decide +kernel
theorem dX7_bears_38 : decode cX7_bears 38 = .ok (.aload_n 0, 1) := by decide +kernel
theorem dX7_bears_39 : decode cX7_bears 39 = .ok (.getfield 54, 3) := by decide +kernel
theorem dX7_bears_42 : decode cX7_bears 42 = .ok (.iload_n 1, 1) := by decide +kernel
theorem dX7_bears_43 : decode cX7_bears 43 = .ok (.iload_n 2, 1) := by decide +kernel
theorem dX7_bears_44 : decode cX7_bears 44 = .ok (.invokevirtual 192, 3) := by decide +kernel
theorem dX7_bears_47 : decode cX7_bears 47 = .ok (.ldc 171, 2) := by decide +kernel
theorem dX7_bears_49 : decode cX7_bears 49 = .ok (.iadd, 1) := by decide +kernel
theorem dX7_bears_50 : decode cX7_bears 50 = .ok (.ireturn, 1) := by decide +kernel
theorem dX7_strand_0 : decode cX7_strand 0 = .ok (.aload_n 0, 1) := by decide +kernel
theorem dX7_strand_1 : decode cX7_strand 1 = .ok (.getfield 54, 3) := by decide +kernel
theorem dX7_strand_4 : decode cX7_strand 4 = .ok (.iload_n 1, 1) := by decide +kernel
theorem dX7_strand_5 : decode cX7_strand 5 = .ok (.invokevirtual 95, 3) := by decide +kernel
theorem dX7_strand_8 : decode cX7_strand 8 = .ok (.ifCond .eq 13, 3) := by decide +kernel
theorem dX7_strand_11 : decode cX7_strand 11 = .ok (.iload_n 2, 1) := by decide +kernel
theorem dX7_strand_12 : decode cX7_strand 12 = .ok (.iconst 0, 1) := by decide +kernel
theorem dX7_strand_13 : decode cX7_strand 13 = .ok (.bipush 8, 2) := by decide +kernel
theorem dX7_strand_15 : decode cX7_strand 15 = .ok (.invokestatic 85, 3) := by decide +kernel
theorem dX7_strand_18 : decode cX7_strand 18 = .ok (.ifCond .ne 5, 3) := by decide +kernel
theorem dX7_strand_21 : decode cX7_strand 21 = .ok (.iconst (-1), 1) := by decide +kernel
theorem dX7_strand_22 : decode cX7_strand 22 = .ok (.ireturn, 1) := by decide +kernel
theorem dX7_strand_23 : decode cX7_strand 23 = .ok (.iload_n 2, 1) := by decide +kernel
theorem dX7_strand_24 : decode cX7_strand 24 = .ok (.iconst 5, 1) := by decide +kernel
theorem dX7_strand_25 : decode cX7_strand 25 = .ok (.if_icmp .lt 10, 3) := by decide +kernel
theorem dX7_strand_28 : decode cX7_strand 28 = .ok (.aload_n 0, 1) := by decide +kernel
theorem dX7_strand_29 : decode cX7_strand 29 = .ok (.iload_n 1, 1) := by decide +kernel
theorem dX7_strand_30 : decode cX7_strand 30 = .ok (.iload_n 2, 1) := by decide +kernel
theorem dX7_strand_31 : decode cX7_strand 31 = .ok (.invokevirtual 196, 3) := by decide +kernel
theorem dX7_strand_34 : decode cX7_strand 34 = .ok (.ireturn, 1) := by decide +kernel
theorem dX7_strand_35 : decode cX7_strand 35 = .ok (.iload_n 2, 1) := by decide +kernel
theorem dX7_strand_36 : decode cX7_strand 36 = .ok (.tableswitch 72 0 3 #[32, 42, 52, 62], 32) := by decide +kernel
theorem dX7_strand_68 : decode cX7_strand 68 = .ok (.aload_n 0, 1) := by decide +kernel
theorem dX7_strand_69 : decode cX7_strand 69 = .ok (.getfield 54, 3) := by decide +kernel
theorem dX7_strand_72 : decode cX7_strand 72 = .ok (.getfield 200, 3) := by decide +kernel
theorem dX7_strand_75 : decode cX7_strand 75 = .ok (.iload_n 1, 1) := by decide +kernel
theorem dX7_strand_76 : decode cX7_strand 76 = .ok (.iaload, 1) := by decide +kernel
theorem dX7_strand_77 : decode cX7_strand 77 = .ok (.ireturn, 1) := by decide +kernel
theorem dX7_strand_78 : decode cX7_strand 78 = .ok (.aload_n 0, 1) := by decide +kernel
theorem dX7_strand_79 : decode cX7_strand 79 = .ok (.getfield 54, 3) := by decide +kernel
theorem dX7_strand_82 : decode cX7_strand 82 = .ok (.getfield 203, 3) := by decide +kernel
theorem dX7_strand_85 : decode cX7_strand 85 = .ok (.iload_n 1, 1) := by decide +kernel
theorem dX7_strand_86 : decode cX7_strand 86 = .ok (.iaload, 1) := by decide +kernel
theorem dX7_strand_87 : decode cX7_strand 87 = .ok (.ireturn, 1) := by decide +kernel
theorem dX7_strand_88 : decode cX7_strand 88 = .ok (.aload_n 0, 1) := by decide +kernel
theorem dX7_strand_89 : decode cX7_strand 89 = .ok (.getfield 54, 3) := by decide +kernel
theorem dX7_strand_92 : decode cX7_strand 92 = .ok (.getfield 99, 3) := by decide +kernel
theorem dX7_strand_95 : decode cX7_strand 95 = .ok (.iload_n 1, 1) := by decide +kernel
theorem dX7_strand_96 : decode cX7_strand 96 = .ok (.iaload, 1) := by decide +kernel
theorem dX7_strand_97 : decode cX7_strand 97 = .ok (.ireturn, 1) := by decide +kernel
theorem dX7_strand_98 : decode cX7_strand 98 = .ok (.aload_n 0, 1) := by decide +kernel
theorem dX7_strand_99 : decode cX7_strand 99 = .ok (.getfield 54, 3) := by decide +kernel
theorem dX7_strand_102 : decode cX7_strand 102 = .ok (.getfield 107, 3) := by decide +kernel
theorem dX7_strand_105 : decode cX7_strand 105 = .ok (.iload_n 1, 1) := by decide +kernel
theorem dX7_strand_106 : decode cX7_strand 106 = .ok (.iaload, 1) := by decide +kernel
theorem dX7_strand_107 : decode cX7_strand 107 = .ok (.ireturn, 1) := by decide +kernel
theorem dX7_strand_108 : decode cX7_strand 108 = .ok (.aload_n 0, 1) := by decide +kernel
theorem dX7_strand_109 : decode cX7_strand 109 = .ok (.getfield 54, 3) := by decide +kernel
theorem dX7_strand_112 : decode cX7_strand 112 = .ok (.iload_n 1, 1) := by decide +kernel
theorem dX7_strand_113 : decode cX7_strand 113 = .ok (.invokevirtual 128, 3) := by decide +kernel
theorem dX7_strand_116 : decode cX7_strand 116 = .ok (.ifCond .eq 7, 3) := by decide +kernel
theorem dX7_strand_119 : decode cX7_strand 119 = .ok (.iconst 0, 1) := by decide +kernel
theorem dX7_strand_120 : decode cX7_strand 120 = .ok (.goto 4, 3) := by decide +kernel
theorem dX7_strand_123 : decode cX7_strand 123 = .ok (.iconst 1, 1) := by decide +kernel
theorem dX7_strand_124 : decode cX7_strand 124 = .ok (.ireturn, 1) := by decide +kernel
theorem dX7_hangingStrand_0 : decode cX7_hangingStrand 0 = .ok (.aload_n 0, 1) := by decide +kernel
theorem dX7_hangingStrand_1 : decode cX7_hangingStrand 1 = .ok (.getfield 33, 3) := by decide +kernel
theorem dX7_hangingStrand_4 : decode cX7_hangingStrand 4 = .ok (.aload_n 0, 1) := by decide +kernel
theorem dX7_hangingStrand_5 : decode cX7_hangingStrand 5 = .ok (.getfield 54, 3) := by decide +kernel
theorem dX7_hangingStrand_8 : decode cX7_hangingStrand 8 = .ok (.invokevirtual 144, 3) := by decide +kernel
theorem dX7_hangingStrand_11 : decode cX7_hangingStrand 11 = .ok (.ifCond .ne 6, 3) := by decide +kernel
theorem dX7_hangingStrand_14 : decode cX7_hangingStrand 14 = .ok (.bipush (-2), 2) := by decide +kernel
theorem dX7_hangingStrand_16 : decode cX7_hangingStrand 16 = .ok (.ireturn, 1) := by decide +kernel
theorem dX7_hangingStrand_17 : decode cX7_hangingStrand 17 = .ok (.aload_n 0, 1) := by decide +kernel
theorem dX7_hangingStrand_18 : decode cX7_hangingStrand 18 = .ok (.getfield 54, 3) := by decide +kernel
theorem dX7_hangingStrand_21 : decode cX7_hangingStrand 21 = .ok (.iload_n 1, 1) := by decide +kernel
theorem dX7_hangingStrand_22 : decode cX7_hangingStrand 22 = .ok (.invokevirtual 128, 3) := by decide +kernel
theorem dX7_hangingStrand_25 : decode cX7_hangingStrand 25 = .ok (.ifCond .eq 21, 3) := by decide +kernel
theorem dX7_hangingStrand_28 : decode cX7_hangingStrand 28 = .ok (.iload_n 2, 1) := by decide +kernel
theorem dX7_hangingStrand_29 : decode cX7_hangingStrand 29 = .ok (.bipush 7, 2) := by decide +kernel
theorem dX7_hangingStrand_31 : decode cX7_hangingStrand 31 = .ok (.if_icmp .ne 18, 3) := by decide +kernel
theorem dX7_hangingStrand_34 : decode cX7_hangingStrand 34 = .ok (.aload_n 0, 1) := by decide +kernel
theorem dX7_hangingStrand_35 : decode cX7_hangingStrand 35 = .ok (.getfield 54, 3) := by decide +kernel
theorem dX7_hangingStrand_38 : decode cX7_hangingStrand 38 = .ok (.getfield 107, 3) := by decide +kernel
theorem dX7_hangingStrand_41 : decode cX7_hangingStrand 41 = .ok (.iload_n 1, 1) := by decide +kernel
theorem dX7_hangingStrand_42 : decode cX7_hangingStrand 42 = .ok (.iaload, 1) := by decide +kernel
theorem dX7_hangingStrand_43 : decode cX7_hangingStrand 43 = .ok (.ifCond .ne 6, 3) := by decide +kernel
theorem dX7_hangingStrand_46 : decode cX7_hangingStrand 46 = .ok (.bipush (-4), 2) := by decide +kernel
theorem dX7_hangingStrand_48 : decode cX7_hangingStrand 48 = .ok (.ireturn, 1) := by decide +kernel
theorem dX7_hangingStrand_49 : decode cX7_hangingStrand 49 = .ok (.iload_n 2, 1) := by decide +kernel
theorem dX7_hangingStrand_50 : decode cX7_hangingStrand 50 = .ok (.tableswitch 62 5 7 #[26, 36, 49], 26) := by decide +kernel
theorem dX7_hangingStrand_76 : decode cX7_hangingStrand 76 = .ok (.aload_n 0, 1) := by decide +kernel
theorem dX7_hangingStrand_77 : decode cX7_hangingStrand 77 = .ok (.getfield 33, 3) := by decide +kernel
theorem dX7_hangingStrand_80 : decode cX7_hangingStrand 80 = .ok (.getfield 148, 3) := by decide +kernel
theorem dX7_hangingStrand_83 : decode cX7_hangingStrand 83 = .ok (.iload_n 1, 1) := by decide +kernel
theorem dX7_hangingStrand_84 : decode cX7_hangingStrand 84 = .ok (.iaload, 1) := by decide +kernel
theorem dX7_hangingStrand_85 : decode cX7_hangingStrand 85 = .ok (.ireturn, 1) := by decide +kernel
theorem dX7_hangingStrand_86 : decode cX7_hangingStrand 86 = .ok (.aload_n 0, 1) := by decide +kernel
theorem dX7_hangingStrand_87 : decode cX7_hangingStrand 87 = .ok (.getfield 33, 3) := by decide +kernel
theorem dX7_hangingStrand_90 : decode cX7_hangingStrand 90 = .ok (.aload_n 0, 1) := by decide +kernel
theorem dX7_hangingStrand_91 : decode cX7_hangingStrand 91 = .ok (.getfield 54, 3) := by decide +kernel
theorem dX7_hangingStrand_94 : decode cX7_hangingStrand 94 = .ok (.iload_n 1, 1) := by decide +kernel
theorem dX7_hangingStrand_95 : decode cX7_hangingStrand 95 = .ok (.invokevirtual 206, 3) := by decide +kernel
theorem dX7_hangingStrand_98 : decode cX7_hangingStrand 98 = .ok (.ireturn, 1) := by decide +kernel
theorem dX7_hangingStrand_99 : decode cX7_hangingStrand 99 = .ok (.aload_n 0, 1) := by decide +kernel
theorem dX7_hangingStrand_100 : decode cX7_hangingStrand 100 = .ok (.getfield 33, 3) := by decide +kernel
theorem dX7_hangingStrand_103 : decode cX7_hangingStrand 103 = .ok (.aload_n 0, 1) := by decide +kernel
theorem dX7_hangingStrand_104 : decode cX7_hangingStrand 104 = .ok (.getfield 54, 3) := by decide +kernel
theorem dX7_hangingStrand_107 : decode cX7_hangingStrand 107 = .ok (.iload_n 1, 1) := by decide +kernel
theorem dX7_hangingStrand_108 : decode cX7_hangingStrand 108 = .ok (.invokevirtual 210, 3) := by decide +kernel
theorem dX7_hangingStrand_111 : decode cX7_hangingStrand 111 = .ok (.ireturn, 1) := by decide +kernel
theorem dX7_hangingStrand_112 : decode cX7_hangingStrand 112 = .ok (.aload_n 0, 1) := by decide +kernel
theorem dX7_hangingStrand_113 : decode cX7_hangingStrand 113 = .ok (.getfield 54, 3) := by decide +kernel
theorem dX7_hangingStrand_116 : decode cX7_hangingStrand 116 = .ok (.iload_n 1, 1) := by decide +kernel
theorem dX7_hangingStrand_117 : decode cX7_hangingStrand 117 = .ok (.invokevirtual 213, 3) := by decide +kernel
theorem dX7_hangingStrand_120 : decode cX7_hangingStrand 120 = .ok (.ifCond .eq 7, 3) := by decide +kernel
theorem dX7_hangingStrand_123 : decode cX7_hangingStrand 123 = .ok (.iconst 1, 1) := by decide +kernel
theorem dX7_hangingStrand_124 : decode cX7_hangingStrand 124 = .ok (.goto 4, 3) := by decide +kernel
theorem dX7_hangingStrand_127 : decode cX7_hangingStrand 127 = .ok (.iconst 0, 1) := by decide +kernel
theorem dX7_hangingStrand_128 : decode cX7_hangingStrand 128 = .ok (.ireturn, 1) := by decide +kernel
theorem dX7_slack_0 : decode cX7_slack 0 = .ok (.aload_n 0, 1) := by decide +kernel
theorem dX7_slack_1 : decode cX7_slack 1 = .ok (.getfield 33, 3) := by decide +kernel
theorem dX7_slack_4 : decode cX7_slack 4 = .ok (.aload_n 0, 1) := by decide +kernel
theorem dX7_slack_5 : decode cX7_slack 5 = .ok (.getfield 54, 3) := by decide +kernel
theorem dX7_slack_8 : decode cX7_slack 8 = .ok (.invokevirtual 144, 3) := by decide +kernel
theorem dX7_slack_11 : decode cX7_slack 11 = .ok (.ifCond .eq 17, 3) := by decide +kernel
theorem dX7_slack_14 : decode cX7_slack 14 = .ok (.aload_n 0, 1) := by decide +kernel
theorem dX7_slack_15 : decode cX7_slack 15 = .ok (.getfield 33, 3) := by decide +kernel
theorem dX7_slack_18 : decode cX7_slack 18 = .ok (.aload_n 0, 1) := by decide +kernel
theorem dX7_slack_19 : decode cX7_slack 19 = .ok (.getfield 54, 3) := by decide +kernel
theorem dX7_slack_22 : decode cX7_slack 22 = .ok (.invokevirtual 216, 3) := by decide +kernel
theorem dX7_slack_25 : decode cX7_slack 25 = .ok (.goto 5, 3) := by decide +kernel
theorem dX7_slack_28 : decode cX7_slack 28 = .ok (.bipush (-2), 2) := by decide +kernel
theorem dX7_slack_30 : decode cX7_slack 30 = .ok (.ireturn, 1) := by decide +kernel
theorem dX7_miss_0 : decode cX7_miss 0 = .ok (.aload_n 0, 1) := by decide +kernel
theorem dX7_miss_1 : decode cX7_miss 1 = .ok (.getfield 33, 3) := by decide +kernel
theorem dX7_miss_4 : decode cX7_miss 4 = .ok (.aload_n 0, 1) := by decide +kernel
theorem dX7_miss_5 : decode cX7_miss 5 = .ok (.getfield 54, 3) := by decide +kernel
theorem dX7_miss_8 : decode cX7_miss 8 = .ok (.invokevirtual 144, 3) := by decide +kernel
theorem dX7_miss_11 : decode cX7_miss 11 = .ok (.ifCond .eq 17, 3) := by decide +kernel
theorem dX7_miss_14 : decode cX7_miss 14 = .ok (.aload_n 0, 1) := by decide +kernel
theorem dX7_miss_15 : decode cX7_miss 15 = .ok (.getfield 33, 3) := by decide +kernel
theorem dX7_miss_18 : decode cX7_miss 18 = .ok (.aload_n 0, 1) := by decide +kernel
theorem dX7_miss_19 : decode cX7_miss 19 = .ok (.getfield 54, 3) := by decide +kernel
theorem dX7_miss_22 : decode cX7_miss 22 = .ok (.invokevirtual 220, 3) := by decide +kernel
theorem dX7_miss_25 : decode cX7_miss 25 = .ok (.goto 5, 3) := by decide +kernel
theorem dX7_miss_28 : decode cX7_miss 28 = .ok (.bipush (-2), 2) := by decide +kernel
theorem dX7_miss_30 : decode cX7_miss 30 = .ok (.ireturn, 1) := by decide +kernel
theorem dX7_settle_0 : decode cX7_settle 0 = .ok (.iload_n 1, 1) := by decide +kernel
theorem dX7_settle_1 : decode cX7_settle 1 = .ok (.iconst 0, 1) := by decide +kernel
theorem dX7_settle_2 : decode cX7_settle 2 = .ok (.iconst 1, 1) := by decide +kernel
theorem dX7_settle_3 : decode cX7_settle 3 = .ok (.invokestatic 85, 3) := by decide +kernel
theorem dX7_settle_6 : decode cX7_settle 6 = .ok (.ifCond .ne 5, 3) := by decide +kernel
theorem dX7_settle_9 : decode cX7_settle 9 = .ok (.iconst (-1), 1) := by decide +kernel
theorem dX7_settle_10 : decode cX7_settle 10 = .ok (.ireturn, 1) := by decide +kernel
theorem dX7_settle_11 : decode cX7_settle 11 = .ok (.aload_n 0, 1) := by decide +kernel
theorem dX7_settle_12 : decode cX7_settle 12 = .ok (.getfield 54, 3) := by decide +kernel
theorem dX7_settle_15 : decode cX7_settle 15 = .ok (.invokevirtual 140, 3) := by decide +kernel
theorem dX7_settle_18 : decode cX7_settle 18 = .ok (.ifCond .ne 6, 3) := by decide +kernel
theorem dX7_settle_21 : decode cX7_settle 21 = .ok (.bipush (-2), 2) := by decide +kernel
theorem dX7_settle_23 : decode cX7_settle 23 = .ok (.ireturn, 1) := by decide +kernel
theorem dX7_settle_24 : decode cX7_settle 24 = .ok (.aload_n 0, 1) := by decide +kernel
theorem dX7_settle_25 : decode cX7_settle 25 = .ok (.getfield 40, 3) := by decide +kernel
theorem dX7_settle_28 : decode cX7_settle 28 = .ok (.aload_n 0, 1) := by decide +kernel
theorem dX7_settle_29 : decode cX7_settle 29 = .ok (.getfield 54, 3) := by decide +kernel
theorem dX7_settle_32 : decode cX7_settle 32 = .ok (.invokevirtual 223, 3) := by decide +kernel
theorem dX7_settle_35 : decode cX7_settle 35 = .ok (.ifCond .ne 6, 3) := by decide +kernel
theorem dX7_settle_38 : decode cX7_settle 38 = .ok (.bipush (-4), 2) := by decide +kernel
theorem dX7_settle_40 : decode cX7_settle 40 = .ok (.ireturn, 1) := by decide +kernel
theorem dX7_settle_41 : decode cX7_settle 41 = .ok (.iload_n 1, 1) := by decide +kernel
theorem dX7_settle_42 : decode cX7_settle 42 = .ok (.ifCond .ne 13, 3) := by decide +kernel
theorem dX7_settle_45 : decode cX7_settle 45 = .ok (.aload_n 0, 1) := by decide +kernel
theorem dX7_settle_46 : decode cX7_settle 46 = .ok (.getfield 40, 3) := by decide +kernel
theorem dX7_settle_49 : decode cX7_settle 49 = .ok (.getfield 226, 3) := by decide +kernel
theorem dX7_settle_52 : decode cX7_settle 52 = .ok (.goto 10, 3) := by decide +kernel
theorem dX7_settle_55 : decode cX7_settle 55 = .ok (.aload_n 0, 1) := by decide +kernel
theorem dX7_settle_56 : decode cX7_settle 56 = .ok (.getfield 40, 3) := by decide +kernel
theorem dX7_settle_59 : decode cX7_settle 59 = .ok (.getfield 229, 3) := by decide +kernel
theorem dX7_settle_62 : decode cX7_settle 62 = .ok (.ireturn, 1) := by decide +kernel
theorem dX7_better_0 : decode cX7_better 0 = .ok (.iload_n 1, 1) := by decide +kernel
theorem dX7_better_1 : decode cX7_better 1 = .ok (.iconst 0, 1) := by decide +kernel
theorem dX7_better_2 : decode cX7_better 2 = .ok (.iconst 1, 1) := by decide +kernel
theorem dX7_better_3 : decode cX7_better 3 = .ok (.invokestatic 85, 3) := by decide +kernel
theorem dX7_better_6 : decode cX7_better 6 = .ok (.ifCond .ne 5, 3) := by decide +kernel
theorem dX7_better_9 : decode cX7_better 9 = .ok (.iconst (-1), 1) := by decide +kernel
theorem dX7_better_10 : decode cX7_better 10 = .ok (.ireturn, 1) := by decide +kernel
theorem dX7_better_11 : decode cX7_better 11 = .ok (.aload_n 0, 1) := by decide +kernel
theorem dX7_better_12 : decode cX7_better 12 = .ok (.getfield 54, 3) := by decide +kernel
theorem dX7_better_15 : decode cX7_better 15 = .ok (.invokevirtual 140, 3) := by decide +kernel
theorem dX7_better_18 : decode cX7_better 18 = .ok (.ifCond .ne 6, 3) := by decide +kernel
theorem dX7_better_21 : decode cX7_better 21 = .ok (.bipush (-2), 2) := by decide +kernel
theorem dX7_better_23 : decode cX7_better 23 = .ok (.ireturn, 1) := by decide +kernel
theorem dX7_better_24 : decode cX7_better 24 = .ok (.aload_n 0, 1) := by decide +kernel
theorem dX7_better_25 : decode cX7_better 25 = .ok (.getfield 40, 3) := by decide +kernel
theorem dX7_better_28 : decode cX7_better 28 = .ok (.aload_n 0, 1) := by decide +kernel
theorem dX7_better_29 : decode cX7_better 29 = .ok (.getfield 54, 3) := by decide +kernel
theorem dX7_better_32 : decode cX7_better 32 = .ok (.invokevirtual 231, 3) := by decide +kernel
theorem dX7_better_35 : decode cX7_better 35 = .ok (.ifCond .ne 6, 3) := by decide +kernel
theorem dX7_better_38 : decode cX7_better 38 = .ok (.bipush (-4), 2) := by decide +kernel
theorem dX7_better_40 : decode cX7_better 40 = .ok (.ireturn, 1) := by decide +kernel
theorem dX7_better_41 : decode cX7_better 41 = .ok (.iload_n 1, 1) := by decide +kernel
theorem dX7_better_42 : decode cX7_better 42 = .ok (.ifCond .ne 13, 3) := by decide +kernel
theorem dX7_better_45 : decode cX7_better 45 = .ok (.aload_n 0, 1) := by decide +kernel
theorem dX7_better_46 : decode cX7_better 46 = .ok (.getfield 40, 3) := by decide +kernel
theorem dX7_better_49 : decode cX7_better 49 = .ok (.getfield 226, 3) := by decide +kernel
theorem dX7_better_52 : decode cX7_better 52 = .ok (.goto 10, 3) := by decide +kernel
theorem dX7_better_55 : decode cX7_better 55 = .ok (.aload_n 0, 1) := by decide +kernel
theorem dX7_better_56 : decode cX7_better 56 = .ok (.getfield 40, 3) := by decide +kernel
theorem dX7_better_59 : decode cX7_better 59 = .ok (.getfield 229, 3) := by decide +kernel
theorem dX7_better_62 : decode cX7_better 62 = .ok (.ireturn, 1) := by decide +kernel
theorem dX7_greatest_0 : decode cX7_greatest 0 = .ok (.iload_n 1, 1) := by decide +kernel
theorem dX7_greatest_1 : decode cX7_greatest 1 = .ok (.iconst 0, 1) := by decide +kernel
theorem dX7_greatest_2 : decode cX7_greatest 2 = .ok (.iconst 1, 1) := by decide +kernel
theorem dX7_greatest_3 : decode cX7_greatest 3 = .ok (.invokestatic 85, 3) := by decide +kernel
theorem dX7_greatest_6 : decode cX7_greatest 6 = .ok (.ifCond .ne 5, 3) := by decide +kernel
theorem dX7_greatest_9 : decode cX7_greatest 9 = .ok (.iconst (-1), 1) := by decide +kernel
theorem dX7_greatest_10 : decode cX7_greatest 10 = .ok (.ireturn, 1) := by decide +kernel
theorem dX7_greatest_11 : decode cX7_greatest 11 = .ok (.aload_n 0, 1) := by decide +kernel
theorem dX7_greatest_12 : decode cX7_greatest 12 = .ok (.getfield 33, 3) := by decide +kernel
theorem dX7_greatest_15 : decode cX7_greatest 15 = .ok (.aload_n 0, 1) := by decide +kernel
theorem dX7_greatest_16 : decode cX7_greatest 16 = .ok (.getfield 54, 3) := by decide +kernel
theorem dX7_greatest_19 : decode cX7_greatest 19 = .ok (.invokevirtual 144, 3) := by decide +kernel
theorem dX7_greatest_22 : decode cX7_greatest 22 = .ok (.ifCond .ne 6, 3) := by decide +kernel
theorem dX7_greatest_25 : decode cX7_greatest 25 = .ok (.bipush (-2), 2) := by decide +kernel
theorem dX7_greatest_27 : decode cX7_greatest 27 = .ok (.ireturn, 1) := by decide +kernel
theorem dX7_greatest_28 : decode cX7_greatest 28 = .ok (.bipush (-4), 2) := by decide +kernel
theorem dX7_greatest_30 : decode cX7_greatest 30 = .ok (.istore_n 2, 1) := by decide +kernel
theorem dX7_greatest_31 : decode cX7_greatest 31 = .ok (.iconst (-1), 1) := by decide +kernel
theorem dX7_greatest_32 : decode cX7_greatest 32 = .ok (.istore_n 3, 1) := by decide +kernel
theorem dX7_greatest_33 : decode cX7_greatest 33 = .ok (.iconst 0, 1) := by decide +kernel
theorem dX7_greatest_34 : decode cX7_greatest 34 = .ok (.istore 4, 2) := by decide +kernel
theorem dX7_greatest_36 : decode cX7_greatest 36 = .ok (.iload 4, 2) := by decide +kernel
theorem dX7_greatest_38 : decode cX7_greatest 38 = .ok (.aload_n 0, 1) := by decide +kernel
theorem dX7_greatest_39 : decode cX7_greatest 39 = .ok (.getfield 54, 3) := by decide +kernel
theorem dX7_greatest_42 : decode cX7_greatest 42 = .ok (.getfield 234, 3) := by decide +kernel
theorem dX7_greatest_45 : decode cX7_greatest 45 = .ok (.if_icmp .ge 65, 3) := by decide +kernel
theorem dX7_greatest_48 : decode cX7_greatest 48 = .ok (.iload_n 1, 1) := by decide +kernel
theorem dX7_greatest_49 : decode cX7_greatest 49 = .ok (.ifCond .ne 16, 3) := by decide +kernel
theorem dX7_greatest_52 : decode cX7_greatest 52 = .ok (.aload_n 0, 1) := by decide +kernel
theorem dX7_greatest_53 : decode cX7_greatest 53 = .ok (.getfield 33, 3) := by decide +kernel
theorem dX7_greatest_56 : decode cX7_greatest 56 = .ok (.getfield 148, 3) := by decide +kernel
theorem dX7_greatest_59 : decode cX7_greatest 59 = .ok (.iload 4, 2) := by decide +kernel
theorem dX7_greatest_61 : decode cX7_greatest 61 = .ok (.iaload, 1) := by decide +kernel
theorem dX7_greatest_62 : decode cX7_greatest 62 = .ok (.goto 16, 3) := by decide +kernel
theorem dX7_greatest_65 : decode cX7_greatest 65 = .ok (.aload_n 0, 1) := by decide +kernel
theorem dX7_greatest_66 : decode cX7_greatest 66 = .ok (.getfield 33, 3) := by decide +kernel
theorem dX7_greatest_69 : decode cX7_greatest 69 = .ok (.aload_n 0, 1) := by decide +kernel
theorem dX7_greatest_70 : decode cX7_greatest 70 = .ok (.getfield 54, 3) := by decide +kernel
theorem dX7_greatest_73 : decode cX7_greatest 73 = .ok (.iload 4, 2) := by decide +kernel
theorem dX7_greatest_75 : decode cX7_greatest 75 = .ok (.invokevirtual 206, 3) := by decide +kernel
theorem dX7_greatest_78 : decode cX7_greatest 78 = .ok (.istore 5, 2) := by decide +kernel
theorem dX7_greatest_80 : decode cX7_greatest 80 = .ok (.aload_n 0, 1) := by decide +kernel
theorem dX7_greatest_81 : decode cX7_greatest 81 = .ok (.getfield 54, 3) := by decide +kernel
theorem dX7_greatest_84 : decode cX7_greatest 84 = .ok (.iload 4, 2) := by decide +kernel
theorem dX7_greatest_86 : decode cX7_greatest 86 = .ok (.invokevirtual 128, 3) := by decide +kernel
theorem dX7_greatest_89 : decode cX7_greatest 89 = .ok (.ifCond .eq 15, 3) := by decide +kernel
theorem dX7_greatest_92 : decode cX7_greatest 92 = .ok (.iload 5, 2) := by decide +kernel
theorem dX7_greatest_94 : decode cX7_greatest 94 = .ok (.iload_n 3, 1) := by decide +kernel
theorem dX7_greatest_95 : decode cX7_greatest 95 = .ok (.if_icmp .le 9, 3) := by decide +kernel
theorem dX7_greatest_98 : decode cX7_greatest 98 = .ok (.iload 4, 2) := by decide +kernel
theorem dX7_greatest_100 : decode cX7_greatest 100 = .ok (.istore_n 2, 1) := by decide +kernel
theorem dX7_greatest_101 : decode cX7_greatest 101 = .ok (.iload 5, 2) := by decide +kernel
theorem dX7_greatest_103 : decode cX7_greatest 103 = .ok (.istore_n 3, 1) := by decide +kernel
theorem dX7_greatest_104 : decode cX7_greatest 104 = .ok (.iinc 4 1, 3) := by decide +kernel
theorem dX7_greatest_107 : decode cX7_greatest 107 = .ok (.goto (-71), 3) := by decide +kernel
theorem dX7_greatest_110 : decode cX7_greatest 110 = .ok (.iload_n 2, 1) := by decide +kernel
theorem dX7_greatest_111 : decode cX7_greatest 111 = .ok (.ireturn, 1) := by decide +kernel
theorem dX7_rolls_0 : decode cX7_rolls 0 = .ok (.iload_n 1, 1) := by decide +kernel
theorem dX7_rolls_1 : decode cX7_rolls 1 = .ok (.iconst 0, 1) := by decide +kernel
theorem dX7_rolls_2 : decode cX7_rolls 2 = .ok (.iconst 2, 1) := by decide +kernel
theorem dX7_rolls_3 : decode cX7_rolls 3 = .ok (.invokestatic 85, 3) := by decide +kernel
theorem dX7_rolls_6 : decode cX7_rolls 6 = .ok (.ifCond .ne 5, 3) := by decide +kernel
theorem dX7_rolls_9 : decode cX7_rolls 9 = .ok (.iconst (-1), 1) := by decide +kernel
theorem dX7_rolls_10 : decode cX7_rolls 10 = .ok (.ireturn, 1) := by decide +kernel
theorem dX7_rolls_11 : decode cX7_rolls 11 = .ok (.aload_n 0, 1) := by decide +kernel
theorem dX7_rolls_12 : decode cX7_rolls 12 = .ok (.getfield 33, 3) := by decide +kernel
theorem dX7_rolls_15 : decode cX7_rolls 15 = .ok (.aload_n 0, 1) := by decide +kernel
theorem dX7_rolls_16 : decode cX7_rolls 16 = .ok (.getfield 54, 3) := by decide +kernel
theorem dX7_rolls_19 : decode cX7_rolls 19 = .ok (.invokevirtual 144, 3) := by decide +kernel
theorem dX7_rolls_22 : decode cX7_rolls 22 = .ok (.ifCond .ne 6, 3) := by decide +kernel
theorem dX7_rolls_25 : decode cX7_rolls 25 = .ok (.bipush (-2), 2) := by decide +kernel
theorem dX7_rolls_27 : decode cX7_rolls 27 = .ok (.ireturn, 1) := by decide +kernel
theorem dX7_rolls_28 : decode cX7_rolls 28 = .ok (.aload_n 0, 1) := by decide +kernel
theorem dX7_rolls_29 : decode cX7_rolls 29 = .ok (.getfield 47, 3) := by decide +kernel
theorem dX7_rolls_32 : decode cX7_rolls 32 = .ok (.aload_n 0, 1) := by decide +kernel
theorem dX7_rolls_33 : decode cX7_rolls 33 = .ok (.getfield 54, 3) := by decide +kernel
theorem dX7_rolls_36 : decode cX7_rolls 36 = .ok (.aload_n 0, 1) := by decide +kernel
theorem dX7_rolls_37 : decode cX7_rolls 37 = .ok (.getfield 33, 3) := by decide +kernel
theorem dX7_rolls_40 : decode cX7_rolls 40 = .ok (.getfield 148, 3) := by decide +kernel
theorem dX7_rolls_43 : decode cX7_rolls 43 = .ok (.invokevirtual 237, 3) := by decide +kernel
theorem dX7_rolls_46 : decode cX7_rolls 46 = .ok (.ifCond .ne 6, 3) := by decide +kernel
theorem dX7_rolls_49 : decode cX7_rolls 49 = .ok (.bipush (-4), 2) := by decide +kernel
theorem dX7_rolls_51 : decode cX7_rolls 51 = .ok (.ireturn, 1) := by decide +kernel
theorem dX7_rolls_52 : decode cX7_rolls 52 = .ok (.iload_n 1, 1) := by decide +kernel
theorem dX7_rolls_53 : decode cX7_rolls 53 = .ok (.lookupswitch 43 #[(0, 27), (1, 35)], 27) := by decide +kernel
theorem dX7_rolls_80 : decode cX7_rolls 80 = .ok (.aload_n 0, 1) := by decide +kernel
theorem dX7_rolls_81 : decode cX7_rolls 81 = .ok (.getfield 47, 3) := by decide +kernel
theorem dX7_rolls_84 : decode cX7_rolls 84 = .ok (.getfield 241, 3) := by decide +kernel
theorem dX7_rolls_87 : decode cX7_rolls 87 = .ok (.ireturn, 1) := by decide +kernel
theorem dX7_rolls_88 : decode cX7_rolls 88 = .ok (.aload_n 0, 1) := by decide +kernel
theorem dX7_rolls_89 : decode cX7_rolls 89 = .ok (.getfield 47, 3) := by decide +kernel
theorem dX7_rolls_92 : decode cX7_rolls 92 = .ok (.invokevirtual 244, 3) := by decide +kernel
theorem dX7_rolls_95 : decode cX7_rolls 95 = .ok (.ireturn, 1) := by decide +kernel
theorem dX7_rolls_96 : decode cX7_rolls 96 = .ok (.aload_n 0, 1) := by decide +kernel
theorem dX7_rolls_97 : decode cX7_rolls 97 = .ok (.getfield 47, 3) := by decide +kernel
theorem dX7_rolls_100 : decode cX7_rolls 100 = .ok (.invokevirtual 247, 3) := by decide +kernel
theorem dX7_rolls_103 : decode cX7_rolls 103 = .ok (.ireturn, 1) := by decide +kernel
theorem dX7_rollOf_0 : decode cX7_rollOf 0 = .ok (.aload_n 0, 1) := by decide +kernel
theorem dX7_rollOf_1 : decode cX7_rollOf 1 = .ok (.getfield 54, 3) := by decide +kernel
theorem dX7_rollOf_4 : decode cX7_rollOf 4 = .ok (.iload_n 1, 1) := by decide +kernel
theorem dX7_rollOf_5 : decode cX7_rollOf 5 = .ok (.invokevirtual 95, 3) := by decide +kernel
theorem dX7_rollOf_8 : decode cX7_rollOf 8 = .ok (.ifCond .ne 5, 3) := by decide +kernel
theorem dX7_rollOf_11 : decode cX7_rollOf 11 = .ok (.iconst (-1), 1) := by decide +kernel
theorem dX7_rollOf_12 : decode cX7_rollOf 12 = .ok (.ireturn, 1) := by decide +kernel
theorem dX7_rollOf_13 : decode cX7_rollOf 13 = .ok (.aload_n 0, 1) := by decide +kernel
theorem dX7_rollOf_14 : decode cX7_rollOf 14 = .ok (.getfield 33, 3) := by decide +kernel
theorem dX7_rollOf_17 : decode cX7_rollOf 17 = .ok (.aload_n 0, 1) := by decide +kernel
theorem dX7_rollOf_18 : decode cX7_rollOf 18 = .ok (.getfield 54, 3) := by decide +kernel
theorem dX7_rollOf_21 : decode cX7_rollOf 21 = .ok (.invokevirtual 144, 3) := by decide +kernel
theorem dX7_rollOf_24 : decode cX7_rollOf 24 = .ok (.ifCond .ne 6, 3) := by decide +kernel
theorem dX7_rollOf_27 : decode cX7_rollOf 27 = .ok (.bipush (-2), 2) := by decide +kernel
theorem dX7_rollOf_29 : decode cX7_rollOf 29 = .ok (.ireturn, 1) := by decide +kernel
theorem dX7_rollOf_30 : decode cX7_rollOf 30 = .ok (.aload_n 0, 1) := by decide +kernel
theorem dX7_rollOf_31 : decode cX7_rollOf 31 = .ok (.getfield 54, 3) := by decide +kernel
theorem dX7_rollOf_34 : decode cX7_rollOf 34 = .ok (.iload_n 1, 1) := by decide +kernel
theorem dX7_rollOf_35 : decode cX7_rollOf 35 = .ok (.invokevirtual 128, 3) := by decide +kernel
theorem dX7_rollOf_38 : decode cX7_rollOf 38 = .ok (.ifCond .eq 24, 3) := by decide +kernel
theorem dX7_rollOf_41 : decode cX7_rollOf 41 = .ok (.aload_n 0, 1) := by decide +kernel
theorem dX7_rollOf_42 : decode cX7_rollOf 42 = .ok (.getfield 47, 3) := by decide +kernel
theorem dX7_rollOf_45 : decode cX7_rollOf 45 = .ok (.aload_n 0, 1) := by decide +kernel
theorem dX7_rollOf_46 : decode cX7_rollOf 46 = .ok (.getfield 54, 3) := by decide +kernel
theorem dX7_rollOf_49 : decode cX7_rollOf 49 = .ok (.aload_n 0, 1) := by decide +kernel
theorem dX7_rollOf_50 : decode cX7_rollOf 50 = .ok (.getfield 33, 3) := by decide +kernel
theorem dX7_rollOf_53 : decode cX7_rollOf 53 = .ok (.getfield 148, 3) := by decide +kernel
theorem dX7_rollOf_56 : decode cX7_rollOf 56 = .ok (.invokevirtual 237, 3) := by decide +kernel
theorem dX7_rollOf_59 : decode cX7_rollOf 59 = .ok (.ifCond .ne 6, 3) := by decide +kernel
theorem dX7_rollOf_62 : decode cX7_rollOf 62 = .ok (.bipush (-4), 2) := by decide +kernel
theorem dX7_rollOf_64 : decode cX7_rollOf 64 = .ok (.ireturn, 1) := by decide +kernel
theorem dX7_rollOf_65 : decode cX7_rollOf 65 = .ok (.aload_n 0, 1) := by decide +kernel
theorem dX7_rollOf_66 : decode cX7_rollOf 66 = .ok (.getfield 47, 3) := by decide +kernel
theorem dX7_rollOf_69 : decode cX7_rollOf 69 = .ok (.getfield 250, 3) := by decide +kernel
theorem dX7_rollOf_72 : decode cX7_rollOf 72 = .ok (.iload_n 1, 1) := by decide +kernel
theorem dX7_rollOf_73 : decode cX7_rollOf 73 = .ok (.iaload, 1) := by decide +kernel
theorem dX7_rollOf_74 : decode cX7_rollOf 74 = .ok (.ireturn, 1) := by decide +kernel
theorem dX7_count_0 : decode cX7_count 0 = .ok (.iload_n 1, 1) := by decide +kernel
theorem dX7_count_1 : decode cX7_count 1 = .ok (.tableswitch 147 0 8 #[51, 59, 70, 78, 89, 115, 123, 131, 139], 51) := by decide +kernel
theorem dX7_count_52 : decode cX7_count 52 = .ok (.aload_n 0, 1) := by decide +kernel
theorem dX7_count_53 : decode cX7_count 53 = .ok (.getfield 54, 3) := by decide +kernel
theorem dX7_count_56 : decode cX7_count 56 = .ok (.getfield 89, 3) := by decide +kernel
theorem dX7_count_59 : decode cX7_count 59 = .ok (.ireturn, 1) := by decide +kernel
theorem dX7_count_60 : decode cX7_count 60 = .ok (.aload_n 0, 1) := by decide +kernel
theorem dX7_count_61 : decode cX7_count 61 = .ok (.getfield 54, 3) := by decide +kernel
theorem dX7_count_64 : decode cX7_count 64 = .ok (.getfield 253, 3) := by decide +kernel
theorem dX7_count_67 : decode cX7_count 67 = .ok (.invokestatic 134, 3) := by decide +kernel
theorem dX7_count_70 : decode cX7_count 70 = .ok (.ireturn, 1) := by decide +kernel
theorem dX7_count_71 : decode cX7_count 71 = .ok (.aload_n 0, 1) := by decide +kernel
theorem dX7_count_72 : decode cX7_count 72 = .ok (.getfield 54, 3) := by decide +kernel
theorem dX7_count_75 : decode cX7_count 75 = .ok (.getfield 234, 3) := by decide +kernel
theorem dX7_count_78 : decode cX7_count 78 = .ok (.ireturn, 1) := by decide +kernel
theorem dX7_count_79 : decode cX7_count 79 = .ok (.aload_n 0, 1) := by decide +kernel
theorem dX7_count_80 : decode cX7_count 80 = .ok (.getfield 54, 3) := by decide +kernel
theorem dX7_count_83 : decode cX7_count 83 = .ok (.getfield 131, 3) := by decide +kernel
theorem dX7_count_86 : decode cX7_count 86 = .ok (.invokestatic 134, 3) := by decide +kernel
theorem dX7_count_89 : decode cX7_count 89 = .ok (.ireturn, 1) := by decide +kernel
theorem dX7_count_90 : decode cX7_count 90 = .ok (.aload_n 0, 1) := by decide +kernel
theorem dX7_count_91 : decode cX7_count 91 = .ok (.getfield 54, 3) := by decide +kernel
theorem dX7_count_94 : decode cX7_count 94 = .ok (.aload_n 0, 1) := by decide +kernel
theorem dX7_count_95 : decode cX7_count 95 = .ok (.getfield 54, 3) := by decide +kernel
theorem dX7_count_98 : decode cX7_count 98 = .ok (.getfield 131, 3) := by decide +kernel
theorem dX7_count_101 : decode cX7_count 101 = .ok (.invokevirtual 161, 3) := by decide +kernel
theorem dX7_count_104 : decode cX7_count 104 = .ok (.aload_n 0, 1) := by decide +kernel
theorem dX7_count_105 : decode cX7_count 105 = .ok (.getfield 54, 3) := by decide +kernel
theorem dX7_count_108 : decode cX7_count 108 = .ok (.getfield 253, 3) := by decide +kernel
theorem dX7_count_111 : decode cX7_count 111 = .ok (.iand, 1) := by decide +kernel
theorem dX7_count_112 : decode cX7_count 112 = .ok (.invokestatic 134, 3) := by decide +kernel
theorem dX7_count_115 : decode cX7_count 115 = .ok (.ireturn, 1) := by decide +kernel
theorem dX7_count_116 : decode cX7_count 116 = .ok (.aload_n 0, 1) := by decide +kernel
theorem dX7_count_117 : decode cX7_count 117 = .ok (.getfield 26, 3) := by decide +kernel
theorem dX7_count_120 : decode cX7_count 120 = .ok (.getfield 92, 3) := by decide +kernel
theorem dX7_count_123 : decode cX7_count 123 = .ok (.ireturn, 1) := by decide +kernel
theorem dX7_count_124 : decode cX7_count 124 = .ok (.aload_n 0, 1) := by decide +kernel
theorem dX7_count_125 : decode cX7_count 125 = .ok (.getfield 10, 3) := by decide +kernel
theorem dX7_count_128 : decode cX7_count 128 = .ok (.getfield 81, 3) := by decide +kernel
theorem dX7_count_131 : decode cX7_count 131 = .ok (.ireturn, 1) := by decide +kernel
theorem dX7_count_132 : decode cX7_count 132 = .ok (.aload_n 0, 1) := by decide +kernel
theorem dX7_count_133 : decode cX7_count 133 = .ok (.getfield 54, 3) := by decide +kernel
theorem dX7_count_136 : decode cX7_count 136 = .ok (.getfield 256, 3) := by decide +kernel
theorem dX7_count_139 : decode cX7_count 139 = .ok (.ireturn, 1) := by decide +kernel
theorem dX7_count_140 : decode cX7_count 140 = .ok (.aload_n 0, 1) := by decide +kernel
theorem dX7_count_141 : decode cX7_count 141 = .ok (.getfield 54, 3) := by decide +kernel
theorem dX7_count_144 : decode cX7_count 144 = .ok (.getfield 259, 3) := by decide +kernel
theorem dX7_count_147 : decode cX7_count 147 = .ok (.ireturn, 1) := by decide +kernel
theorem dX7_count_148 : decode cX7_count 148 = .ok (.iconst (-1), 1) := by decide +kernel
theorem dX7_count_149 : decode cX7_count 149 = .ok (.ireturn, 1) := by decide +kernel
theorem dX7_isFixedJoint_0 : decode cX7_isFixedJoint 0 = .ok (.aload_n 0, 1) := by decide +kernel
theorem dX7_isFixedJoint_1 : decode cX7_isFixedJoint 1 = .ok (.getfield 54, 3) := by decide +kernel
theorem dX7_isFixedJoint_4 : decode cX7_isFixedJoint 4 = .ok (.iload_n 1, 1) := by decide +kernel
theorem dX7_isFixedJoint_5 : decode cX7_isFixedJoint 5 = .ok (.invokevirtual 110, 3) := by decide +kernel
theorem dX7_isFixedJoint_8 : decode cX7_isFixedJoint 8 = .ok (.ifCond .eq 18, 3) := by decide +kernel
theorem dX7_isFixedJoint_11 : decode cX7_isFixedJoint 11 = .ok (.aload_n 0, 1) := by decide +kernel
theorem dX7_isFixedJoint_12 : decode cX7_isFixedJoint 12 = .ok (.getfield 54, 3) := by decide +kernel
theorem dX7_isFixedJoint_15 : decode cX7_isFixedJoint 15 = .ok (.iload_n 1, 1) := by decide +kernel
theorem dX7_isFixedJoint_16 : decode cX7_isFixedJoint 16 = .ok (.invokevirtual 113, 3) := by decide +kernel
theorem dX7_isFixedJoint_19 : decode cX7_isFixedJoint 19 = .ok (.ifCond .ne 7, 3) := by decide +kernel
theorem dX7_isFixedJoint_22 : decode cX7_isFixedJoint 22 = .ok (.iconst 1, 1) := by decide +kernel
theorem dX7_isFixedJoint_23 : decode cX7_isFixedJoint 23 = .ok (.goto 4, 3) := by decide +kernel
theorem dX7_isFixedJoint_26 : decode cX7_isFixedJoint 26 = .ok (.iconst 0, 1) := by decide +kernel
theorem dX7_isFixedJoint_27 : decode cX7_isFixedJoint 27 = .ok (.ireturn, 1) := by decide +kernel
theorem dX7_isAxis_0 : decode cX7_isAxis 0 = .ok (.iload_n 0, 1) := by decide +kernel
theorem dX7_isAxis_1 : decode cX7_isAxis 1 = .ok (.iconst 0, 1) := by decide +kernel
theorem dX7_isAxis_2 : decode cX7_isAxis 2 = .ok (.iconst 2, 1) := by decide +kernel
theorem dX7_isAxis_3 : decode cX7_isAxis 3 = .ok (.invokestatic 85, 3) := by decide +kernel
theorem dX7_isAxis_6 : decode cX7_isAxis 6 = .ok (.ireturn, 1) := by decide +kernel
theorem dX7_isWithin_0 : decode cX7_isWithin 0 = .ok (.iload_n 0, 1) := by decide +kernel
theorem dX7_isWithin_1 : decode cX7_isWithin 1 = .ok (.iload_n 1, 1) := by decide +kernel
theorem dX7_isWithin_2 : decode cX7_isWithin 2 = .ok (.if_icmp .lt 12, 3) := by decide +kernel
theorem dX7_isWithin_5 : decode cX7_isWithin 5 = .ok (.iload_n 0, 1) := by decide +kernel
theorem dX7_isWithin_6 : decode cX7_isWithin 6 = .ok (.iload_n 2, 1) := by decide +kernel
theorem dX7_isWithin_7 : decode cX7_isWithin 7 = .ok (.if_icmp .gt 7, 3) := by decide +kernel
theorem dX7_isWithin_10 : decode cX7_isWithin 10 = .ok (.iconst 1, 1) := by decide +kernel
theorem dX7_isWithin_11 : decode cX7_isWithin 11 = .ok (.goto 4, 3) := by decide +kernel
theorem dX7_isWithin_14 : decode cX7_isWithin 14 = .ok (.iconst 0, 1) := by decide +kernel
theorem dX7_isWithin_15 : decode cX7_isWithin 15 = .ok (.ireturn, 1) := by decide +kernel
theorem dX7_greatestShared_0 : decode cX7_greatestShared 0 = .ok (.lload_n 0, 1) := by decide +kernel
theorem dX7_greatestShared_1 : decode cX7_greatestShared 1 = .ok (.lstore 4, 2) := by decide +kernel
theorem dX7_greatestShared_3 : decode cX7_greatestShared 3 = .ok (.lload_n 2, 1) := by decide +kernel
theorem dX7_greatestShared_4 : decode cX7_greatestShared 4 = .ok (.lstore 6, 2) := by decide +kernel
theorem dX7_greatestShared_6 : decode cX7_greatestShared 6 = .ok (.iconst 0, 1) := by decide +kernel
theorem dX7_greatestShared_7 : decode cX7_greatestShared 7 = .ok (.istore 8, 2) := by decide +kernel
theorem dX7_greatestShared_9 : decode cX7_greatestShared 9 = .ok (.iload 8, 2) := by decide +kernel
theorem dX7_greatestShared_11 : decode cX7_greatestShared 11 = .ok (.bipush 100, 2) := by decide +kernel
theorem dX7_greatestShared_13 : decode cX7_greatestShared 13 = .ok (.if_icmp .ge 31, 3) := by decide +kernel
theorem dX7_greatestShared_16 : decode cX7_greatestShared 16 = .ok (.lload 6, 2) := by decide +kernel
theorem dX7_greatestShared_18 : decode cX7_greatestShared 18 = .ok (.lconst 0, 1) := by decide +kernel
theorem dX7_greatestShared_19 : decode cX7_greatestShared 19 = .ok (.lcmp, 1) := by decide +kernel
theorem dX7_greatestShared_20 : decode cX7_greatestShared 20 = .ok (.ifCond .eq 24, 3) := by decide +kernel
theorem dX7_greatestShared_23 : decode cX7_greatestShared 23 = .ok (.lload 4, 2) := by decide +kernel
theorem dX7_greatestShared_25 : decode cX7_greatestShared 25 = .ok (.lload 6, 2) := by decide +kernel
theorem dX7_greatestShared_27 : decode cX7_greatestShared 27 = .ok (.lrem, 1) := by decide +kernel
theorem dX7_greatestShared_28 : decode cX7_greatestShared 28 = .ok (.lstore 9, 2) := by decide +kernel
theorem dX7_greatestShared_30 : decode cX7_greatestShared 30 = .ok (.lload 6, 2) := by decide +kernel
theorem dX7_greatestShared_32 : decode cX7_greatestShared 32 = .ok (.lstore 4, 2) := by decide +kernel
theorem dX7_greatestShared_34 : decode cX7_greatestShared 34 = .ok (.lload 9, 2) := by decide +kernel
theorem dX7_greatestShared_36 : decode cX7_greatestShared 36 = .ok (.lstore 6, 2) := by decide +kernel
theorem dX7_greatestShared_38 : decode cX7_greatestShared 38 = .ok (.iinc 8 1, 3) := by decide +kernel
theorem dX7_greatestShared_41 : decode cX7_greatestShared 41 = .ok (.goto (-32), 3) := by decide +kernel
theorem dX7_greatestShared_44 : decode cX7_greatestShared 44 = .ok (.lload 4, 2) := by decide +kernel
theorem dX7_greatestShared_46 : decode cX7_greatestShared 46 = .ok (.lconst 1, 1) := by decide +kernel
theorem dX7_greatestShared_47 : decode cX7_greatestShared 47 = .ok (.invokestatic 262, 3) := by decide +kernel
theorem dX7_greatestShared_50 : decode cX7_greatestShared 50 = .ok (.lreturn, 1) := by decide +kernel
