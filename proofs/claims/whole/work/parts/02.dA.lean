theorem dX0_init_0 : decode cX0_init 0 = .ok (.aload_n 0, 1) := by decide +kernel
theorem dX0_init_1 : decode cX0_init 1 = .ok (.invokespecial 3, 3) := by decide +kernel
theorem dX0_init_4 : decode cX0_init 4 = .ok (.aload_n 0, 1) := by decide +kernel
theorem dX0_init_5 : decode cX0_init 5 = .ok (.bipush 14, 2) := by decide +kernel
theorem dX0_init_7 : decode cX0_init 7 = .ok (.newarray .int, 2) := by decide +kernel
theorem dX0_init_9 : decode cX0_init 9 = .ok (.putfield 9, 3) := by decide +kernel
theorem dX0_init_12 : decode cX0_init 12 = .ok (.aload_n 0, 1) := by decide +kernel
theorem dX0_init_13 : decode cX0_init 13 = .ok (.bipush 14, 2) := by decide +kernel
theorem dX0_init_15 : decode cX0_init 15 = .ok (.newarray .int, 2) := by decide +kernel
theorem dX0_init_17 : decode cX0_init 17 = .ok (.putfield 15, 3) := by decide +kernel
theorem dX0_init_20 : decode cX0_init 20 = .ok (.aload_n 0, 1) := by decide +kernel
theorem dX0_init_21 : decode cX0_init 21 = .ok (.bipush 14, 2) := by decide +kernel
theorem dX0_init_23 : decode cX0_init 23 = .ok (.newarray .int, 2) := by decide +kernel
theorem dX0_init_25 : decode cX0_init 25 = .ok (.putfield 18, 3) := by decide +kernel
theorem dX0_init_28 : decode cX0_init 28 = .ok (.aload_n 0, 1) := by decide +kernel
theorem dX0_init_29 : decode cX0_init 29 = .ok (.bipush 14, 2) := by decide +kernel
theorem dX0_init_31 : decode cX0_init 31 = .ok (.newarray .int, 2) := by decide +kernel
theorem dX0_init_33 : decode cX0_init 33 = .ok (.putfield 21, 3) := by decide +kernel
theorem dX0_init_36 : decode cX0_init 36 = .ok (.aload_n 0, 1) := by decide +kernel
theorem dX0_init_37 : decode cX0_init 37 = .ok (.bipush 14, 2) := by decide +kernel
theorem dX0_init_39 : decode cX0_init 39 = .ok (.newarray .int, 2) := by decide +kernel
theorem dX0_init_41 : decode cX0_init 41 = .ok (.putfield 24, 3) := by decide +kernel
theorem dX0_init_44 : decode cX0_init 44 = .ok (.return_, 1) := by decide +kernel
theorem dX0_firstFit_0 : decode cX0_firstFit 0 = .ok (.aload_n 0, 1) := by decide +kernel
theorem dX0_firstFit_1 : decode cX0_firstFit 1 = .ok (.bipush 100, 2) := by decide +kernel
theorem dX0_firstFit_3 : decode cX0_firstFit 3 = .ok (.aload_n 1, 1) := by decide +kernel
theorem dX0_firstFit_4 : decode cX0_firstFit 4 = .ok (.getfield 27, 3) := by decide +kernel
theorem dX0_firstFit_7 : decode cX0_firstFit 7 = .ok (.imul, 1) := by decide +kernel
theorem dX0_firstFit_8 : decode cX0_firstFit 8 = .ok (.putfield 33, 3) := by decide +kernel
theorem dX0_firstFit_11 : decode cX0_firstFit 11 = .ok (.aload_n 0, 1) := by decide +kernel
theorem dX0_firstFit_12 : decode cX0_firstFit 12 = .ok (.iconst 0, 1) := by decide +kernel
theorem dX0_firstFit_13 : decode cX0_firstFit 13 = .ok (.putfield 36, 3) := by decide +kernel
theorem dX0_firstFit_16 : decode cX0_firstFit 16 = .ok (.aload_n 0, 1) := by decide +kernel
theorem dX0_firstFit_17 : decode cX0_firstFit 17 = .ok (.aload_n 1, 1) := by decide +kernel
theorem dX0_firstFit_18 : decode cX0_firstFit 18 = .ok (.aload_n 2, 1) := by decide +kernel
theorem dX0_firstFit_19 : decode cX0_firstFit 19 = .ok (.invokevirtual 39, 3) := by decide +kernel
theorem dX0_firstFit_22 : decode cX0_firstFit 22 = .ok (.iconst 0, 1) := by decide +kernel
theorem dX0_firstFit_23 : decode cX0_firstFit 23 = .ok (.istore_n 3, 1) := by decide +kernel
theorem dX0_firstFit_24 : decode cX0_firstFit 24 = .ok (.iload_n 3, 1) := by decide +kernel
theorem dX0_firstFit_25 : decode cX0_firstFit 25 = .ok (.aload_n 0, 1) := by decide +kernel
theorem dX0_firstFit_26 : decode cX0_firstFit 26 = .ok (.getfield 43, 3) := by decide +kernel
theorem dX0_firstFit_29 : decode cX0_firstFit 29 = .ok (.if_icmp .ge 77, 3) := by decide +kernel
theorem dX0_firstFit_32 : decode cX0_firstFit 32 = .ok (.aload_n 0, 1) := by decide +kernel
theorem dX0_firstFit_33 : decode cX0_firstFit 33 = .ok (.getfield 9, 3) := by decide +kernel
theorem dX0_firstFit_36 : decode cX0_firstFit 36 = .ok (.iload_n 3, 1) := by decide +kernel
theorem dX0_firstFit_37 : decode cX0_firstFit 37 = .ok (.iaload, 1) := by decide +kernel
theorem dX0_firstFit_38 : decode cX0_firstFit 38 = .ok (.istore 4, 2) := by decide +kernel
theorem dX0_firstFit_40 : decode cX0_firstFit 40 = .ok (.aload_n 2, 1) := by decide +kernel
theorem dX0_firstFit_41 : decode cX0_firstFit 41 = .ok (.iload 4, 2) := by decide +kernel
theorem dX0_firstFit_43 : decode cX0_firstFit 43 = .ok (.iaload, 1) := by decide +kernel
theorem dX0_firstFit_44 : decode cX0_firstFit 44 = .ok (.aload_n 1, 1) := by decide +kernel
theorem dX0_firstFit_45 : decode cX0_firstFit 45 = .ok (.getfield 46, 3) := by decide +kernel
theorem dX0_firstFit_48 : decode cX0_firstFit 48 = .ok (.iadd, 1) := by decide +kernel
theorem dX0_firstFit_49 : decode cX0_firstFit 49 = .ok (.istore 5, 2) := by decide +kernel
theorem dX0_firstFit_51 : decode cX0_firstFit 51 = .ok (.iload 5, 2) := by decide +kernel
theorem dX0_firstFit_53 : decode cX0_firstFit 53 = .ok (.aload_n 0, 1) := by decide +kernel
theorem dX0_firstFit_54 : decode cX0_firstFit 54 = .ok (.getfield 33, 3) := by decide +kernel
theorem dX0_firstFit_57 : decode cX0_firstFit 57 = .ok (.if_icmp .le 5, 3) := by decide +kernel
theorem dX0_firstFit_60 : decode cX0_firstFit 60 = .ok (.iconst 0, 1) := by decide +kernel
theorem dX0_firstFit_61 : decode cX0_firstFit 61 = .ok (.ireturn, 1) := by decide +kernel
theorem dX0_firstFit_62 : decode cX0_firstFit 62 = .ok (.aload_n 0, 1) := by decide +kernel
theorem dX0_firstFit_63 : decode cX0_firstFit 63 = .ok (.getfield 15, 3) := by decide +kernel
theorem dX0_firstFit_66 : decode cX0_firstFit 66 = .ok (.iload_n 3, 1) := by decide +kernel
theorem dX0_firstFit_67 : decode cX0_firstFit 67 = .ok (.iload 5, 2) := by decide +kernel
theorem dX0_firstFit_69 : decode cX0_firstFit 69 = .ok (.iastore, 1) := by decide +kernel
theorem dX0_firstFit_70 : decode cX0_firstFit 70 = .ok (.aload_n 0, 1) := by decide +kernel
theorem dX0_firstFit_71 : decode cX0_firstFit 71 = .ok (.getfield 21, 3) := by decide +kernel
theorem dX0_firstFit_74 : decode cX0_firstFit 74 = .ok (.iload 4, 2) := by decide +kernel
theorem dX0_firstFit_76 : decode cX0_firstFit 76 = .ok (.aload_n 0, 1) := by decide +kernel
theorem dX0_firstFit_77 : decode cX0_firstFit 77 = .ok (.iload 5, 2) := by decide +kernel
theorem dX0_firstFit_79 : decode cX0_firstFit 79 = .ok (.invokevirtual 49, 3) := by decide +kernel
theorem dX0_firstFit_82 : decode cX0_firstFit 82 = .ok (.iastore, 1) := by decide +kernel
theorem dX0_firstFit_83 : decode cX0_firstFit 83 = .ok (.aload_n 0, 1) := by decide +kernel
theorem dX0_firstFit_84 : decode cX0_firstFit 84 = .ok (.getfield 18, 3) := by decide +kernel
theorem dX0_firstFit_87 : decode cX0_firstFit 87 = .ok (.aload_n 0, 1) := by decide +kernel
theorem dX0_firstFit_88 : decode cX0_firstFit 88 = .ok (.getfield 21, 3) := by decide +kernel
theorem dX0_firstFit_91 : decode cX0_firstFit 91 = .ok (.iload 4, 2) := by decide +kernel
theorem dX0_firstFit_93 : decode cX0_firstFit 93 = .ok (.iaload, 1) := by decide +kernel
theorem dX0_firstFit_94 : decode cX0_firstFit 94 = .ok (.dup2, 1) := by decide +kernel
theorem dX0_firstFit_95 : decode cX0_firstFit 95 = .ok (.iaload, 1) := by decide +kernel
theorem dX0_firstFit_96 : decode cX0_firstFit 96 = .ok (.iload 5, 2) := by decide +kernel
theorem dX0_firstFit_98 : decode cX0_firstFit 98 = .ok (.isub, 1) := by decide +kernel
theorem dX0_firstFit_99 : decode cX0_firstFit 99 = .ok (.iastore, 1) := by decide +kernel
theorem dX0_firstFit_100 : decode cX0_firstFit 100 = .ok (.iinc 3 1, 3) := by decide +kernel
theorem dX0_firstFit_103 : decode cX0_firstFit 103 = .ok (.goto (-79), 3) := by decide +kernel
theorem dX0_firstFit_106 : decode cX0_firstFit 106 = .ok (.iconst 1, 1) := by decide +kernel
theorem dX0_firstFit_107 : decode cX0_firstFit 107 = .ok (.ireturn, 1) := by decide +kernel
theorem dX0_sortPieces_0 : decode cX0_sortPieces 0 = .ok (.aload_n 0, 1) := by decide +kernel
theorem dX0_sortPieces_1 : decode cX0_sortPieces 1 = .ok (.iconst 0, 1) := by decide +kernel
theorem dX0_sortPieces_2 : decode cX0_sortPieces 2 = .ok (.putfield 43, 3) := by decide +kernel
theorem dX0_sortPieces_5 : decode cX0_sortPieces 5 = .ok (.iconst 0, 1) := by decide +kernel
theorem dX0_sortPieces_6 : decode cX0_sortPieces 6 = .ok (.istore_n 3, 1) := by decide +kernel
theorem dX0_sortPieces_7 : decode cX0_sortPieces 7 = .ok (.iload_n 3, 1) := by decide +kernel
theorem dX0_sortPieces_8 : decode cX0_sortPieces 8 = .ok (.aload_n 1, 1) := by decide +kernel
theorem dX0_sortPieces_9 : decode cX0_sortPieces 9 = .ok (.getfield 53, 3) := by decide +kernel
theorem dX0_sortPieces_12 : decode cX0_sortPieces 12 = .ok (.if_icmp .ge 88, 3) := by decide +kernel
theorem dX0_sortPieces_15 : decode cX0_sortPieces 15 = .ok (.aload_n 1, 1) := by decide +kernel
theorem dX0_sortPieces_16 : decode cX0_sortPieces 16 = .ok (.iload_n 3, 1) := by decide +kernel
theorem dX0_sortPieces_17 : decode cX0_sortPieces 17 = .ok (.invokevirtual 56, 3) := by decide +kernel
theorem dX0_sortPieces_20 : decode cX0_sortPieces 20 = .ok (.ifCond .ne 6, 3) := by decide +kernel
theorem dX0_sortPieces_23 : decode cX0_sortPieces 23 = .ok (.goto 71, 3) := by decide +kernel
theorem dX0_sortPieces_26 : decode cX0_sortPieces 26 = .ok (.aload_n 0, 1) := by decide +kernel
theorem dX0_sortPieces_27 : decode cX0_sortPieces 27 = .ok (.getfield 43, 3) := by decide +kernel
theorem dX0_sortPieces_30 : decode cX0_sortPieces 30 = .ok (.istore 4, 2) := by decide +kernel
theorem dX0_sortPieces_32 : decode cX0_sortPieces 32 = .ok (.iload 4, 2) := by decide +kernel
theorem dX0_sortPieces_34 : decode cX0_sortPieces 34 = .ok (.ifCond .le 42, 3) := by decide +kernel
theorem dX0_sortPieces_37 : decode cX0_sortPieces 37 = .ok (.aload_n 2, 1) := by decide +kernel
theorem dX0_sortPieces_38 : decode cX0_sortPieces 38 = .ok (.aload_n 0, 1) := by decide +kernel
theorem dX0_sortPieces_39 : decode cX0_sortPieces 39 = .ok (.getfield 9, 3) := by decide +kernel
theorem dX0_sortPieces_42 : decode cX0_sortPieces 42 = .ok (.iload 4, 2) := by decide +kernel
theorem dX0_sortPieces_44 : decode cX0_sortPieces 44 = .ok (.iconst 1, 1) := by decide +kernel
theorem dX0_sortPieces_45 : decode cX0_sortPieces 45 = .ok (.isub, 1) := by decide +kernel
theorem dX0_sortPieces_46 : decode cX0_sortPieces 46 = .ok (.iaload, 1) := by decide +kernel
theorem dX0_sortPieces_47 : decode cX0_sortPieces 47 = .ok (.iaload, 1) := by decide +kernel
theorem dX0_sortPieces_48 : decode cX0_sortPieces 48 = .ok (.aload_n 2, 1) := by decide +kernel
theorem dX0_sortPieces_49 : decode cX0_sortPieces 49 = .ok (.iload_n 3, 1) := by decide +kernel
theorem dX0_sortPieces_50 : decode cX0_sortPieces 50 = .ok (.iaload, 1) := by decide +kernel
theorem dX0_sortPieces_51 : decode cX0_sortPieces 51 = .ok (.if_icmp .ge 25, 3) := by decide +kernel
theorem dX0_sortPieces_54 : decode cX0_sortPieces 54 = .ok (.aload_n 0, 1) := by decide +kernel
theorem dX0_sortPieces_55 : decode cX0_sortPieces 55 = .ok (.getfield 9, 3) := by decide +kernel
theorem dX0_sortPieces_58 : decode cX0_sortPieces 58 = .ok (.iload 4, 2) := by decide +kernel
theorem dX0_sortPieces_60 : decode cX0_sortPieces 60 = .ok (.aload_n 0, 1) := by decide +kernel
theorem dX0_sortPieces_61 : decode cX0_sortPieces 61 = .ok (.getfield 9, 3) := by decide +kernel
theorem dX0_sortPieces_64 : decode cX0_sortPieces 64 = .ok (.iload 4, 2) := by decide +kernel
theorem dX0_sortPieces_66 : decode cX0_sortPieces 66 = .ok (.iconst 1, 1) := by decide +kernel
theorem dX0_sortPieces_67 : decode cX0_sortPieces 67 = .ok (.isub, 1) := by decide +kernel
theorem dX0_sortPieces_68 : decode cX0_sortPieces 68 = .ok (.iaload, 1) := by decide +kernel
theorem dX0_sortPieces_69 : decode cX0_sortPieces 69 = .ok (.iastore, 1) := by decide +kernel
theorem dX0_sortPieces_70 : decode cX0_sortPieces 70 = .ok (.iinc 4 (-1), 3) := by decide +kernel
theorem dX0_sortPieces_73 : decode cX0_sortPieces 73 = .ok (.goto (-41), 3) := by decide +kernel
theorem dX0_sortPieces_76 : decode cX0_sortPieces 76 = .ok (.aload_n 0, 1) := by decide +kernel
theorem dX0_sortPieces_77 : decode cX0_sortPieces 77 = .ok (.getfield 9, 3) := by decide +kernel
theorem dX0_sortPieces_80 : decode cX0_sortPieces 80 = .ok (.iload 4, 2) := by decide +kernel
theorem dX0_sortPieces_82 : decode cX0_sortPieces 82 = .ok (.iload_n 3, 1) := by decide +kernel
theorem dX0_sortPieces_83 : decode cX0_sortPieces 83 = .ok (.iastore, 1) := by decide +kernel
theorem dX0_sortPieces_84 : decode cX0_sortPieces 84 = .ok (.aload_n 0, 1) := by decide +kernel
theorem dX0_sortPieces_85 : decode cX0_sortPieces 85 = .ok (.dup, 1) := by decide +kernel
theorem dX0_sortPieces_86 : decode cX0_sortPieces 86 = .ok (.getfield 43, 3) := by decide +kernel
theorem dX0_sortPieces_89 : decode cX0_sortPieces 89 = .ok (.iconst 1, 1) := by decide +kernel
theorem dX0_sortPieces_90 : decode cX0_sortPieces 90 = .ok (.iadd, 1) := by decide +kernel
theorem dX0_sortPieces_91 : decode cX0_sortPieces 91 = .ok (.putfield 43, 3) := by decide +kernel
theorem dX0_sortPieces_94 : decode cX0_sortPieces 94 = .ok (.iinc 3 1, 3) := by decide +kernel
theorem dX0_sortPieces_97 : decode cX0_sortPieces 97 = .ok (.goto (-90), 3) := by decide +kernel
theorem dX0_sortPieces_100 : decode cX0_sortPieces 100 = .ok (.return_, 1) := by decide +kernel
theorem dX0_rollWith_0 : decode cX0_rollWith 0 = .ok (.iconst 0, 1) := by decide +kernel
theorem dX0_rollWith_1 : decode cX0_rollWith 1 = .ok (.istore_n 2, 1) := by decide +kernel
theorem dX0_rollWith_2 : decode cX0_rollWith 2 = .ok (.iload_n 2, 1) := by decide +kernel
theorem dX0_rollWith_3 : decode cX0_rollWith 3 = .ok (.aload_n 0, 1) := by decide +kernel
theorem dX0_rollWith_4 : decode cX0_rollWith 4 = .ok (.getfield 36, 3) := by decide +kernel
theorem dX0_rollWith_7 : decode cX0_rollWith 7 = .ok (.if_icmp .ge 21, 3) := by decide +kernel
theorem dX0_rollWith_10 : decode cX0_rollWith 10 = .ok (.aload_n 0, 1) := by decide +kernel
theorem dX0_rollWith_11 : decode cX0_rollWith 11 = .ok (.getfield 18, 3) := by decide +kernel
theorem dX0_rollWith_14 : decode cX0_rollWith 14 = .ok (.iload_n 2, 1) := by decide +kernel
theorem dX0_rollWith_15 : decode cX0_rollWith 15 = .ok (.iaload, 1) := by decide +kernel
theorem dX0_rollWith_16 : decode cX0_rollWith 16 = .ok (.iload_n 1, 1) := by decide +kernel
theorem dX0_rollWith_17 : decode cX0_rollWith 17 = .ok (.if_icmp .lt 5, 3) := by decide +kernel
theorem dX0_rollWith_20 : decode cX0_rollWith 20 = .ok (.iload_n 2, 1) := by decide +kernel
theorem dX0_rollWith_21 : decode cX0_rollWith 21 = .ok (.ireturn, 1) := by decide +kernel
theorem dX0_rollWith_22 : decode cX0_rollWith 22 = .ok (.iinc 2 1, 3) := by decide +kernel
theorem dX0_rollWith_25 : decode cX0_rollWith 25 = .ok (.goto (-23), 3) := by decide +kernel
theorem dX0_rollWith_28 : decode cX0_rollWith 28 = .ok (.aload_n 0, 1) := by decide +kernel
theorem dX0_rollWith_29 : decode cX0_rollWith 29 = .ok (.getfield 36, 3) := by decide +kernel
theorem dX0_rollWith_32 : decode cX0_rollWith 32 = .ok (.bipush 13, 2) := by decide +kernel
theorem dX0_rollWith_34 : decode cX0_rollWith 34 = .ok (.invokestatic 60, 3) := by decide +kernel
theorem dX0_rollWith_37 : decode cX0_rollWith 37 = .ok (.istore_n 2, 1) := by decide +kernel
theorem dX0_rollWith_38 : decode cX0_rollWith 38 = .ok (.aload_n 0, 1) := by decide +kernel
theorem dX0_rollWith_39 : decode cX0_rollWith 39 = .ok (.getfield 18, 3) := by decide +kernel
theorem dX0_rollWith_42 : decode cX0_rollWith 42 = .ok (.iload_n 2, 1) := by decide +kernel
theorem dX0_rollWith_43 : decode cX0_rollWith 43 = .ok (.aload_n 0, 1) := by decide +kernel
theorem dX0_rollWith_44 : decode cX0_rollWith 44 = .ok (.getfield 33, 3) := by decide +kernel
theorem dX0_rollWith_47 : decode cX0_rollWith 47 = .ok (.iastore, 1) := by decide +kernel
theorem dX0_rollWith_48 : decode cX0_rollWith 48 = .ok (.aload_n 0, 1) := by decide +kernel
theorem dX0_rollWith_49 : decode cX0_rollWith 49 = .ok (.iload_n 2, 1) := by decide +kernel
theorem dX0_rollWith_50 : decode cX0_rollWith 50 = .ok (.iconst 1, 1) := by decide +kernel
theorem dX0_rollWith_51 : decode cX0_rollWith 51 = .ok (.iadd, 1) := by decide +kernel
theorem dX0_rollWith_52 : decode cX0_rollWith 52 = .ok (.putfield 36, 3) := by decide +kernel
theorem dX0_rollWith_55 : decode cX0_rollWith 55 = .ok (.iload_n 2, 1) := by decide +kernel
theorem dX0_rollWith_56 : decode cX0_rollWith 56 = .ok (.ireturn, 1) := by decide +kernel
theorem dX0_leftOver_0 : decode cX0_leftOver 0 = .ok (.iconst 0, 1) := by decide +kernel
theorem dX0_leftOver_1 : decode cX0_leftOver 1 = .ok (.istore_n 1, 1) := by decide +kernel
theorem dX0_leftOver_2 : decode cX0_leftOver 2 = .ok (.iconst 0, 1) := by decide +kernel
theorem dX0_leftOver_3 : decode cX0_leftOver 3 = .ok (.istore_n 2, 1) := by decide +kernel
theorem dX0_leftOver_4 : decode cX0_leftOver 4 = .ok (.iload_n 2, 1) := by decide +kernel
theorem dX0_leftOver_5 : decode cX0_leftOver 5 = .ok (.aload_n 0, 1) := by decide +kernel
theorem dX0_leftOver_6 : decode cX0_leftOver 6 = .ok (.getfield 36, 3) := by decide +kernel
theorem dX0_leftOver_9 : decode cX0_leftOver 9 = .ok (.if_icmp .ge 18, 3) := by decide +kernel
theorem dX0_leftOver_12 : decode cX0_leftOver 12 = .ok (.iload_n 1, 1) := by decide +kernel
theorem dX0_leftOver_13 : decode cX0_leftOver 13 = .ok (.aload_n 0, 1) := by decide +kernel
theorem dX0_leftOver_14 : decode cX0_leftOver 14 = .ok (.getfield 18, 3) := by decide +kernel
theorem dX0_leftOver_17 : decode cX0_leftOver 17 = .ok (.iload_n 2, 1) := by decide +kernel
theorem dX0_leftOver_18 : decode cX0_leftOver 18 = .ok (.iaload, 1) := by decide +kernel
theorem dX0_leftOver_19 : decode cX0_leftOver 19 = .ok (.iadd, 1) := by decide +kernel
theorem dX0_leftOver_20 : decode cX0_leftOver 20 = .ok (.istore_n 1, 1) := by decide +kernel
theorem dX0_leftOver_21 : decode cX0_leftOver 21 = .ok (.iinc 2 1, 3) := by decide +kernel
theorem dX0_leftOver_24 : decode cX0_leftOver 24 = .ok (.goto (-20), 3) := by decide +kernel
theorem dX0_leftOver_27 : decode cX0_leftOver 27 = .ok (.iload_n 1, 1) := by decide +kernel
theorem dX0_leftOver_28 : decode cX0_leftOver 28 = .ok (.ireturn, 1) := by decide +kernel
theorem dX0_fewest_0 : decode cX0_fewest 0 = .ok (.aload_n 0, 1) := by decide +kernel
theorem dX0_fewest_1 : decode cX0_fewest 1 = .ok (.getfield 36, 3) := by decide +kernel
theorem dX0_fewest_4 : decode cX0_fewest 4 = .ok (.aload_n 0, 1) := by decide +kernel
theorem dX0_fewest_5 : decode cX0_fewest 5 = .ok (.getfield 33, 3) := by decide +kernel
theorem dX0_fewest_8 : decode cX0_fewest 8 = .ok (.imul, 1) := by decide +kernel
theorem dX0_fewest_9 : decode cX0_fewest 9 = .ok (.aload_n 0, 1) := by decide +kernel
theorem dX0_fewest_10 : decode cX0_fewest 10 = .ok (.invokevirtual 66, 3) := by decide +kernel
theorem dX0_fewest_13 : decode cX0_fewest 13 = .ok (.isub, 1) := by decide +kernel
theorem dX0_fewest_14 : decode cX0_fewest 14 = .ok (.istore_n 1, 1) := by decide +kernel
theorem dX0_fewest_15 : decode cX0_fewest 15 = .ok (.aload_n 0, 1) := by decide +kernel
theorem dX0_fewest_16 : decode cX0_fewest 16 = .ok (.iload_n 1, 1) := by decide +kernel
theorem dX0_fewest_17 : decode cX0_fewest 17 = .ok (.invokevirtual 70, 3) := by decide +kernel
theorem dX0_fewest_20 : decode cX0_fewest 20 = .ok (.istore_n 2, 1) := by decide +kernel
theorem dX0_fewest_21 : decode cX0_fewest 21 = .ok (.iload_n 2, 1) := by decide +kernel
theorem dX0_fewest_22 : decode cX0_fewest 22 = .ok (.aload_n 0, 1) := by decide +kernel
theorem dX0_fewest_23 : decode cX0_fewest 23 = .ok (.getfield 36, 3) := by decide +kernel
theorem dX0_fewest_26 : decode cX0_fewest 26 = .ok (.if_icmp .ge 59, 3) := by decide +kernel
theorem dX0_fewest_29 : decode cX0_fewest 29 = .ok (.iconst 0, 1) := by decide +kernel
theorem dX0_fewest_30 : decode cX0_fewest 30 = .ok (.istore_n 3, 1) := by decide +kernel
theorem dX0_fewest_31 : decode cX0_fewest 31 = .ok (.iload_n 3, 1) := by decide +kernel
theorem dX0_fewest_32 : decode cX0_fewest 32 = .ok (.iload_n 2, 1) := by decide +kernel
theorem dX0_fewest_33 : decode cX0_fewest 33 = .ok (.if_icmp .ge 19, 3) := by decide +kernel
theorem dX0_fewest_36 : decode cX0_fewest 36 = .ok (.aload_n 0, 1) := by decide +kernel
theorem dX0_fewest_37 : decode cX0_fewest 37 = .ok (.getfield 24, 3) := by decide +kernel
theorem dX0_fewest_40 : decode cX0_fewest 40 = .ok (.iload_n 3, 1) := by decide +kernel
theorem dX0_fewest_41 : decode cX0_fewest 41 = .ok (.aload_n 0, 1) := by decide +kernel
theorem dX0_fewest_42 : decode cX0_fewest 42 = .ok (.getfield 33, 3) := by decide +kernel
theorem dX0_fewest_45 : decode cX0_fewest 45 = .ok (.iastore, 1) := by decide +kernel
theorem dX0_fewest_46 : decode cX0_fewest 46 = .ok (.iinc 3 1, 3) := by decide +kernel
theorem dX0_fewest_49 : decode cX0_fewest 49 = .ok (.goto (-18), 3) := by decide +kernel
theorem dX0_fewest_52 : decode cX0_fewest 52 = .ok (.aload_n 0, 1) := by decide +kernel
theorem dX0_fewest_53 : decode cX0_fewest 53 = .ok (.iload_n 2, 1) := by decide +kernel
theorem dX0_fewest_54 : decode cX0_fewest 54 = .ok (.putfield 73, 3) := by decide +kernel
theorem dX0_fewest_57 : decode cX0_fewest 57 = .ok (.aload_n 0, 1) := by decide +kernel
theorem dX0_fewest_58 : decode cX0_fewest 58 = .ok (.iload_n 2, 1) := by decide +kernel
theorem dX0_fewest_59 : decode cX0_fewest 59 = .ok (.aload_n 0, 1) := by decide +kernel
theorem dX0_fewest_60 : decode cX0_fewest 60 = .ok (.getfield 33, 3) := by decide +kernel
theorem dX0_fewest_63 : decode cX0_fewest 63 = .ok (.imul, 1) := by decide +kernel
theorem dX0_fewest_64 : decode cX0_fewest 64 = .ok (.iload_n 1, 1) := by decide +kernel
theorem dX0_fewest_65 : decode cX0_fewest 65 = .ok (.isub, 1) := by decide +kernel
theorem dX0_fewest_66 : decode cX0_fewest 66 = .ok (.putfield 76, 3) := by decide +kernel
theorem dX0_fewest_69 : decode cX0_fewest 69 = .ok (.aload_n 0, 1) := by decide +kernel
theorem dX0_fewest_70 : decode cX0_fewest 70 = .ok (.iconst 0, 1) := by decide +kernel
theorem dX0_fewest_71 : decode cX0_fewest 71 = .ok (.invokestatic 79, 3) := by decide +kernel
theorem dX0_fewest_74 : decode cX0_fewest 74 = .ok (.ifCond .eq 5, 3) := by decide +kernel
theorem dX0_fewest_77 : decode cX0_fewest 77 = .ok (.iload_n 2, 1) := by decide +kernel
theorem dX0_fewest_78 : decode cX0_fewest 78 = .ok (.ireturn, 1) := by decide +kernel
theorem dX0_fewest_79 : decode cX0_fewest 79 = .ok (.iinc 2 1, 3) := by decide +kernel
theorem dX0_fewest_82 : decode cX0_fewest 82 = .ok (.goto (-61), 3) := by decide +kernel
theorem dX0_fewest_85 : decode cX0_fewest 85 = .ok (.aload_n 0, 1) := by decide +kernel
theorem dX0_fewest_86 : decode cX0_fewest 86 = .ok (.getfield 36, 3) := by decide +kernel
theorem dX0_fewest_89 : decode cX0_fewest 89 = .ok (.ireturn, 1) := by decide +kernel
theorem dX0_leastThinkable_0 : decode cX0_leastThinkable 0 = .ok (.aload_n 0, 1) := by decide +kernel
theorem dX0_leastThinkable_1 : decode cX0_leastThinkable 1 = .ok (.getfield 43, 3) := by decide +kernel
theorem dX0_leastThinkable_4 : decode cX0_leastThinkable 4 = .ok (.ifCond .ne 7, 3) := by decide +kernel
theorem dX0_leastThinkable_7 : decode cX0_leastThinkable 7 = .ok (.iconst 0, 1) := by decide +kernel
theorem dX0_leastThinkable_8 : decode cX0_leastThinkable 8 = .ok (.goto 4, 3) := by decide +kernel
theorem dX0_leastThinkable_11 : decode cX0_leastThinkable 11 = .ok (.iconst 1, 1) := by decide +kernel
theorem dX0_leastThinkable_12 : decode cX0_leastThinkable 12 = .ok (.istore_n 2, 1) := by decide +kernel
theorem dX0_leastThinkable_13 : decode cX0_leastThinkable 13 = .ok (.aload_n 0, 1) := by decide +kernel
theorem dX0_leastThinkable_14 : decode cX0_leastThinkable 14 = .ok (.getfield 33, 3) := by decide +kernel
theorem dX0_leastThinkable_17 : decode cX0_leastThinkable 17 = .ok (.ifCond .gt 5, 3) := by decide +kernel
theorem dX0_leastThinkable_20 : decode cX0_leastThinkable 20 = .ok (.iload_n 2, 1) := by decide +kernel
theorem dX0_leastThinkable_21 : decode cX0_leastThinkable 21 = .ok (.ireturn, 1) := by decide +kernel
theorem dX0_leastThinkable_22 : decode cX0_leastThinkable 22 = .ok (.iload_n 2, 1) := by decide +kernel
theorem dX0_leastThinkable_23 : decode cX0_leastThinkable 23 = .ok (.iload_n 1, 1) := by decide +kernel
theorem dX0_leastThinkable_24 : decode cX0_leastThinkable 24 = .ok (.aload_n 0, 1) := by decide +kernel
theorem dX0_leastThinkable_25 : decode cX0_leastThinkable 25 = .ok (.getfield 33, 3) := by decide +kernel
theorem dX0_leastThinkable_28 : decode cX0_leastThinkable 28 = .ok (.iadd, 1) := by decide +kernel
theorem dX0_leastThinkable_29 : decode cX0_leastThinkable 29 = .ok (.iconst 1, 1) := by decide +kernel
theorem dX0_leastThinkable_30 : decode cX0_leastThinkable 30 = .ok (.isub, 1) := by decide +kernel
theorem dX0_leastThinkable_31 : decode cX0_leastThinkable 31 = .ok (.aload_n 0, 1) := by decide +kernel
theorem dX0_leastThinkable_32 : decode cX0_leastThinkable 32 = .ok (.getfield 33, 3) := by decide +kernel
theorem dX0_leastThinkable_35 : decode cX0_leastThinkable 35 = .ok (.idiv, 1) := by decide +kernel
theorem dX0_leastThinkable_36 : decode cX0_leastThinkable 36 = .ok (.invokestatic 83, 3) := by decide +kernel
theorem dX0_leastThinkable_39 : decode cX0_leastThinkable 39 = .ok (.istore_n 2, 1) := by decide +kernel
theorem dX0_leastThinkable_40 : decode cX0_leastThinkable 40 = .ok (.iconst 0, 1) := by decide +kernel
theorem dX0_leastThinkable_41 : decode cX0_leastThinkable 41 = .ok (.istore_n 3, 1) := by decide +kernel
theorem dX0_leastThinkable_42 : decode cX0_leastThinkable 42 = .ok (.iload_n 3, 1) := by decide +kernel
theorem dX0_leastThinkable_43 : decode cX0_leastThinkable 43 = .ok (.aload_n 0, 1) := by decide +kernel
theorem dX0_leastThinkable_44 : decode cX0_leastThinkable 44 = .ok (.getfield 43, 3) := by decide +kernel
theorem dX0_leastThinkable_47 : decode cX0_leastThinkable 47 = .ok (.if_icmp .ge 47, 3) := by decide +kernel
theorem dX0_leastThinkable_50 : decode cX0_leastThinkable 50 = .ok (.aload_n 0, 1) := by decide +kernel
theorem dX0_leastThinkable_51 : decode cX0_leastThinkable 51 = .ok (.getfield 15, 3) := by decide +kernel
theorem dX0_leastThinkable_54 : decode cX0_leastThinkable 54 = .ok (.iload_n 3, 1) := by decide +kernel
theorem dX0_leastThinkable_55 : decode cX0_leastThinkable 55 = .ok (.iaload, 1) := by decide +kernel
theorem dX0_leastThinkable_56 : decode cX0_leastThinkable 56 = .ok (.ifCond .le 38, 3) := by decide +kernel
theorem dX0_leastThinkable_59 : decode cX0_leastThinkable 59 = .ok (.iconst 1, 1) := by decide +kernel
theorem dX0_leastThinkable_60 : decode cX0_leastThinkable 60 = .ok (.aload_n 0, 1) := by decide +kernel
theorem dX0_leastThinkable_61 : decode cX0_leastThinkable 61 = .ok (.getfield 33, 3) := by decide +kernel
theorem dX0_leastThinkable_64 : decode cX0_leastThinkable 64 = .ok (.aload_n 0, 1) := by decide +kernel
theorem dX0_leastThinkable_65 : decode cX0_leastThinkable 65 = .ok (.getfield 15, 3) := by decide +kernel
theorem dX0_leastThinkable_68 : decode cX0_leastThinkable 68 = .ok (.iload_n 3, 1) := by decide +kernel
theorem dX0_leastThinkable_69 : decode cX0_leastThinkable 69 = .ok (.iaload, 1) := by decide +kernel
theorem dX0_leastThinkable_70 : decode cX0_leastThinkable 70 = .ok (.idiv, 1) := by decide +kernel
theorem dX0_leastThinkable_71 : decode cX0_leastThinkable 71 = .ok (.invokestatic 83, 3) := by decide +kernel
theorem dX0_leastThinkable_74 : decode cX0_leastThinkable 74 = .ok (.istore 4, 2) := by decide +kernel
theorem dX0_leastThinkable_76 : decode cX0_leastThinkable 76 = .ok (.iload_n 2, 1) := by decide +kernel
theorem dX0_leastThinkable_77 : decode cX0_leastThinkable 77 = .ok (.iload_n 3, 1) := by decide +kernel
theorem dX0_leastThinkable_78 : decode cX0_leastThinkable 78 = .ok (.iload 4, 2) := by decide +kernel
theorem dX0_leastThinkable_80 : decode cX0_leastThinkable 80 = .ok (.iadd, 1) := by decide +kernel
theorem dX0_leastThinkable_81 : decode cX0_leastThinkable 81 = .ok (.iload 4, 2) := by decide +kernel
theorem dX0_leastThinkable_83 : decode cX0_leastThinkable 83 = .ok (.idiv, 1) := by decide +kernel
theorem dX0_leastThinkable_84 : decode cX0_leastThinkable 84 = .ok (.invokestatic 83, 3) := by decide +kernel
theorem dX0_leastThinkable_87 : decode cX0_leastThinkable 87 = .ok (.istore_n 2, 1) := by decide +kernel
theorem dX0_leastThinkable_88 : decode cX0_leastThinkable 88 = .ok (.iinc 3 1, 3) := by decide +kernel
theorem dX0_leastThinkable_91 : decode cX0_leastThinkable 91 = .ok (.goto (-49), 3) := by decide +kernel
theorem dX0_leastThinkable_94 : decode cX0_leastThinkable 94 = .ok (.iload_n 2, 1) := by decide +kernel
theorem dX0_leastThinkable_95 : decode cX0_leastThinkable 95 = .ok (.ireturn, 1) := by decide +kernel
theorem dX0_canPlaceFrom_0 : decode cX0_canPlaceFrom 0 = .ok (.iload_n 1, 1) := by decide +kernel
theorem dX0_canPlaceFrom_1 : decode cX0_canPlaceFrom 1 = .ok (.aload_n 0, 1) := by decide +kernel
theorem dX0_canPlaceFrom_2 : decode cX0_canPlaceFrom 2 = .ok (.getfield 43, 3) := by decide +kernel
theorem dX0_canPlaceFrom_5 : decode cX0_canPlaceFrom 5 = .ok (.if_icmp .ge 9, 3) := by decide +kernel
theorem dX0_canPlaceFrom_8 : decode cX0_canPlaceFrom 8 = .ok (.iload_n 1, 1) := by decide +kernel
theorem dX0_canPlaceFrom_9 : decode cX0_canPlaceFrom 9 = .ok (.bipush 14, 2) := by decide +kernel
theorem dX0_canPlaceFrom_11 : decode cX0_canPlaceFrom 11 = .ok (.if_icmp .lt 5, 3) := by decide +kernel
theorem dX0_canPlaceFrom_14 : decode cX0_canPlaceFrom 14 = .ok (.iconst 1, 1) := by decide +kernel
theorem dX0_canPlaceFrom_15 : decode cX0_canPlaceFrom 15 = .ok (.ireturn, 1) := by decide +kernel
theorem dX0_canPlaceFrom_16 : decode cX0_canPlaceFrom 16 = .ok (.aload_n 0, 1) := by decide +kernel
theorem dX0_canPlaceFrom_17 : decode cX0_canPlaceFrom 17 = .ok (.invokevirtual 86, 3) := by decide +kernel
theorem dX0_canPlaceFrom_20 : decode cX0_canPlaceFrom 20 = .ok (.ifCond .eq 5, 3) := by decide +kernel
theorem dX0_canPlaceFrom_23 : decode cX0_canPlaceFrom 23 = .ok (.iconst 0, 1) := by decide +kernel
theorem dX0_canPlaceFrom_24 : decode cX0_canPlaceFrom 24 = .ok (.ireturn, 1) := by decide +kernel
theorem dX0_canPlaceFrom_25 : decode cX0_canPlaceFrom 25 = .ok (.aload_n 0, 1) := by decide +kernel
theorem dX0_canPlaceFrom_26 : decode cX0_canPlaceFrom 26 = .ok (.getfield 15, 3) := by decide +kernel
theorem dX0_canPlaceFrom_29 : decode cX0_canPlaceFrom 29 = .ok (.iload_n 1, 1) := by decide +kernel
theorem dX0_canPlaceFrom_30 : decode cX0_canPlaceFrom 30 = .ok (.iaload, 1) := by decide +kernel
theorem dX0_canPlaceFrom_31 : decode cX0_canPlaceFrom 31 = .ok (.istore_n 2, 1) := by decide +kernel
theorem dX0_canPlaceFrom_32 : decode cX0_canPlaceFrom 32 = .ok (.aload_n 0, 1) := by decide +kernel
theorem dX0_canPlaceFrom_33 : decode cX0_canPlaceFrom 33 = .ok (.getfield 24, 3) := by decide +kernel
theorem dX0_canPlaceFrom_36 : decode cX0_canPlaceFrom 36 = .ok (.astore_n 3, 1) := by decide +kernel
theorem dX0_canPlaceFrom_37 : decode cX0_canPlaceFrom 37 = .ok (.iconst 0, 1) := by decide +kernel
theorem dX0_canPlaceFrom_38 : decode cX0_canPlaceFrom 38 = .ok (.istore 4, 2) := by decide +kernel
theorem dX0_canPlaceFrom_40 : decode cX0_canPlaceFrom 40 = .ok (.iload 4, 2) := by decide +kernel
theorem dX0_canPlaceFrom_42 : decode cX0_canPlaceFrom 42 = .ok (.aload_n 0, 1) := by decide +kernel
theorem dX0_canPlaceFrom_43 : decode cX0_canPlaceFrom 43 = .ok (.getfield 73, 3) := by decide +kernel
theorem dX0_canPlaceFrom_46 : decode cX0_canPlaceFrom 46 = .ok (.if_icmp .ge 70, 3) := by decide +kernel
theorem dX0_canPlaceFrom_49 : decode cX0_canPlaceFrom 49 = .ok (.aload_n 3, 1) := by decide +kernel
theorem dX0_canPlaceFrom_50 : decode cX0_canPlaceFrom 50 = .ok (.iload 4, 2) := by decide +kernel
theorem dX0_canPlaceFrom_52 : decode cX0_canPlaceFrom 52 = .ok (.iaload, 1) := by decide +kernel
theorem dX0_canPlaceFrom_53 : decode cX0_canPlaceFrom 53 = .ok (.iload_n 2, 1) := by decide +kernel
theorem dX0_canPlaceFrom_54 : decode cX0_canPlaceFrom 54 = .ok (.if_icmp .lt 56, 3) := by decide +kernel
theorem dX0_canPlaceFrom_57 : decode cX0_canPlaceFrom 57 = .ok (.aload_n 0, 1) := by decide +kernel
theorem dX0_canPlaceFrom_58 : decode cX0_canPlaceFrom 58 = .ok (.iload 4, 2) := by decide +kernel
theorem dX0_canPlaceFrom_60 : decode cX0_canPlaceFrom 60 = .ok (.invokevirtual 90, 3) := by decide +kernel
theorem dX0_canPlaceFrom_63 : decode cX0_canPlaceFrom 63 = .ok (.ifCond .eq 6, 3) := by decide +kernel
theorem dX0_canPlaceFrom_66 : decode cX0_canPlaceFrom 66 = .ok (.goto 44, 3) := by decide +kernel
theorem dX0_canPlaceFrom_69 : decode cX0_canPlaceFrom 69 = .ok (.aload_n 3, 1) := by decide +kernel
theorem dX0_canPlaceFrom_70 : decode cX0_canPlaceFrom 70 = .ok (.iload 4, 2) := by decide +kernel
theorem dX0_canPlaceFrom_72 : decode cX0_canPlaceFrom 72 = .ok (.dup2, 1) := by decide +kernel
theorem dX0_canPlaceFrom_73 : decode cX0_canPlaceFrom 73 = .ok (.iaload, 1) := by decide +kernel
theorem dX0_canPlaceFrom_74 : decode cX0_canPlaceFrom 74 = .ok (.iload_n 2, 1) := by decide +kernel
theorem dX0_canPlaceFrom_75 : decode cX0_canPlaceFrom 75 = .ok (.isub, 1) := by decide +kernel
theorem dX0_canPlaceFrom_76 : decode cX0_canPlaceFrom 76 = .ok (.iastore, 1) := by decide +kernel
theorem dX0_canPlaceFrom_77 : decode cX0_canPlaceFrom 77 = .ok (.aload_n 0, 1) := by decide +kernel
theorem dX0_canPlaceFrom_78 : decode cX0_canPlaceFrom 78 = .ok (.iload_n 1, 1) := by decide +kernel
theorem dX0_canPlaceFrom_79 : decode cX0_canPlaceFrom 79 = .ok (.iconst 1, 1) := by decide +kernel
theorem dX0_canPlaceFrom_80 : decode cX0_canPlaceFrom 80 = .ok (.iadd, 1) := by decide +kernel
theorem dX0_canPlaceFrom_81 : decode cX0_canPlaceFrom 81 = .ok (.invokestatic 79, 3) := by decide +kernel
theorem dX0_canPlaceFrom_84 : decode cX0_canPlaceFrom 84 = .ok (.istore 5, 2) := by decide +kernel
theorem dX0_canPlaceFrom_86 : decode cX0_canPlaceFrom 86 = .ok (.aload_n 3, 1) := by decide +kernel
theorem dX0_canPlaceFrom_87 : decode cX0_canPlaceFrom 87 = .ok (.iload 4, 2) := by decide +kernel
theorem dX0_canPlaceFrom_89 : decode cX0_canPlaceFrom 89 = .ok (.dup2, 1) := by decide +kernel
theorem dX0_canPlaceFrom_90 : decode cX0_canPlaceFrom 90 = .ok (.iaload, 1) := by decide +kernel
theorem dX0_canPlaceFrom_91 : decode cX0_canPlaceFrom 91 = .ok (.iload_n 2, 1) := by decide +kernel
theorem dX0_canPlaceFrom_92 : decode cX0_canPlaceFrom 92 = .ok (.iadd, 1) := by decide +kernel
theorem dX0_canPlaceFrom_93 : decode cX0_canPlaceFrom 93 = .ok (.iastore, 1) := by decide +kernel
theorem dX0_canPlaceFrom_94 : decode cX0_canPlaceFrom 94 = .ok (.iload 5, 2) := by decide +kernel
theorem dX0_canPlaceFrom_96 : decode cX0_canPlaceFrom 96 = .ok (.ifCond .ne 11, 3) := by decide +kernel
theorem dX0_canPlaceFrom_99 : decode cX0_canPlaceFrom 99 = .ok (.aload_n 3, 1) := by decide +kernel
theorem dX0_canPlaceFrom_100 : decode cX0_canPlaceFrom 100 = .ok (.iload 4, 2) := by decide +kernel
theorem dX0_canPlaceFrom_102 : decode cX0_canPlaceFrom 102 = .ok (.iaload, 1) := by decide +kernel
theorem dX0_canPlaceFrom_103 : decode cX0_canPlaceFrom 103 = .ok (.iload_n 2, 1) := by decide +kernel
theorem dX0_canPlaceFrom_104 : decode cX0_canPlaceFrom 104 = .ok (.if_icmp .ne 6, 3) := by decide +kernel
theorem dX0_canPlaceFrom_107 : decode cX0_canPlaceFrom 107 = .ok (.iload 5, 2) := by decide +kernel
theorem dX0_canPlaceFrom_109 : decode cX0_canPlaceFrom 109 = .ok (.ireturn, 1) := by decide +kernel
theorem dX0_canPlaceFrom_110 : decode cX0_canPlaceFrom 110 = .ok (.iinc 4 1, 3) := by decide +kernel
theorem dX0_canPlaceFrom_113 : decode cX0_canPlaceFrom 113 = .ok (.goto (-73), 3) := by decide +kernel
theorem dX0_canPlaceFrom_116 : decode cX0_canPlaceFrom 116 = .ok (.iconst 0, 1) := by decide +kernel
theorem dX0_canPlaceFrom_117 : decode cX0_canPlaceFrom 117 = .ok (.ireturn, 1) := by decide +kernel
theorem dX0_tooMuchIsLost_0 : decode cX0_tooMuchIsLost 0 = .ok (.aload_n 0, 1) := by decide +kernel
theorem dX0_tooMuchIsLost_1 : decode cX0_tooMuchIsLost 1 = .ok (.getfield 43, 3) := by decide +kernel
theorem dX0_tooMuchIsLost_4 : decode cX0_tooMuchIsLost 4 = .ok (.ifCond .le 17, 3) := by decide +kernel
theorem dX0_tooMuchIsLost_7 : decode cX0_tooMuchIsLost 7 = .ok (.aload_n 0, 1) := by decide +kernel
theorem dX0_tooMuchIsLost_8 : decode cX0_tooMuchIsLost 8 = .ok (.getfield 15, 3) := by decide +kernel
theorem dX0_tooMuchIsLost_11 : decode cX0_tooMuchIsLost 11 = .ok (.aload_n 0, 1) := by decide +kernel
theorem dX0_tooMuchIsLost_12 : decode cX0_tooMuchIsLost 12 = .ok (.getfield 43, 3) := by decide +kernel
theorem dX0_tooMuchIsLost_15 : decode cX0_tooMuchIsLost 15 = .ok (.iconst 1, 1) := by decide +kernel
theorem dX0_tooMuchIsLost_16 : decode cX0_tooMuchIsLost 16 = .ok (.isub, 1) := by decide +kernel
theorem dX0_tooMuchIsLost_17 : decode cX0_tooMuchIsLost 17 = .ok (.iaload, 1) := by decide +kernel
theorem dX0_tooMuchIsLost_18 : decode cX0_tooMuchIsLost 18 = .ok (.goto 4, 3) := by decide +kernel
theorem dX0_tooMuchIsLost_21 : decode cX0_tooMuchIsLost 21 = .ok (.iconst 0, 1) := by decide +kernel
theorem dX0_tooMuchIsLost_22 : decode cX0_tooMuchIsLost 22 = .ok (.istore_n 1, 1) := by decide +kernel
theorem dX0_tooMuchIsLost_23 : decode cX0_tooMuchIsLost 23 = .ok (.iconst 0, 1) := by decide +kernel
theorem dX0_tooMuchIsLost_24 : decode cX0_tooMuchIsLost 24 = .ok (.istore_n 2, 1) := by decide +kernel
theorem dX0_tooMuchIsLost_25 : decode cX0_tooMuchIsLost 25 = .ok (.iconst 0, 1) := by decide +kernel
theorem dX0_tooMuchIsLost_26 : decode cX0_tooMuchIsLost 26 = .ok (.istore_n 3, 1) := by decide +kernel
theorem dX0_tooMuchIsLost_27 : decode cX0_tooMuchIsLost 27 = .ok (.iload_n 3, 1) := by decide +kernel
theorem dX0_tooMuchIsLost_28 : decode cX0_tooMuchIsLost 28 = .ok (.aload_n 0, 1) := by decide +kernel
theorem dX0_tooMuchIsLost_29 : decode cX0_tooMuchIsLost 29 = .ok (.getfield 73, 3) := by decide +kernel
theorem dX0_tooMuchIsLost_32 : decode cX0_tooMuchIsLost 32 = .ok (.if_icmp .ge 28, 3) := by decide +kernel
theorem dX0_tooMuchIsLost_35 : decode cX0_tooMuchIsLost 35 = .ok (.aload_n 0, 1) := by decide +kernel
theorem dX0_tooMuchIsLost_36 : decode cX0_tooMuchIsLost 36 = .ok (.getfield 24, 3) := by decide +kernel
theorem dX0_tooMuchIsLost_39 : decode cX0_tooMuchIsLost 39 = .ok (.iload_n 3, 1) := by decide +kernel
theorem dX0_tooMuchIsLost_40 : decode cX0_tooMuchIsLost 40 = .ok (.iaload, 1) := by decide +kernel
theorem dX0_tooMuchIsLost_41 : decode cX0_tooMuchIsLost 41 = .ok (.iload_n 1, 1) := by decide +kernel
theorem dX0_tooMuchIsLost_42 : decode cX0_tooMuchIsLost 42 = .ok (.if_icmp .ge 12, 3) := by decide +kernel
theorem dX0_tooMuchIsLost_45 : decode cX0_tooMuchIsLost 45 = .ok (.iload_n 2, 1) := by decide +kernel
theorem dX0_tooMuchIsLost_46 : decode cX0_tooMuchIsLost 46 = .ok (.aload_n 0, 1) := by decide +kernel
theorem dX0_tooMuchIsLost_47 : decode cX0_tooMuchIsLost 47 = .ok (.getfield 24, 3) := by decide +kernel
theorem dX0_tooMuchIsLost_50 : decode cX0_tooMuchIsLost 50 = .ok (.iload_n 3, 1) := by decide +kernel
theorem dX0_tooMuchIsLost_51 : decode cX0_tooMuchIsLost 51 = .ok (.iaload, 1) := by decide +kernel
theorem dX0_tooMuchIsLost_52 : decode cX0_tooMuchIsLost 52 = .ok (.iadd, 1) := by decide +kernel
theorem dX0_tooMuchIsLost_53 : decode cX0_tooMuchIsLost 53 = .ok (.istore_n 2, 1) := by decide +kernel
theorem dX0_tooMuchIsLost_54 : decode cX0_tooMuchIsLost 54 = .ok (.iinc 3 1, 3) := by decide +kernel
theorem dX0_tooMuchIsLost_57 : decode cX0_tooMuchIsLost 57 = .ok (.goto (-30), 3) := by decide +kernel
theorem dX0_tooMuchIsLost_60 : decode cX0_tooMuchIsLost 60 = .ok (.iload_n 2, 1) := by decide +kernel
theorem dX0_tooMuchIsLost_61 : decode cX0_tooMuchIsLost 61 = .ok (.aload_n 0, 1) := by decide +kernel
theorem dX0_tooMuchIsLost_62 : decode cX0_tooMuchIsLost 62 = .ok (.getfield 76, 3) := by decide +kernel
theorem dX0_tooMuchIsLost_65 : decode cX0_tooMuchIsLost 65 = .ok (.if_icmp .le 7, 3) := by decide +kernel
theorem dX0_tooMuchIsLost_68 : decode cX0_tooMuchIsLost 68 = .ok (.iconst 1, 1) := by decide +kernel
theorem dX0_tooMuchIsLost_69 : decode cX0_tooMuchIsLost 69 = .ok (.goto 4, 3) := by decide +kernel
theorem dX0_tooMuchIsLost_72 : decode cX0_tooMuchIsLost 72 = .ok (.iconst 0, 1) := by decide +kernel
theorem dX0_tooMuchIsLost_73 : decode cX0_tooMuchIsLost 73 = .ok (.ireturn, 1) := by decide +kernel
theorem dX0_isLikeOneAhead_0 : decode cX0_isLikeOneAhead 0 = .ok (.iconst 0, 1) := by decide +kernel
theorem dX0_isLikeOneAhead_1 : decode cX0_isLikeOneAhead 1 = .ok (.istore_n 2, 1) := by decide +kernel
theorem dX0_isLikeOneAhead_2 : decode cX0_isLikeOneAhead 2 = .ok (.iload_n 2, 1) := by decide +kernel
theorem dX0_isLikeOneAhead_3 : decode cX0_isLikeOneAhead 3 = .ok (.iload_n 1, 1) := by decide +kernel
theorem dX0_isLikeOneAhead_4 : decode cX0_isLikeOneAhead 4 = .ok (.if_icmp .ge 26, 3) := by decide +kernel
theorem dX0_isLikeOneAhead_7 : decode cX0_isLikeOneAhead 7 = .ok (.aload_n 0, 1) := by decide +kernel
theorem dX0_isLikeOneAhead_8 : decode cX0_isLikeOneAhead 8 = .ok (.getfield 24, 3) := by decide +kernel
theorem dX0_isLikeOneAhead_11 : decode cX0_isLikeOneAhead 11 = .ok (.iload_n 2, 1) := by decide +kernel
theorem dX0_isLikeOneAhead_12 : decode cX0_isLikeOneAhead 12 = .ok (.iaload, 1) := by decide +kernel
theorem dX0_isLikeOneAhead_13 : decode cX0_isLikeOneAhead 13 = .ok (.aload_n 0, 1) := by decide +kernel
theorem dX0_isLikeOneAhead_14 : decode cX0_isLikeOneAhead 14 = .ok (.getfield 24, 3) := by decide +kernel
theorem dX0_isLikeOneAhead_17 : decode cX0_isLikeOneAhead 17 = .ok (.iload_n 1, 1) := by decide +kernel
theorem dX0_isLikeOneAhead_18 : decode cX0_isLikeOneAhead 18 = .ok (.iaload, 1) := by decide +kernel
theorem dX0_isLikeOneAhead_19 : decode cX0_isLikeOneAhead 19 = .ok (.if_icmp .ne 5, 3) := by decide +kernel
theorem dX0_isLikeOneAhead_22 : decode cX0_isLikeOneAhead 22 = .ok (.iconst 1, 1) := by decide +kernel
theorem dX0_isLikeOneAhead_23 : decode cX0_isLikeOneAhead 23 = .ok (.ireturn, 1) := by decide +kernel
theorem dX0_isLikeOneAhead_24 : decode cX0_isLikeOneAhead 24 = .ok (.iinc 2 1, 3) := by decide +kernel
theorem dX0_isLikeOneAhead_27 : decode cX0_isLikeOneAhead 27 = .ok (.goto (-25), 3) := by decide +kernel
theorem dX0_isLikeOneAhead_30 : decode cX0_isLikeOneAhead 30 = .ok (.iconst 0, 1) := by decide +kernel
theorem dX0_isLikeOneAhead_31 : decode cX0_isLikeOneAhead 31 = .ok (.ireturn, 1) := by decide +kernel
theorem dX1_init_0 : decode cX1_init 0 = .ok (.aload_n 0, 1) := by decide +kernel
theorem dX1_init_1 : decode cX1_init 1 = .ok (.invokespecial 3, 3) := by decide +kernel
theorem dX1_init_4 : decode cX1_init 4 = .ok (.aload_n 0, 1) := by decide +kernel
theorem dX1_init_5 : decode cX1_init 5 = .ok (.sipush 200, 3) := by decide +kernel
theorem dX1_init_8 : decode cX1_init 8 = .ok (.newarray .char, 2) := by decide +kernel
theorem dX1_init_10 : decode cX1_init 10 = .ok (.putfield 9, 3) := by decide +kernel
theorem dX1_init_13 : decode cX1_init 13 = .ok (.return_, 1) := by decide +kernel
theorem dX1_append_0 : decode cX1_append 0 = .ok (.aload_n 0, 1) := by decide +kernel
theorem dX1_append_1 : decode cX1_append 1 = .ok (.getfield 15, 3) := by decide +kernel
theorem dX1_append_4 : decode cX1_append 4 = .ok (.sipush 200, 3) := by decide +kernel
theorem dX1_append_7 : decode cX1_append 7 = .ok (.if_icmp .lt 5, 3) := by decide +kernel
theorem dX1_append_10 : decode cX1_append 10 = .ok (.iconst 0, 1) := by decide +kernel
theorem dX1_append_11 : decode cX1_append 11 = .ok (.ireturn, 1) := by decide +kernel
theorem dX1_append_12 : decode cX1_append 12 = .ok (.aload_n 0, 1) := by decide +kernel
theorem dX1_append_13 : decode cX1_append 13 = .ok (.getfield 9, 3) := by decide +kernel
theorem dX1_append_16 : decode cX1_append 16 = .ok (.aload_n 0, 1) := by decide +kernel
theorem dX1_append_17 : decode cX1_append 17 = .ok (.getfield 15, 3) := by decide +kernel
theorem dX1_append_20 : decode cX1_append 20 = .ok (.iload_n 1, 1) := by decide +kernel
theorem dX1_append_21 : decode cX1_append 21 = .ok (.castore, 1) := by decide +kernel
theorem dX1_append_22 : decode cX1_append 22 = .ok (.aload_n 0, 1) := by decide +kernel
theorem dX1_append_23 : decode cX1_append 23 = .ok (.dup, 1) := by decide +kernel
theorem dX1_append_24 : decode cX1_append 24 = .ok (.getfield 15, 3) := by decide +kernel
theorem dX1_append_27 : decode cX1_append 27 = .ok (.iconst 1, 1) := by decide +kernel
theorem dX1_append_28 : decode cX1_append 28 = .ok (.iadd, 1) := by decide +kernel
theorem dX1_append_29 : decode cX1_append 29 = .ok (.putfield 15, 3) := by decide +kernel
theorem dX1_append_32 : decode cX1_append 32 = .ok (.iconst 1, 1) := by decide +kernel
theorem dX1_append_33 : decode cX1_append 33 = .ok (.ireturn, 1) := by decide +kernel
theorem dX1_at_0 : decode cX1_at 0 = .ok (.iload_n 1, 1) := by decide +kernel
theorem dX1_at_1 : decode cX1_at 1 = .ok (.ifCond .lt 20, 3) := by decide +kernel
theorem dX1_at_4 : decode cX1_at 4 = .ok (.iload_n 1, 1) := by decide +kernel
theorem dX1_at_5 : decode cX1_at 5 = .ok (.aload_n 0, 1) := by decide +kernel
theorem dX1_at_6 : decode cX1_at 6 = .ok (.getfield 15, 3) := by decide +kernel
theorem dX1_at_9 : decode cX1_at 9 = .ok (.if_icmp .ge 12, 3) := by decide +kernel
theorem dX1_at_12 : decode cX1_at 12 = .ok (.aload_n 0, 1) := by decide +kernel
theorem dX1_at_13 : decode cX1_at 13 = .ok (.getfield 9, 3) := by decide +kernel
theorem dX1_at_16 : decode cX1_at 16 = .ok (.iload_n 1, 1) := by decide +kernel
theorem dX1_at_17 : decode cX1_at 17 = .ok (.caload, 1) := by decide +kernel
theorem dX1_at_18 : decode cX1_at 18 = .ok (.goto 4, 3) := by decide +kernel
theorem dX1_at_21 : decode cX1_at 21 = .ok (.iconst 0, 1) := by decide +kernel
theorem dX1_at_22 : decode cX1_at 22 = .ok (.ireturn, 1) := by decide +kernel
theorem dX1_isFigure_0 : decode cX1_isFigure 0 = .ok (.aload_n 0, 1) := by decide +kernel
theorem dX1_isFigure_1 : decode cX1_isFigure 1 = .ok (.iload_n 1, 1) := by decide +kernel
theorem dX1_isFigure_2 : decode cX1_isFigure 2 = .ok (.invokevirtual 19, 3) := by decide +kernel
theorem dX1_isFigure_5 : decode cX1_isFigure 5 = .ok (.bipush 48, 2) := by decide +kernel
theorem dX1_isFigure_7 : decode cX1_isFigure 7 = .ok (.if_icmp .lt 17, 3) := by decide +kernel
theorem dX1_isFigure_10 : decode cX1_isFigure 10 = .ok (.aload_n 0, 1) := by decide +kernel
theorem dX1_isFigure_11 : decode cX1_isFigure 11 = .ok (.iload_n 1, 1) := by decide +kernel
theorem dX1_isFigure_12 : decode cX1_isFigure 12 = .ok (.invokevirtual 19, 3) := by decide +kernel
theorem dX1_isFigure_15 : decode cX1_isFigure 15 = .ok (.bipush 57, 2) := by decide +kernel
theorem dX1_isFigure_17 : decode cX1_isFigure 17 = .ok (.if_icmp .gt 7, 3) := by decide +kernel
theorem dX1_isFigure_20 : decode cX1_isFigure 20 = .ok (.iconst 1, 1) := by decide +kernel
theorem dX1_isFigure_21 : decode cX1_isFigure 21 = .ok (.goto 4, 3) := by decide +kernel
theorem dX1_isFigure_24 : decode cX1_isFigure 24 = .ok (.iconst 0, 1) := by decide +kernel
theorem dX1_isFigure_25 : decode cX1_isFigure 25 = .ok (.ireturn, 1) := by decide +kernel
theorem dX2_init_0 : decode cX2_init 0 = .ok (.aload_n 0, 1) := by decide +kernel
theorem dX2_init_1 : decode cX2_init 1 = .ok (.invokespecial 3, 3) := by decide +kernel
theorem dX2_init_4 : decode cX2_init 4 = .ok (.aload_n 0, 1) := by decide +kernel
theorem dX2_init_5 : decode cX2_init 5 = .ok (.bipush 30, 2) := by decide +kernel
theorem dX2_init_7 : decode cX2_init 7 = .ok (.newarray .int, 2) := by decide +kernel
theorem dX2_init_9 : decode cX2_init 9 = .ok (.putfield 9, 3) := by decide +kernel
theorem dX2_init_12 : decode cX2_init 12 = .ok (.aload_n 0, 1) := by decide +kernel
theorem dX2_init_13 : decode cX2_init 13 = .ok (.bipush 10, 2) := by decide +kernel
theorem dX2_init_15 : decode cX2_init 15 = .ok (.newarray .int, 2) := by decide +kernel
theorem dX2_init_17 : decode cX2_init 17 = .ok (.putfield 15, 3) := by decide +kernel
theorem dX2_init_20 : decode cX2_init 20 = .ok (.aload_n 0, 1) := by decide +kernel
theorem dX2_init_21 : decode cX2_init 21 = .ok (.bipush 14, 2) := by decide +kernel
theorem dX2_init_23 : decode cX2_init 23 = .ok (.newarray .int, 2) := by decide +kernel
theorem dX2_init_25 : decode cX2_init 25 = .ok (.putfield 18, 3) := by decide +kernel
theorem dX2_init_28 : decode cX2_init 28 = .ok (.aload_n 0, 1) := by decide +kernel
theorem dX2_init_29 : decode cX2_init 29 = .ok (.bipush 14, 2) := by decide +kernel
theorem dX2_init_31 : decode cX2_init 31 = .ok (.newarray .int, 2) := by decide +kernel
theorem dX2_init_33 : decode cX2_init 33 = .ok (.putfield 21, 3) := by decide +kernel
theorem dX2_init_36 : decode cX2_init 36 = .ok (.aload_n 0, 1) := by decide +kernel
theorem dX2_init_37 : decode cX2_init 37 = .ok (.bipush 14, 2) := by decide +kernel
theorem dX2_init_39 : decode cX2_init 39 = .ok (.newarray .int, 2) := by decide +kernel
theorem dX2_init_41 : decode cX2_init 41 = .ok (.putfield 24, 3) := by decide +kernel
theorem dX2_init_44 : decode cX2_init 44 = .ok (.aload_n 0, 1) := by decide +kernel
theorem dX2_init_45 : decode cX2_init 45 = .ok (.bipush 14, 2) := by decide +kernel
theorem dX2_init_47 : decode cX2_init 47 = .ok (.newarray .int, 2) := by decide +kernel
theorem dX2_init_49 : decode cX2_init 49 = .ok (.putfield 27, 3) := by decide +kernel
theorem dX2_init_52 : decode cX2_init 52 = .ok (.return_, 1) := by decide +kernel
theorem dX2_clear_0 : decode cX2_clear 0 = .ok (.aload_n 0, 1) := by decide +kernel
theorem dX2_clear_1 : decode cX2_clear 1 = .ok (.iconst 0, 1) := by decide +kernel
theorem dX2_clear_2 : decode cX2_clear 2 = .ok (.putfield 30, 3) := by decide +kernel
theorem dX2_clear_5 : decode cX2_clear 5 = .ok (.aload_n 0, 1) := by decide +kernel
theorem dX2_clear_6 : decode cX2_clear 6 = .ok (.iconst 0, 1) := by decide +kernel
theorem dX2_clear_7 : decode cX2_clear 7 = .ok (.putfield 34, 3) := by decide +kernel
theorem dX2_clear_10 : decode cX2_clear 10 = .ok (.aload_n 0, 1) := by decide +kernel
theorem dX2_clear_11 : decode cX2_clear 11 = .ok (.iconst 0, 1) := by decide +kernel
theorem dX2_clear_12 : decode cX2_clear 12 = .ok (.putfield 37, 3) := by decide +kernel
theorem dX2_clear_15 : decode cX2_clear 15 = .ok (.aload_n 0, 1) := by decide +kernel
theorem dX2_clear_16 : decode cX2_clear 16 = .ok (.iconst 0, 1) := by decide +kernel
theorem dX2_clear_17 : decode cX2_clear 17 = .ok (.putfield 40, 3) := by decide +kernel
theorem dX2_clear_20 : decode cX2_clear 20 = .ok (.aload_n 0, 1) := by decide +kernel
theorem dX2_clear_21 : decode cX2_clear 21 = .ok (.bipush 40, 2) := by decide +kernel
theorem dX2_clear_23 : decode cX2_clear 23 = .ok (.putfield 43, 3) := by decide +kernel
theorem dX2_clear_26 : decode cX2_clear 26 = .ok (.aload_n 0, 1) := by decide +kernel
theorem dX2_clear_27 : decode cX2_clear 27 = .ok (.bipush 10, 2) := by decide +kernel
theorem dX2_clear_29 : decode cX2_clear 29 = .ok (.putfield 46, 3) := by decide +kernel
theorem dX2_clear_32 : decode cX2_clear 32 = .ok (.return_, 1) := by decide +kernel
theorem dX2_copyFrom_0 : decode cX2_copyFrom 0 = .ok (.aload_n 0, 1) := by decide +kernel
theorem dX2_copyFrom_1 : decode cX2_copyFrom 1 = .ok (.aload_n 1, 1) := by decide +kernel
theorem dX2_copyFrom_2 : decode cX2_copyFrom 2 = .ok (.getfield 30, 3) := by decide +kernel
theorem dX2_copyFrom_5 : decode cX2_copyFrom 5 = .ok (.putfield 30, 3) := by decide +kernel
theorem dX2_copyFrom_8 : decode cX2_copyFrom 8 = .ok (.aload_n 0, 1) := by decide +kernel
theorem dX2_copyFrom_9 : decode cX2_copyFrom 9 = .ok (.aload_n 1, 1) := by decide +kernel
theorem dX2_copyFrom_10 : decode cX2_copyFrom 10 = .ok (.getfield 34, 3) := by decide +kernel
theorem dX2_copyFrom_13 : decode cX2_copyFrom 13 = .ok (.putfield 34, 3) := by decide +kernel
theorem dX2_copyFrom_16 : decode cX2_copyFrom 16 = .ok (.aload_n 0, 1) := by decide +kernel
theorem dX2_copyFrom_17 : decode cX2_copyFrom 17 = .ok (.aload_n 1, 1) := by decide +kernel
theorem dX2_copyFrom_18 : decode cX2_copyFrom 18 = .ok (.getfield 37, 3) := by decide +kernel
theorem dX2_copyFrom_21 : decode cX2_copyFrom 21 = .ok (.putfield 37, 3) := by decide +kernel
theorem dX2_copyFrom_24 : decode cX2_copyFrom 24 = .ok (.aload_n 0, 1) := by decide +kernel
theorem dX2_copyFrom_25 : decode cX2_copyFrom 25 = .ok (.aload_n 1, 1) := by decide +kernel
theorem dX2_copyFrom_26 : decode cX2_copyFrom 26 = .ok (.getfield 40, 3) := by decide +kernel
theorem dX2_copyFrom_29 : decode cX2_copyFrom 29 = .ok (.putfield 40, 3) := by decide +kernel
theorem dX2_copyFrom_32 : decode cX2_copyFrom 32 = .ok (.aload_n 0, 1) := by decide +kernel
theorem dX2_copyFrom_33 : decode cX2_copyFrom 33 = .ok (.aload_n 1, 1) := by decide +kernel
theorem dX2_copyFrom_34 : decode cX2_copyFrom 34 = .ok (.getfield 43, 3) := by decide +kernel
theorem dX2_copyFrom_37 : decode cX2_copyFrom 37 = .ok (.putfield 43, 3) := by decide +kernel
theorem dX2_copyFrom_40 : decode cX2_copyFrom 40 = .ok (.aload_n 0, 1) := by decide +kernel
theorem dX2_copyFrom_41 : decode cX2_copyFrom 41 = .ok (.aload_n 1, 1) := by decide +kernel
theorem dX2_copyFrom_42 : decode cX2_copyFrom 42 = .ok (.getfield 46, 3) := by decide +kernel
theorem dX2_copyFrom_45 : decode cX2_copyFrom 45 = .ok (.putfield 46, 3) := by decide +kernel
theorem dX2_copyFrom_48 : decode cX2_copyFrom 48 = .ok (.aload_n 1, 1) := by decide +kernel
theorem dX2_copyFrom_49 : decode cX2_copyFrom 49 = .ok (.getfield 9, 3) := by decide +kernel
theorem dX2_copyFrom_52 : decode cX2_copyFrom 52 = .ok (.iconst 0, 1) := by decide +kernel
theorem dX2_copyFrom_53 : decode cX2_copyFrom 53 = .ok (.aload_n 0, 1) := by decide +kernel
theorem dX2_copyFrom_54 : decode cX2_copyFrom 54 = .ok (.getfield 9, 3) := by decide +kernel
theorem dX2_copyFrom_57 : decode cX2_copyFrom 57 = .ok (.iconst 0, 1) := by decide +kernel
theorem dX2_copyFrom_58 : decode cX2_copyFrom 58 = .ok (.bipush 30, 2) := by decide +kernel
theorem dX2_copyFrom_60 : decode cX2_copyFrom 60 = .ok (.invokestatic 49, 3) := by decide +kernel
theorem dX2_copyFrom_63 : decode cX2_copyFrom 63 = .ok (.aload_n 1, 1) := by decide +kernel
theorem dX2_copyFrom_64 : decode cX2_copyFrom 64 = .ok (.getfield 15, 3) := by decide +kernel
theorem dX2_copyFrom_67 : decode cX2_copyFrom 67 = .ok (.iconst 0, 1) := by decide +kernel
theorem dX2_copyFrom_68 : decode cX2_copyFrom 68 = .ok (.aload_n 0, 1) := by decide +kernel
theorem dX2_copyFrom_69 : decode cX2_copyFrom 69 = .ok (.getfield 15, 3) := by decide +kernel
theorem dX2_copyFrom_72 : decode cX2_copyFrom 72 = .ok (.iconst 0, 1) := by decide +kernel
theorem dX2_copyFrom_73 : decode cX2_copyFrom 73 = .ok (.bipush 10, 2) := by decide +kernel
theorem dX2_copyFrom_75 : decode cX2_copyFrom 75 = .ok (.invokestatic 49, 3) := by decide +kernel
theorem dX2_copyFrom_78 : decode cX2_copyFrom 78 = .ok (.aload_n 1, 1) := by decide +kernel
theorem dX2_copyFrom_79 : decode cX2_copyFrom 79 = .ok (.getfield 18, 3) := by decide +kernel
theorem dX2_copyFrom_82 : decode cX2_copyFrom 82 = .ok (.iconst 0, 1) := by decide +kernel
theorem dX2_copyFrom_83 : decode cX2_copyFrom 83 = .ok (.aload_n 0, 1) := by decide +kernel
theorem dX2_copyFrom_84 : decode cX2_copyFrom 84 = .ok (.getfield 18, 3) := by decide +kernel
theorem dX2_copyFrom_87 : decode cX2_copyFrom 87 = .ok (.iconst 0, 1) := by decide +kernel
theorem dX2_copyFrom_88 : decode cX2_copyFrom 88 = .ok (.bipush 14, 2) := by decide +kernel
theorem dX2_copyFrom_90 : decode cX2_copyFrom 90 = .ok (.invokestatic 49, 3) := by decide +kernel
theorem dX2_copyFrom_93 : decode cX2_copyFrom 93 = .ok (.aload_n 1, 1) := by decide +kernel
theorem dX2_copyFrom_94 : decode cX2_copyFrom 94 = .ok (.getfield 21, 3) := by decide +kernel
theorem dX2_copyFrom_97 : decode cX2_copyFrom 97 = .ok (.iconst 0, 1) := by decide +kernel
theorem dX2_copyFrom_98 : decode cX2_copyFrom 98 = .ok (.aload_n 0, 1) := by decide +kernel
theorem dX2_copyFrom_99 : decode cX2_copyFrom 99 = .ok (.getfield 21, 3) := by decide +kernel
theorem dX2_copyFrom_102 : decode cX2_copyFrom 102 = .ok (.iconst 0, 1) := by decide +kernel
theorem dX2_copyFrom_103 : decode cX2_copyFrom 103 = .ok (.bipush 14, 2) := by decide +kernel
theorem dX2_copyFrom_105 : decode cX2_copyFrom 105 = .ok (.invokestatic 49, 3) := by decide +kernel
theorem dX2_copyFrom_108 : decode cX2_copyFrom 108 = .ok (.aload_n 1, 1) := by decide +kernel
theorem dX2_copyFrom_109 : decode cX2_copyFrom 109 = .ok (.getfield 24, 3) := by decide +kernel
theorem dX2_copyFrom_112 : decode cX2_copyFrom 112 = .ok (.iconst 0, 1) := by decide +kernel
theorem dX2_copyFrom_113 : decode cX2_copyFrom 113 = .ok (.aload_n 0, 1) := by decide +kernel
theorem dX2_copyFrom_114 : decode cX2_copyFrom 114 = .ok (.getfield 24, 3) := by decide +kernel
theorem dX2_copyFrom_117 : decode cX2_copyFrom 117 = .ok (.iconst 0, 1) := by decide +kernel
theorem dX2_copyFrom_118 : decode cX2_copyFrom 118 = .ok (.bipush 14, 2) := by decide +kernel
theorem dX2_copyFrom_120 : decode cX2_copyFrom 120 = .ok (.invokestatic 49, 3) := by decide +kernel
theorem dX2_copyFrom_123 : decode cX2_copyFrom 123 = .ok (.aload_n 1, 1) := by decide +kernel
theorem dX2_copyFrom_124 : decode cX2_copyFrom 124 = .ok (.getfield 27, 3) := by decide +kernel
theorem dX2_copyFrom_127 : decode cX2_copyFrom 127 = .ok (.iconst 0, 1) := by decide +kernel
theorem dX2_copyFrom_128 : decode cX2_copyFrom 128 = .ok (.aload_n 0, 1) := by decide +kernel
theorem dX2_copyFrom_129 : decode cX2_copyFrom 129 = .ok (.getfield 27, 3) := by decide +kernel
theorem dX2_copyFrom_132 : decode cX2_copyFrom 132 = .ok (.iconst 0, 1) := by decide +kernel
theorem dX2_copyFrom_133 : decode cX2_copyFrom 133 = .ok (.bipush 14, 2) := by decide +kernel
theorem dX2_copyFrom_135 : decode cX2_copyFrom 135 = .ok (.invokestatic 49, 3) := by decide +kernel
theorem dX2_copyFrom_138 : decode cX2_copyFrom 138 = .ok (.return_, 1) := by decide +kernel
theorem dX2_addFixed_0 : decode cX2_addFixed 0 = .ok (.aload_n 0, 1) := by decide +kernel
theorem dX2_addFixed_1 : decode cX2_addFixed 1 = .ok (.getfield 30, 3) := by decide +kernel
theorem dX2_addFixed_4 : decode cX2_addFixed 4 = .ok (.bipush 10, 2) := by decide +kernel
theorem dX2_addFixed_6 : decode cX2_addFixed 6 = .ok (.if_icmp .ge 21, 3) := by decide +kernel
theorem dX2_addFixed_9 : decode cX2_addFixed 9 = .ok (.iload_n 1, 1) := by decide +kernel
theorem dX2_addFixed_10 : decode cX2_addFixed 10 = .ok (.bipush 60, 2) := by decide +kernel
theorem dX2_addFixed_12 : decode cX2_addFixed 12 = .ok (.if_icmp .gt 15, 3) := by decide +kernel
theorem dX2_addFixed_15 : decode cX2_addFixed 15 = .ok (.iload_n 2, 1) := by decide +kernel
theorem dX2_addFixed_16 : decode cX2_addFixed 16 = .ok (.bipush 60, 2) := by decide +kernel
theorem dX2_addFixed_18 : decode cX2_addFixed 18 = .ok (.if_icmp .gt 9, 3) := by decide +kernel
theorem dX2_addFixed_21 : decode cX2_addFixed 21 = .ok (.iload_n 3, 1) := by decide +kernel
theorem dX2_addFixed_22 : decode cX2_addFixed 22 = .ok (.bipush 60, 2) := by decide +kernel
theorem dX2_addFixed_24 : decode cX2_addFixed 24 = .ok (.if_icmp .le 5, 3) := by decide +kernel
theorem dX2_addFixed_27 : decode cX2_addFixed 27 = .ok (.iconst 0, 1) := by decide +kernel
theorem dX2_addFixed_28 : decode cX2_addFixed 28 = .ok (.ireturn, 1) := by decide +kernel
theorem dX2_addFixed_29 : decode cX2_addFixed 29 = .ok (.aload_n 0, 1) := by decide +kernel
theorem dX2_addFixed_30 : decode cX2_addFixed 30 = .ok (.getfield 9, 3) := by decide +kernel
theorem dX2_addFixed_33 : decode cX2_addFixed 33 = .ok (.aload_n 0, 1) := by decide +kernel
theorem dX2_addFixed_34 : decode cX2_addFixed 34 = .ok (.getfield 30, 3) := by decide +kernel
theorem dX2_addFixed_37 : decode cX2_addFixed 37 = .ok (.iconst 3, 1) := by decide +kernel
theorem dX2_addFixed_38 : decode cX2_addFixed 38 = .ok (.imul, 1) := by decide +kernel
theorem dX2_addFixed_39 : decode cX2_addFixed 39 = .ok (.iload_n 1, 1) := by decide +kernel
theorem dX2_addFixed_40 : decode cX2_addFixed 40 = .ok (.iastore, 1) := by decide +kernel
theorem dX2_addFixed_41 : decode cX2_addFixed 41 = .ok (.aload_n 0, 1) := by decide +kernel
theorem dX2_addFixed_42 : decode cX2_addFixed 42 = .ok (.getfield 9, 3) := by decide +kernel
theorem dX2_addFixed_45 : decode cX2_addFixed 45 = .ok (.aload_n 0, 1) := by decide +kernel
theorem dX2_addFixed_46 : decode cX2_addFixed 46 = .ok (.getfield 30, 3) := by decide +kernel
theorem dX2_addFixed_49 : decode cX2_addFixed 49 = .ok (.iconst 3, 1) := by decide +kernel
theorem dX2_addFixed_50 : decode cX2_addFixed 50 = .ok (.imul, 1) := by decide +kernel
theorem dX2_addFixed_51 : decode cX2_addFixed 51 = .ok (.iconst 1, 1) := by decide +kernel
theorem dX2_addFixed_52 : decode cX2_addFixed 52 = .ok (.iadd, 1) := by decide +kernel
theorem dX2_addFixed_53 : decode cX2_addFixed 53 = .ok (.iload_n 2, 1) := by decide +kernel
theorem dX2_addFixed_54 : decode cX2_addFixed 54 = .ok (.iastore, 1) := by decide +kernel
theorem dX2_addFixed_55 : decode cX2_addFixed 55 = .ok (.aload_n 0, 1) := by decide +kernel
theorem dX2_addFixed_56 : decode cX2_addFixed 56 = .ok (.getfield 9, 3) := by decide +kernel
theorem dX2_addFixed_59 : decode cX2_addFixed 59 = .ok (.aload_n 0, 1) := by decide +kernel
theorem dX2_addFixed_60 : decode cX2_addFixed 60 = .ok (.getfield 30, 3) := by decide +kernel
theorem dX2_addFixed_63 : decode cX2_addFixed 63 = .ok (.iconst 3, 1) := by decide +kernel
theorem dX2_addFixed_64 : decode cX2_addFixed 64 = .ok (.imul, 1) := by decide +kernel
theorem dX2_addFixed_65 : decode cX2_addFixed 65 = .ok (.iconst 2, 1) := by decide +kernel
theorem dX2_addFixed_66 : decode cX2_addFixed 66 = .ok (.iadd, 1) := by decide +kernel
theorem dX2_addFixed_67 : decode cX2_addFixed 67 = .ok (.iload_n 3, 1) := by decide +kernel
theorem dX2_addFixed_68 : decode cX2_addFixed 68 = .ok (.iastore, 1) := by decide +kernel
theorem dX2_addFixed_69 : decode cX2_addFixed 69 = .ok (.aload_n 0, 1) := by decide +kernel
theorem dX2_addFixed_70 : decode cX2_addFixed 70 = .ok (.getfield 15, 3) := by decide +kernel
theorem dX2_addFixed_73 : decode cX2_addFixed 73 = .ok (.aload_n 0, 1) := by decide +kernel
theorem dX2_addFixed_74 : decode cX2_addFixed 74 = .ok (.getfield 30, 3) := by decide +kernel
theorem dX2_addFixed_77 : decode cX2_addFixed 77 = .ok (.iconst 0, 1) := by decide +kernel
theorem dX2_addFixed_78 : decode cX2_addFixed 78 = .ok (.iastore, 1) := by decide +kernel
theorem dX2_addFixed_79 : decode cX2_addFixed 79 = .ok (.aload_n 0, 1) := by decide +kernel
theorem dX2_addFixed_80 : decode cX2_addFixed 80 = .ok (.dup, 1) := by decide +kernel
theorem dX2_addFixed_81 : decode cX2_addFixed 81 = .ok (.getfield 30, 3) := by decide +kernel
theorem dX2_addFixed_84 : decode cX2_addFixed 84 = .ok (.iconst 1, 1) := by decide +kernel
theorem dX2_addFixed_85 : decode cX2_addFixed 85 = .ok (.iadd, 1) := by decide +kernel
theorem dX2_addFixed_86 : decode cX2_addFixed 86 = .ok (.putfield 30, 3) := by decide +kernel
theorem dX2_addFixed_89 : decode cX2_addFixed 89 = .ok (.iconst 1, 1) := by decide +kernel
theorem dX2_addFixed_90 : decode cX2_addFixed 90 = .ok (.ireturn, 1) := by decide +kernel
theorem dX2_addFree_0 : decode cX2_addFree 0 = .ok (.aload_n 0, 1) := by decide +kernel
theorem dX2_addFree_1 : decode cX2_addFree 1 = .ok (.getfield 30, 3) := by decide +kernel
theorem dX2_addFree_4 : decode cX2_addFree 4 = .ok (.bipush 10, 2) := by decide +kernel
theorem dX2_addFree_6 : decode cX2_addFree 6 = .ok (.if_icmp .ge 20, 3) := by decide +kernel
theorem dX2_addFree_9 : decode cX2_addFree 9 = .ok (.aload_n 0, 1) := by decide +kernel
theorem dX2_addFree_10 : decode cX2_addFree 10 = .ok (.getfield 34, 3) := by decide +kernel
theorem dX2_addFree_13 : decode cX2_addFree 13 = .ok (.invokestatic 55, 3) := by decide +kernel
theorem dX2_addFree_16 : decode cX2_addFree 16 = .ok (.iconst 5, 1) := by decide +kernel
theorem dX2_addFree_17 : decode cX2_addFree 17 = .ok (.if_icmp .ge 9, 3) := by decide +kernel
theorem dX2_addFree_20 : decode cX2_addFree 20 = .ok (.iload_n 1, 1) := by decide +kernel
theorem dX2_addFree_21 : decode cX2_addFree 21 = .ok (.bipush 9, 2) := by decide +kernel
theorem dX2_addFree_23 : decode cX2_addFree 23 = .ok (.if_icmp .le 5, 3) := by decide +kernel
theorem dX2_addFree_26 : decode cX2_addFree 26 = .ok (.iconst 0, 1) := by decide +kernel
theorem dX2_addFree_27 : decode cX2_addFree 27 = .ok (.ireturn, 1) := by decide +kernel
theorem dX2_addFree_28 : decode cX2_addFree 28 = .ok (.aload_n 0, 1) := by decide +kernel
theorem dX2_addFree_29 : decode cX2_addFree 29 = .ok (.dup, 1) := by decide +kernel
theorem dX2_addFree_30 : decode cX2_addFree 30 = .ok (.getfield 34, 3) := by decide +kernel
theorem dX2_addFree_33 : decode cX2_addFree 33 = .ok (.iconst 1, 1) := by decide +kernel
theorem dX2_addFree_34 : decode cX2_addFree 34 = .ok (.aload_n 0, 1) := by decide +kernel
theorem dX2_addFree_35 : decode cX2_addFree 35 = .ok (.getfield 30, 3) := by decide +kernel
theorem dX2_addFree_38 : decode cX2_addFree 38 = .ok (.ishl, 1) := by decide +kernel
theorem dX2_addFree_39 : decode cX2_addFree 39 = .ok (.ior, 1) := by decide +kernel
theorem dX2_addFree_40 : decode cX2_addFree 40 = .ok (.putfield 34, 3) := by decide +kernel
theorem dX2_addFree_43 : decode cX2_addFree 43 = .ok (.aload_n 0, 1) := by decide +kernel
theorem dX2_addFree_44 : decode cX2_addFree 44 = .ok (.getfield 15, 3) := by decide +kernel
theorem dX2_addFree_47 : decode cX2_addFree 47 = .ok (.aload_n 0, 1) := by decide +kernel
theorem dX2_addFree_48 : decode cX2_addFree 48 = .ok (.getfield 30, 3) := by decide +kernel
theorem dX2_addFree_51 : decode cX2_addFree 51 = .ok (.iload_n 1, 1) := by decide +kernel
theorem dX2_addFree_52 : decode cX2_addFree 52 = .ok (.iastore, 1) := by decide +kernel
theorem dX2_addFree_53 : decode cX2_addFree 53 = .ok (.aload_n 0, 1) := by decide +kernel
theorem dX2_addFree_54 : decode cX2_addFree 54 = .ok (.dup, 1) := by decide +kernel
theorem dX2_addFree_55 : decode cX2_addFree 55 = .ok (.getfield 30, 3) := by decide +kernel
theorem dX2_addFree_58 : decode cX2_addFree 58 = .ok (.iconst 1, 1) := by decide +kernel
theorem dX2_addFree_59 : decode cX2_addFree 59 = .ok (.iadd, 1) := by decide +kernel
theorem dX2_addFree_60 : decode cX2_addFree 60 = .ok (.putfield 30, 3) := by decide +kernel
theorem dX2_addFree_63 : decode cX2_addFree 63 = .ok (.iconst 1, 1) := by decide +kernel
theorem dX2_addFree_64 : decode cX2_addFree 64 = .ok (.ireturn, 1) := by decide +kernel
theorem dX2_addStrand_0 : decode cX2_addStrand 0 = .ok (.aload_n 0, 1) := by decide +kernel
theorem dX2_addStrand_1 : decode cX2_addStrand 1 = .ok (.iload_n 1, 1) := by decide +kernel
theorem dX2_addStrand_2 : decode cX2_addStrand 2 = .ok (.invokevirtual 61, 3) := by decide +kernel
theorem dX2_addStrand_5 : decode cX2_addStrand 5 = .ok (.ifCond .eq 20, 3) := by decide +kernel
theorem dX2_addStrand_8 : decode cX2_addStrand 8 = .ok (.aload_n 0, 1) := by decide +kernel
theorem dX2_addStrand_9 : decode cX2_addStrand 9 = .ok (.iload_n 2, 1) := by decide +kernel
theorem dX2_addStrand_10 : decode cX2_addStrand 10 = .ok (.invokevirtual 61, 3) := by decide +kernel
theorem dX2_addStrand_13 : decode cX2_addStrand 13 = .ok (.ifCond .eq 12, 3) := by decide +kernel
theorem dX2_addStrand_16 : decode cX2_addStrand 16 = .ok (.iload_n 1, 1) := by decide +kernel
theorem dX2_addStrand_17 : decode cX2_addStrand 17 = .ok (.iload_n 2, 1) := by decide +kernel
theorem dX2_addStrand_18 : decode cX2_addStrand 18 = .ok (.if_icmp .eq 7, 3) := by decide +kernel
theorem dX2_addStrand_21 : decode cX2_addStrand 21 = .ok (.iconst 1, 1) := by decide +kernel
theorem dX2_addStrand_22 : decode cX2_addStrand 22 = .ok (.goto 4, 3) := by decide +kernel
theorem dX2_addStrand_25 : decode cX2_addStrand 25 = .ok (.iconst 0, 1) := by decide +kernel
theorem dX2_addStrand_26 : decode cX2_addStrand 26 = .ok (.istore 5, 2) := by decide +kernel
theorem dX2_addStrand_28 : decode cX2_addStrand 28 = .ok (.aload_n 0, 1) := by decide +kernel
theorem dX2_addStrand_29 : decode cX2_addStrand 29 = .ok (.getfield 37, 3) := by decide +kernel
theorem dX2_addStrand_32 : decode cX2_addStrand 32 = .ok (.bipush 14, 2) := by decide +kernel
theorem dX2_addStrand_34 : decode cX2_addStrand 34 = .ok (.if_icmp .ge 17, 3) := by decide +kernel
theorem dX2_addStrand_37 : decode cX2_addStrand 37 = .ok (.iload 5, 2) := by decide +kernel
theorem dX2_addStrand_39 : decode cX2_addStrand 39 = .ok (.ifCond .eq 12, 3) := by decide +kernel
theorem dX2_addStrand_42 : decode cX2_addStrand 42 = .ok (.iload_n 3, 1) := by decide +kernel
theorem dX2_addStrand_43 : decode cX2_addStrand 43 = .ok (.iconst 1, 1) := by decide +kernel
theorem dX2_addStrand_44 : decode cX2_addStrand 44 = .ok (.iconst 5, 1) := by decide +kernel
theorem dX2_addStrand_45 : decode cX2_addStrand 45 = .ok (.invokestatic 65, 3) := by decide +kernel
theorem dX2_addStrand_48 : decode cX2_addStrand 48 = .ok (.ifCond .ne 5, 3) := by decide +kernel
theorem dX2_addStrand_51 : decode cX2_addStrand 51 = .ok (.iconst 0, 1) := by decide +kernel
theorem dX2_addStrand_52 : decode cX2_addStrand 52 = .ok (.ireturn, 1) := by decide +kernel
theorem dX2_addStrand_53 : decode cX2_addStrand 53 = .ok (.aload_n 0, 1) := by decide +kernel
theorem dX2_addStrand_54 : decode cX2_addStrand 54 = .ok (.iload_n 1, 1) := by decide +kernel
theorem dX2_addStrand_55 : decode cX2_addStrand 55 = .ok (.invokevirtual 69, 3) := by decide +kernel
theorem dX2_addStrand_58 : decode cX2_addStrand 58 = .ok (.aload_n 0, 1) := by decide +kernel
theorem dX2_addStrand_59 : decode cX2_addStrand 59 = .ok (.iload_n 2, 1) := by decide +kernel
theorem dX2_addStrand_60 : decode cX2_addStrand 60 = .ok (.invokevirtual 69, 3) := by decide +kernel
theorem dX2_addStrand_63 : decode cX2_addStrand 63 = .ok (.iand, 1) := by decide +kernel
theorem dX2_addStrand_64 : decode cX2_addStrand 64 = .ok (.ifCond .eq 7, 3) := by decide +kernel
theorem dX2_addStrand_67 : decode cX2_addStrand 67 = .ok (.iconst 1, 1) := by decide +kernel
theorem dX2_addStrand_68 : decode cX2_addStrand 68 = .ok (.goto 4, 3) := by decide +kernel
theorem dX2_addStrand_71 : decode cX2_addStrand 71 = .ok (.iconst 0, 1) := by decide +kernel
theorem dX2_addStrand_72 : decode cX2_addStrand 72 = .ok (.istore 6, 2) := by decide +kernel
theorem dX2_addStrand_74 : decode cX2_addStrand 74 = .ok (.iload 4, 2) := by decide +kernel
theorem dX2_addStrand_76 : decode cX2_addStrand 76 = .ok (.bipush 99, 2) := by decide +kernel
theorem dX2_addStrand_78 : decode cX2_addStrand 78 = .ok (.if_icmp .gt 24, 3) := by decide +kernel
theorem dX2_addStrand_81 : decode cX2_addStrand 81 = .ok (.iload 6, 2) := by decide +kernel
theorem dX2_addStrand_83 : decode cX2_addStrand 83 = .ok (.ifCond .ne 19, 3) := by decide +kernel
theorem dX2_addStrand_86 : decode cX2_addStrand 86 = .ok (.aload_n 0, 1) := by decide +kernel
theorem dX2_addStrand_87 : decode cX2_addStrand 87 = .ok (.iload_n 1, 1) := by decide +kernel
theorem dX2_addStrand_88 : decode cX2_addStrand 88 = .ok (.invokevirtual 72, 3) := by decide +kernel
theorem dX2_addStrand_91 : decode cX2_addStrand 91 = .ok (.ifCond .ne 11, 3) := by decide +kernel
theorem dX2_addStrand_94 : decode cX2_addStrand 94 = .ok (.aload_n 0, 1) := by decide +kernel
theorem dX2_addStrand_95 : decode cX2_addStrand 95 = .ok (.iload_n 2, 1) := by decide +kernel
theorem dX2_addStrand_96 : decode cX2_addStrand 96 = .ok (.invokevirtual 72, 3) := by decide +kernel
theorem dX2_addStrand_99 : decode cX2_addStrand 99 = .ok (.ifCond .eq 5, 3) := by decide +kernel
theorem dX2_addStrand_102 : decode cX2_addStrand 102 = .ok (.iconst 0, 1) := by decide +kernel
theorem dX2_addStrand_103 : decode cX2_addStrand 103 = .ok (.ireturn, 1) := by decide +kernel
theorem dX2_addStrand_104 : decode cX2_addStrand 104 = .ok (.aload_n 0, 1) := by decide +kernel
theorem dX2_addStrand_105 : decode cX2_addStrand 105 = .ok (.getfield 18, 3) := by decide +kernel
theorem dX2_addStrand_108 : decode cX2_addStrand 108 = .ok (.aload_n 0, 1) := by decide +kernel
theorem dX2_addStrand_109 : decode cX2_addStrand 109 = .ok (.getfield 37, 3) := by decide +kernel
theorem dX2_addStrand_112 : decode cX2_addStrand 112 = .ok (.iload_n 1, 1) := by decide +kernel
theorem dX2_addStrand_113 : decode cX2_addStrand 113 = .ok (.iastore, 1) := by decide +kernel
theorem dX2_addStrand_114 : decode cX2_addStrand 114 = .ok (.aload_n 0, 1) := by decide +kernel
theorem dX2_addStrand_115 : decode cX2_addStrand 115 = .ok (.getfield 21, 3) := by decide +kernel
theorem dX2_addStrand_118 : decode cX2_addStrand 118 = .ok (.aload_n 0, 1) := by decide +kernel
theorem dX2_addStrand_119 : decode cX2_addStrand 119 = .ok (.getfield 37, 3) := by decide +kernel
theorem dX2_addStrand_122 : decode cX2_addStrand 122 = .ok (.iload_n 2, 1) := by decide +kernel
theorem dX2_addStrand_123 : decode cX2_addStrand 123 = .ok (.iastore, 1) := by decide +kernel
theorem dX2_addStrand_124 : decode cX2_addStrand 124 = .ok (.aload_n 0, 1) := by decide +kernel
theorem dX2_addStrand_125 : decode cX2_addStrand 125 = .ok (.getfield 24, 3) := by decide +kernel
theorem dX2_addStrand_128 : decode cX2_addStrand 128 = .ok (.aload_n 0, 1) := by decide +kernel
theorem dX2_addStrand_129 : decode cX2_addStrand 129 = .ok (.getfield 37, 3) := by decide +kernel
theorem dX2_addStrand_132 : decode cX2_addStrand 132 = .ok (.iload_n 3, 1) := by decide +kernel
theorem dX2_addStrand_133 : decode cX2_addStrand 133 = .ok (.iastore, 1) := by decide +kernel
theorem dX2_addStrand_134 : decode cX2_addStrand 134 = .ok (.aload_n 0, 1) := by decide +kernel
theorem dX2_addStrand_135 : decode cX2_addStrand 135 = .ok (.getfield 27, 3) := by decide +kernel
theorem dX2_addStrand_138 : decode cX2_addStrand 138 = .ok (.aload_n 0, 1) := by decide +kernel
theorem dX2_addStrand_139 : decode cX2_addStrand 139 = .ok (.getfield 37, 3) := by decide +kernel
theorem dX2_addStrand_142 : decode cX2_addStrand 142 = .ok (.iload 4, 2) := by decide +kernel
theorem dX2_addStrand_144 : decode cX2_addStrand 144 = .ok (.iastore, 1) := by decide +kernel
theorem dX2_addStrand_145 : decode cX2_addStrand 145 = .ok (.aload_n 0, 1) := by decide +kernel
theorem dX2_addStrand_146 : decode cX2_addStrand 146 = .ok (.dup, 1) := by decide +kernel
theorem dX2_addStrand_147 : decode cX2_addStrand 147 = .ok (.getfield 40, 3) := by decide +kernel
theorem dX2_addStrand_150 : decode cX2_addStrand 150 = .ok (.iconst 1, 1) := by decide +kernel
theorem dX2_addStrand_151 : decode cX2_addStrand 151 = .ok (.aload_n 0, 1) := by decide +kernel
theorem dX2_addStrand_152 : decode cX2_addStrand 152 = .ok (.getfield 37, 3) := by decide +kernel
theorem dX2_addStrand_155 : decode cX2_addStrand 155 = .ok (.ishl, 1) := by decide +kernel
theorem dX2_addStrand_156 : decode cX2_addStrand 156 = .ok (.ior, 1) := by decide +kernel
theorem dX2_addStrand_157 : decode cX2_addStrand 157 = .ok (.putfield 40, 3) := by decide +kernel
theorem dX2_addStrand_160 : decode cX2_addStrand 160 = .ok (.aload_n 0, 1) := by decide +kernel
theorem dX2_addStrand_161 : decode cX2_addStrand 161 = .ok (.dup, 1) := by decide +kernel
theorem dX2_addStrand_162 : decode cX2_addStrand 162 = .ok (.getfield 37, 3) := by decide +kernel
theorem dX2_addStrand_165 : decode cX2_addStrand 165 = .ok (.iconst 1, 1) := by decide +kernel
theorem dX2_addStrand_166 : decode cX2_addStrand 166 = .ok (.iadd, 1) := by decide +kernel
theorem dX2_addStrand_167 : decode cX2_addStrand 167 = .ok (.putfield 37, 3) := by decide +kernel
theorem dX2_addStrand_170 : decode cX2_addStrand 170 = .ok (.iconst 1, 1) := by decide +kernel
theorem dX2_addStrand_171 : decode cX2_addStrand 171 = .ok (.ireturn, 1) := by decide +kernel
theorem dX2_tellRolls_0 : decode cX2_tellRolls 0 = .ok (.iload_n 1, 1) := by decide +kernel
theorem dX2_tellRolls_1 : decode cX2_tellRolls 1 = .ok (.iconst 1, 1) := by decide +kernel
theorem dX2_tellRolls_2 : decode cX2_tellRolls 2 = .ok (.bipush 99, 2) := by decide +kernel
theorem dX2_tellRolls_4 : decode cX2_tellRolls 4 = .ok (.invokestatic 65, 3) := by decide +kernel
theorem dX2_tellRolls_7 : decode cX2_tellRolls 7 = .ok (.ifCond .eq 9, 3) := by decide +kernel
theorem dX2_tellRolls_10 : decode cX2_tellRolls 10 = .ok (.iload_n 2, 1) := by decide +kernel
theorem dX2_tellRolls_11 : decode cX2_tellRolls 11 = .ok (.bipush 50, 2) := by decide +kernel
theorem dX2_tellRolls_13 : decode cX2_tellRolls 13 = .ok (.if_icmp .le 5, 3) := by decide +kernel
theorem dX2_tellRolls_16 : decode cX2_tellRolls 16 = .ok (.iconst 0, 1) := by decide +kernel
theorem dX2_tellRolls_17 : decode cX2_tellRolls 17 = .ok (.ireturn, 1) := by decide +kernel
theorem dX2_tellRolls_18 : decode cX2_tellRolls 18 = .ok (.aload_n 0, 1) := by decide +kernel
theorem dX2_tellRolls_19 : decode cX2_tellRolls 19 = .ok (.iload_n 1, 1) := by decide +kernel
theorem dX2_tellRolls_20 : decode cX2_tellRolls 20 = .ok (.putfield 43, 3) := by decide +kernel
theorem dX2_tellRolls_23 : decode cX2_tellRolls 23 = .ok (.aload_n 0, 1) := by decide +kernel
theorem dX2_tellRolls_24 : decode cX2_tellRolls 24 = .ok (.iload_n 2, 1) := by decide +kernel
theorem dX2_tellRolls_25 : decode cX2_tellRolls 25 = .ok (.putfield 46, 3) := by decide +kernel
theorem dX2_tellRolls_28 : decode cX2_tellRolls 28 = .ok (.iconst 1, 1) := by decide +kernel
theorem dX2_tellRolls_29 : decode cX2_tellRolls 29 = .ok (.ireturn, 1) := by decide +kernel
theorem dX2_takesNoMore_0 : decode cX2_takesNoMore 0 = .ok (.aload_n 0, 1) := by decide +kernel
theorem dX2_takesNoMore_1 : decode cX2_takesNoMore 1 = .ok (.iload_n 1, 1) := by decide +kernel
theorem dX2_takesNoMore_2 : decode cX2_takesNoMore 2 = .ok (.invokevirtual 75, 3) := by decide +kernel
theorem dX2_takesNoMore_5 : decode cX2_takesNoMore 5 = .ok (.ifCond .eq 19, 3) := by decide +kernel
theorem dX2_takesNoMore_8 : decode cX2_takesNoMore 8 = .ok (.aload_n 0, 1) := by decide +kernel
theorem dX2_takesNoMore_9 : decode cX2_takesNoMore 9 = .ok (.iload_n 1, 1) := by decide +kernel
theorem dX2_takesNoMore_10 : decode cX2_takesNoMore 10 = .ok (.invokevirtual 69, 3) := by decide +kernel
theorem dX2_takesNoMore_13 : decode cX2_takesNoMore 13 = .ok (.invokestatic 55, 3) := by decide +kernel
theorem dX2_takesNoMore_16 : decode cX2_takesNoMore 16 = .ok (.iconst 4, 1) := by decide +kernel
theorem dX2_takesNoMore_17 : decode cX2_takesNoMore 17 = .ok (.if_icmp .lt 7, 3) := by decide +kernel
theorem dX2_takesNoMore_20 : decode cX2_takesNoMore 20 = .ok (.iconst 1, 1) := by decide +kernel
theorem dX2_takesNoMore_21 : decode cX2_takesNoMore 21 = .ok (.goto 4, 3) := by decide +kernel
theorem dX2_takesNoMore_24 : decode cX2_takesNoMore 24 = .ok (.iconst 0, 1) := by decide +kernel
theorem dX2_takesNoMore_25 : decode cX2_takesNoMore 25 = .ok (.ireturn, 1) := by decide +kernel
theorem dX2_hasJoint_0 : decode cX2_hasJoint 0 = .ok (.iload_n 1, 1) := by decide +kernel
theorem dX2_hasJoint_1 : decode cX2_hasJoint 1 = .ok (.iconst 0, 1) := by decide +kernel
theorem dX2_hasJoint_2 : decode cX2_hasJoint 2 = .ok (.aload_n 0, 1) := by decide +kernel
theorem dX2_hasJoint_3 : decode cX2_hasJoint 3 = .ok (.getfield 30, 3) := by decide +kernel
theorem dX2_hasJoint_6 : decode cX2_hasJoint 6 = .ok (.iconst 1, 1) := by decide +kernel
theorem dX2_hasJoint_7 : decode cX2_hasJoint 7 = .ok (.isub, 1) := by decide +kernel
theorem dX2_hasJoint_8 : decode cX2_hasJoint 8 = .ok (.invokestatic 65, 3) := by decide +kernel
theorem dX2_hasJoint_11 : decode cX2_hasJoint 11 = .ok (.ireturn, 1) := by decide +kernel
theorem dX2_hasStrand_0 : decode cX2_hasStrand 0 = .ok (.iload_n 1, 1) := by decide +kernel
theorem dX2_hasStrand_1 : decode cX2_hasStrand 1 = .ok (.iconst 0, 1) := by decide +kernel
theorem dX2_hasStrand_2 : decode cX2_hasStrand 2 = .ok (.aload_n 0, 1) := by decide +kernel
theorem dX2_hasStrand_3 : decode cX2_hasStrand 3 = .ok (.getfield 37, 3) := by decide +kernel
theorem dX2_hasStrand_6 : decode cX2_hasStrand 6 = .ok (.iconst 1, 1) := by decide +kernel
theorem dX2_hasStrand_7 : decode cX2_hasStrand 7 = .ok (.isub, 1) := by decide +kernel
theorem dX2_hasStrand_8 : decode cX2_hasStrand 8 = .ok (.invokestatic 65, 3) := by decide +kernel
theorem dX2_hasStrand_11 : decode cX2_hasStrand 11 = .ok (.ireturn, 1) := by decide +kernel
theorem dX2_isFree_0 : decode cX2_isFree 0 = .ok (.aload_n 0, 1) := by decide +kernel
theorem dX2_isFree_1 : decode cX2_isFree 1 = .ok (.getfield 34, 3) := by decide +kernel
theorem dX2_isFree_4 : decode cX2_isFree 4 = .ok (.iload_n 1, 1) := by decide +kernel
theorem dX2_isFree_5 : decode cX2_isFree 5 = .ok (.ishr, 1) := by decide +kernel
theorem dX2_isFree_6 : decode cX2_isFree 6 = .ok (.iconst 1, 1) := by decide +kernel
theorem dX2_isFree_7 : decode cX2_isFree 7 = .ok (.iand, 1) := by decide +kernel
theorem dX2_isFree_8 : decode cX2_isFree 8 = .ok (.iconst 1, 1) := by decide +kernel
theorem dX2_isFree_9 : decode cX2_isFree 9 = .ok (.if_icmp .ne 7, 3) := by decide +kernel
theorem dX2_isFree_12 : decode cX2_isFree 12 = .ok (.iconst 1, 1) := by decide +kernel
theorem dX2_isFree_13 : decode cX2_isFree 13 = .ok (.goto 4, 3) := by decide +kernel
theorem dX2_isFree_16 : decode cX2_isFree 16 = .ok (.iconst 0, 1) := by decide +kernel
theorem dX2_isFree_17 : decode cX2_isFree 17 = .ok (.ireturn, 1) := by decide +kernel
theorem dX2_hangs_0 : decode cX2_hangs 0 = .ok (.aload_n 0, 1) := by decide +kernel
theorem dX2_hangs_1 : decode cX2_hangs 1 = .ok (.getfield 40, 3) := by decide +kernel
theorem dX2_hangs_4 : decode cX2_hangs 4 = .ok (.iload_n 1, 1) := by decide +kernel
theorem dX2_hangs_5 : decode cX2_hangs 5 = .ok (.ishr, 1) := by decide +kernel
theorem dX2_hangs_6 : decode cX2_hangs 6 = .ok (.iconst 1, 1) := by decide +kernel
theorem dX2_hangs_7 : decode cX2_hangs 7 = .ok (.iand, 1) := by decide +kernel
theorem dX2_hangs_8 : decode cX2_hangs 8 = .ok (.iconst 1, 1) := by decide +kernel
theorem dX2_hangs_9 : decode cX2_hangs 9 = .ok (.if_icmp .ne 7, 3) := by decide +kernel
theorem dX2_hangs_12 : decode cX2_hangs 12 = .ok (.iconst 1, 1) := by decide +kernel
theorem dX2_hangs_13 : decode cX2_hangs 13 = .ok (.goto 4, 3) := by decide +kernel
theorem dX2_hangs_16 : decode cX2_hangs 16 = .ok (.iconst 0, 1) := by decide +kernel
theorem dX2_hangs_17 : decode cX2_hangs 17 = .ok (.ireturn, 1) := by decide +kernel
theorem dX2_strandsAt_0 : decode cX2_strandsAt 0 = .ok (.iconst 0, 1) := by decide +kernel
theorem dX2_strandsAt_1 : decode cX2_strandsAt 1 = .ok (.istore_n 2, 1) := by decide +kernel
theorem dX2_strandsAt_2 : decode cX2_strandsAt 2 = .ok (.iconst 0, 1) := by decide +kernel
theorem dX2_strandsAt_3 : decode cX2_strandsAt 3 = .ok (.istore_n 3, 1) := by decide +kernel
theorem dX2_strandsAt_4 : decode cX2_strandsAt 4 = .ok (.iload_n 3, 1) := by decide +kernel
theorem dX2_strandsAt_5 : decode cX2_strandsAt 5 = .ok (.aload_n 0, 1) := by decide +kernel
theorem dX2_strandsAt_6 : decode cX2_strandsAt 6 = .ok (.getfield 37, 3) := by decide +kernel
theorem dX2_strandsAt_9 : decode cX2_strandsAt 9 = .ok (.if_icmp .ge 35, 3) := by decide +kernel
theorem dX2_strandsAt_12 : decode cX2_strandsAt 12 = .ok (.aload_n 0, 1) := by decide +kernel
theorem dX2_strandsAt_13 : decode cX2_strandsAt 13 = .ok (.getfield 18, 3) := by decide +kernel
theorem dX2_strandsAt_16 : decode cX2_strandsAt 16 = .ok (.iload_n 3, 1) := by decide +kernel
theorem dX2_strandsAt_17 : decode cX2_strandsAt 17 = .ok (.iaload, 1) := by decide +kernel
theorem dX2_strandsAt_18 : decode cX2_strandsAt 18 = .ok (.iload_n 1, 1) := by decide +kernel
theorem dX2_strandsAt_19 : decode cX2_strandsAt 19 = .ok (.if_icmp .eq 13, 3) := by decide +kernel
theorem dX2_strandsAt_22 : decode cX2_strandsAt 22 = .ok (.aload_n 0, 1) := by decide +kernel
theorem dX2_strandsAt_23 : decode cX2_strandsAt 23 = .ok (.getfield 21, 3) := by decide +kernel
theorem dX2_strandsAt_26 : decode cX2_strandsAt 26 = .ok (.iload_n 3, 1) := by decide +kernel
theorem dX2_strandsAt_27 : decode cX2_strandsAt 27 = .ok (.iaload, 1) := by decide +kernel
theorem dX2_strandsAt_28 : decode cX2_strandsAt 28 = .ok (.iload_n 1, 1) := by decide +kernel
theorem dX2_strandsAt_29 : decode cX2_strandsAt 29 = .ok (.if_icmp .ne 9, 3) := by decide +kernel
theorem dX2_strandsAt_32 : decode cX2_strandsAt 32 = .ok (.iload_n 2, 1) := by decide +kernel
theorem dX2_strandsAt_33 : decode cX2_strandsAt 33 = .ok (.iconst 1, 1) := by decide +kernel
theorem dX2_strandsAt_34 : decode cX2_strandsAt 34 = .ok (.iload_n 3, 1) := by decide +kernel
theorem dX2_strandsAt_35 : decode cX2_strandsAt 35 = .ok (.ishl, 1) := by decide +kernel
theorem dX2_strandsAt_36 : decode cX2_strandsAt 36 = .ok (.ior, 1) := by decide +kernel
theorem dX2_strandsAt_37 : decode cX2_strandsAt 37 = .ok (.istore_n 2, 1) := by decide +kernel
theorem dX2_strandsAt_38 : decode cX2_strandsAt 38 = .ok (.iinc 3 1, 3) := by decide +kernel
theorem dX2_strandsAt_41 : decode cX2_strandsAt 41 = .ok (.goto (-37), 3) := by decide +kernel
theorem dX2_strandsAt_44 : decode cX2_strandsAt 44 = .ok (.iload_n 2, 1) := by decide +kernel
theorem dX2_strandsAt_45 : decode cX2_strandsAt 45 = .ok (.ireturn, 1) := by decide +kernel
theorem dX2_otherEnd_0 : decode cX2_otherEnd 0 = .ok (.aload_n 0, 1) := by decide +kernel
theorem dX2_otherEnd_1 : decode cX2_otherEnd 1 = .ok (.getfield 18, 3) := by decide +kernel
theorem dX2_otherEnd_4 : decode cX2_otherEnd 4 = .ok (.iload_n 1, 1) := by decide +kernel
theorem dX2_otherEnd_5 : decode cX2_otherEnd 5 = .ok (.iaload, 1) := by decide +kernel
theorem dX2_otherEnd_6 : decode cX2_otherEnd 6 = .ok (.iload_n 2, 1) := by decide +kernel
theorem dX2_otherEnd_7 : decode cX2_otherEnd 7 = .ok (.if_icmp .ne 12, 3) := by decide +kernel
theorem dX2_otherEnd_10 : decode cX2_otherEnd 10 = .ok (.aload_n 0, 1) := by decide +kernel
theorem dX2_otherEnd_11 : decode cX2_otherEnd 11 = .ok (.getfield 21, 3) := by decide +kernel
theorem dX2_otherEnd_14 : decode cX2_otherEnd 14 = .ok (.iload_n 1, 1) := by decide +kernel
theorem dX2_otherEnd_15 : decode cX2_otherEnd 15 = .ok (.iaload, 1) := by decide +kernel
theorem dX2_otherEnd_16 : decode cX2_otherEnd 16 = .ok (.goto 9, 3) := by decide +kernel
theorem dX2_otherEnd_19 : decode cX2_otherEnd 19 = .ok (.aload_n 0, 1) := by decide +kernel
theorem dX2_otherEnd_20 : decode cX2_otherEnd 20 = .ok (.getfield 18, 3) := by decide +kernel
theorem dX2_otherEnd_23 : decode cX2_otherEnd 23 = .ok (.iload_n 1, 1) := by decide +kernel
theorem dX2_otherEnd_24 : decode cX2_otherEnd 24 = .ok (.iaload, 1) := by decide +kernel
theorem dX2_otherEnd_25 : decode cX2_otherEnd 25 = .ok (.ireturn, 1) := by decide +kernel
theorem dX2_hungJoints_0 : decode cX2_hungJoints 0 = .ok (.iconst 1, 1) := by decide +kernel
theorem dX2_hungJoints_1 : decode cX2_hungJoints 1 = .ok (.aload_n 0, 1) := by decide +kernel
theorem dX2_hungJoints_2 : decode cX2_hungJoints 2 = .ok (.getfield 30, 3) := by decide +kernel
theorem dX2_hungJoints_5 : decode cX2_hungJoints 5 = .ok (.ishl, 1) := by decide +kernel
theorem dX2_hungJoints_6 : decode cX2_hungJoints 6 = .ok (.iconst 1, 1) := by decide +kernel
theorem dX2_hungJoints_7 : decode cX2_hungJoints 7 = .ok (.isub, 1) := by decide +kernel
theorem dX2_hungJoints_8 : decode cX2_hungJoints 8 = .ok (.aload_n 0, 1) := by decide +kernel
theorem dX2_hungJoints_9 : decode cX2_hungJoints 9 = .ok (.getfield 34, 3) := by decide +kernel
theorem dX2_hungJoints_12 : decode cX2_hungJoints 12 = .ok (.iconst (-1), 1) := by decide +kernel
theorem dX2_hungJoints_13 : decode cX2_hungJoints 13 = .ok (.ixor, 1) := by decide +kernel
theorem dX2_hungJoints_14 : decode cX2_hungJoints 14 = .ok (.iand, 1) := by decide +kernel
theorem dX2_hungJoints_15 : decode cX2_hungJoints 15 = .ok (.istore_n 2, 1) := by decide +kernel
theorem dX2_hungJoints_16 : decode cX2_hungJoints 16 = .ok (.iconst 0, 1) := by decide +kernel
theorem dX2_hungJoints_17 : decode cX2_hungJoints 17 = .ok (.istore_n 3, 1) := by decide +kernel
theorem dX2_hungJoints_18 : decode cX2_hungJoints 18 = .ok (.iload_n 3, 1) := by decide +kernel
theorem dX2_hungJoints_19 : decode cX2_hungJoints 19 = .ok (.aload_n 0, 1) := by decide +kernel
theorem dX2_hungJoints_20 : decode cX2_hungJoints 20 = .ok (.getfield 30, 3) := by decide +kernel
theorem dX2_hungJoints_23 : decode cX2_hungJoints 23 = .ok (.if_icmp .ge 82, 3) := by decide +kernel
theorem dX2_hungJoints_26 : decode cX2_hungJoints 26 = .ok (.iload_n 2, 1) := by decide +kernel
theorem dX2_hungJoints_27 : decode cX2_hungJoints 27 = .ok (.istore 4, 2) := by decide +kernel
theorem dX2_hungJoints_29 : decode cX2_hungJoints 29 = .ok (.iconst 0, 1) := by decide +kernel
theorem dX2_hungJoints_30 : decode cX2_hungJoints 30 = .ok (.istore 5, 2) := by decide +kernel
theorem dX2_hungJoints_32 : decode cX2_hungJoints 32 = .ok (.iload 5, 2) := by decide +kernel
theorem dX2_hungJoints_34 : decode cX2_hungJoints 34 = .ok (.aload_n 0, 1) := by decide +kernel
theorem dX2_hungJoints_35 : decode cX2_hungJoints 35 = .ok (.getfield 37, 3) := by decide +kernel
theorem dX2_hungJoints_38 : decode cX2_hungJoints 38 = .ok (.if_icmp .ge 52, 3) := by decide +kernel
theorem dX2_hungJoints_41 : decode cX2_hungJoints 41 = .ok (.iconst 1, 1) := by decide +kernel
theorem dX2_hungJoints_42 : decode cX2_hungJoints 42 = .ok (.aload_n 0, 1) := by decide +kernel
theorem dX2_hungJoints_43 : decode cX2_hungJoints 43 = .ok (.getfield 18, 3) := by decide +kernel
theorem dX2_hungJoints_46 : decode cX2_hungJoints 46 = .ok (.iload 5, 2) := by decide +kernel
theorem dX2_hungJoints_48 : decode cX2_hungJoints 48 = .ok (.iaload, 1) := by decide +kernel
theorem dX2_hungJoints_49 : decode cX2_hungJoints 49 = .ok (.ishl, 1) := by decide +kernel
theorem dX2_hungJoints_50 : decode cX2_hungJoints 50 = .ok (.iconst 1, 1) := by decide +kernel
theorem dX2_hungJoints_51 : decode cX2_hungJoints 51 = .ok (.aload_n 0, 1) := by decide +kernel
theorem dX2_hungJoints_52 : decode cX2_hungJoints 52 = .ok (.getfield 21, 3) := by decide +kernel
theorem dX2_hungJoints_55 : decode cX2_hungJoints 55 = .ok (.iload 5, 2) := by decide +kernel
theorem dX2_hungJoints_57 : decode cX2_hungJoints 57 = .ok (.iaload, 1) := by decide +kernel
theorem dX2_hungJoints_58 : decode cX2_hungJoints 58 = .ok (.ishl, 1) := by decide +kernel
theorem dX2_hungJoints_59 : decode cX2_hungJoints 59 = .ok (.ior, 1) := by decide +kernel
theorem dX2_hungJoints_60 : decode cX2_hungJoints 60 = .ok (.istore 6, 2) := by decide +kernel
theorem dX2_hungJoints_62 : decode cX2_hungJoints 62 = .ok (.iload_n 1, 1) := by decide +kernel
theorem dX2_hungJoints_63 : decode cX2_hungJoints 63 = .ok (.iload 5, 2) := by decide +kernel
theorem dX2_hungJoints_65 : decode cX2_hungJoints 65 = .ok (.ishr, 1) := by decide +kernel
theorem dX2_hungJoints_66 : decode cX2_hungJoints 66 = .ok (.iconst 1, 1) := by decide +kernel
theorem dX2_hungJoints_67 : decode cX2_hungJoints 67 = .ok (.iand, 1) := by decide +kernel
theorem dX2_hungJoints_68 : decode cX2_hungJoints 68 = .ok (.iconst 1, 1) := by decide +kernel
theorem dX2_hungJoints_69 : decode cX2_hungJoints 69 = .ok (.if_icmp .ne 15, 3) := by decide +kernel
theorem dX2_hungJoints_72 : decode cX2_hungJoints 72 = .ok (.iload_n 2, 1) := by decide +kernel
theorem dX2_hungJoints_73 : decode cX2_hungJoints 73 = .ok (.iload 6, 2) := by decide +kernel
theorem dX2_hungJoints_75 : decode cX2_hungJoints 75 = .ok (.iand, 1) := by decide +kernel
theorem dX2_hungJoints_76 : decode cX2_hungJoints 76 = .ok (.ifCond .eq 8, 3) := by decide +kernel
theorem dX2_hungJoints_79 : decode cX2_hungJoints 79 = .ok (.iload_n 2, 1) := by decide +kernel
theorem dX2_hungJoints_80 : decode cX2_hungJoints 80 = .ok (.iload 6, 2) := by decide +kernel
theorem dX2_hungJoints_82 : decode cX2_hungJoints 82 = .ok (.ior, 1) := by decide +kernel
theorem dX2_hungJoints_83 : decode cX2_hungJoints 83 = .ok (.istore_n 2, 1) := by decide +kernel
theorem dX2_hungJoints_84 : decode cX2_hungJoints 84 = .ok (.iinc 5 1, 3) := by decide +kernel
theorem dX2_hungJoints_87 : decode cX2_hungJoints 87 = .ok (.goto (-55), 3) := by decide +kernel
theorem dX2_hungJoints_90 : decode cX2_hungJoints 90 = .ok (.iload_n 2, 1) := by decide +kernel
theorem dX2_hungJoints_91 : decode cX2_hungJoints 91 = .ok (.iload 4, 2) := by decide +kernel
theorem dX2_hungJoints_93 : decode cX2_hungJoints 93 = .ok (.if_icmp .ne 6, 3) := by decide +kernel
theorem dX2_hungJoints_96 : decode cX2_hungJoints 96 = .ok (.goto 9, 3) := by decide +kernel
theorem dX2_hungJoints_99 : decode cX2_hungJoints 99 = .ok (.iinc 3 1, 3) := by decide +kernel
theorem dX2_hungJoints_102 : decode cX2_hungJoints 102 = .ok (.goto (-84), 3) := by decide +kernel
theorem dX2_hungJoints_105 : decode cX2_hungJoints 105 = .ok (.iload_n 2, 1) := by decide +kernel
theorem dX2_hungJoints_106 : decode cX2_hungJoints 106 = .ok (.ireturn, 1) := by decide +kernel
theorem dX2_allHung_0 : decode cX2_allHung 0 = .ok (.aload_n 0, 1) := by decide +kernel
theorem dX2_allHung_1 : decode cX2_allHung 1 = .ok (.getfield 34, 3) := by decide +kernel
theorem dX2_allHung_4 : decode cX2_allHung 4 = .ok (.aload_n 0, 1) := by decide +kernel
theorem dX2_allHung_5 : decode cX2_allHung 5 = .ok (.aload_n 0, 1) := by decide +kernel
theorem dX2_allHung_6 : decode cX2_allHung 6 = .ok (.getfield 40, 3) := by decide +kernel
theorem dX2_allHung_9 : decode cX2_allHung 9 = .ok (.invokevirtual 78, 3) := by decide +kernel
theorem dX2_allHung_12 : decode cX2_allHung 12 = .ok (.iconst (-1), 1) := by decide +kernel
theorem dX2_allHung_13 : decode cX2_allHung 13 = .ok (.ixor, 1) := by decide +kernel
theorem dX2_allHung_14 : decode cX2_allHung 14 = .ok (.iand, 1) := by decide +kernel
theorem dX2_allHung_15 : decode cX2_allHung 15 = .ok (.ifCond .ne 7, 3) := by decide +kernel
theorem dX2_allHung_18 : decode cX2_allHung 18 = .ok (.iconst 1, 1) := by decide +kernel
theorem dX2_allHung_19 : decode cX2_allHung 19 = .ok (.goto 4, 3) := by decide +kernel
theorem dX2_allHung_22 : decode cX2_allHung 22 = .ok (.iconst 0, 1) := by decide +kernel
theorem dX2_allHung_23 : decode cX2_allHung 23 = .ok (.ireturn, 1) := by decide +kernel
theorem dX2_isNeeded_0 : decode cX2_isNeeded 0 = .ok (.aload_n 0, 1) := by decide +kernel
theorem dX2_isNeeded_1 : decode cX2_isNeeded 1 = .ok (.getfield 34, 3) := by decide +kernel
theorem dX2_isNeeded_4 : decode cX2_isNeeded 4 = .ok (.aload_n 0, 1) := by decide +kernel
theorem dX2_isNeeded_5 : decode cX2_isNeeded 5 = .ok (.aload_n 0, 1) := by decide +kernel
theorem dX2_isNeeded_6 : decode cX2_isNeeded 6 = .ok (.getfield 40, 3) := by decide +kernel
theorem dX2_isNeeded_9 : decode cX2_isNeeded 9 = .ok (.iconst 1, 1) := by decide +kernel
theorem dX2_isNeeded_10 : decode cX2_isNeeded 10 = .ok (.iload_n 1, 1) := by decide +kernel
theorem dX2_isNeeded_11 : decode cX2_isNeeded 11 = .ok (.ishl, 1) := by decide +kernel
theorem dX2_isNeeded_12 : decode cX2_isNeeded 12 = .ok (.iconst (-1), 1) := by decide +kernel
theorem dX2_isNeeded_13 : decode cX2_isNeeded 13 = .ok (.ixor, 1) := by decide +kernel
theorem dX2_isNeeded_14 : decode cX2_isNeeded 14 = .ok (.iand, 1) := by decide +kernel
theorem dX2_isNeeded_15 : decode cX2_isNeeded 15 = .ok (.invokevirtual 78, 3) := by decide +kernel
theorem dX2_isNeeded_18 : decode cX2_isNeeded 18 = .ok (.iconst (-1), 1) := by decide +kernel
theorem dX2_isNeeded_19 : decode cX2_isNeeded 19 = .ok (.ixor, 1) := by decide +kernel
theorem dX2_isNeeded_20 : decode cX2_isNeeded 20 = .ok (.iand, 1) := by decide +kernel
theorem dX2_isNeeded_21 : decode cX2_isNeeded 21 = .ok (.ifCond .eq 7, 3) := by decide +kernel
theorem dX2_isNeeded_24 : decode cX2_isNeeded 24 = .ok (.iconst 1, 1) := by decide +kernel
theorem dX2_isNeeded_25 : decode cX2_isNeeded 25 = .ok (.goto 4, 3) := by decide +kernel
theorem dX2_isNeeded_28 : decode cX2_isNeeded 28 = .ok (.iconst 0, 1) := by decide +kernel
theorem dX2_isNeeded_29 : decode cX2_isNeeded 29 = .ok (.ireturn, 1) := by decide +kernel
theorem dX2_tellDensitiesAnew_0 : decode cX2_tellDensitiesAnew 0 = .ok (.iconst 0, 1) := by decide +kernel
theorem dX2_tellDensitiesAnew_1 : decode cX2_tellDensitiesAnew 1 = .ok (.istore_n 2, 1) := by decide +kernel
theorem dX2_tellDensitiesAnew_2 : decode cX2_tellDensitiesAnew 2 = .ok (.iconst 0, 1) := by decide +kernel
theorem dX2_tellDensitiesAnew_3 : decode cX2_tellDensitiesAnew 3 = .ok (.istore_n 3, 1) := by decide +kernel
theorem dX2_tellDensitiesAnew_4 : decode cX2_tellDensitiesAnew 4 = .ok (.iload_n 3, 1) := by decide +kernel
theorem dX2_tellDensitiesAnew_5 : decode cX2_tellDensitiesAnew 5 = .ok (.aload_n 0, 1) := by decide +kernel
theorem dX2_tellDensitiesAnew_6 : decode cX2_tellDensitiesAnew 6 = .ok (.getfield 37, 3) := by decide +kernel
theorem dX2_tellDensitiesAnew_9 : decode cX2_tellDensitiesAnew 9 = .ok (.if_icmp .ge 94, 3) := by decide +kernel
theorem dX2_tellDensitiesAnew_12 : decode cX2_tellDensitiesAnew 12 = .ok (.aload_n 0, 1) := by decide +kernel
theorem dX2_tellDensitiesAnew_13 : decode cX2_tellDensitiesAnew 13 = .ok (.iload_n 3, 1) := by decide +kernel
theorem dX2_tellDensitiesAnew_14 : decode cX2_tellDensitiesAnew 14 = .ok (.invokevirtual 81, 3) := by decide +kernel
theorem dX2_tellDensitiesAnew_17 : decode cX2_tellDensitiesAnew 17 = .ok (.ifCond .eq 80, 3) := by decide +kernel
theorem dX2_tellDensitiesAnew_20 : decode cX2_tellDensitiesAnew 20 = .ok (.aload_n 0, 1) := by decide +kernel
theorem dX2_tellDensitiesAnew_21 : decode cX2_tellDensitiesAnew 21 = .ok (.getfield 27, 3) := by decide +kernel
theorem dX2_tellDensitiesAnew_24 : decode cX2_tellDensitiesAnew 24 = .ok (.iload_n 3, 1) := by decide +kernel
theorem dX2_tellDensitiesAnew_25 : decode cX2_tellDensitiesAnew 25 = .ok (.iaload, 1) := by decide +kernel
theorem dX2_tellDensitiesAnew_26 : decode cX2_tellDensitiesAnew 26 = .ok (.ifCond .ne 6, 3) := by decide +kernel
theorem dX2_tellDensitiesAnew_29 : decode cX2_tellDensitiesAnew 29 = .ok (.goto 68, 3) := by decide +kernel
theorem dX2_tellDensitiesAnew_32 : decode cX2_tellDensitiesAnew 32 = .ok (.aload_n 1, 1) := by decide +kernel
theorem dX2_tellDensitiesAnew_33 : decode cX2_tellDensitiesAnew 33 = .ok (.iload_n 3, 1) := by decide +kernel
theorem dX2_tellDensitiesAnew_34 : decode cX2_tellDensitiesAnew 34 = .ok (.iaload, 1) := by decide +kernel
theorem dX2_tellDensitiesAnew_35 : decode cX2_tellDensitiesAnew 35 = .ok (.bipush 100, 2) := by decide +kernel
theorem dX2_tellDensitiesAnew_37 : decode cX2_tellDensitiesAnew 37 = .ok (.aload_n 0, 1) := by decide +kernel
theorem dX2_tellDensitiesAnew_38 : decode cX2_tellDensitiesAnew 38 = .ok (.getfield 27, 3) := by decide +kernel
theorem dX2_tellDensitiesAnew_41 : decode cX2_tellDensitiesAnew 41 = .ok (.iload_n 3, 1) := by decide +kernel
theorem dX2_tellDensitiesAnew_42 : decode cX2_tellDensitiesAnew 42 = .ok (.iaload, 1) := by decide +kernel
theorem dX2_tellDensitiesAnew_43 : decode cX2_tellDensitiesAnew 43 = .ok (.imul, 1) := by decide +kernel
theorem dX2_tellDensitiesAnew_44 : decode cX2_tellDensitiesAnew 44 = .ok (.invokestatic 84, 3) := by decide +kernel
theorem dX2_tellDensitiesAnew_47 : decode cX2_tellDensitiesAnew 47 = .ok (.istore 4, 2) := by decide +kernel
theorem dX2_tellDensitiesAnew_49 : decode cX2_tellDensitiesAnew 49 = .ok (.iconst 5, 1) := by decide +kernel
theorem dX2_tellDensitiesAnew_50 : decode cX2_tellDensitiesAnew 50 = .ok (.iconst 1, 1) := by decide +kernel
theorem dX2_tellDensitiesAnew_51 : decode cX2_tellDensitiesAnew 51 = .ok (.aload_n 0, 1) := by decide +kernel
theorem dX2_tellDensitiesAnew_52 : decode cX2_tellDensitiesAnew 52 = .ok (.getfield 24, 3) := by decide +kernel
theorem dX2_tellDensitiesAnew_55 : decode cX2_tellDensitiesAnew 55 = .ok (.iload_n 3, 1) := by decide +kernel
theorem dX2_tellDensitiesAnew_56 : decode cX2_tellDensitiesAnew 56 = .ok (.iaload, 1) := by decide +kernel
theorem dX2_tellDensitiesAnew_57 : decode cX2_tellDensitiesAnew 57 = .ok (.iload 4, 2) := by decide +kernel
theorem dX2_tellDensitiesAnew_59 : decode cX2_tellDensitiesAnew 59 = .ok (.iadd, 1) := by decide +kernel
theorem dX2_tellDensitiesAnew_60 : decode cX2_tellDensitiesAnew 60 = .ok (.invokestatic 88, 3) := by decide +kernel
theorem dX2_tellDensitiesAnew_63 : decode cX2_tellDensitiesAnew 63 = .ok (.invokestatic 93, 3) := by decide +kernel
theorem dX2_tellDensitiesAnew_66 : decode cX2_tellDensitiesAnew 66 = .ok (.istore 5, 2) := by decide +kernel
theorem dX2_tellDensitiesAnew_68 : decode cX2_tellDensitiesAnew 68 = .ok (.iload_n 2, 1) := by decide +kernel
theorem dX2_tellDensitiesAnew_69 : decode cX2_tellDensitiesAnew 69 = .ok (.ifCond .ne 14, 3) := by decide +kernel
theorem dX2_tellDensitiesAnew_72 : decode cX2_tellDensitiesAnew 72 = .ok (.iload 5, 2) := by decide +kernel
theorem dX2_tellDensitiesAnew_74 : decode cX2_tellDensitiesAnew 74 = .ok (.aload_n 0, 1) := by decide +kernel
theorem dX2_tellDensitiesAnew_75 : decode cX2_tellDensitiesAnew 75 = .ok (.getfield 24, 3) := by decide +kernel
theorem dX2_tellDensitiesAnew_78 : decode cX2_tellDensitiesAnew 78 = .ok (.iload_n 3, 1) := by decide +kernel
theorem dX2_tellDensitiesAnew_79 : decode cX2_tellDensitiesAnew 79 = .ok (.iaload, 1) := by decide +kernel
theorem dX2_tellDensitiesAnew_80 : decode cX2_tellDensitiesAnew 80 = .ok (.if_icmp .eq 7, 3) := by decide +kernel
theorem dX2_tellDensitiesAnew_83 : decode cX2_tellDensitiesAnew 83 = .ok (.iconst 1, 1) := by decide +kernel
theorem dX2_tellDensitiesAnew_84 : decode cX2_tellDensitiesAnew 84 = .ok (.goto 4, 3) := by decide +kernel
theorem dX2_tellDensitiesAnew_87 : decode cX2_tellDensitiesAnew 87 = .ok (.iconst 0, 1) := by decide +kernel
theorem dX2_tellDensitiesAnew_88 : decode cX2_tellDensitiesAnew 88 = .ok (.istore_n 2, 1) := by decide +kernel
theorem dX2_tellDensitiesAnew_89 : decode cX2_tellDensitiesAnew 89 = .ok (.aload_n 0, 1) := by decide +kernel
theorem dX2_tellDensitiesAnew_90 : decode cX2_tellDensitiesAnew 90 = .ok (.getfield 24, 3) := by decide +kernel
theorem dX2_tellDensitiesAnew_93 : decode cX2_tellDensitiesAnew 93 = .ok (.iload_n 3, 1) := by decide +kernel
theorem dX2_tellDensitiesAnew_94 : decode cX2_tellDensitiesAnew 94 = .ok (.iload 5, 2) := by decide +kernel
theorem dX2_tellDensitiesAnew_96 : decode cX2_tellDensitiesAnew 96 = .ok (.iastore, 1) := by decide +kernel
theorem dX2_tellDensitiesAnew_97 : decode cX2_tellDensitiesAnew 97 = .ok (.iinc 3 1, 3) := by decide +kernel
theorem dX2_tellDensitiesAnew_100 : decode cX2_tellDensitiesAnew 100 = .ok (.goto (-96), 3) := by decide +kernel
theorem dX2_tellDensitiesAnew_103 : decode cX2_tellDensitiesAnew 103 = .ok (.iload_n 2, 1) := by decide +kernel
theorem dX2_tellDensitiesAnew_104 : decode cX2_tellDensitiesAnew 104 = .ok (.ireturn, 1) := by decide +kernel
theorem dX3_init_0 : decode cX3_init 0 = .ok (.aload_n 0, 1) := by decide +kernel
theorem dX3_init_1 : decode cX3_init 1 = .ok (.invokespecial 3, 3) := by decide +kernel
theorem dX3_init_4 : decode cX3_init 4 = .ok (.aload_n 0, 1) := by decide +kernel
theorem dX3_init_5 : decode cX3_init 5 = .ok (.bipush 6, 2) := by decide +kernel
theorem dX3_init_7 : decode cX3_init 7 = .ok (.anewarray 9, 3) := by decide +kernel
theorem dX3_init_10 : decode cX3_init 10 = .ok (.putfield 11, 3) := by decide +kernel
theorem dX3_init_13 : decode cX3_init 13 = .ok (.iconst 0, 1) := by decide +kernel
theorem dX3_init_14 : decode cX3_init 14 = .ok (.istore_n 1, 1) := by decide +kernel
theorem dX3_init_15 : decode cX3_init 15 = .ok (.iload_n 1, 1) := by decide +kernel
theorem dX3_init_16 : decode cX3_init 16 = .ok (.bipush 6, 2) := by decide +kernel
theorem dX3_init_18 : decode cX3_init 18 = .ok (.if_icmp .ge 22, 3) := by decide +kernel
theorem dX3_init_21 : decode cX3_init 21 = .ok (.aload_n 0, 1) := by decide +kernel
theorem dX3_init_22 : decode cX3_init 22 = .ok (.getfield 11, 3) := by decide +kernel
theorem dX3_init_25 : decode cX3_init 25 = .ok (.iload_n 1, 1) := by decide +kernel
theorem dX3_init_26 : decode cX3_init 26 = .ok (.new 9, 3) := by decide +kernel
theorem dX3_init_29 : decode cX3_init 29 = .ok (.dup, 1) := by decide +kernel
theorem dX3_init_30 : decode cX3_init 30 = .ok (.invokespecial 17, 3) := by decide +kernel
theorem dX3_init_33 : decode cX3_init 33 = .ok (.aastore, 1) := by decide +kernel
theorem dX3_init_34 : decode cX3_init 34 = .ok (.iinc 1 1, 3) := by decide +kernel
theorem dX3_init_37 : decode cX3_init 37 = .ok (.goto (-22), 3) := by decide +kernel
theorem dX3_init_40 : decode cX3_init 40 = .ok (.return_, 1) := by decide +kernel
theorem dX3_keep_0 : decode cX3_keep 0 = .ok (.aload_n 0, 1) := by decide +kernel
theorem dX3_keep_1 : decode cX3_keep 1 = .ok (.getfield 11, 3) := by decide +kernel
theorem dX3_keep_4 : decode cX3_keep 4 = .ok (.aload_n 0, 1) := by decide +kernel
theorem dX3_keep_5 : decode cX3_keep 5 = .ok (.getfield 18, 3) := by decide +kernel
theorem dX3_keep_8 : decode cX3_keep 8 = .ok (.aaload, 1) := by decide +kernel
theorem dX3_keep_9 : decode cX3_keep 9 = .ok (.aload_n 1, 1) := by decide +kernel
theorem dX3_keep_10 : decode cX3_keep 10 = .ok (.invokevirtual 22, 3) := by decide +kernel
theorem dX3_keep_13 : decode cX3_keep 13 = .ok (.aload_n 0, 1) := by decide +kernel
theorem dX3_keep_14 : decode cX3_keep 14 = .ok (.aload_n 0, 1) := by decide +kernel
theorem dX3_keep_15 : decode cX3_keep 15 = .ok (.getfield 18, 3) := by decide +kernel
theorem dX3_keep_18 : decode cX3_keep 18 = .ok (.iconst 1, 1) := by decide +kernel
theorem dX3_keep_19 : decode cX3_keep 19 = .ok (.iadd, 1) := by decide +kernel
theorem dX3_keep_20 : decode cX3_keep 20 = .ok (.bipush 6, 2) := by decide +kernel
theorem dX3_keep_22 : decode cX3_keep 22 = .ok (.irem, 1) := by decide +kernel
theorem dX3_keep_23 : decode cX3_keep 23 = .ok (.putfield 18, 3) := by decide +kernel
theorem dX3_keep_26 : decode cX3_keep 26 = .ok (.aload_n 0, 1) := by decide +kernel
theorem dX3_keep_27 : decode cX3_keep 27 = .ok (.aload_n 0, 1) := by decide +kernel
theorem dX3_keep_28 : decode cX3_keep 28 = .ok (.getfield 26, 3) := by decide +kernel
theorem dX3_keep_31 : decode cX3_keep 31 = .ok (.iconst 1, 1) := by decide +kernel
theorem dX3_keep_32 : decode cX3_keep 32 = .ok (.iadd, 1) := by decide +kernel
theorem dX3_keep_33 : decode cX3_keep 33 = .ok (.bipush 6, 2) := by decide +kernel
theorem dX3_keep_35 : decode cX3_keep 35 = .ok (.invokestatic 29, 3) := by decide +kernel
theorem dX3_keep_38 : decode cX3_keep 38 = .ok (.putfield 26, 3) := by decide +kernel
theorem dX3_keep_41 : decode cX3_keep 41 = .ok (.return_, 1) := by decide +kernel
theorem dX3_giveBack_0 : decode cX3_giveBack 0 = .ok (.aload_n 0, 1) := by decide +kernel
theorem dX3_giveBack_1 : decode cX3_giveBack 1 = .ok (.getfield 26, 3) := by decide +kernel
theorem dX3_giveBack_4 : decode cX3_giveBack 4 = .ok (.ifCond .ne 5, 3) := by decide +kernel
theorem dX3_giveBack_7 : decode cX3_giveBack 7 = .ok (.iconst 0, 1) := by decide +kernel
theorem dX3_giveBack_8 : decode cX3_giveBack 8 = .ok (.ireturn, 1) := by decide +kernel
theorem dX3_giveBack_9 : decode cX3_giveBack 9 = .ok (.aload_n 0, 1) := by decide +kernel
theorem dX3_giveBack_10 : decode cX3_giveBack 10 = .ok (.aload_n 0, 1) := by decide +kernel
theorem dX3_giveBack_11 : decode cX3_giveBack 11 = .ok (.getfield 18, 3) := by decide +kernel
theorem dX3_giveBack_14 : decode cX3_giveBack 14 = .ok (.bipush 6, 2) := by decide +kernel
theorem dX3_giveBack_16 : decode cX3_giveBack 16 = .ok (.iadd, 1) := by decide +kernel
theorem dX3_giveBack_17 : decode cX3_giveBack 17 = .ok (.iconst 1, 1) := by decide +kernel
theorem dX3_giveBack_18 : decode cX3_giveBack 18 = .ok (.isub, 1) := by decide +kernel
theorem dX3_giveBack_19 : decode cX3_giveBack 19 = .ok (.bipush 6, 2) := by decide +kernel
theorem dX3_giveBack_21 : decode cX3_giveBack 21 = .ok (.irem, 1) := by decide +kernel
theorem dX3_giveBack_22 : decode cX3_giveBack 22 = .ok (.putfield 18, 3) := by decide +kernel
theorem dX3_giveBack_25 : decode cX3_giveBack 25 = .ok (.aload_n 0, 1) := by decide +kernel
theorem dX3_giveBack_26 : decode cX3_giveBack 26 = .ok (.dup, 1) := by decide +kernel
theorem dX3_giveBack_27 : decode cX3_giveBack 27 = .ok (.getfield 26, 3) := by decide +kernel
theorem dX3_giveBack_30 : decode cX3_giveBack 30 = .ok (.iconst 1, 1) := by decide +kernel
theorem dX3_giveBack_31 : decode cX3_giveBack 31 = .ok (.isub, 1) := by decide +kernel
theorem dX3_giveBack_32 : decode cX3_giveBack 32 = .ok (.putfield 26, 3) := by decide +kernel
theorem dX3_giveBack_35 : decode cX3_giveBack 35 = .ok (.aload_n 1, 1) := by decide +kernel
theorem dX3_giveBack_36 : decode cX3_giveBack 36 = .ok (.aload_n 0, 1) := by decide +kernel
theorem dX3_giveBack_37 : decode cX3_giveBack 37 = .ok (.getfield 11, 3) := by decide +kernel
theorem dX3_giveBack_40 : decode cX3_giveBack 40 = .ok (.aload_n 0, 1) := by decide +kernel
theorem dX3_giveBack_41 : decode cX3_giveBack 41 = .ok (.getfield 18, 3) := by decide +kernel
theorem dX3_giveBack_44 : decode cX3_giveBack 44 = .ok (.aaload, 1) := by decide +kernel
theorem dX3_giveBack_45 : decode cX3_giveBack 45 = .ok (.invokevirtual 22, 3) := by decide +kernel
theorem dX3_giveBack_48 : decode cX3_giveBack 48 = .ok (.iconst 1, 1) := by decide +kernel
theorem dX3_giveBack_49 : decode cX3_giveBack 49 = .ok (.ireturn, 1) := by decide +kernel
theorem dX5_init_0 : decode cX5_init 0 = .ok (.aload_n 0, 1) := by decide +kernel
theorem dX5_init_1 : decode cX5_init 1 = .ok (.invokespecial 3, 3) := by decide +kernel
theorem dX5_init_4 : decode cX5_init 4 = .ok (.aload_n 0, 1) := by decide +kernel
theorem dX5_init_5 : decode cX5_init 5 = .ok (.iconst 4, 1) := by decide +kernel
theorem dX5_init_6 : decode cX5_init 6 = .ok (.newarray .int, 2) := by decide +kernel
theorem dX5_init_8 : decode cX5_init 8 = .ok (.putfield 9, 3) := by decide +kernel
theorem dX5_init_11 : decode cX5_init 11 = .ok (.return_, 1) := by decide +kernel
theorem dX5_readInto_0 : decode cX5_readInto 0 = .ok (.aload_n 1, 1) := by decide +kernel
theorem dX5_readInto_1 : decode cX5_readInto 1 = .ok (.invokevirtual 15, 3) := by decide +kernel
theorem dX5_readInto_4 : decode cX5_readInto 4 = .ok (.iconst 0, 1) := by decide +kernel
theorem dX5_readInto_5 : decode cX5_readInto 5 = .ok (.istore_n 3, 1) := by decide +kernel
theorem dX5_readInto_6 : decode cX5_readInto 6 = .ok (.iload_n 3, 1) := by decide +kernel
theorem dX5_readInto_7 : decode cX5_readInto 7 = .ok (.aload_n 2, 1) := by decide +kernel
theorem dX5_readInto_8 : decode cX5_readInto 8 = .ok (.getfield 20, 3) := by decide +kernel
theorem dX5_readInto_11 : decode cX5_readInto 11 = .ok (.if_icmp .ge 26, 3) := by decide +kernel
theorem dX5_readInto_14 : decode cX5_readInto 14 = .ok (.aload_n 0, 1) := by decide +kernel
theorem dX5_readInto_15 : decode cX5_readInto 15 = .ok (.aload_n 1, 1) := by decide +kernel
theorem dX5_readInto_16 : decode cX5_readInto 16 = .ok (.aload_n 2, 1) := by decide +kernel
theorem dX5_readInto_17 : decode cX5_readInto 17 = .ok (.iload_n 3, 1) := by decide +kernel
theorem dX5_readInto_18 : decode cX5_readInto 18 = .ok (.invokevirtual 26, 3) := by decide +kernel
theorem dX5_readInto_21 : decode cX5_readInto 21 = .ok (.istore 4, 2) := by decide +kernel
theorem dX5_readInto_23 : decode cX5_readInto 23 = .ok (.iload 4, 2) := by decide +kernel
theorem dX5_readInto_25 : decode cX5_readInto 25 = .ok (.iload_n 3, 1) := by decide +kernel
theorem dX5_readInto_26 : decode cX5_readInto 26 = .ok (.if_icmp .gt 5, 3) := by decide +kernel
theorem dX5_readInto_29 : decode cX5_readInto 29 = .ok (.iload_n 3, 1) := by decide +kernel
theorem dX5_readInto_30 : decode cX5_readInto 30 = .ok (.ireturn, 1) := by decide +kernel
theorem dX5_readInto_31 : decode cX5_readInto 31 = .ok (.iload 4, 2) := by decide +kernel
theorem dX5_readInto_33 : decode cX5_readInto 33 = .ok (.istore_n 3, 1) := by decide +kernel
theorem dX5_readInto_34 : decode cX5_readInto 34 = .ok (.goto (-28), 3) := by decide +kernel
theorem dX5_readInto_37 : decode cX5_readInto 37 = .ok (.bipush (-4), 2) := by decide +kernel
theorem dX5_readInto_39 : decode cX5_readInto 39 = .ok (.ireturn, 1) := by decide +kernel
theorem dX5_takeItem_0 : decode cX5_takeItem 0 = .ok (.aload_n 2, 1) := by decide +kernel
theorem dX5_takeItem_1 : decode cX5_takeItem 1 = .ok (.iload_n 3, 1) := by decide +kernel
theorem dX5_takeItem_2 : decode cX5_takeItem 2 = .ok (.invokevirtual 30, 3) := by decide +kernel
theorem dX5_takeItem_5 : decode cX5_takeItem 5 = .ok (.istore 4, 2) := by decide +kernel
theorem dX5_takeItem_7 : decode cX5_takeItem 7 = .ok (.aload_n 0, 1) := by decide +kernel
theorem dX5_takeItem_8 : decode cX5_takeItem 8 = .ok (.aload_n 2, 1) := by decide +kernel
theorem dX5_takeItem_9 : decode cX5_takeItem 9 = .ok (.iload_n 3, 1) := by decide +kernel
theorem dX5_takeItem_10 : decode cX5_takeItem 10 = .ok (.iconst 1, 1) := by decide +kernel
theorem dX5_takeItem_11 : decode cX5_takeItem 11 = .ok (.iadd, 1) := by decide +kernel
theorem dX5_takeItem_12 : decode cX5_takeItem 12 = .ok (.aload_n 0, 1) := by decide +kernel
theorem dX5_takeItem_13 : decode cX5_takeItem 13 = .ok (.iload 4, 2) := by decide +kernel
theorem dX5_takeItem_15 : decode cX5_takeItem 15 = .ok (.invokevirtual 34, 3) := by decide +kernel
theorem dX5_takeItem_18 : decode cX5_takeItem 18 = .ok (.invokevirtual 38, 3) := by decide +kernel
theorem dX5_takeItem_21 : decode cX5_takeItem 21 = .ok (.istore 5, 2) := by decide +kernel
theorem dX5_takeItem_23 : decode cX5_takeItem 23 = .ok (.iload 5, 2) := by decide +kernel
theorem dX5_takeItem_25 : decode cX5_takeItem 25 = .ok (.bipush (-4), 2) := by decide +kernel
theorem dX5_takeItem_27 : decode cX5_takeItem 27 = .ok (.if_icmp .eq 18, 3) := by decide +kernel
theorem dX5_takeItem_30 : decode cX5_takeItem 30 = .ok (.aload_n 0, 1) := by decide +kernel
theorem dX5_takeItem_31 : decode cX5_takeItem 31 = .ok (.aload_n 1, 1) := by decide +kernel
theorem dX5_takeItem_32 : decode cX5_takeItem 32 = .ok (.iload 4, 2) := by decide +kernel
theorem dX5_takeItem_34 : decode cX5_takeItem 34 = .ok (.invokevirtual 42, 3) := by decide +kernel
theorem dX5_takeItem_37 : decode cX5_takeItem 37 = .ok (.ifCond .eq 8, 3) := by decide +kernel
theorem dX5_takeItem_40 : decode cX5_takeItem 40 = .ok (.iload 5, 2) := by decide +kernel
theorem dX5_takeItem_42 : decode cX5_takeItem 42 = .ok (.goto 5, 3) := by decide +kernel
theorem dX5_takeItem_45 : decode cX5_takeItem 45 = .ok (.bipush (-4), 2) := by decide +kernel
theorem dX5_takeItem_47 : decode cX5_takeItem 47 = .ok (.ireturn, 1) := by decide +kernel
theorem dX5_numbersOf_0 : decode cX5_numbersOf 0 = .ok (.iload_n 1, 1) := by decide +kernel
theorem dX5_numbersOf_1 : decode cX5_numbersOf 1 = .ok (.lookupswitch 51 #[(102, 43), (114, 49), (115, 47), (117, 45)], 43) := by decide +kernel
theorem dX5_numbersOf_44 : decode cX5_numbersOf 44 = .ok (.iconst 3, 1) := by decide +kernel
theorem dX5_numbersOf_45 : decode cX5_numbersOf 45 = .ok (.ireturn, 1) := by decide +kernel
theorem dX5_numbersOf_46 : decode cX5_numbersOf 46 = .ok (.iconst 1, 1) := by decide +kernel
theorem dX5_numbersOf_47 : decode cX5_numbersOf 47 = .ok (.ireturn, 1) := by decide +kernel
theorem dX5_numbersOf_48 : decode cX5_numbersOf 48 = .ok (.iconst 4, 1) := by decide +kernel
theorem dX5_numbersOf_49 : decode cX5_numbersOf 49 = .ok (.ireturn, 1) := by decide +kernel
theorem dX5_numbersOf_50 : decode cX5_numbersOf 50 = .ok (.iconst 2, 1) := by decide +kernel
theorem dX5_numbersOf_51 : decode cX5_numbersOf 51 = .ok (.ireturn, 1) := by decide +kernel
theorem dX5_numbersOf_52 : decode cX5_numbersOf 52 = .ok (.iconst 0, 1) := by decide +kernel
theorem dX5_numbersOf_53 : decode cX5_numbersOf 53 = .ok (.ireturn, 1) := by decide +kernel
theorem dX5_takeNumbers_0 : decode cX5_takeNumbers 0 = .ok (.iload_n 2, 1) := by decide +kernel
theorem dX5_takeNumbers_1 : decode cX5_takeNumbers 1 = .ok (.istore 4, 2) := by decide +kernel
theorem dX5_takeNumbers_3 : decode cX5_takeNumbers 3 = .ok (.iconst 0, 1) := by decide +kernel
theorem dX5_takeNumbers_4 : decode cX5_takeNumbers 4 = .ok (.istore 5, 2) := by decide +kernel
theorem dX5_takeNumbers_6 : decode cX5_takeNumbers 6 = .ok (.iload 5, 2) := by decide +kernel
theorem dX5_takeNumbers_8 : decode cX5_takeNumbers 8 = .ok (.iload_n 3, 1) := by decide +kernel
theorem dX5_takeNumbers_9 : decode cX5_takeNumbers 9 = .ok (.if_icmp .ge 103, 3) := by decide +kernel
theorem dX5_takeNumbers_12 : decode cX5_takeNumbers 12 = .ok (.aload_n 1, 1) := by decide +kernel
theorem dX5_takeNumbers_13 : decode cX5_takeNumbers 13 = .ok (.iload 4, 2) := by decide +kernel
theorem dX5_takeNumbers_15 : decode cX5_takeNumbers 15 = .ok (.invokevirtual 46, 3) := by decide +kernel
theorem dX5_takeNumbers_18 : decode cX5_takeNumbers 18 = .ok (.ifCond .ne 6, 3) := by decide +kernel
theorem dX5_takeNumbers_21 : decode cX5_takeNumbers 21 = .ok (.bipush (-4), 2) := by decide +kernel
theorem dX5_takeNumbers_23 : decode cX5_takeNumbers 23 = .ok (.ireturn, 1) := by decide +kernel
theorem dX5_takeNumbers_24 : decode cX5_takeNumbers 24 = .ok (.aload_n 1, 1) := by decide +kernel
theorem dX5_takeNumbers_25 : decode cX5_takeNumbers 25 = .ok (.iload 4, 2) := by decide +kernel
theorem dX5_takeNumbers_27 : decode cX5_takeNumbers 27 = .ok (.invokevirtual 30, 3) := by decide +kernel
theorem dX5_takeNumbers_30 : decode cX5_takeNumbers 30 = .ok (.bipush 48, 2) := by decide +kernel
theorem dX5_takeNumbers_32 : decode cX5_takeNumbers 32 = .ok (.isub, 1) := by decide +kernel
theorem dX5_takeNumbers_33 : decode cX5_takeNumbers 33 = .ok (.istore 6, 2) := by decide +kernel
theorem dX5_takeNumbers_35 : decode cX5_takeNumbers 35 = .ok (.iinc 4 1, 3) := by decide +kernel
theorem dX5_takeNumbers_38 : decode cX5_takeNumbers 38 = .ok (.aload_n 1, 1) := by decide +kernel
theorem dX5_takeNumbers_39 : decode cX5_takeNumbers 39 = .ok (.iload 4, 2) := by decide +kernel
theorem dX5_takeNumbers_41 : decode cX5_takeNumbers 41 = .ok (.invokevirtual 46, 3) := by decide +kernel
theorem dX5_takeNumbers_44 : decode cX5_takeNumbers 44 = .ok (.ifCond .eq 23, 3) := by decide +kernel
theorem dX5_takeNumbers_47 : decode cX5_takeNumbers 47 = .ok (.iload 6, 2) := by decide +kernel
theorem dX5_takeNumbers_49 : decode cX5_takeNumbers 49 = .ok (.bipush 10, 2) := by decide +kernel
theorem dX5_takeNumbers_51 : decode cX5_takeNumbers 51 = .ok (.imul, 1) := by decide +kernel
theorem dX5_takeNumbers_52 : decode cX5_takeNumbers 52 = .ok (.aload_n 1, 1) := by decide +kernel
theorem dX5_takeNumbers_53 : decode cX5_takeNumbers 53 = .ok (.iload 4, 2) := by decide +kernel
theorem dX5_takeNumbers_55 : decode cX5_takeNumbers 55 = .ok (.invokevirtual 30, 3) := by decide +kernel
theorem dX5_takeNumbers_58 : decode cX5_takeNumbers 58 = .ok (.iadd, 1) := by decide +kernel
theorem dX5_takeNumbers_59 : decode cX5_takeNumbers 59 = .ok (.bipush 48, 2) := by decide +kernel
theorem dX5_takeNumbers_61 : decode cX5_takeNumbers 61 = .ok (.isub, 1) := by decide +kernel
theorem dX5_takeNumbers_62 : decode cX5_takeNumbers 62 = .ok (.istore 6, 2) := by decide +kernel
theorem dX5_takeNumbers_64 : decode cX5_takeNumbers 64 = .ok (.iinc 4 1, 3) := by decide +kernel
theorem dX5_takeNumbers_67 : decode cX5_takeNumbers 67 = .ok (.aload_n 0, 1) := by decide +kernel
theorem dX5_takeNumbers_68 : decode cX5_takeNumbers 68 = .ok (.getfield 9, 3) := by decide +kernel
theorem dX5_takeNumbers_71 : decode cX5_takeNumbers 71 = .ok (.iload 5, 2) := by decide +kernel
theorem dX5_takeNumbers_73 : decode cX5_takeNumbers 73 = .ok (.iload 6, 2) := by decide +kernel
theorem dX5_takeNumbers_75 : decode cX5_takeNumbers 75 = .ok (.iastore, 1) := by decide +kernel
theorem dX5_takeNumbers_76 : decode cX5_takeNumbers 76 = .ok (.aload_n 1, 1) := by decide +kernel
theorem dX5_takeNumbers_77 : decode cX5_takeNumbers 77 = .ok (.iload 4, 2) := by decide +kernel
theorem dX5_takeNumbers_79 : decode cX5_takeNumbers 79 = .ok (.invokevirtual 30, 3) := by decide +kernel
theorem dX5_takeNumbers_82 : decode cX5_takeNumbers 82 = .ok (.iload 5, 2) := by decide +kernel
theorem dX5_takeNumbers_84 : decode cX5_takeNumbers 84 = .ok (.iload_n 3, 1) := by decide +kernel
theorem dX5_takeNumbers_85 : decode cX5_takeNumbers 85 = .ok (.iconst 1, 1) := by decide +kernel
theorem dX5_takeNumbers_86 : decode cX5_takeNumbers 86 = .ok (.isub, 1) := by decide +kernel
theorem dX5_takeNumbers_87 : decode cX5_takeNumbers 87 = .ok (.if_icmp .ne 8, 3) := by decide +kernel
theorem dX5_takeNumbers_90 : decode cX5_takeNumbers 90 = .ok (.bipush 59, 2) := by decide +kernel
theorem dX5_takeNumbers_92 : decode cX5_takeNumbers 92 = .ok (.goto 5, 3) := by decide +kernel
theorem dX5_takeNumbers_95 : decode cX5_takeNumbers 95 = .ok (.bipush 44, 2) := by decide +kernel
theorem dX5_takeNumbers_97 : decode cX5_takeNumbers 97 = .ok (.if_icmp .eq 6, 3) := by decide +kernel
theorem dX5_takeNumbers_100 : decode cX5_takeNumbers 100 = .ok (.bipush (-4), 2) := by decide +kernel
theorem dX5_takeNumbers_102 : decode cX5_takeNumbers 102 = .ok (.ireturn, 1) := by decide +kernel
theorem dX5_takeNumbers_103 : decode cX5_takeNumbers 103 = .ok (.iinc 4 1, 3) := by decide +kernel
theorem dX5_takeNumbers_106 : decode cX5_takeNumbers 106 = .ok (.iinc 5 1, 3) := by decide +kernel
theorem dX5_takeNumbers_109 : decode cX5_takeNumbers 109 = .ok (.goto (-103), 3) := by decide +kernel
theorem dX5_takeNumbers_112 : decode cX5_takeNumbers 112 = .ok (.iload_n 3, 1) := by decide +kernel
theorem dX5_takeNumbers_113 : decode cX5_takeNumbers 113 = .ok (.ifCond .le 8, 3) := by decide +kernel
theorem dX5_takeNumbers_116 : decode cX5_takeNumbers 116 = .ok (.iload 4, 2) := by decide +kernel
theorem dX5_takeNumbers_118 : decode cX5_takeNumbers 118 = .ok (.goto 5, 3) := by decide +kernel
theorem dX5_takeNumbers_121 : decode cX5_takeNumbers 121 = .ok (.bipush (-4), 2) := by decide +kernel
theorem dX5_takeNumbers_123 : decode cX5_takeNumbers 123 = .ok (.ireturn, 1) := by decide +kernel
theorem dX5_addItem_0 : decode cX5_addItem 0 = .ok (.iload_n 2, 1) := by decide +kernel
theorem dX5_addItem_1 : decode cX5_addItem 1 = .ok (.lookupswitch 126 #[(102, 43), (114, 109), (115, 80), (117, 66)], 43) := by decide +kernel
theorem dX5_addItem_44 : decode cX5_addItem 44 = .ok (.aload_n 1, 1) := by decide +kernel
theorem dX5_addItem_45 : decode cX5_addItem 45 = .ok (.aload_n 0, 1) := by decide +kernel
theorem dX5_addItem_46 : decode cX5_addItem 46 = .ok (.getfield 9, 3) := by decide +kernel
theorem dX5_addItem_49 : decode cX5_addItem 49 = .ok (.iconst 0, 1) := by decide +kernel
theorem dX5_addItem_50 : decode cX5_addItem 50 = .ok (.iaload, 1) := by decide +kernel
theorem dX5_addItem_51 : decode cX5_addItem 51 = .ok (.aload_n 0, 1) := by decide +kernel
theorem dX5_addItem_52 : decode cX5_addItem 52 = .ok (.getfield 9, 3) := by decide +kernel
theorem dX5_addItem_55 : decode cX5_addItem 55 = .ok (.iconst 1, 1) := by decide +kernel
theorem dX5_addItem_56 : decode cX5_addItem 56 = .ok (.iaload, 1) := by decide +kernel
theorem dX5_addItem_57 : decode cX5_addItem 57 = .ok (.aload_n 0, 1) := by decide +kernel
theorem dX5_addItem_58 : decode cX5_addItem 58 = .ok (.getfield 9, 3) := by decide +kernel
theorem dX5_addItem_61 : decode cX5_addItem 61 = .ok (.iconst 2, 1) := by decide +kernel
theorem dX5_addItem_62 : decode cX5_addItem 62 = .ok (.iaload, 1) := by decide +kernel
theorem dX5_addItem_63 : decode cX5_addItem 63 = .ok (.invokevirtual 50, 3) := by decide +kernel
theorem dX5_addItem_66 : decode cX5_addItem 66 = .ok (.ireturn, 1) := by decide +kernel
theorem dX5_addItem_67 : decode cX5_addItem 67 = .ok (.aload_n 1, 1) := by decide +kernel
theorem dX5_addItem_68 : decode cX5_addItem 68 = .ok (.aload_n 0, 1) := by decide +kernel
theorem dX5_addItem_69 : decode cX5_addItem 69 = .ok (.getfield 9, 3) := by decide +kernel
theorem dX5_addItem_72 : decode cX5_addItem 72 = .ok (.iconst 0, 1) := by decide +kernel
theorem dX5_addItem_73 : decode cX5_addItem 73 = .ok (.iaload, 1) := by decide +kernel
theorem dX5_addItem_74 : decode cX5_addItem 74 = .ok (.bipush 9, 2) := by decide +kernel
theorem dX5_addItem_76 : decode cX5_addItem 76 = .ok (.isub, 1) := by decide +kernel
theorem dX5_addItem_77 : decode cX5_addItem 77 = .ok (.invokevirtual 54, 3) := by decide +kernel
theorem dX5_addItem_80 : decode cX5_addItem 80 = .ok (.ireturn, 1) := by decide +kernel
theorem dX5_addItem_81 : decode cX5_addItem 81 = .ok (.aload_n 1, 1) := by decide +kernel
theorem dX5_addItem_82 : decode cX5_addItem 82 = .ok (.aload_n 0, 1) := by decide +kernel
theorem dX5_addItem_83 : decode cX5_addItem 83 = .ok (.getfield 9, 3) := by decide +kernel
theorem dX5_addItem_86 : decode cX5_addItem 86 = .ok (.iconst 0, 1) := by decide +kernel
theorem dX5_addItem_87 : decode cX5_addItem 87 = .ok (.iaload, 1) := by decide +kernel
theorem dX5_addItem_88 : decode cX5_addItem 88 = .ok (.aload_n 0, 1) := by decide +kernel
theorem dX5_addItem_89 : decode cX5_addItem 89 = .ok (.getfield 9, 3) := by decide +kernel
theorem dX5_addItem_92 : decode cX5_addItem 92 = .ok (.iconst 1, 1) := by decide +kernel
theorem dX5_addItem_93 : decode cX5_addItem 93 = .ok (.iaload, 1) := by decide +kernel
theorem dX5_addItem_94 : decode cX5_addItem 94 = .ok (.aload_n 0, 1) := by decide +kernel
theorem dX5_addItem_95 : decode cX5_addItem 95 = .ok (.getfield 9, 3) := by decide +kernel
theorem dX5_addItem_98 : decode cX5_addItem 98 = .ok (.iconst 2, 1) := by decide +kernel
theorem dX5_addItem_99 : decode cX5_addItem 99 = .ok (.iaload, 1) := by decide +kernel
theorem dX5_addItem_100 : decode cX5_addItem 100 = .ok (.aload_n 0, 1) := by decide +kernel
theorem dX5_addItem_101 : decode cX5_addItem 101 = .ok (.getfield 9, 3) := by decide +kernel
theorem dX5_addItem_104 : decode cX5_addItem 104 = .ok (.iconst 3, 1) := by decide +kernel
theorem dX5_addItem_105 : decode cX5_addItem 105 = .ok (.iaload, 1) := by decide +kernel
theorem dX5_addItem_106 : decode cX5_addItem 106 = .ok (.invokevirtual 57, 3) := by decide +kernel
theorem dX5_addItem_109 : decode cX5_addItem 109 = .ok (.ireturn, 1) := by decide +kernel
theorem dX5_addItem_110 : decode cX5_addItem 110 = .ok (.aload_n 1, 1) := by decide +kernel
theorem dX5_addItem_111 : decode cX5_addItem 111 = .ok (.aload_n 0, 1) := by decide +kernel
theorem dX5_addItem_112 : decode cX5_addItem 112 = .ok (.getfield 9, 3) := by decide +kernel
theorem dX5_addItem_115 : decode cX5_addItem 115 = .ok (.iconst 0, 1) := by decide +kernel
theorem dX5_addItem_116 : decode cX5_addItem 116 = .ok (.iaload, 1) := by decide +kernel
theorem dX5_addItem_117 : decode cX5_addItem 117 = .ok (.aload_n 0, 1) := by decide +kernel
theorem dX5_addItem_118 : decode cX5_addItem 118 = .ok (.getfield 9, 3) := by decide +kernel
theorem dX5_addItem_121 : decode cX5_addItem 121 = .ok (.iconst 1, 1) := by decide +kernel
theorem dX5_addItem_122 : decode cX5_addItem 122 = .ok (.iaload, 1) := by decide +kernel
theorem dX5_addItem_123 : decode cX5_addItem 123 = .ok (.invokevirtual 61, 3) := by decide +kernel
theorem dX5_addItem_126 : decode cX5_addItem 126 = .ok (.ireturn, 1) := by decide +kernel
theorem dX5_addItem_127 : decode cX5_addItem 127 = .ok (.iconst 0, 1) := by decide +kernel
theorem dX5_addItem_128 : decode cX5_addItem 128 = .ok (.ireturn, 1) := by decide +kernel
theorem dX6_init_0 : decode cX6_init 0 = .ok (.aload_n 0, 1) := by decide +kernel
theorem dX6_init_1 : decode cX6_init 1 = .ok (.invokespecial 3, 3) := by decide +kernel
theorem dX6_init_4 : decode cX6_init 4 = .ok (.aload_n 0, 1) := by decide +kernel
theorem dX6_init_5 : decode cX6_init 5 = .ok (.new 9, 3) := by decide +kernel
theorem dX6_init_8 : decode cX6_init 8 = .ok (.dup, 1) := by decide +kernel
theorem dX6_init_9 : decode cX6_init 9 = .ok (.invokespecial 11, 3) := by decide +kernel
theorem dX6_init_12 : decode cX6_init 12 = .ok (.putfield 12, 3) := by decide +kernel
theorem dX6_init_15 : decode cX6_init 15 = .ok (.aload_n 0, 1) := by decide +kernel
theorem dX6_init_16 : decode cX6_init 16 = .ok (.new 18, 3) := by decide +kernel
theorem dX6_init_19 : decode cX6_init 19 = .ok (.dup, 1) := by decide +kernel
theorem dX6_init_20 : decode cX6_init 20 = .ok (.invokespecial 20, 3) := by decide +kernel
theorem dX6_init_23 : decode cX6_init 23 = .ok (.putfield 21, 3) := by decide +kernel
theorem dX6_init_26 : decode cX6_init 26 = .ok (.return_, 1) := by decide +kernel
theorem dX6_seekRest_0 : decode cX6_seekRest 0 = .ok (.aload_n 0, 1) := by decide +kernel
theorem dX6_seekRest_1 : decode cX6_seekRest 1 = .ok (.getfield 12, 3) := by decide +kernel
theorem dX6_seekRest_4 : decode cX6_seekRest 4 = .ok (.aload_n 1, 1) := by decide +kernel
theorem dX6_seekRest_5 : decode cX6_seekRest 5 = .ok (.invokevirtual 25, 3) := by decide +kernel
theorem dX6_seekRest_8 : decode cX6_seekRest 8 = .ok (.iconst 0, 1) := by decide +kernel
theorem dX6_seekRest_9 : decode cX6_seekRest 9 = .ok (.istore_n 2, 1) := by decide +kernel
theorem dX6_seekRest_10 : decode cX6_seekRest 10 = .ok (.iload_n 2, 1) := by decide +kernel
theorem dX6_seekRest_11 : decode cX6_seekRest 11 = .ok (.bipush 60, 2) := by decide +kernel
theorem dX6_seekRest_13 : decode cX6_seekRest 13 = .ok (.if_icmp .gt 64, 3) := by decide +kernel
theorem dX6_seekRest_16 : decode cX6_seekRest 16 = .ok (.aload_n 0, 1) := by decide +kernel
theorem dX6_seekRest_17 : decode cX6_seekRest 17 = .ok (.getfield 21, 3) := by decide +kernel
theorem dX6_seekRest_20 : decode cX6_seekRest 20 = .ok (.aload_n 0, 1) := by decide +kernel
theorem dX6_seekRest_21 : decode cX6_seekRest 21 = .ok (.getfield 12, 3) := by decide +kernel
theorem dX6_seekRest_24 : decode cX6_seekRest 24 = .ok (.invokevirtual 29, 3) := by decide +kernel
theorem dX6_seekRest_27 : decode cX6_seekRest 27 = .ok (.ifCond .ne 5, 3) := by decide +kernel
theorem dX6_seekRest_30 : decode cX6_seekRest 30 = .ok (.iconst 0, 1) := by decide +kernel
theorem dX6_seekRest_31 : decode cX6_seekRest 31 = .ok (.ireturn, 1) := by decide +kernel
theorem dX6_seekRest_32 : decode cX6_seekRest 32 = .ok (.aload_n 0, 1) := by decide +kernel
theorem dX6_seekRest_33 : decode cX6_seekRest 33 = .ok (.aload_n 0, 1) := by decide +kernel
theorem dX6_seekRest_34 : decode cX6_seekRest 34 = .ok (.getfield 21, 3) := by decide +kernel
theorem dX6_seekRest_37 : decode cX6_seekRest 37 = .ok (.aload_n 0, 1) := by decide +kernel
theorem dX6_seekRest_38 : decode cX6_seekRest 38 = .ok (.getfield 12, 3) := by decide +kernel
theorem dX6_seekRest_41 : decode cX6_seekRest 41 = .ok (.invokevirtual 33, 3) := by decide +kernel
theorem dX6_seekRest_44 : decode cX6_seekRest 44 = .ok (.putfield 37, 3) := by decide +kernel
theorem dX6_seekRest_47 : decode cX6_seekRest 47 = .ok (.aload_n 0, 1) := by decide +kernel
theorem dX6_seekRest_48 : decode cX6_seekRest 48 = .ok (.getfield 12, 3) := by decide +kernel
theorem dX6_seekRest_51 : decode cX6_seekRest 51 = .ok (.aload_n 0, 1) := by decide +kernel
theorem dX6_seekRest_52 : decode cX6_seekRest 52 = .ok (.getfield 21, 3) := by decide +kernel
theorem dX6_seekRest_55 : decode cX6_seekRest 55 = .ok (.getfield 40, 3) := by decide +kernel
theorem dX6_seekRest_58 : decode cX6_seekRest 58 = .ok (.invokevirtual 44, 3) := by decide +kernel
theorem dX6_seekRest_61 : decode cX6_seekRest 61 = .ok (.ifCond .ne 10, 3) := by decide +kernel
theorem dX6_seekRest_64 : decode cX6_seekRest 64 = .ok (.aload_n 0, 1) := by decide +kernel
theorem dX6_seekRest_65 : decode cX6_seekRest 65 = .ok (.iload_n 2, 1) := by decide +kernel
theorem dX6_seekRest_66 : decode cX6_seekRest 66 = .ok (.putfield 48, 3) := by decide +kernel
theorem dX6_seekRest_69 : decode cX6_seekRest 69 = .ok (.iconst 1, 1) := by decide +kernel
theorem dX6_seekRest_70 : decode cX6_seekRest 70 = .ok (.ireturn, 1) := by decide +kernel
theorem dX6_seekRest_71 : decode cX6_seekRest 71 = .ok (.iinc 2 1, 3) := by decide +kernel
theorem dX6_seekRest_74 : decode cX6_seekRest 74 = .ok (.goto (-64), 3) := by decide +kernel
theorem dX6_seekRest_77 : decode cX6_seekRest 77 = .ok (.iconst 0, 1) := by decide +kernel
theorem dX6_seekRest_78 : decode cX6_seekRest 78 = .ok (.ireturn, 1) := by decide +kernel
theorem dX6_seekBetter_0 : decode cX6_seekBetter 0 = .ok (.aload_n 0, 1) := by decide +kernel
theorem dX6_seekBetter_1 : decode cX6_seekBetter 1 = .ok (.getfield 12, 3) := by decide +kernel
theorem dX6_seekBetter_4 : decode cX6_seekBetter 4 = .ok (.aload_n 1, 1) := by decide +kernel
theorem dX6_seekBetter_5 : decode cX6_seekBetter 5 = .ok (.invokevirtual 25, 3) := by decide +kernel
theorem dX6_seekBetter_8 : decode cX6_seekBetter 8 = .ok (.aload_n 0, 1) := by decide +kernel
theorem dX6_seekBetter_9 : decode cX6_seekBetter 9 = .ok (.getfield 21, 3) := by decide +kernel
theorem dX6_seekBetter_12 : decode cX6_seekBetter 12 = .ok (.aload_n 0, 1) := by decide +kernel
theorem dX6_seekBetter_13 : decode cX6_seekBetter 13 = .ok (.getfield 12, 3) := by decide +kernel
theorem dX6_seekBetter_16 : decode cX6_seekBetter 16 = .ok (.invokevirtual 29, 3) := by decide +kernel
theorem dX6_seekBetter_19 : decode cX6_seekBetter 19 = .ok (.ifCond .ne 5, 3) := by decide +kernel
theorem dX6_seekBetter_22 : decode cX6_seekBetter 22 = .ok (.iconst 0, 1) := by decide +kernel
theorem dX6_seekBetter_23 : decode cX6_seekBetter 23 = .ok (.ireturn, 1) := by decide +kernel
theorem dX6_seekBetter_24 : decode cX6_seekBetter 24 = .ok (.aload_n 0, 1) := by decide +kernel
theorem dX6_seekBetter_25 : decode cX6_seekBetter 25 = .ok (.bipush (-4), 2) := by decide +kernel
theorem dX6_seekBetter_27 : decode cX6_seekBetter 27 = .ok (.putfield 48, 3) := by decide +kernel
theorem dX6_seekBetter_30 : decode cX6_seekBetter 30 = .ok (.aload_n 0, 1) := by decide +kernel
theorem dX6_seekBetter_31 : decode cX6_seekBetter 31 = .ok (.aload_n 0, 1) := by decide +kernel
theorem dX6_seekBetter_32 : decode cX6_seekBetter 32 = .ok (.getfield 21, 3) := by decide +kernel
theorem dX6_seekBetter_35 : decode cX6_seekBetter 35 = .ok (.aload_n 0, 1) := by decide +kernel
theorem dX6_seekBetter_36 : decode cX6_seekBetter 36 = .ok (.getfield 12, 3) := by decide +kernel
theorem dX6_seekBetter_39 : decode cX6_seekBetter 39 = .ok (.invokevirtual 33, 3) := by decide +kernel
theorem dX6_seekBetter_42 : decode cX6_seekBetter 42 = .ok (.putfield 37, 3) := by decide +kernel
theorem dX6_seekBetter_45 : decode cX6_seekBetter 45 = .ok (.iconst 0, 1) := by decide +kernel
theorem dX6_seekBetter_46 : decode cX6_seekBetter 46 = .ok (.istore_n 2, 1) := by decide +kernel
theorem dX6_seekBetter_47 : decode cX6_seekBetter 47 = .ok (.iload_n 2, 1) := by decide +kernel
theorem dX6_seekBetter_48 : decode cX6_seekBetter 48 = .ok (.aload_n 0, 1) := by decide +kernel
theorem dX6_seekBetter_49 : decode cX6_seekBetter 49 = .ok (.getfield 12, 3) := by decide +kernel
theorem dX6_seekBetter_52 : decode cX6_seekBetter 52 = .ok (.getfield 51, 3) := by decide +kernel
theorem dX6_seekBetter_55 : decode cX6_seekBetter 55 = .ok (.if_icmp .ge 25, 3) := by decide +kernel
theorem dX6_seekBetter_58 : decode cX6_seekBetter 58 = .ok (.aload_n 0, 1) := by decide +kernel
theorem dX6_seekBetter_59 : decode cX6_seekBetter 59 = .ok (.getfield 12, 3) := by decide +kernel
theorem dX6_seekBetter_62 : decode cX6_seekBetter 62 = .ok (.iload_n 2, 1) := by decide +kernel
theorem dX6_seekBetter_63 : decode cX6_seekBetter 63 = .ok (.invokevirtual 54, 3) := by decide +kernel
theorem dX6_seekBetter_66 : decode cX6_seekBetter 66 = .ok (.ifCond .eq 8, 3) := by decide +kernel
theorem dX6_seekBetter_69 : decode cX6_seekBetter 69 = .ok (.aload_n 0, 1) := by decide +kernel
theorem dX6_seekBetter_70 : decode cX6_seekBetter 70 = .ok (.iload_n 2, 1) := by decide +kernel
theorem dX6_seekBetter_71 : decode cX6_seekBetter 71 = .ok (.invokevirtual 58, 3) := by decide +kernel
theorem dX6_seekBetter_74 : decode cX6_seekBetter 74 = .ok (.iinc 2 1, 3) := by decide +kernel
theorem dX6_seekBetter_77 : decode cX6_seekBetter 77 = .ok (.goto (-30), 3) := by decide +kernel
theorem dX6_seekBetter_80 : decode cX6_seekBetter 80 = .ok (.aload_n 0, 1) := by decide +kernel
theorem dX6_seekBetter_81 : decode cX6_seekBetter 81 = .ok (.getfield 48, 3) := by decide +kernel
theorem dX6_seekBetter_84 : decode cX6_seekBetter 84 = .ok (.bipush (-4), 2) := by decide +kernel
theorem dX6_seekBetter_86 : decode cX6_seekBetter 86 = .ok (.if_icmp .eq 7, 3) := by decide +kernel
theorem dX6_seekBetter_89 : decode cX6_seekBetter 89 = .ok (.iconst 1, 1) := by decide +kernel
theorem dX6_seekBetter_90 : decode cX6_seekBetter 90 = .ok (.goto 4, 3) := by decide +kernel
theorem dX6_seekBetter_93 : decode cX6_seekBetter 93 = .ok (.iconst 0, 1) := by decide +kernel
theorem dX6_seekBetter_94 : decode cX6_seekBetter 94 = .ok (.ireturn, 1) := by decide +kernel
theorem dX6_tryDensitiesOf_0 : decode cX6_tryDensitiesOf 0 = .ok (.aload_n 0, 1) := by decide +kernel
theorem dX6_tryDensitiesOf_1 : decode cX6_tryDensitiesOf 1 = .ok (.getfield 12, 3) := by decide +kernel
theorem dX6_tryDensitiesOf_4 : decode cX6_tryDensitiesOf 4 = .ok (.getfield 62, 3) := by decide +kernel
theorem dX6_tryDensitiesOf_7 : decode cX6_tryDensitiesOf 7 = .ok (.iload_n 1, 1) := by decide +kernel
theorem dX6_tryDensitiesOf_8 : decode cX6_tryDensitiesOf 8 = .ok (.iaload, 1) := by decide +kernel
theorem dX6_tryDensitiesOf_9 : decode cX6_tryDensitiesOf 9 = .ok (.istore_n 2, 1) := by decide +kernel
theorem dX6_tryDensitiesOf_10 : decode cX6_tryDensitiesOf 10 = .ok (.iconst 1, 1) := by decide +kernel
theorem dX6_tryDensitiesOf_11 : decode cX6_tryDensitiesOf 11 = .ok (.istore_n 3, 1) := by decide +kernel
theorem dX6_tryDensitiesOf_12 : decode cX6_tryDensitiesOf 12 = .ok (.iload_n 3, 1) := by decide +kernel
theorem dX6_tryDensitiesOf_13 : decode cX6_tryDensitiesOf 13 = .ok (.iconst 5, 1) := by decide +kernel
theorem dX6_tryDensitiesOf_14 : decode cX6_tryDensitiesOf 14 = .ok (.if_icmp .gt 81, 3) := by decide +kernel
theorem dX6_tryDensitiesOf_17 : decode cX6_tryDensitiesOf 17 = .ok (.aload_n 0, 1) := by decide +kernel
theorem dX6_tryDensitiesOf_18 : decode cX6_tryDensitiesOf 18 = .ok (.getfield 12, 3) := by decide +kernel
theorem dX6_tryDensitiesOf_21 : decode cX6_tryDensitiesOf 21 = .ok (.getfield 62, 3) := by decide +kernel
theorem dX6_tryDensitiesOf_24 : decode cX6_tryDensitiesOf 24 = .ok (.iload_n 1, 1) := by decide +kernel
theorem dX6_tryDensitiesOf_25 : decode cX6_tryDensitiesOf 25 = .ok (.iload_n 3, 1) := by decide +kernel
theorem dX6_tryDensitiesOf_26 : decode cX6_tryDensitiesOf 26 = .ok (.iastore, 1) := by decide +kernel
theorem dX6_tryDensitiesOf_27 : decode cX6_tryDensitiesOf 27 = .ok (.iload_n 3, 1) := by decide +kernel
theorem dX6_tryDensitiesOf_28 : decode cX6_tryDensitiesOf 28 = .ok (.iload_n 2, 1) := by decide +kernel
theorem dX6_tryDensitiesOf_29 : decode cX6_tryDensitiesOf 29 = .ok (.if_icmp .eq 60, 3) := by decide +kernel
theorem dX6_tryDensitiesOf_32 : decode cX6_tryDensitiesOf 32 = .ok (.aload_n 0, 1) := by decide +kernel
theorem dX6_tryDensitiesOf_33 : decode cX6_tryDensitiesOf 33 = .ok (.getfield 21, 3) := by decide +kernel
theorem dX6_tryDensitiesOf_36 : decode cX6_tryDensitiesOf 36 = .ok (.aload_n 0, 1) := by decide +kernel
theorem dX6_tryDensitiesOf_37 : decode cX6_tryDensitiesOf 37 = .ok (.getfield 12, 3) := by decide +kernel
theorem dX6_tryDensitiesOf_40 : decode cX6_tryDensitiesOf 40 = .ok (.invokevirtual 29, 3) := by decide +kernel
theorem dX6_tryDensitiesOf_43 : decode cX6_tryDensitiesOf 43 = .ok (.ifCond .eq 46, 3) := by decide +kernel
theorem dX6_tryDensitiesOf_46 : decode cX6_tryDensitiesOf 46 = .ok (.aload_n 0, 1) := by decide +kernel
theorem dX6_tryDensitiesOf_47 : decode cX6_tryDensitiesOf 47 = .ok (.getfield 21, 3) := by decide +kernel
theorem dX6_tryDensitiesOf_50 : decode cX6_tryDensitiesOf 50 = .ok (.aload_n 0, 1) := by decide +kernel
theorem dX6_tryDensitiesOf_51 : decode cX6_tryDensitiesOf 51 = .ok (.getfield 12, 3) := by decide +kernel
theorem dX6_tryDensitiesOf_54 : decode cX6_tryDensitiesOf 54 = .ok (.invokevirtual 33, 3) := by decide +kernel
theorem dX6_tryDensitiesOf_57 : decode cX6_tryDensitiesOf 57 = .ok (.aload_n 0, 1) := by decide +kernel
theorem dX6_tryDensitiesOf_58 : decode cX6_tryDensitiesOf 58 = .ok (.getfield 37, 3) := by decide +kernel
theorem dX6_tryDensitiesOf_61 : decode cX6_tryDensitiesOf 61 = .ok (.if_icmp .ge 28, 3) := by decide +kernel
theorem dX6_tryDensitiesOf_64 : decode cX6_tryDensitiesOf 64 = .ok (.aload_n 0, 1) := by decide +kernel
theorem dX6_tryDensitiesOf_65 : decode cX6_tryDensitiesOf 65 = .ok (.aload_n 0, 1) := by decide +kernel
theorem dX6_tryDensitiesOf_66 : decode cX6_tryDensitiesOf 66 = .ok (.getfield 21, 3) := by decide +kernel
theorem dX6_tryDensitiesOf_69 : decode cX6_tryDensitiesOf 69 = .ok (.aload_n 0, 1) := by decide +kernel
theorem dX6_tryDensitiesOf_70 : decode cX6_tryDensitiesOf 70 = .ok (.getfield 12, 3) := by decide +kernel
theorem dX6_tryDensitiesOf_73 : decode cX6_tryDensitiesOf 73 = .ok (.invokevirtual 33, 3) := by decide +kernel
theorem dX6_tryDensitiesOf_76 : decode cX6_tryDensitiesOf 76 = .ok (.putfield 37, 3) := by decide +kernel
theorem dX6_tryDensitiesOf_79 : decode cX6_tryDensitiesOf 79 = .ok (.aload_n 0, 1) := by decide +kernel
theorem dX6_tryDensitiesOf_80 : decode cX6_tryDensitiesOf 80 = .ok (.bipush 10, 2) := by decide +kernel
theorem dX6_tryDensitiesOf_82 : decode cX6_tryDensitiesOf 82 = .ok (.iload_n 1, 1) := by decide +kernel
theorem dX6_tryDensitiesOf_83 : decode cX6_tryDensitiesOf 83 = .ok (.imul, 1) := by decide +kernel
theorem dX6_tryDensitiesOf_84 : decode cX6_tryDensitiesOf 84 = .ok (.iload_n 3, 1) := by decide +kernel
theorem dX6_tryDensitiesOf_85 : decode cX6_tryDensitiesOf 85 = .ok (.iadd, 1) := by decide +kernel
theorem dX6_tryDensitiesOf_86 : decode cX6_tryDensitiesOf 86 = .ok (.putfield 48, 3) := by decide +kernel
theorem dX6_tryDensitiesOf_89 : decode cX6_tryDensitiesOf 89 = .ok (.iinc 3 1, 3) := by decide +kernel
theorem dX6_tryDensitiesOf_92 : decode cX6_tryDensitiesOf 92 = .ok (.goto (-80), 3) := by decide +kernel
theorem dX6_tryDensitiesOf_95 : decode cX6_tryDensitiesOf 95 = .ok (.aload_n 0, 1) := by decide +kernel
theorem dX6_tryDensitiesOf_96 : decode cX6_tryDensitiesOf 96 = .ok (.getfield 12, 3) := by decide +kernel
theorem dX6_tryDensitiesOf_99 : decode cX6_tryDensitiesOf 99 = .ok (.getfield 62, 3) := by decide +kernel
theorem dX6_tryDensitiesOf_102 : decode cX6_tryDensitiesOf 102 = .ok (.iload_n 1, 1) := by decide +kernel
theorem dX6_tryDensitiesOf_103 : decode cX6_tryDensitiesOf 103 = .ok (.iload_n 2, 1) := by decide +kernel
theorem dX6_tryDensitiesOf_104 : decode cX6_tryDensitiesOf 104 = .ok (.iastore, 1) := by decide +kernel
theorem dX6_tryDensitiesOf_105 : decode cX6_tryDensitiesOf 105 = .ok (.return_, 1) := by decide +kernel
