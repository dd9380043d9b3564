theorem dX0_init_0 : decode cX0_init 0 = .ok (.aload_n 0, 1) := by decide +kernel
theorem dX0_init_1 : decode cX0_init 1 = .ok (.invokespecial 3, 3) := by decide +kernel
theorem dX0_init_4 : decode cX0_init 4 = .ok (.return_, 1) := by decide +kernel
theorem dX0_weigh_0 : decode cX0_weigh 0 = .ok (.aload_n 1, 1) := by decide +kernel
theorem dX0_weigh_1 : decode cX0_weigh 1 = .ok (.invokevirtual 9, 3) := by decide +kernel
theorem dX0_weigh_4 : decode cX0_weigh 4 = .ok (.istore 4, 2) := by decide +kernel
theorem dX0_weigh_6 : decode cX0_weigh 6 = .ok (.iload 4, 2) := by decide +kernel
theorem dX0_weigh_8 : decode cX0_weigh 8 = .ok (.aload_n 1, 1) := by decide +kernel
theorem dX0_weigh_9 : decode cX0_weigh 9 = .ok (.invokevirtual 15, 3) := by decide +kernel
theorem dX0_weigh_12 : decode cX0_weigh 12 = .ok (.iand, 1) := by decide +kernel
theorem dX0_weigh_13 : decode cX0_weigh 13 = .ok (.istore 5, 2) := by decide +kernel
theorem dX0_weigh_15 : decode cX0_weigh 15 = .ok (.aload_n 1, 1) := by decide +kernel
theorem dX0_weigh_16 : decode cX0_weigh 16 = .ok (.iload_n 2, 1) := by decide +kernel
theorem dX0_weigh_17 : decode cX0_weigh 17 = .ok (.aload_n 1, 1) := by decide +kernel
theorem dX0_weigh_18 : decode cX0_weigh 18 = .ok (.getfield 18, 3) := by decide +kernel
theorem dX0_weigh_21 : decode cX0_weigh 21 = .ok (.iload 4, 2) := by decide +kernel
theorem dX0_weigh_23 : decode cX0_weigh 23 = .ok (.invokevirtual 22, 3) := by decide +kernel
theorem dX0_weigh_26 : decode cX0_weigh 26 = .ok (.istore 6, 2) := by decide +kernel
theorem dX0_weigh_28 : decode cX0_weigh 28 = .ok (.aload_n 0, 1) := by decide +kernel
theorem dX0_weigh_29 : decode cX0_weigh 29 = .ok (.iconst 0, 1) := by decide +kernel
theorem dX0_weigh_30 : decode cX0_weigh 30 = .ok (.putfield 26, 3) := by decide +kernel
theorem dX0_weigh_33 : decode cX0_weigh 33 = .ok (.aload_n 0, 1) := by decide +kernel
theorem dX0_weigh_34 : decode cX0_weigh 34 = .ok (.iconst 1, 1) := by decide +kernel
theorem dX0_weigh_35 : decode cX0_weigh 35 = .ok (.putfield 31, 3) := by decide +kernel
theorem dX0_weigh_38 : decode cX0_weigh 38 = .ok (.iload 4, 2) := by decide +kernel
theorem dX0_weigh_40 : decode cX0_weigh 40 = .ok (.iload_n 2, 1) := by decide +kernel
theorem dX0_weigh_41 : decode cX0_weigh 41 = .ok (.invokestatic 34, 3) := by decide +kernel
theorem dX0_weigh_44 : decode cX0_weigh 44 = .ok (.ifCond .eq 13, 3) := by decide +kernel
theorem dX0_weigh_47 : decode cX0_weigh 47 = .ok (.iload 6, 2) := by decide +kernel
theorem dX0_weigh_49 : decode cX0_weigh 49 = .ok (.iload 5, 2) := by decide +kernel
theorem dX0_weigh_51 : decode cX0_weigh 51 = .ok (.iconst (-1), 1) := by decide +kernel
theorem dX0_weigh_52 : decode cX0_weigh 52 = .ok (.ixor, 1) := by decide +kernel
theorem dX0_weigh_53 : decode cX0_weigh 53 = .ok (.iand, 1) := by decide +kernel
theorem dX0_weigh_54 : decode cX0_weigh 54 = .ok (.ifCond .eq 4, 3) := by decide +kernel
theorem dX0_weigh_57 : decode cX0_weigh 57 = .ok (.return_, 1) := by decide +kernel
theorem dX0_weigh_58 : decode cX0_weigh 58 = .ok (.aload_n 0, 1) := by decide +kernel
theorem dX0_weigh_59 : decode cX0_weigh 59 = .ok (.iload 5, 2) := by decide +kernel
theorem dX0_weigh_61 : decode cX0_weigh 61 = .ok (.iload_n 2, 1) := by decide +kernel
theorem dX0_weigh_62 : decode cX0_weigh 62 = .ok (.invokestatic 34, 3) := by decide +kernel
theorem dX0_weigh_65 : decode cX0_weigh 65 = .ok (.ifCond .eq 10, 3) := by decide +kernel
theorem dX0_weigh_68 : decode cX0_weigh 68 = .ok (.bipush 10, 2) := by decide +kernel
theorem dX0_weigh_70 : decode cX0_weigh 70 = .ok (.iload_n 3, 1) := by decide +kernel
theorem dX0_weigh_71 : decode cX0_weigh 71 = .ok (.isub, 1) := by decide +kernel
theorem dX0_weigh_72 : decode cX0_weigh 72 = .ok (.goto 5, 3) := by decide +kernel
theorem dX0_weigh_75 : decode cX0_weigh 75 = .ok (.bipush 10, 2) := by decide +kernel
theorem dX0_weigh_77 : decode cX0_weigh 77 = .ok (.putfield 26, 3) := by decide +kernel
theorem dX0_weigh_80 : decode cX0_weigh 80 = .ok (.aload_n 0, 1) := by decide +kernel
theorem dX0_weigh_81 : decode cX0_weigh 81 = .ok (.bipush 10, 2) := by decide +kernel
theorem dX0_weigh_83 : decode cX0_weigh 83 = .ok (.putfield 31, 3) := by decide +kernel
theorem dX0_weigh_86 : decode cX0_weigh 86 = .ok (.iconst 0, 1) := by decide +kernel
theorem dX0_weigh_87 : decode cX0_weigh 87 = .ok (.istore 7, 2) := by decide +kernel
theorem dX0_weigh_89 : decode cX0_weigh 89 = .ok (.iload 7, 2) := by decide +kernel
theorem dX0_weigh_91 : decode cX0_weigh 91 = .ok (.iload 6, 2) := by decide +kernel
theorem dX0_weigh_93 : decode cX0_weigh 93 = .ok (.invokestatic 38, 3) := by decide +kernel
theorem dX0_weigh_96 : decode cX0_weigh 96 = .ok (.if_icmp .ge 30, 3) := by decide +kernel
theorem dX0_weigh_99 : decode cX0_weigh 99 = .ok (.aload_n 0, 1) := by decide +kernel
theorem dX0_weigh_100 : decode cX0_weigh 100 = .ok (.dup, 1) := by decide +kernel
theorem dX0_weigh_101 : decode cX0_weigh 101 = .ok (.getfield 26, 3) := by decide +kernel
theorem dX0_weigh_104 : decode cX0_weigh 104 = .ok (.iload_n 3, 1) := by decide +kernel
theorem dX0_weigh_105 : decode cX0_weigh 105 = .ok (.imul, 1) := by decide +kernel
theorem dX0_weigh_106 : decode cX0_weigh 106 = .ok (.putfield 26, 3) := by decide +kernel
theorem dX0_weigh_109 : decode cX0_weigh 109 = .ok (.aload_n 0, 1) := by decide +kernel
theorem dX0_weigh_110 : decode cX0_weigh 110 = .ok (.dup, 1) := by decide +kernel
theorem dX0_weigh_111 : decode cX0_weigh 111 = .ok (.getfield 31, 3) := by decide +kernel
theorem dX0_weigh_114 : decode cX0_weigh 114 = .ok (.bipush 10, 2) := by decide +kernel
theorem dX0_weigh_116 : decode cX0_weigh 116 = .ok (.imul, 1) := by decide +kernel
theorem dX0_weigh_117 : decode cX0_weigh 117 = .ok (.putfield 31, 3) := by decide +kernel
theorem dX0_weigh_120 : decode cX0_weigh 120 = .ok (.iinc 7 1, 3) := by decide +kernel
theorem dX0_weigh_123 : decode cX0_weigh 123 = .ok (.goto (-34), 3) := by decide +kernel
theorem dX0_weigh_126 : decode cX0_weigh 126 = .ok (.aload_n 0, 1) := by decide +kernel
theorem dX0_weigh_127 : decode cX0_weigh 127 = .ok (.invokevirtual 44, 3) := by decide +kernel
theorem dX0_weigh_130 : decode cX0_weigh 130 = .ok (.return_, 1) := by decide +kernel
theorem dX0_lastAfter_0 : decode cX0_lastAfter 0 = .ok (.aload_n 1, 1) := by decide +kernel
theorem dX0_lastAfter_1 : decode cX0_lastAfter 1 = .ok (.invokevirtual 9, 3) := by decide +kernel
theorem dX0_lastAfter_4 : decode cX0_lastAfter 4 = .ok (.istore 4, 2) := by decide +kernel
theorem dX0_lastAfter_6 : decode cX0_lastAfter 6 = .ok (.iload 4, 2) := by decide +kernel
theorem dX0_lastAfter_8 : decode cX0_lastAfter 8 = .ok (.aload_n 1, 1) := by decide +kernel
theorem dX0_lastAfter_9 : decode cX0_lastAfter 9 = .ok (.invokevirtual 15, 3) := by decide +kernel
theorem dX0_lastAfter_12 : decode cX0_lastAfter 12 = .ok (.iand, 1) := by decide +kernel
theorem dX0_lastAfter_13 : decode cX0_lastAfter 13 = .ok (.istore 5, 2) := by decide +kernel
theorem dX0_lastAfter_15 : decode cX0_lastAfter 15 = .ok (.iconst 0, 1) := by decide +kernel
theorem dX0_lastAfter_16 : decode cX0_lastAfter 16 = .ok (.istore 6, 2) := by decide +kernel
theorem dX0_lastAfter_18 : decode cX0_lastAfter 18 = .ok (.iload 6, 2) := by decide +kernel
theorem dX0_lastAfter_20 : decode cX0_lastAfter 20 = .ok (.iload_n 2, 1) := by decide +kernel
theorem dX0_lastAfter_21 : decode cX0_lastAfter 21 = .ok (.if_icmp .ge 85, 3) := by decide +kernel
theorem dX0_lastAfter_24 : decode cX0_lastAfter 24 = .ok (.iconst 0, 1) := by decide +kernel
theorem dX0_lastAfter_25 : decode cX0_lastAfter 25 = .ok (.istore 7, 2) := by decide +kernel
theorem dX0_lastAfter_27 : decode cX0_lastAfter 27 = .ok (.iload 7, 2) := by decide +kernel
theorem dX0_lastAfter_29 : decode cX0_lastAfter 29 = .ok (.bipush 8, 2) := by decide +kernel
theorem dX0_lastAfter_31 : decode cX0_lastAfter 31 = .ok (.if_icmp .ge 69, 3) := by decide +kernel
theorem dX0_lastAfter_34 : decode cX0_lastAfter 34 = .ok (.iload 4, 2) := by decide +kernel
theorem dX0_lastAfter_36 : decode cX0_lastAfter 36 = .ok (.iload 5, 2) := by decide +kernel
theorem dX0_lastAfter_38 : decode cX0_lastAfter 38 = .ok (.iand, 1) := by decide +kernel
theorem dX0_lastAfter_39 : decode cX0_lastAfter 39 = .ok (.iload 7, 2) := by decide +kernel
theorem dX0_lastAfter_41 : decode cX0_lastAfter 41 = .ok (.invokestatic 34, 3) := by decide +kernel
theorem dX0_lastAfter_44 : decode cX0_lastAfter 44 = .ok (.ifCond .ne 6, 3) := by decide +kernel
theorem dX0_lastAfter_47 : decode cX0_lastAfter 47 = .ok (.goto 47, 3) := by decide +kernel
theorem dX0_lastAfter_50 : decode cX0_lastAfter 50 = .ok (.aload_n 0, 1) := by decide +kernel
theorem dX0_lastAfter_51 : decode cX0_lastAfter 51 = .ok (.aload_n 0, 1) := by decide +kernel
theorem dX0_lastAfter_52 : decode cX0_lastAfter 52 = .ok (.getfield 47, 3) := by decide +kernel
theorem dX0_lastAfter_55 : decode cX0_lastAfter 55 = .ok (.ldc2_w 51, 3) := by decide +kernel
theorem dX0_lastAfter_58 : decode cX0_lastAfter 58 = .ok (.lmul, 1) := by decide +kernel
theorem dX0_lastAfter_59 : decode cX0_lastAfter 59 = .ok (.ldc2_w 53, 3) := by decide +kernel
theorem dX0_lastAfter_62 : decode cX0_lastAfter 62 = .ok (.ladd, 1) := by decide +kernel
theorem dX0_lastAfter_63 : decode cX0_lastAfter 63 = .ok (.putfield 47, 3) := by decide +kernel
theorem dX0_lastAfter_66 : decode cX0_lastAfter 66 = .ok (.aload_n 0, 1) := by decide +kernel
theorem dX0_lastAfter_67 : decode cX0_lastAfter 67 = .ok (.getfield 47, 3) := by decide +kernel
theorem dX0_lastAfter_70 : decode cX0_lastAfter 70 = .ok (.bipush 33, 2) := by decide +kernel
theorem dX0_lastAfter_72 : decode cX0_lastAfter 72 = .ok (.lushr, 1) := by decide +kernel
theorem dX0_lastAfter_73 : decode cX0_lastAfter 73 = .ok (.ldc2_w 55, 3) := by decide +kernel
theorem dX0_lastAfter_76 : decode cX0_lastAfter 76 = .ok (.lrem, 1) := by decide +kernel
theorem dX0_lastAfter_77 : decode cX0_lastAfter 77 = .ok (.iload_n 3, 1) := by decide +kernel
theorem dX0_lastAfter_78 : decode cX0_lastAfter 78 = .ok (.i2l, 1) := by decide +kernel
theorem dX0_lastAfter_79 : decode cX0_lastAfter 79 = .ok (.lcmp, 1) := by decide +kernel
theorem dX0_lastAfter_80 : decode cX0_lastAfter 80 = .ok (.ifCond .ge 14, 3) := by decide +kernel
theorem dX0_lastAfter_83 : decode cX0_lastAfter 83 = .ok (.iload 4, 2) := by decide +kernel
theorem dX0_lastAfter_85 : decode cX0_lastAfter 85 = .ok (.iconst 1, 1) := by decide +kernel
theorem dX0_lastAfter_86 : decode cX0_lastAfter 86 = .ok (.iload 7, 2) := by decide +kernel
theorem dX0_lastAfter_88 : decode cX0_lastAfter 88 = .ok (.ishl, 1) := by decide +kernel
theorem dX0_lastAfter_89 : decode cX0_lastAfter 89 = .ok (.iconst (-1), 1) := by decide +kernel
theorem dX0_lastAfter_90 : decode cX0_lastAfter 90 = .ok (.ixor, 1) := by decide +kernel
theorem dX0_lastAfter_91 : decode cX0_lastAfter 91 = .ok (.iand, 1) := by decide +kernel
theorem dX0_lastAfter_92 : decode cX0_lastAfter 92 = .ok (.istore 4, 2) := by decide +kernel
theorem dX0_lastAfter_94 : decode cX0_lastAfter 94 = .ok (.iinc 7 1, 3) := by decide +kernel
theorem dX0_lastAfter_97 : decode cX0_lastAfter 97 = .ok (.goto (-70), 3) := by decide +kernel
theorem dX0_lastAfter_100 : decode cX0_lastAfter 100 = .ok (.iinc 6 1, 3) := by decide +kernel
theorem dX0_lastAfter_103 : decode cX0_lastAfter 103 = .ok (.goto (-85), 3) := by decide +kernel
theorem dX0_lastAfter_106 : decode cX0_lastAfter 106 = .ok (.aload_n 1, 1) := by decide +kernel
theorem dX0_lastAfter_107 : decode cX0_lastAfter 107 = .ok (.aload_n 1, 1) := by decide +kernel
theorem dX0_lastAfter_108 : decode cX0_lastAfter 108 = .ok (.getfield 18, 3) := by decide +kernel
theorem dX0_lastAfter_111 : decode cX0_lastAfter 111 = .ok (.iload 4, 2) := by decide +kernel
theorem dX0_lastAfter_113 : decode cX0_lastAfter 113 = .ok (.invokevirtual 57, 3) := by decide +kernel
theorem dX0_lastAfter_116 : decode cX0_lastAfter 116 = .ok (.ireturn, 1) := by decide +kernel
theorem dX0_reduce_0 : decode cX0_reduce 0 = .ok (.aload_n 0, 1) := by decide +kernel
theorem dX0_reduce_1 : decode cX0_reduce 1 = .ok (.getfield 31, 3) := by decide +kernel
theorem dX0_reduce_4 : decode cX0_reduce 4 = .ok (.istore_n 1, 1) := by decide +kernel
theorem dX0_reduce_5 : decode cX0_reduce 5 = .ok (.aload_n 0, 1) := by decide +kernel
theorem dX0_reduce_6 : decode cX0_reduce 6 = .ok (.getfield 26, 3) := by decide +kernel
theorem dX0_reduce_9 : decode cX0_reduce 9 = .ok (.istore_n 2, 1) := by decide +kernel
theorem dX0_reduce_10 : decode cX0_reduce 10 = .ok (.iconst 0, 1) := by decide +kernel
theorem dX0_reduce_11 : decode cX0_reduce 11 = .ok (.istore_n 3, 1) := by decide +kernel
theorem dX0_reduce_12 : decode cX0_reduce 12 = .ok (.iload_n 3, 1) := by decide +kernel
theorem dX0_reduce_13 : decode cX0_reduce 13 = .ok (.bipush 64, 2) := by decide +kernel
theorem dX0_reduce_15 : decode cX0_reduce 15 = .ok (.if_icmp .ge 23, 3) := by decide +kernel
theorem dX0_reduce_18 : decode cX0_reduce 18 = .ok (.iload_n 2, 1) := by decide +kernel
theorem dX0_reduce_19 : decode cX0_reduce 19 = .ok (.ifCond .eq 19, 3) := by decide +kernel
theorem dX0_reduce_22 : decode cX0_reduce 22 = .ok (.iload_n 1, 1) := by decide +kernel
theorem dX0_reduce_23 : decode cX0_reduce 23 = .ok (.iload_n 2, 1) := by decide +kernel
theorem dX0_reduce_24 : decode cX0_reduce 24 = .ok (.irem, 1) := by decide +kernel
theorem dX0_reduce_25 : decode cX0_reduce 25 = .ok (.istore 4, 2) := by decide +kernel
theorem dX0_reduce_27 : decode cX0_reduce 27 = .ok (.iload_n 2, 1) := by decide +kernel
theorem dX0_reduce_28 : decode cX0_reduce 28 = .ok (.istore_n 1, 1) := by decide +kernel
theorem dX0_reduce_29 : decode cX0_reduce 29 = .ok (.iload 4, 2) := by decide +kernel
theorem dX0_reduce_31 : decode cX0_reduce 31 = .ok (.istore_n 2, 1) := by decide +kernel
theorem dX0_reduce_32 : decode cX0_reduce 32 = .ok (.iinc 3 1, 3) := by decide +kernel
theorem dX0_reduce_35 : decode cX0_reduce 35 = .ok (.goto (-23), 3) := by decide +kernel
theorem dX0_reduce_38 : decode cX0_reduce 38 = .ok (.iload_n 1, 1) := by decide +kernel
theorem dX0_reduce_39 : decode cX0_reduce 39 = .ok (.ifCond .eq 23, 3) := by decide +kernel
theorem dX0_reduce_42 : decode cX0_reduce 42 = .ok (.aload_n 0, 1) := by decide +kernel
theorem dX0_reduce_43 : decode cX0_reduce 43 = .ok (.dup, 1) := by decide +kernel
theorem dX0_reduce_44 : decode cX0_reduce 44 = .ok (.getfield 26, 3) := by decide +kernel
theorem dX0_reduce_47 : decode cX0_reduce 47 = .ok (.iload_n 1, 1) := by decide +kernel
theorem dX0_reduce_48 : decode cX0_reduce 48 = .ok (.idiv, 1) := by decide +kernel
theorem dX0_reduce_49 : decode cX0_reduce 49 = .ok (.putfield 26, 3) := by decide +kernel
theorem dX0_reduce_52 : decode cX0_reduce 52 = .ok (.aload_n 0, 1) := by decide +kernel
theorem dX0_reduce_53 : decode cX0_reduce 53 = .ok (.dup, 1) := by decide +kernel
theorem dX0_reduce_54 : decode cX0_reduce 54 = .ok (.getfield 31, 3) := by decide +kernel
theorem dX0_reduce_57 : decode cX0_reduce 57 = .ok (.iload_n 1, 1) := by decide +kernel
theorem dX0_reduce_58 : decode cX0_reduce 58 = .ok (.idiv, 1) := by decide +kernel
theorem dX0_reduce_59 : decode cX0_reduce 59 = .ok (.putfield 31, 3) := by decide +kernel
theorem dX0_reduce_62 : decode cX0_reduce 62 = .ok (.return_, 1) := by decide +kernel
theorem dX1_init_0 : decode cX1_init 0 = .ok (.aload_n 0, 1) := by decide +kernel
theorem dX1_init_1 : decode cX1_init 1 = .ok (.invokespecial 3, 3) := by decide +kernel
theorem dX1_init_4 : decode cX1_init 4 = .ok (.aload_n 0, 1) := by decide +kernel
theorem dX1_init_5 : decode cX1_init 5 = .ok (.bipush 8, 2) := by decide +kernel
theorem dX1_init_7 : decode cX1_init 7 = .ok (.newarray .int, 2) := by decide +kernel
theorem dX1_init_9 : decode cX1_init 9 = .ok (.putfield 9, 3) := by decide +kernel
theorem dX1_init_12 : decode cX1_init 12 = .ok (.aload_n 0, 1) := by decide +kernel
theorem dX1_init_13 : decode cX1_init 13 = .ok (.bipush 8, 2) := by decide +kernel
theorem dX1_init_15 : decode cX1_init 15 = .ok (.newarray .int, 2) := by decide +kernel
theorem dX1_init_17 : decode cX1_init 17 = .ok (.putfield 15, 3) := by decide +kernel
theorem dX1_init_20 : decode cX1_init 20 = .ok (.aload_n 0, 1) := by decide +kernel
theorem dX1_init_21 : decode cX1_init 21 = .ok (.bipush 8, 2) := by decide +kernel
theorem dX1_init_23 : decode cX1_init 23 = .ok (.newarray .int, 2) := by decide +kernel
theorem dX1_init_25 : decode cX1_init 25 = .ok (.putfield 18, 3) := by decide +kernel
theorem dX1_init_28 : decode cX1_init 28 = .ok (.return_, 1) := by decide +kernel
theorem dX1_learn_0 : decode cX1_learn 0 = .ok (.iconst 0, 1) := by decide +kernel
theorem dX1_learn_1 : decode cX1_learn 1 = .ok (.istore_n 2, 1) := by decide +kernel
theorem dX1_learn_2 : decode cX1_learn 2 = .ok (.iload_n 2, 1) := by decide +kernel
theorem dX1_learn_3 : decode cX1_learn 3 = .ok (.bipush 8, 2) := by decide +kernel
theorem dX1_learn_5 : decode cX1_learn 5 = .ok (.if_icmp .ge 83, 3) := by decide +kernel
theorem dX1_learn_8 : decode cX1_learn 8 = .ok (.aload_n 1, 1) := by decide +kernel
theorem dX1_learn_9 : decode cX1_learn 9 = .ok (.iload_n 2, 1) := by decide +kernel
theorem dX1_learn_10 : decode cX1_learn 10 = .ok (.invokevirtual 21, 3) := by decide +kernel
theorem dX1_learn_13 : decode cX1_learn 13 = .ok (.istore_n 3, 1) := by decide +kernel
theorem dX1_learn_14 : decode cX1_learn 14 = .ok (.aload_n 0, 1) := by decide +kernel
theorem dX1_learn_15 : decode cX1_learn 15 = .ok (.getfield 9, 3) := by decide +kernel
theorem dX1_learn_18 : decode cX1_learn 18 = .ok (.iload_n 2, 1) := by decide +kernel
theorem dX1_learn_19 : decode cX1_learn 19 = .ok (.iload_n 3, 1) := by decide +kernel
theorem dX1_learn_20 : decode cX1_learn 20 = .ok (.ifCond .eq 19, 3) := by decide +kernel
theorem dX1_learn_23 : decode cX1_learn 23 = .ok (.aload_n 1, 1) := by decide +kernel
theorem dX1_learn_24 : decode cX1_learn 24 = .ok (.iload_n 2, 1) := by decide +kernel
theorem dX1_learn_25 : decode cX1_learn 25 = .ok (.aload_n 1, 1) := by decide +kernel
theorem dX1_learn_26 : decode cX1_learn 26 = .ok (.getfield 27, 3) := by decide +kernel
theorem dX1_learn_29 : decode cX1_learn 29 = .ok (.aload_n 1, 1) := by decide +kernel
theorem dX1_learn_30 : decode cX1_learn 30 = .ok (.invokevirtual 31, 3) := by decide +kernel
theorem dX1_learn_33 : decode cX1_learn 33 = .ok (.invokevirtual 35, 3) := by decide +kernel
theorem dX1_learn_36 : decode cX1_learn 36 = .ok (.goto 4, 3) := by decide +kernel
theorem dX1_learn_39 : decode cX1_learn 39 = .ok (.iconst 0, 1) := by decide +kernel
theorem dX1_learn_40 : decode cX1_learn 40 = .ok (.iastore, 1) := by decide +kernel
theorem dX1_learn_41 : decode cX1_learn 41 = .ok (.aload_n 0, 1) := by decide +kernel
theorem dX1_learn_42 : decode cX1_learn 42 = .ok (.getfield 15, 3) := by decide +kernel
theorem dX1_learn_45 : decode cX1_learn 45 = .ok (.iload_n 2, 1) := by decide +kernel
theorem dX1_learn_46 : decode cX1_learn 46 = .ok (.iload_n 3, 1) := by decide +kernel
theorem dX1_learn_47 : decode cX1_learn 47 = .ok (.ifCond .eq 12, 3) := by decide +kernel
theorem dX1_learn_50 : decode cX1_learn 50 = .ok (.aload_n 1, 1) := by decide +kernel
theorem dX1_learn_51 : decode cX1_learn 51 = .ok (.iload_n 2, 1) := by decide +kernel
theorem dX1_learn_52 : decode cX1_learn 52 = .ok (.iconst 5, 1) := by decide +kernel
theorem dX1_learn_53 : decode cX1_learn 53 = .ok (.invokevirtual 39, 3) := by decide +kernel
theorem dX1_learn_56 : decode cX1_learn 56 = .ok (.goto 4, 3) := by decide +kernel
theorem dX1_learn_59 : decode cX1_learn 59 = .ok (.iconst 0, 1) := by decide +kernel
theorem dX1_learn_60 : decode cX1_learn 60 = .ok (.iastore, 1) := by decide +kernel
theorem dX1_learn_61 : decode cX1_learn 61 = .ok (.aload_n 0, 1) := by decide +kernel
theorem dX1_learn_62 : decode cX1_learn 62 = .ok (.getfield 18, 3) := by decide +kernel
theorem dX1_learn_65 : decode cX1_learn 65 = .ok (.iload_n 2, 1) := by decide +kernel
theorem dX1_learn_66 : decode cX1_learn 66 = .ok (.iload_n 3, 1) := by decide +kernel
theorem dX1_learn_67 : decode cX1_learn 67 = .ok (.ifCond .eq 13, 3) := by decide +kernel
theorem dX1_learn_70 : decode cX1_learn 70 = .ok (.aload_n 1, 1) := by decide +kernel
theorem dX1_learn_71 : decode cX1_learn 71 = .ok (.iload_n 2, 1) := by decide +kernel
theorem dX1_learn_72 : decode cX1_learn 72 = .ok (.bipush 6, 2) := by decide +kernel
theorem dX1_learn_74 : decode cX1_learn 74 = .ok (.invokevirtual 39, 3) := by decide +kernel
theorem dX1_learn_77 : decode cX1_learn 77 = .ok (.goto 4, 3) := by decide +kernel
theorem dX1_learn_80 : decode cX1_learn 80 = .ok (.iconst 0, 1) := by decide +kernel
theorem dX1_learn_81 : decode cX1_learn 81 = .ok (.iastore, 1) := by decide +kernel
theorem dX1_learn_82 : decode cX1_learn 82 = .ok (.iinc 2 1, 3) := by decide +kernel
theorem dX1_learn_85 : decode cX1_learn 85 = .ok (.goto (-83), 3) := by decide +kernel
theorem dX1_learn_88 : decode cX1_learn 88 = .ok (.return_, 1) := by decide +kernel
theorem dX1_worth_0 : decode cX1_worth 0 = .ok (.aload_n 0, 1) := by decide +kernel
theorem dX1_worth_1 : decode cX1_worth 1 = .ok (.getfield 15, 3) := by decide +kernel
theorem dX1_worth_4 : decode cX1_worth 4 = .ok (.iload_n 1, 1) := by decide +kernel
theorem dX1_worth_5 : decode cX1_worth 5 = .ok (.invokestatic 43, 3) := by decide +kernel
theorem dX1_worth_8 : decode cX1_worth 8 = .ok (.ireturn, 1) := by decide +kernel
theorem dX1_cost_0 : decode cX1_cost 0 = .ok (.aload_n 0, 1) := by decide +kernel
theorem dX1_cost_1 : decode cX1_cost 1 = .ok (.getfield 18, 3) := by decide +kernel
theorem dX1_cost_4 : decode cX1_cost 4 = .ok (.iload_n 1, 1) := by decide +kernel
theorem dX1_cost_5 : decode cX1_cost 5 = .ok (.invokestatic 43, 3) := by decide +kernel
theorem dX1_cost_8 : decode cX1_cost 8 = .ok (.ireturn, 1) := by decide +kernel
theorem dX1_lastAmong_0 : decode cX1_lastAmong 0 = .ok (.iconst 0, 1) := by decide +kernel
theorem dX1_lastAmong_1 : decode cX1_lastAmong 1 = .ok (.istore_n 2, 1) := by decide +kernel
theorem dX1_lastAmong_2 : decode cX1_lastAmong 2 = .ok (.iconst 0, 1) := by decide +kernel
theorem dX1_lastAmong_3 : decode cX1_lastAmong 3 = .ok (.istore_n 3, 1) := by decide +kernel
theorem dX1_lastAmong_4 : decode cX1_lastAmong 4 = .ok (.iload_n 3, 1) := by decide +kernel
theorem dX1_lastAmong_5 : decode cX1_lastAmong 5 = .ok (.bipush 8, 2) := by decide +kernel
theorem dX1_lastAmong_7 : decode cX1_lastAmong 7 = .ok (.if_icmp .ge 34, 3) := by decide +kernel
theorem dX1_lastAmong_10 : decode cX1_lastAmong 10 = .ok (.iload_n 1, 1) := by decide +kernel
theorem dX1_lastAmong_11 : decode cX1_lastAmong 11 = .ok (.iconst 1, 1) := by decide +kernel
theorem dX1_lastAmong_12 : decode cX1_lastAmong 12 = .ok (.iload_n 3, 1) := by decide +kernel
theorem dX1_lastAmong_13 : decode cX1_lastAmong 13 = .ok (.ishl, 1) := by decide +kernel
theorem dX1_lastAmong_14 : decode cX1_lastAmong 14 = .ok (.iand, 1) := by decide +kernel
theorem dX1_lastAmong_15 : decode cX1_lastAmong 15 = .ok (.ifCond .eq 20, 3) := by decide +kernel
theorem dX1_lastAmong_18 : decode cX1_lastAmong 18 = .ok (.aload_n 0, 1) := by decide +kernel
theorem dX1_lastAmong_19 : decode cX1_lastAmong 19 = .ok (.getfield 9, 3) := by decide +kernel
theorem dX1_lastAmong_22 : decode cX1_lastAmong 22 = .ok (.iload_n 3, 1) := by decide +kernel
theorem dX1_lastAmong_23 : decode cX1_lastAmong 23 = .ok (.iaload, 1) := by decide +kernel
theorem dX1_lastAmong_24 : decode cX1_lastAmong 24 = .ok (.iload_n 1, 1) := by decide +kernel
theorem dX1_lastAmong_25 : decode cX1_lastAmong 25 = .ok (.iand, 1) := by decide +kernel
theorem dX1_lastAmong_26 : decode cX1_lastAmong 26 = .ok (.ifCond .ne 9, 3) := by decide +kernel
theorem dX1_lastAmong_29 : decode cX1_lastAmong 29 = .ok (.iload_n 2, 1) := by decide +kernel
theorem dX1_lastAmong_30 : decode cX1_lastAmong 30 = .ok (.iconst 1, 1) := by decide +kernel
theorem dX1_lastAmong_31 : decode cX1_lastAmong 31 = .ok (.iload_n 3, 1) := by decide +kernel
theorem dX1_lastAmong_32 : decode cX1_lastAmong 32 = .ok (.ishl, 1) := by decide +kernel
theorem dX1_lastAmong_33 : decode cX1_lastAmong 33 = .ok (.ior, 1) := by decide +kernel
theorem dX1_lastAmong_34 : decode cX1_lastAmong 34 = .ok (.istore_n 2, 1) := by decide +kernel
theorem dX1_lastAmong_35 : decode cX1_lastAmong 35 = .ok (.iinc 3 1, 3) := by decide +kernel
theorem dX1_lastAmong_38 : decode cX1_lastAmong 38 = .ok (.goto (-34), 3) := by decide +kernel
theorem dX1_lastAmong_41 : decode cX1_lastAmong 41 = .ok (.iload_n 2, 1) := by decide +kernel
theorem dX1_lastAmong_42 : decode cX1_lastAmong 42 = .ok (.ireturn, 1) := by decide +kernel
theorem dX1_pricesAmong_0 : decode cX1_pricesAmong 0 = .ok (.iconst 0, 1) := by decide +kernel
theorem dX1_pricesAmong_1 : decode cX1_pricesAmong 1 = .ok (.istore_n 3, 1) := by decide +kernel
theorem dX1_pricesAmong_2 : decode cX1_pricesAmong 2 = .ok (.iconst 0, 1) := by decide +kernel
theorem dX1_pricesAmong_3 : decode cX1_pricesAmong 3 = .ok (.istore 4, 2) := by decide +kernel
theorem dX1_pricesAmong_5 : decode cX1_pricesAmong 5 = .ok (.iload 4, 2) := by decide +kernel
theorem dX1_pricesAmong_7 : decode cX1_pricesAmong 7 = .ok (.bipush 8, 2) := by decide +kernel
theorem dX1_pricesAmong_9 : decode cX1_pricesAmong 9 = .ok (.if_icmp .ge 47, 3) := by decide +kernel
theorem dX1_pricesAmong_12 : decode cX1_pricesAmong 12 = .ok (.iload_n 1, 1) := by decide +kernel
theorem dX1_pricesAmong_13 : decode cX1_pricesAmong 13 = .ok (.iload_n 2, 1) := by decide +kernel
theorem dX1_pricesAmong_14 : decode cX1_pricesAmong 14 = .ok (.iand, 1) := by decide +kernel
theorem dX1_pricesAmong_15 : decode cX1_pricesAmong 15 = .ok (.iconst 1, 1) := by decide +kernel
theorem dX1_pricesAmong_16 : decode cX1_pricesAmong 16 = .ok (.iload 4, 2) := by decide +kernel
theorem dX1_pricesAmong_18 : decode cX1_pricesAmong 18 = .ok (.ishl, 1) := by decide +kernel
theorem dX1_pricesAmong_19 : decode cX1_pricesAmong 19 = .ok (.iand, 1) := by decide +kernel
theorem dX1_pricesAmong_20 : decode cX1_pricesAmong 20 = .ok (.ifCond .eq 30, 3) := by decide +kernel
theorem dX1_pricesAmong_23 : decode cX1_pricesAmong 23 = .ok (.iload_n 3, 1) := by decide +kernel
theorem dX1_pricesAmong_24 : decode cX1_pricesAmong 24 = .ok (.aload_n 0, 1) := by decide +kernel
theorem dX1_pricesAmong_25 : decode cX1_pricesAmong 25 = .ok (.getfield 15, 3) := by decide +kernel
theorem dX1_pricesAmong_28 : decode cX1_pricesAmong 28 = .ok (.iload 4, 2) := by decide +kernel
theorem dX1_pricesAmong_30 : decode cX1_pricesAmong 30 = .ok (.iaload, 1) := by decide +kernel
theorem dX1_pricesAmong_31 : decode cX1_pricesAmong 31 = .ok (.aload_n 0, 1) := by decide +kernel
theorem dX1_pricesAmong_32 : decode cX1_pricesAmong 32 = .ok (.getfield 9, 3) := by decide +kernel
theorem dX1_pricesAmong_35 : decode cX1_pricesAmong 35 = .ok (.iload 4, 2) := by decide +kernel
theorem dX1_pricesAmong_37 : decode cX1_pricesAmong 37 = .ok (.iaload, 1) := by decide +kernel
theorem dX1_pricesAmong_38 : decode cX1_pricesAmong 38 = .ok (.iload_n 2, 1) := by decide +kernel
theorem dX1_pricesAmong_39 : decode cX1_pricesAmong 39 = .ok (.iand, 1) := by decide +kernel
theorem dX1_pricesAmong_40 : decode cX1_pricesAmong 40 = .ok (.iconst 1, 1) := by decide +kernel
theorem dX1_pricesAmong_41 : decode cX1_pricesAmong 41 = .ok (.iload 4, 2) := by decide +kernel
theorem dX1_pricesAmong_43 : decode cX1_pricesAmong 43 = .ok (.ishl, 1) := by decide +kernel
theorem dX1_pricesAmong_44 : decode cX1_pricesAmong 44 = .ok (.ior, 1) := by decide +kernel
theorem dX1_pricesAmong_45 : decode cX1_pricesAmong 45 = .ok (.invokestatic 47, 3) := by decide +kernel
theorem dX1_pricesAmong_48 : decode cX1_pricesAmong 48 = .ok (.iadd, 1) := by decide +kernel
theorem dX1_pricesAmong_49 : decode cX1_pricesAmong 49 = .ok (.istore_n 3, 1) := by decide +kernel
theorem dX1_pricesAmong_50 : decode cX1_pricesAmong 50 = .ok (.iinc 4 1, 3) := by decide +kernel
theorem dX1_pricesAmong_53 : decode cX1_pricesAmong 53 = .ok (.goto (-48), 3) := by decide +kernel
theorem dX1_pricesAmong_56 : decode cX1_pricesAmong 56 = .ok (.iload_n 3, 1) := by decide +kernel
theorem dX1_pricesAmong_57 : decode cX1_pricesAmong 57 = .ok (.ireturn, 1) := by decide +kernel
theorem dX2_init_0 : decode cX2_init 0 = .ok (.aload_n 0, 1) := by decide +kernel
theorem dX2_init_1 : decode cX2_init 1 = .ok (.invokespecial 3, 3) := by decide +kernel
theorem dX2_init_4 : decode cX2_init 4 = .ok (.aload_n 0, 1) := by decide +kernel
theorem dX2_init_5 : decode cX2_init 5 = .ok (.bipush 8, 2) := by decide +kernel
theorem dX2_init_7 : decode cX2_init 7 = .ok (.newarray .int, 2) := by decide +kernel
theorem dX2_init_9 : decode cX2_init 9 = .ok (.putfield 9, 3) := by decide +kernel
theorem dX2_init_12 : decode cX2_init 12 = .ok (.aload_n 0, 1) := by decide +kernel
theorem dX2_init_13 : decode cX2_init 13 = .ok (.iconst 4, 1) := by decide +kernel
theorem dX2_init_14 : decode cX2_init 14 = .ok (.putfield 15, 3) := by decide +kernel
theorem dX2_init_17 : decode cX2_init 17 = .ok (.return_, 1) := by decide +kernel
theorem dX2_copyFrom_0 : decode cX2_copyFrom 0 = .ok (.aload_n 1, 1) := by decide +kernel
theorem dX2_copyFrom_1 : decode cX2_copyFrom 1 = .ok (.ifnonnull 4, 3) := by decide +kernel
theorem dX2_copyFrom_4 : decode cX2_copyFrom 4 = .ok (.return_, 1) := by decide +kernel
theorem dX2_copyFrom_5 : decode cX2_copyFrom 5 = .ok (.iconst 0, 1) := by decide +kernel
theorem dX2_copyFrom_6 : decode cX2_copyFrom 6 = .ok (.istore_n 2, 1) := by decide +kernel
theorem dX2_copyFrom_7 : decode cX2_copyFrom 7 = .ok (.iload_n 2, 1) := by decide +kernel
theorem dX2_copyFrom_8 : decode cX2_copyFrom 8 = .ok (.aload_n 0, 1) := by decide +kernel
theorem dX2_copyFrom_9 : decode cX2_copyFrom 9 = .ok (.getfield 9, 3) := by decide +kernel
theorem dX2_copyFrom_12 : decode cX2_copyFrom 12 = .ok (.arraylength, 1) := by decide +kernel
theorem dX2_copyFrom_13 : decode cX2_copyFrom 13 = .ok (.if_icmp .ge 23, 3) := by decide +kernel
theorem dX2_copyFrom_16 : decode cX2_copyFrom 16 = .ok (.aload_n 0, 1) := by decide +kernel
theorem dX2_copyFrom_17 : decode cX2_copyFrom 17 = .ok (.getfield 9, 3) := by decide +kernel
theorem dX2_copyFrom_20 : decode cX2_copyFrom 20 = .ok (.iload_n 2, 1) := by decide +kernel
theorem dX2_copyFrom_21 : decode cX2_copyFrom 21 = .ok (.aload_n 1, 1) := by decide +kernel
theorem dX2_copyFrom_22 : decode cX2_copyFrom 22 = .ok (.getfield 9, 3) := by decide +kernel
theorem dX2_copyFrom_25 : decode cX2_copyFrom 25 = .ok (.iload_n 2, 1) := by decide +kernel
theorem dX2_copyFrom_26 : decode cX2_copyFrom 26 = .ok (.invokestatic 19, 3) := by decide +kernel
theorem dX2_copyFrom_29 : decode cX2_copyFrom 29 = .ok (.iastore, 1) := by decide +kernel
theorem dX2_copyFrom_30 : decode cX2_copyFrom 30 = .ok (.iinc 2 1, 3) := by decide +kernel
theorem dX2_copyFrom_33 : decode cX2_copyFrom 33 = .ok (.goto (-26), 3) := by decide +kernel
theorem dX2_copyFrom_36 : decode cX2_copyFrom 36 = .ok (.aload_n 0, 1) := by decide +kernel
theorem dX2_copyFrom_37 : decode cX2_copyFrom 37 = .ok (.aload_n 1, 1) := by decide +kernel
theorem dX2_copyFrom_38 : decode cX2_copyFrom 38 = .ok (.getfield 23, 3) := by decide +kernel
theorem dX2_copyFrom_41 : decode cX2_copyFrom 41 = .ok (.putfield 23, 3) := by decide +kernel
theorem dX2_copyFrom_44 : decode cX2_copyFrom 44 = .ok (.aload_n 0, 1) := by decide +kernel
theorem dX2_copyFrom_45 : decode cX2_copyFrom 45 = .ok (.aload_n 1, 1) := by decide +kernel
theorem dX2_copyFrom_46 : decode cX2_copyFrom 46 = .ok (.getfield 15, 3) := by decide +kernel
theorem dX2_copyFrom_49 : decode cX2_copyFrom 49 = .ok (.putfield 15, 3) := by decide +kernel
theorem dX2_copyFrom_52 : decode cX2_copyFrom 52 = .ok (.aload_n 0, 1) := by decide +kernel
theorem dX2_copyFrom_53 : decode cX2_copyFrom 53 = .ok (.aload_n 1, 1) := by decide +kernel
theorem dX2_copyFrom_54 : decode cX2_copyFrom 54 = .ok (.getfield 26, 3) := by decide +kernel
theorem dX2_copyFrom_57 : decode cX2_copyFrom 57 = .ok (.putfield 26, 3) := by decide +kernel
theorem dX2_copyFrom_60 : decode cX2_copyFrom 60 = .ok (.aload_n 0, 1) := by decide +kernel
theorem dX2_copyFrom_61 : decode cX2_copyFrom 61 = .ok (.aload_n 1, 1) := by decide +kernel
theorem dX2_copyFrom_62 : decode cX2_copyFrom 62 = .ok (.getfield 29, 3) := by decide +kernel
theorem dX2_copyFrom_65 : decode cX2_copyFrom 65 = .ok (.putfield 29, 3) := by decide +kernel
theorem dX2_copyFrom_68 : decode cX2_copyFrom 68 = .ok (.aload_n 0, 1) := by decide +kernel
theorem dX2_copyFrom_69 : decode cX2_copyFrom 69 = .ok (.aload_n 1, 1) := by decide +kernel
theorem dX2_copyFrom_70 : decode cX2_copyFrom 70 = .ok (.getfield 32, 3) := by decide +kernel
theorem dX2_copyFrom_73 : decode cX2_copyFrom 73 = .ok (.putfield 32, 3) := by decide +kernel
theorem dX2_copyFrom_76 : decode cX2_copyFrom 76 = .ok (.aload_n 0, 1) := by decide +kernel
theorem dX2_copyFrom_77 : decode cX2_copyFrom 77 = .ok (.aload_n 1, 1) := by decide +kernel
theorem dX2_copyFrom_78 : decode cX2_copyFrom 78 = .ok (.getfield 35, 3) := by decide +kernel
theorem dX2_copyFrom_81 : decode cX2_copyFrom 81 = .ok (.putfield 35, 3) := by decide +kernel
theorem dX2_copyFrom_84 : decode cX2_copyFrom 84 = .ok (.aload_n 0, 1) := by decide +kernel
theorem dX2_copyFrom_85 : decode cX2_copyFrom 85 = .ok (.aload_n 1, 1) := by decide +kernel
theorem dX2_copyFrom_86 : decode cX2_copyFrom 86 = .ok (.getfield 38, 3) := by decide +kernel
theorem dX2_copyFrom_89 : decode cX2_copyFrom 89 = .ok (.putfield 38, 3) := by decide +kernel
theorem dX2_copyFrom_92 : decode cX2_copyFrom 92 = .ok (.return_, 1) := by decide +kernel
theorem dX2_readFrom_0 : decode cX2_readFrom 0 = .ok (.aload_n 0, 1) := by decide +kernel
theorem dX2_readFrom_1 : decode cX2_readFrom 1 = .ok (.aload_n 1, 1) := by decide +kernel
theorem dX2_readFrom_2 : decode cX2_readFrom 2 = .ok (.invokevirtual 41, 3) := by decide +kernel
theorem dX2_readFrom_5 : decode cX2_readFrom 5 = .ok (.bipush 8, 2) := by decide +kernel
theorem dX2_readFrom_7 : decode cX2_readFrom 7 = .ok (.invokestatic 47, 3) := by decide +kernel
theorem dX2_readFrom_10 : decode cX2_readFrom 10 = .ok (.putfield 23, 3) := by decide +kernel
theorem dX2_readFrom_13 : decode cX2_readFrom 13 = .ok (.aload_n 0, 1) := by decide +kernel
theorem dX2_readFrom_14 : decode cX2_readFrom 14 = .ok (.aload_n 1, 1) := by decide +kernel
theorem dX2_readFrom_15 : decode cX2_readFrom 15 = .ok (.invokevirtual 53, 3) := by decide +kernel
theorem dX2_readFrom_18 : decode cX2_readFrom 18 = .ok (.putfield 15, 3) := by decide +kernel
theorem dX2_readFrom_21 : decode cX2_readFrom 21 = .ok (.aload_n 0, 1) := by decide +kernel
theorem dX2_readFrom_22 : decode cX2_readFrom 22 = .ok (.iconst 0, 1) := by decide +kernel
theorem dX2_readFrom_23 : decode cX2_readFrom 23 = .ok (.putfield 26, 3) := by decide +kernel
theorem dX2_readFrom_26 : decode cX2_readFrom 26 = .ok (.aload_n 0, 1) := by decide +kernel
theorem dX2_readFrom_27 : decode cX2_readFrom 27 = .ok (.iconst 0, 1) := by decide +kernel
theorem dX2_readFrom_28 : decode cX2_readFrom 28 = .ok (.putfield 29, 3) := by decide +kernel
theorem dX2_readFrom_31 : decode cX2_readFrom 31 = .ok (.aload_n 0, 1) := by decide +kernel
theorem dX2_readFrom_32 : decode cX2_readFrom 32 = .ok (.iconst 0, 1) := by decide +kernel
theorem dX2_readFrom_33 : decode cX2_readFrom 33 = .ok (.putfield 32, 3) := by decide +kernel
theorem dX2_readFrom_36 : decode cX2_readFrom 36 = .ok (.aload_n 0, 1) := by decide +kernel
theorem dX2_readFrom_37 : decode cX2_readFrom 37 = .ok (.iconst 0, 1) := by decide +kernel
theorem dX2_readFrom_38 : decode cX2_readFrom 38 = .ok (.putfield 35, 3) := by decide +kernel
theorem dX2_readFrom_41 : decode cX2_readFrom 41 = .ok (.aload_n 0, 1) := by decide +kernel
theorem dX2_readFrom_42 : decode cX2_readFrom 42 = .ok (.iconst 0, 1) := by decide +kernel
theorem dX2_readFrom_43 : decode cX2_readFrom 43 = .ok (.putfield 38, 3) := by decide +kernel
theorem dX2_readFrom_46 : decode cX2_readFrom 46 = .ok (.iconst 0, 1) := by decide +kernel
theorem dX2_readFrom_47 : decode cX2_readFrom 47 = .ok (.istore_n 2, 1) := by decide +kernel
theorem dX2_readFrom_48 : decode cX2_readFrom 48 = .ok (.iload_n 2, 1) := by decide +kernel
theorem dX2_readFrom_49 : decode cX2_readFrom 49 = .ok (.aload_n 0, 1) := by decide +kernel
theorem dX2_readFrom_50 : decode cX2_readFrom 50 = .ok (.getfield 9, 3) := by decide +kernel
theorem dX2_readFrom_53 : decode cX2_readFrom 53 = .ok (.arraylength, 1) := by decide +kernel
theorem dX2_readFrom_54 : decode cX2_readFrom 54 = .ok (.if_icmp .ge 75, 3) := by decide +kernel
theorem dX2_readFrom_57 : decode cX2_readFrom 57 = .ok (.iload_n 2, 1) := by decide +kernel
theorem dX2_readFrom_58 : decode cX2_readFrom 58 = .ok (.aload_n 0, 1) := by decide +kernel
theorem dX2_readFrom_59 : decode cX2_readFrom 59 = .ok (.getfield 23, 3) := by decide +kernel
theorem dX2_readFrom_62 : decode cX2_readFrom 62 = .ok (.if_icmp .ge 67, 3) := by decide +kernel
theorem dX2_readFrom_65 : decode cX2_readFrom 65 = .ok (.aload_n 0, 1) := by decide +kernel
theorem dX2_readFrom_66 : decode cX2_readFrom 66 = .ok (.getfield 9, 3) := by decide +kernel
theorem dX2_readFrom_69 : decode cX2_readFrom 69 = .ok (.iload_n 2, 1) := by decide +kernel
theorem dX2_readFrom_70 : decode cX2_readFrom 70 = .ok (.iconst 0, 1) := by decide +kernel
theorem dX2_readFrom_71 : decode cX2_readFrom 71 = .ok (.iastore, 1) := by decide +kernel
theorem dX2_readFrom_72 : decode cX2_readFrom 72 = .ok (.iconst 0, 1) := by decide +kernel
theorem dX2_readFrom_73 : decode cX2_readFrom 73 = .ok (.istore_n 3, 1) := by decide +kernel
theorem dX2_readFrom_74 : decode cX2_readFrom 74 = .ok (.iload_n 3, 1) := by decide +kernel
theorem dX2_readFrom_75 : decode cX2_readFrom 75 = .ok (.bipush 7, 2) := by decide +kernel
theorem dX2_readFrom_77 : decode cX2_readFrom 77 = .ok (.if_icmp .ge 28, 3) := by decide +kernel
theorem dX2_readFrom_80 : decode cX2_readFrom 80 = .ok (.aload_n 0, 1) := by decide +kernel
theorem dX2_readFrom_81 : decode cX2_readFrom 81 = .ok (.getfield 9, 3) := by decide +kernel
theorem dX2_readFrom_84 : decode cX2_readFrom 84 = .ok (.iload_n 2, 1) := by decide +kernel
theorem dX2_readFrom_85 : decode cX2_readFrom 85 = .ok (.dup2, 1) := by decide +kernel
theorem dX2_readFrom_86 : decode cX2_readFrom 86 = .ok (.iaload, 1) := by decide +kernel
theorem dX2_readFrom_87 : decode cX2_readFrom 87 = .ok (.aload_n 1, 1) := by decide +kernel
theorem dX2_readFrom_88 : decode cX2_readFrom 88 = .ok (.iload_n 2, 1) := by decide +kernel
theorem dX2_readFrom_89 : decode cX2_readFrom 89 = .ok (.iload_n 3, 1) := by decide +kernel
theorem dX2_readFrom_90 : decode cX2_readFrom 90 = .ok (.invokevirtual 56, 3) := by decide +kernel
theorem dX2_readFrom_93 : decode cX2_readFrom 93 = .ok (.iconst 4, 1) := by decide +kernel
theorem dX2_readFrom_94 : decode cX2_readFrom 94 = .ok (.iload_n 3, 1) := by decide +kernel
theorem dX2_readFrom_95 : decode cX2_readFrom 95 = .ok (.imul, 1) := by decide +kernel
theorem dX2_readFrom_96 : decode cX2_readFrom 96 = .ok (.ishl, 1) := by decide +kernel
theorem dX2_readFrom_97 : decode cX2_readFrom 97 = .ok (.ior, 1) := by decide +kernel
theorem dX2_readFrom_98 : decode cX2_readFrom 98 = .ok (.iastore, 1) := by decide +kernel
theorem dX2_readFrom_99 : decode cX2_readFrom 99 = .ok (.iinc 3 1, 3) := by decide +kernel
theorem dX2_readFrom_102 : decode cX2_readFrom 102 = .ok (.goto (-28), 3) := by decide +kernel
theorem dX2_readFrom_105 : decode cX2_readFrom 105 = .ok (.aload_n 0, 1) := by decide +kernel
theorem dX2_readFrom_106 : decode cX2_readFrom 106 = .ok (.dup, 1) := by decide +kernel
theorem dX2_readFrom_107 : decode cX2_readFrom 107 = .ok (.getfield 29, 3) := by decide +kernel
theorem dX2_readFrom_110 : decode cX2_readFrom 110 = .ok (.aload_n 1, 1) := by decide +kernel
theorem dX2_readFrom_111 : decode cX2_readFrom 111 = .ok (.iload_n 2, 1) := by decide +kernel
theorem dX2_readFrom_112 : decode cX2_readFrom 112 = .ok (.bipush 7, 2) := by decide +kernel
theorem dX2_readFrom_114 : decode cX2_readFrom 114 = .ok (.invokevirtual 56, 3) := by decide +kernel
theorem dX2_readFrom_117 : decode cX2_readFrom 117 = .ok (.iload_n 2, 1) := by decide +kernel
theorem dX2_readFrom_118 : decode cX2_readFrom 118 = .ok (.ishl, 1) := by decide +kernel
theorem dX2_readFrom_119 : decode cX2_readFrom 119 = .ok (.ior, 1) := by decide +kernel
theorem dX2_readFrom_120 : decode cX2_readFrom 120 = .ok (.putfield 29, 3) := by decide +kernel
theorem dX2_readFrom_123 : decode cX2_readFrom 123 = .ok (.iinc 2 1, 3) := by decide +kernel
theorem dX2_readFrom_126 : decode cX2_readFrom 126 = .ok (.goto (-78), 3) := by decide +kernel
theorem dX2_readFrom_129 : decode cX2_readFrom 129 = .ok (.return_, 1) := by decide +kernel
theorem dX2_has_0 : decode cX2_has 0 = .ok (.iload_n 1, 1) := by decide +kernel
theorem dX2_has_1 : decode cX2_has 1 = .ok (.ifCond .lt 15, 3) := by decide +kernel
theorem dX2_has_4 : decode cX2_has 4 = .ok (.iload_n 1, 1) := by decide +kernel
theorem dX2_has_5 : decode cX2_has 5 = .ok (.aload_n 0, 1) := by decide +kernel
theorem dX2_has_6 : decode cX2_has 6 = .ok (.getfield 23, 3) := by decide +kernel
theorem dX2_has_9 : decode cX2_has 9 = .ok (.if_icmp .ge 7, 3) := by decide +kernel
theorem dX2_has_12 : decode cX2_has 12 = .ok (.iconst 1, 1) := by decide +kernel
theorem dX2_has_13 : decode cX2_has 13 = .ok (.goto 4, 3) := by decide +kernel
theorem dX2_has_16 : decode cX2_has 16 = .ok (.iconst 0, 1) := by decide +kernel
theorem dX2_has_17 : decode cX2_has 17 = .ok (.ireturn, 1) := by decide +kernel
theorem dX2_figure_0 : decode cX2_figure 0 = .ok (.aload_n 0, 1) := by decide +kernel
theorem dX2_figure_1 : decode cX2_figure 1 = .ok (.getfield 9, 3) := by decide +kernel
theorem dX2_figure_4 : decode cX2_figure 4 = .ok (.iload_n 1, 1) := by decide +kernel
theorem dX2_figure_5 : decode cX2_figure 5 = .ok (.invokestatic 19, 3) := by decide +kernel
theorem dX2_figure_8 : decode cX2_figure 8 = .ok (.iconst 4, 1) := by decide +kernel
theorem dX2_figure_9 : decode cX2_figure 9 = .ok (.iload_n 2, 1) := by decide +kernel
theorem dX2_figure_10 : decode cX2_figure 10 = .ok (.imul, 1) := by decide +kernel
theorem dX2_figure_11 : decode cX2_figure 11 = .ok (.ishr, 1) := by decide +kernel
theorem dX2_figure_12 : decode cX2_figure 12 = .ok (.bipush 15, 2) := by decide +kernel
theorem dX2_figure_14 : decode cX2_figure 14 = .ok (.iand, 1) := by decide +kernel
theorem dX2_figure_15 : decode cX2_figure 15 = .ok (.ireturn, 1) := by decide +kernel
theorem dX2_all_0 : decode cX2_all 0 = .ok (.iconst 1, 1) := by decide +kernel
theorem dX2_all_1 : decode cX2_all 1 = .ok (.aload_n 0, 1) := by decide +kernel
theorem dX2_all_2 : decode cX2_all 2 = .ok (.getfield 23, 3) := by decide +kernel
theorem dX2_all_5 : decode cX2_all 5 = .ok (.ishl, 1) := by decide +kernel
theorem dX2_all_6 : decode cX2_all 6 = .ok (.iconst 1, 1) := by decide +kernel
theorem dX2_all_7 : decode cX2_all 7 = .ok (.isub, 1) := by decide +kernel
theorem dX2_all_8 : decode cX2_all 8 = .ok (.ireturn, 1) := by decide +kernel
theorem dX2_there_0 : decode cX2_there 0 = .ok (.aload_n 0, 1) := by decide +kernel
theorem dX2_there_1 : decode cX2_there 1 = .ok (.invokevirtual 59, 3) := by decide +kernel
theorem dX2_there_4 : decode cX2_there 4 = .ok (.aload_n 0, 1) := by decide +kernel
theorem dX2_there_5 : decode cX2_there 5 = .ok (.getfield 32, 3) := by decide +kernel
theorem dX2_there_8 : decode cX2_there 8 = .ok (.iconst (-1), 1) := by decide +kernel
theorem dX2_there_9 : decode cX2_there 9 = .ok (.ixor, 1) := by decide +kernel
theorem dX2_there_10 : decode cX2_there 10 = .ok (.iand, 1) := by decide +kernel
theorem dX2_there_11 : decode cX2_there 11 = .ok (.ireturn, 1) := by decide +kernel
theorem dX2_shown_0 : decode cX2_shown 0 = .ok (.aload_n 0, 1) := by decide +kernel
theorem dX2_shown_1 : decode cX2_shown 1 = .ok (.invokevirtual 62, 3) := by decide +kernel
theorem dX2_shown_4 : decode cX2_shown 4 = .ok (.aload_n 0, 1) := by decide +kernel
theorem dX2_shown_5 : decode cX2_shown 5 = .ok (.getfield 35, 3) := by decide +kernel
theorem dX2_shown_8 : decode cX2_shown 8 = .ok (.iconst (-1), 1) := by decide +kernel
theorem dX2_shown_9 : decode cX2_shown 9 = .ok (.ixor, 1) := by decide +kernel
theorem dX2_shown_10 : decode cX2_shown 10 = .ok (.iand, 1) := by decide +kernel
theorem dX2_shown_11 : decode cX2_shown 11 = .ok (.ireturn, 1) := by decide +kernel
theorem dX2_unseen_0 : decode cX2_unseen 0 = .ok (.aload_n 0, 1) := by decide +kernel
theorem dX2_unseen_1 : decode cX2_unseen 1 = .ok (.invokevirtual 62, 3) := by decide +kernel
theorem dX2_unseen_4 : decode cX2_unseen 4 = .ok (.aload_n 0, 1) := by decide +kernel
theorem dX2_unseen_5 : decode cX2_unseen 5 = .ok (.getfield 35, 3) := by decide +kernel
theorem dX2_unseen_8 : decode cX2_unseen 8 = .ok (.iand, 1) := by decide +kernel
theorem dX2_unseen_9 : decode cX2_unseen 9 = .ok (.ireturn, 1) := by decide +kernel
theorem dX2_breakable_0 : decode cX2_breakable 0 = .ok (.aload_n 0, 1) := by decide +kernel
theorem dX2_breakable_1 : decode cX2_breakable 1 = .ok (.invokevirtual 62, 3) := by decide +kernel
theorem dX2_breakable_4 : decode cX2_breakable 4 = .ok (.aload_n 0, 1) := by decide +kernel
theorem dX2_breakable_5 : decode cX2_breakable 5 = .ok (.getfield 38, 3) := by decide +kernel
theorem dX2_breakable_8 : decode cX2_breakable 8 = .ok (.iconst (-1), 1) := by decide +kernel
theorem dX2_breakable_9 : decode cX2_breakable 9 = .ok (.ixor, 1) := by decide +kernel
theorem dX2_breakable_10 : decode cX2_breakable 10 = .ok (.iand, 1) := by decide +kernel
theorem dX2_breakable_11 : decode cX2_breakable 11 = .ok (.aload_n 0, 1) := by decide +kernel
theorem dX2_breakable_12 : decode cX2_breakable 12 = .ok (.getfield 29, 3) := by decide +kernel
theorem dX2_breakable_15 : decode cX2_breakable 15 = .ok (.iconst (-1), 1) := by decide +kernel
theorem dX2_breakable_16 : decode cX2_breakable 16 = .ok (.ixor, 1) := by decide +kernel
theorem dX2_breakable_17 : decode cX2_breakable 17 = .ok (.iand, 1) := by decide +kernel
theorem dX2_breakable_18 : decode cX2_breakable 18 = .ok (.ireturn, 1) := by decide +kernel
theorem dX2_alikeTo_0 : decode cX2_alikeTo 0 = .ok (.iconst 0, 1) := by decide +kernel
theorem dX2_alikeTo_1 : decode cX2_alikeTo 1 = .ok (.istore 4, 2) := by decide +kernel
theorem dX2_alikeTo_3 : decode cX2_alikeTo 3 = .ok (.iconst 0, 1) := by decide +kernel
theorem dX2_alikeTo_4 : decode cX2_alikeTo 4 = .ok (.istore 5, 2) := by decide +kernel
theorem dX2_alikeTo_6 : decode cX2_alikeTo 6 = .ok (.iload 5, 2) := by decide +kernel
theorem dX2_alikeTo_8 : decode cX2_alikeTo 8 = .ok (.aload_n 0, 1) := by decide +kernel
theorem dX2_alikeTo_9 : decode cX2_alikeTo 9 = .ok (.getfield 23, 3) := by decide +kernel
theorem dX2_alikeTo_12 : decode cX2_alikeTo 12 = .ok (.if_icmp .ge 47, 3) := by decide +kernel
theorem dX2_alikeTo_15 : decode cX2_alikeTo 15 = .ok (.iload 5, 2) := by decide +kernel
theorem dX2_alikeTo_17 : decode cX2_alikeTo 17 = .ok (.iload_n 1, 1) := by decide +kernel
theorem dX2_alikeTo_18 : decode cX2_alikeTo 18 = .ok (.if_icmp .eq 35, 3) := by decide +kernel
theorem dX2_alikeTo_21 : decode cX2_alikeTo 21 = .ok (.iload_n 3, 1) := by decide +kernel
theorem dX2_alikeTo_22 : decode cX2_alikeTo 22 = .ok (.iload 5, 2) := by decide +kernel
theorem dX2_alikeTo_24 : decode cX2_alikeTo 24 = .ok (.invokestatic 65, 3) := by decide +kernel
theorem dX2_alikeTo_27 : decode cX2_alikeTo 27 = .ok (.ifCond .eq 26, 3) := by decide +kernel
theorem dX2_alikeTo_30 : decode cX2_alikeTo 30 = .ok (.aload_n 0, 1) := by decide +kernel
theorem dX2_alikeTo_31 : decode cX2_alikeTo 31 = .ok (.iload_n 1, 1) := by decide +kernel
theorem dX2_alikeTo_32 : decode cX2_alikeTo 32 = .ok (.iload 5, 2) := by decide +kernel
theorem dX2_alikeTo_34 : decode cX2_alikeTo 34 = .ok (.invokevirtual 69, 3) := by decide +kernel
theorem dX2_alikeTo_37 : decode cX2_alikeTo 37 = .ok (.invokestatic 72, 3) := by decide +kernel
theorem dX2_alikeTo_40 : decode cX2_alikeTo 40 = .ok (.iload_n 2, 1) := by decide +kernel
theorem dX2_alikeTo_41 : decode cX2_alikeTo 41 = .ok (.if_icmp .lt 12, 3) := by decide +kernel
theorem dX2_alikeTo_44 : decode cX2_alikeTo 44 = .ok (.iload 4, 2) := by decide +kernel
theorem dX2_alikeTo_46 : decode cX2_alikeTo 46 = .ok (.iconst 1, 1) := by decide +kernel
theorem dX2_alikeTo_47 : decode cX2_alikeTo 47 = .ok (.iload 5, 2) := by decide +kernel
theorem dX2_alikeTo_49 : decode cX2_alikeTo 49 = .ok (.ishl, 1) := by decide +kernel
theorem dX2_alikeTo_50 : decode cX2_alikeTo 50 = .ok (.ior, 1) := by decide +kernel
theorem dX2_alikeTo_51 : decode cX2_alikeTo 51 = .ok (.istore 4, 2) := by decide +kernel
theorem dX2_alikeTo_53 : decode cX2_alikeTo 53 = .ok (.iinc 5 1, 3) := by decide +kernel
theorem dX2_alikeTo_56 : decode cX2_alikeTo 56 = .ok (.goto (-50), 3) := by decide +kernel
theorem dX2_alikeTo_59 : decode cX2_alikeTo 59 = .ok (.iload 4, 2) := by decide +kernel
theorem dX2_alikeTo_61 : decode cX2_alikeTo 61 = .ok (.ireturn, 1) := by decide +kernel
theorem dX2_sameMarks_0 : decode cX2_sameMarks 0 = .ok (.aload_n 0, 1) := by decide +kernel
theorem dX2_sameMarks_1 : decode cX2_sameMarks 1 = .ok (.getfield 9, 3) := by decide +kernel
theorem dX2_sameMarks_4 : decode cX2_sameMarks 4 = .ok (.iload_n 1, 1) := by decide +kernel
theorem dX2_sameMarks_5 : decode cX2_sameMarks 5 = .ok (.invokestatic 19, 3) := by decide +kernel
theorem dX2_sameMarks_8 : decode cX2_sameMarks 8 = .ok (.aload_n 0, 1) := by decide +kernel
theorem dX2_sameMarks_9 : decode cX2_sameMarks 9 = .ok (.getfield 9, 3) := by decide +kernel
theorem dX2_sameMarks_12 : decode cX2_sameMarks 12 = .ok (.iload_n 2, 1) := by decide +kernel
theorem dX2_sameMarks_13 : decode cX2_sameMarks 13 = .ok (.invokestatic 19, 3) := by decide +kernel
theorem dX2_sameMarks_16 : decode cX2_sameMarks 16 = .ok (.ixor, 1) := by decide +kernel
theorem dX2_sameMarks_17 : decode cX2_sameMarks 17 = .ok (.istore_n 3, 1) := by decide +kernel
theorem dX2_sameMarks_18 : decode cX2_sameMarks 18 = .ok (.iconst 0, 1) := by decide +kernel
theorem dX2_sameMarks_19 : decode cX2_sameMarks 19 = .ok (.istore 4, 2) := by decide +kernel
theorem dX2_sameMarks_21 : decode cX2_sameMarks 21 = .ok (.iconst 0, 1) := by decide +kernel
theorem dX2_sameMarks_22 : decode cX2_sameMarks 22 = .ok (.istore 5, 2) := by decide +kernel
theorem dX2_sameMarks_24 : decode cX2_sameMarks 24 = .ok (.iload 5, 2) := by decide +kernel
theorem dX2_sameMarks_26 : decode cX2_sameMarks 26 = .ok (.iconst 4, 1) := by decide +kernel
theorem dX2_sameMarks_27 : decode cX2_sameMarks 27 = .ok (.if_icmp .ge 30, 3) := by decide +kernel
theorem dX2_sameMarks_30 : decode cX2_sameMarks 30 = .ok (.iload_n 3, 1) := by decide +kernel
theorem dX2_sameMarks_31 : decode cX2_sameMarks 31 = .ok (.iconst 4, 1) := by decide +kernel
theorem dX2_sameMarks_32 : decode cX2_sameMarks 32 = .ok (.iload 5, 2) := by decide +kernel
theorem dX2_sameMarks_34 : decode cX2_sameMarks 34 = .ok (.imul, 1) := by decide +kernel
theorem dX2_sameMarks_35 : decode cX2_sameMarks 35 = .ok (.ishr, 1) := by decide +kernel
theorem dX2_sameMarks_36 : decode cX2_sameMarks 36 = .ok (.bipush 15, 2) := by decide +kernel
theorem dX2_sameMarks_38 : decode cX2_sameMarks 38 = .ok (.iand, 1) := by decide +kernel
theorem dX2_sameMarks_39 : decode cX2_sameMarks 39 = .ok (.ifCond .ne 12, 3) := by decide +kernel
theorem dX2_sameMarks_42 : decode cX2_sameMarks 42 = .ok (.iload 4, 2) := by decide +kernel
theorem dX2_sameMarks_44 : decode cX2_sameMarks 44 = .ok (.iconst 1, 1) := by decide +kernel
theorem dX2_sameMarks_45 : decode cX2_sameMarks 45 = .ok (.iload 5, 2) := by decide +kernel
theorem dX2_sameMarks_47 : decode cX2_sameMarks 47 = .ok (.ishl, 1) := by decide +kernel
theorem dX2_sameMarks_48 : decode cX2_sameMarks 48 = .ok (.ior, 1) := by decide +kernel
theorem dX2_sameMarks_49 : decode cX2_sameMarks 49 = .ok (.istore 4, 2) := by decide +kernel
theorem dX2_sameMarks_51 : decode cX2_sameMarks 51 = .ok (.iinc 5 1, 3) := by decide +kernel
theorem dX2_sameMarks_54 : decode cX2_sameMarks 54 = .ok (.goto (-30), 3) := by decide +kernel
theorem dX2_sameMarks_57 : decode cX2_sameMarks 57 = .ok (.iload 4, 2) := by decide +kernel
theorem dX2_sameMarks_59 : decode cX2_sameMarks 59 = .ok (.ireturn, 1) := by decide +kernel
theorem dX2_lastOnes_0 : decode cX2_lastOnes 0 = .ok (.aload_n 0, 1) := by decide +kernel
theorem dX2_lastOnes_1 : decode cX2_lastOnes 1 = .ok (.aload_n 0, 1) := by decide +kernel
theorem dX2_lastOnes_2 : decode cX2_lastOnes 2 = .ok (.getfield 15, 3) := by decide +kernel
theorem dX2_lastOnes_5 : decode cX2_lastOnes 5 = .ok (.aload_n 0, 1) := by decide +kernel
theorem dX2_lastOnes_6 : decode cX2_lastOnes 6 = .ok (.invokevirtual 78, 3) := by decide +kernel
theorem dX2_lastOnes_9 : decode cX2_lastOnes 9 = .ok (.invokevirtual 81, 3) := by decide +kernel
theorem dX2_lastOnes_12 : decode cX2_lastOnes 12 = .ok (.ireturn, 1) := by decide +kernel
theorem dX2_lastOnesBy_0 : decode cX2_lastOnesBy 0 = .ok (.iconst 0, 1) := by decide +kernel
theorem dX2_lastOnesBy_1 : decode cX2_lastOnesBy 1 = .ok (.istore_n 3, 1) := by decide +kernel
theorem dX2_lastOnesBy_2 : decode cX2_lastOnesBy 2 = .ok (.iconst 0, 1) := by decide +kernel
theorem dX2_lastOnesBy_3 : decode cX2_lastOnesBy 3 = .ok (.istore 4, 2) := by decide +kernel
theorem dX2_lastOnesBy_5 : decode cX2_lastOnesBy 5 = .ok (.iload 4, 2) := by decide +kernel
theorem dX2_lastOnesBy_7 : decode cX2_lastOnesBy 7 = .ok (.aload_n 0, 1) := by decide +kernel
theorem dX2_lastOnesBy_8 : decode cX2_lastOnesBy 8 = .ok (.getfield 23, 3) := by decide +kernel
theorem dX2_lastOnesBy_11 : decode cX2_lastOnesBy 11 = .ok (.if_icmp .ge 36, 3) := by decide +kernel
theorem dX2_lastOnesBy_14 : decode cX2_lastOnesBy 14 = .ok (.iload_n 2, 1) := by decide +kernel
theorem dX2_lastOnesBy_15 : decode cX2_lastOnesBy 15 = .ok (.iload 4, 2) := by decide +kernel
theorem dX2_lastOnesBy_17 : decode cX2_lastOnesBy 17 = .ok (.invokestatic 65, 3) := by decide +kernel
theorem dX2_lastOnesBy_20 : decode cX2_lastOnesBy 20 = .ok (.ifCond .eq 21, 3) := by decide +kernel
theorem dX2_lastOnesBy_23 : decode cX2_lastOnesBy 23 = .ok (.aload_n 0, 1) := by decide +kernel
theorem dX2_lastOnesBy_24 : decode cX2_lastOnesBy 24 = .ok (.iload 4, 2) := by decide +kernel
theorem dX2_lastOnesBy_26 : decode cX2_lastOnesBy 26 = .ok (.iload_n 1, 1) := by decide +kernel
theorem dX2_lastOnesBy_27 : decode cX2_lastOnesBy 27 = .ok (.iload_n 2, 1) := by decide +kernel
theorem dX2_lastOnesBy_28 : decode cX2_lastOnesBy 28 = .ok (.invokevirtual 84, 3) := by decide +kernel
theorem dX2_lastOnesBy_31 : decode cX2_lastOnesBy 31 = .ok (.ifCond .ne 10, 3) := by decide +kernel
theorem dX2_lastOnesBy_34 : decode cX2_lastOnesBy 34 = .ok (.iload_n 3, 1) := by decide +kernel
theorem dX2_lastOnesBy_35 : decode cX2_lastOnesBy 35 = .ok (.iconst 1, 1) := by decide +kernel
theorem dX2_lastOnesBy_36 : decode cX2_lastOnesBy 36 = .ok (.iload 4, 2) := by decide +kernel
theorem dX2_lastOnesBy_38 : decode cX2_lastOnesBy 38 = .ok (.ishl, 1) := by decide +kernel
theorem dX2_lastOnesBy_39 : decode cX2_lastOnesBy 39 = .ok (.ior, 1) := by decide +kernel
theorem dX2_lastOnesBy_40 : decode cX2_lastOnesBy 40 = .ok (.istore_n 3, 1) := by decide +kernel
theorem dX2_lastOnesBy_41 : decode cX2_lastOnesBy 41 = .ok (.iinc 4 1, 3) := by decide +kernel
theorem dX2_lastOnesBy_44 : decode cX2_lastOnesBy 44 = .ok (.goto (-39), 3) := by decide +kernel
theorem dX2_lastOnesBy_47 : decode cX2_lastOnesBy 47 = .ok (.iload_n 3, 1) := by decide +kernel
theorem dX2_lastOnesBy_48 : decode cX2_lastOnesBy 48 = .ok (.ireturn, 1) := by decide +kernel
theorem dX2_priceOf_0 : decode cX2_priceOf 0 = .ok (.aload_n 0, 1) := by decide +kernel
theorem dX2_priceOf_1 : decode cX2_priceOf 1 = .ok (.invokevirtual 78, 3) := by decide +kernel
theorem dX2_priceOf_4 : decode cX2_priceOf 4 = .ok (.istore_n 2, 1) := by decide +kernel
theorem dX2_priceOf_5 : decode cX2_priceOf 5 = .ok (.iload_n 2, 1) := by decide +kernel
theorem dX2_priceOf_6 : decode cX2_priceOf 6 = .ok (.iload_n 1, 1) := by decide +kernel
theorem dX2_priceOf_7 : decode cX2_priceOf 7 = .ok (.invokestatic 65, 3) := by decide +kernel
theorem dX2_priceOf_10 : decode cX2_priceOf 10 = .ok (.ifCond .ne 5, 3) := by decide +kernel
theorem dX2_priceOf_13 : decode cX2_priceOf 13 = .ok (.iconst 0, 1) := by decide +kernel
theorem dX2_priceOf_14 : decode cX2_priceOf 14 = .ok (.ireturn, 1) := by decide +kernel
theorem dX2_priceOf_15 : decode cX2_priceOf 15 = .ok (.aload_n 0, 1) := by decide +kernel
theorem dX2_priceOf_16 : decode cX2_priceOf 16 = .ok (.iload_n 1, 1) := by decide +kernel
theorem dX2_priceOf_17 : decode cX2_priceOf 17 = .ok (.iconst 5, 1) := by decide +kernel
theorem dX2_priceOf_18 : decode cX2_priceOf 18 = .ok (.invokevirtual 88, 3) := by decide +kernel
theorem dX2_priceOf_21 : decode cX2_priceOf 21 = .ok (.aload_n 0, 1) := by decide +kernel
theorem dX2_priceOf_22 : decode cX2_priceOf 22 = .ok (.iload_n 1, 1) := by decide +kernel
theorem dX2_priceOf_23 : decode cX2_priceOf 23 = .ok (.aload_n 0, 1) := by decide +kernel
theorem dX2_priceOf_24 : decode cX2_priceOf 24 = .ok (.getfield 15, 3) := by decide +kernel
theorem dX2_priceOf_27 : decode cX2_priceOf 27 = .ok (.iload_n 2, 1) := by decide +kernel
theorem dX2_priceOf_28 : decode cX2_priceOf 28 = .ok (.invokevirtual 84, 3) := by decide +kernel
theorem dX2_priceOf_31 : decode cX2_priceOf 31 = .ok (.iconst 1, 1) := by decide +kernel
theorem dX2_priceOf_32 : decode cX2_priceOf 32 = .ok (.iload_n 1, 1) := by decide +kernel
theorem dX2_priceOf_33 : decode cX2_priceOf 33 = .ok (.ishl, 1) := by decide +kernel
theorem dX2_priceOf_34 : decode cX2_priceOf 34 = .ok (.ior, 1) := by decide +kernel
theorem dX2_priceOf_35 : decode cX2_priceOf 35 = .ok (.invokestatic 91, 3) := by decide +kernel
theorem dX2_priceOf_38 : decode cX2_priceOf 38 = .ok (.ireturn, 1) := by decide +kernel
theorem dX2_shareOf_0 : decode cX2_shareOf 0 = .ok (.iload_n 1, 1) := by decide +kernel
theorem dX2_shareOf_1 : decode cX2_shareOf 1 = .ok (.invokestatic 72, 3) := by decide +kernel
theorem dX2_shareOf_4 : decode cX2_shareOf 4 = .ok (.istore_n 2, 1) := by decide +kernel
theorem dX2_shareOf_5 : decode cX2_shareOf 5 = .ok (.iload_n 2, 1) := by decide +kernel
theorem dX2_shareOf_6 : decode cX2_shareOf 6 = .ok (.ifCond .le 12, 3) := by decide +kernel
theorem dX2_shareOf_9 : decode cX2_shareOf 9 = .ok (.bipush 12, 2) := by decide +kernel
theorem dX2_shareOf_11 : decode cX2_shareOf 11 = .ok (.iload_n 0, 1) := by decide +kernel
theorem dX2_shareOf_12 : decode cX2_shareOf 12 = .ok (.imul, 1) := by decide +kernel
theorem dX2_shareOf_13 : decode cX2_shareOf 13 = .ok (.iload_n 2, 1) := by decide +kernel
theorem dX2_shareOf_14 : decode cX2_shareOf 14 = .ok (.idiv, 1) := by decide +kernel
theorem dX2_shareOf_15 : decode cX2_shareOf 15 = .ok (.goto 4, 3) := by decide +kernel
theorem dX2_shareOf_18 : decode cX2_shareOf 18 = .ok (.iconst 0, 1) := by decide +kernel
theorem dX2_shareOf_19 : decode cX2_shareOf 19 = .ok (.ireturn, 1) := by decide +kernel
theorem dX2_canBe_0 : decode cX2_canBe 0 = .ok (.aload_n 0, 1) := by decide +kernel
theorem dX2_canBe_1 : decode cX2_canBe 1 = .ok (.iload_n 2, 1) := by decide +kernel
theorem dX2_canBe_2 : decode cX2_canBe 2 = .ok (.invokevirtual 94, 3) := by decide +kernel
theorem dX2_canBe_5 : decode cX2_canBe 5 = .ok (.ifCond .ne 5, 3) := by decide +kernel
theorem dX2_canBe_8 : decode cX2_canBe 8 = .ok (.iconst 0, 1) := by decide +kernel
theorem dX2_canBe_9 : decode cX2_canBe 9 = .ok (.ireturn, 1) := by decide +kernel
theorem dX2_canBe_10 : decode cX2_canBe 10 = .ok (.iload_n 1, 1) := by decide +kernel
theorem dX2_canBe_11 : decode cX2_canBe 11 = .ok (.tableswitch 87 0 3 #[29, 38, 62, 78], 29) := by decide +kernel
theorem dX2_canBe_40 : decode cX2_canBe 40 = .ok (.aload_n 0, 1) := by decide +kernel
theorem dX2_canBe_41 : decode cX2_canBe 41 = .ok (.invokevirtual 98, 3) := by decide +kernel
theorem dX2_canBe_44 : decode cX2_canBe 44 = .ok (.iload_n 2, 1) := by decide +kernel
theorem dX2_canBe_45 : decode cX2_canBe 45 = .ok (.invokestatic 65, 3) := by decide +kernel
theorem dX2_canBe_48 : decode cX2_canBe 48 = .ok (.ireturn, 1) := by decide +kernel
theorem dX2_canBe_49 : decode cX2_canBe 49 = .ok (.aload_n 0, 1) := by decide +kernel
theorem dX2_canBe_50 : decode cX2_canBe 50 = .ok (.aload_n 0, 1) := by decide +kernel
theorem dX2_canBe_51 : decode cX2_canBe 51 = .ok (.getfield 15, 3) := by decide +kernel
theorem dX2_canBe_54 : decode cX2_canBe 54 = .ok (.aload_n 0, 1) := by decide +kernel
theorem dX2_canBe_55 : decode cX2_canBe 55 = .ok (.invokevirtual 78, 3) := by decide +kernel
theorem dX2_canBe_58 : decode cX2_canBe 58 = .ok (.invokevirtual 81, 3) := by decide +kernel
theorem dX2_canBe_61 : decode cX2_canBe 61 = .ok (.aload_n 0, 1) := by decide +kernel
theorem dX2_canBe_62 : decode cX2_canBe 62 = .ok (.getfield 38, 3) := by decide +kernel
theorem dX2_canBe_65 : decode cX2_canBe 65 = .ok (.iconst (-1), 1) := by decide +kernel
theorem dX2_canBe_66 : decode cX2_canBe 66 = .ok (.ixor, 1) := by decide +kernel
theorem dX2_canBe_67 : decode cX2_canBe 67 = .ok (.iand, 1) := by decide +kernel
theorem dX2_canBe_68 : decode cX2_canBe 68 = .ok (.iload_n 2, 1) := by decide +kernel
theorem dX2_canBe_69 : decode cX2_canBe 69 = .ok (.invokestatic 65, 3) := by decide +kernel
theorem dX2_canBe_72 : decode cX2_canBe 72 = .ok (.ireturn, 1) := by decide +kernel
theorem dX2_canBe_73 : decode cX2_canBe 73 = .ok (.aload_n 0, 1) := by decide +kernel
theorem dX2_canBe_74 : decode cX2_canBe 74 = .ok (.invokevirtual 62, 3) := by decide +kernel
theorem dX2_canBe_77 : decode cX2_canBe 77 = .ok (.aload_n 0, 1) := by decide +kernel
theorem dX2_canBe_78 : decode cX2_canBe 78 = .ok (.getfield 38, 3) := by decide +kernel
theorem dX2_canBe_81 : decode cX2_canBe 81 = .ok (.iconst (-1), 1) := by decide +kernel
theorem dX2_canBe_82 : decode cX2_canBe 82 = .ok (.ixor, 1) := by decide +kernel
theorem dX2_canBe_83 : decode cX2_canBe 83 = .ok (.iand, 1) := by decide +kernel
theorem dX2_canBe_84 : decode cX2_canBe 84 = .ok (.iload_n 2, 1) := by decide +kernel
theorem dX2_canBe_85 : decode cX2_canBe 85 = .ok (.invokestatic 65, 3) := by decide +kernel
theorem dX2_canBe_88 : decode cX2_canBe 88 = .ok (.ireturn, 1) := by decide +kernel
theorem dX2_canBe_89 : decode cX2_canBe 89 = .ok (.aload_n 0, 1) := by decide +kernel
theorem dX2_canBe_90 : decode cX2_canBe 90 = .ok (.invokevirtual 62, 3) := by decide +kernel
theorem dX2_canBe_93 : decode cX2_canBe 93 = .ok (.iload_n 2, 1) := by decide +kernel
theorem dX2_canBe_94 : decode cX2_canBe 94 = .ok (.invokestatic 65, 3) := by decide +kernel
theorem dX2_canBe_97 : decode cX2_canBe 97 = .ok (.ireturn, 1) := by decide +kernel
theorem dX2_canBe_98 : decode cX2_canBe 98 = .ok (.iconst 0, 1) := by decide +kernel
theorem dX2_canBe_99 : decode cX2_canBe 99 = .ok (.ireturn, 1) := by decide +kernel
theorem dX2_perform_0 : decode cX2_perform 0 = .ok (.iconst 1, 1) := by decide +kernel
theorem dX2_perform_1 : decode cX2_perform 1 = .ok (.iload_n 2, 1) := by decide +kernel
theorem dX2_perform_2 : decode cX2_perform 2 = .ok (.ishl, 1) := by decide +kernel
theorem dX2_perform_3 : decode cX2_perform 3 = .ok (.istore_n 3, 1) := by decide +kernel
theorem dX2_perform_4 : decode cX2_perform 4 = .ok (.iload_n 1, 1) := by decide +kernel
theorem dX2_perform_5 : decode cX2_perform 5 = .ok (.tableswitch 118 0 3 #[31, 44, 57, 105], 31) := by decide +kernel
theorem dX2_perform_36 : decode cX2_perform 36 = .ok (.aload_n 0, 1) := by decide +kernel
theorem dX2_perform_37 : decode cX2_perform 37 = .ok (.dup, 1) := by decide +kernel
theorem dX2_perform_38 : decode cX2_perform 38 = .ok (.getfield 32, 3) := by decide +kernel
theorem dX2_perform_41 : decode cX2_perform 41 = .ok (.iload_n 3, 1) := by decide +kernel
theorem dX2_perform_42 : decode cX2_perform 42 = .ok (.ior, 1) := by decide +kernel
theorem dX2_perform_43 : decode cX2_perform 43 = .ok (.putfield 32, 3) := by decide +kernel
theorem dX2_perform_46 : decode cX2_perform 46 = .ok (.goto 77, 3) := by decide +kernel
theorem dX2_perform_49 : decode cX2_perform 49 = .ok (.aload_n 0, 1) := by decide +kernel
theorem dX2_perform_50 : decode cX2_perform 50 = .ok (.dup, 1) := by decide +kernel
theorem dX2_perform_51 : decode cX2_perform 51 = .ok (.getfield 38, 3) := by decide +kernel
theorem dX2_perform_54 : decode cX2_perform 54 = .ok (.iload_n 3, 1) := by decide +kernel
theorem dX2_perform_55 : decode cX2_perform 55 = .ok (.ior, 1) := by decide +kernel
theorem dX2_perform_56 : decode cX2_perform 56 = .ok (.putfield 38, 3) := by decide +kernel
theorem dX2_perform_59 : decode cX2_perform 59 = .ok (.goto 64, 3) := by decide +kernel
theorem dX2_perform_62 : decode cX2_perform 62 = .ok (.aload_n 0, 1) := by decide +kernel
theorem dX2_perform_63 : decode cX2_perform 63 = .ok (.dup, 1) := by decide +kernel
theorem dX2_perform_64 : decode cX2_perform 64 = .ok (.getfield 35, 3) := by decide +kernel
theorem dX2_perform_67 : decode cX2_perform 67 = .ok (.iload_n 3, 1) := by decide +kernel
theorem dX2_perform_68 : decode cX2_perform 68 = .ok (.ixor, 1) := by decide +kernel
theorem dX2_perform_69 : decode cX2_perform 69 = .ok (.putfield 35, 3) := by decide +kernel
theorem dX2_perform_72 : decode cX2_perform 72 = .ok (.aload_n 0, 1) := by decide +kernel
theorem dX2_perform_73 : decode cX2_perform 73 = .ok (.invokevirtual 78, 3) := by decide +kernel
theorem dX2_perform_76 : decode cX2_perform 76 = .ok (.iload_n 2, 1) := by decide +kernel
theorem dX2_perform_77 : decode cX2_perform 77 = .ok (.invokestatic 65, 3) := by decide +kernel
theorem dX2_perform_80 : decode cX2_perform 80 = .ok (.ifCond .eq 43, 3) := by decide +kernel
theorem dX2_perform_83 : decode cX2_perform 83 = .ok (.aload_n 0, 1) := by decide +kernel
theorem dX2_perform_84 : decode cX2_perform 84 = .ok (.dup, 1) := by decide +kernel
theorem dX2_perform_85 : decode cX2_perform 85 = .ok (.getfield 38, 3) := by decide +kernel
theorem dX2_perform_88 : decode cX2_perform 88 = .ok (.aload_n 0, 1) := by decide +kernel
theorem dX2_perform_89 : decode cX2_perform 89 = .ok (.iload_n 2, 1) := by decide +kernel
theorem dX2_perform_90 : decode cX2_perform 90 = .ok (.aload_n 0, 1) := by decide +kernel
theorem dX2_perform_91 : decode cX2_perform 91 = .ok (.getfield 15, 3) := by decide +kernel
theorem dX2_perform_94 : decode cX2_perform 94 = .ok (.aload_n 0, 1) := by decide +kernel
theorem dX2_perform_95 : decode cX2_perform 95 = .ok (.getfield 38, 3) := by decide +kernel
theorem dX2_perform_98 : decode cX2_perform 98 = .ok (.invokevirtual 84, 3) := by decide +kernel
theorem dX2_perform_101 : decode cX2_perform 101 = .ok (.iconst (-1), 1) := by decide +kernel
theorem dX2_perform_102 : decode cX2_perform 102 = .ok (.ixor, 1) := by decide +kernel
theorem dX2_perform_103 : decode cX2_perform 103 = .ok (.iand, 1) := by decide +kernel
theorem dX2_perform_104 : decode cX2_perform 104 = .ok (.putfield 38, 3) := by decide +kernel
theorem dX2_perform_107 : decode cX2_perform 107 = .ok (.goto 16, 3) := by decide +kernel
theorem dX2_perform_110 : decode cX2_perform 110 = .ok (.aload_n 0, 1) := by decide +kernel
theorem dX2_perform_111 : decode cX2_perform 111 = .ok (.dup, 1) := by decide +kernel
theorem dX2_perform_112 : decode cX2_perform 112 = .ok (.getfield 29, 3) := by decide +kernel
theorem dX2_perform_115 : decode cX2_perform 115 = .ok (.iload_n 3, 1) := by decide +kernel
theorem dX2_perform_116 : decode cX2_perform 116 = .ok (.ixor, 1) := by decide +kernel
theorem dX2_perform_117 : decode cX2_perform 117 = .ok (.putfield 29, 3) := by decide +kernel
theorem dX2_perform_120 : decode cX2_perform 120 = .ok (.goto 3, 3) := by decide +kernel
theorem dX2_perform_123 : decode cX2_perform 123 = .ok (.return_, 1) := by decide +kernel
theorem dX2_addForged_0 : decode cX2_addForged 0 = .ok (.aload_n 0, 1) := by decide +kernel
theorem dX2_addForged_1 : decode cX2_addForged 1 = .ok (.getfield 23, 3) := by decide +kernel
theorem dX2_addForged_4 : decode cX2_addForged 4 = .ok (.istore_n 3, 1) := by decide +kernel
theorem dX2_addForged_5 : decode cX2_addForged 5 = .ok (.iload_n 2, 1) := by decide +kernel
theorem dX2_addForged_6 : decode cX2_addForged 6 = .ok (.bipush 16, 2) := by decide +kernel
theorem dX2_addForged_8 : decode cX2_addForged 8 = .ok (.ishl, 1) := by decide +kernel
theorem dX2_addForged_9 : decode cX2_addForged 9 = .ok (.ldc 101, 2) := by decide +kernel
theorem dX2_addForged_11 : decode cX2_addForged 11 = .ok (.ior, 1) := by decide +kernel
theorem dX2_addForged_12 : decode cX2_addForged 12 = .ok (.ldc 102, 2) := by decide +kernel
theorem dX2_addForged_14 : decode cX2_addForged 14 = .ok (.ior, 1) := by decide +kernel
theorem dX2_addForged_15 : decode cX2_addForged 15 = .ok (.istore 4, 2) := by decide +kernel
theorem dX2_addForged_17 : decode cX2_addForged 17 = .ok (.iload_n 1, 1) := by decide +kernel
theorem dX2_addForged_18 : decode cX2_addForged 18 = .ok (.istore 5, 2) := by decide +kernel
theorem dX2_addForged_20 : decode cX2_addForged 20 = .ok (.iconst 3, 1) := by decide +kernel
theorem dX2_addForged_21 : decode cX2_addForged 21 = .ok (.istore 6, 2) := by decide +kernel
theorem dX2_addForged_23 : decode cX2_addForged 23 = .ok (.iload 6, 2) := by decide +kernel
theorem dX2_addForged_25 : decode cX2_addForged 25 = .ok (.ifCond .lt 31, 3) := by decide +kernel
theorem dX2_addForged_28 : decode cX2_addForged 28 = .ok (.iload 4, 2) := by decide +kernel
theorem dX2_addForged_30 : decode cX2_addForged 30 = .ok (.iload 5, 2) := by decide +kernel
theorem dX2_addForged_32 : decode cX2_addForged 32 = .ok (.bipush 10, 2) := by decide +kernel
theorem dX2_addForged_34 : decode cX2_addForged 34 = .ok (.irem, 1) := by decide +kernel
theorem dX2_addForged_35 : decode cX2_addForged 35 = .ok (.iconst 4, 1) := by decide +kernel
theorem dX2_addForged_36 : decode cX2_addForged 36 = .ok (.iload 6, 2) := by decide +kernel
theorem dX2_addForged_38 : decode cX2_addForged 38 = .ok (.imul, 1) := by decide +kernel
theorem dX2_addForged_39 : decode cX2_addForged 39 = .ok (.ishl, 1) := by decide +kernel
theorem dX2_addForged_40 : decode cX2_addForged 40 = .ok (.ior, 1) := by decide +kernel
theorem dX2_addForged_41 : decode cX2_addForged 41 = .ok (.istore 4, 2) := by decide +kernel
theorem dX2_addForged_43 : decode cX2_addForged 43 = .ok (.iload 5, 2) := by decide +kernel
theorem dX2_addForged_45 : decode cX2_addForged 45 = .ok (.bipush 10, 2) := by decide +kernel
theorem dX2_addForged_47 : decode cX2_addForged 47 = .ok (.idiv, 1) := by decide +kernel
theorem dX2_addForged_48 : decode cX2_addForged 48 = .ok (.istore 5, 2) := by decide +kernel
theorem dX2_addForged_50 : decode cX2_addForged 50 = .ok (.iinc 6 (-1), 3) := by decide +kernel
theorem dX2_addForged_53 : decode cX2_addForged 53 = .ok (.goto (-30), 3) := by decide +kernel
theorem dX2_addForged_56 : decode cX2_addForged 56 = .ok (.aload_n 0, 1) := by decide +kernel
theorem dX2_addForged_57 : decode cX2_addForged 57 = .ok (.getfield 9, 3) := by decide +kernel
theorem dX2_addForged_60 : decode cX2_addForged 60 = .ok (.iload_n 3, 1) := by decide +kernel
theorem dX2_addForged_61 : decode cX2_addForged 61 = .ok (.iload 4, 2) := by decide +kernel
theorem dX2_addForged_63 : decode cX2_addForged 63 = .ok (.invokestatic 103, 3) := by decide +kernel
theorem dX2_addForged_66 : decode cX2_addForged 66 = .ok (.aload_n 0, 1) := by decide +kernel
theorem dX2_addForged_67 : decode cX2_addForged 67 = .ok (.dup, 1) := by decide +kernel
theorem dX2_addForged_68 : decode cX2_addForged 68 = .ok (.getfield 23, 3) := by decide +kernel
theorem dX2_addForged_71 : decode cX2_addForged 71 = .ok (.iconst 1, 1) := by decide +kernel
theorem dX2_addForged_72 : decode cX2_addForged 72 = .ok (.iadd, 1) := by decide +kernel
theorem dX2_addForged_73 : decode cX2_addForged 73 = .ok (.putfield 23, 3) := by decide +kernel
theorem dX2_addForged_76 : decode cX2_addForged 76 = .ok (.aload_n 0, 1) := by decide +kernel
theorem dX2_addForged_77 : decode cX2_addForged 77 = .ok (.dup, 1) := by decide +kernel
theorem dX2_addForged_78 : decode cX2_addForged 78 = .ok (.getfield 38, 3) := by decide +kernel
theorem dX2_addForged_81 : decode cX2_addForged 81 = .ok (.aload_n 0, 1) := by decide +kernel
theorem dX2_addForged_82 : decode cX2_addForged 82 = .ok (.iload_n 3, 1) := by decide +kernel
theorem dX2_addForged_83 : decode cX2_addForged 83 = .ok (.aload_n 0, 1) := by decide +kernel
theorem dX2_addForged_84 : decode cX2_addForged 84 = .ok (.getfield 15, 3) := by decide +kernel
theorem dX2_addForged_87 : decode cX2_addForged 87 = .ok (.aload_n 0, 1) := by decide +kernel
theorem dX2_addForged_88 : decode cX2_addForged 88 = .ok (.getfield 38, 3) := by decide +kernel
theorem dX2_addForged_91 : decode cX2_addForged 91 = .ok (.invokevirtual 84, 3) := by decide +kernel
theorem dX2_addForged_94 : decode cX2_addForged 94 = .ok (.iconst (-1), 1) := by decide +kernel
theorem dX2_addForged_95 : decode cX2_addForged 95 = .ok (.ixor, 1) := by decide +kernel
theorem dX2_addForged_96 : decode cX2_addForged 96 = .ok (.iand, 1) := by decide +kernel
theorem dX2_addForged_97 : decode cX2_addForged 97 = .ok (.putfield 38, 3) := by decide +kernel
theorem dX2_addForged_100 : decode cX2_addForged 100 = .ok (.iload_n 3, 1) := by decide +kernel
theorem dX2_addForged_101 : decode cX2_addForged 101 = .ok (.ireturn, 1) := by decide +kernel
theorem dX2_changeWord_0 : decode cX2_changeWord 0 = .ok (.aload_n 0, 1) := by decide +kernel
theorem dX2_changeWord_1 : decode cX2_changeWord 1 = .ok (.iload_n 1, 1) := by decide +kernel
theorem dX2_changeWord_2 : decode cX2_changeWord 2 = .ok (.putfield 15, 3) := by decide +kernel
theorem dX2_changeWord_5 : decode cX2_changeWord 5 = .ok (.aload_n 0, 1) := by decide +kernel
theorem dX2_changeWord_6 : decode cX2_changeWord 6 = .ok (.getfield 38, 3) := by decide +kernel
theorem dX2_changeWord_9 : decode cX2_changeWord 9 = .ok (.aload_n 0, 1) := by decide +kernel
theorem dX2_changeWord_10 : decode cX2_changeWord 10 = .ok (.invokevirtual 107, 3) := by decide +kernel
theorem dX2_changeWord_13 : decode cX2_changeWord 13 = .ok (.iconst (-1), 1) := by decide +kernel
theorem dX2_changeWord_14 : decode cX2_changeWord 14 = .ok (.ixor, 1) := by decide +kernel
theorem dX2_changeWord_15 : decode cX2_changeWord 15 = .ok (.iand, 1) := by decide +kernel
theorem dX2_changeWord_16 : decode cX2_changeWord 16 = .ok (.istore_n 2, 1) := by decide +kernel
theorem dX2_changeWord_17 : decode cX2_changeWord 17 = .ok (.aload_n 0, 1) := by decide +kernel
theorem dX2_changeWord_18 : decode cX2_changeWord 18 = .ok (.dup, 1) := by decide +kernel
theorem dX2_changeWord_19 : decode cX2_changeWord 19 = .ok (.getfield 38, 3) := by decide +kernel
theorem dX2_changeWord_22 : decode cX2_changeWord 22 = .ok (.iload_n 2, 1) := by decide +kernel
theorem dX2_changeWord_23 : decode cX2_changeWord 23 = .ok (.iconst (-1), 1) := by decide +kernel
theorem dX2_changeWord_24 : decode cX2_changeWord 24 = .ok (.ixor, 1) := by decide +kernel
theorem dX2_changeWord_25 : decode cX2_changeWord 25 = .ok (.iand, 1) := by decide +kernel
theorem dX2_changeWord_26 : decode cX2_changeWord 26 = .ok (.putfield 38, 3) := by decide +kernel
theorem dX2_changeWord_29 : decode cX2_changeWord 29 = .ok (.iload_n 2, 1) := by decide +kernel
theorem dX2_changeWord_30 : decode cX2_changeWord 30 = .ok (.ireturn, 1) := by decide +kernel
theorem dX3_init_0 : decode cX3_init 0 = .ok (.aload_n 0, 1) := by decide +kernel
theorem dX3_init_1 : decode cX3_init 1 = .ok (.invokespecial 5, 3) := by decide +kernel
theorem dX3_init_4 : decode cX3_init 4 = .ok (.aload_n 0, 1) := by decide +kernel
theorem dX3_init_5 : decode cX3_init 5 = .ok (.new 11, 3) := by decide +kernel
theorem dX3_init_8 : decode cX3_init 8 = .ok (.dup, 1) := by decide +kernel
theorem dX3_init_9 : decode cX3_init 9 = .ok (.invokespecial 13, 3) := by decide +kernel
theorem dX3_init_12 : decode cX3_init 12 = .ok (.putfield 14, 3) := by decide +kernel
theorem dX3_init_15 : decode cX3_init 15 = .ok (.return_, 1) := by decide +kernel
theorem dX3_play_0 : decode cX3_play 0 = .ok (.aload_n 0, 1) := by decide +kernel
theorem dX3_play_1 : decode cX3_play 1 = .ok (.getfield 14, 3) := by decide +kernel
theorem dX3_play_4 : decode cX3_play 4 = .ok (.aload_n 1, 1) := by decide +kernel
theorem dX3_play_5 : decode cX3_play 5 = .ok (.invokevirtual 18, 3) := by decide +kernel
theorem dX3_play_8 : decode cX3_play 8 = .ok (.aload_n 0, 1) := by decide +kernel
theorem dX3_play_9 : decode cX3_play 9 = .ok (.aload_n 1, 1) := by decide +kernel
theorem dX3_play_10 : decode cX3_play 10 = .ok (.invokevirtual 22, 3) := by decide +kernel
theorem dX3_play_13 : decode cX3_play 13 = .ok (.putfield 28, 3) := by decide +kernel
theorem dX3_play_16 : decode cX3_play 16 = .ok (.aload_n 0, 1) := by decide +kernel
theorem dX3_play_17 : decode cX3_play 17 = .ok (.aload_n 1, 1) := by decide +kernel
theorem dX3_play_18 : decode cX3_play 18 = .ok (.getfield 32, 3) := by decide +kernel
theorem dX3_play_21 : decode cX3_play 21 = .ok (.putfield 35, 3) := by decide +kernel
theorem dX3_play_24 : decode cX3_play 24 = .ok (.aload_n 0, 1) := by decide +kernel
theorem dX3_play_25 : decode cX3_play 25 = .ok (.aload_n 1, 1) := by decide +kernel
theorem dX3_play_26 : decode cX3_play 26 = .ok (.getfield 36, 3) := by decide +kernel
theorem dX3_play_29 : decode cX3_play 29 = .ok (.putfield 39, 3) := by decide +kernel
theorem dX3_play_32 : decode cX3_play 32 = .ok (.aload_n 0, 1) := by decide +kernel
theorem dX3_play_33 : decode cX3_play 33 = .ok (.aload_n 0, 1) := by decide +kernel
theorem dX3_play_34 : decode cX3_play 34 = .ok (.iload_n 2, 1) := by decide +kernel
theorem dX3_play_35 : decode cX3_play 35 = .ok (.aload_n 1, 1) := by decide +kernel
theorem dX3_play_36 : decode cX3_play 36 = .ok (.getfield 40, 3) := by decide +kernel
theorem dX3_play_39 : decode cX3_play 39 = .ok (.aload_n 1, 1) := by decide +kernel
theorem dX3_play_40 : decode cX3_play 40 = .ok (.getfield 43, 3) := by decide +kernel
theorem dX3_play_43 : decode cX3_play 43 = .ok (.sipush (-1000), 3) := by decide +kernel
theorem dX3_play_46 : decode cX3_play 46 = .ok (.sipush 1000, 3) := by decide +kernel
theorem dX3_play_49 : decode cX3_play 49 = .ok (.invokestatic 46, 3) := by decide +kernel
theorem dX3_play_52 : decode cX3_play 52 = .ok (.putfield 50, 3) := by decide +kernel
theorem dX3_play_55 : decode cX3_play 55 = .ok (.return_, 1) := by decide +kernel
theorem dX3_lead_0 : decode cX3_lead 0 = .ok (.iload_n 1, 1) := by decide +kernel
theorem dX3_lead_1 : decode cX3_lead 1 = .ok (.ifCond .gt 10, 3) := by decide +kernel
theorem dX3_lead_4 : decode cX3_lead 4 = .ok (.aload_n 0, 1) := by decide +kernel
theorem dX3_lead_5 : decode cX3_lead 5 = .ok (.iconst 0, 1) := by decide +kernel
theorem dX3_lead_6 : decode cX3_lead 6 = .ok (.putfield 53, 3) := by decide +kernel
theorem dX3_lead_9 : decode cX3_lead 9 = .ok (.iconst 0, 1) := by decide +kernel
theorem dX3_lead_10 : decode cX3_lead 10 = .ok (.ireturn, 1) := by decide +kernel
theorem dX3_lead_11 : decode cX3_lead 11 = .ok (.aload_n 0, 1) := by decide +kernel
theorem dX3_lead_12 : decode cX3_lead 12 = .ok (.getfield 14, 3) := by decide +kernel
theorem dX3_lead_15 : decode cX3_lead 15 = .ok (.aload_n 0, 1) := by decide +kernel
theorem dX3_lead_16 : decode cX3_lead 16 = .ok (.getfield 28, 3) := by decide +kernel
theorem dX3_lead_19 : decode cX3_lead 19 = .ok (.iload_n 2, 1) := by decide +kernel
theorem dX3_lead_20 : decode cX3_lead 20 = .ok (.iconst (-1), 1) := by decide +kernel
theorem dX3_lead_21 : decode cX3_lead 21 = .ok (.ixor, 1) := by decide +kernel
theorem dX3_lead_22 : decode cX3_lead 22 = .ok (.iand, 1) := by decide +kernel
theorem dX3_lead_23 : decode cX3_lead 23 = .ok (.aload_n 0, 1) := by decide +kernel
theorem dX3_lead_24 : decode cX3_lead 24 = .ok (.getfield 35, 3) := by decide +kernel
theorem dX3_lead_27 : decode cX3_lead 27 = .ok (.iconst (-1), 1) := by decide +kernel
theorem dX3_lead_28 : decode cX3_lead 28 = .ok (.ixor, 1) := by decide +kernel
theorem dX3_lead_29 : decode cX3_lead 29 = .ok (.iand, 1) := by decide +kernel
theorem dX3_lead_30 : decode cX3_lead 30 = .ok (.invokevirtual 56, 3) := by decide +kernel
theorem dX3_lead_33 : decode cX3_lead 33 = .ok (.iload_n 3, 1) := by decide +kernel
theorem dX3_lead_34 : decode cX3_lead 34 = .ok (.iconst (-1), 1) := by decide +kernel
theorem dX3_lead_35 : decode cX3_lead 35 = .ok (.ixor, 1) := by decide +kernel
theorem dX3_lead_36 : decode cX3_lead 36 = .ok (.iand, 1) := by decide +kernel
theorem dX3_lead_37 : decode cX3_lead 37 = .ok (.istore 6, 2) := by decide +kernel
theorem dX3_lead_39 : decode cX3_lead 39 = .ok (.iload_n 1, 1) := by decide +kernel
theorem dX3_lead_40 : decode cX3_lead 40 = .ok (.iconst 1, 1) := by decide +kernel
theorem dX3_lead_41 : decode cX3_lead 41 = .ok (.if_icmp .ne 10, 3) := by decide +kernel
theorem dX3_lead_44 : decode cX3_lead 44 = .ok (.aload_n 0, 1) := by decide +kernel
theorem dX3_lead_45 : decode cX3_lead 45 = .ok (.iload 6, 2) := by decide +kernel
theorem dX3_lead_47 : decode cX3_lead 47 = .ok (.invokevirtual 60, 3) := by decide +kernel
theorem dX3_lead_50 : decode cX3_lead 50 = .ok (.ireturn, 1) := by decide +kernel
theorem dX3_lead_51 : decode cX3_lead 51 = .ok (.aload_n 0, 1) := by decide +kernel
theorem dX3_lead_52 : decode cX3_lead 52 = .ok (.getfield 28, 3) := by decide +kernel
theorem dX3_lead_55 : decode cX3_lead 55 = .ok (.iload_n 2, 1) := by decide +kernel
theorem dX3_lead_56 : decode cX3_lead 56 = .ok (.iconst (-1), 1) := by decide +kernel
theorem dX3_lead_57 : decode cX3_lead 57 = .ok (.ixor, 1) := by decide +kernel
theorem dX3_lead_58 : decode cX3_lead 58 = .ok (.iand, 1) := by decide +kernel
theorem dX3_lead_59 : decode cX3_lead 59 = .ok (.iload_n 3, 1) := by decide +kernel
theorem dX3_lead_60 : decode cX3_lead 60 = .ok (.iconst (-1), 1) := by decide +kernel
theorem dX3_lead_61 : decode cX3_lead 61 = .ok (.ixor, 1) := by decide +kernel
theorem dX3_lead_62 : decode cX3_lead 62 = .ok (.iand, 1) := by decide +kernel
theorem dX3_lead_63 : decode cX3_lead 63 = .ok (.aload_n 0, 1) := by decide +kernel
theorem dX3_lead_64 : decode cX3_lead 64 = .ok (.getfield 39, 3) := by decide +kernel
theorem dX3_lead_67 : decode cX3_lead 67 = .ok (.iconst (-1), 1) := by decide +kernel
theorem dX3_lead_68 : decode cX3_lead 68 = .ok (.ixor, 1) := by decide +kernel
theorem dX3_lead_69 : decode cX3_lead 69 = .ok (.iand, 1) := by decide +kernel
theorem dX3_lead_70 : decode cX3_lead 70 = .ok (.istore 7, 2) := by decide +kernel
theorem dX3_lead_72 : decode cX3_lead 72 = .ok (.sipush (-1000), 3) := by decide +kernel
theorem dX3_lead_75 : decode cX3_lead 75 = .ok (.istore 8, 2) := by decide +kernel
theorem dX3_lead_77 : decode cX3_lead 77 = .ok (.iconst 0, 1) := by decide +kernel
theorem dX3_lead_78 : decode cX3_lead 78 = .ok (.istore 9, 2) := by decide +kernel
theorem dX3_lead_80 : decode cX3_lead 80 = .ok (.iconst 0, 1) := by decide +kernel
theorem dX3_lead_81 : decode cX3_lead 81 = .ok (.istore 10, 2) := by decide +kernel
theorem dX3_lead_83 : decode cX3_lead 83 = .ok (.iload 10, 2) := by decide +kernel
theorem dX3_lead_85 : decode cX3_lead 85 = .ok (.bipush 18, 2) := by decide +kernel
theorem dX3_lead_87 : decode cX3_lead 87 = .ok (.if_icmp .gt 136, 3) := by decide +kernel
theorem dX3_lead_90 : decode cX3_lead 90 = .ok (.iload 8, 2) := by decide +kernel
theorem dX3_lead_92 : decode cX3_lead 92 = .ok (.iload 5, 2) := by decide +kernel
theorem dX3_lead_94 : decode cX3_lead 94 = .ok (.if_icmp .ge 129, 3) := by decide +kernel
theorem dX3_lead_97 : decode cX3_lead 97 = .ok (.iload 10, 2) := by decide +kernel
theorem dX3_lead_99 : decode cX3_lead 99 = .ok (.bipush 11, 2) := by decide +kernel
theorem dX3_lead_101 : decode cX3_lead 101 = .ok (.if_icmp .ge 15, 3) := by decide +kernel
theorem dX3_lead_104 : decode cX3_lead 104 = .ok (.iconst 1, 1) := by decide +kernel
theorem dX3_lead_105 : decode cX3_lead 105 = .ok (.iload 10, 2) := by decide +kernel
theorem dX3_lead_107 : decode cX3_lead 107 = .ok (.ishl, 1) := by decide +kernel
theorem dX3_lead_108 : decode cX3_lead 108 = .ok (.iconst 1, 1) := by decide +kernel
theorem dX3_lead_109 : decode cX3_lead 109 = .ok (.ishr, 1) := by decide +kernel
theorem dX3_lead_110 : decode cX3_lead 110 = .ok (.iload 6, 2) := by decide +kernel
theorem dX3_lead_112 : decode cX3_lead 112 = .ok (.iand, 1) := by decide +kernel
theorem dX3_lead_113 : decode cX3_lead 113 = .ok (.goto 4, 3) := by decide +kernel
theorem dX3_lead_116 : decode cX3_lead 116 = .ok (.iconst 0, 1) := by decide +kernel
theorem dX3_lead_117 : decode cX3_lead 117 = .ok (.istore 11, 2) := by decide +kernel
theorem dX3_lead_119 : decode cX3_lead 119 = .ok (.iload 10, 2) := by decide +kernel
theorem dX3_lead_121 : decode cX3_lead 121 = .ok (.bipush 11, 2) := by decide +kernel
theorem dX3_lead_123 : decode cX3_lead 123 = .ok (.if_icmp .ge 7, 3) := by decide +kernel
theorem dX3_lead_126 : decode cX3_lead 126 = .ok (.iconst 0, 1) := by decide +kernel
theorem dX3_lead_127 : decode cX3_lead 127 = .ok (.goto 13, 3) := by decide +kernel
theorem dX3_lead_130 : decode cX3_lead 130 = .ok (.iconst 1, 1) := by decide +kernel
theorem dX3_lead_131 : decode cX3_lead 131 = .ok (.iload 10, 2) := by decide +kernel
theorem dX3_lead_133 : decode cX3_lead 133 = .ok (.bipush 11, 2) := by decide +kernel
theorem dX3_lead_135 : decode cX3_lead 135 = .ok (.isub, 1) := by decide +kernel
theorem dX3_lead_136 : decode cX3_lead 136 = .ok (.ishl, 1) := by decide +kernel
theorem dX3_lead_137 : decode cX3_lead 137 = .ok (.iload 7, 2) := by decide +kernel
theorem dX3_lead_139 : decode cX3_lead 139 = .ok (.iand, 1) := by decide +kernel
theorem dX3_lead_140 : decode cX3_lead 140 = .ok (.istore 12, 2) := by decide +kernel
theorem dX3_lead_142 : decode cX3_lead 142 = .ok (.iload 10, 2) := by decide +kernel
theorem dX3_lead_144 : decode cX3_lead 144 = .ok (.ifCond .eq 11, 3) := by decide +kernel
theorem dX3_lead_147 : decode cX3_lead 147 = .ok (.iload 11, 2) := by decide +kernel
theorem dX3_lead_149 : decode cX3_lead 149 = .ok (.iload 12, 2) := by decide +kernel
theorem dX3_lead_151 : decode cX3_lead 151 = .ok (.ior, 1) := by decide +kernel
theorem dX3_lead_152 : decode cX3_lead 152 = .ok (.ifCond .eq 65, 3) := by decide +kernel
theorem dX3_lead_155 : decode cX3_lead 155 = .ok (.aload_n 0, 1) := by decide +kernel
theorem dX3_lead_156 : decode cX3_lead 156 = .ok (.iload 10, 2) := by decide +kernel
theorem dX3_lead_158 : decode cX3_lead 158 = .ok (.invokevirtual 63, 3) := by decide +kernel
theorem dX3_lead_161 : decode cX3_lead 161 = .ok (.istore 13, 2) := by decide +kernel
theorem dX3_lead_163 : decode cX3_lead 163 = .ok (.iload 13, 2) := by decide +kernel
theorem dX3_lead_165 : decode cX3_lead 165 = .ok (.iload 4, 2) := by decide +kernel
theorem dX3_lead_167 : decode cX3_lead 167 = .ok (.iload 8, 2) := by decide +kernel
theorem dX3_lead_169 : decode cX3_lead 169 = .ok (.invokestatic 66, 3) := by decide +kernel
theorem dX3_lead_172 : decode cX3_lead 172 = .ok (.isub, 1) := by decide +kernel
theorem dX3_lead_173 : decode cX3_lead 173 = .ok (.istore 14, 2) := by decide +kernel
theorem dX3_lead_175 : decode cX3_lead 175 = .ok (.iload 13, 2) := by decide +kernel
theorem dX3_lead_177 : decode cX3_lead 177 = .ok (.aload_n 0, 1) := by decide +kernel
theorem dX3_lead_178 : decode cX3_lead 178 = .ok (.iload_n 1, 1) := by decide +kernel
theorem dX3_lead_179 : decode cX3_lead 179 = .ok (.iconst 1, 1) := by decide +kernel
theorem dX3_lead_180 : decode cX3_lead 180 = .ok (.isub, 1) := by decide +kernel
theorem dX3_lead_181 : decode cX3_lead 181 = .ok (.iload_n 2, 1) := by decide +kernel
theorem dX3_lead_182 : decode cX3_lead 182 = .ok (.iload 12, 2) := by decide +kernel
theorem dX3_lead_184 : decode cX3_lead 184 = .ok (.ior, 1) := by decide +kernel
theorem dX3_lead_185 : decode cX3_lead 185 = .ok (.iload_n 3, 1) := by decide +kernel
theorem dX3_lead_186 : decode cX3_lead 186 = .ok (.iload 11, 2) := by decide +kernel
theorem dX3_lead_188 : decode cX3_lead 188 = .ok (.ior, 1) := by decide +kernel
theorem dX3_lead_189 : decode cX3_lead 189 = .ok (.iload 13, 2) := by decide +kernel
theorem dX3_lead_191 : decode cX3_lead 191 = .ok (.iload 5, 2) := by decide +kernel
theorem dX3_lead_193 : decode cX3_lead 193 = .ok (.isub, 1) := by decide +kernel
theorem dX3_lead_194 : decode cX3_lead 194 = .ok (.iload 14, 2) := by decide +kernel
theorem dX3_lead_196 : decode cX3_lead 196 = .ok (.invokestatic 46, 3) := by decide +kernel
theorem dX3_lead_199 : decode cX3_lead 199 = .ok (.isub, 1) := by decide +kernel
theorem dX3_lead_200 : decode cX3_lead 200 = .ok (.istore 15, 2) := by decide +kernel
theorem dX3_lead_202 : decode cX3_lead 202 = .ok (.iload 15, 2) := by decide +kernel
theorem dX3_lead_204 : decode cX3_lead 204 = .ok (.iload 8, 2) := by decide +kernel
theorem dX3_lead_206 : decode cX3_lead 206 = .ok (.if_icmp .le 11, 3) := by decide +kernel
theorem dX3_lead_209 : decode cX3_lead 209 = .ok (.iload 15, 2) := by decide +kernel
theorem dX3_lead_211 : decode cX3_lead 211 = .ok (.istore 8, 2) := by decide +kernel
theorem dX3_lead_213 : decode cX3_lead 213 = .ok (.iload 10, 2) := by decide +kernel
theorem dX3_lead_215 : decode cX3_lead 215 = .ok (.istore 9, 2) := by decide +kernel
theorem dX3_lead_217 : decode cX3_lead 217 = .ok (.iinc 10 1, 3) := by decide +kernel
theorem dX3_lead_220 : decode cX3_lead 220 = .ok (.goto (-137), 3) := by decide +kernel
theorem dX3_lead_223 : decode cX3_lead 223 = .ok (.aload_n 0, 1) := by decide +kernel
theorem dX3_lead_224 : decode cX3_lead 224 = .ok (.iload 9, 2) := by decide +kernel
theorem dX3_lead_226 : decode cX3_lead 226 = .ok (.putfield 53, 3) := by decide +kernel
theorem dX3_lead_229 : decode cX3_lead 229 = .ok (.iload 8, 2) := by decide +kernel
theorem dX3_lead_231 : decode cX3_lead 231 = .ok (.ireturn, 1) := by decide +kernel
theorem dX3_leadByLastTurn_0 : decode cX3_leadByLastTurn 0 = .ok (.iconst 0, 1) := by decide +kernel
theorem dX3_leadByLastTurn_1 : decode cX3_leadByLastTurn 1 = .ok (.istore_n 2, 1) := by decide +kernel
theorem dX3_leadByLastTurn_2 : decode cX3_leadByLastTurn 2 = .ok (.aload_n 0, 1) := by decide +kernel
theorem dX3_leadByLastTurn_3 : decode cX3_leadByLastTurn 3 = .ok (.iconst 0, 1) := by decide +kernel
theorem dX3_leadByLastTurn_4 : decode cX3_leadByLastTurn 4 = .ok (.putfield 53, 3) := by decide +kernel
theorem dX3_leadByLastTurn_7 : decode cX3_leadByLastTurn 7 = .ok (.iconst 0, 1) := by decide +kernel
theorem dX3_leadByLastTurn_8 : decode cX3_leadByLastTurn 8 = .ok (.istore_n 3, 1) := by decide +kernel
theorem dX3_leadByLastTurn_9 : decode cX3_leadByLastTurn 9 = .ok (.iload_n 3, 1) := by decide +kernel
theorem dX3_leadByLastTurn_10 : decode cX3_leadByLastTurn 10 = .ok (.bipush 8, 2) := by decide +kernel
theorem dX3_leadByLastTurn_12 : decode cX3_leadByLastTurn 12 = .ok (.if_icmp .ge 45, 3) := by decide +kernel
theorem dX3_leadByLastTurn_15 : decode cX3_leadByLastTurn 15 = .ok (.iload_n 1, 1) := by decide +kernel
theorem dX3_leadByLastTurn_16 : decode cX3_leadByLastTurn 16 = .ok (.iconst 1, 1) := by decide +kernel
theorem dX3_leadByLastTurn_17 : decode cX3_leadByLastTurn 17 = .ok (.iload_n 3, 1) := by decide +kernel
theorem dX3_leadByLastTurn_18 : decode cX3_leadByLastTurn 18 = .ok (.ishl, 1) := by decide +kernel
theorem dX3_leadByLastTurn_19 : decode cX3_leadByLastTurn 19 = .ok (.iand, 1) := by decide +kernel
theorem dX3_leadByLastTurn_20 : decode cX3_leadByLastTurn 20 = .ok (.ifCond .eq 31, 3) := by decide +kernel
theorem dX3_leadByLastTurn_23 : decode cX3_leadByLastTurn 23 = .ok (.aload_n 0, 1) := by decide +kernel
theorem dX3_leadByLastTurn_24 : decode cX3_leadByLastTurn 24 = .ok (.getfield 14, 3) := by decide +kernel
theorem dX3_leadByLastTurn_27 : decode cX3_leadByLastTurn 27 = .ok (.iload_n 3, 1) := by decide +kernel
theorem dX3_leadByLastTurn_28 : decode cX3_leadByLastTurn 28 = .ok (.invokevirtual 72, 3) := by decide +kernel
theorem dX3_leadByLastTurn_31 : decode cX3_leadByLastTurn 31 = .ok (.iload_n 2, 1) := by decide +kernel
theorem dX3_leadByLastTurn_32 : decode cX3_leadByLastTurn 32 = .ok (.if_icmp .le 19, 3) := by decide +kernel
theorem dX3_leadByLastTurn_35 : decode cX3_leadByLastTurn 35 = .ok (.aload_n 0, 1) := by decide +kernel
theorem dX3_leadByLastTurn_36 : decode cX3_leadByLastTurn 36 = .ok (.getfield 14, 3) := by decide +kernel
theorem dX3_leadByLastTurn_39 : decode cX3_leadByLastTurn 39 = .ok (.iload_n 3, 1) := by decide +kernel
theorem dX3_leadByLastTurn_40 : decode cX3_leadByLastTurn 40 = .ok (.invokevirtual 72, 3) := by decide +kernel
theorem dX3_leadByLastTurn_43 : decode cX3_leadByLastTurn 43 = .ok (.istore_n 2, 1) := by decide +kernel
theorem dX3_leadByLastTurn_44 : decode cX3_leadByLastTurn 44 = .ok (.aload_n 0, 1) := by decide +kernel
theorem dX3_leadByLastTurn_45 : decode cX3_leadByLastTurn 45 = .ok (.iconst 1, 1) := by decide +kernel
theorem dX3_leadByLastTurn_46 : decode cX3_leadByLastTurn 46 = .ok (.iload_n 3, 1) := by decide +kernel
theorem dX3_leadByLastTurn_47 : decode cX3_leadByLastTurn 47 = .ok (.iadd, 1) := by decide +kernel
theorem dX3_leadByLastTurn_48 : decode cX3_leadByLastTurn 48 = .ok (.putfield 53, 3) := by decide +kernel
theorem dX3_leadByLastTurn_51 : decode cX3_leadByLastTurn 51 = .ok (.iinc 3 1, 3) := by decide +kernel
theorem dX3_leadByLastTurn_54 : decode cX3_leadByLastTurn 54 = .ok (.goto (-45), 3) := by decide +kernel
theorem dX3_leadByLastTurn_57 : decode cX3_leadByLastTurn 57 = .ok (.iload_n 2, 1) := by decide +kernel
theorem dX3_leadByLastTurn_58 : decode cX3_leadByLastTurn 58 = .ok (.ireturn, 1) := by decide +kernel
theorem dX3_gainOf_0 : decode cX3_gainOf 0 = .ok (.iload_n 1, 1) := by decide +kernel
theorem dX3_gainOf_1 : decode cX3_gainOf 1 = .ok (.bipush 11, 2) := by decide +kernel
theorem dX3_gainOf_3 : decode cX3_gainOf 3 = .ok (.if_icmp .lt 16, 3) := by decide +kernel
theorem dX3_gainOf_6 : decode cX3_gainOf 6 = .ok (.aload_n 0, 1) := by decide +kernel
theorem dX3_gainOf_7 : decode cX3_gainOf 7 = .ok (.getfield 14, 3) := by decide +kernel
theorem dX3_gainOf_10 : decode cX3_gainOf 10 = .ok (.iload_n 1, 1) := by decide +kernel
theorem dX3_gainOf_11 : decode cX3_gainOf 11 = .ok (.bipush 11, 2) := by decide +kernel
theorem dX3_gainOf_13 : decode cX3_gainOf 13 = .ok (.isub, 1) := by decide +kernel
theorem dX3_gainOf_14 : decode cX3_gainOf 14 = .ok (.invokevirtual 75, 3) := by decide +kernel
theorem dX3_gainOf_17 : decode cX3_gainOf 17 = .ok (.ineg, 1) := by decide +kernel
theorem dX3_gainOf_18 : decode cX3_gainOf 18 = .ok (.ireturn, 1) := by decide +kernel
theorem dX3_gainOf_19 : decode cX3_gainOf 19 = .ok (.iload_n 1, 1) := by decide +kernel
theorem dX3_gainOf_20 : decode cX3_gainOf 20 = .ok (.iconst 1, 1) := by decide +kernel
theorem dX3_gainOf_21 : decode cX3_gainOf 21 = .ok (.if_icmp .lt 16, 3) := by decide +kernel
theorem dX3_gainOf_24 : decode cX3_gainOf 24 = .ok (.aload_n 0, 1) := by decide +kernel
theorem dX3_gainOf_25 : decode cX3_gainOf 25 = .ok (.getfield 14, 3) := by decide +kernel
theorem dX3_gainOf_28 : decode cX3_gainOf 28 = .ok (.iload_n 1, 1) := by decide +kernel
theorem dX3_gainOf_29 : decode cX3_gainOf 29 = .ok (.iconst 1, 1) := by decide +kernel
theorem dX3_gainOf_30 : decode cX3_gainOf 30 = .ok (.isub, 1) := by decide +kernel
theorem dX3_gainOf_31 : decode cX3_gainOf 31 = .ok (.invokevirtual 72, 3) := by decide +kernel
theorem dX3_gainOf_34 : decode cX3_gainOf 34 = .ok (.goto 4, 3) := by decide +kernel
theorem dX3_gainOf_37 : decode cX3_gainOf 37 = .ok (.iconst 0, 1) := by decide +kernel
theorem dX3_gainOf_38 : decode cX3_gainOf 38 = .ok (.ireturn, 1) := by decide +kernel
theorem dX4_init_0 : decode cX4_init 0 = .ok (.aload_n 0, 1) := by decide +kernel
theorem dX4_init_1 : decode cX4_init 1 = .ok (.invokespecial 3, 3) := by decide +kernel
theorem dX4_init_4 : decode cX4_init 4 = .ok (.aload_n 0, 1) := by decide +kernel
theorem dX4_init_5 : decode cX4_init 5 = .ok (.new 9, 3) := by decide +kernel
theorem dX4_init_8 : decode cX4_init 8 = .ok (.dup, 1) := by decide +kernel
theorem dX4_init_9 : decode cX4_init 9 = .ok (.invokespecial 11, 3) := by decide +kernel
theorem dX4_init_12 : decode cX4_init 12 = .ok (.putfield 12, 3) := by decide +kernel
theorem dX4_init_15 : decode cX4_init 15 = .ok (.aload_n 0, 1) := by decide +kernel
theorem dX4_init_16 : decode cX4_init 16 = .ok (.iconst 3, 1) := by decide +kernel
theorem dX4_init_17 : decode cX4_init 17 = .ok (.newarray .int, 2) := by decide +kernel
theorem dX4_init_19 : decode cX4_init 19 = .ok (.putfield 18, 3) := by decide +kernel
theorem dX4_init_22 : decode cX4_init 22 = .ok (.aload_n 0, 1) := by decide +kernel
theorem dX4_init_23 : decode cX4_init 23 = .ok (.iconst 3, 1) := by decide +kernel
theorem dX4_init_24 : decode cX4_init 24 = .ok (.sipush 256, 3) := by decide +kernel
theorem dX4_init_27 : decode cX4_init 27 = .ok (.multianewarray 22 2, 4) := by decide +kernel
theorem dX4_init_31 : decode cX4_init 31 = .ok (.putfield 24, 3) := by decide +kernel
theorem dX4_init_34 : decode cX4_init 34 = .ok (.aload_n 0, 1) := by decide +kernel
theorem dX4_init_35 : decode cX4_init 35 = .ok (.iconst 3, 1) := by decide +kernel
theorem dX4_init_36 : decode cX4_init 36 = .ok (.bipush 81, 2) := by decide +kernel
theorem dX4_init_38 : decode cX4_init 38 = .ok (.multianewarray 22 2, 4) := by decide +kernel
theorem dX4_init_42 : decode cX4_init 42 = .ok (.putfield 27, 3) := by decide +kernel
theorem dX4_init_45 : decode cX4_init 45 = .ok (.return_, 1) := by decide +kernel
theorem dX4_weigh_0 : decode cX4_weigh 0 = .ok (.aload_n 0, 1) := by decide +kernel
theorem dX4_weigh_1 : decode cX4_weigh 1 = .ok (.getfield 12, 3) := by decide +kernel
theorem dX4_weigh_4 : decode cX4_weigh 4 = .ok (.aload_n 1, 1) := by decide +kernel
theorem dX4_weigh_5 : decode cX4_weigh 5 = .ok (.invokevirtual 30, 3) := by decide +kernel
theorem dX4_weigh_8 : decode cX4_weigh 8 = .ok (.iconst 0, 1) := by decide +kernel
theorem dX4_weigh_9 : decode cX4_weigh 9 = .ok (.istore_n 2, 1) := by decide +kernel
theorem dX4_weigh_10 : decode cX4_weigh 10 = .ok (.iload_n 2, 1) := by decide +kernel
theorem dX4_weigh_11 : decode cX4_weigh 11 = .ok (.iconst 3, 1) := by decide +kernel
theorem dX4_weigh_12 : decode cX4_weigh 12 = .ok (.if_icmp .ge 15, 3) := by decide +kernel
theorem dX4_weigh_15 : decode cX4_weigh 15 = .ok (.aload_n 0, 1) := by decide +kernel
theorem dX4_weigh_16 : decode cX4_weigh 16 = .ok (.aload_n 1, 1) := by decide +kernel
theorem dX4_weigh_17 : decode cX4_weigh 17 = .ok (.iload_n 2, 1) := by decide +kernel
theorem dX4_weigh_18 : decode cX4_weigh 18 = .ok (.invokevirtual 34, 3) := by decide +kernel
theorem dX4_weigh_21 : decode cX4_weigh 21 = .ok (.iinc 2 1, 3) := by decide +kernel
theorem dX4_weigh_24 : decode cX4_weigh 24 = .ok (.goto (-14), 3) := by decide +kernel
theorem dX4_weigh_27 : decode cX4_weigh 27 = .ok (.aload_n 0, 1) := by decide +kernel
theorem dX4_weigh_28 : decode cX4_weigh 28 = .ok (.iconst 0, 1) := by decide +kernel
theorem dX4_weigh_29 : decode cX4_weigh 29 = .ok (.putfield 37, 3) := by decide +kernel
theorem dX4_weigh_32 : decode cX4_weigh 32 = .ok (.aload_n 0, 1) := by decide +kernel
theorem dX4_weigh_33 : decode cX4_weigh 33 = .ok (.bipush (-9), 2) := by decide +kernel
theorem dX4_weigh_35 : decode cX4_weigh 35 = .ok (.putfield 41, 3) := by decide +kernel
theorem dX4_weigh_38 : decode cX4_weigh 38 = .ok (.aload_n 0, 1) := by decide +kernel
theorem dX4_weigh_39 : decode cX4_weigh 39 = .ok (.iconst 0, 1) := by decide +kernel
theorem dX4_weigh_40 : decode cX4_weigh 40 = .ok (.invokevirtual 44, 3) := by decide +kernel
theorem dX4_weigh_43 : decode cX4_weigh 43 = .ok (.aload_n 0, 1) := by decide +kernel
theorem dX4_weigh_44 : decode cX4_weigh 44 = .ok (.iconst 1, 1) := by decide +kernel
theorem dX4_weigh_45 : decode cX4_weigh 45 = .ok (.invokevirtual 44, 3) := by decide +kernel
theorem dX4_weigh_48 : decode cX4_weigh 48 = .ok (.return_, 1) := by decide +kernel
theorem dX4_firstChoice_0 : decode cX4_firstChoice 0 = .ok (.aload_n 0, 1) := by decide +kernel
theorem dX4_firstChoice_1 : decode cX4_firstChoice 1 = .ok (.getfield 41, 3) := by decide +kernel
theorem dX4_firstChoice_4 : decode cX4_firstChoice 4 = .ok (.ifCond .ge 6, 3) := by decide +kernel
theorem dX4_firstChoice_7 : decode cX4_firstChoice 7 = .ok (.bipush (-9), 2) := by decide +kernel
theorem dX4_firstChoice_9 : decode cX4_firstChoice 9 = .ok (.ireturn, 1) := by decide +kernel
theorem dX4_firstChoice_10 : decode cX4_firstChoice 10 = .ok (.aload_n 0, 1) := by decide +kernel
theorem dX4_firstChoice_11 : decode cX4_firstChoice 11 = .ok (.getfield 41, 3) := by decide +kernel
theorem dX4_firstChoice_14 : decode cX4_firstChoice 14 = .ok (.bipush 9, 2) := by decide +kernel
theorem dX4_firstChoice_16 : decode cX4_firstChoice 16 = .ok (.irem, 1) := by decide +kernel
theorem dX4_firstChoice_17 : decode cX4_firstChoice 17 = .ok (.istore_n 2, 1) := by decide +kernel
theorem dX4_firstChoice_18 : decode cX4_firstChoice 18 = .ok (.iload_n 1, 1) := by decide +kernel
theorem dX4_firstChoice_19 : decode cX4_firstChoice 19 = .ok (.ifCond .ne 14, 3) := by decide +kernel
theorem dX4_firstChoice_22 : decode cX4_firstChoice 22 = .ok (.aload_n 0, 1) := by decide +kernel
theorem dX4_firstChoice_23 : decode cX4_firstChoice 23 = .ok (.getfield 41, 3) := by decide +kernel
theorem dX4_firstChoice_26 : decode cX4_firstChoice 26 = .ok (.bipush 81, 2) := by decide +kernel
theorem dX4_firstChoice_28 : decode cX4_firstChoice 28 = .ok (.idiv, 1) := by decide +kernel
theorem dX4_firstChoice_29 : decode cX4_firstChoice 29 = .ok (.istore_n 2, 1) := by decide +kernel
theorem dX4_firstChoice_30 : decode cX4_firstChoice 30 = .ok (.goto 19, 3) := by decide +kernel
theorem dX4_firstChoice_33 : decode cX4_firstChoice 33 = .ok (.iload_n 1, 1) := by decide +kernel
theorem dX4_firstChoice_34 : decode cX4_firstChoice 34 = .ok (.iconst 1, 1) := by decide +kernel
theorem dX4_firstChoice_35 : decode cX4_firstChoice 35 = .ok (.if_icmp .ne 14, 3) := by decide +kernel
theorem dX4_firstChoice_38 : decode cX4_firstChoice 38 = .ok (.aload_n 0, 1) := by decide +kernel
theorem dX4_firstChoice_39 : decode cX4_firstChoice 39 = .ok (.getfield 41, 3) := by decide +kernel
theorem dX4_firstChoice_42 : decode cX4_firstChoice 42 = .ok (.bipush 9, 2) := by decide +kernel
theorem dX4_firstChoice_44 : decode cX4_firstChoice 44 = .ok (.idiv, 1) := by decide +kernel
theorem dX4_firstChoice_45 : decode cX4_firstChoice 45 = .ok (.bipush 9, 2) := by decide +kernel
theorem dX4_firstChoice_47 : decode cX4_firstChoice 47 = .ok (.irem, 1) := by decide +kernel
theorem dX4_firstChoice_48 : decode cX4_firstChoice 48 = .ok (.istore_n 2, 1) := by decide +kernel
theorem dX4_firstChoice_49 : decode cX4_firstChoice 49 = .ok (.iload_n 2, 1) := by decide +kernel
theorem dX4_firstChoice_50 : decode cX4_firstChoice 50 = .ok (.ifCond .ne 8, 3) := by decide +kernel
theorem dX4_firstChoice_53 : decode cX4_firstChoice 53 = .ok (.bipush (-9), 2) := by decide +kernel
theorem dX4_firstChoice_55 : decode cX4_firstChoice 55 = .ok (.goto 6, 3) := by decide +kernel
theorem dX4_firstChoice_58 : decode cX4_firstChoice 58 = .ok (.iload_n 2, 1) := by decide +kernel
theorem dX4_firstChoice_59 : decode cX4_firstChoice 59 = .ok (.iconst 1, 1) := by decide +kernel
theorem dX4_firstChoice_60 : decode cX4_firstChoice 60 = .ok (.isub, 1) := by decide +kernel
theorem dX4_firstChoice_61 : decode cX4_firstChoice 61 = .ok (.ireturn, 1) := by decide +kernel
theorem dX4_learn_0 : decode cX4_learn 0 = .ok (.aload_n 1, 1) := by decide +kernel
theorem dX4_learn_1 : decode cX4_learn 1 = .ok (.invokevirtual 48, 3) := by decide +kernel
theorem dX4_learn_4 : decode cX4_learn 4 = .ok (.istore_n 3, 1) := by decide +kernel
theorem dX4_learn_5 : decode cX4_learn 5 = .ok (.iload_n 3, 1) := by decide +kernel
theorem dX4_learn_6 : decode cX4_learn 6 = .ok (.aload_n 1, 1) := by decide +kernel
theorem dX4_learn_7 : decode cX4_learn 7 = .ok (.invokevirtual 54, 3) := by decide +kernel
theorem dX4_learn_10 : decode cX4_learn 10 = .ok (.iand, 1) := by decide +kernel
theorem dX4_learn_11 : decode cX4_learn 11 = .ok (.istore 4, 2) := by decide +kernel
theorem dX4_learn_13 : decode cX4_learn 13 = .ok (.iconst 0, 1) := by decide +kernel
theorem dX4_learn_14 : decode cX4_learn 14 = .ok (.istore 5, 2) := by decide +kernel
theorem dX4_learn_16 : decode cX4_learn 16 = .ok (.iconst 0, 1) := by decide +kernel
theorem dX4_learn_17 : decode cX4_learn 17 = .ok (.istore 6, 2) := by decide +kernel
theorem dX4_learn_19 : decode cX4_learn 19 = .ok (.iload 6, 2) := by decide +kernel
theorem dX4_learn_21 : decode cX4_learn 21 = .ok (.aload_n 1, 1) := by decide +kernel
theorem dX4_learn_22 : decode cX4_learn 22 = .ok (.getfield 57, 3) := by decide +kernel
theorem dX4_learn_25 : decode cX4_learn 25 = .ok (.if_icmp .ge 33, 3) := by decide +kernel
theorem dX4_learn_28 : decode cX4_learn 28 = .ok (.iload 5, 2) := by decide +kernel
theorem dX4_learn_30 : decode cX4_learn 30 = .ok (.aload_n 1, 1) := by decide +kernel
theorem dX4_learn_31 : decode cX4_learn 31 = .ok (.iload 6, 2) := by decide +kernel
theorem dX4_learn_33 : decode cX4_learn 33 = .ok (.iconst 4, 1) := by decide +kernel
theorem dX4_learn_34 : decode cX4_learn 34 = .ok (.invokevirtual 60, 3) := by decide +kernel
theorem dX4_learn_37 : decode cX4_learn 37 = .ok (.iload_n 2, 1) := by decide +kernel
theorem dX4_learn_38 : decode cX4_learn 38 = .ok (.if_icmp .ne 10, 3) := by decide +kernel
theorem dX4_learn_41 : decode cX4_learn 41 = .ok (.iconst 1, 1) := by decide +kernel
theorem dX4_learn_42 : decode cX4_learn 42 = .ok (.iload 6, 2) := by decide +kernel
theorem dX4_learn_44 : decode cX4_learn 44 = .ok (.ishl, 1) := by decide +kernel
theorem dX4_learn_45 : decode cX4_learn 45 = .ok (.goto 4, 3) := by decide +kernel
theorem dX4_learn_48 : decode cX4_learn 48 = .ok (.iconst 0, 1) := by decide +kernel
theorem dX4_learn_49 : decode cX4_learn 49 = .ok (.ior, 1) := by decide +kernel
theorem dX4_learn_50 : decode cX4_learn 50 = .ok (.istore 5, 2) := by decide +kernel
theorem dX4_learn_52 : decode cX4_learn 52 = .ok (.iinc 6 1, 3) := by decide +kernel
theorem dX4_learn_55 : decode cX4_learn 55 = .ok (.goto (-36), 3) := by decide +kernel
theorem dX4_learn_58 : decode cX4_learn 58 = .ok (.aload_n 0, 1) := by decide +kernel
theorem dX4_learn_59 : decode cX4_learn 59 = .ok (.getfield 18, 3) := by decide +kernel
theorem dX4_learn_62 : decode cX4_learn 62 = .ok (.iload_n 2, 1) := by decide +kernel
theorem dX4_learn_63 : decode cX4_learn 63 = .ok (.iload 4, 2) := by decide +kernel
theorem dX4_learn_65 : decode cX4_learn 65 = .ok (.iload 5, 2) := by decide +kernel
theorem dX4_learn_67 : decode cX4_learn 67 = .ok (.iconst (-1), 1) := by decide +kernel
theorem dX4_learn_68 : decode cX4_learn 68 = .ok (.ixor, 1) := by decide +kernel
theorem dX4_learn_69 : decode cX4_learn 69 = .ok (.iand, 1) := by decide +kernel
theorem dX4_learn_70 : decode cX4_learn 70 = .ok (.iconst 1, 1) := by decide +kernel
theorem dX4_learn_71 : decode cX4_learn 71 = .ok (.ishl, 1) := by decide +kernel
theorem dX4_learn_72 : decode cX4_learn 72 = .ok (.iconst 1, 1) := by decide +kernel
theorem dX4_learn_73 : decode cX4_learn 73 = .ok (.ior, 1) := by decide +kernel
theorem dX4_learn_74 : decode cX4_learn 74 = .ok (.invokestatic 64, 3) := by decide +kernel
theorem dX4_learn_77 : decode cX4_learn 77 = .ok (.aload_n 0, 1) := by decide +kernel
theorem dX4_learn_78 : decode cX4_learn 78 = .ok (.getfield 24, 3) := by decide +kernel
theorem dX4_learn_81 : decode cX4_learn 81 = .ok (.iload_n 2, 1) := by decide +kernel
theorem dX4_learn_82 : decode cX4_learn 82 = .ok (.invokestatic 68, 3) := by decide +kernel
theorem dX4_learn_85 : decode cX4_learn 85 = .ok (.astore 6, 2) := by decide +kernel
theorem dX4_learn_87 : decode cX4_learn 87 = .ok (.iconst 0, 1) := by decide +kernel
theorem dX4_learn_88 : decode cX4_learn 88 = .ok (.istore 7, 2) := by decide +kernel
theorem dX4_learn_90 : decode cX4_learn 90 = .ok (.iload 7, 2) := by decide +kernel
theorem dX4_learn_92 : decode cX4_learn 92 = .ok (.sipush 256, 3) := by decide +kernel
theorem dX4_learn_95 : decode cX4_learn 95 = .ok (.if_icmp .ge 50, 3) := by decide +kernel
theorem dX4_learn_98 : decode cX4_learn 98 = .ok (.iload 7, 2) := by decide +kernel
theorem dX4_learn_100 : decode cX4_learn 100 = .ok (.iload 4, 2) := by decide +kernel
theorem dX4_learn_102 : decode cX4_learn 102 = .ok (.iconst (-1), 1) := by decide +kernel
theorem dX4_learn_103 : decode cX4_learn 103 = .ok (.ixor, 1) := by decide +kernel
theorem dX4_learn_104 : decode cX4_learn 104 = .ok (.iand, 1) := by decide +kernel
theorem dX4_learn_105 : decode cX4_learn 105 = .ok (.ifCond .ne 34, 3) := by decide +kernel
theorem dX4_learn_108 : decode cX4_learn 108 = .ok (.iload 7, 2) := by decide +kernel
theorem dX4_learn_110 : decode cX4_learn 110 = .ok (.invokestatic 72, 3) := by decide +kernel
theorem dX4_learn_113 : decode cX4_learn 113 = .ok (.iconst 3, 1) := by decide +kernel
theorem dX4_learn_114 : decode cX4_learn 114 = .ok (.if_icmp .gt 25, 3) := by decide +kernel
theorem dX4_learn_117 : decode cX4_learn 117 = .ok (.aload 6, 2) := by decide +kernel
theorem dX4_learn_119 : decode cX4_learn 119 = .ok (.iload 7, 2) := by decide +kernel
theorem dX4_learn_121 : decode cX4_learn 121 = .ok (.aload_n 0, 1) := by decide +kernel
theorem dX4_learn_122 : decode cX4_learn 122 = .ok (.getfield 12, 3) := by decide +kernel
theorem dX4_learn_125 : decode cX4_learn 125 = .ok (.iload 5, 2) := by decide +kernel
theorem dX4_learn_127 : decode cX4_learn 127 = .ok (.iload_n 3, 1) := by decide +kernel
theorem dX4_learn_128 : decode cX4_learn 128 = .ok (.iload 7, 2) := by decide +kernel
theorem dX4_learn_130 : decode cX4_learn 130 = .ok (.iconst (-1), 1) := by decide +kernel
theorem dX4_learn_131 : decode cX4_learn 131 = .ok (.ixor, 1) := by decide +kernel
theorem dX4_learn_132 : decode cX4_learn 132 = .ok (.iand, 1) := by decide +kernel
theorem dX4_learn_133 : decode cX4_learn 133 = .ok (.invokevirtual 78, 3) := by decide +kernel
theorem dX4_learn_136 : decode cX4_learn 136 = .ok (.invokestatic 64, 3) := by decide +kernel
theorem dX4_learn_139 : decode cX4_learn 139 = .ok (.iinc 7 1, 3) := by decide +kernel
theorem dX4_learn_142 : decode cX4_learn 142 = .ok (.goto (-52), 3) := by decide +kernel
theorem dX4_learn_145 : decode cX4_learn 145 = .ok (.aload_n 0, 1) := by decide +kernel
theorem dX4_learn_146 : decode cX4_learn 146 = .ok (.getfield 27, 3) := by decide +kernel
theorem dX4_learn_149 : decode cX4_learn 149 = .ok (.iload_n 2, 1) := by decide +kernel
theorem dX4_learn_150 : decode cX4_learn 150 = .ok (.invokestatic 68, 3) := by decide +kernel
theorem dX4_learn_153 : decode cX4_learn 153 = .ok (.astore 7, 2) := by decide +kernel
theorem dX4_learn_155 : decode cX4_learn 155 = .ok (.iconst 0, 1) := by decide +kernel
theorem dX4_learn_156 : decode cX4_learn 156 = .ok (.istore 8, 2) := by decide +kernel
theorem dX4_learn_158 : decode cX4_learn 158 = .ok (.iload 8, 2) := by decide +kernel
theorem dX4_learn_160 : decode cX4_learn 160 = .ok (.bipush 81, 2) := by decide +kernel
theorem dX4_learn_162 : decode cX4_learn 162 = .ok (.if_icmp .ge 19, 3) := by decide +kernel
theorem dX4_learn_165 : decode cX4_learn 165 = .ok (.aload 7, 2) := by decide +kernel
theorem dX4_learn_167 : decode cX4_learn 167 = .ok (.iload 8, 2) := by decide +kernel
theorem dX4_learn_169 : decode cX4_learn 169 = .ok (.sipush (-1000), 3) := by decide +kernel
theorem dX4_learn_172 : decode cX4_learn 172 = .ok (.invokestatic 64, 3) := by decide +kernel
theorem dX4_learn_175 : decode cX4_learn 175 = .ok (.iinc 8 1, 3) := by decide +kernel
theorem dX4_learn_178 : decode cX4_learn 178 = .ok (.goto (-20), 3) := by decide +kernel
theorem dX4_learn_181 : decode cX4_learn 181 = .ok (.return_, 1) := by decide +kernel
theorem dX4_goThrough_0 : decode cX4_goThrough 0 = .ok (.iconst 0, 1) := by decide +kernel
theorem dX4_goThrough_1 : decode cX4_goThrough 1 = .ok (.istore_n 2, 1) := by decide +kernel
theorem dX4_goThrough_2 : decode cX4_goThrough 2 = .ok (.iload_n 2, 1) := by decide +kernel
theorem dX4_goThrough_3 : decode cX4_goThrough 3 = .ok (.bipush 9, 2) := by decide +kernel
theorem dX4_goThrough_5 : decode cX4_goThrough 5 = .ok (.if_icmp .ge 95, 3) := by decide +kernel
theorem dX4_goThrough_8 : decode cX4_goThrough 8 = .ok (.iconst 0, 1) := by decide +kernel
theorem dX4_goThrough_9 : decode cX4_goThrough 9 = .ok (.istore_n 3, 1) := by decide +kernel
theorem dX4_goThrough_10 : decode cX4_goThrough 10 = .ok (.iload_n 3, 1) := by decide +kernel
theorem dX4_goThrough_11 : decode cX4_goThrough 11 = .ok (.bipush 9, 2) := by decide +kernel
theorem dX4_goThrough_13 : decode cX4_goThrough 13 = .ok (.if_icmp .ge 81, 3) := by decide +kernel
theorem dX4_goThrough_16 : decode cX4_goThrough 16 = .ok (.iconst 0, 1) := by decide +kernel
theorem dX4_goThrough_17 : decode cX4_goThrough 17 = .ok (.istore 4, 2) := by decide +kernel
theorem dX4_goThrough_19 : decode cX4_goThrough 19 = .ok (.iload 4, 2) := by decide +kernel
theorem dX4_goThrough_21 : decode cX4_goThrough 21 = .ok (.bipush 9, 2) := by decide +kernel
theorem dX4_goThrough_23 : decode cX4_goThrough 23 = .ok (.if_icmp .ge 65, 3) := by decide +kernel
theorem dX4_goThrough_26 : decode cX4_goThrough 26 = .ok (.aload_n 0, 1) := by decide +kernel
theorem dX4_goThrough_27 : decode cX4_goThrough 27 = .ok (.iload_n 2, 1) := by decide +kernel
theorem dX4_goThrough_28 : decode cX4_goThrough 28 = .ok (.iload_n 3, 1) := by decide +kernel
theorem dX4_goThrough_29 : decode cX4_goThrough 29 = .ok (.iload 4, 2) := by decide +kernel
theorem dX4_goThrough_31 : decode cX4_goThrough 31 = .ok (.invokevirtual 81, 3) := by decide +kernel
theorem dX4_goThrough_34 : decode cX4_goThrough 34 = .ok (.ifCond .ne 6, 3) := by decide +kernel
theorem dX4_goThrough_37 : decode cX4_goThrough 37 = .ok (.goto 45, 3) := by decide +kernel
theorem dX4_goThrough_40 : decode cX4_goThrough 40 = .ok (.iload_n 1, 1) := by decide +kernel
theorem dX4_goThrough_41 : decode cX4_goThrough 41 = .ok (.ifCond .ne 14, 3) := by decide +kernel
theorem dX4_goThrough_44 : decode cX4_goThrough 44 = .ok (.aload_n 0, 1) := by decide +kernel
theorem dX4_goThrough_45 : decode cX4_goThrough 45 = .ok (.iload_n 2, 1) := by decide +kernel
theorem dX4_goThrough_46 : decode cX4_goThrough 46 = .ok (.iload_n 3, 1) := by decide +kernel
theorem dX4_goThrough_47 : decode cX4_goThrough 47 = .ok (.iload 4, 2) := by decide +kernel
theorem dX4_goThrough_49 : decode cX4_goThrough 49 = .ok (.invokevirtual 85, 3) := by decide +kernel
theorem dX4_goThrough_52 : decode cX4_goThrough 52 = .ok (.goto 30, 3) := by decide +kernel
theorem dX4_goThrough_55 : decode cX4_goThrough 55 = .ok (.aload_n 0, 1) := by decide +kernel
theorem dX4_goThrough_56 : decode cX4_goThrough 56 = .ok (.iload_n 2, 1) := by decide +kernel
theorem dX4_goThrough_57 : decode cX4_goThrough 57 = .ok (.iload_n 3, 1) := by decide +kernel
theorem dX4_goThrough_58 : decode cX4_goThrough 58 = .ok (.iload 4, 2) := by decide +kernel
theorem dX4_goThrough_60 : decode cX4_goThrough 60 = .ok (.invokevirtual 89, 3) := by decide +kernel
theorem dX4_goThrough_63 : decode cX4_goThrough 63 = .ok (.ifCond .eq 19, 3) := by decide +kernel
theorem dX4_goThrough_66 : decode cX4_goThrough 66 = .ok (.aload_n 0, 1) := by decide +kernel
theorem dX4_goThrough_67 : decode cX4_goThrough 67 = .ok (.iload_n 2, 1) := by decide +kernel
theorem dX4_goThrough_68 : decode cX4_goThrough 68 = .ok (.bipush 9, 2) := by decide +kernel
theorem dX4_goThrough_70 : decode cX4_goThrough 70 = .ok (.imul, 1) := by decide +kernel
theorem dX4_goThrough_71 : decode cX4_goThrough 71 = .ok (.iload_n 3, 1) := by decide +kernel
theorem dX4_goThrough_72 : decode cX4_goThrough 72 = .ok (.iadd, 1) := by decide +kernel
theorem dX4_goThrough_73 : decode cX4_goThrough 73 = .ok (.bipush 9, 2) := by decide +kernel
theorem dX4_goThrough_75 : decode cX4_goThrough 75 = .ok (.imul, 1) := by decide +kernel
theorem dX4_goThrough_76 : decode cX4_goThrough 76 = .ok (.iload 4, 2) := by decide +kernel
theorem dX4_goThrough_78 : decode cX4_goThrough 78 = .ok (.iadd, 1) := by decide +kernel
theorem dX4_goThrough_79 : decode cX4_goThrough 79 = .ok (.invokevirtual 92, 3) := by decide +kernel
theorem dX4_goThrough_82 : decode cX4_goThrough 82 = .ok (.iinc 4 1, 3) := by decide +kernel
theorem dX4_goThrough_85 : decode cX4_goThrough 85 = .ok (.goto (-66), 3) := by decide +kernel
theorem dX4_goThrough_88 : decode cX4_goThrough 88 = .ok (.iinc 3 1, 3) := by decide +kernel
theorem dX4_goThrough_91 : decode cX4_goThrough 91 = .ok (.goto (-81), 3) := by decide +kernel
theorem dX4_goThrough_94 : decode cX4_goThrough 94 = .ok (.iinc 2 1, 3) := by decide +kernel
theorem dX4_goThrough_97 : decode cX4_goThrough 97 = .ok (.goto (-95), 3) := by decide +kernel
theorem dX4_goThrough_100 : decode cX4_goThrough 100 = .ok (.return_, 1) := by decide +kernel
theorem dX4_mayChoose_0 : decode cX4_mayChoose 0 = .ok (.aload_n 0, 1) := by decide +kernel
theorem dX4_mayChoose_1 : decode cX4_mayChoose 1 = .ok (.getfield 18, 3) := by decide +kernel
theorem dX4_mayChoose_4 : decode cX4_mayChoose 4 = .ok (.iconst 0, 1) := by decide +kernel
theorem dX4_mayChoose_5 : decode cX4_mayChoose 5 = .ok (.invokestatic 96, 3) := by decide +kernel
theorem dX4_mayChoose_8 : decode cX4_mayChoose 8 = .ok (.iload_n 1, 1) := by decide +kernel
theorem dX4_mayChoose_9 : decode cX4_mayChoose 9 = .ok (.ishr, 1) := by decide +kernel
theorem dX4_mayChoose_10 : decode cX4_mayChoose 10 = .ok (.aload_n 0, 1) := by decide +kernel
theorem dX4_mayChoose_11 : decode cX4_mayChoose 11 = .ok (.getfield 18, 3) := by decide +kernel
theorem dX4_mayChoose_14 : decode cX4_mayChoose 14 = .ok (.iconst 1, 1) := by decide +kernel
theorem dX4_mayChoose_15 : decode cX4_mayChoose 15 = .ok (.invokestatic 96, 3) := by decide +kernel
theorem dX4_mayChoose_18 : decode cX4_mayChoose 18 = .ok (.iload_n 2, 1) := by decide +kernel
theorem dX4_mayChoose_19 : decode cX4_mayChoose 19 = .ok (.ishr, 1) := by decide +kernel
theorem dX4_mayChoose_20 : decode cX4_mayChoose 20 = .ok (.iand, 1) := by decide +kernel
theorem dX4_mayChoose_21 : decode cX4_mayChoose 21 = .ok (.aload_n 0, 1) := by decide +kernel
theorem dX4_mayChoose_22 : decode cX4_mayChoose 22 = .ok (.getfield 18, 3) := by decide +kernel
theorem dX4_mayChoose_25 : decode cX4_mayChoose 25 = .ok (.iconst 2, 1) := by decide +kernel
theorem dX4_mayChoose_26 : decode cX4_mayChoose 26 = .ok (.invokestatic 96, 3) := by decide +kernel
theorem dX4_mayChoose_29 : decode cX4_mayChoose 29 = .ok (.iload_n 3, 1) := by decide +kernel
theorem dX4_mayChoose_30 : decode cX4_mayChoose 30 = .ok (.ishr, 1) := by decide +kernel
theorem dX4_mayChoose_31 : decode cX4_mayChoose 31 = .ok (.iand, 1) := by decide +kernel
theorem dX4_mayChoose_32 : decode cX4_mayChoose 32 = .ok (.iconst 1, 1) := by decide +kernel
theorem dX4_mayChoose_33 : decode cX4_mayChoose 33 = .ok (.iand, 1) := by decide +kernel
theorem dX4_mayChoose_34 : decode cX4_mayChoose 34 = .ok (.ifCond .eq 7, 3) := by decide +kernel
theorem dX4_mayChoose_37 : decode cX4_mayChoose 37 = .ok (.iconst 1, 1) := by decide +kernel
theorem dX4_mayChoose_38 : decode cX4_mayChoose 38 = .ok (.goto 4, 3) := by decide +kernel
theorem dX4_mayChoose_41 : decode cX4_mayChoose 41 = .ok (.iconst 0, 1) := by decide +kernel
theorem dX4_mayChoose_42 : decode cX4_mayChoose 42 = .ok (.ireturn, 1) := by decide +kernel
theorem dX4_tell_0 : decode cX4_tell 0 = .ok (.aload_n 0, 1) := by decide +kernel
theorem dX4_tell_1 : decode cX4_tell 1 = .ok (.aload_n 0, 1) := by decide +kernel
theorem dX4_tell_2 : decode cX4_tell 2 = .ok (.getfield 37, 3) := by decide +kernel
theorem dX4_tell_5 : decode cX4_tell 5 = .ok (.ifCond .ne 7, 3) := by decide +kernel
theorem dX4_tell_8 : decode cX4_tell 8 = .ok (.iload_n 1, 1) := by decide +kernel
theorem dX4_tell_9 : decode cX4_tell 9 = .ok (.goto 7, 3) := by decide +kernel
theorem dX4_tell_12 : decode cX4_tell 12 = .ok (.aload_n 0, 1) := by decide +kernel
theorem dX4_tell_13 : decode cX4_tell 13 = .ok (.getfield 41, 3) := by decide +kernel
theorem dX4_tell_16 : decode cX4_tell 16 = .ok (.putfield 41, 3) := by decide +kernel
theorem dX4_tell_19 : decode cX4_tell 19 = .ok (.aload_n 0, 1) := by decide +kernel
theorem dX4_tell_20 : decode cX4_tell 20 = .ok (.dup, 1) := by decide +kernel
theorem dX4_tell_21 : decode cX4_tell 21 = .ok (.getfield 37, 3) := by decide +kernel
theorem dX4_tell_24 : decode cX4_tell 24 = .ok (.iconst 1, 1) := by decide +kernel
theorem dX4_tell_25 : decode cX4_tell 25 = .ok (.iadd, 1) := by decide +kernel
theorem dX4_tell_26 : decode cX4_tell 26 = .ok (.putfield 37, 3) := by decide +kernel
theorem dX4_tell_29 : decode cX4_tell 29 = .ok (.return_, 1) := by decide +kernel
theorem dX4_raiseBest_0 : decode cX4_raiseBest 0 = .ok (.iconst 1, 1) := by decide +kernel
theorem dX4_raiseBest_1 : decode cX4_raiseBest 1 = .ok (.iload_n 1, 1) := by decide +kernel
theorem dX4_raiseBest_2 : decode cX4_raiseBest 2 = .ok (.ishl, 1) := by decide +kernel
theorem dX4_raiseBest_3 : decode cX4_raiseBest 3 = .ok (.iconst 1, 1) := by decide +kernel
theorem dX4_raiseBest_4 : decode cX4_raiseBest 4 = .ok (.iload_n 2, 1) := by decide +kernel
theorem dX4_raiseBest_5 : decode cX4_raiseBest 5 = .ok (.ishl, 1) := by decide +kernel
theorem dX4_raiseBest_6 : decode cX4_raiseBest 6 = .ok (.ior, 1) := by decide +kernel
theorem dX4_raiseBest_7 : decode cX4_raiseBest 7 = .ok (.iconst 1, 1) := by decide +kernel
theorem dX4_raiseBest_8 : decode cX4_raiseBest 8 = .ok (.iload_n 3, 1) := by decide +kernel
theorem dX4_raiseBest_9 : decode cX4_raiseBest 9 = .ok (.ishl, 1) := by decide +kernel
theorem dX4_raiseBest_10 : decode cX4_raiseBest 10 = .ok (.ior, 1) := by decide +kernel
theorem dX4_raiseBest_11 : decode cX4_raiseBest 11 = .ok (.iconst 1, 1) := by decide +kernel
theorem dX4_raiseBest_12 : decode cX4_raiseBest 12 = .ok (.ishr, 1) := by decide +kernel
theorem dX4_raiseBest_13 : decode cX4_raiseBest 13 = .ok (.istore 4, 2) := by decide +kernel
theorem dX4_raiseBest_15 : decode cX4_raiseBest 15 = .ok (.aload_n 0, 1) := by decide +kernel
theorem dX4_raiseBest_16 : decode cX4_raiseBest 16 = .ok (.iconst 0, 1) := by decide +kernel
theorem dX4_raiseBest_17 : decode cX4_raiseBest 17 = .ok (.iload_n 2, 1) := by decide +kernel
theorem dX4_raiseBest_18 : decode cX4_raiseBest 18 = .ok (.bipush 9, 2) := by decide +kernel
theorem dX4_raiseBest_20 : decode cX4_raiseBest 20 = .ok (.imul, 1) := by decide +kernel
theorem dX4_raiseBest_21 : decode cX4_raiseBest 21 = .ok (.iload_n 3, 1) := by decide +kernel
theorem dX4_raiseBest_22 : decode cX4_raiseBest 22 = .ok (.iadd, 1) := by decide +kernel
theorem dX4_raiseBest_23 : decode cX4_raiseBest 23 = .ok (.aload_n 0, 1) := by decide +kernel
theorem dX4_raiseBest_24 : decode cX4_raiseBest 24 = .ok (.iconst 0, 1) := by decide +kernel
theorem dX4_raiseBest_25 : decode cX4_raiseBest 25 = .ok (.iload_n 1, 1) := by decide +kernel
theorem dX4_raiseBest_26 : decode cX4_raiseBest 26 = .ok (.iload 4, 2) := by decide +kernel
theorem dX4_raiseBest_28 : decode cX4_raiseBest 28 = .ok (.invokevirtual 100, 3) := by decide +kernel
theorem dX4_raiseBest_31 : decode cX4_raiseBest 31 = .ok (.invokevirtual 104, 3) := by decide +kernel
theorem dX4_raiseBest_34 : decode cX4_raiseBest 34 = .ok (.aload_n 0, 1) := by decide +kernel
theorem dX4_raiseBest_35 : decode cX4_raiseBest 35 = .ok (.iconst 1, 1) := by decide +kernel
theorem dX4_raiseBest_36 : decode cX4_raiseBest 36 = .ok (.iload_n 1, 1) := by decide +kernel
theorem dX4_raiseBest_37 : decode cX4_raiseBest 37 = .ok (.bipush 9, 2) := by decide +kernel
theorem dX4_raiseBest_39 : decode cX4_raiseBest 39 = .ok (.imul, 1) := by decide +kernel
theorem dX4_raiseBest_40 : decode cX4_raiseBest 40 = .ok (.iload_n 3, 1) := by decide +kernel
theorem dX4_raiseBest_41 : decode cX4_raiseBest 41 = .ok (.iadd, 1) := by decide +kernel
theorem dX4_raiseBest_42 : decode cX4_raiseBest 42 = .ok (.aload_n 0, 1) := by decide +kernel
theorem dX4_raiseBest_43 : decode cX4_raiseBest 43 = .ok (.iconst 1, 1) := by decide +kernel
theorem dX4_raiseBest_44 : decode cX4_raiseBest 44 = .ok (.iload_n 2, 1) := by decide +kernel
theorem dX4_raiseBest_45 : decode cX4_raiseBest 45 = .ok (.iload 4, 2) := by decide +kernel
theorem dX4_raiseBest_47 : decode cX4_raiseBest 47 = .ok (.invokevirtual 100, 3) := by decide +kernel
theorem dX4_raiseBest_50 : decode cX4_raiseBest 50 = .ok (.invokevirtual 104, 3) := by decide +kernel
theorem dX4_raiseBest_53 : decode cX4_raiseBest 53 = .ok (.aload_n 0, 1) := by decide +kernel
theorem dX4_raiseBest_54 : decode cX4_raiseBest 54 = .ok (.iconst 2, 1) := by decide +kernel
theorem dX4_raiseBest_55 : decode cX4_raiseBest 55 = .ok (.iload_n 1, 1) := by decide +kernel
theorem dX4_raiseBest_56 : decode cX4_raiseBest 56 = .ok (.bipush 9, 2) := by decide +kernel
theorem dX4_raiseBest_58 : decode cX4_raiseBest 58 = .ok (.imul, 1) := by decide +kernel
theorem dX4_raiseBest_59 : decode cX4_raiseBest 59 = .ok (.iload_n 2, 1) := by decide +kernel
theorem dX4_raiseBest_60 : decode cX4_raiseBest 60 = .ok (.iadd, 1) := by decide +kernel
theorem dX4_raiseBest_61 : decode cX4_raiseBest 61 = .ok (.aload_n 0, 1) := by decide +kernel
theorem dX4_raiseBest_62 : decode cX4_raiseBest 62 = .ok (.iconst 2, 1) := by decide +kernel
theorem dX4_raiseBest_63 : decode cX4_raiseBest 63 = .ok (.iload_n 3, 1) := by decide +kernel
theorem dX4_raiseBest_64 : decode cX4_raiseBest 64 = .ok (.iload 4, 2) := by decide +kernel
theorem dX4_raiseBest_66 : decode cX4_raiseBest 66 = .ok (.invokevirtual 100, 3) := by decide +kernel
theorem dX4_raiseBest_69 : decode cX4_raiseBest 69 = .ok (.invokevirtual 104, 3) := by decide +kernel
theorem dX4_raiseBest_72 : decode cX4_raiseBest 72 = .ok (.return_, 1) := by decide +kernel
theorem dX4_raise_0 : decode cX4_raise 0 = .ok (.aload_n 0, 1) := by decide +kernel
theorem dX4_raise_1 : decode cX4_raise 1 = .ok (.getfield 27, 3) := by decide +kernel
theorem dX4_raise_4 : decode cX4_raise 4 = .ok (.iload_n 1, 1) := by decide +kernel
theorem dX4_raise_5 : decode cX4_raise 5 = .ok (.invokestatic 68, 3) := by decide +kernel
theorem dX4_raise_8 : decode cX4_raise 8 = .ok (.astore 4, 2) := by decide +kernel
theorem dX4_raise_10 : decode cX4_raise 10 = .ok (.aload 4, 2) := by decide +kernel
theorem dX4_raise_12 : decode cX4_raise 12 = .ok (.iload_n 2, 1) := by decide +kernel
theorem dX4_raise_13 : decode cX4_raise 13 = .ok (.aload 4, 2) := by decide +kernel
theorem dX4_raise_15 : decode cX4_raise 15 = .ok (.iload_n 2, 1) := by decide +kernel
theorem dX4_raise_16 : decode cX4_raise 16 = .ok (.invokestatic 96, 3) := by decide +kernel
theorem dX4_raise_19 : decode cX4_raise 19 = .ok (.iload_n 3, 1) := by decide +kernel
theorem dX4_raise_20 : decode cX4_raise 20 = .ok (.invokestatic 107, 3) := by decide +kernel
theorem dX4_raise_23 : decode cX4_raise 23 = .ok (.invokestatic 64, 3) := by decide +kernel
theorem dX4_raise_26 : decode cX4_raise 26 = .ok (.return_, 1) := by decide +kernel
theorem dX4_isRest_0 : decode cX4_isRest 0 = .ok (.iconst 1, 1) := by decide +kernel
theorem dX4_isRest_1 : decode cX4_isRest 1 = .ok (.iload_n 1, 1) := by decide +kernel
theorem dX4_isRest_2 : decode cX4_isRest 2 = .ok (.ishl, 1) := by decide +kernel
theorem dX4_isRest_3 : decode cX4_isRest 3 = .ok (.iconst 1, 1) := by decide +kernel
theorem dX4_isRest_4 : decode cX4_isRest 4 = .ok (.iload_n 2, 1) := by decide +kernel
theorem dX4_isRest_5 : decode cX4_isRest 5 = .ok (.ishl, 1) := by decide +kernel
theorem dX4_isRest_6 : decode cX4_isRest 6 = .ok (.ior, 1) := by decide +kernel
theorem dX4_isRest_7 : decode cX4_isRest 7 = .ok (.iconst 1, 1) := by decide +kernel
theorem dX4_isRest_8 : decode cX4_isRest 8 = .ok (.iload_n 3, 1) := by decide +kernel
theorem dX4_isRest_9 : decode cX4_isRest 9 = .ok (.ishl, 1) := by decide +kernel
theorem dX4_isRest_10 : decode cX4_isRest 10 = .ok (.ior, 1) := by decide +kernel
theorem dX4_isRest_11 : decode cX4_isRest 11 = .ok (.iconst 1, 1) := by decide +kernel
theorem dX4_isRest_12 : decode cX4_isRest 12 = .ok (.ishr, 1) := by decide +kernel
theorem dX4_isRest_13 : decode cX4_isRest 13 = .ok (.istore 4, 2) := by decide +kernel
theorem dX4_isRest_15 : decode cX4_isRest 15 = .ok (.aload_n 0, 1) := by decide +kernel
theorem dX4_isRest_16 : decode cX4_isRest 16 = .ok (.iconst 0, 1) := by decide +kernel
theorem dX4_isRest_17 : decode cX4_isRest 17 = .ok (.iload_n 1, 1) := by decide +kernel
theorem dX4_isRest_18 : decode cX4_isRest 18 = .ok (.iload 4, 2) := by decide +kernel
theorem dX4_isRest_20 : decode cX4_isRest 20 = .ok (.invokevirtual 100, 3) := by decide +kernel
theorem dX4_isRest_23 : decode cX4_isRest 23 = .ok (.aload_n 0, 1) := by decide +kernel
theorem dX4_isRest_24 : decode cX4_isRest 24 = .ok (.getfield 27, 3) := by decide +kernel
theorem dX4_isRest_27 : decode cX4_isRest 27 = .ok (.iconst 0, 1) := by decide +kernel
theorem dX4_isRest_28 : decode cX4_isRest 28 = .ok (.invokestatic 68, 3) := by decide +kernel
theorem dX4_isRest_31 : decode cX4_isRest 31 = .ok (.iload_n 2, 1) := by decide +kernel
theorem dX4_isRest_32 : decode cX4_isRest 32 = .ok (.bipush 9, 2) := by decide +kernel
theorem dX4_isRest_34 : decode cX4_isRest 34 = .ok (.imul, 1) := by decide +kernel
theorem dX4_isRest_35 : decode cX4_isRest 35 = .ok (.iload_n 3, 1) := by decide +kernel
theorem dX4_isRest_36 : decode cX4_isRest 36 = .ok (.iadd, 1) := by decide +kernel
theorem dX4_isRest_37 : decode cX4_isRest 37 = .ok (.invokestatic 96, 3) := by decide +kernel
theorem dX4_isRest_40 : decode cX4_isRest 40 = .ok (.if_icmp .lt 63, 3) := by decide +kernel
theorem dX4_isRest_43 : decode cX4_isRest 43 = .ok (.aload_n 0, 1) := by decide +kernel
theorem dX4_isRest_44 : decode cX4_isRest 44 = .ok (.iconst 1, 1) := by decide +kernel
theorem dX4_isRest_45 : decode cX4_isRest 45 = .ok (.iload_n 2, 1) := by decide +kernel
theorem dX4_isRest_46 : decode cX4_isRest 46 = .ok (.iload 4, 2) := by decide +kernel
theorem dX4_isRest_48 : decode cX4_isRest 48 = .ok (.invokevirtual 100, 3) := by decide +kernel
theorem dX4_isRest_51 : decode cX4_isRest 51 = .ok (.aload_n 0, 1) := by decide +kernel
theorem dX4_isRest_52 : decode cX4_isRest 52 = .ok (.getfield 27, 3) := by decide +kernel
theorem dX4_isRest_55 : decode cX4_isRest 55 = .ok (.iconst 1, 1) := by decide +kernel
theorem dX4_isRest_56 : decode cX4_isRest 56 = .ok (.invokestatic 68, 3) := by decide +kernel
theorem dX4_isRest_59 : decode cX4_isRest 59 = .ok (.iload_n 1, 1) := by decide +kernel
theorem dX4_isRest_60 : decode cX4_isRest 60 = .ok (.bipush 9, 2) := by decide +kernel
theorem dX4_isRest_62 : decode cX4_isRest 62 = .ok (.imul, 1) := by decide +kernel
theorem dX4_isRest_63 : decode cX4_isRest 63 = .ok (.iload_n 3, 1) := by decide +kernel
theorem dX4_isRest_64 : decode cX4_isRest 64 = .ok (.iadd, 1) := by decide +kernel
theorem dX4_isRest_65 : decode cX4_isRest 65 = .ok (.invokestatic 96, 3) := by decide +kernel
theorem dX4_isRest_68 : decode cX4_isRest 68 = .ok (.if_icmp .lt 35, 3) := by decide +kernel
theorem dX4_isRest_71 : decode cX4_isRest 71 = .ok (.aload_n 0, 1) := by decide +kernel
theorem dX4_isRest_72 : decode cX4_isRest 72 = .ok (.iconst 2, 1) := by decide +kernel
theorem dX4_isRest_73 : decode cX4_isRest 73 = .ok (.iload_n 3, 1) := by decide +kernel
theorem dX4_isRest_74 : decode cX4_isRest 74 = .ok (.iload 4, 2) := by decide +kernel
theorem dX4_isRest_76 : decode cX4_isRest 76 = .ok (.invokevirtual 100, 3) := by decide +kernel
theorem dX4_isRest_79 : decode cX4_isRest 79 = .ok (.aload_n 0, 1) := by decide +kernel
theorem dX4_isRest_80 : decode cX4_isRest 80 = .ok (.getfield 27, 3) := by decide +kernel
theorem dX4_isRest_83 : decode cX4_isRest 83 = .ok (.iconst 2, 1) := by decide +kernel
theorem dX4_isRest_84 : decode cX4_isRest 84 = .ok (.invokestatic 68, 3) := by decide +kernel
theorem dX4_isRest_87 : decode cX4_isRest 87 = .ok (.iload_n 1, 1) := by decide +kernel
theorem dX4_isRest_88 : decode cX4_isRest 88 = .ok (.bipush 9, 2) := by decide +kernel
theorem dX4_isRest_90 : decode cX4_isRest 90 = .ok (.imul, 1) := by decide +kernel
theorem dX4_isRest_91 : decode cX4_isRest 91 = .ok (.iload_n 2, 1) := by decide +kernel
theorem dX4_isRest_92 : decode cX4_isRest 92 = .ok (.iadd, 1) := by decide +kernel
theorem dX4_isRest_93 : decode cX4_isRest 93 = .ok (.invokestatic 96, 3) := by decide +kernel
theorem dX4_isRest_96 : decode cX4_isRest 96 = .ok (.if_icmp .lt 7, 3) := by decide +kernel
theorem dX4_isRest_99 : decode cX4_isRest 99 = .ok (.iconst 1, 1) := by decide +kernel
theorem dX4_isRest_100 : decode cX4_isRest 100 = .ok (.goto 4, 3) := by decide +kernel
theorem dX4_isRest_103 : decode cX4_isRest 103 = .ok (.iconst 0, 1) := by decide +kernel
theorem dX4_isRest_104 : decode cX4_isRest 104 = .ok (.ireturn, 1) := by decide +kernel
theorem dX4_has_0 : decode cX4_has 0 = .ok (.aload_n 0, 1) := by decide +kernel
theorem dX4_has_1 : decode cX4_has 1 = .ok (.getfield 24, 3) := by decide +kernel
theorem dX4_has_4 : decode cX4_has 4 = .ok (.iload_n 1, 1) := by decide +kernel
theorem dX4_has_5 : decode cX4_has 5 = .ok (.invokestatic 68, 3) := by decide +kernel
theorem dX4_has_8 : decode cX4_has 8 = .ok (.iload_n 3, 1) := by decide +kernel
theorem dX4_has_9 : decode cX4_has 9 = .ok (.invokestatic 96, 3) := by decide +kernel
theorem dX4_has_12 : decode cX4_has 12 = .ok (.iload_n 2, 1) := by decide +kernel
theorem dX4_has_13 : decode cX4_has 13 = .ok (.ifCond .ne 7, 3) := by decide +kernel
theorem dX4_has_16 : decode cX4_has 16 = .ok (.iconst 0, 1) := by decide +kernel
theorem dX4_has_17 : decode cX4_has 17 = .ok (.goto 13, 3) := by decide +kernel
theorem dX4_has_20 : decode cX4_has 20 = .ok (.aload_n 0, 1) := by decide +kernel
theorem dX4_has_21 : decode cX4_has 21 = .ok (.getfield 12, 3) := by decide +kernel
theorem dX4_has_24 : decode cX4_has 24 = .ok (.iload_n 2, 1) := by decide +kernel
theorem dX4_has_25 : decode cX4_has 25 = .ok (.iconst 1, 1) := by decide +kernel
theorem dX4_has_26 : decode cX4_has 26 = .ok (.isub, 1) := by decide +kernel
theorem dX4_has_27 : decode cX4_has 27 = .ok (.invokevirtual 112, 3) := by decide +kernel
theorem dX4_has_30 : decode cX4_has 30 = .ok (.isub, 1) := by decide +kernel
theorem dX4_has_31 : decode cX4_has 31 = .ok (.ireturn, 1) := by decide +kernel
theorem dX5_init_0 : decode cX5_init 0 = .ok (.aload_n 0, 1) := by decide +kernel
theorem dX5_init_1 : decode cX5_init 1 = .ok (.invokespecial 3, 3) := by decide +kernel
theorem dX5_init_4 : decode cX5_init 4 = .ok (.return_, 1) := by decide +kernel
theorem dX5_seekCampaign_0 : decode cX5_seekCampaign 0 = .ok (.aload_n 0, 1) := by decide +kernel
theorem dX5_seekCampaign_1 : decode cX5_seekCampaign 1 = .ok (.bipush (-9), 2) := by decide +kernel
theorem dX5_seekCampaign_3 : decode cX5_seekCampaign 3 = .ok (.putfield 9, 3) := by decide +kernel
theorem dX5_seekCampaign_6 : decode cX5_seekCampaign 6 = .ok (.aload_n 0, 1) := by decide +kernel
theorem dX5_seekCampaign_7 : decode cX5_seekCampaign 7 = .ok (.bipush (-9), 2) := by decide +kernel
theorem dX5_seekCampaign_9 : decode cX5_seekCampaign 9 = .ok (.putfield 15, 3) := by decide +kernel
theorem dX5_seekCampaign_12 : decode cX5_seekCampaign 12 = .ok (.aload_n 0, 1) := by decide +kernel
theorem dX5_seekCampaign_13 : decode cX5_seekCampaign 13 = .ok (.bipush (-9), 2) := by decide +kernel
theorem dX5_seekCampaign_15 : decode cX5_seekCampaign 15 = .ok (.putfield 18, 3) := by decide +kernel
theorem dX5_seekCampaign_18 : decode cX5_seekCampaign 18 = .ok (.iconst 1, 1) := by decide +kernel
theorem dX5_seekCampaign_19 : decode cX5_seekCampaign 19 = .ok (.istore_n 3, 1) := by decide +kernel
theorem dX5_seekCampaign_20 : decode cX5_seekCampaign 20 = .ok (.iload_n 3, 1) := by decide +kernel
theorem dX5_seekCampaign_21 : decode cX5_seekCampaign 21 = .ok (.iconst 4, 1) := by decide +kernel
theorem dX5_seekCampaign_22 : decode cX5_seekCampaign 22 = .ok (.if_icmp .gt 89, 3) := by decide +kernel
theorem dX5_seekCampaign_25 : decode cX5_seekCampaign 25 = .ok (.aload_n 1, 1) := by decide +kernel
theorem dX5_seekCampaign_26 : decode cX5_seekCampaign 26 = .ok (.iload_n 2, 1) := by decide +kernel
theorem dX5_seekCampaign_27 : decode cX5_seekCampaign 27 = .ok (.iload_n 3, 1) := by decide +kernel
theorem dX5_seekCampaign_28 : decode cX5_seekCampaign 28 = .ok (.aload_n 1, 1) := by decide +kernel
theorem dX5_seekCampaign_29 : decode cX5_seekCampaign 29 = .ok (.invokevirtual 21, 3) := by decide +kernel
theorem dX5_seekCampaign_32 : decode cX5_seekCampaign 32 = .ok (.invokevirtual 27, 3) := by decide +kernel
theorem dX5_seekCampaign_35 : decode cX5_seekCampaign 35 = .ok (.istore 4, 2) := by decide +kernel
theorem dX5_seekCampaign_37 : decode cX5_seekCampaign 37 = .ok (.iload 4, 2) := by decide +kernel
theorem dX5_seekCampaign_39 : decode cX5_seekCampaign 39 = .ok (.aload_n 1, 1) := by decide +kernel
theorem dX5_seekCampaign_40 : decode cX5_seekCampaign 40 = .ok (.getfield 31, 3) := by decide +kernel
theorem dX5_seekCampaign_43 : decode cX5_seekCampaign 43 = .ok (.iand, 1) := by decide +kernel
theorem dX5_seekCampaign_44 : decode cX5_seekCampaign 44 = .ok (.ifCond .eq 6, 3) := by decide +kernel
theorem dX5_seekCampaign_47 : decode cX5_seekCampaign 47 = .ok (.goto 58, 3) := by decide +kernel
theorem dX5_seekCampaign_50 : decode cX5_seekCampaign 50 = .ok (.iconst 3, 1) := by decide +kernel
theorem dX5_seekCampaign_51 : decode cX5_seekCampaign 51 = .ok (.iload_n 3, 1) := by decide +kernel
theorem dX5_seekCampaign_52 : decode cX5_seekCampaign 52 = .ok (.aload_n 1, 1) := by decide +kernel
theorem dX5_seekCampaign_53 : decode cX5_seekCampaign 53 = .ok (.getfield 34, 3) := by decide +kernel
theorem dX5_seekCampaign_56 : decode cX5_seekCampaign 56 = .ok (.isub, 1) := by decide +kernel
theorem dX5_seekCampaign_57 : decode cX5_seekCampaign 57 = .ok (.invokestatic 37, 3) := by decide +kernel
theorem dX5_seekCampaign_60 : decode cX5_seekCampaign 60 = .ok (.imul, 1) := by decide +kernel
theorem dX5_seekCampaign_61 : decode cX5_seekCampaign 61 = .ok (.aload_n 1, 1) := by decide +kernel
theorem dX5_seekCampaign_62 : decode cX5_seekCampaign 62 = .ok (.iload 4, 2) := by decide +kernel
theorem dX5_seekCampaign_64 : decode cX5_seekCampaign 64 = .ok (.invokestatic 43, 3) := by decide +kernel
theorem dX5_seekCampaign_67 : decode cX5_seekCampaign 67 = .ok (.iadd, 1) := by decide +kernel
theorem dX5_seekCampaign_68 : decode cX5_seekCampaign 68 = .ok (.istore 5, 2) := by decide +kernel
theorem dX5_seekCampaign_70 : decode cX5_seekCampaign 70 = .ok (.aload_n 0, 1) := by decide +kernel
theorem dX5_seekCampaign_71 : decode cX5_seekCampaign 71 = .ok (.getfield 9, 3) := by decide +kernel
theorem dX5_seekCampaign_74 : decode cX5_seekCampaign 74 = .ok (.bipush (-9), 2) := by decide +kernel
theorem dX5_seekCampaign_76 : decode cX5_seekCampaign 76 = .ok (.if_icmp .eq 12, 3) := by decide +kernel
theorem dX5_seekCampaign_79 : decode cX5_seekCampaign 79 = .ok (.iload 5, 2) := by decide +kernel
theorem dX5_seekCampaign_81 : decode cX5_seekCampaign 81 = .ok (.aload_n 0, 1) := by decide +kernel
theorem dX5_seekCampaign_82 : decode cX5_seekCampaign 82 = .ok (.getfield 9, 3) := by decide +kernel
theorem dX5_seekCampaign_85 : decode cX5_seekCampaign 85 = .ok (.if_icmp .ge 20, 3) := by decide +kernel
theorem dX5_seekCampaign_88 : decode cX5_seekCampaign 88 = .ok (.aload_n 0, 1) := by decide +kernel
theorem dX5_seekCampaign_89 : decode cX5_seekCampaign 89 = .ok (.iload 5, 2) := by decide +kernel
theorem dX5_seekCampaign_91 : decode cX5_seekCampaign 91 = .ok (.putfield 9, 3) := by decide +kernel
theorem dX5_seekCampaign_94 : decode cX5_seekCampaign 94 = .ok (.aload_n 0, 1) := by decide +kernel
theorem dX5_seekCampaign_95 : decode cX5_seekCampaign 95 = .ok (.iload_n 3, 1) := by decide +kernel
theorem dX5_seekCampaign_96 : decode cX5_seekCampaign 96 = .ok (.putfield 15, 3) := by decide +kernel
theorem dX5_seekCampaign_99 : decode cX5_seekCampaign 99 = .ok (.aload_n 0, 1) := by decide +kernel
theorem dX5_seekCampaign_100 : decode cX5_seekCampaign 100 = .ok (.iload 4, 2) := by decide +kernel
theorem dX5_seekCampaign_102 : decode cX5_seekCampaign 102 = .ok (.putfield 18, 3) := by decide +kernel
theorem dX5_seekCampaign_105 : decode cX5_seekCampaign 105 = .ok (.iinc 3 1, 3) := by decide +kernel
theorem dX5_seekCampaign_108 : decode cX5_seekCampaign 108 = .ok (.goto (-88), 3) := by decide +kernel
theorem dX5_seekCampaign_111 : decode cX5_seekCampaign 111 = .ok (.return_, 1) := by decide +kernel
theorem dX5_leastCopy_0 : decode cX5_leastCopy 0 = .ok (.bipush (-9), 2) := by decide +kernel
theorem dX5_leastCopy_2 : decode cX5_leastCopy 2 = .ok (.istore_n 3, 1) := by decide +kernel
theorem dX5_leastCopy_3 : decode cX5_leastCopy 3 = .ok (.iconst 0, 1) := by decide +kernel
theorem dX5_leastCopy_4 : decode cX5_leastCopy 4 = .ok (.istore 4, 2) := by decide +kernel
theorem dX5_leastCopy_6 : decode cX5_leastCopy 6 = .ok (.iload 4, 2) := by decide +kernel
theorem dX5_leastCopy_8 : decode cX5_leastCopy 8 = .ok (.bipush 16, 2) := by decide +kernel
theorem dX5_leastCopy_10 : decode cX5_leastCopy 10 = .ok (.if_icmp .ge 52, 3) := by decide +kernel
theorem dX5_leastCopy_13 : decode cX5_leastCopy 13 = .ok (.iload_n 3, 1) := by decide +kernel
theorem dX5_leastCopy_14 : decode cX5_leastCopy 14 = .ok (.bipush (-9), 2) := by decide +kernel
theorem dX5_leastCopy_16 : decode cX5_leastCopy 16 = .ok (.if_icmp .eq 15, 3) := by decide +kernel
theorem dX5_leastCopy_19 : decode cX5_leastCopy 19 = .ok (.iload 4, 2) := by decide +kernel
theorem dX5_leastCopy_21 : decode cX5_leastCopy 21 = .ok (.invokestatic 47, 3) := by decide +kernel
theorem dX5_leastCopy_24 : decode cX5_leastCopy 24 = .ok (.iload_n 3, 1) := by decide +kernel
theorem dX5_leastCopy_25 : decode cX5_leastCopy 25 = .ok (.invokestatic 47, 3) := by decide +kernel
theorem dX5_leastCopy_28 : decode cX5_leastCopy 28 = .ok (.if_icmp .ge 7, 3) := by decide +kernel
theorem dX5_leastCopy_31 : decode cX5_leastCopy 31 = .ok (.iconst 1, 1) := by decide +kernel
theorem dX5_leastCopy_32 : decode cX5_leastCopy 32 = .ok (.goto 4, 3) := by decide +kernel
theorem dX5_leastCopy_35 : decode cX5_leastCopy 35 = .ok (.iconst 0, 1) := by decide +kernel
theorem dX5_leastCopy_36 : decode cX5_leastCopy 36 = .ok (.istore 5, 2) := by decide +kernel
theorem dX5_leastCopy_38 : decode cX5_leastCopy 38 = .ok (.iload 5, 2) := by decide +kernel
theorem dX5_leastCopy_40 : decode cX5_leastCopy 40 = .ok (.ifCond .eq 16, 3) := by decide +kernel
theorem dX5_leastCopy_43 : decode cX5_leastCopy 43 = .ok (.aload_n 1, 1) := by decide +kernel
theorem dX5_leastCopy_44 : decode cX5_leastCopy 44 = .ok (.iload_n 2, 1) := by decide +kernel
theorem dX5_leastCopy_45 : decode cX5_leastCopy 45 = .ok (.iload 4, 2) := by decide +kernel
theorem dX5_leastCopy_47 : decode cX5_leastCopy 47 = .ok (.invokestatic 52, 3) := by decide +kernel
theorem dX5_leastCopy_50 : decode cX5_leastCopy 50 = .ok (.ifCond .eq 6, 3) := by decide +kernel
theorem dX5_leastCopy_53 : decode cX5_leastCopy 53 = .ok (.iload 4, 2) := by decide +kernel
theorem dX5_leastCopy_55 : decode cX5_leastCopy 55 = .ok (.istore_n 3, 1) := by decide +kernel
theorem dX5_leastCopy_56 : decode cX5_leastCopy 56 = .ok (.iinc 4 1, 3) := by decide +kernel
theorem dX5_leastCopy_59 : decode cX5_leastCopy 59 = .ok (.goto (-53), 3) := by decide +kernel
theorem dX5_leastCopy_62 : decode cX5_leastCopy 62 = .ok (.iload_n 3, 1) := by decide +kernel
theorem dX5_leastCopy_63 : decode cX5_leastCopy 63 = .ok (.ireturn, 1) := by decide +kernel
theorem dX5_wordOfMostLast_0 : decode cX5_wordOfMostLast 0 = .ok (.iconst 1, 1) := by decide +kernel
theorem dX5_wordOfMostLast_1 : decode cX5_wordOfMostLast 1 = .ok (.istore_n 2, 1) := by decide +kernel
theorem dX5_wordOfMostLast_2 : decode cX5_wordOfMostLast 2 = .ok (.iconst 2, 1) := by decide +kernel
theorem dX5_wordOfMostLast_3 : decode cX5_wordOfMostLast 3 = .ok (.istore_n 3, 1) := by decide +kernel
theorem dX5_wordOfMostLast_4 : decode cX5_wordOfMostLast 4 = .ok (.iload_n 3, 1) := by decide +kernel
theorem dX5_wordOfMostLast_5 : decode cX5_wordOfMostLast 5 = .ok (.iconst 4, 1) := by decide +kernel
theorem dX5_wordOfMostLast_6 : decode cX5_wordOfMostLast 6 = .ok (.if_icmp .gt 69, 3) := by decide +kernel
theorem dX5_wordOfMostLast_9 : decode cX5_wordOfMostLast 9 = .ok (.aload_n 0, 1) := by decide +kernel
theorem dX5_wordOfMostLast_10 : decode cX5_wordOfMostLast 10 = .ok (.aload_n 1, 1) := by decide +kernel
theorem dX5_wordOfMostLast_11 : decode cX5_wordOfMostLast 11 = .ok (.iload_n 3, 1) := by decide +kernel
theorem dX5_wordOfMostLast_12 : decode cX5_wordOfMostLast 12 = .ok (.invokevirtual 56, 3) := by decide +kernel
theorem dX5_wordOfMostLast_15 : decode cX5_wordOfMostLast 15 = .ok (.aload_n 0, 1) := by decide +kernel
theorem dX5_wordOfMostLast_16 : decode cX5_wordOfMostLast 16 = .ok (.aload_n 1, 1) := by decide +kernel
theorem dX5_wordOfMostLast_17 : decode cX5_wordOfMostLast 17 = .ok (.iload_n 2, 1) := by decide +kernel
theorem dX5_wordOfMostLast_18 : decode cX5_wordOfMostLast 18 = .ok (.invokevirtual 56, 3) := by decide +kernel
theorem dX5_wordOfMostLast_21 : decode cX5_wordOfMostLast 21 = .ok (.isub, 1) := by decide +kernel
theorem dX5_wordOfMostLast_22 : decode cX5_wordOfMostLast 22 = .ok (.istore 4, 2) := by decide +kernel
theorem dX5_wordOfMostLast_24 : decode cX5_wordOfMostLast 24 = .ok (.iload_n 3, 1) := by decide +kernel
theorem dX5_wordOfMostLast_25 : decode cX5_wordOfMostLast 25 = .ok (.aload_n 1, 1) := by decide +kernel
theorem dX5_wordOfMostLast_26 : decode cX5_wordOfMostLast 26 = .ok (.getfield 34, 3) := by decide +kernel
theorem dX5_wordOfMostLast_29 : decode cX5_wordOfMostLast 29 = .ok (.isub, 1) := by decide +kernel
theorem dX5_wordOfMostLast_30 : decode cX5_wordOfMostLast 30 = .ok (.invokestatic 37, 3) := by decide +kernel
theorem dX5_wordOfMostLast_33 : decode cX5_wordOfMostLast 33 = .ok (.iload_n 2, 1) := by decide +kernel
theorem dX5_wordOfMostLast_34 : decode cX5_wordOfMostLast 34 = .ok (.aload_n 1, 1) := by decide +kernel
theorem dX5_wordOfMostLast_35 : decode cX5_wordOfMostLast 35 = .ok (.getfield 34, 3) := by decide +kernel
theorem dX5_wordOfMostLast_38 : decode cX5_wordOfMostLast 38 = .ok (.isub, 1) := by decide +kernel
theorem dX5_wordOfMostLast_39 : decode cX5_wordOfMostLast 39 = .ok (.invokestatic 37, 3) := by decide +kernel
theorem dX5_wordOfMostLast_42 : decode cX5_wordOfMostLast 42 = .ok (.if_icmp .ge 7, 3) := by decide +kernel
theorem dX5_wordOfMostLast_45 : decode cX5_wordOfMostLast 45 = .ok (.iconst 1, 1) := by decide +kernel
theorem dX5_wordOfMostLast_46 : decode cX5_wordOfMostLast 46 = .ok (.goto 4, 3) := by decide +kernel
theorem dX5_wordOfMostLast_49 : decode cX5_wordOfMostLast 49 = .ok (.iconst 0, 1) := by decide +kernel
theorem dX5_wordOfMostLast_50 : decode cX5_wordOfMostLast 50 = .ok (.istore 5, 2) := by decide +kernel
theorem dX5_wordOfMostLast_52 : decode cX5_wordOfMostLast 52 = .ok (.iload 4, 2) := by decide +kernel
theorem dX5_wordOfMostLast_54 : decode cX5_wordOfMostLast 54 = .ok (.ifCond .gt 13, 3) := by decide +kernel
theorem dX5_wordOfMostLast_57 : decode cX5_wordOfMostLast 57 = .ok (.iload 4, 2) := by decide +kernel
theorem dX5_wordOfMostLast_59 : decode cX5_wordOfMostLast 59 = .ok (.ifCond .ne 10, 3) := by decide +kernel
theorem dX5_wordOfMostLast_62 : decode cX5_wordOfMostLast 62 = .ok (.iload 5, 2) := by decide +kernel
theorem dX5_wordOfMostLast_64 : decode cX5_wordOfMostLast 64 = .ok (.ifCond .eq 5, 3) := by decide +kernel
theorem dX5_wordOfMostLast_67 : decode cX5_wordOfMostLast 67 = .ok (.iload_n 3, 1) := by decide +kernel
theorem dX5_wordOfMostLast_68 : decode cX5_wordOfMostLast 68 = .ok (.istore_n 2, 1) := by decide +kernel
theorem dX5_wordOfMostLast_69 : decode cX5_wordOfMostLast 69 = .ok (.iinc 3 1, 3) := by decide +kernel
theorem dX5_wordOfMostLast_72 : decode cX5_wordOfMostLast 72 = .ok (.goto (-68), 3) := by decide +kernel
theorem dX5_wordOfMostLast_75 : decode cX5_wordOfMostLast 75 = .ok (.iload_n 2, 1) := by decide +kernel
theorem dX5_wordOfMostLast_76 : decode cX5_wordOfMostLast 76 = .ok (.ireturn, 1) := by decide +kernel
theorem dX5_lastBy_0 : decode cX5_lastBy 0 = .ok (.aload_n 1, 1) := by decide +kernel
theorem dX5_lastBy_1 : decode cX5_lastBy 1 = .ok (.iload_n 2, 1) := by decide +kernel
theorem dX5_lastBy_2 : decode cX5_lastBy 2 = .ok (.aload_n 1, 1) := by decide +kernel
theorem dX5_lastBy_3 : decode cX5_lastBy 3 = .ok (.invokevirtual 21, 3) := by decide +kernel
theorem dX5_lastBy_6 : decode cX5_lastBy 6 = .ok (.invokevirtual 59, 3) := by decide +kernel
theorem dX5_lastBy_9 : decode cX5_lastBy 9 = .ok (.invokestatic 47, 3) := by decide +kernel
theorem dX5_lastBy_12 : decode cX5_lastBy 12 = .ok (.ireturn, 1) := by decide +kernel
theorem dX5_costToBreak_0 : decode cX5_costToBreak 0 = .ok (.iconst 0, 1) := by decide +kernel
theorem dX5_costToBreak_1 : decode cX5_costToBreak 1 = .ok (.istore_n 2, 1) := by decide +kernel
theorem dX5_costToBreak_2 : decode cX5_costToBreak 2 = .ok (.iconst 0, 1) := by decide +kernel
theorem dX5_costToBreak_3 : decode cX5_costToBreak 3 = .ok (.istore_n 3, 1) := by decide +kernel
theorem dX5_costToBreak_4 : decode cX5_costToBreak 4 = .ok (.iload_n 3, 1) := by decide +kernel
theorem dX5_costToBreak_5 : decode cX5_costToBreak 5 = .ok (.bipush 8, 2) := by decide +kernel
theorem dX5_costToBreak_7 : decode cX5_costToBreak 7 = .ok (.if_icmp .ge 44, 3) := by decide +kernel
theorem dX5_costToBreak_10 : decode cX5_costToBreak 10 = .ok (.iload_n 1, 1) := by decide +kernel
theorem dX5_costToBreak_11 : decode cX5_costToBreak 11 = .ok (.iload_n 3, 1) := by decide +kernel
theorem dX5_costToBreak_12 : decode cX5_costToBreak 12 = .ok (.invokestatic 63, 3) := by decide +kernel
theorem dX5_costToBreak_15 : decode cX5_costToBreak 15 = .ok (.ifCond .eq 30, 3) := by decide +kernel
theorem dX5_costToBreak_18 : decode cX5_costToBreak 18 = .ok (.iload_n 2, 1) := by decide +kernel
theorem dX5_costToBreak_19 : decode cX5_costToBreak 19 = .ok (.aload_n 0, 1) := by decide +kernel
theorem dX5_costToBreak_20 : decode cX5_costToBreak 20 = .ok (.iload_n 3, 1) := by decide +kernel
theorem dX5_costToBreak_21 : decode cX5_costToBreak 21 = .ok (.bipush 6, 2) := by decide +kernel
theorem dX5_costToBreak_23 : decode cX5_costToBreak 23 = .ok (.invokevirtual 67, 3) := by decide +kernel
theorem dX5_costToBreak_26 : decode cX5_costToBreak 26 = .ok (.aload_n 0, 1) := by decide +kernel
theorem dX5_costToBreak_27 : decode cX5_costToBreak 27 = .ok (.getfield 70, 3) := by decide +kernel
theorem dX5_costToBreak_30 : decode cX5_costToBreak 30 = .ok (.iload_n 3, 1) := by decide +kernel
theorem dX5_costToBreak_31 : decode cX5_costToBreak 31 = .ok (.invokestatic 63, 3) := by decide +kernel
theorem dX5_costToBreak_34 : decode cX5_costToBreak 34 = .ok (.ifCond .eq 7, 3) := by decide +kernel
theorem dX5_costToBreak_37 : decode cX5_costToBreak 37 = .ok (.iconst 5, 1) := by decide +kernel
theorem dX5_costToBreak_38 : decode cX5_costToBreak 38 = .ok (.goto 4, 3) := by decide +kernel
theorem dX5_costToBreak_41 : decode cX5_costToBreak 41 = .ok (.iconst 0, 1) := by decide +kernel
theorem dX5_costToBreak_42 : decode cX5_costToBreak 42 = .ok (.iadd, 1) := by decide +kernel
theorem dX5_costToBreak_43 : decode cX5_costToBreak 43 = .ok (.iadd, 1) := by decide +kernel
theorem dX5_costToBreak_44 : decode cX5_costToBreak 44 = .ok (.istore_n 2, 1) := by decide +kernel
theorem dX5_costToBreak_45 : decode cX5_costToBreak 45 = .ok (.iinc 3 1, 3) := by decide +kernel
theorem dX5_costToBreak_48 : decode cX5_costToBreak 48 = .ok (.goto (-44), 3) := by decide +kernel
theorem dX5_costToBreak_51 : decode cX5_costToBreak 51 = .ok (.iload_n 2, 1) := by decide +kernel
theorem dX5_costToBreak_52 : decode cX5_costToBreak 52 = .ok (.ireturn, 1) := by decide +kernel
theorem dX5_frees_0 : decode cX5_frees 0 = .ok (.iload_n 2, 1) := by decide +kernel
theorem dX5_frees_1 : decode cX5_frees 1 = .ok (.invokestatic 47, 3) := by decide +kernel
theorem dX5_frees_4 : decode cX5_frees 4 = .ok (.aload_n 0, 1) := by decide +kernel
theorem dX5_frees_5 : decode cX5_frees 5 = .ok (.getfield 34, 3) := by decide +kernel
theorem dX5_frees_8 : decode cX5_frees 8 = .ok (.if_icmp .ge 5, 3) := by decide +kernel
theorem dX5_frees_11 : decode cX5_frees 11 = .ok (.iconst 0, 1) := by decide +kernel
theorem dX5_frees_12 : decode cX5_frees 12 = .ok (.ireturn, 1) := by decide +kernel
theorem dX5_frees_13 : decode cX5_frees 13 = .ok (.iconst 0, 1) := by decide +kernel
theorem dX5_frees_14 : decode cX5_frees 14 = .ok (.istore_n 3, 1) := by decide +kernel
theorem dX5_frees_15 : decode cX5_frees 15 = .ok (.iload_n 3, 1) := by decide +kernel
theorem dX5_frees_16 : decode cX5_frees 16 = .ok (.bipush 8, 2) := by decide +kernel
theorem dX5_frees_18 : decode cX5_frees 18 = .ok (.if_icmp .ge 57, 3) := by decide +kernel
theorem dX5_frees_21 : decode cX5_frees 21 = .ok (.iload_n 3, 1) := by decide +kernel
theorem dX5_frees_22 : decode cX5_frees 22 = .ok (.iload_n 1, 1) := by decide +kernel
theorem dX5_frees_23 : decode cX5_frees 23 = .ok (.if_icmp .eq 18, 3) := by decide +kernel
theorem dX5_frees_26 : decode cX5_frees 26 = .ok (.aload_n 0, 1) := by decide +kernel
theorem dX5_frees_27 : decode cX5_frees 27 = .ok (.invokevirtual 21, 3) := by decide +kernel
theorem dX5_frees_30 : decode cX5_frees 30 = .ok (.iload_n 3, 1) := by decide +kernel
theorem dX5_frees_31 : decode cX5_frees 31 = .ok (.invokestatic 63, 3) := by decide +kernel
theorem dX5_frees_34 : decode cX5_frees 34 = .ok (.ifCond .eq 7, 3) := by decide +kernel
theorem dX5_frees_37 : decode cX5_frees 37 = .ok (.iconst 1, 1) := by decide +kernel
theorem dX5_frees_38 : decode cX5_frees 38 = .ok (.goto 4, 3) := by decide +kernel
theorem dX5_frees_41 : decode cX5_frees 41 = .ok (.iconst 0, 1) := by decide +kernel
theorem dX5_frees_42 : decode cX5_frees 42 = .ok (.istore 4, 2) := by decide +kernel
theorem dX5_frees_44 : decode cX5_frees 44 = .ok (.iload 4, 2) := by decide +kernel
theorem dX5_frees_46 : decode cX5_frees 46 = .ok (.ifCond .eq 23, 3) := by decide +kernel
theorem dX5_frees_49 : decode cX5_frees 49 = .ok (.iload_n 2, 1) := by decide +kernel
theorem dX5_frees_50 : decode cX5_frees 50 = .ok (.aload_n 0, 1) := by decide +kernel
theorem dX5_frees_51 : decode cX5_frees 51 = .ok (.iload_n 1, 1) := by decide +kernel
theorem dX5_frees_52 : decode cX5_frees 52 = .ok (.iload_n 3, 1) := by decide +kernel
theorem dX5_frees_53 : decode cX5_frees 53 = .ok (.invokevirtual 73, 3) := by decide +kernel
theorem dX5_frees_56 : decode cX5_frees 56 = .ok (.iand, 1) := by decide +kernel
theorem dX5_frees_57 : decode cX5_frees 57 = .ok (.invokestatic 47, 3) := by decide +kernel
theorem dX5_frees_60 : decode cX5_frees 60 = .ok (.aload_n 0, 1) := by decide +kernel
theorem dX5_frees_61 : decode cX5_frees 61 = .ok (.getfield 34, 3) := by decide +kernel
theorem dX5_frees_64 : decode cX5_frees 64 = .ok (.if_icmp .lt 5, 3) := by decide +kernel
theorem dX5_frees_67 : decode cX5_frees 67 = .ok (.iconst 0, 1) := by decide +kernel
theorem dX5_frees_68 : decode cX5_frees 68 = .ok (.ireturn, 1) := by decide +kernel
theorem dX5_frees_69 : decode cX5_frees 69 = .ok (.iinc 3 1, 3) := by decide +kernel
theorem dX5_frees_72 : decode cX5_frees 72 = .ok (.goto (-57), 3) := by decide +kernel
theorem dX5_frees_75 : decode cX5_frees 75 = .ok (.iconst 1, 1) := by decide +kernel
theorem dX5_frees_76 : decode cX5_frees 76 = .ok (.ireturn, 1) := by decide +kernel
theorem dX6_init_0 : decode cX6_init 0 = .ok (.aload_n 0, 1) := by decide +kernel
theorem dX6_init_1 : decode cX6_init 1 = .ok (.invokespecial 3, 3) := by decide +kernel
theorem dX6_init_4 : decode cX6_init 4 = .ok (.aload_n 0, 1) := by decide +kernel
theorem dX6_init_5 : decode cX6_init 5 = .ok (.bipush 16, 2) := by decide +kernel
theorem dX6_init_7 : decode cX6_init 7 = .ok (.anewarray 9, 3) := by decide +kernel
theorem dX6_init_10 : decode cX6_init 10 = .ok (.putfield 11, 3) := by decide +kernel
theorem dX6_init_13 : decode cX6_init 13 = .ok (.iconst 0, 1) := by decide +kernel
theorem dX6_init_14 : decode cX6_init 14 = .ok (.istore_n 1, 1) := by decide +kernel
theorem dX6_init_15 : decode cX6_init 15 = .ok (.iload_n 1, 1) := by decide +kernel
theorem dX6_init_16 : decode cX6_init 16 = .ok (.aload_n 0, 1) := by decide +kernel
theorem dX6_init_17 : decode cX6_init 17 = .ok (.getfield 11, 3) := by decide +kernel
theorem dX6_init_20 : decode cX6_init 20 = .ok (.arraylength, 1) := by decide +kernel
theorem dX6_init_21 : decode cX6_init 21 = .ok (.if_icmp .ge 22, 3) := by decide +kernel
theorem dX6_init_24 : decode cX6_init 24 = .ok (.aload_n 0, 1) := by decide +kernel
theorem dX6_init_25 : decode cX6_init 25 = .ok (.getfield 11, 3) := by decide +kernel
theorem dX6_init_28 : decode cX6_init 28 = .ok (.iload_n 1, 1) := by decide +kernel
theorem dX6_init_29 : decode cX6_init 29 = .ok (.new 9, 3) := by decide +kernel
theorem dX6_init_32 : decode cX6_init 32 = .ok (.dup, 1) := by decide +kernel
theorem dX6_init_33 : decode cX6_init 33 = .ok (.invokespecial 17, 3) := by decide +kernel
theorem dX6_init_36 : decode cX6_init 36 = .ok (.aastore, 1) := by decide +kernel
theorem dX6_init_37 : decode cX6_init 37 = .ok (.iinc 1 1, 3) := by decide +kernel
theorem dX6_init_40 : decode cX6_init 40 = .ok (.goto (-25), 3) := by decide +kernel
theorem dX6_init_43 : decode cX6_init 43 = .ok (.return_, 1) := by decide +kernel
theorem dX6_clear_0 : decode cX6_clear 0 = .ok (.aload_n 0, 1) := by decide +kernel
theorem dX6_clear_1 : decode cX6_clear 1 = .ok (.iconst 0, 1) := by decide +kernel
theorem dX6_clear_2 : decode cX6_clear 2 = .ok (.putfield 18, 3) := by decide +kernel
theorem dX6_clear_5 : decode cX6_clear 5 = .ok (.return_, 1) := by decide +kernel
theorem dX6_remember_0 : decode cX6_remember 0 = .ok (.aload_n 0, 1) := by decide +kernel
theorem dX6_remember_1 : decode cX6_remember 1 = .ok (.aload_n 0, 1) := by decide +kernel
theorem dX6_remember_2 : decode cX6_remember 2 = .ok (.getfield 22, 3) := by decide +kernel
theorem dX6_remember_5 : decode cX6_remember 5 = .ok (.invokevirtual 25, 3) := by decide +kernel
theorem dX6_remember_8 : decode cX6_remember 8 = .ok (.astore_n 2, 1) := by decide +kernel
theorem dX6_remember_9 : decode cX6_remember 9 = .ok (.aload_n 2, 1) := by decide +kernel
theorem dX6_remember_10 : decode cX6_remember 10 = .ok (.ifnonnull 4, 3) := by decide +kernel
theorem dX6_remember_13 : decode cX6_remember 13 = .ok (.return_, 1) := by decide +kernel
theorem dX6_remember_14 : decode cX6_remember 14 = .ok (.aload_n 2, 1) := by decide +kernel
theorem dX6_remember_15 : decode cX6_remember 15 = .ok (.aload_n 1, 1) := by decide +kernel
theorem dX6_remember_16 : decode cX6_remember 16 = .ok (.invokevirtual 29, 3) := by decide +kernel
theorem dX6_remember_19 : decode cX6_remember 19 = .ok (.aload_n 0, 1) := by decide +kernel
theorem dX6_remember_20 : decode cX6_remember 20 = .ok (.aload_n 0, 1) := by decide +kernel
theorem dX6_remember_21 : decode cX6_remember 21 = .ok (.getfield 22, 3) := by decide +kernel
theorem dX6_remember_24 : decode cX6_remember 24 = .ok (.iconst 1, 1) := by decide +kernel
theorem dX6_remember_25 : decode cX6_remember 25 = .ok (.iadd, 1) := by decide +kernel
theorem dX6_remember_26 : decode cX6_remember 26 = .ok (.bipush 16, 2) := by decide +kernel
theorem dX6_remember_28 : decode cX6_remember 28 = .ok (.irem, 1) := by decide +kernel
theorem dX6_remember_29 : decode cX6_remember 29 = .ok (.putfield 22, 3) := by decide +kernel
theorem dX6_remember_32 : decode cX6_remember 32 = .ok (.aload_n 0, 1) := by decide +kernel
theorem dX6_remember_33 : decode cX6_remember 33 = .ok (.aload_n 0, 1) := by decide +kernel
theorem dX6_remember_34 : decode cX6_remember 34 = .ok (.getfield 18, 3) := by decide +kernel
theorem dX6_remember_37 : decode cX6_remember 37 = .ok (.iconst 1, 1) := by decide +kernel
theorem dX6_remember_38 : decode cX6_remember 38 = .ok (.iadd, 1) := by decide +kernel
theorem dX6_remember_39 : decode cX6_remember 39 = .ok (.bipush 16, 2) := by decide +kernel
theorem dX6_remember_41 : decode cX6_remember 41 = .ok (.invokestatic 33, 3) := by decide +kernel
theorem dX6_remember_44 : decode cX6_remember 44 = .ok (.putfield 18, 3) := by decide +kernel
theorem dX6_remember_47 : decode cX6_remember 47 = .ok (.return_, 1) := by decide +kernel
theorem dX6_takeBack_0 : decode cX6_takeBack 0 = .ok (.aload_n 0, 1) := by decide +kernel
theorem dX6_takeBack_1 : decode cX6_takeBack 1 = .ok (.getfield 22, 3) := by decide +kernel
theorem dX6_takeBack_4 : decode cX6_takeBack 4 = .ok (.bipush 16, 2) := by decide +kernel
theorem dX6_takeBack_6 : decode cX6_takeBack 6 = .ok (.iadd, 1) := by decide +kernel
theorem dX6_takeBack_7 : decode cX6_takeBack 7 = .ok (.iconst 1, 1) := by decide +kernel
theorem dX6_takeBack_8 : decode cX6_takeBack 8 = .ok (.isub, 1) := by decide +kernel
theorem dX6_takeBack_9 : decode cX6_takeBack 9 = .ok (.bipush 16, 2) := by decide +kernel
theorem dX6_takeBack_11 : decode cX6_takeBack 11 = .ok (.irem, 1) := by decide +kernel
theorem dX6_takeBack_12 : decode cX6_takeBack 12 = .ok (.istore_n 2, 1) := by decide +kernel
theorem dX6_takeBack_13 : decode cX6_takeBack 13 = .ok (.aload_n 0, 1) := by decide +kernel
theorem dX6_takeBack_14 : decode cX6_takeBack 14 = .ok (.iload_n 2, 1) := by decide +kernel
theorem dX6_takeBack_15 : decode cX6_takeBack 15 = .ok (.invokevirtual 25, 3) := by decide +kernel
theorem dX6_takeBack_18 : decode cX6_takeBack 18 = .ok (.astore_n 3, 1) := by decide +kernel
theorem dX6_takeBack_19 : decode cX6_takeBack 19 = .ok (.aload_n 0, 1) := by decide +kernel
theorem dX6_takeBack_20 : decode cX6_takeBack 20 = .ok (.getfield 18, 3) := by decide +kernel
theorem dX6_takeBack_23 : decode cX6_takeBack 23 = .ok (.ifCond .le 7, 3) := by decide +kernel
theorem dX6_takeBack_26 : decode cX6_takeBack 26 = .ok (.aload_n 3, 1) := by decide +kernel
theorem dX6_takeBack_27 : decode cX6_takeBack 27 = .ok (.ifnonnull 5, 3) := by decide +kernel
theorem dX6_takeBack_30 : decode cX6_takeBack 30 = .ok (.iconst 0, 1) := by decide +kernel
theorem dX6_takeBack_31 : decode cX6_takeBack 31 = .ok (.ireturn, 1) := by decide +kernel
theorem dX6_takeBack_32 : decode cX6_takeBack 32 = .ok (.aload_n 1, 1) := by decide +kernel
theorem dX6_takeBack_33 : decode cX6_takeBack 33 = .ok (.aload_n 3, 1) := by decide +kernel
theorem dX6_takeBack_34 : decode cX6_takeBack 34 = .ok (.invokevirtual 29, 3) := by decide +kernel
theorem dX6_takeBack_37 : decode cX6_takeBack 37 = .ok (.aload_n 0, 1) := by decide +kernel
theorem dX6_takeBack_38 : decode cX6_takeBack 38 = .ok (.iload_n 2, 1) := by decide +kernel
theorem dX6_takeBack_39 : decode cX6_takeBack 39 = .ok (.putfield 22, 3) := by decide +kernel
theorem dX6_takeBack_42 : decode cX6_takeBack 42 = .ok (.aload_n 0, 1) := by decide +kernel
theorem dX6_takeBack_43 : decode cX6_takeBack 43 = .ok (.dup, 1) := by decide +kernel
theorem dX6_takeBack_44 : decode cX6_takeBack 44 = .ok (.getfield 18, 3) := by decide +kernel
theorem dX6_takeBack_47 : decode cX6_takeBack 47 = .ok (.iconst 1, 1) := by decide +kernel
theorem dX6_takeBack_48 : decode cX6_takeBack 48 = .ok (.isub, 1) := by decide +kernel
theorem dX6_takeBack_49 : decode cX6_takeBack 49 = .ok (.putfield 18, 3) := by decide +kernel
theorem dX6_takeBack_52 : decode cX6_takeBack 52 = .ok (.iconst 1, 1) := by decide +kernel
theorem dX6_takeBack_53 : decode cX6_takeBack 53 = .ok (.ireturn, 1) := by decide +kernel
theorem dX6_placeAt_0 : decode cX6_placeAt 0 = .ok (.iload_n 1, 1) := by decide +kernel
theorem dX6_placeAt_1 : decode cX6_placeAt 1 = .ok (.ifCond .lt 21, 3) := by decide +kernel
theorem dX6_placeAt_4 : decode cX6_placeAt 4 = .ok (.iload_n 1, 1) := by decide +kernel
theorem dX6_placeAt_5 : decode cX6_placeAt 5 = .ok (.aload_n 0, 1) := by decide +kernel
theorem dX6_placeAt_6 : decode cX6_placeAt 6 = .ok (.getfield 11, 3) := by decide +kernel
theorem dX6_placeAt_9 : decode cX6_placeAt 9 = .ok (.arraylength, 1) := by decide +kernel
theorem dX6_placeAt_10 : decode cX6_placeAt 10 = .ok (.if_icmp .ge 12, 3) := by decide +kernel
theorem dX6_placeAt_13 : decode cX6_placeAt 13 = .ok (.aload_n 0, 1) := by decide +kernel
theorem dX6_placeAt_14 : decode cX6_placeAt 14 = .ok (.getfield 11, 3) := by decide +kernel
theorem dX6_placeAt_17 : decode cX6_placeAt 17 = .ok (.iload_n 1, 1) := by decide +kernel
theorem dX6_placeAt_18 : decode cX6_placeAt 18 = .ok (.aaload, 1) := by decide +kernel
theorem dX6_placeAt_19 : decode cX6_placeAt 19 = .ok (.goto 4, 3) := by decide +kernel
theorem dX6_placeAt_22 : decode cX6_placeAt 22 = .ok (.aconst_null, 1) := by decide +kernel
theorem dX6_placeAt_23 : decode cX6_placeAt 23 = .ok (.areturn, 1) := by decide +kernel
theorem dX7_init_0 : decode cX7_init 0 = .ok (.aload_n 0, 1) := by decide +kernel
theorem dX7_init_1 : decode cX7_init 1 = .ok (.invokespecial 3, 3) := by decide +kernel
theorem dX7_init_4 : decode cX7_init 4 = .ok (.aload_n 0, 1) := by decide +kernel
theorem dX7_init_5 : decode cX7_init 5 = .ok (.bipush 6, 2) := by decide +kernel
theorem dX7_init_7 : decode cX7_init 7 = .ok (.newarray .int, 2) := by decide +kernel
theorem dX7_init_9 : decode cX7_init 9 = .ok (.putfield 9, 3) := by decide +kernel
theorem dX7_init_12 : decode cX7_init 12 = .ok (.aload_n 0, 1) := by decide +kernel
theorem dX7_init_13 : decode cX7_init 13 = .ok (.bipush 6, 2) := by decide +kernel
theorem dX7_init_15 : decode cX7_init 15 = .ok (.newarray .int, 2) := by decide +kernel
theorem dX7_init_17 : decode cX7_init 17 = .ok (.putfield 15, 3) := by decide +kernel
theorem dX7_init_20 : decode cX7_init 20 = .ok (.aload_n 0, 1) := by decide +kernel
theorem dX7_init_21 : decode cX7_init 21 = .ok (.bipush 6, 2) := by decide +kernel
theorem dX7_init_23 : decode cX7_init 23 = .ok (.newarray .boolean, 2) := by decide +kernel
theorem dX7_init_25 : decode cX7_init 25 = .ok (.putfield 18, 3) := by decide +kernel
theorem dX7_init_28 : decode cX7_init 28 = .ok (.aload_n 0, 1) := by decide +kernel
theorem dX7_init_29 : decode cX7_init 29 = .ok (.bipush 6, 2) := by decide +kernel
theorem dX7_init_31 : decode cX7_init 31 = .ok (.newarray .int, 2) := by decide +kernel
theorem dX7_init_33 : decode cX7_init 33 = .ok (.putfield 22, 3) := by decide +kernel
theorem dX7_init_36 : decode cX7_init 36 = .ok (.aload_n 0, 1) := by decide +kernel
theorem dX7_init_37 : decode cX7_init 37 = .ok (.bipush 8, 2) := by decide +kernel
theorem dX7_init_39 : decode cX7_init 39 = .ok (.newarray .int, 2) := by decide +kernel
theorem dX7_init_41 : decode cX7_init 41 = .ok (.putfield 25, 3) := by decide +kernel
theorem dX7_init_44 : decode cX7_init 44 = .ok (.return_, 1) := by decide +kernel
theorem dX7_append_0 : decode cX7_append 0 = .ok (.aload_n 0, 1) := by decide +kernel
theorem dX7_append_1 : decode cX7_append 1 = .ok (.getfield 28, 3) := by decide +kernel
theorem dX7_append_4 : decode cX7_append 4 = .ok (.ifCond .lt 12, 3) := by decide +kernel
theorem dX7_append_7 : decode cX7_append 7 = .ok (.aload_n 0, 1) := by decide +kernel
theorem dX7_append_8 : decode cX7_append 8 = .ok (.getfield 28, 3) := by decide +kernel
theorem dX7_append_11 : decode cX7_append 11 = .ok (.bipush 6, 2) := by decide +kernel
theorem dX7_append_13 : decode cX7_append 13 = .ok (.if_icmp .lt 5, 3) := by decide +kernel
theorem dX7_append_16 : decode cX7_append 16 = .ok (.iconst 0, 1) := by decide +kernel
theorem dX7_append_17 : decode cX7_append 17 = .ok (.ireturn, 1) := by decide +kernel
theorem dX7_append_18 : decode cX7_append 18 = .ok (.aload_n 0, 1) := by decide +kernel
theorem dX7_append_19 : decode cX7_append 19 = .ok (.getfield 9, 3) := by decide +kernel
theorem dX7_append_22 : decode cX7_append 22 = .ok (.aload_n 0, 1) := by decide +kernel
theorem dX7_append_23 : decode cX7_append 23 = .ok (.getfield 28, 3) := by decide +kernel
theorem dX7_append_26 : decode cX7_append 26 = .ok (.iload_n 1, 1) := by decide +kernel
theorem dX7_append_27 : decode cX7_append 27 = .ok (.iastore, 1) := by decide +kernel
theorem dX7_append_28 : decode cX7_append 28 = .ok (.aload_n 0, 1) := by decide +kernel
theorem dX7_append_29 : decode cX7_append 29 = .ok (.getfield 15, 3) := by decide +kernel
theorem dX7_append_32 : decode cX7_append 32 = .ok (.aload_n 0, 1) := by decide +kernel
theorem dX7_append_33 : decode cX7_append 33 = .ok (.getfield 28, 3) := by decide +kernel
theorem dX7_append_36 : decode cX7_append 36 = .ok (.iload_n 2, 1) := by decide +kernel
theorem dX7_append_37 : decode cX7_append 37 = .ok (.iastore, 1) := by decide +kernel
theorem dX7_append_38 : decode cX7_append 38 = .ok (.aload_n 0, 1) := by decide +kernel
theorem dX7_append_39 : decode cX7_append 39 = .ok (.getfield 18, 3) := by decide +kernel
theorem dX7_append_42 : decode cX7_append 42 = .ok (.aload_n 0, 1) := by decide +kernel
theorem dX7_append_43 : decode cX7_append 43 = .ok (.getfield 28, 3) := by decide +kernel
theorem dX7_append_46 : decode cX7_append 46 = .ok (.iload_n 3, 1) := by decide +kernel
theorem dX7_append_47 : decode cX7_append 47 = .ok (.bastore, 1) := by decide +kernel
theorem dX7_append_48 : decode cX7_append 48 = .ok (.aload_n 0, 1) := by decide +kernel
theorem dX7_append_49 : decode cX7_append 49 = .ok (.dup, 1) := by decide +kernel
theorem dX7_append_50 : decode cX7_append 50 = .ok (.getfield 28, 3) := by decide +kernel
theorem dX7_append_53 : decode cX7_append 53 = .ok (.iconst 1, 1) := by decide +kernel
theorem dX7_append_54 : decode cX7_append 54 = .ok (.iadd, 1) := by decide +kernel
theorem dX7_append_55 : decode cX7_append 55 = .ok (.putfield 28, 3) := by decide +kernel
theorem dX7_append_58 : decode cX7_append 58 = .ok (.iconst 1, 1) := by decide +kernel
theorem dX7_append_59 : decode cX7_append 59 = .ok (.ireturn, 1) := by decide +kernel
theorem dX7_survey_0 : decode cX7_survey 0 = .ok (.aload_n 1, 1) := by decide +kernel
theorem dX7_survey_1 : decode cX7_survey 1 = .ok (.invokevirtual 32, 3) := by decide +kernel
theorem dX7_survey_4 : decode cX7_survey 4 = .ok (.istore_n 2, 1) := by decide +kernel
theorem dX7_survey_5 : decode cX7_survey 5 = .ok (.aload_n 0, 1) := by decide +kernel
theorem dX7_survey_6 : decode cX7_survey 6 = .ok (.aload_n 1, 1) := by decide +kernel
theorem dX7_survey_7 : decode cX7_survey 7 = .ok (.invokevirtual 38, 3) := by decide +kernel
theorem dX7_survey_10 : decode cX7_survey 10 = .ok (.aload_n 0, 1) := by decide +kernel
theorem dX7_survey_11 : decode cX7_survey 11 = .ok (.iconst 0, 1) := by decide +kernel
theorem dX7_survey_12 : decode cX7_survey 12 = .ok (.putfield 42, 3) := by decide +kernel
theorem dX7_survey_15 : decode cX7_survey 15 = .ok (.aload_n 0, 1) := by decide +kernel
theorem dX7_survey_16 : decode cX7_survey 16 = .ok (.iload_n 2, 1) := by decide +kernel
theorem dX7_survey_17 : decode cX7_survey 17 = .ok (.putfield 45, 3) := by decide +kernel
theorem dX7_survey_20 : decode cX7_survey 20 = .ok (.aload_n 0, 1) := by decide +kernel
theorem dX7_survey_21 : decode cX7_survey 21 = .ok (.iload_n 2, 1) := by decide +kernel
theorem dX7_survey_22 : decode cX7_survey 22 = .ok (.putfield 48, 3) := by decide +kernel
theorem dX7_survey_25 : decode cX7_survey 25 = .ok (.iconst 0, 1) := by decide +kernel
theorem dX7_survey_26 : decode cX7_survey 26 = .ok (.istore_n 3, 1) := by decide +kernel
theorem dX7_survey_27 : decode cX7_survey 27 = .ok (.iload_n 3, 1) := by decide +kernel
theorem dX7_survey_28 : decode cX7_survey 28 = .ok (.sipush 256, 3) := by decide +kernel
theorem dX7_survey_31 : decode cX7_survey 31 = .ok (.if_icmp .ge 71, 3) := by decide +kernel
theorem dX7_survey_34 : decode cX7_survey 34 = .ok (.iload_n 3, 1) := by decide +kernel
theorem dX7_survey_35 : decode cX7_survey 35 = .ok (.iload_n 2, 1) := by decide +kernel
theorem dX7_survey_36 : decode cX7_survey 36 = .ok (.iconst (-1), 1) := by decide +kernel
theorem dX7_survey_37 : decode cX7_survey 37 = .ok (.ixor, 1) := by decide +kernel
theorem dX7_survey_38 : decode cX7_survey 38 = .ok (.iand, 1) := by decide +kernel
theorem dX7_survey_39 : decode cX7_survey 39 = .ok (.ifCond .ne 57, 3) := by decide +kernel
theorem dX7_survey_42 : decode cX7_survey 42 = .ok (.aload_n 0, 1) := by decide +kernel
theorem dX7_survey_43 : decode cX7_survey 43 = .ok (.iload_n 3, 1) := by decide +kernel
theorem dX7_survey_44 : decode cX7_survey 44 = .ok (.aload_n 1, 1) := by decide +kernel
theorem dX7_survey_45 : decode cX7_survey 45 = .ok (.invokevirtual 51, 3) := by decide +kernel
theorem dX7_survey_48 : decode cX7_survey 48 = .ok (.ior, 1) := by decide +kernel
theorem dX7_survey_49 : decode cX7_survey 49 = .ok (.aload_n 1, 1) := by decide +kernel
theorem dX7_survey_50 : decode cX7_survey 50 = .ok (.getfield 54, 3) := by decide +kernel
theorem dX7_survey_53 : decode cX7_survey 53 = .ok (.invokevirtual 57, 3) := by decide +kernel
theorem dX7_survey_56 : decode cX7_survey 56 = .ok (.ifCond .eq 40, 3) := by decide +kernel
theorem dX7_survey_59 : decode cX7_survey 59 = .ok (.aload_n 0, 1) := by decide +kernel
theorem dX7_survey_60 : decode cX7_survey 60 = .ok (.dup, 1) := by decide +kernel
theorem dX7_survey_61 : decode cX7_survey 61 = .ok (.getfield 42, 3) := by decide +kernel
theorem dX7_survey_64 : decode cX7_survey 64 = .ok (.iconst 1, 1) := by decide +kernel
theorem dX7_survey_65 : decode cX7_survey 65 = .ok (.iadd, 1) := by decide +kernel
theorem dX7_survey_66 : decode cX7_survey 66 = .ok (.putfield 42, 3) := by decide +kernel
theorem dX7_survey_69 : decode cX7_survey 69 = .ok (.aload_n 0, 1) := by decide +kernel
theorem dX7_survey_70 : decode cX7_survey 70 = .ok (.dup, 1) := by decide +kernel
theorem dX7_survey_71 : decode cX7_survey 71 = .ok (.getfield 45, 3) := by decide +kernel
theorem dX7_survey_74 : decode cX7_survey 74 = .ok (.iload_n 3, 1) := by decide +kernel
theorem dX7_survey_75 : decode cX7_survey 75 = .ok (.iand, 1) := by decide +kernel
theorem dX7_survey_76 : decode cX7_survey 76 = .ok (.putfield 45, 3) := by decide +kernel
theorem dX7_survey_79 : decode cX7_survey 79 = .ok (.aload_n 0, 1) := by decide +kernel
theorem dX7_survey_80 : decode cX7_survey 80 = .ok (.dup, 1) := by decide +kernel
theorem dX7_survey_81 : decode cX7_survey 81 = .ok (.getfield 48, 3) := by decide +kernel
theorem dX7_survey_84 : decode cX7_survey 84 = .ok (.iload_n 3, 1) := by decide +kernel
theorem dX7_survey_85 : decode cX7_survey 85 = .ok (.iconst (-1), 1) := by decide +kernel
theorem dX7_survey_86 : decode cX7_survey 86 = .ok (.ixor, 1) := by decide +kernel
theorem dX7_survey_87 : decode cX7_survey 87 = .ok (.iand, 1) := by decide +kernel
theorem dX7_survey_88 : decode cX7_survey 88 = .ok (.putfield 48, 3) := by decide +kernel
theorem dX7_survey_91 : decode cX7_survey 91 = .ok (.aload_n 0, 1) := by decide +kernel
theorem dX7_survey_92 : decode cX7_survey 92 = .ok (.iload_n 3, 1) := by decide +kernel
theorem dX7_survey_93 : decode cX7_survey 93 = .ok (.invokevirtual 61, 3) := by decide +kernel
theorem dX7_survey_96 : decode cX7_survey 96 = .ok (.iinc 3 1, 3) := by decide +kernel
theorem dX7_survey_99 : decode cX7_survey 99 = .ok (.goto (-72), 3) := by decide +kernel
theorem dX7_survey_102 : decode cX7_survey 102 = .ok (.return_, 1) := by decide +kernel
theorem dX7_mostTelling_0 : decode cX7_mostTelling 0 = .ok (.aload_n 0, 1) := by decide +kernel
theorem dX7_mostTelling_1 : decode cX7_mostTelling 1 = .ok (.getfield 42, 3) := by decide +kernel
theorem dX7_mostTelling_4 : decode cX7_mostTelling 4 = .ok (.ifCond .le 10, 3) := by decide +kernel
theorem dX7_mostTelling_7 : decode cX7_mostTelling 7 = .ok (.aload_n 1, 1) := by decide +kernel
theorem dX7_mostTelling_8 : decode cX7_mostTelling 8 = .ok (.invokevirtual 32, 3) := by decide +kernel
theorem dX7_mostTelling_11 : decode cX7_mostTelling 11 = .ok (.goto 4, 3) := by decide +kernel
theorem dX7_mostTelling_14 : decode cX7_mostTelling 14 = .ok (.iconst 0, 1) := by decide +kernel
theorem dX7_mostTelling_15 : decode cX7_mostTelling 15 = .ok (.istore_n 2, 1) := by decide +kernel
theorem dX7_mostTelling_16 : decode cX7_mostTelling 16 = .ok (.bipush (-9), 2) := by decide +kernel
theorem dX7_mostTelling_18 : decode cX7_mostTelling 18 = .ok (.istore_n 3, 1) := by decide +kernel
theorem dX7_mostTelling_19 : decode cX7_mostTelling 19 = .ok (.iconst (-1), 1) := by decide +kernel
theorem dX7_mostTelling_20 : decode cX7_mostTelling 20 = .ok (.istore 4, 2) := by decide +kernel
theorem dX7_mostTelling_22 : decode cX7_mostTelling 22 = .ok (.iconst 0, 1) := by decide +kernel
theorem dX7_mostTelling_23 : decode cX7_mostTelling 23 = .ok (.istore 5, 2) := by decide +kernel
theorem dX7_mostTelling_25 : decode cX7_mostTelling 25 = .ok (.iload 5, 2) := by decide +kernel
theorem dX7_mostTelling_27 : decode cX7_mostTelling 27 = .ok (.bipush 8, 2) := by decide +kernel
theorem dX7_mostTelling_29 : decode cX7_mostTelling 29 = .ok (.if_icmp .ge 56, 3) := by decide +kernel
theorem dX7_mostTelling_32 : decode cX7_mostTelling 32 = .ok (.aload_n 0, 1) := by decide +kernel
theorem dX7_mostTelling_33 : decode cX7_mostTelling 33 = .ok (.getfield 25, 3) := by decide +kernel
theorem dX7_mostTelling_36 : decode cX7_mostTelling 36 = .ok (.iload 5, 2) := by decide +kernel
theorem dX7_mostTelling_38 : decode cX7_mostTelling 38 = .ok (.iaload, 1) := by decide +kernel
theorem dX7_mostTelling_39 : decode cX7_mostTelling 39 = .ok (.aload_n 0, 1) := by decide +kernel
theorem dX7_mostTelling_40 : decode cX7_mostTelling 40 = .ok (.getfield 42, 3) := by decide +kernel
theorem dX7_mostTelling_43 : decode cX7_mostTelling 43 = .ok (.aload_n 0, 1) := by decide +kernel
theorem dX7_mostTelling_44 : decode cX7_mostTelling 44 = .ok (.getfield 25, 3) := by decide +kernel
theorem dX7_mostTelling_47 : decode cX7_mostTelling 47 = .ok (.iload 5, 2) := by decide +kernel
theorem dX7_mostTelling_49 : decode cX7_mostTelling 49 = .ok (.iaload, 1) := by decide +kernel
theorem dX7_mostTelling_50 : decode cX7_mostTelling 50 = .ok (.isub, 1) := by decide +kernel
theorem dX7_mostTelling_51 : decode cX7_mostTelling 51 = .ok (.invokestatic 65, 3) := by decide +kernel
theorem dX7_mostTelling_54 : decode cX7_mostTelling 54 = .ok (.istore 6, 2) := by decide +kernel
theorem dX7_mostTelling_56 : decode cX7_mostTelling 56 = .ok (.iload_n 2, 1) := by decide +kernel
theorem dX7_mostTelling_57 : decode cX7_mostTelling 57 = .ok (.iload 5, 2) := by decide +kernel
theorem dX7_mostTelling_59 : decode cX7_mostTelling 59 = .ok (.invokestatic 71, 3) := by decide +kernel
theorem dX7_mostTelling_62 : decode cX7_mostTelling 62 = .ok (.ifCond .eq 17, 3) := by decide +kernel
theorem dX7_mostTelling_65 : decode cX7_mostTelling 65 = .ok (.iload 6, 2) := by decide +kernel
theorem dX7_mostTelling_67 : decode cX7_mostTelling 67 = .ok (.iload 4, 2) := by decide +kernel
theorem dX7_mostTelling_69 : decode cX7_mostTelling 69 = .ok (.if_icmp .le 10, 3) := by decide +kernel
theorem dX7_mostTelling_72 : decode cX7_mostTelling 72 = .ok (.iload 5, 2) := by decide +kernel
theorem dX7_mostTelling_74 : decode cX7_mostTelling 74 = .ok (.istore_n 3, 1) := by decide +kernel
theorem dX7_mostTelling_75 : decode cX7_mostTelling 75 = .ok (.iload 6, 2) := by decide +kernel
theorem dX7_mostTelling_77 : decode cX7_mostTelling 77 = .ok (.istore 4, 2) := by decide +kernel
theorem dX7_mostTelling_79 : decode cX7_mostTelling 79 = .ok (.iinc 5 1, 3) := by decide +kernel
theorem dX7_mostTelling_82 : decode cX7_mostTelling 82 = .ok (.goto (-57), 3) := by decide +kernel
theorem dX7_mostTelling_85 : decode cX7_mostTelling 85 = .ok (.iload_n 3, 1) := by decide +kernel
theorem dX7_mostTelling_86 : decode cX7_mostTelling 86 = .ok (.ireturn, 1) := by decide +kernel
theorem dX7_learn_0 : decode cX7_learn 0 = .ok (.iconst 0, 1) := by decide +kernel
theorem dX7_learn_1 : decode cX7_learn 1 = .ok (.istore_n 2, 1) := by decide +kernel
theorem dX7_learn_2 : decode cX7_learn 2 = .ok (.iload_n 2, 1) := by decide +kernel
theorem dX7_learn_3 : decode cX7_learn 3 = .ok (.bipush 6, 2) := by decide +kernel
theorem dX7_learn_5 : decode cX7_learn 5 = .ok (.if_icmp .ge 51, 3) := by decide +kernel
theorem dX7_learn_8 : decode cX7_learn 8 = .ok (.aload_n 0, 1) := by decide +kernel
theorem dX7_learn_9 : decode cX7_learn 9 = .ok (.getfield 9, 3) := by decide +kernel
theorem dX7_learn_12 : decode cX7_learn 12 = .ok (.iload_n 2, 1) := by decide +kernel
theorem dX7_learn_13 : decode cX7_learn 13 = .ok (.iaload, 1) := by decide +kernel
theorem dX7_learn_14 : decode cX7_learn 14 = .ok (.istore_n 3, 1) := by decide +kernel
theorem dX7_learn_15 : decode cX7_learn 15 = .ok (.aload_n 0, 1) := by decide +kernel
theorem dX7_learn_16 : decode cX7_learn 16 = .ok (.getfield 22, 3) := by decide +kernel
theorem dX7_learn_19 : decode cX7_learn 19 = .ok (.iload_n 2, 1) := by decide +kernel
theorem dX7_learn_20 : decode cX7_learn 20 = .ok (.aload_n 1, 1) := by decide +kernel
theorem dX7_learn_21 : decode cX7_learn 21 = .ok (.iload_n 3, 1) := by decide +kernel
theorem dX7_learn_22 : decode cX7_learn 22 = .ok (.invokevirtual 74, 3) := by decide +kernel
theorem dX7_learn_25 : decode cX7_learn 25 = .ok (.ifCond .eq 23, 3) := by decide +kernel
theorem dX7_learn_28 : decode cX7_learn 28 = .ok (.aload_n 1, 1) := by decide +kernel
theorem dX7_learn_29 : decode cX7_learn 29 = .ok (.iload_n 3, 1) := by decide +kernel
theorem dX7_learn_30 : decode cX7_learn 30 = .ok (.aload_n 1, 1) := by decide +kernel
theorem dX7_learn_31 : decode cX7_learn 31 = .ok (.getfield 78, 3) := by decide +kernel
theorem dX7_learn_34 : decode cX7_learn 34 = .ok (.aload_n 1, 1) := by decide +kernel
theorem dX7_learn_35 : decode cX7_learn 35 = .ok (.invokevirtual 81, 3) := by decide +kernel
theorem dX7_learn_38 : decode cX7_learn 38 = .ok (.invokevirtual 84, 3) := by decide +kernel
theorem dX7_learn_41 : decode cX7_learn 41 = .ok (.iconst 1, 1) := by decide +kernel
theorem dX7_learn_42 : decode cX7_learn 42 = .ok (.iload_n 3, 1) := by decide +kernel
theorem dX7_learn_43 : decode cX7_learn 43 = .ok (.ishl, 1) := by decide +kernel
theorem dX7_learn_44 : decode cX7_learn 44 = .ok (.ior, 1) := by decide +kernel
theorem dX7_learn_45 : decode cX7_learn 45 = .ok (.goto 4, 3) := by decide +kernel
theorem dX7_learn_48 : decode cX7_learn 48 = .ok (.iconst 0, 1) := by decide +kernel
theorem dX7_learn_49 : decode cX7_learn 49 = .ok (.iastore, 1) := by decide +kernel
theorem dX7_learn_50 : decode cX7_learn 50 = .ok (.iinc 2 1, 3) := by decide +kernel
theorem dX7_learn_53 : decode cX7_learn 53 = .ok (.goto (-51), 3) := by decide +kernel
theorem dX7_learn_56 : decode cX7_learn 56 = .ok (.iconst 0, 1) := by decide +kernel
theorem dX7_learn_57 : decode cX7_learn 57 = .ok (.istore_n 2, 1) := by decide +kernel
theorem dX7_learn_58 : decode cX7_learn 58 = .ok (.iload_n 2, 1) := by decide +kernel
theorem dX7_learn_59 : decode cX7_learn 59 = .ok (.bipush 8, 2) := by decide +kernel
theorem dX7_learn_61 : decode cX7_learn 61 = .ok (.if_icmp .ge 16, 3) := by decide +kernel
theorem dX7_learn_64 : decode cX7_learn 64 = .ok (.aload_n 0, 1) := by decide +kernel
theorem dX7_learn_65 : decode cX7_learn 65 = .ok (.getfield 25, 3) := by decide +kernel
theorem dX7_learn_68 : decode cX7_learn 68 = .ok (.iload_n 2, 1) := by decide +kernel
theorem dX7_learn_69 : decode cX7_learn 69 = .ok (.iconst 0, 1) := by decide +kernel
theorem dX7_learn_70 : decode cX7_learn 70 = .ok (.iastore, 1) := by decide +kernel
theorem dX7_learn_71 : decode cX7_learn 71 = .ok (.iinc 2 1, 3) := by decide +kernel
theorem dX7_learn_74 : decode cX7_learn 74 = .ok (.goto (-16), 3) := by decide +kernel
theorem dX7_learn_77 : decode cX7_learn 77 = .ok (.return_, 1) := by decide +kernel
theorem dX7_isSo_0 : decode cX7_isSo 0 = .ok (.iconst 0, 1) := by decide +kernel
theorem dX7_isSo_1 : decode cX7_isSo 1 = .ok (.istore_n 3, 1) := by decide +kernel
theorem dX7_isSo_2 : decode cX7_isSo 2 = .ok (.iload_n 3, 1) := by decide +kernel
theorem dX7_isSo_3 : decode cX7_isSo 3 = .ok (.bipush 6, 2) := by decide +kernel
theorem dX7_isSo_5 : decode cX7_isSo 5 = .ok (.if_icmp .ge 67, 3) := by decide +kernel
theorem dX7_isSo_8 : decode cX7_isSo 8 = .ok (.iload_n 3, 1) := by decide +kernel
theorem dX7_isSo_9 : decode cX7_isSo 9 = .ok (.aload_n 0, 1) := by decide +kernel
theorem dX7_isSo_10 : decode cX7_isSo 10 = .ok (.getfield 28, 3) := by decide +kernel
theorem dX7_isSo_13 : decode cX7_isSo 13 = .ok (.if_icmp .ge 59, 3) := by decide +kernel
theorem dX7_isSo_16 : decode cX7_isSo 16 = .ok (.aload_n 0, 1) := by decide +kernel
theorem dX7_isSo_17 : decode cX7_isSo 17 = .ok (.getfield 22, 3) := by decide +kernel
theorem dX7_isSo_20 : decode cX7_isSo 20 = .ok (.iload_n 3, 1) := by decide +kernel
theorem dX7_isSo_21 : decode cX7_isSo 21 = .ok (.iaload, 1) := by decide +kernel
theorem dX7_isSo_22 : decode cX7_isSo 22 = .ok (.iload_n 1, 1) := by decide +kernel
theorem dX7_isSo_23 : decode cX7_isSo 23 = .ok (.iand, 1) := by decide +kernel
theorem dX7_isSo_24 : decode cX7_isSo 24 = .ok (.invokestatic 88, 3) := by decide +kernel
theorem dX7_isSo_27 : decode cX7_isSo 27 = .ok (.aload_n 0, 1) := by decide +kernel
theorem dX7_isSo_28 : decode cX7_isSo 28 = .ok (.getfield 15, 3) := by decide +kernel
theorem dX7_isSo_31 : decode cX7_isSo 31 = .ok (.iload_n 3, 1) := by decide +kernel
theorem dX7_isSo_32 : decode cX7_isSo 32 = .ok (.iaload, 1) := by decide +kernel
theorem dX7_isSo_33 : decode cX7_isSo 33 = .ok (.if_icmp .lt 7, 3) := by decide +kernel
theorem dX7_isSo_36 : decode cX7_isSo 36 = .ok (.iconst 1, 1) := by decide +kernel
theorem dX7_isSo_37 : decode cX7_isSo 37 = .ok (.goto 4, 3) := by decide +kernel
theorem dX7_isSo_40 : decode cX7_isSo 40 = .ok (.iconst 0, 1) := by decide +kernel
theorem dX7_isSo_41 : decode cX7_isSo 41 = .ok (.istore 4, 2) := by decide +kernel
theorem dX7_isSo_43 : decode cX7_isSo 43 = .ok (.aload_n 0, 1) := by decide +kernel
theorem dX7_isSo_44 : decode cX7_isSo 44 = .ok (.getfield 9, 3) := by decide +kernel
theorem dX7_isSo_47 : decode cX7_isSo 47 = .ok (.iload_n 3, 1) := by decide +kernel
theorem dX7_isSo_48 : decode cX7_isSo 48 = .ok (.iaload, 1) := by decide +kernel
theorem dX7_isSo_49 : decode cX7_isSo 49 = .ok (.iload_n 2, 1) := by decide +kernel
theorem dX7_isSo_50 : decode cX7_isSo 50 = .ok (.if_icmp .ge 16, 3) := by decide +kernel
theorem dX7_isSo_53 : decode cX7_isSo 53 = .ok (.iload 4, 2) := by decide +kernel
theorem dX7_isSo_55 : decode cX7_isSo 55 = .ok (.aload_n 0, 1) := by decide +kernel
theorem dX7_isSo_56 : decode cX7_isSo 56 = .ok (.getfield 18, 3) := by decide +kernel
theorem dX7_isSo_59 : decode cX7_isSo 59 = .ok (.iload_n 3, 1) := by decide +kernel
theorem dX7_isSo_60 : decode cX7_isSo 60 = .ok (.baload, 1) := by decide +kernel
theorem dX7_isSo_61 : decode cX7_isSo 61 = .ok (.if_icmp .eq 5, 3) := by decide +kernel
theorem dX7_isSo_64 : decode cX7_isSo 64 = .ok (.iconst 0, 1) := by decide +kernel
theorem dX7_isSo_65 : decode cX7_isSo 65 = .ok (.ireturn, 1) := by decide +kernel
theorem dX7_isSo_66 : decode cX7_isSo 66 = .ok (.iinc 3 1, 3) := by decide +kernel
theorem dX7_isSo_69 : decode cX7_isSo 69 = .ok (.goto (-67), 3) := by decide +kernel
theorem dX7_isSo_72 : decode cX7_isSo 72 = .ok (.iconst 1, 1) := by decide +kernel
theorem dX7_isSo_73 : decode cX7_isSo 73 = .ok (.ireturn, 1) := by decide +kernel
theorem dX7_tally_0 : decode cX7_tally 0 = .ok (.iconst 0, 1) := by decide +kernel
theorem dX7_tally_1 : decode cX7_tally 1 = .ok (.istore_n 2, 1) := by decide +kernel
theorem dX7_tally_2 : decode cX7_tally 2 = .ok (.iload_n 2, 1) := by decide +kernel
theorem dX7_tally_3 : decode cX7_tally 3 = .ok (.bipush 8, 2) := by decide +kernel
theorem dX7_tally_5 : decode cX7_tally 5 = .ok (.if_icmp .ge 23, 3) := by decide +kernel
theorem dX7_tally_8 : decode cX7_tally 8 = .ok (.aload_n 0, 1) := by decide +kernel
theorem dX7_tally_9 : decode cX7_tally 9 = .ok (.getfield 25, 3) := by decide +kernel
theorem dX7_tally_12 : decode cX7_tally 12 = .ok (.iload_n 2, 1) := by decide +kernel
theorem dX7_tally_13 : decode cX7_tally 13 = .ok (.dup2, 1) := by decide +kernel
theorem dX7_tally_14 : decode cX7_tally 14 = .ok (.iaload, 1) := by decide +kernel
theorem dX7_tally_15 : decode cX7_tally 15 = .ok (.iload_n 1, 1) := by decide +kernel
theorem dX7_tally_16 : decode cX7_tally 16 = .ok (.iload_n 2, 1) := by decide +kernel
theorem dX7_tally_17 : decode cX7_tally 17 = .ok (.ishr, 1) := by decide +kernel
theorem dX7_tally_18 : decode cX7_tally 18 = .ok (.iconst 1, 1) := by decide +kernel
theorem dX7_tally_19 : decode cX7_tally 19 = .ok (.iand, 1) := by decide +kernel
theorem dX7_tally_20 : decode cX7_tally 20 = .ok (.iadd, 1) := by decide +kernel
theorem dX7_tally_21 : decode cX7_tally 21 = .ok (.iastore, 1) := by decide +kernel
theorem dX7_tally_22 : decode cX7_tally 22 = .ok (.iinc 2 1, 3) := by decide +kernel
theorem dX7_tally_25 : decode cX7_tally 25 = .ok (.goto (-23), 3) := by decide +kernel
theorem dX7_tally_28 : decode cX7_tally 28 = .ok (.return_, 1) := by decide +kernel
theorem dX8_init_0 : decode cX8_init 0 = .ok (.aload_n 0, 1) := by decide +kernel
theorem dX8_init_1 : decode cX8_init 1 = .ok (.invokespecial 3, 3) := by decide +kernel
theorem dX8_init_4 : decode cX8_init 4 = .ok (.aload_n 0, 1) := by decide +kernel
theorem dX8_init_5 : decode cX8_init 5 = .ok (.bipush 56, 2) := by decide +kernel
theorem dX8_init_7 : decode cX8_init 7 = .ok (.newarray .int, 2) := by decide +kernel
theorem dX8_init_9 : decode cX8_init 9 = .ok (.putfield 9, 3) := by decide +kernel
theorem dX8_init_12 : decode cX8_init 12 = .ok (.return_, 1) := by decide +kernel
theorem dX8_append_0 : decode cX8_append 0 = .ok (.aload_n 0, 1) := by decide +kernel
theorem dX8_append_1 : decode cX8_append 1 = .ok (.getfield 15, 3) := by decide +kernel
theorem dX8_append_4 : decode cX8_append 4 = .ok (.ifCond .lt 15, 3) := by decide +kernel
theorem dX8_append_7 : decode cX8_append 7 = .ok (.aload_n 0, 1) := by decide +kernel
theorem dX8_append_8 : decode cX8_append 8 = .ok (.getfield 15, 3) := by decide +kernel
theorem dX8_append_11 : decode cX8_append 11 = .ok (.aload_n 0, 1) := by decide +kernel
theorem dX8_append_12 : decode cX8_append 12 = .ok (.getfield 9, 3) := by decide +kernel
theorem dX8_append_15 : decode cX8_append 15 = .ok (.arraylength, 1) := by decide +kernel
theorem dX8_append_16 : decode cX8_append 16 = .ok (.if_icmp .lt 5, 3) := by decide +kernel
theorem dX8_append_19 : decode cX8_append 19 = .ok (.iconst 0, 1) := by decide +kernel
theorem dX8_append_20 : decode cX8_append 20 = .ok (.ireturn, 1) := by decide +kernel
theorem dX8_append_21 : decode cX8_append 21 = .ok (.aload_n 0, 1) := by decide +kernel
theorem dX8_append_22 : decode cX8_append 22 = .ok (.getfield 9, 3) := by decide +kernel
theorem dX8_append_25 : decode cX8_append 25 = .ok (.aload_n 0, 1) := by decide +kernel
theorem dX8_append_26 : decode cX8_append 26 = .ok (.getfield 15, 3) := by decide +kernel
theorem dX8_append_29 : decode cX8_append 29 = .ok (.iload_n 1, 1) := by decide +kernel
theorem dX8_append_30 : decode cX8_append 30 = .ok (.iastore, 1) := by decide +kernel
theorem dX8_append_31 : decode cX8_append 31 = .ok (.aload_n 0, 1) := by decide +kernel
theorem dX8_append_32 : decode cX8_append 32 = .ok (.dup, 1) := by decide +kernel
theorem dX8_append_33 : decode cX8_append 33 = .ok (.getfield 15, 3) := by decide +kernel
theorem dX8_append_36 : decode cX8_append 36 = .ok (.iconst 1, 1) := by decide +kernel
theorem dX8_append_37 : decode cX8_append 37 = .ok (.iadd, 1) := by decide +kernel
theorem dX8_append_38 : decode cX8_append 38 = .ok (.putfield 15, 3) := by decide +kernel
theorem dX8_append_41 : decode cX8_append 41 = .ok (.iconst 1, 1) := by decide +kernel
theorem dX8_append_42 : decode cX8_append 42 = .ok (.ireturn, 1) := by decide +kernel
theorem dX8_firstFault_0 : decode cX8_firstFault 0 = .ok (.iconst 0, 1) := by decide +kernel
theorem dX8_firstFault_1 : decode cX8_firstFault 1 = .ok (.istore_n 1, 1) := by decide +kernel
theorem dX8_firstFault_2 : decode cX8_firstFault 2 = .ok (.iload_n 1, 1) := by decide +kernel
theorem dX8_firstFault_3 : decode cX8_firstFault 3 = .ok (.aload_n 0, 1) := by decide +kernel
theorem dX8_firstFault_4 : decode cX8_firstFault 4 = .ok (.getfield 15, 3) := by decide +kernel
theorem dX8_firstFault_7 : decode cX8_firstFault 7 = .ok (.if_icmp .ge 19, 3) := by decide +kernel
theorem dX8_firstFault_10 : decode cX8_firstFault 10 = .ok (.aload_n 0, 1) := by decide +kernel
theorem dX8_firstFault_11 : decode cX8_firstFault 11 = .ok (.iload_n 1, 1) := by decide +kernel
theorem dX8_firstFault_12 : decode cX8_firstFault 12 = .ok (.invokevirtual 19, 3) := by decide +kernel
theorem dX8_firstFault_15 : decode cX8_firstFault 15 = .ok (.ifCond .ne 5, 3) := by decide +kernel
theorem dX8_firstFault_18 : decode cX8_firstFault 18 = .ok (.iload_n 1, 1) := by decide +kernel
theorem dX8_firstFault_19 : decode cX8_firstFault 19 = .ok (.ireturn, 1) := by decide +kernel
theorem dX8_firstFault_20 : decode cX8_firstFault 20 = .ok (.iinc 1 1, 3) := by decide +kernel
theorem dX8_firstFault_23 : decode cX8_firstFault 23 = .ok (.goto (-21), 3) := by decide +kernel
theorem dX8_firstFault_26 : decode cX8_firstFault 26 = .ok (.aload_n 0, 1) := by decide +kernel
theorem dX8_firstFault_27 : decode cX8_firstFault 27 = .ok (.getfield 15, 3) := by decide +kernel
theorem dX8_firstFault_30 : decode cX8_firstFault 30 = .ok (.iconst 2, 1) := by decide +kernel
theorem dX8_firstFault_31 : decode cX8_firstFault 31 = .ok (.if_icmp .lt 19, 3) := by decide +kernel
theorem dX8_firstFault_34 : decode cX8_firstFault 34 = .ok (.aload_n 0, 1) := by decide +kernel
theorem dX8_firstFault_35 : decode cX8_firstFault 35 = .ok (.getfield 15, 3) := by decide +kernel
theorem dX8_firstFault_38 : decode cX8_firstFault 38 = .ok (.iconst 2, 1) := by decide +kernel
theorem dX8_firstFault_39 : decode cX8_firstFault 39 = .ok (.isub, 1) := by decide +kernel
theorem dX8_firstFault_40 : decode cX8_firstFault 40 = .ok (.bipush 9, 2) := by decide +kernel
theorem dX8_firstFault_42 : decode cX8_firstFault 42 = .ok (.irem, 1) := by decide +kernel
theorem dX8_firstFault_43 : decode cX8_firstFault 43 = .ok (.ifCond .ne 7, 3) := by decide +kernel
theorem dX8_firstFault_46 : decode cX8_firstFault 46 = .ok (.iconst 1, 1) := by decide +kernel
theorem dX8_firstFault_47 : decode cX8_firstFault 47 = .ok (.goto 4, 3) := by decide +kernel
theorem dX8_firstFault_50 : decode cX8_firstFault 50 = .ok (.iconst 0, 1) := by decide +kernel
theorem dX8_firstFault_51 : decode cX8_firstFault 51 = .ok (.istore_n 1, 1) := by decide +kernel
theorem dX8_firstFault_52 : decode cX8_firstFault 52 = .ok (.iload_n 1, 1) := by decide +kernel
theorem dX8_firstFault_53 : decode cX8_firstFault 53 = .ok (.ifCond .eq 8, 3) := by decide +kernel
theorem dX8_firstFault_56 : decode cX8_firstFault 56 = .ok (.bipush (-9), 2) := by decide +kernel
theorem dX8_firstFault_58 : decode cX8_firstFault 58 = .ok (.goto 7, 3) := by decide +kernel
theorem dX8_firstFault_61 : decode cX8_firstFault 61 = .ok (.aload_n 0, 1) := by decide +kernel
theorem dX8_firstFault_62 : decode cX8_firstFault 62 = .ok (.getfield 15, 3) := by decide +kernel
theorem dX8_firstFault_65 : decode cX8_firstFault 65 = .ok (.ireturn, 1) := by decide +kernel
theorem dX8_things_0 : decode cX8_things 0 = .ok (.iconst 0, 1) := by decide +kernel
theorem dX8_things_1 : decode cX8_things 1 = .ok (.aload_n 0, 1) := by decide +kernel
theorem dX8_things_2 : decode cX8_things 2 = .ok (.getfield 15, 3) := by decide +kernel
theorem dX8_things_5 : decode cX8_things 5 = .ok (.iconst 2, 1) := by decide +kernel
theorem dX8_things_6 : decode cX8_things 6 = .ok (.isub, 1) := by decide +kernel
theorem dX8_things_7 : decode cX8_things 7 = .ok (.bipush 9, 2) := by decide +kernel
theorem dX8_things_9 : decode cX8_things 9 = .ok (.idiv, 1) := by decide +kernel
theorem dX8_things_10 : decode cX8_things 10 = .ok (.invokestatic 23, 3) := by decide +kernel
theorem dX8_things_13 : decode cX8_things 13 = .ok (.ireturn, 1) := by decide +kernel
theorem dX8_wordTold_0 : decode cX8_wordTold 0 = .ok (.aload_n 0, 1) := by decide +kernel
theorem dX8_wordTold_1 : decode cX8_wordTold 1 = .ok (.getfield 9, 3) := by decide +kernel
theorem dX8_wordTold_4 : decode cX8_wordTold 4 = .ok (.iconst 1, 1) := by decide +kernel
theorem dX8_wordTold_5 : decode cX8_wordTold 5 = .ok (.invokestatic 29, 3) := by decide +kernel
theorem dX8_wordTold_8 : decode cX8_wordTold 8 = .ok (.bipush 48, 2) := by decide +kernel
theorem dX8_wordTold_10 : decode cX8_wordTold 10 = .ok (.isub, 1) := by decide +kernel
theorem dX8_wordTold_11 : decode cX8_wordTold 11 = .ok (.ireturn, 1) := by decide +kernel
theorem dX8_figureTold_0 : decode cX8_figureTold 0 = .ok (.aload_n 0, 1) := by decide +kernel
theorem dX8_figureTold_1 : decode cX8_figureTold 1 = .ok (.getfield 9, 3) := by decide +kernel
theorem dX8_figureTold_4 : decode cX8_figureTold 4 = .ok (.iconst 2, 1) := by decide +kernel
theorem dX8_figureTold_5 : decode cX8_figureTold 5 = .ok (.iload_n 1, 1) := by decide +kernel
theorem dX8_figureTold_6 : decode cX8_figureTold 6 = .ok (.bipush 9, 2) := by decide +kernel
theorem dX8_figureTold_8 : decode cX8_figureTold 8 = .ok (.imul, 1) := by decide +kernel
theorem dX8_figureTold_9 : decode cX8_figureTold 9 = .ok (.iadd, 1) := by decide +kernel
theorem dX8_figureTold_10 : decode cX8_figureTold 10 = .ok (.iconst 1, 1) := by decide +kernel
theorem dX8_figureTold_11 : decode cX8_figureTold 11 = .ok (.iadd, 1) := by decide +kernel
theorem dX8_figureTold_12 : decode cX8_figureTold 12 = .ok (.iload_n 2, 1) := by decide +kernel
theorem dX8_figureTold_13 : decode cX8_figureTold 13 = .ok (.iadd, 1) := by decide +kernel
theorem dX8_figureTold_14 : decode cX8_figureTold 14 = .ok (.invokestatic 29, 3) := by decide +kernel
theorem dX8_figureTold_17 : decode cX8_figureTold 17 = .ok (.bipush 48, 2) := by decide +kernel
theorem dX8_figureTold_19 : decode cX8_figureTold 19 = .ok (.isub, 1) := by decide +kernel
theorem dX8_figureTold_20 : decode cX8_figureTold 20 = .ok (.ireturn, 1) := by decide +kernel
theorem dX8_fits_0 : decode cX8_fits 0 = .ok (.iload_n 1, 1) := by decide +kernel
theorem dX8_fits_1 : decode cX8_fits 1 = .ok (.ifCond .ne 22, 3) := by decide +kernel
theorem dX8_fits_4 : decode cX8_fits 4 = .ok (.aload_n 0, 1) := by decide +kernel
theorem dX8_fits_5 : decode cX8_fits 5 = .ok (.getfield 9, 3) := by decide +kernel
theorem dX8_fits_8 : decode cX8_fits 8 = .ok (.iload_n 1, 1) := by decide +kernel
theorem dX8_fits_9 : decode cX8_fits 9 = .ok (.invokestatic 29, 3) := by decide +kernel
theorem dX8_fits_12 : decode cX8_fits 12 = .ok (.bipush 75, 2) := by decide +kernel
theorem dX8_fits_14 : decode cX8_fits 14 = .ok (.if_icmp .ne 7, 3) := by decide +kernel
theorem dX8_fits_17 : decode cX8_fits 17 = .ok (.iconst 1, 1) := by decide +kernel
theorem dX8_fits_18 : decode cX8_fits 18 = .ok (.goto 4, 3) := by decide +kernel
theorem dX8_fits_21 : decode cX8_fits 21 = .ok (.iconst 0, 1) := by decide +kernel
theorem dX8_fits_22 : decode cX8_fits 22 = .ok (.ireturn, 1) := by decide +kernel
theorem dX8_fits_23 : decode cX8_fits 23 = .ok (.iload_n 1, 1) := by decide +kernel
theorem dX8_fits_24 : decode cX8_fits 24 = .ok (.iconst 1, 1) := by decide +kernel
theorem dX8_fits_25 : decode cX8_fits 25 = .ok (.if_icmp .ne 13, 3) := by decide +kernel
theorem dX8_fits_28 : decode cX8_fits 28 = .ok (.aload_n 0, 1) := by decide +kernel
theorem dX8_fits_29 : decode cX8_fits 29 = .ok (.iload_n 1, 1) := by decide +kernel
theorem dX8_fits_30 : decode cX8_fits 30 = .ok (.bipush 49, 2) := by decide +kernel
theorem dX8_fits_32 : decode cX8_fits 32 = .ok (.bipush 52, 2) := by decide +kernel
theorem dX8_fits_34 : decode cX8_fits 34 = .ok (.invokevirtual 33, 3) := by decide +kernel
theorem dX8_fits_37 : decode cX8_fits 37 = .ok (.ireturn, 1) := by decide +kernel
theorem dX8_fits_38 : decode cX8_fits 38 = .ok (.iload_n 1, 1) := by decide +kernel
theorem dX8_fits_39 : decode cX8_fits 39 = .ok (.iconst 2, 1) := by decide +kernel
theorem dX8_fits_40 : decode cX8_fits 40 = .ok (.isub, 1) := by decide +kernel
theorem dX8_fits_41 : decode cX8_fits 41 = .ok (.bipush 9, 2) := by decide +kernel
theorem dX8_fits_43 : decode cX8_fits 43 = .ok (.irem, 1) := by decide +kernel
theorem dX8_fits_44 : decode cX8_fits 44 = .ok (.istore_n 2, 1) := by decide +kernel
theorem dX8_fits_45 : decode cX8_fits 45 = .ok (.iload_n 2, 1) := by decide +kernel
theorem dX8_fits_46 : decode cX8_fits 46 = .ok (.iconst 1, 1) := by decide +kernel
theorem dX8_fits_47 : decode cX8_fits 47 = .ok (.isub, 1) := by decide +kernel
theorem dX8_fits_48 : decode cX8_fits 48 = .ok (.tableswitch 111 (-1) 7 #[52, 111, 111, 111, 111, 71, 81, 91, 101], 52) := by decide +kernel
theorem dX8_fits_100 : decode cX8_fits 100 = .ok (.aload_n 0, 1) := by decide +kernel
theorem dX8_fits_101 : decode cX8_fits 101 = .ok (.getfield 9, 3) := by decide +kernel
theorem dX8_fits_104 : decode cX8_fits 104 = .ok (.iload_n 1, 1) := by decide +kernel
theorem dX8_fits_105 : decode cX8_fits 105 = .ok (.invokestatic 29, 3) := by decide +kernel
theorem dX8_fits_108 : decode cX8_fits 108 = .ok (.bipush 88, 2) := by decide +kernel
theorem dX8_fits_110 : decode cX8_fits 110 = .ok (.if_icmp .ne 7, 3) := by decide +kernel
theorem dX8_fits_113 : decode cX8_fits 113 = .ok (.iconst 1, 1) := by decide +kernel
theorem dX8_fits_114 : decode cX8_fits 114 = .ok (.goto 4, 3) := by decide +kernel
theorem dX8_fits_117 : decode cX8_fits 117 = .ok (.iconst 0, 1) := by decide +kernel
theorem dX8_fits_118 : decode cX8_fits 118 = .ok (.ireturn, 1) := by decide +kernel
theorem dX8_fits_119 : decode cX8_fits 119 = .ok (.aload_n 0, 1) := by decide +kernel
theorem dX8_fits_120 : decode cX8_fits 120 = .ok (.iload_n 1, 1) := by decide +kernel
theorem dX8_fits_121 : decode cX8_fits 121 = .ok (.bipush 48, 2) := by decide +kernel
theorem dX8_fits_123 : decode cX8_fits 123 = .ok (.bipush 50, 2) := by decide +kernel
theorem dX8_fits_125 : decode cX8_fits 125 = .ok (.invokevirtual 33, 3) := by decide +kernel
theorem dX8_fits_128 : decode cX8_fits 128 = .ok (.ireturn, 1) := by decide +kernel
theorem dX8_fits_129 : decode cX8_fits 129 = .ok (.aload_n 0, 1) := by decide +kernel
theorem dX8_fits_130 : decode cX8_fits 130 = .ok (.iload_n 1, 1) := by decide +kernel
theorem dX8_fits_131 : decode cX8_fits 131 = .ok (.bipush 49, 2) := by decide +kernel
theorem dX8_fits_133 : decode cX8_fits 133 = .ok (.bipush 57, 2) := by decide +kernel
theorem dX8_fits_135 : decode cX8_fits 135 = .ok (.invokevirtual 33, 3) := by decide +kernel
theorem dX8_fits_138 : decode cX8_fits 138 = .ok (.ireturn, 1) := by decide +kernel
theorem dX8_fits_139 : decode cX8_fits 139 = .ok (.aload_n 0, 1) := by decide +kernel
theorem dX8_fits_140 : decode cX8_fits 140 = .ok (.iload_n 1, 1) := by decide +kernel
theorem dX8_fits_141 : decode cX8_fits 141 = .ok (.bipush 49, 2) := by decide +kernel
theorem dX8_fits_143 : decode cX8_fits 143 = .ok (.bipush 57, 2) := by decide +kernel
theorem dX8_fits_145 : decode cX8_fits 145 = .ok (.invokevirtual 33, 3) := by decide +kernel
theorem dX8_fits_148 : decode cX8_fits 148 = .ok (.ireturn, 1) := by decide +kernel
theorem dX8_fits_149 : decode cX8_fits 149 = .ok (.aload_n 0, 1) := by decide +kernel
theorem dX8_fits_150 : decode cX8_fits 150 = .ok (.iload_n 1, 1) := by decide +kernel
theorem dX8_fits_151 : decode cX8_fits 151 = .ok (.bipush 48, 2) := by decide +kernel
theorem dX8_fits_153 : decode cX8_fits 153 = .ok (.bipush 49, 2) := by decide +kernel
theorem dX8_fits_155 : decode cX8_fits 155 = .ok (.invokevirtual 33, 3) := by decide +kernel
theorem dX8_fits_158 : decode cX8_fits 158 = .ok (.ireturn, 1) := by decide +kernel
theorem dX8_fits_159 : decode cX8_fits 159 = .ok (.aload_n 0, 1) := by decide +kernel
theorem dX8_fits_160 : decode cX8_fits 160 = .ok (.iload_n 1, 1) := by decide +kernel
theorem dX8_fits_161 : decode cX8_fits 161 = .ok (.bipush 48, 2) := by decide +kernel
theorem dX8_fits_163 : decode cX8_fits 163 = .ok (.bipush 57, 2) := by decide +kernel
theorem dX8_fits_165 : decode cX8_fits 165 = .ok (.invokevirtual 33, 3) := by decide +kernel
theorem dX8_fits_168 : decode cX8_fits 168 = .ok (.ireturn, 1) := by decide +kernel
theorem dX8_isWithin_0 : decode cX8_isWithin 0 = .ok (.aload_n 0, 1) := by decide +kernel
theorem dX8_isWithin_1 : decode cX8_isWithin 1 = .ok (.getfield 9, 3) := by decide +kernel
theorem dX8_isWithin_4 : decode cX8_isWithin 4 = .ok (.iload_n 1, 1) := by decide +kernel
theorem dX8_isWithin_5 : decode cX8_isWithin 5 = .ok (.invokestatic 29, 3) := by decide +kernel
theorem dX8_isWithin_8 : decode cX8_isWithin 8 = .ok (.istore 4, 2) := by decide +kernel
theorem dX8_isWithin_10 : decode cX8_isWithin 10 = .ok (.iload 4, 2) := by decide +kernel
theorem dX8_isWithin_12 : decode cX8_isWithin 12 = .ok (.iload_n 2, 1) := by decide +kernel
theorem dX8_isWithin_13 : decode cX8_isWithin 13 = .ok (.if_icmp .lt 13, 3) := by decide +kernel
theorem dX8_isWithin_16 : decode cX8_isWithin 16 = .ok (.iload 4, 2) := by decide +kernel
theorem dX8_isWithin_18 : decode cX8_isWithin 18 = .ok (.iload_n 3, 1) := by decide +kernel
theorem dX8_isWithin_19 : decode cX8_isWithin 19 = .ok (.if_icmp .gt 7, 3) := by decide +kernel
theorem dX8_isWithin_22 : decode cX8_isWithin 22 = .ok (.iconst 1, 1) := by decide +kernel
theorem dX8_isWithin_23 : decode cX8_isWithin 23 = .ok (.goto 4, 3) := by decide +kernel
theorem dX8_isWithin_26 : decode cX8_isWithin 26 = .ok (.iconst 0, 1) := by decide +kernel
theorem dX8_isWithin_27 : decode cX8_isWithin 27 = .ok (.ireturn, 1) := by decide +kernel
theorem dX9_init_0 : decode cX9_init 0 = .ok (.aload_n 0, 1) := by decide +kernel
theorem dX9_init_1 : decode cX9_init 1 = .ok (.invokespecial 1, 3) := by decide +kernel
theorem dX9_init_4 : decode cX9_init 4 = .ok (.aload_n 0, 1) := by decide +kernel
theorem dX9_init_5 : decode cX9_init 5 = .ok (.new 7, 3) := by decide +kernel
theorem dX9_init_8 : decode cX9_init 8 = .ok (.dup, 1) := by decide +kernel
theorem dX9_init_9 : decode cX9_init 9 = .ok (.invokespecial 9, 3) := by decide +kernel
theorem dX9_init_12 : decode cX9_init 12 = .ok (.putfield 10, 3) := by decide +kernel
theorem dX9_init_15 : decode cX9_init 15 = .ok (.aload_n 0, 1) := by decide +kernel
theorem dX9_init_16 : decode cX9_init 16 = .ok (.new 16, 3) := by decide +kernel
theorem dX9_init_19 : decode cX9_init 19 = .ok (.dup, 1) := by decide +kernel
theorem dX9_init_20 : decode cX9_init 20 = .ok (.invokespecial 18, 3) := by decide +kernel
theorem dX9_init_23 : decode cX9_init 23 = .ok (.putfield 19, 3) := by decide +kernel
theorem dX9_init_26 : decode cX9_init 26 = .ok (.aload_n 0, 1) := by decide +kernel
theorem dX9_init_27 : decode cX9_init 27 = .ok (.new 16, 3) := by decide +kernel
theorem dX9_init_30 : decode cX9_init 30 = .ok (.dup, 1) := by decide +kernel
theorem dX9_init_31 : decode cX9_init 31 = .ok (.invokespecial 18, 3) := by decide +kernel
theorem dX9_init_34 : decode cX9_init 34 = .ok (.putfield 23, 3) := by decide +kernel
theorem dX9_init_37 : decode cX9_init 37 = .ok (.aload_n 0, 1) := by decide +kernel
theorem dX9_init_38 : decode cX9_init 38 = .ok (.new 26, 3) := by decide +kernel
theorem dX9_init_41 : decode cX9_init 41 = .ok (.dup, 1) := by decide +kernel
theorem dX9_init_42 : decode cX9_init 42 = .ok (.invokespecial 28, 3) := by decide +kernel
theorem dX9_init_45 : decode cX9_init 45 = .ok (.putfield 29, 3) := by decide +kernel
theorem dX9_init_48 : decode cX9_init 48 = .ok (.aload_n 0, 1) := by decide +kernel
theorem dX9_init_49 : decode cX9_init 49 = .ok (.iconst 2, 1) := by decide +kernel
theorem dX9_init_50 : decode cX9_init 50 = .ok (.anewarray 16, 3) := by decide +kernel
theorem dX9_init_53 : decode cX9_init 53 = .ok (.putfield 33, 3) := by decide +kernel
theorem dX9_init_56 : decode cX9_init 56 = .ok (.iconst 0, 1) := by decide +kernel
theorem dX9_init_57 : decode cX9_init 57 = .ok (.istore_n 1, 1) := by decide +kernel
theorem dX9_init_58 : decode cX9_init 58 = .ok (.iload_n 1, 1) := by decide +kernel
theorem dX9_init_59 : decode cX9_init 59 = .ok (.aload_n 0, 1) := by decide +kernel
theorem dX9_init_60 : decode cX9_init 60 = .ok (.getfield 33, 3) := by decide +kernel
theorem dX9_init_63 : decode cX9_init 63 = .ok (.arraylength, 1) := by decide +kernel
theorem dX9_init_64 : decode cX9_init 64 = .ok (.if_icmp .ge 22, 3) := by decide +kernel
theorem dX9_init_67 : decode cX9_init 67 = .ok (.aload_n 0, 1) := by decide +kernel
theorem dX9_init_68 : decode cX9_init 68 = .ok (.getfield 33, 3) := by decide +kernel
theorem dX9_init_71 : decode cX9_init 71 = .ok (.iload_n 1, 1) := by decide +kernel
theorem dX9_init_72 : decode cX9_init 72 = .ok (.new 16, 3) := by decide +kernel
