theorem dX9_init_75 : decode cX9_init 75 = .ok (.dup, 1) := by decide +kernel
theorem dX9_init_76 : decode cX9_init 76 = .ok (.invokespecial 18, 3) := by decide +kernel
theorem dX9_init_79 : decode cX9_init 79 = .ok (.aastore, 1) := by decide +kernel
theorem dX9_init_80 : decode cX9_init 80 = .ok (.iinc 1 1, 3) := by decide +kernel
theorem dX9_init_83 : decode cX9_init 83 = .ok (.goto (-25), 3) := by decide +kernel
theorem dX9_init_86 : decode cX9_init 86 = .ok (.aload_n 0, 1) := by decide +kernel
theorem dX9_init_87 : decode cX9_init 87 = .ok (.new 37, 3) := by decide +kernel
theorem dX9_init_90 : decode cX9_init 90 = .ok (.dup, 1) := by decide +kernel
theorem dX9_init_91 : decode cX9_init 91 = .ok (.invokespecial 39, 3) := by decide +kernel
theorem dX9_init_94 : decode cX9_init 94 = .ok (.putfield 40, 3) := by decide +kernel
theorem dX9_init_97 : decode cX9_init 97 = .ok (.aload_n 0, 1) := by decide +kernel
theorem dX9_init_98 : decode cX9_init 98 = .ok (.new 44, 3) := by decide +kernel
theorem dX9_init_101 : decode cX9_init 101 = .ok (.dup, 1) := by decide +kernel
theorem dX9_init_102 : decode cX9_init 102 = .ok (.invokespecial 46, 3) := by decide +kernel
theorem dX9_init_105 : decode cX9_init 105 = .ok (.putfield 47, 3) := by decide +kernel
theorem dX9_init_108 : decode cX9_init 108 = .ok (.aload_n 0, 1) := by decide +kernel
theorem dX9_init_109 : decode cX9_init 109 = .ok (.new 51, 3) := by decide +kernel
theorem dX9_init_112 : decode cX9_init 112 = .ok (.dup, 1) := by decide +kernel
theorem dX9_init_113 : decode cX9_init 113 = .ok (.invokespecial 53, 3) := by decide +kernel
theorem dX9_init_116 : decode cX9_init 116 = .ok (.putfield 54, 3) := by decide +kernel
theorem dX9_init_119 : decode cX9_init 119 = .ok (.aload_n 0, 1) := by decide +kernel
theorem dX9_init_120 : decode cX9_init 120 = .ok (.new 58, 3) := by decide +kernel
theorem dX9_init_123 : decode cX9_init 123 = .ok (.dup, 1) := by decide +kernel
theorem dX9_init_124 : decode cX9_init 124 = .ok (.invokespecial 60, 3) := by decide +kernel
theorem dX9_init_127 : decode cX9_init 127 = .ok (.putfield 61, 3) := by decide +kernel
theorem dX9_init_130 : decode cX9_init 130 = .ok (.aload_n 0, 1) := by decide +kernel
theorem dX9_init_131 : decode cX9_init 131 = .ok (.new 65, 3) := by decide +kernel
theorem dX9_init_134 : decode cX9_init 134 = .ok (.dup, 1) := by decide +kernel
theorem dX9_init_135 : decode cX9_init 135 = .ok (.invokespecial 67, 3) := by decide +kernel
theorem dX9_init_138 : decode cX9_init 138 = .ok (.putfield 68, 3) := by decide +kernel
theorem dX9_init_141 : decode cX9_init 141 = .ok (.return_, 1) := by decide +kernel
theorem dX9_write_0 : decode cX9_write 0 = .ok (.iload_n 1, 1) := by decide +kernel
theorem dX9_write_1 : decode cX9_write 1 = .ok (.ifCond .lt 10, 3) := by decide +kernel
theorem dX9_write_4 : decode cX9_write 4 = .ok (.iload_n 1, 1) := by decide +kernel
theorem dX9_write_5 : decode cX9_write 5 = .ok (.sipush 255, 3) := by decide +kernel
theorem dX9_write_8 : decode cX9_write 8 = .ok (.if_icmp .le 6, 3) := by decide +kernel
theorem dX9_write_11 : decode cX9_write 11 = .ok (.bipush (-2), 2) := by decide +kernel
theorem dX9_write_13 : decode cX9_write 13 = .ok (.ireturn, 1) := by decide +kernel
theorem dX9_write_14 : decode cX9_write 14 = .ok (.aload_n 0, 1) := by decide +kernel
theorem dX9_write_15 : decode cX9_write 15 = .ok (.getfield 10, 3) := by decide +kernel
theorem dX9_write_18 : decode cX9_write 18 = .ok (.iload_n 1, 1) := by decide +kernel
theorem dX9_write_19 : decode cX9_write 19 = .ok (.invokevirtual 72, 3) := by decide +kernel
theorem dX9_write_22 : decode cX9_write 22 = .ok (.ifCond .eq 13, 3) := by decide +kernel
theorem dX9_write_25 : decode cX9_write 25 = .ok (.aload_n 0, 1) := by decide +kernel
theorem dX9_write_26 : decode cX9_write 26 = .ok (.getfield 10, 3) := by decide +kernel
theorem dX9_write_29 : decode cX9_write 29 = .ok (.getfield 76, 3) := by decide +kernel
theorem dX9_write_32 : decode cX9_write 32 = .ok (.goto 5, 3) := by decide +kernel
theorem dX9_write_35 : decode cX9_write 35 = .ok (.bipush (-4), 2) := by decide +kernel
theorem dX9_write_37 : decode cX9_write 37 = .ok (.ireturn, 1) := by decide +kernel
theorem dX9_wipe_0 : decode cX9_wipe 0 = .ok (.aload_n 0, 1) := by decide +kernel
theorem dX9_wipe_1 : decode cX9_wipe 1 = .ok (.getfield 10, 3) := by decide +kernel
theorem dX9_wipe_4 : decode cX9_wipe 4 = .ok (.getfield 76, 3) := by decide +kernel
theorem dX9_wipe_7 : decode cX9_wipe 7 = .ok (.istore_n 1, 1) := by decide +kernel
theorem dX9_wipe_8 : decode cX9_wipe 8 = .ok (.aload_n 0, 1) := by decide +kernel
theorem dX9_wipe_9 : decode cX9_wipe 9 = .ok (.getfield 10, 3) := by decide +kernel
theorem dX9_wipe_12 : decode cX9_wipe 12 = .ok (.iconst 0, 1) := by decide +kernel
theorem dX9_wipe_13 : decode cX9_wipe 13 = .ok (.putfield 76, 3) := by decide +kernel
theorem dX9_wipe_16 : decode cX9_wipe 16 = .ok (.iload_n 1, 1) := by decide +kernel
theorem dX9_wipe_17 : decode cX9_wipe 17 = .ok (.ireturn, 1) := by decide +kernel
theorem dX9_fault_0 : decode cX9_fault 0 = .ok (.aload_n 0, 1) := by decide +kernel
theorem dX9_fault_1 : decode cX9_fault 1 = .ok (.getfield 10, 3) := by decide +kernel
theorem dX9_fault_4 : decode cX9_fault 4 = .ok (.invokevirtual 80, 3) := by decide +kernel
theorem dX9_fault_7 : decode cX9_fault 7 = .ok (.ireturn, 1) := by decide +kernel
theorem dX9_house_0 : decode cX9_house 0 = .ok (.aload_n 0, 1) := by decide +kernel
theorem dX9_house_1 : decode cX9_house 1 = .ok (.getfield 10, 3) := by decide +kernel
theorem dX9_house_4 : decode cX9_house 4 = .ok (.invokevirtual 80, 3) := by decide +kernel
theorem dX9_house_7 : decode cX9_house 7 = .ok (.bipush (-9), 2) := by decide +kernel
theorem dX9_house_9 : decode cX9_house 9 = .ok (.if_icmp .eq 6, 3) := by decide +kernel
theorem dX9_house_12 : decode cX9_house 12 = .ok (.bipush (-3), 2) := by decide +kernel
theorem dX9_house_14 : decode cX9_house 14 = .ok (.ireturn, 1) := by decide +kernel
theorem dX9_house_15 : decode cX9_house 15 = .ok (.aload_n 0, 1) := by decide +kernel
theorem dX9_house_16 : decode cX9_house 16 = .ok (.getfield 19, 3) := by decide +kernel
theorem dX9_house_19 : decode cX9_house 19 = .ok (.aload_n 0, 1) := by decide +kernel
theorem dX9_house_20 : decode cX9_house 20 = .ok (.getfield 10, 3) := by decide +kernel
theorem dX9_house_23 : decode cX9_house 23 = .ok (.invokevirtual 84, 3) := by decide +kernel
theorem dX9_house_26 : decode cX9_house 26 = .ok (.aload_n 0, 1) := by decide +kernel
theorem dX9_house_27 : decode cX9_house 27 = .ok (.getfield 29, 3) := by decide +kernel
theorem dX9_house_30 : decode cX9_house 30 = .ok (.invokevirtual 88, 3) := by decide +kernel
theorem dX9_house_33 : decode cX9_house 33 = .ok (.aload_n 0, 1) := by decide +kernel
theorem dX9_house_34 : decode cX9_house 34 = .ok (.iconst 0, 1) := by decide +kernel
theorem dX9_house_35 : decode cX9_house 35 = .ok (.putfield 91, 3) := by decide +kernel
theorem dX9_house_38 : decode cX9_house 38 = .ok (.aload_n 0, 1) := by decide +kernel
theorem dX9_house_39 : decode cX9_house 39 = .ok (.getfield 19, 3) := by decide +kernel
theorem dX9_house_42 : decode cX9_house 42 = .ok (.getfield 94, 3) := by decide +kernel
theorem dX9_house_45 : decode cX9_house 45 = .ok (.ireturn, 1) := by decide +kernel
theorem dX9_thing_0 : decode cX9_thing 0 = .ok (.aload_n 0, 1) := by decide +kernel
theorem dX9_thing_1 : decode cX9_thing 1 = .ok (.getfield 19, 3) := by decide +kernel
theorem dX9_thing_4 : decode cX9_thing 4 = .ok (.iload_n 1, 1) := by decide +kernel
theorem dX9_thing_5 : decode cX9_thing 5 = .ok (.invokevirtual 97, 3) := by decide +kernel
theorem dX9_thing_8 : decode cX9_thing 8 = .ok (.ifCond .ne 5, 3) := by decide +kernel
theorem dX9_thing_11 : decode cX9_thing 11 = .ok (.iconst (-1), 1) := by decide +kernel
theorem dX9_thing_12 : decode cX9_thing 12 = .ok (.ireturn, 1) := by decide +kernel
theorem dX9_thing_13 : decode cX9_thing 13 = .ok (.iload_n 2, 1) := by decide +kernel
theorem dX9_thing_14 : decode cX9_thing 14 = .ok (.ifCond .lt 19, 3) := by decide +kernel
theorem dX9_thing_17 : decode cX9_thing 17 = .ok (.iload_n 2, 1) := by decide +kernel
theorem dX9_thing_18 : decode cX9_thing 18 = .ok (.bipush 7, 2) := by decide +kernel
theorem dX9_thing_20 : decode cX9_thing 20 = .ok (.if_icmp .ge 13, 3) := by decide +kernel
theorem dX9_thing_23 : decode cX9_thing 23 = .ok (.aload_n 0, 1) := by decide +kernel
theorem dX9_thing_24 : decode cX9_thing 24 = .ok (.getfield 19, 3) := by decide +kernel
theorem dX9_thing_27 : decode cX9_thing 27 = .ok (.iload_n 1, 1) := by decide +kernel
theorem dX9_thing_28 : decode cX9_thing 28 = .ok (.iload_n 2, 1) := by decide +kernel
theorem dX9_thing_29 : decode cX9_thing 29 = .ok (.invokevirtual 100, 3) := by decide +kernel
theorem dX9_thing_32 : decode cX9_thing 32 = .ok (.ireturn, 1) := by decide +kernel
theorem dX9_thing_33 : decode cX9_thing 33 = .ok (.iload_n 2, 1) := by decide +kernel
theorem dX9_thing_34 : decode cX9_thing 34 = .ok (.tableswitch 94 7 11 #[34, 46, 58, 70, 82], 34) := by decide +kernel
theorem dX9_thing_68 : decode cX9_thing 68 = .ok (.aload_n 0, 1) := by decide +kernel
theorem dX9_thing_69 : decode cX9_thing 69 = .ok (.getfield 19, 3) := by decide +kernel
theorem dX9_thing_72 : decode cX9_thing 72 = .ok (.getfield 104, 3) := by decide +kernel
theorem dX9_thing_75 : decode cX9_thing 75 = .ok (.iload_n 1, 1) := by decide +kernel
theorem dX9_thing_76 : decode cX9_thing 76 = .ok (.ishr, 1) := by decide +kernel
theorem dX9_thing_77 : decode cX9_thing 77 = .ok (.iconst 1, 1) := by decide +kernel
theorem dX9_thing_78 : decode cX9_thing 78 = .ok (.iand, 1) := by decide +kernel
theorem dX9_thing_79 : decode cX9_thing 79 = .ok (.ireturn, 1) := by decide +kernel
theorem dX9_thing_80 : decode cX9_thing 80 = .ok (.aload_n 0, 1) := by decide +kernel
theorem dX9_thing_81 : decode cX9_thing 81 = .ok (.getfield 19, 3) := by decide +kernel
theorem dX9_thing_84 : decode cX9_thing 84 = .ok (.getfield 107, 3) := by decide +kernel
theorem dX9_thing_87 : decode cX9_thing 87 = .ok (.iload_n 1, 1) := by decide +kernel
theorem dX9_thing_88 : decode cX9_thing 88 = .ok (.ishr, 1) := by decide +kernel
theorem dX9_thing_89 : decode cX9_thing 89 = .ok (.iconst 1, 1) := by decide +kernel
theorem dX9_thing_90 : decode cX9_thing 90 = .ok (.iand, 1) := by decide +kernel
theorem dX9_thing_91 : decode cX9_thing 91 = .ok (.ireturn, 1) := by decide +kernel
theorem dX9_thing_92 : decode cX9_thing 92 = .ok (.aload_n 0, 1) := by decide +kernel
theorem dX9_thing_93 : decode cX9_thing 93 = .ok (.getfield 19, 3) := by decide +kernel
theorem dX9_thing_96 : decode cX9_thing 96 = .ok (.getfield 110, 3) := by decide +kernel
theorem dX9_thing_99 : decode cX9_thing 99 = .ok (.iload_n 1, 1) := by decide +kernel
theorem dX9_thing_100 : decode cX9_thing 100 = .ok (.ishr, 1) := by decide +kernel
theorem dX9_thing_101 : decode cX9_thing 101 = .ok (.iconst 1, 1) := by decide +kernel
theorem dX9_thing_102 : decode cX9_thing 102 = .ok (.iand, 1) := by decide +kernel
theorem dX9_thing_103 : decode cX9_thing 103 = .ok (.ireturn, 1) := by decide +kernel
theorem dX9_thing_104 : decode cX9_thing 104 = .ok (.aload_n 0, 1) := by decide +kernel
theorem dX9_thing_105 : decode cX9_thing 105 = .ok (.getfield 19, 3) := by decide +kernel
theorem dX9_thing_108 : decode cX9_thing 108 = .ok (.getfield 113, 3) := by decide +kernel
theorem dX9_thing_111 : decode cX9_thing 111 = .ok (.iload_n 1, 1) := by decide +kernel
theorem dX9_thing_112 : decode cX9_thing 112 = .ok (.ishr, 1) := by decide +kernel
theorem dX9_thing_113 : decode cX9_thing 113 = .ok (.iconst 1, 1) := by decide +kernel
theorem dX9_thing_114 : decode cX9_thing 114 = .ok (.iand, 1) := by decide +kernel
theorem dX9_thing_115 : decode cX9_thing 115 = .ok (.ireturn, 1) := by decide +kernel
theorem dX9_thing_116 : decode cX9_thing 116 = .ok (.aload_n 0, 1) := by decide +kernel
theorem dX9_thing_117 : decode cX9_thing 117 = .ok (.getfield 19, 3) := by decide +kernel
theorem dX9_thing_120 : decode cX9_thing 120 = .ok (.invokevirtual 116, 3) := by decide +kernel
theorem dX9_thing_123 : decode cX9_thing 123 = .ok (.iload_n 1, 1) := by decide +kernel
theorem dX9_thing_124 : decode cX9_thing 124 = .ok (.ishr, 1) := by decide +kernel
theorem dX9_thing_125 : decode cX9_thing 125 = .ok (.iconst 1, 1) := by decide +kernel
theorem dX9_thing_126 : decode cX9_thing 126 = .ok (.iand, 1) := by decide +kernel
theorem dX9_thing_127 : decode cX9_thing 127 = .ok (.ireturn, 1) := by decide +kernel
theorem dX9_thing_128 : decode cX9_thing 128 = .ok (.bipush (-2), 2) := by decide +kernel
theorem dX9_thing_130 : decode cX9_thing 130 = .ok (.ireturn, 1) := by decide +kernel
theorem dX9_alike_0 : decode cX9_alike 0 = .ok (.aload_n 0, 1) := by decide +kernel
theorem dX9_alike_1 : decode cX9_alike 1 = .ok (.getfield 19, 3) := by decide +kernel
theorem dX9_alike_4 : decode cX9_alike 4 = .ok (.iload_n 1, 1) := by decide +kernel
theorem dX9_alike_5 : decode cX9_alike 5 = .ok (.invokevirtual 97, 3) := by decide +kernel
theorem dX9_alike_8 : decode cX9_alike 8 = .ok (.ifCond .eq 28, 3) := by decide +kernel
theorem dX9_alike_11 : decode cX9_alike 11 = .ok (.aload_n 0, 1) := by decide +kernel
theorem dX9_alike_12 : decode cX9_alike 12 = .ok (.getfield 19, 3) := by decide +kernel
theorem dX9_alike_15 : decode cX9_alike 15 = .ok (.iload_n 1, 1) := by decide +kernel
theorem dX9_alike_16 : decode cX9_alike 16 = .ok (.aload_n 0, 1) := by decide +kernel
theorem dX9_alike_17 : decode cX9_alike 17 = .ok (.getfield 19, 3) := by decide +kernel
theorem dX9_alike_20 : decode cX9_alike 20 = .ok (.getfield 119, 3) := by decide +kernel
theorem dX9_alike_23 : decode cX9_alike 23 = .ok (.aload_n 0, 1) := by decide +kernel
theorem dX9_alike_24 : decode cX9_alike 24 = .ok (.getfield 19, 3) := by decide +kernel
theorem dX9_alike_27 : decode cX9_alike 27 = .ok (.invokevirtual 122, 3) := by decide +kernel
theorem dX9_alike_30 : decode cX9_alike 30 = .ok (.invokevirtual 125, 3) := by decide +kernel
theorem dX9_alike_33 : decode cX9_alike 33 = .ok (.goto 4, 3) := by decide +kernel
theorem dX9_alike_36 : decode cX9_alike 36 = .ok (.iconst (-1), 1) := by decide +kernel
theorem dX9_alike_37 : decode cX9_alike 37 = .ok (.ireturn, 1) := by decide +kernel
theorem dX9_price_0 : decode cX9_price 0 = .ok (.aload_n 0, 1) := by decide +kernel
theorem dX9_price_1 : decode cX9_price 1 = .ok (.getfield 19, 3) := by decide +kernel
theorem dX9_price_4 : decode cX9_price 4 = .ok (.iload_n 1, 1) := by decide +kernel
theorem dX9_price_5 : decode cX9_price 5 = .ok (.invokevirtual 97, 3) := by decide +kernel
theorem dX9_price_8 : decode cX9_price 8 = .ok (.ifCond .eq 14, 3) := by decide +kernel
theorem dX9_price_11 : decode cX9_price 11 = .ok (.aload_n 0, 1) := by decide +kernel
theorem dX9_price_12 : decode cX9_price 12 = .ok (.getfield 19, 3) := by decide +kernel
theorem dX9_price_15 : decode cX9_price 15 = .ok (.iload_n 1, 1) := by decide +kernel
theorem dX9_price_16 : decode cX9_price 16 = .ok (.invokevirtual 129, 3) := by decide +kernel
theorem dX9_price_19 : decode cX9_price 19 = .ok (.goto 4, 3) := by decide +kernel
theorem dX9_price_22 : decode cX9_price 22 = .ok (.iconst (-1), 1) := by decide +kernel
theorem dX9_price_23 : decode cX9_price 23 = .ok (.ireturn, 1) := by decide +kernel
theorem dX9_broken_0 : decode cX9_broken 0 = .ok (.aload_n 0, 1) := by decide +kernel
theorem dX9_broken_1 : decode cX9_broken 1 = .ok (.iconst 0, 1) := by decide +kernel
theorem dX9_broken_2 : decode cX9_broken 2 = .ok (.iload_n 1, 1) := by decide +kernel
theorem dX9_broken_3 : decode cX9_broken 3 = .ok (.invokevirtual 133, 3) := by decide +kernel
theorem dX9_broken_6 : decode cX9_broken 6 = .ok (.istore_n 2, 1) := by decide +kernel
theorem dX9_broken_7 : decode cX9_broken 7 = .ok (.iload_n 2, 1) := by decide +kernel
theorem dX9_broken_8 : decode cX9_broken 8 = .ok (.ifCond .ge 7, 3) := by decide +kernel
theorem dX9_broken_11 : decode cX9_broken 11 = .ok (.iload_n 2, 1) := by decide +kernel
theorem dX9_broken_12 : decode cX9_broken 12 = .ok (.goto 10, 3) := by decide +kernel
theorem dX9_broken_15 : decode cX9_broken 15 = .ok (.aload_n 0, 1) := by decide +kernel
theorem dX9_broken_16 : decode cX9_broken 16 = .ok (.getfield 19, 3) := by decide +kernel
theorem dX9_broken_19 : decode cX9_broken 19 = .ok (.invokevirtual 116, 3) := by decide +kernel
theorem dX9_broken_22 : decode cX9_broken 22 = .ok (.ireturn, 1) := by decide +kernel
theorem dX9_forge_0 : decode cX9_forge 0 = .ok (.iload_n 1, 1) := by decide +kernel
theorem dX9_forge_1 : decode cX9_forge 1 = .ok (.ifCond .lt 19, 3) := by decide +kernel
theorem dX9_forge_4 : decode cX9_forge 4 = .ok (.iload_n 1, 1) := by decide +kernel
theorem dX9_forge_5 : decode cX9_forge 5 = .ok (.sipush 9999, 3) := by decide +kernel
theorem dX9_forge_8 : decode cX9_forge 8 = .ok (.if_icmp .gt 12, 3) := by decide +kernel
theorem dX9_forge_11 : decode cX9_forge 11 = .ok (.iload_n 2, 1) := by decide +kernel
theorem dX9_forge_12 : decode cX9_forge 12 = .ok (.ifCond .lt 8, 3) := by decide +kernel
theorem dX9_forge_15 : decode cX9_forge 15 = .ok (.iload_n 2, 1) := by decide +kernel
theorem dX9_forge_16 : decode cX9_forge 16 = .ok (.iconst 3, 1) := by decide +kernel
theorem dX9_forge_17 : decode cX9_forge 17 = .ok (.if_icmp .lt 6, 3) := by decide +kernel
theorem dX9_forge_20 : decode cX9_forge 20 = .ok (.bipush (-2), 2) := by decide +kernel
theorem dX9_forge_22 : decode cX9_forge 22 = .ok (.ireturn, 1) := by decide +kernel
theorem dX9_forge_23 : decode cX9_forge 23 = .ok (.aload_n 0, 1) := by decide +kernel
theorem dX9_forge_24 : decode cX9_forge 24 = .ok (.getfield 19, 3) := by decide +kernel
theorem dX9_forge_27 : decode cX9_forge 27 = .ok (.getfield 94, 3) := by decide +kernel
theorem dX9_forge_30 : decode cX9_forge 30 = .ok (.bipush 8, 2) := by decide +kernel
theorem dX9_forge_32 : decode cX9_forge 32 = .ok (.if_icmp .lt 6, 3) := by decide +kernel
theorem dX9_forge_35 : decode cX9_forge 35 = .ok (.bipush (-4), 2) := by decide +kernel
theorem dX9_forge_37 : decode cX9_forge 37 = .ok (.ireturn, 1) := by decide +kernel
theorem dX9_forge_38 : decode cX9_forge 38 = .ok (.aload_n 0, 1) := by decide +kernel
theorem dX9_forge_39 : decode cX9_forge 39 = .ok (.getfield 29, 3) := by decide +kernel
theorem dX9_forge_42 : decode cX9_forge 42 = .ok (.aload_n 0, 1) := by decide +kernel
theorem dX9_forge_43 : decode cX9_forge 43 = .ok (.getfield 19, 3) := by decide +kernel
theorem dX9_forge_46 : decode cX9_forge 46 = .ok (.invokevirtual 136, 3) := by decide +kernel
theorem dX9_forge_49 : decode cX9_forge 49 = .ok (.aload_n 0, 1) := by decide +kernel
theorem dX9_forge_50 : decode cX9_forge 50 = .ok (.getfield 19, 3) := by decide +kernel
theorem dX9_forge_53 : decode cX9_forge 53 = .ok (.iload_n 1, 1) := by decide +kernel
theorem dX9_forge_54 : decode cX9_forge 54 = .ok (.iload_n 2, 1) := by decide +kernel
theorem dX9_forge_55 : decode cX9_forge 55 = .ok (.invokevirtual 140, 3) := by decide +kernel
theorem dX9_forge_58 : decode cX9_forge 58 = .ok (.ireturn, 1) := by decide +kernel
theorem dX9_hide_0 : decode cX9_hide 0 = .ok (.aload_n 0, 1) := by decide +kernel
theorem dX9_hide_1 : decode cX9_hide 1 = .ok (.iconst 2, 1) := by decide +kernel
theorem dX9_hide_2 : decode cX9_hide 2 = .ok (.iload_n 1, 1) := by decide +kernel
theorem dX9_hide_3 : decode cX9_hide 3 = .ok (.invokevirtual 133, 3) := by decide +kernel
theorem dX9_hide_6 : decode cX9_hide 6 = .ok (.istore_n 2, 1) := by decide +kernel
theorem dX9_hide_7 : decode cX9_hide 7 = .ok (.iload_n 2, 1) := by decide +kernel
theorem dX9_hide_8 : decode cX9_hide 8 = .ok (.ifCond .ge 7, 3) := by decide +kernel
theorem dX9_hide_11 : decode cX9_hide 11 = .ok (.iload_n 2, 1) := by decide +kernel
theorem dX9_hide_12 : decode cX9_hide 12 = .ok (.goto 14, 3) := by decide +kernel
theorem dX9_hide_15 : decode cX9_hide 15 = .ok (.aload_n 0, 1) := by decide +kernel
theorem dX9_hide_16 : decode cX9_hide 16 = .ok (.getfield 19, 3) := by decide +kernel
theorem dX9_hide_19 : decode cX9_hide 19 = .ok (.getfield 110, 3) := by decide +kernel
theorem dX9_hide_22 : decode cX9_hide 22 = .ok (.iload_n 1, 1) := by decide +kernel
theorem dX9_hide_23 : decode cX9_hide 23 = .ok (.ishr, 1) := by decide +kernel
theorem dX9_hide_24 : decode cX9_hide 24 = .ok (.iconst 1, 1) := by decide +kernel
theorem dX9_hide_25 : decode cX9_hide 25 = .ok (.iand, 1) := by decide +kernel
theorem dX9_hide_26 : decode cX9_hide 26 = .ok (.ireturn, 1) := by decide +kernel
theorem dX9_claim_0 : decode cX9_claim 0 = .ok (.aload_n 0, 1) := by decide +kernel
theorem dX9_claim_1 : decode cX9_claim 1 = .ok (.iconst 1, 1) := by decide +kernel
theorem dX9_claim_2 : decode cX9_claim 2 = .ok (.iload_n 1, 1) := by decide +kernel
theorem dX9_claim_3 : decode cX9_claim 3 = .ok (.invokevirtual 133, 3) := by decide +kernel
theorem dX9_claim_6 : decode cX9_claim 6 = .ok (.istore_n 2, 1) := by decide +kernel
theorem dX9_claim_7 : decode cX9_claim 7 = .ok (.iload_n 2, 1) := by decide +kernel
theorem dX9_claim_8 : decode cX9_claim 8 = .ok (.ifCond .ge 7, 3) := by decide +kernel
theorem dX9_claim_11 : decode cX9_claim 11 = .ok (.iload_n 2, 1) := by decide +kernel
theorem dX9_claim_12 : decode cX9_claim 12 = .ok (.goto 13, 3) := by decide +kernel
theorem dX9_claim_15 : decode cX9_claim 15 = .ok (.aload_n 0, 1) := by decide +kernel
theorem dX9_claim_16 : decode cX9_claim 16 = .ok (.getfield 19, 3) := by decide +kernel
theorem dX9_claim_19 : decode cX9_claim 19 = .ok (.getfield 113, 3) := by decide +kernel
theorem dX9_claim_22 : decode cX9_claim 22 = .ok (.invokestatic 143, 3) := by decide +kernel
theorem dX9_claim_25 : decode cX9_claim 25 = .ok (.ireturn, 1) := by decide +kernel
theorem dX9_guard_0 : decode cX9_guard 0 = .ok (.aload_n 0, 1) := by decide +kernel
theorem dX9_guard_1 : decode cX9_guard 1 = .ok (.iconst 3, 1) := by decide +kernel
theorem dX9_guard_2 : decode cX9_guard 2 = .ok (.iload_n 1, 1) := by decide +kernel
theorem dX9_guard_3 : decode cX9_guard 3 = .ok (.invokevirtual 133, 3) := by decide +kernel
theorem dX9_guard_6 : decode cX9_guard 6 = .ok (.istore_n 2, 1) := by decide +kernel
theorem dX9_guard_7 : decode cX9_guard 7 = .ok (.iload_n 2, 1) := by decide +kernel
theorem dX9_guard_8 : decode cX9_guard 8 = .ok (.ifCond .ge 7, 3) := by decide +kernel
theorem dX9_guard_11 : decode cX9_guard 11 = .ok (.iload_n 2, 1) := by decide +kernel
theorem dX9_guard_12 : decode cX9_guard 12 = .ok (.goto 14, 3) := by decide +kernel
theorem dX9_guard_15 : decode cX9_guard 15 = .ok (.aload_n 0, 1) := by decide +kernel
theorem dX9_guard_16 : decode cX9_guard 16 = .ok (.getfield 19, 3) := by decide +kernel
theorem dX9_guard_19 : decode cX9_guard 19 = .ok (.getfield 104, 3) := by decide +kernel
theorem dX9_guard_22 : decode cX9_guard 22 = .ok (.iload_n 1, 1) := by decide +kernel
theorem dX9_guard_23 : decode cX9_guard 23 = .ok (.ishr, 1) := by decide +kernel
theorem dX9_guard_24 : decode cX9_guard 24 = .ok (.iconst 1, 1) := by decide +kernel
theorem dX9_guard_25 : decode cX9_guard 25 = .ok (.iand, 1) := by decide +kernel
theorem dX9_guard_26 : decode cX9_guard 26 = .ok (.ireturn, 1) := by decide +kernel
theorem dX9_word_0 : decode cX9_word 0 = .ok (.iload_n 1, 1) := by decide +kernel
theorem dX9_word_1 : decode cX9_word 1 = .ok (.iconst 1, 1) := by decide +kernel
theorem dX9_word_2 : decode cX9_word 2 = .ok (.if_icmp .lt 8, 3) := by decide +kernel
theorem dX9_word_5 : decode cX9_word 5 = .ok (.iload_n 1, 1) := by decide +kernel
theorem dX9_word_6 : decode cX9_word 6 = .ok (.iconst 4, 1) := by decide +kernel
theorem dX9_word_7 : decode cX9_word 7 = .ok (.if_icmp .le 6, 3) := by decide +kernel
theorem dX9_word_10 : decode cX9_word 10 = .ok (.bipush (-2), 2) := by decide +kernel
theorem dX9_word_12 : decode cX9_word 12 = .ok (.ireturn, 1) := by decide +kernel
theorem dX9_word_13 : decode cX9_word 13 = .ok (.iload_n 1, 1) := by decide +kernel
theorem dX9_word_14 : decode cX9_word 14 = .ok (.aload_n 0, 1) := by decide +kernel
theorem dX9_word_15 : decode cX9_word 15 = .ok (.getfield 19, 3) := by decide +kernel
theorem dX9_word_18 : decode cX9_word 18 = .ok (.getfield 119, 3) := by decide +kernel
theorem dX9_word_21 : decode cX9_word 21 = .ok (.if_icmp .ne 6, 3) := by decide +kernel
theorem dX9_word_24 : decode cX9_word 24 = .ok (.bipush (-3), 2) := by decide +kernel
theorem dX9_word_26 : decode cX9_word 26 = .ok (.ireturn, 1) := by decide +kernel
theorem dX9_word_27 : decode cX9_word 27 = .ok (.aload_n 0, 1) := by decide +kernel
theorem dX9_word_28 : decode cX9_word 28 = .ok (.getfield 29, 3) := by decide +kernel
theorem dX9_word_31 : decode cX9_word 31 = .ok (.aload_n 0, 1) := by decide +kernel
theorem dX9_word_32 : decode cX9_word 32 = .ok (.getfield 19, 3) := by decide +kernel
theorem dX9_word_35 : decode cX9_word 35 = .ok (.invokevirtual 136, 3) := by decide +kernel
theorem dX9_word_38 : decode cX9_word 38 = .ok (.aload_n 0, 1) := by decide +kernel
theorem dX9_word_39 : decode cX9_word 39 = .ok (.getfield 19, 3) := by decide +kernel
theorem dX9_word_42 : decode cX9_word 42 = .ok (.iload_n 1, 1) := by decide +kernel
theorem dX9_word_43 : decode cX9_word 43 = .ok (.invokevirtual 148, 3) := by decide +kernel
theorem dX9_word_46 : decode cX9_word 46 = .ok (.ireturn, 1) := by decide +kernel
theorem dX9_year_0 : decode cX9_year 0 = .ok (.aload_n 0, 1) := by decide +kernel
theorem dX9_year_1 : decode cX9_year 1 = .ok (.getfield 29, 3) := by decide +kernel
theorem dX9_year_4 : decode cX9_year 4 = .ok (.aload_n 0, 1) := by decide +kernel
theorem dX9_year_5 : decode cX9_year 5 = .ok (.getfield 19, 3) := by decide +kernel
theorem dX9_year_8 : decode cX9_year 8 = .ok (.invokevirtual 136, 3) := by decide +kernel
theorem dX9_year_11 : decode cX9_year 11 = .ok (.aload_n 0, 1) := by decide +kernel
theorem dX9_year_12 : decode cX9_year 12 = .ok (.getfield 19, 3) := by decide +kernel
theorem dX9_year_15 : decode cX9_year 15 = .ok (.dup, 1) := by decide +kernel
theorem dX9_year_16 : decode cX9_year 16 = .ok (.getfield 151, 3) := by decide +kernel
theorem dX9_year_19 : decode cX9_year 19 = .ok (.iconst 1, 1) := by decide +kernel
theorem dX9_year_20 : decode cX9_year 20 = .ok (.iadd, 1) := by decide +kernel
theorem dX9_year_21 : decode cX9_year 21 = .ok (.putfield 151, 3) := by decide +kernel
theorem dX9_year_24 : decode cX9_year 24 = .ok (.aload_n 0, 1) := by decide +kernel
theorem dX9_year_25 : decode cX9_year 25 = .ok (.getfield 19, 3) := by decide +kernel
theorem dX9_year_28 : decode cX9_year 28 = .ok (.getfield 151, 3) := by decide +kernel
theorem dX9_year_31 : decode cX9_year 31 = .ok (.ireturn, 1) := by decide +kernel
theorem dX9_undo_0 : decode cX9_undo 0 = .ok (.aload_n 0, 1) := by decide +kernel
theorem dX9_undo_1 : decode cX9_undo 1 = .ok (.getfield 29, 3) := by decide +kernel
theorem dX9_undo_4 : decode cX9_undo 4 = .ok (.aload_n 0, 1) := by decide +kernel
theorem dX9_undo_5 : decode cX9_undo 5 = .ok (.getfield 19, 3) := by decide +kernel
theorem dX9_undo_8 : decode cX9_undo 8 = .ok (.invokevirtual 154, 3) := by decide +kernel
theorem dX9_undo_11 : decode cX9_undo 11 = .ok (.ifCond .eq 13, 3) := by decide +kernel
theorem dX9_undo_14 : decode cX9_undo 14 = .ok (.aload_n 0, 1) := by decide +kernel
theorem dX9_undo_15 : decode cX9_undo 15 = .ok (.getfield 29, 3) := by decide +kernel
theorem dX9_undo_18 : decode cX9_undo 18 = .ok (.getfield 158, 3) := by decide +kernel
theorem dX9_undo_21 : decode cX9_undo 21 = .ok (.goto 5, 3) := by decide +kernel
theorem dX9_undo_24 : decode cX9_undo 24 = .ok (.bipush (-3), 2) := by decide +kernel
theorem dX9_undo_26 : decode cX9_undo 26 = .ok (.ireturn, 1) := by decide +kernel
theorem dX9_judge_0 : decode cX9_judge 0 = .ok (.iload_n 1, 1) := by decide +kernel
theorem dX9_judge_1 : decode cX9_judge 1 = .ok (.iconst 1, 1) := by decide +kernel
theorem dX9_judge_2 : decode cX9_judge 2 = .ok (.if_icmp .lt 8, 3) := by decide +kernel
theorem dX9_judge_5 : decode cX9_judge 5 = .ok (.iload_n 1, 1) := by decide +kernel
theorem dX9_judge_6 : decode cX9_judge 6 = .ok (.iconst 4, 1) := by decide +kernel
theorem dX9_judge_7 : decode cX9_judge 7 = .ok (.if_icmp .le 6, 3) := by decide +kernel
theorem dX9_judge_10 : decode cX9_judge 10 = .ok (.bipush (-2), 2) := by decide +kernel
theorem dX9_judge_12 : decode cX9_judge 12 = .ok (.ireturn, 1) := by decide +kernel
theorem dX9_judge_13 : decode cX9_judge 13 = .ok (.iload_n 2, 1) := by decide +kernel
theorem dX9_judge_14 : decode cX9_judge 14 = .ok (.ifCond .lt 11, 3) := by decide +kernel
theorem dX9_judge_17 : decode cX9_judge 17 = .ok (.iload_n 2, 1) := by decide +kernel
theorem dX9_judge_18 : decode cX9_judge 18 = .ok (.iload_n 1, 1) := by decide +kernel
theorem dX9_judge_19 : decode cX9_judge 19 = .ok (.invokestatic 159, 3) := by decide +kernel
theorem dX9_judge_22 : decode cX9_judge 22 = .ok (.ifCond .eq 6, 3) := by decide +kernel
theorem dX9_judge_25 : decode cX9_judge 25 = .ok (.bipush (-2), 2) := by decide +kernel
theorem dX9_judge_27 : decode cX9_judge 27 = .ok (.ireturn, 1) := by decide +kernel
theorem dX9_judge_28 : decode cX9_judge 28 = .ok (.aload_n 0, 1) := by decide +kernel
theorem dX9_judge_29 : decode cX9_judge 29 = .ok (.getfield 23, 3) := by decide +kernel
theorem dX9_judge_32 : decode cX9_judge 32 = .ok (.aload_n 0, 1) := by decide +kernel
theorem dX9_judge_33 : decode cX9_judge 33 = .ok (.getfield 19, 3) := by decide +kernel
theorem dX9_judge_36 : decode cX9_judge 36 = .ok (.invokevirtual 162, 3) := by decide +kernel
theorem dX9_judge_39 : decode cX9_judge 39 = .ok (.iconst 0, 1) := by decide +kernel
theorem dX9_judge_40 : decode cX9_judge 40 = .ok (.istore_n 3, 1) := by decide +kernel
theorem dX9_judge_41 : decode cX9_judge 41 = .ok (.iload_n 3, 1) := by decide +kernel
theorem dX9_judge_42 : decode cX9_judge 42 = .ok (.iload_n 1, 1) := by decide +kernel
theorem dX9_judge_43 : decode cX9_judge 43 = .ok (.if_icmp .ge 64, 3) := by decide +kernel
theorem dX9_judge_46 : decode cX9_judge 46 = .ok (.iload_n 2, 1) := by decide +kernel
theorem dX9_judge_47 : decode cX9_judge 47 = .ok (.iload_n 1, 1) := by decide +kernel
theorem dX9_judge_48 : decode cX9_judge 48 = .ok (.iconst 1, 1) := by decide +kernel
theorem dX9_judge_49 : decode cX9_judge 49 = .ok (.isub, 1) := by decide +kernel
theorem dX9_judge_50 : decode cX9_judge 50 = .ok (.iload_n 3, 1) := by decide +kernel
theorem dX9_judge_51 : decode cX9_judge 51 = .ok (.isub, 1) := by decide +kernel
theorem dX9_judge_52 : decode cX9_judge 52 = .ok (.invokestatic 159, 3) := by decide +kernel
theorem dX9_judge_55 : decode cX9_judge 55 = .ok (.bipush 100, 2) := by decide +kernel
theorem dX9_judge_57 : decode cX9_judge 57 = .ok (.irem, 1) := by decide +kernel
theorem dX9_judge_58 : decode cX9_judge 58 = .ok (.istore 4, 2) := by decide +kernel
theorem dX9_judge_60 : decode cX9_judge 60 = .ok (.iload 4, 2) := by decide +kernel
theorem dX9_judge_62 : decode cX9_judge 62 = .ok (.bipush 10, 2) := by decide +kernel
theorem dX9_judge_64 : decode cX9_judge 64 = .ok (.idiv, 1) := by decide +kernel
theorem dX9_judge_65 : decode cX9_judge 65 = .ok (.istore 5, 2) := by decide +kernel
theorem dX9_judge_67 : decode cX9_judge 67 = .ok (.iload 4, 2) := by decide +kernel
theorem dX9_judge_69 : decode cX9_judge 69 = .ok (.bipush 10, 2) := by decide +kernel
theorem dX9_judge_71 : decode cX9_judge 71 = .ok (.irem, 1) := by decide +kernel
theorem dX9_judge_72 : decode cX9_judge 72 = .ok (.istore 6, 2) := by decide +kernel
theorem dX9_judge_74 : decode cX9_judge 74 = .ok (.aload_n 0, 1) := by decide +kernel
theorem dX9_judge_75 : decode cX9_judge 75 = .ok (.getfield 23, 3) := by decide +kernel
theorem dX9_judge_78 : decode cX9_judge 78 = .ok (.iload 5, 2) := by decide +kernel
theorem dX9_judge_80 : decode cX9_judge 80 = .ok (.iload 6, 2) := by decide +kernel
theorem dX9_judge_82 : decode cX9_judge 82 = .ok (.invokevirtual 165, 3) := by decide +kernel
theorem dX9_judge_85 : decode cX9_judge 85 = .ok (.ifCond .ne 5, 3) := by decide +kernel
theorem dX9_judge_88 : decode cX9_judge 88 = .ok (.iload_n 3, 1) := by decide +kernel
theorem dX9_judge_89 : decode cX9_judge 89 = .ok (.ireturn, 1) := by decide +kernel
theorem dX9_judge_90 : decode cX9_judge 90 = .ok (.aload_n 0, 1) := by decide +kernel
theorem dX9_judge_91 : decode cX9_judge 91 = .ok (.getfield 23, 3) := by decide +kernel
theorem dX9_judge_94 : decode cX9_judge 94 = .ok (.iload 5, 2) := by decide +kernel
theorem dX9_judge_96 : decode cX9_judge 96 = .ok (.iload 6, 2) := by decide +kernel
theorem dX9_judge_98 : decode cX9_judge 98 = .ok (.invokevirtual 169, 3) := by decide +kernel
theorem dX9_judge_101 : decode cX9_judge 101 = .ok (.iinc 3 1, 3) := by decide +kernel
theorem dX9_judge_104 : decode cX9_judge 104 = .ok (.goto (-63), 3) := by decide +kernel
theorem dX9_judge_107 : decode cX9_judge 107 = .ok (.bipush (-9), 2) := by decide +kernel
theorem dX9_judge_109 : decode cX9_judge 109 = .ok (.ireturn, 1) := by decide +kernel
theorem dX9_tryAct_0 : decode cX9_tryAct 0 = .ok (.aload_n 0, 1) := by decide +kernel
theorem dX9_tryAct_1 : decode cX9_tryAct 1 = .ok (.getfield 19, 3) := by decide +kernel
theorem dX9_tryAct_4 : decode cX9_tryAct 4 = .ok (.iload_n 2, 1) := by decide +kernel
theorem dX9_tryAct_5 : decode cX9_tryAct 5 = .ok (.invokevirtual 97, 3) := by decide +kernel
theorem dX9_tryAct_8 : decode cX9_tryAct 8 = .ok (.ifCond .ne 5, 3) := by decide +kernel
theorem dX9_tryAct_11 : decode cX9_tryAct 11 = .ok (.iconst (-1), 1) := by decide +kernel
theorem dX9_tryAct_12 : decode cX9_tryAct 12 = .ok (.ireturn, 1) := by decide +kernel
theorem dX9_tryAct_13 : decode cX9_tryAct 13 = .ok (.aload_n 0, 1) := by decide +kernel
theorem dX9_tryAct_14 : decode cX9_tryAct 14 = .ok (.getfield 19, 3) := by decide +kernel
theorem dX9_tryAct_17 : decode cX9_tryAct 17 = .ok (.iload_n 1, 1) := by decide +kernel
theorem dX9_tryAct_18 : decode cX9_tryAct 18 = .ok (.iload_n 2, 1) := by decide +kernel
theorem dX9_tryAct_19 : decode cX9_tryAct 19 = .ok (.invokevirtual 165, 3) := by decide +kernel
theorem dX9_tryAct_22 : decode cX9_tryAct 22 = .ok (.ifCond .ne 6, 3) := by decide +kernel
theorem dX9_tryAct_25 : decode cX9_tryAct 25 = .ok (.bipush (-3), 2) := by decide +kernel
theorem dX9_tryAct_27 : decode cX9_tryAct 27 = .ok (.ireturn, 1) := by decide +kernel
theorem dX9_tryAct_28 : decode cX9_tryAct 28 = .ok (.aload_n 0, 1) := by decide +kernel
theorem dX9_tryAct_29 : decode cX9_tryAct 29 = .ok (.getfield 29, 3) := by decide +kernel
theorem dX9_tryAct_32 : decode cX9_tryAct 32 = .ok (.aload_n 0, 1) := by decide +kernel
theorem dX9_tryAct_33 : decode cX9_tryAct 33 = .ok (.getfield 19, 3) := by decide +kernel
theorem dX9_tryAct_36 : decode cX9_tryAct 36 = .ok (.invokevirtual 136, 3) := by decide +kernel
theorem dX9_tryAct_39 : decode cX9_tryAct 39 = .ok (.aload_n 0, 1) := by decide +kernel
theorem dX9_tryAct_40 : decode cX9_tryAct 40 = .ok (.getfield 19, 3) := by decide +kernel
theorem dX9_tryAct_43 : decode cX9_tryAct 43 = .ok (.iload_n 1, 1) := by decide +kernel
theorem dX9_tryAct_44 : decode cX9_tryAct 44 = .ok (.iload_n 2, 1) := by decide +kernel
theorem dX9_tryAct_45 : decode cX9_tryAct 45 = .ok (.invokevirtual 169, 3) := by decide +kernel
theorem dX9_tryAct_48 : decode cX9_tryAct 48 = .ok (.iconst 0, 1) := by decide +kernel
theorem dX9_tryAct_49 : decode cX9_tryAct 49 = .ok (.ireturn, 1) := by decide +kernel
theorem dX9_campaign_0 : decode cX9_campaign 0 = .ok (.aload_n 0, 1) := by decide +kernel
theorem dX9_campaign_1 : decode cX9_campaign 1 = .ok (.getfield 19, 3) := by decide +kernel
theorem dX9_campaign_4 : decode cX9_campaign 4 = .ok (.iload_n 1, 1) := by decide +kernel
theorem dX9_campaign_5 : decode cX9_campaign 5 = .ok (.invokevirtual 97, 3) := by decide +kernel
theorem dX9_campaign_8 : decode cX9_campaign 8 = .ok (.ifCond .ne 5, 3) := by decide +kernel
theorem dX9_campaign_11 : decode cX9_campaign 11 = .ok (.iconst (-1), 1) := by decide +kernel
theorem dX9_campaign_12 : decode cX9_campaign 12 = .ok (.ireturn, 1) := by decide +kernel
theorem dX9_campaign_13 : decode cX9_campaign 13 = .ok (.aload_n 0, 1) := by decide +kernel
theorem dX9_campaign_14 : decode cX9_campaign 14 = .ok (.getfield 19, 3) := by decide +kernel
theorem dX9_campaign_17 : decode cX9_campaign 17 = .ok (.invokevirtual 122, 3) := by decide +kernel
theorem dX9_campaign_20 : decode cX9_campaign 20 = .ok (.iload_n 1, 1) := by decide +kernel
theorem dX9_campaign_21 : decode cX9_campaign 21 = .ok (.invokestatic 173, 3) := by decide +kernel
theorem dX9_campaign_24 : decode cX9_campaign 24 = .ok (.ifCond .ne 6, 3) := by decide +kernel
theorem dX9_campaign_27 : decode cX9_campaign 27 = .ok (.bipush (-3), 2) := by decide +kernel
theorem dX9_campaign_29 : decode cX9_campaign 29 = .ok (.ireturn, 1) := by decide +kernel
theorem dX9_campaign_30 : decode cX9_campaign 30 = .ok (.aload_n 0, 1) := by decide +kernel
theorem dX9_campaign_31 : decode cX9_campaign 31 = .ok (.getfield 40, 3) := by decide +kernel
theorem dX9_campaign_34 : decode cX9_campaign 34 = .ok (.aload_n 0, 1) := by decide +kernel
theorem dX9_campaign_35 : decode cX9_campaign 35 = .ok (.getfield 19, 3) := by decide +kernel
theorem dX9_campaign_38 : decode cX9_campaign 38 = .ok (.iload_n 1, 1) := by decide +kernel
theorem dX9_campaign_39 : decode cX9_campaign 39 = .ok (.invokevirtual 176, 3) := by decide +kernel
theorem dX9_campaign_42 : decode cX9_campaign 42 = .ok (.aload_n 0, 1) := by decide +kernel
theorem dX9_campaign_43 : decode cX9_campaign 43 = .ok (.getfield 40, 3) := by decide +kernel
theorem dX9_campaign_46 : decode cX9_campaign 46 = .ok (.getfield 180, 3) := by decide +kernel
theorem dX9_campaign_49 : decode cX9_campaign 49 = .ok (.ireturn, 1) := by decide +kernel
theorem dX9_campaignBy_0 : decode cX9_campaignBy 0 = .ok (.aload_n 0, 1) := by decide +kernel
theorem dX9_campaignBy_1 : decode cX9_campaignBy 1 = .ok (.getfield 19, 3) := by decide +kernel
theorem dX9_campaignBy_4 : decode cX9_campaignBy 4 = .ok (.iload_n 1, 1) := by decide +kernel
theorem dX9_campaignBy_5 : decode cX9_campaignBy 5 = .ok (.invokevirtual 97, 3) := by decide +kernel
theorem dX9_campaignBy_8 : decode cX9_campaignBy 8 = .ok (.ifCond .ne 5, 3) := by decide +kernel
theorem dX9_campaignBy_11 : decode cX9_campaignBy 11 = .ok (.iconst (-1), 1) := by decide +kernel
theorem dX9_campaignBy_12 : decode cX9_campaignBy 12 = .ok (.ireturn, 1) := by decide +kernel
theorem dX9_campaignBy_13 : decode cX9_campaignBy 13 = .ok (.iload_n 2, 1) := by decide +kernel
theorem dX9_campaignBy_14 : decode cX9_campaignBy 14 = .ok (.ifCond .lt 8, 3) := by decide +kernel
theorem dX9_campaignBy_17 : decode cX9_campaignBy 17 = .ok (.iload_n 2, 1) := by decide +kernel
theorem dX9_campaignBy_18 : decode cX9_campaignBy 18 = .ok (.iconst 1, 1) := by decide +kernel
theorem dX9_campaignBy_19 : decode cX9_campaignBy 19 = .ok (.if_icmp .le 6, 3) := by decide +kernel
theorem dX9_campaignBy_22 : decode cX9_campaignBy 22 = .ok (.bipush (-2), 2) := by decide +kernel
theorem dX9_campaignBy_24 : decode cX9_campaignBy 24 = .ok (.ireturn, 1) := by decide +kernel
theorem dX9_campaignBy_25 : decode cX9_campaignBy 25 = .ok (.aload_n 0, 1) := by decide +kernel
theorem dX9_campaignBy_26 : decode cX9_campaignBy 26 = .ok (.getfield 19, 3) := by decide +kernel
theorem dX9_campaignBy_29 : decode cX9_campaignBy 29 = .ok (.invokevirtual 122, 3) := by decide +kernel
theorem dX9_campaignBy_32 : decode cX9_campaignBy 32 = .ok (.iload_n 1, 1) := by decide +kernel
theorem dX9_campaignBy_33 : decode cX9_campaignBy 33 = .ok (.invokestatic 173, 3) := by decide +kernel
theorem dX9_campaignBy_36 : decode cX9_campaignBy 36 = .ok (.ifCond .ne 6, 3) := by decide +kernel
theorem dX9_campaignBy_39 : decode cX9_campaignBy 39 = .ok (.bipush (-3), 2) := by decide +kernel
theorem dX9_campaignBy_41 : decode cX9_campaignBy 41 = .ok (.ireturn, 1) := by decide +kernel
theorem dX9_campaignBy_42 : decode cX9_campaignBy 42 = .ok (.aload_n 0, 1) := by decide +kernel
theorem dX9_campaignBy_43 : decode cX9_campaignBy 43 = .ok (.getfield 40, 3) := by decide +kernel
theorem dX9_campaignBy_46 : decode cX9_campaignBy 46 = .ok (.aload_n 0, 1) := by decide +kernel
theorem dX9_campaignBy_47 : decode cX9_campaignBy 47 = .ok (.getfield 19, 3) := by decide +kernel
theorem dX9_campaignBy_50 : decode cX9_campaignBy 50 = .ok (.iload_n 1, 1) := by decide +kernel
theorem dX9_campaignBy_51 : decode cX9_campaignBy 51 = .ok (.invokevirtual 176, 3) := by decide +kernel
theorem dX9_campaignBy_54 : decode cX9_campaignBy 54 = .ok (.iload_n 2, 1) := by decide +kernel
theorem dX9_campaignBy_55 : decode cX9_campaignBy 55 = .ok (.ifCond .ne 13, 3) := by decide +kernel
theorem dX9_campaignBy_58 : decode cX9_campaignBy 58 = .ok (.aload_n 0, 1) := by decide +kernel
theorem dX9_campaignBy_59 : decode cX9_campaignBy 59 = .ok (.getfield 40, 3) := by decide +kernel
theorem dX9_campaignBy_62 : decode cX9_campaignBy 62 = .ok (.getfield 183, 3) := by decide +kernel
theorem dX9_campaignBy_65 : decode cX9_campaignBy 65 = .ok (.goto 10, 3) := by decide +kernel
theorem dX9_campaignBy_68 : decode cX9_campaignBy 68 = .ok (.aload_n 0, 1) := by decide +kernel
theorem dX9_campaignBy_69 : decode cX9_campaignBy 69 = .ok (.getfield 40, 3) := by decide +kernel
theorem dX9_campaignBy_72 : decode cX9_campaignBy 72 = .ok (.getfield 186, 3) := by decide +kernel
theorem dX9_campaignBy_75 : decode cX9_campaignBy 75 = .ok (.ireturn, 1) := by decide +kernel
theorem dX9_copy_0 : decode cX9_copy 0 = .ok (.aload_n 0, 1) := by decide +kernel
theorem dX9_copy_1 : decode cX9_copy 1 = .ok (.getfield 19, 3) := by decide +kernel
theorem dX9_copy_4 : decode cX9_copy 4 = .ok (.iload_n 1, 1) := by decide +kernel
theorem dX9_copy_5 : decode cX9_copy 5 = .ok (.invokevirtual 97, 3) := by decide +kernel
theorem dX9_copy_8 : decode cX9_copy 8 = .ok (.ifCond .ne 5, 3) := by decide +kernel
theorem dX9_copy_11 : decode cX9_copy 11 = .ok (.iconst (-1), 1) := by decide +kernel
theorem dX9_copy_12 : decode cX9_copy 12 = .ok (.ireturn, 1) := by decide +kernel
theorem dX9_copy_13 : decode cX9_copy 13 = .ok (.aload_n 0, 1) := by decide +kernel
theorem dX9_copy_14 : decode cX9_copy 14 = .ok (.getfield 19, 3) := by decide +kernel
theorem dX9_copy_17 : decode cX9_copy 17 = .ok (.getfield 113, 3) := by decide +kernel
theorem dX9_copy_20 : decode cX9_copy 20 = .ok (.iload_n 1, 1) := by decide +kernel
theorem dX9_copy_21 : decode cX9_copy 21 = .ok (.invokestatic 173, 3) := by decide +kernel
theorem dX9_copy_24 : decode cX9_copy 24 = .ok (.ifCond .ne 6, 3) := by decide +kernel
theorem dX9_copy_27 : decode cX9_copy 27 = .ok (.bipush (-3), 2) := by decide +kernel
theorem dX9_copy_29 : decode cX9_copy 29 = .ok (.ireturn, 1) := by decide +kernel
theorem dX9_copy_30 : decode cX9_copy 30 = .ok (.aload_n 0, 1) := by decide +kernel
theorem dX9_copy_31 : decode cX9_copy 31 = .ok (.getfield 40, 3) := by decide +kernel
theorem dX9_copy_34 : decode cX9_copy 34 = .ok (.aload_n 0, 1) := by decide +kernel
theorem dX9_copy_35 : decode cX9_copy 35 = .ok (.getfield 19, 3) := by decide +kernel
theorem dX9_copy_38 : decode cX9_copy 38 = .ok (.iload_n 1, 1) := by decide +kernel
theorem dX9_copy_39 : decode cX9_copy 39 = .ok (.invokevirtual 189, 3) := by decide +kernel
theorem dX9_copy_42 : decode cX9_copy 42 = .ok (.ireturn, 1) := by decide +kernel
theorem dX9_bestWord_0 : decode cX9_bestWord 0 = .ok (.iload_n 1, 1) := by decide +kernel
theorem dX9_bestWord_1 : decode cX9_bestWord 1 = .ok (.ifCond .lt 8, 3) := by decide +kernel
theorem dX9_bestWord_4 : decode cX9_bestWord 4 = .ok (.iload_n 1, 1) := by decide +kernel
theorem dX9_bestWord_5 : decode cX9_bestWord 5 = .ok (.iconst 1, 1) := by decide +kernel
theorem dX9_bestWord_6 : decode cX9_bestWord 6 = .ok (.if_icmp .le 6, 3) := by decide +kernel
theorem dX9_bestWord_9 : decode cX9_bestWord 9 = .ok (.bipush (-2), 2) := by decide +kernel
theorem dX9_bestWord_11 : decode cX9_bestWord 11 = .ok (.ireturn, 1) := by decide +kernel
theorem dX9_bestWord_12 : decode cX9_bestWord 12 = .ok (.aload_n 0, 1) := by decide +kernel
theorem dX9_bestWord_13 : decode cX9_bestWord 13 = .ok (.getfield 40, 3) := by decide +kernel
theorem dX9_bestWord_16 : decode cX9_bestWord 16 = .ok (.aload_n 0, 1) := by decide +kernel
theorem dX9_bestWord_17 : decode cX9_bestWord 17 = .ok (.getfield 19, 3) := by decide +kernel
theorem dX9_bestWord_20 : decode cX9_bestWord 20 = .ok (.invokevirtual 193, 3) := by decide +kernel
theorem dX9_bestWord_23 : decode cX9_bestWord 23 = .ok (.istore_n 2, 1) := by decide +kernel
theorem dX9_bestWord_24 : decode cX9_bestWord 24 = .ok (.iload_n 1, 1) := by decide +kernel
theorem dX9_bestWord_25 : decode cX9_bestWord 25 = .ok (.ifCond .ne 7, 3) := by decide +kernel
theorem dX9_bestWord_28 : decode cX9_bestWord 28 = .ok (.iload_n 2, 1) := by decide +kernel
theorem dX9_bestWord_29 : decode cX9_bestWord 29 = .ok (.goto 15, 3) := by decide +kernel
theorem dX9_bestWord_32 : decode cX9_bestWord 32 = .ok (.aload_n 0, 1) := by decide +kernel
theorem dX9_bestWord_33 : decode cX9_bestWord 33 = .ok (.getfield 40, 3) := by decide +kernel
theorem dX9_bestWord_36 : decode cX9_bestWord 36 = .ok (.aload_n 0, 1) := by decide +kernel
theorem dX9_bestWord_37 : decode cX9_bestWord 37 = .ok (.getfield 19, 3) := by decide +kernel
theorem dX9_bestWord_40 : decode cX9_bestWord 40 = .ok (.iload_n 2, 1) := by decide +kernel
theorem dX9_bestWord_41 : decode cX9_bestWord 41 = .ok (.invokevirtual 197, 3) := by decide +kernel
theorem dX9_bestWord_44 : decode cX9_bestWord 44 = .ok (.ireturn, 1) := by decide +kernel
theorem dX9_rests_0 : decode cX9_rests 0 = .ok (.iload_n 1, 1) := by decide +kernel
theorem dX9_rests_1 : decode cX9_rests 1 = .ok (.ifCond .lt 8, 3) := by decide +kernel
theorem dX9_rests_4 : decode cX9_rests 4 = .ok (.iload_n 1, 1) := by decide +kernel
theorem dX9_rests_5 : decode cX9_rests 5 = .ok (.iconst 4, 1) := by decide +kernel
theorem dX9_rests_6 : decode cX9_rests 6 = .ok (.if_icmp .le 6, 3) := by decide +kernel
theorem dX9_rests_9 : decode cX9_rests 9 = .ok (.bipush (-2), 2) := by decide +kernel
theorem dX9_rests_11 : decode cX9_rests 11 = .ok (.ireturn, 1) := by decide +kernel
theorem dX9_rests_12 : decode cX9_rests 12 = .ok (.aload_n 0, 1) := by decide +kernel
theorem dX9_rests_13 : decode cX9_rests 13 = .ok (.getfield 47, 3) := by decide +kernel
theorem dX9_rests_16 : decode cX9_rests 16 = .ok (.aload_n 0, 1) := by decide +kernel
theorem dX9_rests_17 : decode cX9_rests 17 = .ok (.getfield 19, 3) := by decide +kernel
theorem dX9_rests_20 : decode cX9_rests 20 = .ok (.invokevirtual 200, 3) := by decide +kernel
theorem dX9_rests_23 : decode cX9_rests 23 = .ok (.iload_n 1, 1) := by decide +kernel
theorem dX9_rests_24 : decode cX9_rests 24 = .ok (.lookupswitch 52 #[(0, 28), (4, 36)], 28) := by decide +kernel
theorem dX9_rests_52 : decode cX9_rests 52 = .ok (.aload_n 0, 1) := by decide +kernel
theorem dX9_rests_53 : decode cX9_rests 53 = .ok (.getfield 47, 3) := by decide +kernel
theorem dX9_rests_56 : decode cX9_rests 56 = .ok (.getfield 203, 3) := by decide +kernel
theorem dX9_rests_59 : decode cX9_rests 59 = .ok (.ireturn, 1) := by decide +kernel
theorem dX9_rests_60 : decode cX9_rests 60 = .ok (.aload_n 0, 1) := by decide +kernel
theorem dX9_rests_61 : decode cX9_rests 61 = .ok (.getfield 47, 3) := by decide +kernel
theorem dX9_rests_64 : decode cX9_rests 64 = .ok (.getfield 203, 3) := by decide +kernel
theorem dX9_rests_67 : decode cX9_rests 67 = .ok (.ifCond .le 7, 3) := by decide +kernel
theorem dX9_rests_70 : decode cX9_rests 70 = .ok (.iconst 1, 1) := by decide +kernel
theorem dX9_rests_71 : decode cX9_rests 71 = .ok (.goto 4, 3) := by decide +kernel
theorem dX9_rests_74 : decode cX9_rests 74 = .ok (.iconst 0, 1) := by decide +kernel
theorem dX9_rests_75 : decode cX9_rests 75 = .ok (.ireturn, 1) := by decide +kernel
theorem dX9_rests_76 : decode cX9_rests 76 = .ok (.aload_n 0, 1) := by decide +kernel
theorem dX9_rests_77 : decode cX9_rests 77 = .ok (.getfield 47, 3) := by decide +kernel
theorem dX9_rests_80 : decode cX9_rests 80 = .ok (.iload_n 1, 1) := by decide +kernel
theorem dX9_rests_81 : decode cX9_rests 81 = .ok (.iconst 1, 1) := by decide +kernel
theorem dX9_rests_82 : decode cX9_rests 82 = .ok (.isub, 1) := by decide +kernel
theorem dX9_rests_83 : decode cX9_rests 83 = .ok (.invokevirtual 206, 3) := by decide +kernel
theorem dX9_rests_86 : decode cX9_rests 86 = .ok (.ireturn, 1) := by decide +kernel
theorem dX9_sight_0 : decode cX9_sight 0 = .ok (.aload_n 0, 1) := by decide +kernel
theorem dX9_sight_1 : decode cX9_sight 1 = .ok (.getfield 19, 3) := by decide +kernel
theorem dX9_sight_4 : decode cX9_sight 4 = .ok (.iload_n 1, 1) := by decide +kernel
theorem dX9_sight_5 : decode cX9_sight 5 = .ok (.invokevirtual 97, 3) := by decide +kernel
theorem dX9_sight_8 : decode cX9_sight 8 = .ok (.ifCond .ne 5, 3) := by decide +kernel
theorem dX9_sight_11 : decode cX9_sight 11 = .ok (.iconst (-1), 1) := by decide +kernel
theorem dX9_sight_12 : decode cX9_sight 12 = .ok (.ireturn, 1) := by decide +kernel
theorem dX9_sight_13 : decode cX9_sight 13 = .ok (.iload_n 2, 1) := by decide +kernel
theorem dX9_sight_14 : decode cX9_sight 14 = .ok (.ifCond .lt 9, 3) := by decide +kernel
theorem dX9_sight_17 : decode cX9_sight 17 = .ok (.iload_n 2, 1) := by decide +kernel
theorem dX9_sight_18 : decode cX9_sight 18 = .ok (.bipush 8, 2) := by decide +kernel
theorem dX9_sight_20 : decode cX9_sight 20 = .ok (.if_icmp .le 6, 3) := by decide +kernel
theorem dX9_sight_23 : decode cX9_sight 23 = .ok (.bipush (-2), 2) := by decide +kernel
theorem dX9_sight_25 : decode cX9_sight 25 = .ok (.ireturn, 1) := by decide +kernel
theorem dX9_sight_26 : decode cX9_sight 26 = .ok (.aload_n 0, 1) := by decide +kernel
theorem dX9_sight_27 : decode cX9_sight 27 = .ok (.getfield 54, 3) := by decide +kernel
theorem dX9_sight_30 : decode cX9_sight 30 = .ok (.iload_n 1, 1) := by decide +kernel
theorem dX9_sight_31 : decode cX9_sight 31 = .ok (.iload_n 2, 1) := by decide +kernel
theorem dX9_sight_32 : decode cX9_sight 32 = .ok (.iload_n 3, 1) := by decide +kernel
theorem dX9_sight_33 : decode cX9_sight 33 = .ok (.invokevirtual 209, 3) := by decide +kernel
theorem dX9_sight_36 : decode cX9_sight 36 = .ok (.ifCond .eq 13, 3) := by decide +kernel
theorem dX9_sight_39 : decode cX9_sight 39 = .ok (.aload_n 0, 1) := by decide +kernel
theorem dX9_sight_40 : decode cX9_sight 40 = .ok (.getfield 54, 3) := by decide +kernel
theorem dX9_sight_43 : decode cX9_sight 43 = .ok (.getfield 212, 3) := by decide +kernel
theorem dX9_sight_46 : decode cX9_sight 46 = .ok (.goto 5, 3) := by decide +kernel
theorem dX9_sight_49 : decode cX9_sight 49 = .ok (.bipush (-4), 2) := by decide +kernel
theorem dX9_sight_51 : decode cX9_sight 51 = .ok (.ireturn, 1) := by decide +kernel
theorem dX9_unsight_0 : decode cX9_unsight 0 = .ok (.aload_n 0, 1) := by decide +kernel
theorem dX9_unsight_1 : decode cX9_unsight 1 = .ok (.getfield 54, 3) := by decide +kernel
theorem dX9_unsight_4 : decode cX9_unsight 4 = .ok (.getfield 212, 3) := by decide +kernel
theorem dX9_unsight_7 : decode cX9_unsight 7 = .ok (.istore_n 1, 1) := by decide +kernel
theorem dX9_unsight_8 : decode cX9_unsight 8 = .ok (.aload_n 0, 1) := by decide +kernel
theorem dX9_unsight_9 : decode cX9_unsight 9 = .ok (.getfield 54, 3) := by decide +kernel
theorem dX9_unsight_12 : decode cX9_unsight 12 = .ok (.iconst 0, 1) := by decide +kernel
theorem dX9_unsight_13 : decode cX9_unsight 13 = .ok (.putfield 212, 3) := by decide +kernel
theorem dX9_unsight_16 : decode cX9_unsight 16 = .ok (.iload_n 1, 1) := by decide +kernel
theorem dX9_unsight_17 : decode cX9_unsight 17 = .ok (.ireturn, 1) := by decide +kernel
theorem dX9_worlds_0 : decode cX9_worlds 0 = .ok (.iload_n 1, 1) := by decide +kernel
theorem dX9_worlds_1 : decode cX9_worlds 1 = .ok (.ifCond .lt 8, 3) := by decide +kernel
theorem dX9_worlds_4 : decode cX9_worlds 4 = .ok (.iload_n 1, 1) := by decide +kernel
theorem dX9_worlds_5 : decode cX9_worlds 5 = .ok (.iconst 2, 1) := by decide +kernel
theorem dX9_worlds_6 : decode cX9_worlds 6 = .ok (.if_icmp .le 6, 3) := by decide +kernel
theorem dX9_worlds_9 : decode cX9_worlds 9 = .ok (.bipush (-2), 2) := by decide +kernel
theorem dX9_worlds_11 : decode cX9_worlds 11 = .ok (.ireturn, 1) := by decide +kernel
theorem dX9_worlds_12 : decode cX9_worlds 12 = .ok (.aload_n 0, 1) := by decide +kernel
theorem dX9_worlds_13 : decode cX9_worlds 13 = .ok (.getfield 54, 3) := by decide +kernel
theorem dX9_worlds_16 : decode cX9_worlds 16 = .ok (.aload_n 0, 1) := by decide +kernel
theorem dX9_worlds_17 : decode cX9_worlds 17 = .ok (.getfield 19, 3) := by decide +kernel
theorem dX9_worlds_20 : decode cX9_worlds 20 = .ok (.invokevirtual 213, 3) := by decide +kernel
theorem dX9_worlds_23 : decode cX9_worlds 23 = .ok (.iload_n 1, 1) := by decide +kernel
theorem dX9_worlds_24 : decode cX9_worlds 24 = .ok (.ifCond .ne 11, 3) := by decide +kernel
theorem dX9_worlds_27 : decode cX9_worlds 27 = .ok (.aload_n 0, 1) := by decide +kernel
theorem dX9_worlds_28 : decode cX9_worlds 28 = .ok (.getfield 54, 3) := by decide +kernel
theorem dX9_worlds_31 : decode cX9_worlds 31 = .ok (.getfield 216, 3) := by decide +kernel
theorem dX9_worlds_34 : decode cX9_worlds 34 = .ok (.ireturn, 1) := by decide +kernel
theorem dX9_worlds_35 : decode cX9_worlds 35 = .ok (.aload_n 0, 1) := by decide +kernel
theorem dX9_worlds_36 : decode cX9_worlds 36 = .ok (.getfield 54, 3) := by decide +kernel
theorem dX9_worlds_39 : decode cX9_worlds 39 = .ok (.getfield 216, 3) := by decide +kernel
theorem dX9_worlds_42 : decode cX9_worlds 42 = .ok (.ifCond .ne 6, 3) := by decide +kernel
theorem dX9_worlds_45 : decode cX9_worlds 45 = .ok (.bipush (-9), 2) := by decide +kernel
theorem dX9_worlds_47 : decode cX9_worlds 47 = .ok (.ireturn, 1) := by decide +kernel
theorem dX9_worlds_48 : decode cX9_worlds 48 = .ok (.iload_n 1, 1) := by decide +kernel
theorem dX9_worlds_49 : decode cX9_worlds 49 = .ok (.iconst 1, 1) := by decide +kernel
theorem dX9_worlds_50 : decode cX9_worlds 50 = .ok (.if_icmp .ne 13, 3) := by decide +kernel
theorem dX9_worlds_53 : decode cX9_worlds 53 = .ok (.aload_n 0, 1) := by decide +kernel
theorem dX9_worlds_54 : decode cX9_worlds 54 = .ok (.getfield 54, 3) := by decide +kernel
theorem dX9_worlds_57 : decode cX9_worlds 57 = .ok (.getfield 219, 3) := by decide +kernel
theorem dX9_worlds_60 : decode cX9_worlds 60 = .ok (.goto 10, 3) := by decide +kernel
theorem dX9_worlds_63 : decode cX9_worlds 63 = .ok (.aload_n 0, 1) := by decide +kernel
theorem dX9_worlds_64 : decode cX9_worlds 64 = .ok (.getfield 54, 3) := by decide +kernel
theorem dX9_worlds_67 : decode cX9_worlds 67 = .ok (.getfield 222, 3) := by decide +kernel
theorem dX9_worlds_70 : decode cX9_worlds 70 = .ok (.ireturn, 1) := by decide +kernel
theorem dX9_toSeek_0 : decode cX9_toSeek 0 = .ok (.aload_n 0, 1) := by decide +kernel
theorem dX9_toSeek_1 : decode cX9_toSeek 1 = .ok (.getfield 54, 3) := by decide +kernel
theorem dX9_toSeek_4 : decode cX9_toSeek 4 = .ok (.aload_n 0, 1) := by decide +kernel
theorem dX9_toSeek_5 : decode cX9_toSeek 5 = .ok (.getfield 19, 3) := by decide +kernel
theorem dX9_toSeek_8 : decode cX9_toSeek 8 = .ok (.invokevirtual 213, 3) := by decide +kernel
theorem dX9_toSeek_11 : decode cX9_toSeek 11 = .ok (.aload_n 0, 1) := by decide +kernel
theorem dX9_toSeek_12 : decode cX9_toSeek 12 = .ok (.getfield 54, 3) := by decide +kernel
theorem dX9_toSeek_15 : decode cX9_toSeek 15 = .ok (.aload_n 0, 1) := by decide +kernel
theorem dX9_toSeek_16 : decode cX9_toSeek 16 = .ok (.getfield 19, 3) := by decide +kernel
theorem dX9_toSeek_19 : decode cX9_toSeek 19 = .ok (.invokevirtual 225, 3) := by decide +kernel
theorem dX9_toSeek_22 : decode cX9_toSeek 22 = .ok (.ireturn, 1) := by decide +kernel
theorem dX9_byTurns_0 : decode cX9_byTurns 0 = .ok (.iload_n 1, 1) := by decide +kernel
theorem dX9_byTurns_1 : decode cX9_byTurns 1 = .ok (.ifCond .lt 17, 3) := by decide +kernel
theorem dX9_byTurns_4 : decode cX9_byTurns 4 = .ok (.iload_n 1, 1) := by decide +kernel
theorem dX9_byTurns_5 : decode cX9_byTurns 5 = .ok (.iconst 4, 1) := by decide +kernel
theorem dX9_byTurns_6 : decode cX9_byTurns 6 = .ok (.if_icmp .gt 12, 3) := by decide +kernel
theorem dX9_byTurns_9 : decode cX9_byTurns 9 = .ok (.iload_n 2, 1) := by decide +kernel
theorem dX9_byTurns_10 : decode cX9_byTurns 10 = .ok (.ifCond .lt 8, 3) := by decide +kernel
theorem dX9_byTurns_13 : decode cX9_byTurns 13 = .ok (.iload_n 2, 1) := by decide +kernel
theorem dX9_byTurns_14 : decode cX9_byTurns 14 = .ok (.iconst 1, 1) := by decide +kernel
theorem dX9_byTurns_15 : decode cX9_byTurns 15 = .ok (.if_icmp .le 6, 3) := by decide +kernel
theorem dX9_byTurns_18 : decode cX9_byTurns 18 = .ok (.bipush (-2), 2) := by decide +kernel
theorem dX9_byTurns_20 : decode cX9_byTurns 20 = .ok (.ireturn, 1) := by decide +kernel
theorem dX9_byTurns_21 : decode cX9_byTurns 21 = .ok (.aload_n 0, 1) := by decide +kernel
theorem dX9_byTurns_22 : decode cX9_byTurns 22 = .ok (.getfield 61, 3) := by decide +kernel
theorem dX9_byTurns_25 : decode cX9_byTurns 25 = .ok (.aload_n 0, 1) := by decide +kernel
theorem dX9_byTurns_26 : decode cX9_byTurns 26 = .ok (.getfield 19, 3) := by decide +kernel
theorem dX9_byTurns_29 : decode cX9_byTurns 29 = .ok (.iload_n 1, 1) := by decide +kernel
theorem dX9_byTurns_30 : decode cX9_byTurns 30 = .ok (.invokevirtual 228, 3) := by decide +kernel
theorem dX9_byTurns_33 : decode cX9_byTurns 33 = .ok (.iload_n 2, 1) := by decide +kernel
theorem dX9_byTurns_34 : decode cX9_byTurns 34 = .ok (.ifCond .ne 17, 3) := by decide +kernel
theorem dX9_byTurns_37 : decode cX9_byTurns 37 = .ok (.aload_n 0, 1) := by decide +kernel
theorem dX9_byTurns_38 : decode cX9_byTurns 38 = .ok (.getfield 61, 3) := by decide +kernel
theorem dX9_byTurns_41 : decode cX9_byTurns 41 = .ok (.getfield 231, 3) := by decide +kernel
theorem dX9_byTurns_44 : decode cX9_byTurns 44 = .ok (.sipush 1000, 3) := by decide +kernel
theorem dX9_byTurns_47 : decode cX9_byTurns 47 = .ok (.iadd, 1) := by decide +kernel
theorem dX9_byTurns_48 : decode cX9_byTurns 48 = .ok (.goto 10, 3) := by decide +kernel
theorem dX9_byTurns_51 : decode cX9_byTurns 51 = .ok (.aload_n 0, 1) := by decide +kernel
theorem dX9_byTurns_52 : decode cX9_byTurns 52 = .ok (.getfield 61, 3) := by decide +kernel
theorem dX9_byTurns_55 : decode cX9_byTurns 55 = .ok (.getfield 234, 3) := by decide +kernel
theorem dX9_byTurns_58 : decode cX9_byTurns 58 = .ok (.ireturn, 1) := by decide +kernel
theorem dX9_chance_0 : decode cX9_chance 0 = .ok (.aload_n 0, 1) := by decide +kernel
theorem dX9_chance_1 : decode cX9_chance 1 = .ok (.getfield 19, 3) := by decide +kernel
theorem dX9_chance_4 : decode cX9_chance 4 = .ok (.iload_n 1, 1) := by decide +kernel
theorem dX9_chance_5 : decode cX9_chance 5 = .ok (.invokevirtual 97, 3) := by decide +kernel
theorem dX9_chance_8 : decode cX9_chance 8 = .ok (.ifCond .ne 5, 3) := by decide +kernel
theorem dX9_chance_11 : decode cX9_chance 11 = .ok (.iconst (-1), 1) := by decide +kernel
theorem dX9_chance_12 : decode cX9_chance 12 = .ok (.ireturn, 1) := by decide +kernel
theorem dX9_chance_13 : decode cX9_chance 13 = .ok (.iload_n 2, 1) := by decide +kernel
theorem dX9_chance_14 : decode cX9_chance 14 = .ok (.ifCond .lt 9, 3) := by decide +kernel
theorem dX9_chance_17 : decode cX9_chance 17 = .ok (.iload_n 2, 1) := by decide +kernel
theorem dX9_chance_18 : decode cX9_chance 18 = .ok (.bipush 10, 2) := by decide +kernel
theorem dX9_chance_20 : decode cX9_chance 20 = .ok (.if_icmp .le 6, 3) := by decide +kernel
theorem dX9_chance_23 : decode cX9_chance 23 = .ok (.bipush (-2), 2) := by decide +kernel
theorem dX9_chance_25 : decode cX9_chance 25 = .ok (.ireturn, 1) := by decide +kernel
theorem dX9_chance_26 : decode cX9_chance 26 = .ok (.aload_n 0, 1) := by decide +kernel
theorem dX9_chance_27 : decode cX9_chance 27 = .ok (.getfield 68, 3) := by decide +kernel
theorem dX9_chance_30 : decode cX9_chance 30 = .ok (.aload_n 0, 1) := by decide +kernel
theorem dX9_chance_31 : decode cX9_chance 31 = .ok (.getfield 19, 3) := by decide +kernel
theorem dX9_chance_34 : decode cX9_chance 34 = .ok (.iload_n 1, 1) := by decide +kernel
theorem dX9_chance_35 : decode cX9_chance 35 = .ok (.iload_n 2, 1) := by decide +kernel
theorem dX9_chance_36 : decode cX9_chance 36 = .ok (.invokevirtual 237, 3) := by decide +kernel
theorem dX9_chance_39 : decode cX9_chance 39 = .ok (.iload_n 3, 1) := by decide +kernel
theorem dX9_chance_40 : decode cX9_chance 40 = .ok (.ifCond .eq 13, 3) := by decide +kernel
theorem dX9_chance_43 : decode cX9_chance 43 = .ok (.aload_n 0, 1) := by decide +kernel
theorem dX9_chance_44 : decode cX9_chance 44 = .ok (.getfield 68, 3) := by decide +kernel
theorem dX9_chance_47 : decode cX9_chance 47 = .ok (.getfield 240, 3) := by decide +kernel
theorem dX9_chance_50 : decode cX9_chance 50 = .ok (.goto 10, 3) := by decide +kernel
theorem dX9_chance_53 : decode cX9_chance 53 = .ok (.aload_n 0, 1) := by decide +kernel
theorem dX9_chance_54 : decode cX9_chance 54 = .ok (.getfield 68, 3) := by decide +kernel
theorem dX9_chance_57 : decode cX9_chance 57 = .ok (.getfield 243, 3) := by decide +kernel
theorem dX9_chance_60 : decode cX9_chance 60 = .ok (.ireturn, 1) := by decide +kernel
theorem dX9_seed_0 : decode cX9_seed 0 = .ok (.aload_n 0, 1) := by decide +kernel
theorem dX9_seed_1 : decode cX9_seed 1 = .ok (.getfield 68, 3) := by decide +kernel
theorem dX9_seed_4 : decode cX9_seed 4 = .ok (.getfield 246, 3) := by decide +kernel
theorem dX9_seed_7 : decode cX9_seed 7 = .ok (.lstore_n 3, 1) := by decide +kernel
theorem dX9_seed_8 : decode cX9_seed 8 = .ok (.aload_n 0, 1) := by decide +kernel
theorem dX9_seed_9 : decode cX9_seed 9 = .ok (.getfield 68, 3) := by decide +kernel
theorem dX9_seed_12 : decode cX9_seed 12 = .ok (.lload_n 1, 1) := by decide +kernel
theorem dX9_seed_13 : decode cX9_seed 13 = .ok (.putfield 246, 3) := by decide +kernel
theorem dX9_seed_16 : decode cX9_seed 16 = .ok (.lload_n 3, 1) := by decide +kernel
theorem dX9_seed_17 : decode cX9_seed 17 = .ok (.lreturn, 1) := by decide +kernel
theorem dX9_years_0 : decode cX9_years 0 = .ok (.iload_n 1, 1) := by decide +kernel
theorem dX9_years_1 : decode cX9_years 1 = .ok (.iconst 1, 1) := by decide +kernel
theorem dX9_years_2 : decode cX9_years 2 = .ok (.if_icmp .lt 19, 3) := by decide +kernel
theorem dX9_years_5 : decode cX9_years 5 = .ok (.iload_n 1, 1) := by decide +kernel
theorem dX9_years_6 : decode cX9_years 6 = .ok (.bipush 30, 2) := by decide +kernel
theorem dX9_years_8 : decode cX9_years 8 = .ok (.if_icmp .gt 13, 3) := by decide +kernel
theorem dX9_years_11 : decode cX9_years 11 = .ok (.iload_n 2, 1) := by decide +kernel
theorem dX9_years_12 : decode cX9_years 12 = .ok (.ifCond .lt 9, 3) := by decide +kernel
theorem dX9_years_15 : decode cX9_years 15 = .ok (.iload_n 2, 1) := by decide +kernel
theorem dX9_years_16 : decode cX9_years 16 = .ok (.bipush 10, 2) := by decide +kernel
theorem dX9_years_18 : decode cX9_years 18 = .ok (.if_icmp .le 6, 3) := by decide +kernel
theorem dX9_years_21 : decode cX9_years 21 = .ok (.bipush (-2), 2) := by decide +kernel
theorem dX9_years_23 : decode cX9_years 23 = .ok (.ireturn, 1) := by decide +kernel
theorem dX9_years_24 : decode cX9_years 24 = .ok (.aload_n 0, 1) := by decide +kernel
theorem dX9_years_25 : decode cX9_years 25 = .ok (.getfield 68, 3) := by decide +kernel
theorem dX9_years_28 : decode cX9_years 28 = .ok (.aload_n 0, 1) := by decide +kernel
theorem dX9_years_29 : decode cX9_years 29 = .ok (.getfield 19, 3) := by decide +kernel
theorem dX9_years_32 : decode cX9_years 32 = .ok (.iload_n 1, 1) := by decide +kernel
theorem dX9_years_33 : decode cX9_years 33 = .ok (.iload_n 2, 1) := by decide +kernel
theorem dX9_years_34 : decode cX9_years 34 = .ok (.invokevirtual 250, 3) := by decide +kernel
theorem dX9_years_37 : decode cX9_years 37 = .ok (.ireturn, 1) := by decide +kernel
theorem dX9_keep_0 : decode cX9_keep 0 = .ok (.aload_n 0, 1) := by decide +kernel
theorem dX9_keep_1 : decode cX9_keep 1 = .ok (.iload_n 1, 1) := by decide +kernel
theorem dX9_keep_2 : decode cX9_keep 2 = .ok (.invokevirtual 254, 3) := by decide +kernel
theorem dX9_keep_5 : decode cX9_keep 5 = .ok (.astore_n 2, 1) := by decide +kernel
theorem dX9_keep_6 : decode cX9_keep 6 = .ok (.aload_n 2, 1) := by decide +kernel
theorem dX9_keep_7 : decode cX9_keep 7 = .ok (.ifnonnull 5, 3) := by decide +kernel
theorem dX9_keep_10 : decode cX9_keep 10 = .ok (.iconst (-1), 1) := by decide +kernel
theorem dX9_keep_11 : decode cX9_keep 11 = .ok (.ireturn, 1) := by decide +kernel
theorem dX9_keep_12 : decode cX9_keep 12 = .ok (.aload_n 2, 1) := by decide +kernel
theorem dX9_keep_13 : decode cX9_keep 13 = .ok (.aload_n 0, 1) := by decide +kernel
theorem dX9_keep_14 : decode cX9_keep 14 = .ok (.getfield 19, 3) := by decide +kernel
theorem dX9_keep_17 : decode cX9_keep 17 = .ok (.invokevirtual 162, 3) := by decide +kernel
theorem dX9_keep_20 : decode cX9_keep 20 = .ok (.aload_n 0, 1) := by decide +kernel
theorem dX9_keep_21 : decode cX9_keep 21 = .ok (.dup, 1) := by decide +kernel
theorem dX9_keep_22 : decode cX9_keep 22 = .ok (.getfield 91, 3) := by decide +kernel
theorem dX9_keep_25 : decode cX9_keep 25 = .ok (.iconst 1, 1) := by decide +kernel
theorem dX9_keep_26 : decode cX9_keep 26 = .ok (.iload_n 1, 1) := by decide +kernel
theorem dX9_keep_27 : decode cX9_keep 27 = .ok (.ishl, 1) := by decide +kernel
theorem dX9_keep_28 : decode cX9_keep 28 = .ok (.ior, 1) := by decide +kernel
theorem dX9_keep_29 : decode cX9_keep 29 = .ok (.putfield 91, 3) := by decide +kernel
theorem dX9_keep_32 : decode cX9_keep 32 = .ok (.aload_n 0, 1) := by decide +kernel
theorem dX9_keep_33 : decode cX9_keep 33 = .ok (.getfield 19, 3) := by decide +kernel
theorem dX9_keep_36 : decode cX9_keep 36 = .ok (.getfield 94, 3) := by decide +kernel
theorem dX9_keep_39 : decode cX9_keep 39 = .ok (.ireturn, 1) := by decide +kernel
theorem dX9_again_0 : decode cX9_again 0 = .ok (.aload_n 0, 1) := by decide +kernel
theorem dX9_again_1 : decode cX9_again 1 = .ok (.iload_n 1, 1) := by decide +kernel
theorem dX9_again_2 : decode cX9_again 2 = .ok (.invokevirtual 254, 3) := by decide +kernel
theorem dX9_again_5 : decode cX9_again 5 = .ok (.astore_n 2, 1) := by decide +kernel
theorem dX9_again_6 : decode cX9_again 6 = .ok (.aload_n 2, 1) := by decide +kernel
theorem dX9_again_7 : decode cX9_again 7 = .ok (.ifnonnull 5, 3) := by decide +kernel
theorem dX9_again_10 : decode cX9_again 10 = .ok (.iconst (-1), 1) := by decide +kernel
theorem dX9_again_11 : decode cX9_again 11 = .ok (.ireturn, 1) := by decide +kernel
theorem dX9_again_12 : decode cX9_again 12 = .ok (.aload_n 0, 1) := by decide +kernel
theorem dX9_again_13 : decode cX9_again 13 = .ok (.getfield 91, 3) := by decide +kernel
theorem dX9_again_16 : decode cX9_again 16 = .ok (.iload_n 1, 1) := by decide +kernel
theorem dX9_again_17 : decode cX9_again 17 = .ok (.invokestatic 173, 3) := by decide +kernel
theorem dX9_again_20 : decode cX9_again 20 = .ok (.ifCond .ne 6, 3) := by decide +kernel
theorem dX9_again_23 : decode cX9_again 23 = .ok (.bipush (-3), 2) := by decide +kernel
theorem dX9_again_25 : decode cX9_again 25 = .ok (.ireturn, 1) := by decide +kernel
theorem dX9_again_26 : decode cX9_again 26 = .ok (.aload_n 0, 1) := by decide +kernel
theorem dX9_again_27 : decode cX9_again 27 = .ok (.getfield 19, 3) := by decide +kernel
theorem dX9_again_30 : decode cX9_again 30 = .ok (.aload_n 2, 1) := by decide +kernel
theorem dX9_again_31 : decode cX9_again 31 = .ok (.invokevirtual 162, 3) := by decide +kernel
theorem dX9_again_34 : decode cX9_again 34 = .ok (.aload_n 0, 1) := by decide +kernel
theorem dX9_again_35 : decode cX9_again 35 = .ok (.getfield 29, 3) := by decide +kernel
theorem dX9_again_38 : decode cX9_again 38 = .ok (.invokevirtual 88, 3) := by decide +kernel
theorem dX9_again_41 : decode cX9_again 41 = .ok (.aload_n 0, 1) := by decide +kernel
theorem dX9_again_42 : decode cX9_again 42 = .ok (.getfield 19, 3) := by decide +kernel
theorem dX9_again_45 : decode cX9_again 45 = .ok (.getfield 94, 3) := by decide +kernel
theorem dX9_again_48 : decode cX9_again 48 = .ok (.ireturn, 1) := by decide +kernel
theorem dX9_count_0 : decode cX9_count 0 = .ok (.iload_n 1, 1) := by decide +kernel
theorem dX9_count_1 : decode cX9_count 1 = .ok (.tableswitch 147 0 10 #[59, 67, 75, 83, 91, 99, 107, 115, 123, 131, 139], 59) := by decide +kernel
theorem dX9_count_60 : decode cX9_count 60 = .ok (.aload_n 0, 1) := by decide +kernel
theorem dX9_count_61 : decode cX9_count 61 = .ok (.getfield 10, 3) := by decide +kernel
theorem dX9_count_64 : decode cX9_count 64 = .ok (.getfield 76, 3) := by decide +kernel
theorem dX9_count_67 : decode cX9_count 67 = .ok (.ireturn, 1) := by decide +kernel
theorem dX9_count_68 : decode cX9_count 68 = .ok (.aload_n 0, 1) := by decide +kernel
theorem dX9_count_69 : decode cX9_count 69 = .ok (.getfield 19, 3) := by decide +kernel
theorem dX9_count_72 : decode cX9_count 72 = .ok (.getfield 94, 3) := by decide +kernel
theorem dX9_count_75 : decode cX9_count 75 = .ok (.ireturn, 1) := by decide +kernel
theorem dX9_count_76 : decode cX9_count 76 = .ok (.aload_n 0, 1) := by decide +kernel
theorem dX9_count_77 : decode cX9_count 77 = .ok (.getfield 19, 3) := by decide +kernel
theorem dX9_count_80 : decode cX9_count 80 = .ok (.getfield 119, 3) := by decide +kernel
theorem dX9_count_83 : decode cX9_count 83 = .ok (.ireturn, 1) := by decide +kernel
theorem dX9_count_84 : decode cX9_count 84 = .ok (.aload_n 0, 1) := by decide +kernel
theorem dX9_count_85 : decode cX9_count 85 = .ok (.getfield 19, 3) := by decide +kernel
theorem dX9_count_88 : decode cX9_count 88 = .ok (.getfield 151, 3) := by decide +kernel
theorem dX9_count_91 : decode cX9_count 91 = .ok (.ireturn, 1) := by decide +kernel
theorem dX9_count_92 : decode cX9_count 92 = .ok (.aload_n 0, 1) := by decide +kernel
theorem dX9_count_93 : decode cX9_count 93 = .ok (.getfield 19, 3) := by decide +kernel
theorem dX9_count_96 : decode cX9_count 96 = .ok (.invokevirtual 122, 3) := by decide +kernel
theorem dX9_count_99 : decode cX9_count 99 = .ok (.ireturn, 1) := by decide +kernel
theorem dX9_count_100 : decode cX9_count 100 = .ok (.aload_n 0, 1) := by decide +kernel
theorem dX9_count_101 : decode cX9_count 101 = .ok (.getfield 19, 3) := by decide +kernel
theorem dX9_count_104 : decode cX9_count 104 = .ok (.invokevirtual 116, 3) := by decide +kernel
theorem dX9_count_107 : decode cX9_count 107 = .ok (.ireturn, 1) := by decide +kernel
theorem dX9_count_108 : decode cX9_count 108 = .ok (.aload_n 0, 1) := by decide +kernel
theorem dX9_count_109 : decode cX9_count 109 = .ok (.getfield 19, 3) := by decide +kernel
theorem dX9_count_112 : decode cX9_count 112 = .ok (.getfield 113, 3) := by decide +kernel
theorem dX9_count_115 : decode cX9_count 115 = .ok (.ireturn, 1) := by decide +kernel
theorem dX9_count_116 : decode cX9_count 116 = .ok (.aload_n 0, 1) := by decide +kernel
theorem dX9_count_117 : decode cX9_count 117 = .ok (.getfield 19, 3) := by decide +kernel
theorem dX9_count_120 : decode cX9_count 120 = .ok (.invokevirtual 258, 3) := by decide +kernel
theorem dX9_count_123 : decode cX9_count 123 = .ok (.ireturn, 1) := by decide +kernel
theorem dX9_count_124 : decode cX9_count 124 = .ok (.aload_n 0, 1) := by decide +kernel
theorem dX9_count_125 : decode cX9_count 125 = .ok (.getfield 19, 3) := by decide +kernel
theorem dX9_count_128 : decode cX9_count 128 = .ok (.getfield 107, 3) := by decide +kernel
theorem dX9_count_131 : decode cX9_count 131 = .ok (.ireturn, 1) := by decide +kernel
theorem dX9_count_132 : decode cX9_count 132 = .ok (.aload_n 0, 1) := by decide +kernel
theorem dX9_count_133 : decode cX9_count 133 = .ok (.getfield 29, 3) := by decide +kernel
theorem dX9_count_136 : decode cX9_count 136 = .ok (.getfield 158, 3) := by decide +kernel
theorem dX9_count_139 : decode cX9_count 139 = .ok (.ireturn, 1) := by decide +kernel
theorem dX9_count_140 : decode cX9_count 140 = .ok (.aload_n 0, 1) := by decide +kernel
theorem dX9_count_141 : decode cX9_count 141 = .ok (.getfield 54, 3) := by decide +kernel
theorem dX9_count_144 : decode cX9_count 144 = .ok (.getfield 212, 3) := by decide +kernel
theorem dX9_count_147 : decode cX9_count 147 = .ok (.ireturn, 1) := by decide +kernel
theorem dX9_count_148 : decode cX9_count 148 = .ok (.bipush (-2), 2) := by decide +kernel
theorem dX9_count_150 : decode cX9_count 150 = .ok (.ireturn, 1) := by decide +kernel
theorem dX9_slotAt_0 : decode cX9_slotAt 0 = .ok (.iload_n 1, 1) := by decide +kernel
theorem dX9_slotAt_1 : decode cX9_slotAt 1 = .ok (.ifCond .lt 21, 3) := by decide +kernel
theorem dX9_slotAt_4 : decode cX9_slotAt 4 = .ok (.iload_n 1, 1) := by decide +kernel
theorem dX9_slotAt_5 : decode cX9_slotAt 5 = .ok (.aload_n 0, 1) := by decide +kernel
theorem dX9_slotAt_6 : decode cX9_slotAt 6 = .ok (.getfield 33, 3) := by decide +kernel
theorem dX9_slotAt_9 : decode cX9_slotAt 9 = .ok (.arraylength, 1) := by decide +kernel
theorem dX9_slotAt_10 : decode cX9_slotAt 10 = .ok (.if_icmp .ge 12, 3) := by decide +kernel
theorem dX9_slotAt_13 : decode cX9_slotAt 13 = .ok (.aload_n 0, 1) := by decide +kernel
theorem dX9_slotAt_14 : decode cX9_slotAt 14 = .ok (.getfield 33, 3) := by decide +kernel
theorem dX9_slotAt_17 : decode cX9_slotAt 17 = .ok (.iload_n 1, 1) := by decide +kernel
theorem dX9_slotAt_18 : decode cX9_slotAt 18 = .ok (.aaload, 1) := by decide +kernel
theorem dX9_slotAt_19 : decode cX9_slotAt 19 = .ok (.goto 4, 3) := by decide +kernel
theorem dX9_slotAt_22 : decode cX9_slotAt 22 = .ok (.aconst_null, 1) := by decide +kernel
theorem dX9_slotAt_23 : decode cX9_slotAt 23 = .ok (.areturn, 1) := by decide +kernel
theorem dX9_holds_0 : decode cX9_holds 0 = .ok (.iload_n 1, 1) := by decide +kernel
theorem dX9_holds_1 : decode cX9_holds 1 = .ok (.ifCond .lt 22, 3) := by decide +kernel
theorem dX9_holds_4 : decode cX9_holds 4 = .ok (.iload_n 1, 1) := by decide +kernel
theorem dX9_holds_5 : decode cX9_holds 5 = .ok (.bipush 8, 2) := by decide +kernel
theorem dX9_holds_7 : decode cX9_holds 7 = .ok (.if_icmp .ge 16, 3) := by decide +kernel
theorem dX9_holds_10 : decode cX9_holds 10 = .ok (.iload_n 0, 1) := by decide +kernel
theorem dX9_holds_11 : decode cX9_holds 11 = .ok (.iload_n 1, 1) := by decide +kernel
theorem dX9_holds_12 : decode cX9_holds 12 = .ok (.ishr, 1) := by decide +kernel
theorem dX9_holds_13 : decode cX9_holds 13 = .ok (.iconst 1, 1) := by decide +kernel
theorem dX9_holds_14 : decode cX9_holds 14 = .ok (.iand, 1) := by decide +kernel
theorem dX9_holds_15 : decode cX9_holds 15 = .ok (.iconst 1, 1) := by decide +kernel
theorem dX9_holds_16 : decode cX9_holds 16 = .ok (.if_icmp .ne 7, 3) := by decide +kernel
theorem dX9_holds_19 : decode cX9_holds 19 = .ok (.iconst 1, 1) := by decide +kernel
theorem dX9_holds_20 : decode cX9_holds 20 = .ok (.goto 4, 3) := by decide +kernel
theorem dX9_holds_23 : decode cX9_holds 23 = .ok (.iconst 0, 1) := by decide +kernel
theorem dX9_holds_24 : decode cX9_holds 24 = .ok (.ireturn, 1) := by decide +kernel
theorem dX9_withoutLast_0 : decode cX9_withoutLast 0 = .ok (.iload_n 0, 1) := by decide +kernel
theorem dX9_withoutLast_1 : decode cX9_withoutLast 1 = .ok (.istore_n 2, 1) := by decide +kernel
theorem dX9_withoutLast_2 : decode cX9_withoutLast 2 = .ok (.iconst 0, 1) := by decide +kernel
theorem dX9_withoutLast_3 : decode cX9_withoutLast 3 = .ok (.istore_n 3, 1) := by decide +kernel
theorem dX9_withoutLast_4 : decode cX9_withoutLast 4 = .ok (.iload_n 3, 1) := by decide +kernel
theorem dX9_withoutLast_5 : decode cX9_withoutLast 5 = .ok (.iload_n 1, 1) := by decide +kernel
theorem dX9_withoutLast_6 : decode cX9_withoutLast 6 = .ok (.if_icmp .ge 14, 3) := by decide +kernel
theorem dX9_withoutLast_9 : decode cX9_withoutLast 9 = .ok (.iload_n 2, 1) := by decide +kernel
theorem dX9_withoutLast_10 : decode cX9_withoutLast 10 = .ok (.bipush 100, 2) := by decide +kernel
theorem dX9_withoutLast_12 : decode cX9_withoutLast 12 = .ok (.idiv, 1) := by decide +kernel
theorem dX9_withoutLast_13 : decode cX9_withoutLast 13 = .ok (.istore_n 2, 1) := by decide +kernel
theorem dX9_withoutLast_14 : decode cX9_withoutLast 14 = .ok (.iinc 3 1, 3) := by decide +kernel
theorem dX9_withoutLast_17 : decode cX9_withoutLast 17 = .ok (.goto (-13), 3) := by decide +kernel
theorem dX9_withoutLast_20 : decode cX9_withoutLast 20 = .ok (.iload_n 2, 1) := by decide +kernel
theorem dX9_withoutLast_21 : decode cX9_withoutLast 21 = .ok (.ireturn, 1) := by decide +kernel
theorem dX9_at_0 : decode cX9_at 0 = .ok (.aload_n 0, 1) := by decide +kernel
theorem dX9_at_1 : decode cX9_at 1 = .ok (.ifnull 19, 3) := by decide +kernel
theorem dX9_at_4 : decode cX9_at 4 = .ok (.iload_n 1, 1) := by decide +kernel
theorem dX9_at_5 : decode cX9_at 5 = .ok (.ifCond .lt 15, 3) := by decide +kernel
theorem dX9_at_8 : decode cX9_at 8 = .ok (.iload_n 1, 1) := by decide +kernel
theorem dX9_at_9 : decode cX9_at 9 = .ok (.aload_n 0, 1) := by decide +kernel
theorem dX9_at_10 : decode cX9_at 10 = .ok (.arraylength, 1) := by decide +kernel
theorem dX9_at_11 : decode cX9_at 11 = .ok (.if_icmp .ge 9, 3) := by decide +kernel
theorem dX9_at_14 : decode cX9_at 14 = .ok (.aload_n 0, 1) := by decide +kernel
theorem dX9_at_15 : decode cX9_at 15 = .ok (.iload_n 1, 1) := by decide +kernel
theorem dX9_at_16 : decode cX9_at 16 = .ok (.iaload, 1) := by decide +kernel
theorem dX9_at_17 : decode cX9_at 17 = .ok (.goto 4, 3) := by decide +kernel
theorem dX9_at_20 : decode cX9_at 20 = .ok (.iconst 0, 1) := by decide +kernel
theorem dX9_at_21 : decode cX9_at 21 = .ok (.ireturn, 1) := by decide +kernel
theorem dX9_put_0 : decode cX9_put 0 = .ok (.aload_n 0, 1) := by decide +kernel
theorem dX9_put_1 : decode cX9_put 1 = .ok (.ifnull 17, 3) := by decide +kernel
theorem dX9_put_4 : decode cX9_put 4 = .ok (.iload_n 1, 1) := by decide +kernel
theorem dX9_put_5 : decode cX9_put 5 = .ok (.ifCond .lt 13, 3) := by decide +kernel
theorem dX9_put_8 : decode cX9_put 8 = .ok (.iload_n 1, 1) := by decide +kernel
theorem dX9_put_9 : decode cX9_put 9 = .ok (.aload_n 0, 1) := by decide +kernel
theorem dX9_put_10 : decode cX9_put 10 = .ok (.arraylength, 1) := by decide +kernel
theorem dX9_put_11 : decode cX9_put 11 = .ok (.if_icmp .ge 7, 3) := by decide +kernel
theorem dX9_put_14 : decode cX9_put 14 = .ok (.aload_n 0, 1) := by decide +kernel
theorem dX9_put_15 : decode cX9_put 15 = .ok (.iload_n 1, 1) := by decide +kernel
theorem dX9_put_16 : decode cX9_put 16 = .ok (.iload_n 2, 1) := by decide +kernel
theorem dX9_put_17 : decode cX9_put 17 = .ok (.iastore, 1) := by decide +kernel
theorem dX9_put_18 : decode cX9_put 18 = .ok (.return_, 1) := by decide +kernel
theorem dX9_rowAt_0 : decode cX9_rowAt 0 = .ok (.aload_n 0, 1) := by decide +kernel
theorem dX9_rowAt_1 : decode cX9_rowAt 1 = .ok (.ifnull 19, 3) := by decide +kernel
theorem dX9_rowAt_4 : decode cX9_rowAt 4 = .ok (.iload_n 1, 1) := by decide +kernel
theorem dX9_rowAt_5 : decode cX9_rowAt 5 = .ok (.ifCond .lt 15, 3) := by decide +kernel
theorem dX9_rowAt_8 : decode cX9_rowAt 8 = .ok (.iload_n 1, 1) := by decide +kernel
theorem dX9_rowAt_9 : decode cX9_rowAt 9 = .ok (.aload_n 0, 1) := by decide +kernel
theorem dX9_rowAt_10 : decode cX9_rowAt 10 = .ok (.arraylength, 1) := by decide +kernel
theorem dX9_rowAt_11 : decode cX9_rowAt 11 = .ok (.if_icmp .ge 9, 3) := by decide +kernel
theorem dX9_rowAt_14 : decode cX9_rowAt 14 = .ok (.aload_n 0, 1) := by decide +kernel
theorem dX9_rowAt_15 : decode cX9_rowAt 15 = .ok (.iload_n 1, 1) := by decide +kernel
theorem dX9_rowAt_16 : decode cX9_rowAt 16 = .ok (.aaload, 1) := by decide +kernel
theorem dX9_rowAt_17 : decode cX9_rowAt 17 = .ok (.goto 4, 3) := by decide +kernel
theorem dX9_rowAt_20 : decode cX9_rowAt 20 = .ok (.aconst_null, 1) := by decide +kernel
theorem dX9_rowAt_21 : decode cX9_rowAt 21 = .ok (.areturn, 1) := by decide +kernel
theorem dX10_init_0 : decode cX10_init 0 = .ok (.aload_n 0, 1) := by decide +kernel
theorem dX10_init_1 : decode cX10_init 1 = .ok (.invokespecial 1, 3) := by decide +kernel
theorem dX10_init_4 : decode cX10_init 4 = .ok (.aload_n 0, 1) := by decide +kernel
theorem dX10_init_5 : decode cX10_init 5 = .ok (.bipush 28, 2) := by decide +kernel
theorem dX10_init_7 : decode cX10_init 7 = .ok (.newarray .int, 2) := by decide +kernel
theorem dX10_init_9 : decode cX10_init 9 = .ok (.putfield 7, 3) := by decide +kernel
theorem dX10_init_12 : decode cX10_init 12 = .ok (.aload_n 0, 1) := by decide +kernel
theorem dX10_init_13 : decode cX10_init 13 = .ok (.bipush 56, 2) := by decide +kernel
theorem dX10_init_15 : decode cX10_init 15 = .ok (.newarray .int, 2) := by decide +kernel
theorem dX10_init_17 : decode cX10_init 17 = .ok (.putfield 13, 3) := by decide +kernel
theorem dX10_init_20 : decode cX10_init 20 = .ok (.aload_n 0, 1) := by decide +kernel
theorem dX10_init_21 : decode cX10_init 21 = .ok (.sipush 224, 3) := by decide +kernel
theorem dX10_init_24 : decode cX10_init 24 = .ok (.newarray .int, 2) := by decide +kernel
theorem dX10_init_26 : decode cX10_init 26 = .ok (.putfield 16, 3) := by decide +kernel
theorem dX10_init_29 : decode cX10_init 29 = .ok (.aload_n 0, 1) := by decide +kernel
theorem dX10_init_30 : decode cX10_init 30 = .ok (.bipush 6, 2) := by decide +kernel
theorem dX10_init_32 : decode cX10_init 32 = .ok (.newarray .int, 2) := by decide +kernel
theorem dX10_init_34 : decode cX10_init 34 = .ok (.putfield 19, 3) := by decide +kernel
theorem dX10_init_37 : decode cX10_init 37 = .ok (.aload_n 0, 1) := by decide +kernel
theorem dX10_init_38 : decode cX10_init 38 = .ok (.bipush 6, 2) := by decide +kernel
theorem dX10_init_40 : decode cX10_init 40 = .ok (.newarray .int, 2) := by decide +kernel
theorem dX10_init_42 : decode cX10_init 42 = .ok (.putfield 22, 3) := by decide +kernel
theorem dX10_init_45 : decode cX10_init 45 = .ok (.aload_n 0, 1) := by decide +kernel
theorem dX10_init_46 : decode cX10_init 46 = .ok (.bipush 6, 2) := by decide +kernel
theorem dX10_init_48 : decode cX10_init 48 = .ok (.newarray .boolean, 2) := by decide +kernel
theorem dX10_init_50 : decode cX10_init 50 = .ok (.putfield 25, 3) := by decide +kernel
theorem dX10_init_53 : decode cX10_init 53 = .ok (.aload_n 0, 1) := by decide +kernel
theorem dX10_init_54 : decode cX10_init 54 = .ok (.bipush 8, 2) := by decide +kernel
theorem dX10_init_56 : decode cX10_init 56 = .ok (.newarray .int, 2) := by decide +kernel
theorem dX10_init_58 : decode cX10_init 58 = .ok (.putfield 29, 3) := by decide +kernel
theorem dX10_init_61 : decode cX10_init 61 = .ok (.aload_n 0, 1) := by decide +kernel
theorem dX10_init_62 : decode cX10_init 62 = .ok (.bipush 6, 2) := by decide +kernel
theorem dX10_init_64 : decode cX10_init 64 = .ok (.newarray .int, 2) := by decide +kernel
theorem dX10_init_66 : decode cX10_init 66 = .ok (.putfield 32, 3) := by decide +kernel
theorem dX10_init_69 : decode cX10_init 69 = .ok (.aload_n 0, 1) := by decide +kernel
theorem dX10_init_70 : decode cX10_init 70 = .ok (.bipush 6, 2) := by decide +kernel
theorem dX10_init_72 : decode cX10_init 72 = .ok (.newarray .int, 2) := by decide +kernel
theorem dX10_init_74 : decode cX10_init 74 = .ok (.putfield 35, 3) := by decide +kernel
theorem dX10_init_77 : decode cX10_init 77 = .ok (.aload_n 0, 1) := by decide +kernel
theorem dX10_init_78 : decode cX10_init 78 = .ok (.bipush 6, 2) := by decide +kernel
theorem dX10_init_80 : decode cX10_init 80 = .ok (.newarray .int, 2) := by decide +kernel
theorem dX10_init_82 : decode cX10_init 82 = .ok (.putfield 38, 3) := by decide +kernel
theorem dX10_init_85 : decode cX10_init 85 = .ok (.aload_n 0, 1) := by decide +kernel
theorem dX10_init_86 : decode cX10_init 86 = .ok (.bipush 6, 2) := by decide +kernel
theorem dX10_init_88 : decode cX10_init 88 = .ok (.newarray .int, 2) := by decide +kernel
theorem dX10_init_90 : decode cX10_init 90 = .ok (.putfield 41, 3) := by decide +kernel
theorem dX10_init_93 : decode cX10_init 93 = .ok (.aload_n 0, 1) := by decide +kernel
theorem dX10_init_94 : decode cX10_init 94 = .ok (.bipush 6, 2) := by decide +kernel
theorem dX10_init_96 : decode cX10_init 96 = .ok (.newarray .int, 2) := by decide +kernel
theorem dX10_init_98 : decode cX10_init 98 = .ok (.putfield 44, 3) := by decide +kernel
theorem dX10_init_101 : decode cX10_init 101 = .ok (.aload_n 0, 1) := by decide +kernel
theorem dX10_init_102 : decode cX10_init 102 = .ok (.bipush 6, 2) := by decide +kernel
theorem dX10_init_104 : decode cX10_init 104 = .ok (.newarray .int, 2) := by decide +kernel
theorem dX10_init_106 : decode cX10_init 106 = .ok (.putfield 47, 3) := by decide +kernel
theorem dX10_init_109 : decode cX10_init 109 = .ok (.aload_n 0, 1) := by decide +kernel
theorem dX10_init_110 : decode cX10_init 110 = .ok (.iconst 2, 1) := by decide +kernel
theorem dX10_init_111 : decode cX10_init 111 = .ok (.newarray .boolean, 2) := by decide +kernel
theorem dX10_init_113 : decode cX10_init 113 = .ok (.putfield 50, 3) := by decide +kernel
theorem dX10_init_116 : decode cX10_init 116 = .ok (.aload_n 0, 1) := by decide +kernel
theorem dX10_init_117 : decode cX10_init 117 = .ok (.bipush 28, 2) := by decide +kernel
theorem dX10_init_119 : decode cX10_init 119 = .ok (.newarray .int, 2) := by decide +kernel
theorem dX10_init_121 : decode cX10_init 121 = .ok (.putfield 53, 3) := by decide +kernel
theorem dX10_init_124 : decode cX10_init 124 = .ok (.aload_n 0, 1) := by decide +kernel
theorem dX10_init_125 : decode cX10_init 125 = .ok (.getfield 7, 3) := by decide +kernel
theorem dX10_init_128 : decode cX10_init 128 = .ok (.bipush 11, 2) := by decide +kernel
theorem dX10_init_130 : decode cX10_init 130 = .ok (.iconst 4, 1) := by decide +kernel
theorem dX10_init_131 : decode cX10_init 131 = .ok (.iastore, 1) := by decide +kernel
theorem dX10_init_132 : decode cX10_init 132 = .ok (.return_, 1) := by decide +kernel
theorem dX10_in_0 : decode cX10_in 0 = .ok (.lload_n 0, 1) := by decide +kernel
theorem dX10_in_1 : decode cX10_in 1 = .ok (.lload_n 2, 1) := by decide +kernel
theorem dX10_in_2 : decode cX10_in 2 = .ok (.lcmp, 1) := by decide +kernel
theorem dX10_in_3 : decode cX10_in 3 = .ok (.ifCond .lt 14, 3) := by decide +kernel
theorem dX10_in_6 : decode cX10_in 6 = .ok (.lload_n 0, 1) := by decide +kernel
theorem dX10_in_7 : decode cX10_in 7 = .ok (.lload 4, 2) := by decide +kernel
theorem dX10_in_9 : decode cX10_in 9 = .ok (.lcmp, 1) := by decide +kernel
theorem dX10_in_10 : decode cX10_in 10 = .ok (.ifCond .gt 7, 3) := by decide +kernel
theorem dX10_in_13 : decode cX10_in 13 = .ok (.iconst 1, 1) := by decide +kernel
theorem dX10_in_14 : decode cX10_in 14 = .ok (.goto 4, 3) := by decide +kernel
theorem dX10_in_17 : decode cX10_in 17 = .ok (.iconst 0, 1) := by decide +kernel
theorem dX10_in_18 : decode cX10_in 18 = .ok (.ireturn, 1) := by decide +kernel
theorem dX10_has_0 : decode cX10_has 0 = .ok (.iload_n 0, 1) := by decide +kernel
theorem dX10_has_1 : decode cX10_has 1 = .ok (.iload_n 1, 1) := by decide +kernel
theorem dX10_has_2 : decode cX10_has 2 = .ok (.ishr, 1) := by decide +kernel
theorem dX10_has_3 : decode cX10_has 3 = .ok (.iconst 1, 1) := by decide +kernel
theorem dX10_has_4 : decode cX10_has 4 = .ok (.iand, 1) := by decide +kernel
theorem dX10_has_5 : decode cX10_has 5 = .ok (.iconst 1, 1) := by decide +kernel
theorem dX10_has_6 : decode cX10_has 6 = .ok (.if_icmp .ne 7, 3) := by decide +kernel
theorem dX10_has_9 : decode cX10_has 9 = .ok (.iconst 1, 1) := by decide +kernel
theorem dX10_has_10 : decode cX10_has 10 = .ok (.goto 4, 3) := by decide +kernel
theorem dX10_has_13 : decode cX10_has 13 = .ok (.iconst 0, 1) := by decide +kernel
theorem dX10_has_14 : decode cX10_has 14 = .ok (.ireturn, 1) := by decide +kernel
theorem dX10_ones_0 : decode cX10_ones 0 = .ok (.iconst 0, 1) := by decide +kernel
theorem dX10_ones_1 : decode cX10_ones 1 = .ok (.istore_n 1, 1) := by decide +kernel
theorem dX10_ones_2 : decode cX10_ones 2 = .ok (.iconst 0, 1) := by decide +kernel
theorem dX10_ones_3 : decode cX10_ones 3 = .ok (.istore_n 2, 1) := by decide +kernel
theorem dX10_ones_4 : decode cX10_ones 4 = .ok (.iload_n 2, 1) := by decide +kernel
theorem dX10_ones_5 : decode cX10_ones 5 = .ok (.bipush 8, 2) := by decide +kernel
theorem dX10_ones_7 : decode cX10_ones 7 = .ok (.if_icmp .ge 17, 3) := by decide +kernel
theorem dX10_ones_10 : decode cX10_ones 10 = .ok (.iload_n 1, 1) := by decide +kernel
theorem dX10_ones_11 : decode cX10_ones 11 = .ok (.iload_n 0, 1) := by decide +kernel
theorem dX10_ones_12 : decode cX10_ones 12 = .ok (.iload_n 2, 1) := by decide +kernel
theorem dX10_ones_13 : decode cX10_ones 13 = .ok (.ishr, 1) := by decide +kernel
theorem dX10_ones_14 : decode cX10_ones 14 = .ok (.iconst 1, 1) := by decide +kernel
theorem dX10_ones_15 : decode cX10_ones 15 = .ok (.iand, 1) := by decide +kernel
theorem dX10_ones_16 : decode cX10_ones 16 = .ok (.iadd, 1) := by decide +kernel
theorem dX10_ones_17 : decode cX10_ones 17 = .ok (.istore_n 1, 1) := by decide +kernel
theorem dX10_ones_18 : decode cX10_ones 18 = .ok (.iinc 2 1, 3) := by decide +kernel
theorem dX10_ones_21 : decode cX10_ones 21 = .ok (.goto (-17), 3) := by decide +kernel
theorem dX10_ones_24 : decode cX10_ones 24 = .ok (.iload_n 1, 1) := by decide +kernel
theorem dX10_ones_25 : decode cX10_ones 25 = .ok (.ireturn, 1) := by decide +kernel
theorem dX10_write_0 : decode cX10_write 0 = .ok (.iload_n 1, 1) := by decide +kernel
theorem dX10_write_1 : decode cX10_write 1 = .ok (.i2l, 1) := by decide +kernel
theorem dX10_write_2 : decode cX10_write 2 = .ok (.lconst 0, 1) := by decide +kernel
theorem dX10_write_3 : decode cX10_write 3 = .ok (.ldc2_w 56, 3) := by decide +kernel
theorem dX10_write_6 : decode cX10_write 6 = .ok (.invokestatic 58, 3) := by decide +kernel
theorem dX10_write_9 : decode cX10_write 9 = .ok (.ifCond .ne 6, 3) := by decide +kernel
theorem dX10_write_12 : decode cX10_write 12 = .ok (.bipush (-2), 2) := by decide +kernel
theorem dX10_write_14 : decode cX10_write 14 = .ok (.ireturn, 1) := by decide +kernel
theorem dX10_write_15 : decode cX10_write 15 = .ok (.aload_n 0, 1) := by decide +kernel
theorem dX10_write_16 : decode cX10_write 16 = .ok (.getfield 62, 3) := by decide +kernel
theorem dX10_write_19 : decode cX10_write 19 = .ok (.bipush 56, 2) := by decide +kernel
theorem dX10_write_21 : decode cX10_write 21 = .ok (.if_icmp .ne 6, 3) := by decide +kernel
theorem dX10_write_24 : decode cX10_write 24 = .ok (.bipush (-4), 2) := by decide +kernel
theorem dX10_write_26 : decode cX10_write 26 = .ok (.ireturn, 1) := by decide +kernel
theorem dX10_write_27 : decode cX10_write 27 = .ok (.aload_n 0, 1) := by decide +kernel
theorem dX10_write_28 : decode cX10_write 28 = .ok (.getfield 13, 3) := by decide +kernel
theorem dX10_write_31 : decode cX10_write 31 = .ok (.aload_n 0, 1) := by decide +kernel
theorem dX10_write_32 : decode cX10_write 32 = .ok (.getfield 62, 3) := by decide +kernel
theorem dX10_write_35 : decode cX10_write 35 = .ok (.iload_n 1, 1) := by decide +kernel
theorem dX10_write_36 : decode cX10_write 36 = .ok (.iastore, 1) := by decide +kernel
theorem dX10_write_37 : decode cX10_write 37 = .ok (.aload_n 0, 1) := by decide +kernel
theorem dX10_write_38 : decode cX10_write 38 = .ok (.dup, 1) := by decide +kernel
theorem dX10_write_39 : decode cX10_write 39 = .ok (.getfield 62, 3) := by decide +kernel
theorem dX10_write_42 : decode cX10_write 42 = .ok (.iconst 1, 1) := by decide +kernel
theorem dX10_write_43 : decode cX10_write 43 = .ok (.iadd, 1) := by decide +kernel
theorem dX10_write_44 : decode cX10_write 44 = .ok (.putfield 62, 3) := by decide +kernel
theorem dX10_write_47 : decode cX10_write 47 = .ok (.aload_n 0, 1) := by decide +kernel
theorem dX10_write_48 : decode cX10_write 48 = .ok (.getfield 62, 3) := by decide +kernel
theorem dX10_write_51 : decode cX10_write 51 = .ok (.ireturn, 1) := by decide +kernel
theorem dX10_wipe_0 : decode cX10_wipe 0 = .ok (.aload_n 0, 1) := by decide +kernel
theorem dX10_wipe_1 : decode cX10_wipe 1 = .ok (.getfield 62, 3) := by decide +kernel
theorem dX10_wipe_4 : decode cX10_wipe 4 = .ok (.istore_n 1, 1) := by decide +kernel
theorem dX10_wipe_5 : decode cX10_wipe 5 = .ok (.aload_n 0, 1) := by decide +kernel
theorem dX10_wipe_6 : decode cX10_wipe 6 = .ok (.iconst 0, 1) := by decide +kernel
theorem dX10_wipe_7 : decode cX10_wipe 7 = .ok (.putfield 62, 3) := by decide +kernel
theorem dX10_wipe_10 : decode cX10_wipe 10 = .ok (.iload_n 1, 1) := by decide +kernel
theorem dX10_wipe_11 : decode cX10_wipe 11 = .ok (.ireturn, 1) := by decide +kernel
theorem dX10_fits_0 : decode cX10_fits 0 = .ok (.aload_n 0, 1) := by decide +kernel
theorem dX10_fits_1 : decode cX10_fits 1 = .ok (.getfield 13, 3) := by decide +kernel
theorem dX10_fits_4 : decode cX10_fits 4 = .ok (.iload_n 1, 1) := by decide +kernel
theorem dX10_fits_5 : decode cX10_fits 5 = .ok (.iaload, 1) := by decide +kernel
theorem dX10_fits_6 : decode cX10_fits 6 = .ok (.istore_n 2, 1) := by decide +kernel
theorem dX10_fits_7 : decode cX10_fits 7 = .ok (.iload_n 1, 1) := by decide +kernel
theorem dX10_fits_8 : decode cX10_fits 8 = .ok (.iconst 2, 1) := by decide +kernel
theorem dX10_fits_9 : decode cX10_fits 9 = .ok (.if_icmp .ge 33, 3) := by decide +kernel
theorem dX10_fits_12 : decode cX10_fits 12 = .ok (.iload_n 1, 1) := by decide +kernel
theorem dX10_fits_13 : decode cX10_fits 13 = .ok (.ifCond .ne 17, 3) := by decide +kernel
theorem dX10_fits_16 : decode cX10_fits 16 = .ok (.iload_n 2, 1) := by decide +kernel
theorem dX10_fits_17 : decode cX10_fits 17 = .ok (.bipush 75, 2) := by decide +kernel
theorem dX10_fits_19 : decode cX10_fits 19 = .ok (.if_icmp .ne 7, 3) := by decide +kernel
theorem dX10_fits_22 : decode cX10_fits 22 = .ok (.iconst 1, 1) := by decide +kernel
theorem dX10_fits_23 : decode cX10_fits 23 = .ok (.goto 18, 3) := by decide +kernel
theorem dX10_fits_26 : decode cX10_fits 26 = .ok (.iconst 0, 1) := by decide +kernel
theorem dX10_fits_27 : decode cX10_fits 27 = .ok (.goto 14, 3) := by decide +kernel
theorem dX10_fits_30 : decode cX10_fits 30 = .ok (.iload_n 2, 1) := by decide +kernel
theorem dX10_fits_31 : decode cX10_fits 31 = .ok (.i2l, 1) := by decide +kernel
theorem dX10_fits_32 : decode cX10_fits 32 = .ok (.ldc2_w 66, 3) := by decide +kernel
theorem dX10_fits_35 : decode cX10_fits 35 = .ok (.ldc2_w 68, 3) := by decide +kernel
theorem dX10_fits_38 : decode cX10_fits 38 = .ok (.invokestatic 58, 3) := by decide +kernel
theorem dX10_fits_41 : decode cX10_fits 41 = .ok (.ireturn, 1) := by decide +kernel
theorem dX10_fits_42 : decode cX10_fits 42 = .ok (.iload_n 1, 1) := by decide +kernel
theorem dX10_fits_43 : decode cX10_fits 43 = .ok (.bipush 55, 2) := by decide +kernel
theorem dX10_fits_45 : decode cX10_fits 45 = .ok (.if_icmp .le 5, 3) := by decide +kernel
theorem dX10_fits_48 : decode cX10_fits 48 = .ok (.iconst 0, 1) := by decide +kernel
theorem dX10_fits_49 : decode cX10_fits 49 = .ok (.ireturn, 1) := by decide +kernel
theorem dX10_fits_50 : decode cX10_fits 50 = .ok (.iload_n 1, 1) := by decide +kernel
theorem dX10_fits_51 : decode cX10_fits 51 = .ok (.iconst 2, 1) := by decide +kernel
theorem dX10_fits_52 : decode cX10_fits 52 = .ok (.isub, 1) := by decide +kernel
theorem dX10_fits_53 : decode cX10_fits 53 = .ok (.bipush 9, 2) := by decide +kernel
theorem dX10_fits_55 : decode cX10_fits 55 = .ok (.irem, 1) := by decide +kernel
theorem dX10_fits_56 : decode cX10_fits 56 = .ok (.tableswitch 106 0 8 #[52, 106, 106, 106, 106, 70, 82, 82, 94], 52) := by decide +kernel
theorem dX10_fits_108 : decode cX10_fits 108 = .ok (.iload_n 2, 1) := by decide +kernel
theorem dX10_fits_109 : decode cX10_fits 109 = .ok (.bipush 88, 2) := by decide +kernel
theorem dX10_fits_111 : decode cX10_fits 111 = .ok (.if_icmp .ne 13, 3) := by decide +kernel
theorem dX10_fits_114 : decode cX10_fits 114 = .ok (.iload_n 1, 1) := by decide +kernel
theorem dX10_fits_115 : decode cX10_fits 115 = .ok (.bipush 56, 2) := by decide +kernel
theorem dX10_fits_117 : decode cX10_fits 117 = .ok (.if_icmp .ge 7, 3) := by decide +kernel
theorem dX10_fits_120 : decode cX10_fits 120 = .ok (.iconst 1, 1) := by decide +kernel
theorem dX10_fits_121 : decode cX10_fits 121 = .ok (.goto 4, 3) := by decide +kernel
theorem dX10_fits_124 : decode cX10_fits 124 = .ok (.iconst 0, 1) := by decide +kernel
theorem dX10_fits_125 : decode cX10_fits 125 = .ok (.ireturn, 1) := by decide +kernel
theorem dX10_fits_126 : decode cX10_fits 126 = .ok (.iload_n 2, 1) := by decide +kernel
theorem dX10_fits_127 : decode cX10_fits 127 = .ok (.i2l, 1) := by decide +kernel
theorem dX10_fits_128 : decode cX10_fits 128 = .ok (.ldc2_w 70, 3) := by decide +kernel
theorem dX10_fits_131 : decode cX10_fits 131 = .ok (.ldc2_w 72, 3) := by decide +kernel
theorem dX10_fits_134 : decode cX10_fits 134 = .ok (.invokestatic 58, 3) := by decide +kernel
theorem dX10_fits_137 : decode cX10_fits 137 = .ok (.ireturn, 1) := by decide +kernel
theorem dX10_fits_138 : decode cX10_fits 138 = .ok (.iload_n 2, 1) := by decide +kernel
theorem dX10_fits_139 : decode cX10_fits 139 = .ok (.i2l, 1) := by decide +kernel
theorem dX10_fits_140 : decode cX10_fits 140 = .ok (.ldc2_w 66, 3) := by decide +kernel
theorem dX10_fits_143 : decode cX10_fits 143 = .ok (.ldc2_w 74, 3) := by decide +kernel
theorem dX10_fits_146 : decode cX10_fits 146 = .ok (.invokestatic 58, 3) := by decide +kernel
theorem dX10_fits_149 : decode cX10_fits 149 = .ok (.ireturn, 1) := by decide +kernel
theorem dX10_fits_150 : decode cX10_fits 150 = .ok (.iload_n 2, 1) := by decide +kernel
theorem dX10_fits_151 : decode cX10_fits 151 = .ok (.i2l, 1) := by decide +kernel
theorem dX10_fits_152 : decode cX10_fits 152 = .ok (.ldc2_w 70, 3) := by decide +kernel
theorem dX10_fits_155 : decode cX10_fits 155 = .ok (.ldc2_w 66, 3) := by decide +kernel
theorem dX10_fits_158 : decode cX10_fits 158 = .ok (.invokestatic 58, 3) := by decide +kernel
theorem dX10_fits_161 : decode cX10_fits 161 = .ok (.ireturn, 1) := by decide +kernel
theorem dX10_fits_162 : decode cX10_fits 162 = .ok (.iload_n 2, 1) := by decide +kernel
theorem dX10_fits_163 : decode cX10_fits 163 = .ok (.i2l, 1) := by decide +kernel
theorem dX10_fits_164 : decode cX10_fits 164 = .ok (.ldc2_w 70, 3) := by decide +kernel
theorem dX10_fits_167 : decode cX10_fits 167 = .ok (.ldc2_w 74, 3) := by decide +kernel
theorem dX10_fits_170 : decode cX10_fits 170 = .ok (.invokestatic 58, 3) := by decide +kernel
theorem dX10_fits_173 : decode cX10_fits 173 = .ok (.ireturn, 1) := by decide +kernel
theorem dX10_fault_0 : decode cX10_fault 0 = .ok (.iconst 0, 1) := by decide +kernel
theorem dX10_fault_1 : decode cX10_fault 1 = .ok (.istore_n 1, 1) := by decide +kernel
theorem dX10_fault_2 : decode cX10_fault 2 = .ok (.iload_n 1, 1) := by decide +kernel
theorem dX10_fault_3 : decode cX10_fault 3 = .ok (.aload_n 0, 1) := by decide +kernel
theorem dX10_fault_4 : decode cX10_fault 4 = .ok (.getfield 62, 3) := by decide +kernel
theorem dX10_fault_7 : decode cX10_fault 7 = .ok (.if_icmp .ge 19, 3) := by decide +kernel
theorem dX10_fault_10 : decode cX10_fault 10 = .ok (.aload_n 0, 1) := by decide +kernel
theorem dX10_fault_11 : decode cX10_fault 11 = .ok (.iload_n 1, 1) := by decide +kernel
theorem dX10_fault_12 : decode cX10_fault 12 = .ok (.invokevirtual 76, 3) := by decide +kernel
theorem dX10_fault_15 : decode cX10_fault 15 = .ok (.ifCond .ne 5, 3) := by decide +kernel
theorem dX10_fault_18 : decode cX10_fault 18 = .ok (.iload_n 1, 1) := by decide +kernel
theorem dX10_fault_19 : decode cX10_fault 19 = .ok (.ireturn, 1) := by decide +kernel
theorem dX10_fault_20 : decode cX10_fault 20 = .ok (.iinc 1 1, 3) := by decide +kernel
theorem dX10_fault_23 : decode cX10_fault 23 = .ok (.goto (-21), 3) := by decide +kernel
theorem dX10_fault_26 : decode cX10_fault 26 = .ok (.aload_n 0, 1) := by decide +kernel
theorem dX10_fault_27 : decode cX10_fault 27 = .ok (.getfield 62, 3) := by decide +kernel
theorem dX10_fault_30 : decode cX10_fault 30 = .ok (.iconst 1, 1) := by decide +kernel
theorem dX10_fault_31 : decode cX10_fault 31 = .ok (.if_icmp .le 20, 3) := by decide +kernel
theorem dX10_fault_34 : decode cX10_fault 34 = .ok (.aload_n 0, 1) := by decide +kernel
theorem dX10_fault_35 : decode cX10_fault 35 = .ok (.getfield 62, 3) := by decide +kernel
theorem dX10_fault_38 : decode cX10_fault 38 = .ok (.iconst 2, 1) := by decide +kernel
theorem dX10_fault_39 : decode cX10_fault 39 = .ok (.isub, 1) := by decide +kernel
theorem dX10_fault_40 : decode cX10_fault 40 = .ok (.bipush 9, 2) := by decide +kernel
theorem dX10_fault_42 : decode cX10_fault 42 = .ok (.irem, 1) := by decide +kernel
theorem dX10_fault_43 : decode cX10_fault 43 = .ok (.ifCond .ne 8, 3) := by decide +kernel
theorem dX10_fault_46 : decode cX10_fault 46 = .ok (.bipush (-9), 2) := by decide +kernel
theorem dX10_fault_48 : decode cX10_fault 48 = .ok (.goto 7, 3) := by decide +kernel
theorem dX10_fault_51 : decode cX10_fault 51 = .ok (.aload_n 0, 1) := by decide +kernel
theorem dX10_fault_52 : decode cX10_fault 52 = .ok (.getfield 62, 3) := by decide +kernel
theorem dX10_fault_55 : decode cX10_fault 55 = .ok (.ireturn, 1) := by decide +kernel
theorem dX10_figure_0 : decode cX10_figure 0 = .ok (.aload_n 0, 1) := by decide +kernel
theorem dX10_figure_1 : decode cX10_figure 1 = .ok (.getfield 13, 3) := by decide +kernel
theorem dX10_figure_4 : decode cX10_figure 4 = .ok (.iload_n 1, 1) := by decide +kernel
theorem dX10_figure_5 : decode cX10_figure 5 = .ok (.iaload, 1) := by decide +kernel
theorem dX10_figure_6 : decode cX10_figure 6 = .ok (.bipush 48, 2) := by decide +kernel
theorem dX10_figure_8 : decode cX10_figure 8 = .ok (.isub, 1) := by decide +kernel
theorem dX10_figure_9 : decode cX10_figure 9 = .ok (.ireturn, 1) := by decide +kernel
theorem dX10_code_0 : decode cX10_code 0 = .ok (.iload_n 0, 1) := by decide +kernel
theorem dX10_code_1 : decode cX10_code 1 = .ok (.iconst 3, 1) := by decide +kernel
theorem dX10_code_2 : decode cX10_code 2 = .ok (.imul, 1) := by decide +kernel
theorem dX10_code_3 : decode cX10_code 3 = .ok (.iload_n 1, 1) := by decide +kernel
theorem dX10_code_4 : decode cX10_code 4 = .ok (.iadd, 1) := by decide +kernel
theorem dX10_code_5 : decode cX10_code 5 = .ok (.bipush 10, 2) := by decide +kernel
theorem dX10_code_7 : decode cX10_code 7 = .ok (.imul, 1) := by decide +kernel
theorem dX10_code_8 : decode cX10_code 8 = .ok (.iload_n 2, 1) := by decide +kernel
theorem dX10_code_9 : decode cX10_code 9 = .ok (.iadd, 1) := by decide +kernel
theorem dX10_code_10 : decode cX10_code 10 = .ok (.bipush 10, 2) := by decide +kernel
theorem dX10_code_12 : decode cX10_code 12 = .ok (.imul, 1) := by decide +kernel
theorem dX10_code_13 : decode cX10_code 13 = .ok (.iload_n 3, 1) := by decide +kernel
theorem dX10_code_14 : decode cX10_code 14 = .ok (.iadd, 1) := by decide +kernel
theorem dX10_code_15 : decode cX10_code 15 = .ok (.iconst 2, 1) := by decide +kernel
theorem dX10_code_16 : decode cX10_code 16 = .ok (.imul, 1) := by decide +kernel
theorem dX10_code_17 : decode cX10_code 17 = .ok (.iload 4, 2) := by decide +kernel
theorem dX10_code_19 : decode cX10_code 19 = .ok (.iadd, 1) := by decide +kernel
theorem dX10_code_20 : decode cX10_code 20 = .ok (.ireturn, 1) := by decide +kernel
theorem dX10_house_0 : decode cX10_house 0 = .ok (.aload_n 0, 1) := by decide +kernel
theorem dX10_house_1 : decode cX10_house 1 = .ok (.invokevirtual 80, 3) := by decide +kernel
theorem dX10_house_4 : decode cX10_house 4 = .ok (.bipush (-9), 2) := by decide +kernel
theorem dX10_house_6 : decode cX10_house 6 = .ok (.if_icmp .eq 6, 3) := by decide +kernel
theorem dX10_house_9 : decode cX10_house 9 = .ok (.bipush (-3), 2) := by decide +kernel
theorem dX10_house_11 : decode cX10_house 11 = .ok (.ireturn, 1) := by decide +kernel
theorem dX10_house_12 : decode cX10_house 12 = .ok (.iconst 0, 1) := by decide +kernel
theorem dX10_house_13 : decode cX10_house 13 = .ok (.istore_n 1, 1) := by decide +kernel
theorem dX10_house_14 : decode cX10_house 14 = .ok (.iload_n 1, 1) := by decide +kernel
theorem dX10_house_15 : decode cX10_house 15 = .ok (.bipush 14, 2) := by decide +kernel
theorem dX10_house_17 : decode cX10_house 17 = .ok (.if_icmp .ge 16, 3) := by decide +kernel
theorem dX10_house_20 : decode cX10_house 20 = .ok (.aload_n 0, 1) := by decide +kernel
theorem dX10_house_21 : decode cX10_house 21 = .ok (.getfield 7, 3) := by decide +kernel
theorem dX10_house_24 : decode cX10_house 24 = .ok (.iload_n 1, 1) := by decide +kernel
theorem dX10_house_25 : decode cX10_house 25 = .ok (.iconst 0, 1) := by decide +kernel
theorem dX10_house_26 : decode cX10_house 26 = .ok (.iastore, 1) := by decide +kernel
theorem dX10_house_27 : decode cX10_house 27 = .ok (.iinc 1 1, 3) := by decide +kernel
theorem dX10_house_30 : decode cX10_house 30 = .ok (.goto (-16), 3) := by decide +kernel
theorem dX10_house_33 : decode cX10_house 33 = .ok (.aload_n 0, 1) := by decide +kernel
theorem dX10_house_34 : decode cX10_house 34 = .ok (.getfield 7, 3) := by decide +kernel
theorem dX10_house_37 : decode cX10_house 37 = .ok (.bipush 11, 2) := by decide +kernel
theorem dX10_house_39 : decode cX10_house 39 = .ok (.aload_n 0, 1) := by decide +kernel
theorem dX10_house_40 : decode cX10_house 40 = .ok (.iconst 1, 1) := by decide +kernel
theorem dX10_house_41 : decode cX10_house 41 = .ok (.invokevirtual 84, 3) := by decide +kernel
theorem dX10_house_44 : decode cX10_house 44 = .ok (.iastore, 1) := by decide +kernel
theorem dX10_house_45 : decode cX10_house 45 = .ok (.aload_n 0, 1) := by decide +kernel
theorem dX10_house_46 : decode cX10_house 46 = .ok (.getfield 7, 3) := by decide +kernel
theorem dX10_house_49 : decode cX10_house 49 = .ok (.bipush 13, 2) := by decide +kernel
theorem dX10_house_51 : decode cX10_house 51 = .ok (.aload_n 0, 1) := by decide +kernel
theorem dX10_house_52 : decode cX10_house 52 = .ok (.getfield 62, 3) := by decide +kernel
theorem dX10_house_55 : decode cX10_house 55 = .ok (.iconst 2, 1) := by decide +kernel
theorem dX10_house_56 : decode cX10_house 56 = .ok (.isub, 1) := by decide +kernel
theorem dX10_house_57 : decode cX10_house 57 = .ok (.bipush 9, 2) := by decide +kernel
theorem dX10_house_59 : decode cX10_house 59 = .ok (.idiv, 1) := by decide +kernel
theorem dX10_house_60 : decode cX10_house 60 = .ok (.iastore, 1) := by decide +kernel
theorem dX10_house_61 : decode cX10_house 61 = .ok (.iconst 0, 1) := by decide +kernel
theorem dX10_house_62 : decode cX10_house 62 = .ok (.istore_n 1, 1) := by decide +kernel
theorem dX10_house_63 : decode cX10_house 63 = .ok (.iload_n 1, 1) := by decide +kernel
theorem dX10_house_64 : decode cX10_house 64 = .ok (.aload_n 0, 1) := by decide +kernel
theorem dX10_house_65 : decode cX10_house 65 = .ok (.getfield 7, 3) := by decide +kernel
theorem dX10_house_68 : decode cX10_house 68 = .ok (.bipush 13, 2) := by decide +kernel
theorem dX10_house_70 : decode cX10_house 70 = .ok (.iaload, 1) := by decide +kernel
theorem dX10_house_71 : decode cX10_house 71 = .ok (.if_icmp .ge 87, 3) := by decide +kernel
theorem dX10_house_74 : decode cX10_house 74 = .ok (.iconst 3, 1) := by decide +kernel
theorem dX10_house_75 : decode cX10_house 75 = .ok (.bipush 9, 2) := by decide +kernel
theorem dX10_house_77 : decode cX10_house 77 = .ok (.iload_n 1, 1) := by decide +kernel
theorem dX10_house_78 : decode cX10_house 78 = .ok (.imul, 1) := by decide +kernel
theorem dX10_house_79 : decode cX10_house 79 = .ok (.iadd, 1) := by decide +kernel
theorem dX10_house_80 : decode cX10_house 80 = .ok (.istore_n 2, 1) := by decide +kernel
theorem dX10_house_81 : decode cX10_house 81 = .ok (.iconst 0, 1) := by decide +kernel
theorem dX10_house_82 : decode cX10_house 82 = .ok (.istore_n 3, 1) := by decide +kernel
theorem dX10_house_83 : decode cX10_house 83 = .ok (.iconst 0, 1) := by decide +kernel
theorem dX10_house_84 : decode cX10_house 84 = .ok (.istore 4, 2) := by decide +kernel
theorem dX10_house_86 : decode cX10_house 86 = .ok (.iload 4, 2) := by decide +kernel
theorem dX10_house_88 : decode cX10_house 88 = .ok (.iconst 4, 1) := by decide +kernel
theorem dX10_house_89 : decode cX10_house 89 = .ok (.if_icmp .ge 23, 3) := by decide +kernel
theorem dX10_house_92 : decode cX10_house 92 = .ok (.bipush 10, 2) := by decide +kernel
theorem dX10_house_94 : decode cX10_house 94 = .ok (.iload_n 3, 1) := by decide +kernel
theorem dX10_house_95 : decode cX10_house 95 = .ok (.imul, 1) := by decide +kernel
theorem dX10_house_96 : decode cX10_house 96 = .ok (.aload_n 0, 1) := by decide +kernel
theorem dX10_house_97 : decode cX10_house 97 = .ok (.iload_n 2, 1) := by decide +kernel
theorem dX10_house_98 : decode cX10_house 98 = .ok (.iload 4, 2) := by decide +kernel
theorem dX10_house_100 : decode cX10_house 100 = .ok (.iadd, 1) := by decide +kernel
theorem dX10_house_101 : decode cX10_house 101 = .ok (.invokevirtual 84, 3) := by decide +kernel
theorem dX10_house_104 : decode cX10_house 104 = .ok (.iadd, 1) := by decide +kernel
theorem dX10_house_105 : decode cX10_house 105 = .ok (.istore_n 3, 1) := by decide +kernel
theorem dX10_house_106 : decode cX10_house 106 = .ok (.iinc 4 1, 3) := by decide +kernel
theorem dX10_house_109 : decode cX10_house 109 = .ok (.goto (-23), 3) := by decide +kernel
theorem dX10_house_112 : decode cX10_house 112 = .ok (.aload_n 0, 1) := by decide +kernel
theorem dX10_house_113 : decode cX10_house 113 = .ok (.getfield 7, 3) := by decide +kernel
theorem dX10_house_116 : decode cX10_house 116 = .ok (.iload_n 1, 1) := by decide +kernel
theorem dX10_house_117 : decode cX10_house 117 = .ok (.iload_n 3, 1) := by decide +kernel
theorem dX10_house_118 : decode cX10_house 118 = .ok (.aload_n 0, 1) := by decide +kernel
theorem dX10_house_119 : decode cX10_house 119 = .ok (.iload_n 2, 1) := by decide +kernel
theorem dX10_house_120 : decode cX10_house 120 = .ok (.iconst 4, 1) := by decide +kernel
theorem dX10_house_121 : decode cX10_house 121 = .ok (.iadd, 1) := by decide +kernel
theorem dX10_house_122 : decode cX10_house 122 = .ok (.invokevirtual 84, 3) := by decide +kernel
theorem dX10_house_125 : decode cX10_house 125 = .ok (.aload_n 0, 1) := by decide +kernel
theorem dX10_house_126 : decode cX10_house 126 = .ok (.iload_n 2, 1) := by decide +kernel
theorem dX10_house_127 : decode cX10_house 127 = .ok (.iconst 5, 1) := by decide +kernel
theorem dX10_house_128 : decode cX10_house 128 = .ok (.iadd, 1) := by decide +kernel
theorem dX10_house_129 : decode cX10_house 129 = .ok (.invokevirtual 84, 3) := by decide +kernel
theorem dX10_house_132 : decode cX10_house 132 = .ok (.aload_n 0, 1) := by decide +kernel
theorem dX10_house_133 : decode cX10_house 133 = .ok (.iload_n 2, 1) := by decide +kernel
theorem dX10_house_134 : decode cX10_house 134 = .ok (.bipush 6, 2) := by decide +kernel
theorem dX10_house_136 : decode cX10_house 136 = .ok (.iadd, 1) := by decide +kernel
theorem dX10_house_137 : decode cX10_house 137 = .ok (.invokevirtual 84, 3) := by decide +kernel
theorem dX10_house_140 : decode cX10_house 140 = .ok (.aload_n 0, 1) := by decide +kernel
theorem dX10_house_141 : decode cX10_house 141 = .ok (.iload_n 2, 1) := by decide +kernel
theorem dX10_house_142 : decode cX10_house 142 = .ok (.bipush 7, 2) := by decide +kernel
theorem dX10_house_144 : decode cX10_house 144 = .ok (.iadd, 1) := by decide +kernel
theorem dX10_house_145 : decode cX10_house 145 = .ok (.invokevirtual 84, 3) := by decide +kernel
theorem dX10_house_148 : decode cX10_house 148 = .ok (.invokestatic 88, 3) := by decide +kernel
theorem dX10_house_151 : decode cX10_house 151 = .ok (.iastore, 1) := by decide +kernel
theorem dX10_house_152 : decode cX10_house 152 = .ok (.iinc 1 1, 3) := by decide +kernel
theorem dX10_house_155 : decode cX10_house 155 = .ok (.goto (-92), 3) := by decide +kernel
theorem dX10_house_158 : decode cX10_house 158 = .ok (.aload_n 0, 1) := by decide +kernel
theorem dX10_house_159 : decode cX10_house 159 = .ok (.iconst 0, 1) := by decide +kernel
theorem dX10_house_160 : decode cX10_house 160 = .ok (.putfield 92, 3) := by decide +kernel
theorem dX10_house_163 : decode cX10_house 163 = .ok (.aload_n 0, 1) := by decide +kernel
theorem dX10_house_164 : decode cX10_house 164 = .ok (.getfield 50, 3) := by decide +kernel
theorem dX10_house_167 : decode cX10_house 167 = .ok (.iconst 0, 1) := by decide +kernel
theorem dX10_house_168 : decode cX10_house 168 = .ok (.iconst 0, 1) := by decide +kernel
theorem dX10_house_169 : decode cX10_house 169 = .ok (.bastore, 1) := by decide +kernel
theorem dX10_house_170 : decode cX10_house 170 = .ok (.aload_n 0, 1) := by decide +kernel
theorem dX10_house_171 : decode cX10_house 171 = .ok (.getfield 50, 3) := by decide +kernel
theorem dX10_house_174 : decode cX10_house 174 = .ok (.iconst 1, 1) := by decide +kernel
theorem dX10_house_175 : decode cX10_house 175 = .ok (.iconst 0, 1) := by decide +kernel
theorem dX10_house_176 : decode cX10_house 176 = .ok (.bastore, 1) := by decide +kernel
theorem dX10_house_177 : decode cX10_house 177 = .ok (.aload_n 0, 1) := by decide +kernel
theorem dX10_house_178 : decode cX10_house 178 = .ok (.getfield 7, 3) := by decide +kernel
theorem dX10_house_181 : decode cX10_house 181 = .ok (.bipush 13, 2) := by decide +kernel
theorem dX10_house_183 : decode cX10_house 183 = .ok (.iaload, 1) := by decide +kernel
theorem dX10_house_184 : decode cX10_house 184 = .ok (.ireturn, 1) := by decide +kernel
theorem dX10_many_0 : decode cX10_many 0 = .ok (.aload_n 0, 1) := by decide +kernel
theorem dX10_many_1 : decode cX10_many 1 = .ok (.getfield 7, 3) := by decide +kernel
theorem dX10_many_4 : decode cX10_many 4 = .ok (.bipush 13, 2) := by decide +kernel
theorem dX10_many_6 : decode cX10_many 6 = .ok (.iaload, 1) := by decide +kernel
theorem dX10_many_7 : decode cX10_many 7 = .ok (.ireturn, 1) := by decide +kernel
theorem dX10_isThing_0 : decode cX10_isThing 0 = .ok (.iload_n 1, 1) := by decide +kernel
theorem dX10_isThing_1 : decode cX10_isThing 1 = .ok (.i2l, 1) := by decide +kernel
theorem dX10_isThing_2 : decode cX10_isThing 2 = .ok (.lconst 0, 1) := by decide +kernel
theorem dX10_isThing_3 : decode cX10_isThing 3 = .ok (.aload_n 0, 1) := by decide +kernel
theorem dX10_isThing_4 : decode cX10_isThing 4 = .ok (.getfield 7, 3) := by decide +kernel
theorem dX10_isThing_7 : decode cX10_isThing 7 = .ok (.bipush 13, 2) := by decide +kernel
theorem dX10_isThing_9 : decode cX10_isThing 9 = .ok (.iaload, 1) := by decide +kernel
theorem dX10_isThing_10 : decode cX10_isThing 10 = .ok (.iconst 1, 1) := by decide +kernel
theorem dX10_isThing_11 : decode cX10_isThing 11 = .ok (.isub, 1) := by decide +kernel
theorem dX10_isThing_12 : decode cX10_isThing 12 = .ok (.i2l, 1) := by decide +kernel
theorem dX10_isThing_13 : decode cX10_isThing 13 = .ok (.invokestatic 58, 3) := by decide +kernel
theorem dX10_isThing_16 : decode cX10_isThing 16 = .ok (.ireturn, 1) := by decide +kernel
theorem dX10_guardOf_0 : decode cX10_guardOf 0 = .ok (.aload_n 0, 1) := by decide +kernel
theorem dX10_guardOf_1 : decode cX10_guardOf 1 = .ok (.getfield 7, 3) := by decide +kernel
theorem dX10_guardOf_4 : decode cX10_guardOf 4 = .ok (.iload_n 1, 1) := by decide +kernel
theorem dX10_guardOf_5 : decode cX10_guardOf 5 = .ok (.iaload, 1) := by decide +kernel
theorem dX10_guardOf_6 : decode cX10_guardOf 6 = .ok (.iconst 2, 1) := by decide +kernel
theorem dX10_guardOf_7 : decode cX10_guardOf 7 = .ok (.irem, 1) := by decide +kernel
theorem dX10_guardOf_8 : decode cX10_guardOf 8 = .ok (.ireturn, 1) := by decide +kernel
theorem dX10_costOf_0 : decode cX10_costOf 0 = .ok (.aload_n 0, 1) := by decide +kernel
theorem dX10_costOf_1 : decode cX10_costOf 1 = .ok (.getfield 7, 3) := by decide +kernel
theorem dX10_costOf_4 : decode cX10_costOf 4 = .ok (.iload_n 1, 1) := by decide +kernel
theorem dX10_costOf_5 : decode cX10_costOf 5 = .ok (.iaload, 1) := by decide +kernel
theorem dX10_costOf_6 : decode cX10_costOf 6 = .ok (.iconst 2, 1) := by decide +kernel
theorem dX10_costOf_7 : decode cX10_costOf 7 = .ok (.idiv, 1) := by decide +kernel
theorem dX10_costOf_8 : decode cX10_costOf 8 = .ok (.bipush 10, 2) := by decide +kernel
theorem dX10_costOf_10 : decode cX10_costOf 10 = .ok (.irem, 1) := by decide +kernel
theorem dX10_costOf_11 : decode cX10_costOf 11 = .ok (.ireturn, 1) := by decide +kernel
theorem dX10_worthOf_0 : decode cX10_worthOf 0 = .ok (.aload_n 0, 1) := by decide +kernel
theorem dX10_worthOf_1 : decode cX10_worthOf 1 = .ok (.getfield 7, 3) := by decide +kernel
theorem dX10_worthOf_4 : decode cX10_worthOf 4 = .ok (.iload_n 1, 1) := by decide +kernel
theorem dX10_worthOf_5 : decode cX10_worthOf 5 = .ok (.iaload, 1) := by decide +kernel
theorem dX10_worthOf_6 : decode cX10_worthOf 6 = .ok (.bipush 20, 2) := by decide +kernel
theorem dX10_worthOf_8 : decode cX10_worthOf 8 = .ok (.idiv, 1) := by decide +kernel
theorem dX10_worthOf_9 : decode cX10_worthOf 9 = .ok (.bipush 10, 2) := by decide +kernel
theorem dX10_worthOf_11 : decode cX10_worthOf 11 = .ok (.irem, 1) := by decide +kernel
theorem dX10_worthOf_12 : decode cX10_worthOf 12 = .ok (.ireturn, 1) := by decide +kernel
theorem dX10_ownerOf_0 : decode cX10_ownerOf 0 = .ok (.aload_n 0, 1) := by decide +kernel
theorem dX10_ownerOf_1 : decode cX10_ownerOf 1 = .ok (.getfield 7, 3) := by decide +kernel
theorem dX10_ownerOf_4 : decode cX10_ownerOf 4 = .ok (.iload_n 1, 1) := by decide +kernel
theorem dX10_ownerOf_5 : decode cX10_ownerOf 5 = .ok (.iaload, 1) := by decide +kernel
theorem dX10_ownerOf_6 : decode cX10_ownerOf 6 = .ok (.sipush 200, 3) := by decide +kernel
theorem dX10_ownerOf_9 : decode cX10_ownerOf 9 = .ok (.idiv, 1) := by decide +kernel
theorem dX10_ownerOf_10 : decode cX10_ownerOf 10 = .ok (.iconst 3, 1) := by decide +kernel
theorem dX10_ownerOf_11 : decode cX10_ownerOf 11 = .ok (.irem, 1) := by decide +kernel
theorem dX10_ownerOf_12 : decode cX10_ownerOf 12 = .ok (.ireturn, 1) := by decide +kernel
theorem dX10_marksOf_0 : decode cX10_marksOf 0 = .ok (.aload_n 0, 1) := by decide +kernel
theorem dX10_marksOf_1 : decode cX10_marksOf 1 = .ok (.getfield 7, 3) := by decide +kernel
theorem dX10_marksOf_4 : decode cX10_marksOf 4 = .ok (.iload_n 1, 1) := by decide +kernel
theorem dX10_marksOf_5 : decode cX10_marksOf 5 = .ok (.iaload, 1) := by decide +kernel
theorem dX10_marksOf_6 : decode cX10_marksOf 6 = .ok (.sipush 600, 3) := by decide +kernel
theorem dX10_marksOf_9 : decode cX10_marksOf 9 = .ok (.idiv, 1) := by decide +kernel
theorem dX10_marksOf_10 : decode cX10_marksOf 10 = .ok (.ireturn, 1) := by decide +kernel
theorem dX10_tenTo_0 : decode cX10_tenTo 0 = .ok (.iconst 1, 1) := by decide +kernel
theorem dX10_tenTo_1 : decode cX10_tenTo 1 = .ok (.istore_n 1, 1) := by decide +kernel
theorem dX10_tenTo_2 : decode cX10_tenTo 2 = .ok (.iconst 0, 1) := by decide +kernel
theorem dX10_tenTo_3 : decode cX10_tenTo 3 = .ok (.istore_n 2, 1) := by decide +kernel
theorem dX10_tenTo_4 : decode cX10_tenTo 4 = .ok (.iload_n 2, 1) := by decide +kernel
theorem dX10_tenTo_5 : decode cX10_tenTo 5 = .ok (.iload_n 0, 1) := by decide +kernel
theorem dX10_tenTo_6 : decode cX10_tenTo 6 = .ok (.if_icmp .ge 14, 3) := by decide +kernel
theorem dX10_tenTo_9 : decode cX10_tenTo 9 = .ok (.iload_n 1, 1) := by decide +kernel
theorem dX10_tenTo_10 : decode cX10_tenTo 10 = .ok (.bipush 10, 2) := by decide +kernel
theorem dX10_tenTo_12 : decode cX10_tenTo 12 = .ok (.imul, 1) := by decide +kernel
theorem dX10_tenTo_13 : decode cX10_tenTo 13 = .ok (.istore_n 1, 1) := by decide +kernel
theorem dX10_tenTo_14 : decode cX10_tenTo 14 = .ok (.iinc 2 1, 3) := by decide +kernel
theorem dX10_tenTo_17 : decode cX10_tenTo 17 = .ok (.goto (-13), 3) := by decide +kernel
theorem dX10_tenTo_20 : decode cX10_tenTo 20 = .ok (.iload_n 1, 1) := by decide +kernel
theorem dX10_tenTo_21 : decode cX10_tenTo 21 = .ok (.ireturn, 1) := by decide +kernel
theorem dX10_markOf_0 : decode cX10_markOf 0 = .ok (.aload_n 0, 1) := by decide +kernel
theorem dX10_markOf_1 : decode cX10_markOf 1 = .ok (.iload_n 1, 1) := by decide +kernel
theorem dX10_markOf_2 : decode cX10_markOf 2 = .ok (.invokevirtual 95, 3) := by decide +kernel
theorem dX10_markOf_5 : decode cX10_markOf 5 = .ok (.iconst 3, 1) := by decide +kernel
theorem dX10_markOf_6 : decode cX10_markOf 6 = .ok (.iload_n 2, 1) := by decide +kernel
theorem dX10_markOf_7 : decode cX10_markOf 7 = .ok (.isub, 1) := by decide +kernel
theorem dX10_markOf_8 : decode cX10_markOf 8 = .ok (.invokestatic 98, 3) := by decide +kernel
theorem dX10_markOf_11 : decode cX10_markOf 11 = .ok (.idiv, 1) := by decide +kernel
theorem dX10_markOf_12 : decode cX10_markOf 12 = .ok (.bipush 10, 2) := by decide +kernel
theorem dX10_markOf_14 : decode cX10_markOf 14 = .ok (.irem, 1) := by decide +kernel
theorem dX10_markOf_15 : decode cX10_markOf 15 = .ok (.ireturn, 1) := by decide +kernel
theorem dX10_same_0 : decode cX10_same 0 = .ok (.iconst 0, 1) := by decide +kernel
theorem dX10_same_1 : decode cX10_same 1 = .ok (.istore_n 3, 1) := by decide +kernel
theorem dX10_same_2 : decode cX10_same 2 = .ok (.iconst 0, 1) := by decide +kernel
theorem dX10_same_3 : decode cX10_same 3 = .ok (.istore 4, 2) := by decide +kernel
theorem dX10_same_5 : decode cX10_same 5 = .ok (.iload 4, 2) := by decide +kernel
theorem dX10_same_7 : decode cX10_same 7 = .ok (.iconst 4, 1) := by decide +kernel
theorem dX10_same_8 : decode cX10_same 8 = .ok (.if_icmp .ge 37, 3) := by decide +kernel
theorem dX10_same_11 : decode cX10_same 11 = .ok (.iload_n 3, 1) := by decide +kernel
theorem dX10_same_12 : decode cX10_same 12 = .ok (.aload_n 0, 1) := by decide +kernel
theorem dX10_same_13 : decode cX10_same 13 = .ok (.iload_n 1, 1) := by decide +kernel
theorem dX10_same_14 : decode cX10_same 14 = .ok (.iload 4, 2) := by decide +kernel
theorem dX10_same_16 : decode cX10_same 16 = .ok (.invokevirtual 101, 3) := by decide +kernel
theorem dX10_same_19 : decode cX10_same 19 = .ok (.aload_n 0, 1) := by decide +kernel
theorem dX10_same_20 : decode cX10_same 20 = .ok (.iload_n 2, 1) := by decide +kernel
theorem dX10_same_21 : decode cX10_same 21 = .ok (.iload 4, 2) := by decide +kernel
theorem dX10_same_23 : decode cX10_same 23 = .ok (.invokevirtual 101, 3) := by decide +kernel
theorem dX10_same_26 : decode cX10_same 26 = .ok (.if_icmp .ne 10, 3) := by decide +kernel
theorem dX10_same_29 : decode cX10_same 29 = .ok (.iconst 1, 1) := by decide +kernel
theorem dX10_same_30 : decode cX10_same 30 = .ok (.iload 4, 2) := by decide +kernel
theorem dX10_same_32 : decode cX10_same 32 = .ok (.ishl, 1) := by decide +kernel
theorem dX10_same_33 : decode cX10_same 33 = .ok (.goto 4, 3) := by decide +kernel
theorem dX10_same_36 : decode cX10_same 36 = .ok (.iconst 0, 1) := by decide +kernel
theorem dX10_same_37 : decode cX10_same 37 = .ok (.ior, 1) := by decide +kernel
theorem dX10_same_38 : decode cX10_same 38 = .ok (.istore_n 3, 1) := by decide +kernel
theorem dX10_same_39 : decode cX10_same 39 = .ok (.iinc 4 1, 3) := by decide +kernel
theorem dX10_same_42 : decode cX10_same 42 = .ok (.goto (-37), 3) := by decide +kernel
theorem dX10_same_45 : decode cX10_same 45 = .ok (.iload_n 3, 1) := by decide +kernel
theorem dX10_same_46 : decode cX10_same 46 = .ok (.ireturn, 1) := by decide +kernel
theorem dX10_alikeOf_0 : decode cX10_alikeOf 0 = .ok (.iconst 0, 1) := by decide +kernel
theorem dX10_alikeOf_1 : decode cX10_alikeOf 1 = .ok (.istore 4, 2) := by decide +kernel
theorem dX10_alikeOf_3 : decode cX10_alikeOf 3 = .ok (.iconst 0, 1) := by decide +kernel
theorem dX10_alikeOf_4 : decode cX10_alikeOf 4 = .ok (.istore 5, 2) := by decide +kernel
theorem dX10_alikeOf_6 : decode cX10_alikeOf 6 = .ok (.iload 5, 2) := by decide +kernel
theorem dX10_alikeOf_8 : decode cX10_alikeOf 8 = .ok (.aload_n 0, 1) := by decide +kernel
theorem dX10_alikeOf_9 : decode cX10_alikeOf 9 = .ok (.invokevirtual 105, 3) := by decide +kernel
theorem dX10_alikeOf_12 : decode cX10_alikeOf 12 = .ok (.if_icmp .ge 51, 3) := by decide +kernel
theorem dX10_alikeOf_15 : decode cX10_alikeOf 15 = .ok (.iload 4, 2) := by decide +kernel
theorem dX10_alikeOf_17 : decode cX10_alikeOf 17 = .ok (.iload 5, 2) := by decide +kernel
theorem dX10_alikeOf_19 : decode cX10_alikeOf 19 = .ok (.iload_n 1, 1) := by decide +kernel
theorem dX10_alikeOf_20 : decode cX10_alikeOf 20 = .ok (.if_icmp .eq 33, 3) := by decide +kernel
theorem dX10_alikeOf_23 : decode cX10_alikeOf 23 = .ok (.iload_n 2, 1) := by decide +kernel
theorem dX10_alikeOf_24 : decode cX10_alikeOf 24 = .ok (.iload 5, 2) := by decide +kernel
theorem dX10_alikeOf_26 : decode cX10_alikeOf 26 = .ok (.invokestatic 108, 3) := by decide +kernel
theorem dX10_alikeOf_29 : decode cX10_alikeOf 29 = .ok (.ifCond .eq 24, 3) := by decide +kernel
theorem dX10_alikeOf_32 : decode cX10_alikeOf 32 = .ok (.aload_n 0, 1) := by decide +kernel
theorem dX10_alikeOf_33 : decode cX10_alikeOf 33 = .ok (.iload_n 1, 1) := by decide +kernel
theorem dX10_alikeOf_34 : decode cX10_alikeOf 34 = .ok (.iload 5, 2) := by decide +kernel
theorem dX10_alikeOf_36 : decode cX10_alikeOf 36 = .ok (.invokevirtual 112, 3) := by decide +kernel
theorem dX10_alikeOf_39 : decode cX10_alikeOf 39 = .ok (.invokestatic 115, 3) := by decide +kernel
theorem dX10_alikeOf_42 : decode cX10_alikeOf 42 = .ok (.iload_n 3, 1) := by decide +kernel
theorem dX10_alikeOf_43 : decode cX10_alikeOf 43 = .ok (.if_icmp .lt 10, 3) := by decide +kernel
theorem dX10_alikeOf_46 : decode cX10_alikeOf 46 = .ok (.iconst 1, 1) := by decide +kernel
theorem dX10_alikeOf_47 : decode cX10_alikeOf 47 = .ok (.iload 5, 2) := by decide +kernel
theorem dX10_alikeOf_49 : decode cX10_alikeOf 49 = .ok (.ishl, 1) := by decide +kernel
theorem dX10_alikeOf_50 : decode cX10_alikeOf 50 = .ok (.goto 4, 3) := by decide +kernel
theorem dX10_alikeOf_53 : decode cX10_alikeOf 53 = .ok (.iconst 0, 1) := by decide +kernel
theorem dX10_alikeOf_54 : decode cX10_alikeOf 54 = .ok (.ior, 1) := by decide +kernel
theorem dX10_alikeOf_55 : decode cX10_alikeOf 55 = .ok (.istore 4, 2) := by decide +kernel
theorem dX10_alikeOf_57 : decode cX10_alikeOf 57 = .ok (.iinc 5 1, 3) := by decide +kernel
theorem dX10_alikeOf_60 : decode cX10_alikeOf 60 = .ok (.goto (-54), 3) := by decide +kernel
theorem dX10_alikeOf_63 : decode cX10_alikeOf 63 = .ok (.iload 4, 2) := by decide +kernel
theorem dX10_alikeOf_65 : decode cX10_alikeOf 65 = .ok (.ireturn, 1) := by decide +kernel
theorem dX10_shown_0 : decode cX10_shown 0 = .ok (.bipush 14, 2) := by decide +kernel
theorem dX10_shown_2 : decode cX10_shown 2 = .ok (.iload_n 1, 1) := by decide +kernel
theorem dX10_shown_3 : decode cX10_shown 3 = .ok (.imul, 1) := by decide +kernel
theorem dX10_shown_4 : decode cX10_shown 4 = .ok (.istore_n 2, 1) := by decide +kernel
theorem dX10_shown_5 : decode cX10_shown 5 = .ok (.iconst 1, 1) := by decide +kernel
theorem dX10_shown_6 : decode cX10_shown 6 = .ok (.aload_n 0, 1) := by decide +kernel
theorem dX10_shown_7 : decode cX10_shown 7 = .ok (.getfield 7, 3) := by decide +kernel
theorem dX10_shown_10 : decode cX10_shown 10 = .ok (.iload_n 2, 1) := by decide +kernel
theorem dX10_shown_11 : decode cX10_shown 11 = .ok (.bipush 13, 2) := by decide +kernel
theorem dX10_shown_13 : decode cX10_shown 13 = .ok (.iadd, 1) := by decide +kernel
theorem dX10_shown_14 : decode cX10_shown 14 = .ok (.iaload, 1) := by decide +kernel
theorem dX10_shown_15 : decode cX10_shown 15 = .ok (.ishl, 1) := by decide +kernel
theorem dX10_shown_16 : decode cX10_shown 16 = .ok (.iconst 1, 1) := by decide +kernel
theorem dX10_shown_17 : decode cX10_shown 17 = .ok (.isub, 1) := by decide +kernel
theorem dX10_shown_18 : decode cX10_shown 18 = .ok (.aload_n 0, 1) := by decide +kernel
theorem dX10_shown_19 : decode cX10_shown 19 = .ok (.getfield 7, 3) := by decide +kernel
theorem dX10_shown_22 : decode cX10_shown 22 = .ok (.iload_n 2, 1) := by decide +kernel
theorem dX10_shown_23 : decode cX10_shown 23 = .ok (.bipush 8, 2) := by decide +kernel
theorem dX10_shown_25 : decode cX10_shown 25 = .ok (.iadd, 1) := by decide +kernel
theorem dX10_shown_26 : decode cX10_shown 26 = .ok (.iaload, 1) := by decide +kernel
theorem dX10_shown_27 : decode cX10_shown 27 = .ok (.iconst (-1), 1) := by decide +kernel
theorem dX10_shown_28 : decode cX10_shown 28 = .ok (.ixor, 1) := by decide +kernel
theorem dX10_shown_29 : decode cX10_shown 29 = .ok (.iand, 1) := by decide +kernel
theorem dX10_shown_30 : decode cX10_shown 30 = .ok (.aload_n 0, 1) := by decide +kernel
theorem dX10_shown_31 : decode cX10_shown 31 = .ok (.getfield 7, 3) := by decide +kernel
theorem dX10_shown_34 : decode cX10_shown 34 = .ok (.iload_n 2, 1) := by decide +kernel
theorem dX10_shown_35 : decode cX10_shown 35 = .ok (.bipush 9, 2) := by decide +kernel
theorem dX10_shown_37 : decode cX10_shown 37 = .ok (.iadd, 1) := by decide +kernel
theorem dX10_shown_38 : decode cX10_shown 38 = .ok (.iaload, 1) := by decide +kernel
theorem dX10_shown_39 : decode cX10_shown 39 = .ok (.iconst (-1), 1) := by decide +kernel
theorem dX10_shown_40 : decode cX10_shown 40 = .ok (.ixor, 1) := by decide +kernel
theorem dX10_shown_41 : decode cX10_shown 41 = .ok (.iand, 1) := by decide +kernel
theorem dX10_shown_42 : decode cX10_shown 42 = .ok (.ireturn, 1) := by decide +kernel
theorem dX10_lastOf_0 : decode cX10_lastOf 0 = .ok (.iconst 0, 1) := by decide +kernel
theorem dX10_lastOf_1 : decode cX10_lastOf 1 = .ok (.istore_n 3, 1) := by decide +kernel
theorem dX10_lastOf_2 : decode cX10_lastOf 2 = .ok (.iconst 0, 1) := by decide +kernel
theorem dX10_lastOf_3 : decode cX10_lastOf 3 = .ok (.istore 4, 2) := by decide +kernel
theorem dX10_lastOf_5 : decode cX10_lastOf 5 = .ok (.iload 4, 2) := by decide +kernel
theorem dX10_lastOf_7 : decode cX10_lastOf 7 = .ok (.aload_n 0, 1) := by decide +kernel
theorem dX10_lastOf_8 : decode cX10_lastOf 8 = .ok (.invokevirtual 105, 3) := by decide +kernel
theorem dX10_lastOf_11 : decode cX10_lastOf 11 = .ok (.if_icmp .ge 40, 3) := by decide +kernel
theorem dX10_lastOf_14 : decode cX10_lastOf 14 = .ok (.iload_n 3, 1) := by decide +kernel
theorem dX10_lastOf_15 : decode cX10_lastOf 15 = .ok (.iload_n 1, 1) := by decide +kernel
theorem dX10_lastOf_16 : decode cX10_lastOf 16 = .ok (.iload 4, 2) := by decide +kernel
theorem dX10_lastOf_18 : decode cX10_lastOf 18 = .ok (.invokestatic 108, 3) := by decide +kernel
theorem dX10_lastOf_21 : decode cX10_lastOf 21 = .ok (.ifCond .eq 21, 3) := by decide +kernel
theorem dX10_lastOf_24 : decode cX10_lastOf 24 = .ok (.aload_n 0, 1) := by decide +kernel
theorem dX10_lastOf_25 : decode cX10_lastOf 25 = .ok (.iload 4, 2) := by decide +kernel
theorem dX10_lastOf_27 : decode cX10_lastOf 27 = .ok (.iload_n 1, 1) := by decide +kernel
theorem dX10_lastOf_28 : decode cX10_lastOf 28 = .ok (.iload_n 2, 1) := by decide +kernel
theorem dX10_lastOf_29 : decode cX10_lastOf 29 = .ok (.invokevirtual 118, 3) := by decide +kernel
theorem dX10_lastOf_32 : decode cX10_lastOf 32 = .ok (.ifCond .ne 10, 3) := by decide +kernel
theorem dX10_lastOf_35 : decode cX10_lastOf 35 = .ok (.iconst 1, 1) := by decide +kernel
theorem dX10_lastOf_36 : decode cX10_lastOf 36 = .ok (.iload 4, 2) := by decide +kernel
theorem dX10_lastOf_38 : decode cX10_lastOf 38 = .ok (.ishl, 1) := by decide +kernel
theorem dX10_lastOf_39 : decode cX10_lastOf 39 = .ok (.goto 4, 3) := by decide +kernel
theorem dX10_lastOf_42 : decode cX10_lastOf 42 = .ok (.iconst 0, 1) := by decide +kernel
theorem dX10_lastOf_43 : decode cX10_lastOf 43 = .ok (.ior, 1) := by decide +kernel
theorem dX10_lastOf_44 : decode cX10_lastOf 44 = .ok (.istore_n 3, 1) := by decide +kernel
theorem dX10_lastOf_45 : decode cX10_lastOf 45 = .ok (.iinc 4 1, 3) := by decide +kernel
theorem dX10_lastOf_48 : decode cX10_lastOf 48 = .ok (.goto (-43), 3) := by decide +kernel
theorem dX10_lastOf_51 : decode cX10_lastOf 51 = .ok (.iload_n 3, 1) := by decide +kernel
theorem dX10_lastOf_52 : decode cX10_lastOf 52 = .ok (.ireturn, 1) := by decide +kernel
theorem dX10_last_0 : decode cX10_last 0 = .ok (.aload_n 0, 1) := by decide +kernel
theorem dX10_last_1 : decode cX10_last 1 = .ok (.aload_n 0, 1) := by decide +kernel
theorem dX10_last_2 : decode cX10_last 2 = .ok (.iconst 0, 1) := by decide +kernel
theorem dX10_last_3 : decode cX10_last 3 = .ok (.invokevirtual 122, 3) := by decide +kernel
theorem dX10_last_6 : decode cX10_last 6 = .ok (.aload_n 0, 1) := by decide +kernel
theorem dX10_last_7 : decode cX10_last 7 = .ok (.getfield 7, 3) := by decide +kernel
theorem dX10_last_10 : decode cX10_last 10 = .ok (.bipush 11, 2) := by decide +kernel
theorem dX10_last_12 : decode cX10_last 12 = .ok (.iaload, 1) := by decide +kernel
theorem dX10_last_13 : decode cX10_last 13 = .ok (.invokevirtual 125, 3) := by decide +kernel
theorem dX10_last_16 : decode cX10_last 16 = .ok (.ireturn, 1) := by decide +kernel
theorem dX10_thing_0 : decode cX10_thing 0 = .ok (.aload_n 0, 1) := by decide +kernel
theorem dX10_thing_1 : decode cX10_thing 1 = .ok (.iload_n 1, 1) := by decide +kernel
theorem dX10_thing_2 : decode cX10_thing 2 = .ok (.invokevirtual 128, 3) := by decide +kernel
theorem dX10_thing_5 : decode cX10_thing 5 = .ok (.ifCond .ne 5, 3) := by decide +kernel
theorem dX10_thing_8 : decode cX10_thing 8 = .ok (.iconst (-1), 1) := by decide +kernel
theorem dX10_thing_9 : decode cX10_thing 9 = .ok (.ireturn, 1) := by decide +kernel
theorem dX10_thing_10 : decode cX10_thing 10 = .ok (.iload_n 2, 1) := by decide +kernel
theorem dX10_thing_11 : decode cX10_thing 11 = .ok (.tableswitch 137 0 11 #[61, 61, 61, 61, 68, 74, 80, 86, 92, 104, 116, 128], 61) := by decide +kernel
theorem dX10_thing_72 : decode cX10_thing 72 = .ok (.aload_n 0, 1) := by decide +kernel
theorem dX10_thing_73 : decode cX10_thing 73 = .ok (.iload_n 1, 1) := by decide +kernel
theorem dX10_thing_74 : decode cX10_thing 74 = .ok (.iload_n 2, 1) := by decide +kernel
theorem dX10_thing_75 : decode cX10_thing 75 = .ok (.invokevirtual 101, 3) := by decide +kernel
theorem dX10_thing_78 : decode cX10_thing 78 = .ok (.ireturn, 1) := by decide +kernel
theorem dX10_thing_79 : decode cX10_thing 79 = .ok (.aload_n 0, 1) := by decide +kernel
theorem dX10_thing_80 : decode cX10_thing 80 = .ok (.iload_n 1, 1) := by decide +kernel
theorem dX10_thing_81 : decode cX10_thing 81 = .ok (.invokevirtual 131, 3) := by decide +kernel
theorem dX10_thing_84 : decode cX10_thing 84 = .ok (.ireturn, 1) := by decide +kernel
theorem dX10_thing_85 : decode cX10_thing 85 = .ok (.aload_n 0, 1) := by decide +kernel
theorem dX10_thing_86 : decode cX10_thing 86 = .ok (.iload_n 1, 1) := by decide +kernel
theorem dX10_thing_87 : decode cX10_thing 87 = .ok (.invokevirtual 134, 3) := by decide +kernel
theorem dX10_thing_90 : decode cX10_thing 90 = .ok (.ireturn, 1) := by decide +kernel
theorem dX10_thing_91 : decode cX10_thing 91 = .ok (.aload_n 0, 1) := by decide +kernel
theorem dX10_thing_92 : decode cX10_thing 92 = .ok (.iload_n 1, 1) := by decide +kernel
theorem dX10_thing_93 : decode cX10_thing 93 = .ok (.invokevirtual 137, 3) := by decide +kernel
theorem dX10_thing_96 : decode cX10_thing 96 = .ok (.ireturn, 1) := by decide +kernel
theorem dX10_thing_97 : decode cX10_thing 97 = .ok (.aload_n 0, 1) := by decide +kernel
theorem dX10_thing_98 : decode cX10_thing 98 = .ok (.iload_n 1, 1) := by decide +kernel
theorem dX10_thing_99 : decode cX10_thing 99 = .ok (.invokevirtual 140, 3) := by decide +kernel
theorem dX10_thing_102 : decode cX10_thing 102 = .ok (.ireturn, 1) := by decide +kernel
theorem dX10_thing_103 : decode cX10_thing 103 = .ok (.aload_n 0, 1) := by decide +kernel
theorem dX10_thing_104 : decode cX10_thing 104 = .ok (.getfield 7, 3) := by decide +kernel
theorem dX10_thing_107 : decode cX10_thing 107 = .ok (.bipush 8, 2) := by decide +kernel
theorem dX10_thing_109 : decode cX10_thing 109 = .ok (.iaload, 1) := by decide +kernel
theorem dX10_thing_110 : decode cX10_thing 110 = .ok (.iload_n 1, 1) := by decide +kernel
theorem dX10_thing_111 : decode cX10_thing 111 = .ok (.ishr, 1) := by decide +kernel
theorem dX10_thing_112 : decode cX10_thing 112 = .ok (.iconst 1, 1) := by decide +kernel
theorem dX10_thing_113 : decode cX10_thing 113 = .ok (.iand, 1) := by decide +kernel
theorem dX10_thing_114 : decode cX10_thing 114 = .ok (.ireturn, 1) := by decide +kernel
theorem dX10_thing_115 : decode cX10_thing 115 = .ok (.aload_n 0, 1) := by decide +kernel
theorem dX10_thing_116 : decode cX10_thing 116 = .ok (.getfield 7, 3) := by decide +kernel
theorem dX10_thing_119 : decode cX10_thing 119 = .ok (.bipush 9, 2) := by decide +kernel
theorem dX10_thing_121 : decode cX10_thing 121 = .ok (.iaload, 1) := by decide +kernel
theorem dX10_thing_122 : decode cX10_thing 122 = .ok (.iload_n 1, 1) := by decide +kernel
theorem dX10_thing_123 : decode cX10_thing 123 = .ok (.ishr, 1) := by decide +kernel
theorem dX10_thing_124 : decode cX10_thing 124 = .ok (.iconst 1, 1) := by decide +kernel
theorem dX10_thing_125 : decode cX10_thing 125 = .ok (.iand, 1) := by decide +kernel
theorem dX10_thing_126 : decode cX10_thing 126 = .ok (.ireturn, 1) := by decide +kernel
theorem dX10_thing_127 : decode cX10_thing 127 = .ok (.aload_n 0, 1) := by decide +kernel
theorem dX10_thing_128 : decode cX10_thing 128 = .ok (.getfield 7, 3) := by decide +kernel
theorem dX10_thing_131 : decode cX10_thing 131 = .ok (.bipush 10, 2) := by decide +kernel
theorem dX10_thing_133 : decode cX10_thing 133 = .ok (.iaload, 1) := by decide +kernel
theorem dX10_thing_134 : decode cX10_thing 134 = .ok (.iload_n 1, 1) := by decide +kernel
theorem dX10_thing_135 : decode cX10_thing 135 = .ok (.ishr, 1) := by decide +kernel
theorem dX10_thing_136 : decode cX10_thing 136 = .ok (.iconst 1, 1) := by decide +kernel
theorem dX10_thing_137 : decode cX10_thing 137 = .ok (.iand, 1) := by decide +kernel
theorem dX10_thing_138 : decode cX10_thing 138 = .ok (.ireturn, 1) := by decide +kernel
theorem dX10_thing_139 : decode cX10_thing 139 = .ok (.aload_n 0, 1) := by decide +kernel
theorem dX10_thing_140 : decode cX10_thing 140 = .ok (.invokevirtual 143, 3) := by decide +kernel
theorem dX10_thing_143 : decode cX10_thing 143 = .ok (.iload_n 1, 1) := by decide +kernel
theorem dX10_thing_144 : decode cX10_thing 144 = .ok (.ishr, 1) := by decide +kernel
theorem dX10_thing_145 : decode cX10_thing 145 = .ok (.iconst 1, 1) := by decide +kernel
theorem dX10_thing_146 : decode cX10_thing 146 = .ok (.iand, 1) := by decide +kernel
theorem dX10_thing_147 : decode cX10_thing 147 = .ok (.ireturn, 1) := by decide +kernel
theorem dX10_thing_148 : decode cX10_thing 148 = .ok (.bipush (-2), 2) := by decide +kernel
theorem dX10_thing_150 : decode cX10_thing 150 = .ok (.ireturn, 1) := by decide +kernel
theorem dX10_alike_0 : decode cX10_alike 0 = .ok (.aload_n 0, 1) := by decide +kernel
theorem dX10_alike_1 : decode cX10_alike 1 = .ok (.iload_n 1, 1) := by decide +kernel
theorem dX10_alike_2 : decode cX10_alike 2 = .ok (.invokevirtual 128, 3) := by decide +kernel
theorem dX10_alike_5 : decode cX10_alike 5 = .ok (.ifCond .eq 23, 3) := by decide +kernel
theorem dX10_alike_8 : decode cX10_alike 8 = .ok (.aload_n 0, 1) := by decide +kernel
theorem dX10_alike_9 : decode cX10_alike 9 = .ok (.iload_n 1, 1) := by decide +kernel
theorem dX10_alike_10 : decode cX10_alike 10 = .ok (.aload_n 0, 1) := by decide +kernel
theorem dX10_alike_11 : decode cX10_alike 11 = .ok (.iconst 0, 1) := by decide +kernel
theorem dX10_alike_12 : decode cX10_alike 12 = .ok (.invokevirtual 122, 3) := by decide +kernel
theorem dX10_alike_15 : decode cX10_alike 15 = .ok (.aload_n 0, 1) := by decide +kernel
theorem dX10_alike_16 : decode cX10_alike 16 = .ok (.getfield 7, 3) := by decide +kernel
theorem dX10_alike_19 : decode cX10_alike 19 = .ok (.bipush 11, 2) := by decide +kernel
theorem dX10_alike_21 : decode cX10_alike 21 = .ok (.iaload, 1) := by decide +kernel
theorem dX10_alike_22 : decode cX10_alike 22 = .ok (.invokevirtual 118, 3) := by decide +kernel
theorem dX10_alike_25 : decode cX10_alike 25 = .ok (.goto 4, 3) := by decide +kernel
theorem dX10_alike_28 : decode cX10_alike 28 = .ok (.iconst (-1), 1) := by decide +kernel
theorem dX10_alike_29 : decode cX10_alike 29 = .ok (.ireturn, 1) := by decide +kernel
theorem dX10_priceBy_0 : decode cX10_priceBy 0 = .ok (.iload_n 2, 1) := by decide +kernel
theorem dX10_priceBy_1 : decode cX10_priceBy 1 = .ok (.iload_n 1, 1) := by decide +kernel
theorem dX10_priceBy_2 : decode cX10_priceBy 2 = .ok (.invokestatic 108, 3) := by decide +kernel
theorem dX10_priceBy_5 : decode cX10_priceBy 5 = .ok (.ifCond .eq 33, 3) := by decide +kernel
theorem dX10_priceBy_8 : decode cX10_priceBy 8 = .ok (.bipush 12, 2) := by decide +kernel
theorem dX10_priceBy_10 : decode cX10_priceBy 10 = .ok (.aload_n 0, 1) := by decide +kernel
theorem dX10_priceBy_11 : decode cX10_priceBy 11 = .ok (.iload_n 1, 1) := by decide +kernel
theorem dX10_priceBy_12 : decode cX10_priceBy 12 = .ok (.invokevirtual 134, 3) := by decide +kernel
theorem dX10_priceBy_15 : decode cX10_priceBy 15 = .ok (.imul, 1) := by decide +kernel
theorem dX10_priceBy_16 : decode cX10_priceBy 16 = .ok (.iconst 1, 1) := by decide +kernel
theorem dX10_priceBy_17 : decode cX10_priceBy 17 = .ok (.aload_n 0, 1) := by decide +kernel
theorem dX10_priceBy_18 : decode cX10_priceBy 18 = .ok (.iload_n 1, 1) := by decide +kernel
theorem dX10_priceBy_19 : decode cX10_priceBy 19 = .ok (.iload_n 2, 1) := by decide +kernel
theorem dX10_priceBy_20 : decode cX10_priceBy 20 = .ok (.aload_n 0, 1) := by decide +kernel
theorem dX10_priceBy_21 : decode cX10_priceBy 21 = .ok (.getfield 7, 3) := by decide +kernel
theorem dX10_priceBy_24 : decode cX10_priceBy 24 = .ok (.bipush 11, 2) := by decide +kernel
theorem dX10_priceBy_26 : decode cX10_priceBy 26 = .ok (.iaload, 1) := by decide +kernel
theorem dX10_priceBy_27 : decode cX10_priceBy 27 = .ok (.invokevirtual 118, 3) := by decide +kernel
theorem dX10_priceBy_30 : decode cX10_priceBy 30 = .ok (.invokestatic 115, 3) := by decide +kernel
theorem dX10_priceBy_33 : decode cX10_priceBy 33 = .ok (.iadd, 1) := by decide +kernel
theorem dX10_priceBy_34 : decode cX10_priceBy 34 = .ok (.idiv, 1) := by decide +kernel
theorem dX10_priceBy_35 : decode cX10_priceBy 35 = .ok (.goto 4, 3) := by decide +kernel
theorem dX10_priceBy_38 : decode cX10_priceBy 38 = .ok (.iconst 0, 1) := by decide +kernel
theorem dX10_priceBy_39 : decode cX10_priceBy 39 = .ok (.ireturn, 1) := by decide +kernel
theorem dX10_price_0 : decode cX10_price 0 = .ok (.aload_n 0, 1) := by decide +kernel
theorem dX10_price_1 : decode cX10_price 1 = .ok (.iload_n 1, 1) := by decide +kernel
theorem dX10_price_2 : decode cX10_price 2 = .ok (.invokevirtual 128, 3) := by decide +kernel
theorem dX10_price_5 : decode cX10_price 5 = .ok (.ifCond .eq 16, 3) := by decide +kernel
theorem dX10_price_8 : decode cX10_price 8 = .ok (.aload_n 0, 1) := by decide +kernel
theorem dX10_price_9 : decode cX10_price 9 = .ok (.iload_n 1, 1) := by decide +kernel
theorem dX10_price_10 : decode cX10_price 10 = .ok (.aload_n 0, 1) := by decide +kernel
theorem dX10_price_11 : decode cX10_price 11 = .ok (.iconst 0, 1) := by decide +kernel
theorem dX10_price_12 : decode cX10_price 12 = .ok (.invokevirtual 122, 3) := by decide +kernel
theorem dX10_price_15 : decode cX10_price 15 = .ok (.invokevirtual 146, 3) := by decide +kernel
theorem dX10_price_18 : decode cX10_price 18 = .ok (.goto 4, 3) := by decide +kernel
theorem dX10_price_21 : decode cX10_price 21 = .ok (.iconst (-1), 1) := by decide +kernel
theorem dX10_price_22 : decode cX10_price 22 = .ok (.ireturn, 1) := by decide +kernel
theorem dX10_keepAct_0 : decode cX10_keepAct 0 = .ok (.iconst 0, 1) := by decide +kernel
theorem dX10_keepAct_1 : decode cX10_keepAct 1 = .ok (.istore_n 1, 1) := by decide +kernel
theorem dX10_keepAct_2 : decode cX10_keepAct 2 = .ok (.iload_n 1, 1) := by decide +kernel
theorem dX10_keepAct_3 : decode cX10_keepAct 3 = .ok (.bipush 14, 2) := by decide +kernel
theorem dX10_keepAct_5 : decode cX10_keepAct 5 = .ok (.if_icmp .ge 29, 3) := by decide +kernel
theorem dX10_keepAct_8 : decode cX10_keepAct 8 = .ok (.aload_n 0, 1) := by decide +kernel
theorem dX10_keepAct_9 : decode cX10_keepAct 9 = .ok (.getfield 16, 3) := by decide +kernel
theorem dX10_keepAct_12 : decode cX10_keepAct 12 = .ok (.bipush 14, 2) := by decide +kernel
theorem dX10_keepAct_14 : decode cX10_keepAct 14 = .ok (.aload_n 0, 1) := by decide +kernel
theorem dX10_keepAct_15 : decode cX10_keepAct 15 = .ok (.getfield 149, 3) := by decide +kernel
theorem dX10_keepAct_18 : decode cX10_keepAct 18 = .ok (.imul, 1) := by decide +kernel
theorem dX10_keepAct_19 : decode cX10_keepAct 19 = .ok (.iload_n 1, 1) := by decide +kernel
theorem dX10_keepAct_20 : decode cX10_keepAct 20 = .ok (.iadd, 1) := by decide +kernel
theorem dX10_keepAct_21 : decode cX10_keepAct 21 = .ok (.aload_n 0, 1) := by decide +kernel
theorem dX10_keepAct_22 : decode cX10_keepAct 22 = .ok (.getfield 7, 3) := by decide +kernel
theorem dX10_keepAct_25 : decode cX10_keepAct 25 = .ok (.iload_n 1, 1) := by decide +kernel
theorem dX10_keepAct_26 : decode cX10_keepAct 26 = .ok (.iaload, 1) := by decide +kernel
theorem dX10_keepAct_27 : decode cX10_keepAct 27 = .ok (.iastore, 1) := by decide +kernel
theorem dX10_keepAct_28 : decode cX10_keepAct 28 = .ok (.iinc 1 1, 3) := by decide +kernel
theorem dX10_keepAct_31 : decode cX10_keepAct 31 = .ok (.goto (-29), 3) := by decide +kernel
theorem dX10_keepAct_34 : decode cX10_keepAct 34 = .ok (.aload_n 0, 1) := by decide +kernel
theorem dX10_keepAct_35 : decode cX10_keepAct 35 = .ok (.aload_n 0, 1) := by decide +kernel
theorem dX10_keepAct_36 : decode cX10_keepAct 36 = .ok (.getfield 149, 3) := by decide +kernel
theorem dX10_keepAct_39 : decode cX10_keepAct 39 = .ok (.iconst 1, 1) := by decide +kernel
theorem dX10_keepAct_40 : decode cX10_keepAct 40 = .ok (.iadd, 1) := by decide +kernel
theorem dX10_keepAct_41 : decode cX10_keepAct 41 = .ok (.bipush 16, 2) := by decide +kernel
theorem dX10_keepAct_43 : decode cX10_keepAct 43 = .ok (.irem, 1) := by decide +kernel
theorem dX10_keepAct_44 : decode cX10_keepAct 44 = .ok (.putfield 149, 3) := by decide +kernel
theorem dX10_keepAct_47 : decode cX10_keepAct 47 = .ok (.aload_n 0, 1) := by decide +kernel
theorem dX10_keepAct_48 : decode cX10_keepAct 48 = .ok (.aload_n 0, 1) := by decide +kernel
theorem dX10_keepAct_49 : decode cX10_keepAct 49 = .ok (.getfield 92, 3) := by decide +kernel
theorem dX10_keepAct_52 : decode cX10_keepAct 52 = .ok (.bipush 16, 2) := by decide +kernel
theorem dX10_keepAct_54 : decode cX10_keepAct 54 = .ok (.if_icmp .ge 12, 3) := by decide +kernel
theorem dX10_keepAct_57 : decode cX10_keepAct 57 = .ok (.aload_n 0, 1) := by decide +kernel
theorem dX10_keepAct_58 : decode cX10_keepAct 58 = .ok (.getfield 92, 3) := by decide +kernel
theorem dX10_keepAct_61 : decode cX10_keepAct 61 = .ok (.iconst 1, 1) := by decide +kernel
theorem dX10_keepAct_62 : decode cX10_keepAct 62 = .ok (.iadd, 1) := by decide +kernel
theorem dX10_keepAct_63 : decode cX10_keepAct 63 = .ok (.goto 5, 3) := by decide +kernel
theorem dX10_keepAct_66 : decode cX10_keepAct 66 = .ok (.bipush 16, 2) := by decide +kernel
theorem dX10_keepAct_68 : decode cX10_keepAct 68 = .ok (.putfield 92, 3) := by decide +kernel
theorem dX10_keepAct_71 : decode cX10_keepAct 71 = .ok (.return_, 1) := by decide +kernel
theorem dX10_guardAt_0 : decode cX10_guardAt 0 = .ok (.aload_n 0, 1) := by decide +kernel
theorem dX10_guardAt_1 : decode cX10_guardAt 1 = .ok (.getfield 7, 3) := by decide +kernel
theorem dX10_guardAt_4 : decode cX10_guardAt 4 = .ok (.bipush 14, 2) := by decide +kernel
theorem dX10_guardAt_6 : decode cX10_guardAt 6 = .ok (.iload_n 1, 1) := by decide +kernel
theorem dX10_guardAt_7 : decode cX10_guardAt 7 = .ok (.imul, 1) := by decide +kernel
theorem dX10_guardAt_8 : decode cX10_guardAt 8 = .ok (.iload_n 2, 1) := by decide +kernel
theorem dX10_guardAt_9 : decode cX10_guardAt 9 = .ok (.iadd, 1) := by decide +kernel
theorem dX10_guardAt_10 : decode cX10_guardAt 10 = .ok (.iaload, 1) := by decide +kernel
theorem dX10_guardAt_11 : decode cX10_guardAt 11 = .ok (.iconst 2, 1) := by decide +kernel
theorem dX10_guardAt_12 : decode cX10_guardAt 12 = .ok (.irem, 1) := by decide +kernel
theorem dX10_guardAt_13 : decode cX10_guardAt 13 = .ok (.ireturn, 1) := by decide +kernel
theorem dX10_canBreak_0 : decode cX10_canBreak 0 = .ok (.bipush 14, 2) := by decide +kernel
theorem dX10_canBreak_2 : decode cX10_canBreak 2 = .ok (.iload_n 1, 1) := by decide +kernel
theorem dX10_canBreak_3 : decode cX10_canBreak 3 = .ok (.imul, 1) := by decide +kernel
theorem dX10_canBreak_4 : decode cX10_canBreak 4 = .ok (.istore_n 3, 1) := by decide +kernel
theorem dX10_canBreak_5 : decode cX10_canBreak 5 = .ok (.aload_n 0, 1) := by decide +kernel
theorem dX10_canBreak_6 : decode cX10_canBreak 6 = .ok (.getfield 7, 3) := by decide +kernel
theorem dX10_canBreak_9 : decode cX10_canBreak 9 = .ok (.iload_n 3, 1) := by decide +kernel
theorem dX10_canBreak_10 : decode cX10_canBreak 10 = .ok (.bipush 8, 2) := by decide +kernel
theorem dX10_canBreak_12 : decode cX10_canBreak 12 = .ok (.iadd, 1) := by decide +kernel
theorem dX10_canBreak_13 : decode cX10_canBreak 13 = .ok (.iaload, 1) := by decide +kernel
theorem dX10_canBreak_14 : decode cX10_canBreak 14 = .ok (.iload_n 2, 1) := by decide +kernel
theorem dX10_canBreak_15 : decode cX10_canBreak 15 = .ok (.invokestatic 108, 3) := by decide +kernel
theorem dX10_canBreak_18 : decode cX10_canBreak 18 = .ok (.ifCond .ne 32, 3) := by decide +kernel
theorem dX10_canBreak_21 : decode cX10_canBreak 21 = .ok (.aload_n 0, 1) := by decide +kernel
theorem dX10_canBreak_22 : decode cX10_canBreak 22 = .ok (.getfield 7, 3) := by decide +kernel
theorem dX10_canBreak_25 : decode cX10_canBreak 25 = .ok (.iload_n 3, 1) := by decide +kernel
theorem dX10_canBreak_26 : decode cX10_canBreak 26 = .ok (.bipush 10, 2) := by decide +kernel
theorem dX10_canBreak_28 : decode cX10_canBreak 28 = .ok (.iadd, 1) := by decide +kernel
theorem dX10_canBreak_29 : decode cX10_canBreak 29 = .ok (.iaload, 1) := by decide +kernel
theorem dX10_canBreak_30 : decode cX10_canBreak 30 = .ok (.iload_n 2, 1) := by decide +kernel
theorem dX10_canBreak_31 : decode cX10_canBreak 31 = .ok (.invokestatic 108, 3) := by decide +kernel
theorem dX10_canBreak_34 : decode cX10_canBreak 34 = .ok (.ifCond .ne 16, 3) := by decide +kernel
theorem dX10_canBreak_37 : decode cX10_canBreak 37 = .ok (.aload_n 0, 1) := by decide +kernel
theorem dX10_canBreak_38 : decode cX10_canBreak 38 = .ok (.iload_n 1, 1) := by decide +kernel
theorem dX10_canBreak_39 : decode cX10_canBreak 39 = .ok (.iload_n 2, 1) := by decide +kernel
theorem dX10_canBreak_40 : decode cX10_canBreak 40 = .ok (.invokevirtual 152, 3) := by decide +kernel
theorem dX10_canBreak_43 : decode cX10_canBreak 43 = .ok (.ifCond .ne 7, 3) := by decide +kernel
theorem dX10_canBreak_46 : decode cX10_canBreak 46 = .ok (.iconst 1, 1) := by decide +kernel
theorem dX10_canBreak_47 : decode cX10_canBreak 47 = .ok (.goto 4, 3) := by decide +kernel
theorem dX10_canBreak_50 : decode cX10_canBreak 50 = .ok (.iconst 0, 1) := by decide +kernel
theorem dX10_canBreak_51 : decode cX10_canBreak 51 = .ok (.ireturn, 1) := by decide +kernel
theorem dX10_canClaim_0 : decode cX10_canClaim 0 = .ok (.bipush 14, 2) := by decide +kernel
theorem dX10_canClaim_2 : decode cX10_canClaim 2 = .ok (.iload_n 1, 1) := by decide +kernel
theorem dX10_canClaim_3 : decode cX10_canClaim 3 = .ok (.imul, 1) := by decide +kernel
theorem dX10_canClaim_4 : decode cX10_canClaim 4 = .ok (.istore_n 3, 1) := by decide +kernel
theorem dX10_canClaim_5 : decode cX10_canClaim 5 = .ok (.aload_n 0, 1) := by decide +kernel
theorem dX10_canClaim_6 : decode cX10_canClaim 6 = .ok (.aload_n 0, 1) := by decide +kernel
theorem dX10_canClaim_7 : decode cX10_canClaim 7 = .ok (.iload_n 1, 1) := by decide +kernel
theorem dX10_canClaim_8 : decode cX10_canClaim 8 = .ok (.invokevirtual 122, 3) := by decide +kernel
theorem dX10_canClaim_11 : decode cX10_canClaim 11 = .ok (.aload_n 0, 1) := by decide +kernel
theorem dX10_canClaim_12 : decode cX10_canClaim 12 = .ok (.getfield 7, 3) := by decide +kernel
theorem dX10_canClaim_15 : decode cX10_canClaim 15 = .ok (.iload_n 3, 1) := by decide +kernel
theorem dX10_canClaim_16 : decode cX10_canClaim 16 = .ok (.bipush 11, 2) := by decide +kernel
theorem dX10_canClaim_18 : decode cX10_canClaim 18 = .ok (.iadd, 1) := by decide +kernel
theorem dX10_canClaim_19 : decode cX10_canClaim 19 = .ok (.iaload, 1) := by decide +kernel
theorem dX10_canClaim_20 : decode cX10_canClaim 20 = .ok (.invokevirtual 125, 3) := by decide +kernel
theorem dX10_canClaim_23 : decode cX10_canClaim 23 = .ok (.iload_n 2, 1) := by decide +kernel
theorem dX10_canClaim_24 : decode cX10_canClaim 24 = .ok (.invokestatic 108, 3) := by decide +kernel
theorem dX10_canClaim_27 : decode cX10_canClaim 27 = .ok (.ifCond .eq 23, 3) := by decide +kernel
theorem dX10_canClaim_30 : decode cX10_canClaim 30 = .ok (.aload_n 0, 1) := by decide +kernel
theorem dX10_canClaim_31 : decode cX10_canClaim 31 = .ok (.getfield 7, 3) := by decide +kernel
theorem dX10_canClaim_34 : decode cX10_canClaim 34 = .ok (.iload_n 3, 1) := by decide +kernel
theorem dX10_canClaim_35 : decode cX10_canClaim 35 = .ok (.bipush 10, 2) := by decide +kernel
theorem dX10_canClaim_37 : decode cX10_canClaim 37 = .ok (.iadd, 1) := by decide +kernel
theorem dX10_canClaim_38 : decode cX10_canClaim 38 = .ok (.iaload, 1) := by decide +kernel
theorem dX10_canClaim_39 : decode cX10_canClaim 39 = .ok (.iload_n 2, 1) := by decide +kernel
theorem dX10_canClaim_40 : decode cX10_canClaim 40 = .ok (.invokestatic 108, 3) := by decide +kernel
theorem dX10_canClaim_43 : decode cX10_canClaim 43 = .ok (.ifCond .ne 7, 3) := by decide +kernel
theorem dX10_canClaim_46 : decode cX10_canClaim 46 = .ok (.iconst 1, 1) := by decide +kernel
theorem dX10_canClaim_47 : decode cX10_canClaim 47 = .ok (.goto 4, 3) := by decide +kernel
theorem dX10_canClaim_50 : decode cX10_canClaim 50 = .ok (.iconst 0, 1) := by decide +kernel
theorem dX10_canClaim_51 : decode cX10_canClaim 51 = .ok (.ireturn, 1) := by decide +kernel
theorem dX10_canHide_0 : decode cX10_canHide 0 = .ok (.bipush 14, 2) := by decide +kernel
theorem dX10_canHide_2 : decode cX10_canHide 2 = .ok (.iload_n 1, 1) := by decide +kernel
theorem dX10_canHide_3 : decode cX10_canHide 3 = .ok (.imul, 1) := by decide +kernel
theorem dX10_canHide_4 : decode cX10_canHide 4 = .ok (.istore_n 3, 1) := by decide +kernel
theorem dX10_canHide_5 : decode cX10_canHide 5 = .ok (.aload_n 0, 1) := by decide +kernel
theorem dX10_canHide_6 : decode cX10_canHide 6 = .ok (.getfield 7, 3) := by decide +kernel
theorem dX10_canHide_9 : decode cX10_canHide 9 = .ok (.iload_n 3, 1) := by decide +kernel
theorem dX10_canHide_10 : decode cX10_canHide 10 = .ok (.bipush 8, 2) := by decide +kernel
theorem dX10_canHide_12 : decode cX10_canHide 12 = .ok (.iadd, 1) := by decide +kernel
theorem dX10_canHide_13 : decode cX10_canHide 13 = .ok (.iaload, 1) := by decide +kernel
theorem dX10_canHide_14 : decode cX10_canHide 14 = .ok (.iload_n 2, 1) := by decide +kernel
theorem dX10_canHide_15 : decode cX10_canHide 15 = .ok (.invokestatic 108, 3) := by decide +kernel
theorem dX10_canHide_18 : decode cX10_canHide 18 = .ok (.ifCond .ne 23, 3) := by decide +kernel
theorem dX10_canHide_21 : decode cX10_canHide 21 = .ok (.aload_n 0, 1) := by decide +kernel
theorem dX10_canHide_22 : decode cX10_canHide 22 = .ok (.getfield 7, 3) := by decide +kernel
theorem dX10_canHide_25 : decode cX10_canHide 25 = .ok (.iload_n 3, 1) := by decide +kernel
theorem dX10_canHide_26 : decode cX10_canHide 26 = .ok (.bipush 10, 2) := by decide +kernel
theorem dX10_canHide_28 : decode cX10_canHide 28 = .ok (.iadd, 1) := by decide +kernel
theorem dX10_canHide_29 : decode cX10_canHide 29 = .ok (.iaload, 1) := by decide +kernel
theorem dX10_canHide_30 : decode cX10_canHide 30 = .ok (.iload_n 2, 1) := by decide +kernel
theorem dX10_canHide_31 : decode cX10_canHide 31 = .ok (.invokestatic 108, 3) := by decide +kernel
theorem dX10_canHide_34 : decode cX10_canHide 34 = .ok (.ifCond .ne 7, 3) := by decide +kernel
theorem dX10_canHide_37 : decode cX10_canHide 37 = .ok (.iconst 1, 1) := by decide +kernel
theorem dX10_canHide_38 : decode cX10_canHide 38 = .ok (.goto 4, 3) := by decide +kernel
theorem dX10_canHide_41 : decode cX10_canHide 41 = .ok (.iconst 0, 1) := by decide +kernel
theorem dX10_canHide_42 : decode cX10_canHide 42 = .ok (.ireturn, 1) := by decide +kernel
theorem dX10_free_0 : decode cX10_free 0 = .ok (.bipush 14, 2) := by decide +kernel
theorem dX10_free_2 : decode cX10_free 2 = .ok (.iload_n 1, 1) := by decide +kernel
theorem dX10_free_3 : decode cX10_free 3 = .ok (.imul, 1) := by decide +kernel
theorem dX10_free_4 : decode cX10_free 4 = .ok (.istore_n 3, 1) := by decide +kernel
theorem dX10_free_5 : decode cX10_free 5 = .ok (.aload_n 0, 1) := by decide +kernel
theorem dX10_free_6 : decode cX10_free 6 = .ok (.getfield 7, 3) := by decide +kernel
theorem dX10_free_9 : decode cX10_free 9 = .ok (.iload_n 3, 1) := by decide +kernel
theorem dX10_free_10 : decode cX10_free 10 = .ok (.bipush 10, 2) := by decide +kernel
theorem dX10_free_12 : decode cX10_free 12 = .ok (.iadd, 1) := by decide +kernel
theorem dX10_free_13 : decode cX10_free 13 = .ok (.dup2, 1) := by decide +kernel
theorem dX10_free_14 : decode cX10_free 14 = .ok (.iaload, 1) := by decide +kernel
theorem dX10_free_15 : decode cX10_free 15 = .ok (.aload_n 0, 1) := by decide +kernel
theorem dX10_free_16 : decode cX10_free 16 = .ok (.iload_n 2, 1) := by decide +kernel
theorem dX10_free_17 : decode cX10_free 17 = .ok (.aload_n 0, 1) := by decide +kernel
theorem dX10_free_18 : decode cX10_free 18 = .ok (.getfield 7, 3) := by decide +kernel
theorem dX10_free_21 : decode cX10_free 21 = .ok (.iload_n 3, 1) := by decide +kernel
theorem dX10_free_22 : decode cX10_free 22 = .ok (.bipush 10, 2) := by decide +kernel
theorem dX10_free_24 : decode cX10_free 24 = .ok (.iadd, 1) := by decide +kernel
theorem dX10_free_25 : decode cX10_free 25 = .ok (.iaload, 1) := by decide +kernel
theorem dX10_free_26 : decode cX10_free 26 = .ok (.aload_n 0, 1) := by decide +kernel
theorem dX10_free_27 : decode cX10_free 27 = .ok (.getfield 7, 3) := by decide +kernel
theorem dX10_free_30 : decode cX10_free 30 = .ok (.iload_n 3, 1) := by decide +kernel
theorem dX10_free_31 : decode cX10_free 31 = .ok (.bipush 11, 2) := by decide +kernel
theorem dX10_free_33 : decode cX10_free 33 = .ok (.iadd, 1) := by decide +kernel
theorem dX10_free_34 : decode cX10_free 34 = .ok (.iaload, 1) := by decide +kernel
theorem dX10_free_35 : decode cX10_free 35 = .ok (.invokevirtual 118, 3) := by decide +kernel
theorem dX10_free_38 : decode cX10_free 38 = .ok (.iconst (-1), 1) := by decide +kernel
theorem dX10_free_39 : decode cX10_free 39 = .ok (.ixor, 1) := by decide +kernel
theorem dX10_free_40 : decode cX10_free 40 = .ok (.iand, 1) := by decide +kernel
theorem dX10_free_41 : decode cX10_free 41 = .ok (.iastore, 1) := by decide +kernel
theorem dX10_free_42 : decode cX10_free 42 = .ok (.return_, 1) := by decide +kernel
theorem dX10_doHide_0 : decode cX10_doHide 0 = .ok (.aload_n 0, 1) := by decide +kernel
theorem dX10_doHide_1 : decode cX10_doHide 1 = .ok (.getfield 7, 3) := by decide +kernel
theorem dX10_doHide_4 : decode cX10_doHide 4 = .ok (.bipush 14, 2) := by decide +kernel
theorem dX10_doHide_6 : decode cX10_doHide 6 = .ok (.iload_n 1, 1) := by decide +kernel
theorem dX10_doHide_7 : decode cX10_doHide 7 = .ok (.imul, 1) := by decide +kernel
theorem dX10_doHide_8 : decode cX10_doHide 8 = .ok (.bipush 9, 2) := by decide +kernel
theorem dX10_doHide_10 : decode cX10_doHide 10 = .ok (.iadd, 1) := by decide +kernel
theorem dX10_doHide_11 : decode cX10_doHide 11 = .ok (.dup2, 1) := by decide +kernel
theorem dX10_doHide_12 : decode cX10_doHide 12 = .ok (.iaload, 1) := by decide +kernel
theorem dX10_doHide_13 : decode cX10_doHide 13 = .ok (.iconst 1, 1) := by decide +kernel
theorem dX10_doHide_14 : decode cX10_doHide 14 = .ok (.iload_n 2, 1) := by decide +kernel
theorem dX10_doHide_15 : decode cX10_doHide 15 = .ok (.ishl, 1) := by decide +kernel
theorem dX10_doHide_16 : decode cX10_doHide 16 = .ok (.ixor, 1) := by decide +kernel
theorem dX10_doHide_17 : decode cX10_doHide 17 = .ok (.iastore, 1) := by decide +kernel
theorem dX10_doHide_18 : decode cX10_doHide 18 = .ok (.aload_n 0, 1) := by decide +kernel
theorem dX10_doHide_19 : decode cX10_doHide 19 = .ok (.getfield 7, 3) := by decide +kernel
theorem dX10_doHide_22 : decode cX10_doHide 22 = .ok (.bipush 14, 2) := by decide +kernel
theorem dX10_doHide_24 : decode cX10_doHide 24 = .ok (.iload_n 1, 1) := by decide +kernel
theorem dX10_doHide_25 : decode cX10_doHide 25 = .ok (.imul, 1) := by decide +kernel
theorem dX10_doHide_26 : decode cX10_doHide 26 = .ok (.bipush 9, 2) := by decide +kernel
theorem dX10_doHide_28 : decode cX10_doHide 28 = .ok (.iadd, 1) := by decide +kernel
theorem dX10_doHide_29 : decode cX10_doHide 29 = .ok (.iaload, 1) := by decide +kernel
theorem dX10_doHide_30 : decode cX10_doHide 30 = .ok (.iload_n 2, 1) := by decide +kernel
theorem dX10_doHide_31 : decode cX10_doHide 31 = .ok (.invokestatic 108, 3) := by decide +kernel
theorem dX10_doHide_34 : decode cX10_doHide 34 = .ok (.ifCond .ne 9, 3) := by decide +kernel
theorem dX10_doHide_37 : decode cX10_doHide 37 = .ok (.aload_n 0, 1) := by decide +kernel
theorem dX10_doHide_38 : decode cX10_doHide 38 = .ok (.iload_n 1, 1) := by decide +kernel
theorem dX10_doHide_39 : decode cX10_doHide 39 = .ok (.iload_n 2, 1) := by decide +kernel
theorem dX10_doHide_40 : decode cX10_doHide 40 = .ok (.invokevirtual 155, 3) := by decide +kernel
theorem dX10_doHide_43 : decode cX10_doHide 43 = .ok (.return_, 1) := by decide +kernel
theorem dX10_doGuard_0 : decode cX10_doGuard 0 = .ok (.aload_n 0, 1) := by decide +kernel
theorem dX10_doGuard_1 : decode cX10_doGuard 1 = .ok (.getfield 7, 3) := by decide +kernel
theorem dX10_doGuard_4 : decode cX10_doGuard 4 = .ok (.bipush 14, 2) := by decide +kernel
theorem dX10_doGuard_6 : decode cX10_doGuard 6 = .ok (.iload_n 1, 1) := by decide +kernel
theorem dX10_doGuard_7 : decode cX10_doGuard 7 = .ok (.imul, 1) := by decide +kernel
theorem dX10_doGuard_8 : decode cX10_doGuard 8 = .ok (.iload_n 2, 1) := by decide +kernel
theorem dX10_doGuard_9 : decode cX10_doGuard 9 = .ok (.iadd, 1) := by decide +kernel
theorem dX10_doGuard_10 : decode cX10_doGuard 10 = .ok (.dup2, 1) := by decide +kernel
theorem dX10_doGuard_11 : decode cX10_doGuard 11 = .ok (.iaload, 1) := by decide +kernel
theorem dX10_doGuard_12 : decode cX10_doGuard 12 = .ok (.aload_n 0, 1) := by decide +kernel
theorem dX10_doGuard_13 : decode cX10_doGuard 13 = .ok (.iload_n 1, 1) := by decide +kernel
theorem dX10_doGuard_14 : decode cX10_doGuard 14 = .ok (.iload_n 2, 1) := by decide +kernel
theorem dX10_doGuard_15 : decode cX10_doGuard 15 = .ok (.invokevirtual 152, 3) := by decide +kernel
theorem dX10_doGuard_18 : decode cX10_doGuard 18 = .ok (.ifCond .ne 7, 3) := by decide +kernel
theorem dX10_doGuard_21 : decode cX10_doGuard 21 = .ok (.iconst 1, 1) := by decide +kernel
theorem dX10_doGuard_22 : decode cX10_doGuard 22 = .ok (.goto 4, 3) := by decide +kernel
theorem dX10_doGuard_25 : decode cX10_doGuard 25 = .ok (.iconst (-1), 1) := by decide +kernel
theorem dX10_doGuard_26 : decode cX10_doGuard 26 = .ok (.iadd, 1) := by decide +kernel
theorem dX10_doGuard_27 : decode cX10_doGuard 27 = .ok (.iastore, 1) := by decide +kernel
theorem dX10_doGuard_28 : decode cX10_doGuard 28 = .ok (.return_, 1) := by decide +kernel
theorem dX10_broken_0 : decode cX10_broken 0 = .ok (.aload_n 0, 1) := by decide +kernel
theorem dX10_broken_1 : decode cX10_broken 1 = .ok (.iload_n 1, 1) := by decide +kernel
theorem dX10_broken_2 : decode cX10_broken 2 = .ok (.invokevirtual 128, 3) := by decide +kernel
theorem dX10_broken_5 : decode cX10_broken 5 = .ok (.ifCond .ne 5, 3) := by decide +kernel
theorem dX10_broken_8 : decode cX10_broken 8 = .ok (.iconst (-1), 1) := by decide +kernel
theorem dX10_broken_9 : decode cX10_broken 9 = .ok (.ireturn, 1) := by decide +kernel
theorem dX10_broken_10 : decode cX10_broken 10 = .ok (.aload_n 0, 1) := by decide +kernel
theorem dX10_broken_11 : decode cX10_broken 11 = .ok (.iconst 0, 1) := by decide +kernel
theorem dX10_broken_12 : decode cX10_broken 12 = .ok (.iload_n 1, 1) := by decide +kernel
theorem dX10_broken_13 : decode cX10_broken 13 = .ok (.invokevirtual 159, 3) := by decide +kernel
theorem dX10_broken_16 : decode cX10_broken 16 = .ok (.ifCond .ne 6, 3) := by decide +kernel
theorem dX10_broken_19 : decode cX10_broken 19 = .ok (.bipush (-3), 2) := by decide +kernel
theorem dX10_broken_21 : decode cX10_broken 21 = .ok (.ireturn, 1) := by decide +kernel
theorem dX10_broken_22 : decode cX10_broken 22 = .ok (.aload_n 0, 1) := by decide +kernel
theorem dX10_broken_23 : decode cX10_broken 23 = .ok (.invokevirtual 162, 3) := by decide +kernel
theorem dX10_broken_26 : decode cX10_broken 26 = .ok (.aload_n 0, 1) := by decide +kernel
theorem dX10_broken_27 : decode cX10_broken 27 = .ok (.getfield 7, 3) := by decide +kernel
theorem dX10_broken_30 : decode cX10_broken 30 = .ok (.bipush 8, 2) := by decide +kernel
theorem dX10_broken_32 : decode cX10_broken 32 = .ok (.dup2, 1) := by decide +kernel
theorem dX10_broken_33 : decode cX10_broken 33 = .ok (.iaload, 1) := by decide +kernel
theorem dX10_broken_34 : decode cX10_broken 34 = .ok (.iconst 1, 1) := by decide +kernel
theorem dX10_broken_35 : decode cX10_broken 35 = .ok (.iload_n 1, 1) := by decide +kernel
theorem dX10_broken_36 : decode cX10_broken 36 = .ok (.ishl, 1) := by decide +kernel
theorem dX10_broken_37 : decode cX10_broken 37 = .ok (.ior, 1) := by decide +kernel
theorem dX10_broken_38 : decode cX10_broken 38 = .ok (.iastore, 1) := by decide +kernel
theorem dX10_broken_39 : decode cX10_broken 39 = .ok (.aload_n 0, 1) := by decide +kernel
theorem dX10_broken_40 : decode cX10_broken 40 = .ok (.invokevirtual 143, 3) := by decide +kernel
theorem dX10_broken_43 : decode cX10_broken 43 = .ok (.ireturn, 1) := by decide +kernel
theorem dX10_forge_0 : decode cX10_forge 0 = .ok (.iload_n 1, 1) := by decide +kernel
theorem dX10_forge_1 : decode cX10_forge 1 = .ok (.i2l, 1) := by decide +kernel
theorem dX10_forge_2 : decode cX10_forge 2 = .ok (.lconst 0, 1) := by decide +kernel
theorem dX10_forge_3 : decode cX10_forge 3 = .ok (.ldc2_w 165, 3) := by decide +kernel
theorem dX10_forge_6 : decode cX10_forge 6 = .ok (.invokestatic 58, 3) := by decide +kernel
theorem dX10_forge_9 : decode cX10_forge 9 = .ok (.ifCond .eq 15, 3) := by decide +kernel
theorem dX10_forge_12 : decode cX10_forge 12 = .ok (.iload_n 2, 1) := by decide +kernel
theorem dX10_forge_13 : decode cX10_forge 13 = .ok (.i2l, 1) := by decide +kernel
theorem dX10_forge_14 : decode cX10_forge 14 = .ok (.lconst 0, 1) := by decide +kernel
theorem dX10_forge_15 : decode cX10_forge 15 = .ok (.ldc2_w 167, 3) := by decide +kernel
theorem dX10_forge_18 : decode cX10_forge 18 = .ok (.invokestatic 58, 3) := by decide +kernel
theorem dX10_forge_21 : decode cX10_forge 21 = .ok (.ifCond .ne 6, 3) := by decide +kernel
theorem dX10_forge_24 : decode cX10_forge 24 = .ok (.bipush (-2), 2) := by decide +kernel
theorem dX10_forge_26 : decode cX10_forge 26 = .ok (.ireturn, 1) := by decide +kernel
theorem dX10_forge_27 : decode cX10_forge 27 = .ok (.aload_n 0, 1) := by decide +kernel
theorem dX10_forge_28 : decode cX10_forge 28 = .ok (.invokevirtual 105, 3) := by decide +kernel
theorem dX10_forge_31 : decode cX10_forge 31 = .ok (.bipush 8, 2) := by decide +kernel
theorem dX10_forge_33 : decode cX10_forge 33 = .ok (.if_icmp .ne 6, 3) := by decide +kernel
theorem dX10_forge_36 : decode cX10_forge 36 = .ok (.bipush (-4), 2) := by decide +kernel
theorem dX10_forge_38 : decode cX10_forge 38 = .ok (.ireturn, 1) := by decide +kernel
theorem dX10_forge_39 : decode cX10_forge 39 = .ok (.aload_n 0, 1) := by decide +kernel
theorem dX10_forge_40 : decode cX10_forge 40 = .ok (.invokevirtual 162, 3) := by decide +kernel
theorem dX10_forge_43 : decode cX10_forge 43 = .ok (.aload_n 0, 1) := by decide +kernel
theorem dX10_forge_44 : decode cX10_forge 44 = .ok (.invokevirtual 105, 3) := by decide +kernel
theorem dX10_forge_47 : decode cX10_forge 47 = .ok (.istore_n 3, 1) := by decide +kernel
theorem dX10_forge_48 : decode cX10_forge 48 = .ok (.aload_n 0, 1) := by decide +kernel
theorem dX10_forge_49 : decode cX10_forge 49 = .ok (.getfield 7, 3) := by decide +kernel
theorem dX10_forge_52 : decode cX10_forge 52 = .ok (.iload_n 3, 1) := by decide +kernel
theorem dX10_forge_53 : decode cX10_forge 53 = .ok (.iload_n 1, 1) := by decide +kernel
theorem dX10_forge_54 : decode cX10_forge 54 = .ok (.iload_n 2, 1) := by decide +kernel
theorem dX10_forge_55 : decode cX10_forge 55 = .ok (.iconst 1, 1) := by decide +kernel
theorem dX10_forge_56 : decode cX10_forge 56 = .ok (.iconst 1, 1) := by decide +kernel
theorem dX10_forge_57 : decode cX10_forge 57 = .ok (.iconst 0, 1) := by decide +kernel
theorem dX10_forge_58 : decode cX10_forge 58 = .ok (.invokestatic 88, 3) := by decide +kernel
theorem dX10_forge_61 : decode cX10_forge 61 = .ok (.iastore, 1) := by decide +kernel
theorem dX10_forge_62 : decode cX10_forge 62 = .ok (.aload_n 0, 1) := by decide +kernel
theorem dX10_forge_63 : decode cX10_forge 63 = .ok (.getfield 7, 3) := by decide +kernel
theorem dX10_forge_66 : decode cX10_forge 66 = .ok (.bipush 13, 2) := by decide +kernel
theorem dX10_forge_68 : decode cX10_forge 68 = .ok (.dup2, 1) := by decide +kernel
theorem dX10_forge_69 : decode cX10_forge 69 = .ok (.iaload, 1) := by decide +kernel
theorem dX10_forge_70 : decode cX10_forge 70 = .ok (.iconst 1, 1) := by decide +kernel
theorem dX10_forge_71 : decode cX10_forge 71 = .ok (.iadd, 1) := by decide +kernel
theorem dX10_forge_72 : decode cX10_forge 72 = .ok (.iastore, 1) := by decide +kernel
theorem dX10_forge_73 : decode cX10_forge 73 = .ok (.aload_n 0, 1) := by decide +kernel
theorem dX10_forge_74 : decode cX10_forge 74 = .ok (.iconst 0, 1) := by decide +kernel
theorem dX10_forge_75 : decode cX10_forge 75 = .ok (.iload_n 3, 1) := by decide +kernel
theorem dX10_forge_76 : decode cX10_forge 76 = .ok (.invokevirtual 155, 3) := by decide +kernel
theorem dX10_forge_79 : decode cX10_forge 79 = .ok (.iload_n 3, 1) := by decide +kernel
theorem dX10_forge_80 : decode cX10_forge 80 = .ok (.ireturn, 1) := by decide +kernel
theorem dX10_hide_0 : decode cX10_hide 0 = .ok (.aload_n 0, 1) := by decide +kernel
theorem dX10_hide_1 : decode cX10_hide 1 = .ok (.iload_n 1, 1) := by decide +kernel
theorem dX10_hide_2 : decode cX10_hide 2 = .ok (.invokevirtual 128, 3) := by decide +kernel
theorem dX10_hide_5 : decode cX10_hide 5 = .ok (.ifCond .ne 5, 3) := by decide +kernel
theorem dX10_hide_8 : decode cX10_hide 8 = .ok (.iconst (-1), 1) := by decide +kernel
theorem dX10_hide_9 : decode cX10_hide 9 = .ok (.ireturn, 1) := by decide +kernel
theorem dX10_hide_10 : decode cX10_hide 10 = .ok (.aload_n 0, 1) := by decide +kernel
theorem dX10_hide_11 : decode cX10_hide 11 = .ok (.iconst 0, 1) := by decide +kernel
theorem dX10_hide_12 : decode cX10_hide 12 = .ok (.iload_n 1, 1) := by decide +kernel
theorem dX10_hide_13 : decode cX10_hide 13 = .ok (.invokevirtual 169, 3) := by decide +kernel
theorem dX10_hide_16 : decode cX10_hide 16 = .ok (.ifCond .ne 6, 3) := by decide +kernel
theorem dX10_hide_19 : decode cX10_hide 19 = .ok (.bipush (-3), 2) := by decide +kernel
theorem dX10_hide_21 : decode cX10_hide 21 = .ok (.ireturn, 1) := by decide +kernel
theorem dX10_hide_22 : decode cX10_hide 22 = .ok (.aload_n 0, 1) := by decide +kernel
theorem dX10_hide_23 : decode cX10_hide 23 = .ok (.invokevirtual 162, 3) := by decide +kernel
theorem dX10_hide_26 : decode cX10_hide 26 = .ok (.aload_n 0, 1) := by decide +kernel
theorem dX10_hide_27 : decode cX10_hide 27 = .ok (.iconst 0, 1) := by decide +kernel
theorem dX10_hide_28 : decode cX10_hide 28 = .ok (.iload_n 1, 1) := by decide +kernel
theorem dX10_hide_29 : decode cX10_hide 29 = .ok (.invokevirtual 172, 3) := by decide +kernel
theorem dX10_hide_32 : decode cX10_hide 32 = .ok (.aload_n 0, 1) := by decide +kernel
theorem dX10_hide_33 : decode cX10_hide 33 = .ok (.getfield 7, 3) := by decide +kernel
theorem dX10_hide_36 : decode cX10_hide 36 = .ok (.bipush 9, 2) := by decide +kernel
theorem dX10_hide_38 : decode cX10_hide 38 = .ok (.iaload, 1) := by decide +kernel
theorem dX10_hide_39 : decode cX10_hide 39 = .ok (.iload_n 1, 1) := by decide +kernel
theorem dX10_hide_40 : decode cX10_hide 40 = .ok (.ishr, 1) := by decide +kernel
theorem dX10_hide_41 : decode cX10_hide 41 = .ok (.iconst 1, 1) := by decide +kernel
theorem dX10_hide_42 : decode cX10_hide 42 = .ok (.iand, 1) := by decide +kernel
theorem dX10_hide_43 : decode cX10_hide 43 = .ok (.ireturn, 1) := by decide +kernel
theorem dX10_claim_0 : decode cX10_claim 0 = .ok (.aload_n 0, 1) := by decide +kernel
theorem dX10_claim_1 : decode cX10_claim 1 = .ok (.iload_n 1, 1) := by decide +kernel
theorem dX10_claim_2 : decode cX10_claim 2 = .ok (.invokevirtual 128, 3) := by decide +kernel
theorem dX10_claim_5 : decode cX10_claim 5 = .ok (.ifCond .ne 5, 3) := by decide +kernel
theorem dX10_claim_8 : decode cX10_claim 8 = .ok (.iconst (-1), 1) := by decide +kernel
theorem dX10_claim_9 : decode cX10_claim 9 = .ok (.ireturn, 1) := by decide +kernel
theorem dX10_claim_10 : decode cX10_claim 10 = .ok (.aload_n 0, 1) := by decide +kernel
theorem dX10_claim_11 : decode cX10_claim 11 = .ok (.iconst 0, 1) := by decide +kernel
theorem dX10_claim_12 : decode cX10_claim 12 = .ok (.iload_n 1, 1) := by decide +kernel
theorem dX10_claim_13 : decode cX10_claim 13 = .ok (.invokevirtual 175, 3) := by decide +kernel
theorem dX10_claim_16 : decode cX10_claim 16 = .ok (.ifCond .ne 6, 3) := by decide +kernel
theorem dX10_claim_19 : decode cX10_claim 19 = .ok (.bipush (-3), 2) := by decide +kernel
theorem dX10_claim_21 : decode cX10_claim 21 = .ok (.ireturn, 1) := by decide +kernel
theorem dX10_claim_22 : decode cX10_claim 22 = .ok (.aload_n 0, 1) := by decide +kernel
theorem dX10_claim_23 : decode cX10_claim 23 = .ok (.invokevirtual 162, 3) := by decide +kernel
theorem dX10_claim_26 : decode cX10_claim 26 = .ok (.aload_n 0, 1) := by decide +kernel
theorem dX10_claim_27 : decode cX10_claim 27 = .ok (.getfield 7, 3) := by decide +kernel
theorem dX10_claim_30 : decode cX10_claim 30 = .ok (.bipush 10, 2) := by decide +kernel
theorem dX10_claim_32 : decode cX10_claim 32 = .ok (.dup2, 1) := by decide +kernel
theorem dX10_claim_33 : decode cX10_claim 33 = .ok (.iaload, 1) := by decide +kernel
theorem dX10_claim_34 : decode cX10_claim 34 = .ok (.iconst 1, 1) := by decide +kernel
theorem dX10_claim_35 : decode cX10_claim 35 = .ok (.iload_n 1, 1) := by decide +kernel
theorem dX10_claim_36 : decode cX10_claim 36 = .ok (.ishl, 1) := by decide +kernel
theorem dX10_claim_37 : decode cX10_claim 37 = .ok (.ior, 1) := by decide +kernel
theorem dX10_claim_38 : decode cX10_claim 38 = .ok (.iastore, 1) := by decide +kernel
theorem dX10_claim_39 : decode cX10_claim 39 = .ok (.aload_n 0, 1) := by decide +kernel
theorem dX10_claim_40 : decode cX10_claim 40 = .ok (.getfield 7, 3) := by decide +kernel
theorem dX10_claim_43 : decode cX10_claim 43 = .ok (.bipush 10, 2) := by decide +kernel
theorem dX10_claim_45 : decode cX10_claim 45 = .ok (.iaload, 1) := by decide +kernel
theorem dX10_claim_46 : decode cX10_claim 46 = .ok (.invokestatic 115, 3) := by decide +kernel
theorem dX10_claim_49 : decode cX10_claim 49 = .ok (.ireturn, 1) := by decide +kernel
theorem dX10_guard_0 : decode cX10_guard 0 = .ok (.aload_n 0, 1) := by decide +kernel
theorem dX10_guard_1 : decode cX10_guard 1 = .ok (.iload_n 1, 1) := by decide +kernel
theorem dX10_guard_2 : decode cX10_guard 2 = .ok (.invokevirtual 128, 3) := by decide +kernel
theorem dX10_guard_5 : decode cX10_guard 5 = .ok (.ifCond .ne 5, 3) := by decide +kernel
theorem dX10_guard_8 : decode cX10_guard 8 = .ok (.iconst (-1), 1) := by decide +kernel
theorem dX10_guard_9 : decode cX10_guard 9 = .ok (.ireturn, 1) := by decide +kernel
theorem dX10_guard_10 : decode cX10_guard 10 = .ok (.aload_n 0, 1) := by decide +kernel
theorem dX10_guard_11 : decode cX10_guard 11 = .ok (.getfield 7, 3) := by decide +kernel
theorem dX10_guard_14 : decode cX10_guard 14 = .ok (.bipush 8, 2) := by decide +kernel
theorem dX10_guard_16 : decode cX10_guard 16 = .ok (.iaload, 1) := by decide +kernel
theorem dX10_guard_17 : decode cX10_guard 17 = .ok (.iload_n 1, 1) := by decide +kernel
theorem dX10_guard_18 : decode cX10_guard 18 = .ok (.invokestatic 108, 3) := by decide +kernel
theorem dX10_guard_21 : decode cX10_guard 21 = .ok (.ifCond .eq 6, 3) := by decide +kernel
theorem dX10_guard_24 : decode cX10_guard 24 = .ok (.bipush (-3), 2) := by decide +kernel
theorem dX10_guard_26 : decode cX10_guard 26 = .ok (.ireturn, 1) := by decide +kernel
theorem dX10_guard_27 : decode cX10_guard 27 = .ok (.aload_n 0, 1) := by decide +kernel
theorem dX10_guard_28 : decode cX10_guard 28 = .ok (.invokevirtual 162, 3) := by decide +kernel
theorem dX10_guard_31 : decode cX10_guard 31 = .ok (.aload_n 0, 1) := by decide +kernel
theorem dX10_guard_32 : decode cX10_guard 32 = .ok (.iconst 0, 1) := by decide +kernel
theorem dX10_guard_33 : decode cX10_guard 33 = .ok (.iload_n 1, 1) := by decide +kernel
theorem dX10_guard_34 : decode cX10_guard 34 = .ok (.invokevirtual 178, 3) := by decide +kernel
theorem dX10_guard_37 : decode cX10_guard 37 = .ok (.aload_n 0, 1) := by decide +kernel
theorem dX10_guard_38 : decode cX10_guard 38 = .ok (.iload_n 1, 1) := by decide +kernel
theorem dX10_guard_39 : decode cX10_guard 39 = .ok (.invokevirtual 140, 3) := by decide +kernel
theorem dX10_guard_42 : decode cX10_guard 42 = .ok (.ireturn, 1) := by decide +kernel
theorem dX10_word_0 : decode cX10_word 0 = .ok (.iload_n 1, 1) := by decide +kernel
theorem dX10_word_1 : decode cX10_word 1 = .ok (.i2l, 1) := by decide +kernel
theorem dX10_word_2 : decode cX10_word 2 = .ok (.lconst 1, 1) := by decide +kernel
theorem dX10_word_3 : decode cX10_word 3 = .ok (.ldc2_w 181, 3) := by decide +kernel
theorem dX10_word_6 : decode cX10_word 6 = .ok (.invokestatic 58, 3) := by decide +kernel
theorem dX10_word_9 : decode cX10_word 9 = .ok (.ifCond .ne 6, 3) := by decide +kernel
theorem dX10_word_12 : decode cX10_word 12 = .ok (.bipush (-2), 2) := by decide +kernel
theorem dX10_word_14 : decode cX10_word 14 = .ok (.ireturn, 1) := by decide +kernel
theorem dX10_word_15 : decode cX10_word 15 = .ok (.iload_n 1, 1) := by decide +kernel
theorem dX10_word_16 : decode cX10_word 16 = .ok (.aload_n 0, 1) := by decide +kernel
theorem dX10_word_17 : decode cX10_word 17 = .ok (.getfield 7, 3) := by decide +kernel
theorem dX10_word_20 : decode cX10_word 20 = .ok (.bipush 11, 2) := by decide +kernel
theorem dX10_word_22 : decode cX10_word 22 = .ok (.iaload, 1) := by decide +kernel
theorem dX10_word_23 : decode cX10_word 23 = .ok (.if_icmp .ne 6, 3) := by decide +kernel
theorem dX10_word_26 : decode cX10_word 26 = .ok (.bipush (-3), 2) := by decide +kernel
theorem dX10_word_28 : decode cX10_word 28 = .ok (.ireturn, 1) := by decide +kernel
theorem dX10_word_29 : decode cX10_word 29 = .ok (.aload_n 0, 1) := by decide +kernel
theorem dX10_word_30 : decode cX10_word 30 = .ok (.invokevirtual 162, 3) := by decide +kernel
theorem dX10_word_33 : decode cX10_word 33 = .ok (.aload_n 0, 1) := by decide +kernel
theorem dX10_word_34 : decode cX10_word 34 = .ok (.getfield 7, 3) := by decide +kernel
theorem dX10_word_37 : decode cX10_word 37 = .ok (.bipush 11, 2) := by decide +kernel
theorem dX10_word_39 : decode cX10_word 39 = .ok (.iload_n 1, 1) := by decide +kernel
theorem dX10_word_40 : decode cX10_word 40 = .ok (.iastore, 1) := by decide +kernel
theorem dX10_word_41 : decode cX10_word 41 = .ok (.aload_n 0, 1) := by decide +kernel
theorem dX10_word_42 : decode cX10_word 42 = .ok (.getfield 7, 3) := by decide +kernel
theorem dX10_word_45 : decode cX10_word 45 = .ok (.bipush 10, 2) := by decide +kernel
theorem dX10_word_47 : decode cX10_word 47 = .ok (.iaload, 1) := by decide +kernel
theorem dX10_word_48 : decode cX10_word 48 = .ok (.aload_n 0, 1) := by decide +kernel
theorem dX10_word_49 : decode cX10_word 49 = .ok (.invokevirtual 143, 3) := by decide +kernel
theorem dX10_word_52 : decode cX10_word 52 = .ok (.iconst (-1), 1) := by decide +kernel
theorem dX10_word_53 : decode cX10_word 53 = .ok (.ixor, 1) := by decide +kernel
theorem dX10_word_54 : decode cX10_word 54 = .ok (.iand, 1) := by decide +kernel
theorem dX10_word_55 : decode cX10_word 55 = .ok (.istore_n 2, 1) := by decide +kernel
theorem dX10_word_56 : decode cX10_word 56 = .ok (.aload_n 0, 1) := by decide +kernel
theorem dX10_word_57 : decode cX10_word 57 = .ok (.getfield 7, 3) := by decide +kernel
theorem dX10_word_60 : decode cX10_word 60 = .ok (.bipush 10, 2) := by decide +kernel
theorem dX10_word_62 : decode cX10_word 62 = .ok (.dup2, 1) := by decide +kernel
theorem dX10_word_63 : decode cX10_word 63 = .ok (.iaload, 1) := by decide +kernel
theorem dX10_word_64 : decode cX10_word 64 = .ok (.iload_n 2, 1) := by decide +kernel
theorem dX10_word_65 : decode cX10_word 65 = .ok (.iconst (-1), 1) := by decide +kernel
theorem dX10_word_66 : decode cX10_word 66 = .ok (.ixor, 1) := by decide +kernel
theorem dX10_word_67 : decode cX10_word 67 = .ok (.iand, 1) := by decide +kernel
theorem dX10_word_68 : decode cX10_word 68 = .ok (.iastore, 1) := by decide +kernel
theorem dX10_word_69 : decode cX10_word 69 = .ok (.iload_n 2, 1) := by decide +kernel
theorem dX10_word_70 : decode cX10_word 70 = .ok (.ireturn, 1) := by decide +kernel
theorem dX10_year_0 : decode cX10_year 0 = .ok (.aload_n 0, 1) := by decide +kernel
theorem dX10_year_1 : decode cX10_year 1 = .ok (.invokevirtual 162, 3) := by decide +kernel
theorem dX10_year_4 : decode cX10_year 4 = .ok (.aload_n 0, 1) := by decide +kernel
theorem dX10_year_5 : decode cX10_year 5 = .ok (.getfield 7, 3) := by decide +kernel
theorem dX10_year_8 : decode cX10_year 8 = .ok (.bipush 12, 2) := by decide +kernel
theorem dX10_year_10 : decode cX10_year 10 = .ok (.dup2, 1) := by decide +kernel
theorem dX10_year_11 : decode cX10_year 11 = .ok (.iaload, 1) := by decide +kernel
theorem dX10_year_12 : decode cX10_year 12 = .ok (.iconst 1, 1) := by decide +kernel
theorem dX10_year_13 : decode cX10_year 13 = .ok (.iadd, 1) := by decide +kernel
theorem dX10_year_14 : decode cX10_year 14 = .ok (.iastore, 1) := by decide +kernel
theorem dX10_year_15 : decode cX10_year 15 = .ok (.aload_n 0, 1) := by decide +kernel
theorem dX10_year_16 : decode cX10_year 16 = .ok (.getfield 7, 3) := by decide +kernel
theorem dX10_year_19 : decode cX10_year 19 = .ok (.bipush 12, 2) := by decide +kernel
theorem dX10_year_21 : decode cX10_year 21 = .ok (.iaload, 1) := by decide +kernel
theorem dX10_year_22 : decode cX10_year 22 = .ok (.ireturn, 1) := by decide +kernel
theorem dX10_undo_0 : decode cX10_undo 0 = .ok (.aload_n 0, 1) := by decide +kernel
theorem dX10_undo_1 : decode cX10_undo 1 = .ok (.getfield 92, 3) := by decide +kernel
theorem dX10_undo_4 : decode cX10_undo 4 = .ok (.ifCond .ne 6, 3) := by decide +kernel
theorem dX10_undo_7 : decode cX10_undo 7 = .ok (.bipush (-3), 2) := by decide +kernel
theorem dX10_undo_9 : decode cX10_undo 9 = .ok (.ireturn, 1) := by decide +kernel
theorem dX10_undo_10 : decode cX10_undo 10 = .ok (.aload_n 0, 1) := by decide +kernel
theorem dX10_undo_11 : decode cX10_undo 11 = .ok (.dup, 1) := by decide +kernel
theorem dX10_undo_12 : decode cX10_undo 12 = .ok (.getfield 92, 3) := by decide +kernel
theorem dX10_undo_15 : decode cX10_undo 15 = .ok (.iconst 1, 1) := by decide +kernel
theorem dX10_undo_16 : decode cX10_undo 16 = .ok (.isub, 1) := by decide +kernel
theorem dX10_undo_17 : decode cX10_undo 17 = .ok (.putfield 92, 3) := by decide +kernel
theorem dX10_undo_20 : decode cX10_undo 20 = .ok (.aload_n 0, 1) := by decide +kernel
theorem dX10_undo_21 : decode cX10_undo 21 = .ok (.aload_n 0, 1) := by decide +kernel
theorem dX10_undo_22 : decode cX10_undo 22 = .ok (.getfield 149, 3) := by decide +kernel
theorem dX10_undo_25 : decode cX10_undo 25 = .ok (.bipush 15, 2) := by decide +kernel
theorem dX10_undo_27 : decode cX10_undo 27 = .ok (.iadd, 1) := by decide +kernel
theorem dX10_undo_28 : decode cX10_undo 28 = .ok (.bipush 16, 2) := by decide +kernel
theorem dX10_undo_30 : decode cX10_undo 30 = .ok (.irem, 1) := by decide +kernel
theorem dX10_undo_31 : decode cX10_undo 31 = .ok (.putfield 149, 3) := by decide +kernel
theorem dX10_undo_34 : decode cX10_undo 34 = .ok (.iconst 0, 1) := by decide +kernel
theorem dX10_undo_35 : decode cX10_undo 35 = .ok (.istore_n 1, 1) := by decide +kernel
theorem dX10_undo_36 : decode cX10_undo 36 = .ok (.iload_n 1, 1) := by decide +kernel
theorem dX10_undo_37 : decode cX10_undo 37 = .ok (.bipush 14, 2) := by decide +kernel
theorem dX10_undo_39 : decode cX10_undo 39 = .ok (.if_icmp .ge 29, 3) := by decide +kernel
theorem dX10_undo_42 : decode cX10_undo 42 = .ok (.aload_n 0, 1) := by decide +kernel
theorem dX10_undo_43 : decode cX10_undo 43 = .ok (.getfield 7, 3) := by decide +kernel
theorem dX10_undo_46 : decode cX10_undo 46 = .ok (.iload_n 1, 1) := by decide +kernel
theorem dX10_undo_47 : decode cX10_undo 47 = .ok (.aload_n 0, 1) := by decide +kernel
theorem dX10_undo_48 : decode cX10_undo 48 = .ok (.getfield 16, 3) := by decide +kernel
theorem dX10_undo_51 : decode cX10_undo 51 = .ok (.bipush 14, 2) := by decide +kernel
theorem dX10_undo_53 : decode cX10_undo 53 = .ok (.aload_n 0, 1) := by decide +kernel
theorem dX10_undo_54 : decode cX10_undo 54 = .ok (.getfield 149, 3) := by decide +kernel
theorem dX10_undo_57 : decode cX10_undo 57 = .ok (.imul, 1) := by decide +kernel
theorem dX10_undo_58 : decode cX10_undo 58 = .ok (.iload_n 1, 1) := by decide +kernel
theorem dX10_undo_59 : decode cX10_undo 59 = .ok (.iadd, 1) := by decide +kernel
theorem dX10_undo_60 : decode cX10_undo 60 = .ok (.iaload, 1) := by decide +kernel
theorem dX10_undo_61 : decode cX10_undo 61 = .ok (.iastore, 1) := by decide +kernel
theorem dX10_undo_62 : decode cX10_undo 62 = .ok (.iinc 1 1, 3) := by decide +kernel
theorem dX10_undo_65 : decode cX10_undo 65 = .ok (.goto (-29), 3) := by decide +kernel
theorem dX10_undo_68 : decode cX10_undo 68 = .ok (.aload_n 0, 1) := by decide +kernel
theorem dX10_undo_69 : decode cX10_undo 69 = .ok (.getfield 92, 3) := by decide +kernel
theorem dX10_undo_72 : decode cX10_undo 72 = .ok (.ireturn, 1) := by decide +kernel
theorem dX10_can_0 : decode cX10_can 0 = .ok (.iload_n 1, 1) := by decide +kernel
theorem dX10_can_1 : decode cX10_can 1 = .ok (.ifCond .ne 12, 3) := by decide +kernel
theorem dX10_can_4 : decode cX10_can 4 = .ok (.aload_n 0, 1) := by decide +kernel
theorem dX10_can_5 : decode cX10_can 5 = .ok (.iconst 1, 1) := by decide +kernel
theorem dX10_can_6 : decode cX10_can 6 = .ok (.iload_n 2, 1) := by decide +kernel
theorem dX10_can_7 : decode cX10_can 7 = .ok (.invokevirtual 159, 3) := by decide +kernel
theorem dX10_can_10 : decode cX10_can 10 = .ok (.goto 55, 3) := by decide +kernel
theorem dX10_can_13 : decode cX10_can 13 = .ok (.iload_n 1, 1) := by decide +kernel
theorem dX10_can_14 : decode cX10_can 14 = .ok (.iconst 1, 1) := by decide +kernel
theorem dX10_can_15 : decode cX10_can 15 = .ok (.if_icmp .ne 12, 3) := by decide +kernel
theorem dX10_can_18 : decode cX10_can 18 = .ok (.aload_n 0, 1) := by decide +kernel
theorem dX10_can_19 : decode cX10_can 19 = .ok (.iconst 1, 1) := by decide +kernel
theorem dX10_can_20 : decode cX10_can 20 = .ok (.iload_n 2, 1) := by decide +kernel
theorem dX10_can_21 : decode cX10_can 21 = .ok (.invokevirtual 175, 3) := by decide +kernel
theorem dX10_can_24 : decode cX10_can 24 = .ok (.goto 41, 3) := by decide +kernel
theorem dX10_can_27 : decode cX10_can 27 = .ok (.iload_n 1, 1) := by decide +kernel
theorem dX10_can_28 : decode cX10_can 28 = .ok (.iconst 2, 1) := by decide +kernel
theorem dX10_can_29 : decode cX10_can 29 = .ok (.if_icmp .ne 12, 3) := by decide +kernel
theorem dX10_can_32 : decode cX10_can 32 = .ok (.aload_n 0, 1) := by decide +kernel
theorem dX10_can_33 : decode cX10_can 33 = .ok (.iconst 1, 1) := by decide +kernel
theorem dX10_can_34 : decode cX10_can 34 = .ok (.iload_n 2, 1) := by decide +kernel
theorem dX10_can_35 : decode cX10_can 35 = .ok (.invokevirtual 169, 3) := by decide +kernel
theorem dX10_can_38 : decode cX10_can 38 = .ok (.goto 27, 3) := by decide +kernel
theorem dX10_can_41 : decode cX10_can 41 = .ok (.iload_n 1, 1) := by decide +kernel
theorem dX10_can_42 : decode cX10_can 42 = .ok (.iconst 3, 1) := by decide +kernel
theorem dX10_can_43 : decode cX10_can 43 = .ok (.if_icmp .ne 21, 3) := by decide +kernel
theorem dX10_can_46 : decode cX10_can 46 = .ok (.aload_n 0, 1) := by decide +kernel
theorem dX10_can_47 : decode cX10_can 47 = .ok (.getfield 7, 3) := by decide +kernel
theorem dX10_can_50 : decode cX10_can 50 = .ok (.bipush 22, 2) := by decide +kernel
theorem dX10_can_52 : decode cX10_can 52 = .ok (.iaload, 1) := by decide +kernel
theorem dX10_can_53 : decode cX10_can 53 = .ok (.iload_n 2, 1) := by decide +kernel
theorem dX10_can_54 : decode cX10_can 54 = .ok (.invokestatic 108, 3) := by decide +kernel
theorem dX10_can_57 : decode cX10_can 57 = .ok (.ifCond .ne 7, 3) := by decide +kernel
theorem dX10_can_60 : decode cX10_can 60 = .ok (.iconst 1, 1) := by decide +kernel
theorem dX10_can_61 : decode cX10_can 61 = .ok (.goto 4, 3) := by decide +kernel
theorem dX10_can_64 : decode cX10_can 64 = .ok (.iconst 0, 1) := by decide +kernel
theorem dX10_can_65 : decode cX10_can 65 = .ok (.ireturn, 1) := by decide +kernel
theorem dX10_make_0 : decode cX10_make 0 = .ok (.iload_n 1, 1) := by decide +kernel
theorem dX10_make_1 : decode cX10_make 1 = .ok (.ifCond .ne 19, 3) := by decide +kernel
theorem dX10_make_4 : decode cX10_make 4 = .ok (.aload_n 0, 1) := by decide +kernel
theorem dX10_make_5 : decode cX10_make 5 = .ok (.getfield 7, 3) := by decide +kernel
theorem dX10_make_8 : decode cX10_make 8 = .ok (.bipush 22, 2) := by decide +kernel
theorem dX10_make_10 : decode cX10_make 10 = .ok (.dup2, 1) := by decide +kernel
theorem dX10_make_11 : decode cX10_make 11 = .ok (.iaload, 1) := by decide +kernel
theorem dX10_make_12 : decode cX10_make 12 = .ok (.iconst 1, 1) := by decide +kernel
theorem dX10_make_13 : decode cX10_make 13 = .ok (.iload_n 2, 1) := by decide +kernel
theorem dX10_make_14 : decode cX10_make 14 = .ok (.ishl, 1) := by decide +kernel
theorem dX10_make_15 : decode cX10_make 15 = .ok (.ior, 1) := by decide +kernel
theorem dX10_make_16 : decode cX10_make 16 = .ok (.iastore, 1) := by decide +kernel
theorem dX10_make_17 : decode cX10_make 17 = .ok (.goto 44, 3) := by decide +kernel
theorem dX10_make_20 : decode cX10_make 20 = .ok (.iload_n 1, 1) := by decide +kernel
theorem dX10_make_21 : decode cX10_make 21 = .ok (.iconst 1, 1) := by decide +kernel
theorem dX10_make_22 : decode cX10_make 22 = .ok (.if_icmp .ne 19, 3) := by decide +kernel
theorem dX10_make_25 : decode cX10_make 25 = .ok (.aload_n 0, 1) := by decide +kernel
theorem dX10_make_26 : decode cX10_make 26 = .ok (.getfield 7, 3) := by decide +kernel
theorem dX10_make_29 : decode cX10_make 29 = .ok (.bipush 24, 2) := by decide +kernel
theorem dX10_make_31 : decode cX10_make 31 = .ok (.dup2, 1) := by decide +kernel
theorem dX10_make_32 : decode cX10_make 32 = .ok (.iaload, 1) := by decide +kernel
theorem dX10_make_33 : decode cX10_make 33 = .ok (.iconst 1, 1) := by decide +kernel
theorem dX10_make_34 : decode cX10_make 34 = .ok (.iload_n 2, 1) := by decide +kernel
theorem dX10_make_35 : decode cX10_make 35 = .ok (.ishl, 1) := by decide +kernel
theorem dX10_make_36 : decode cX10_make 36 = .ok (.ior, 1) := by decide +kernel
theorem dX10_make_37 : decode cX10_make 37 = .ok (.iastore, 1) := by decide +kernel
theorem dX10_make_38 : decode cX10_make 38 = .ok (.goto 23, 3) := by decide +kernel
theorem dX10_make_41 : decode cX10_make 41 = .ok (.iload_n 1, 1) := by decide +kernel
theorem dX10_make_42 : decode cX10_make 42 = .ok (.iconst 2, 1) := by decide +kernel
theorem dX10_make_43 : decode cX10_make 43 = .ok (.if_icmp .ne 12, 3) := by decide +kernel
theorem dX10_make_46 : decode cX10_make 46 = .ok (.aload_n 0, 1) := by decide +kernel
theorem dX10_make_47 : decode cX10_make 47 = .ok (.iconst 1, 1) := by decide +kernel
theorem dX10_make_48 : decode cX10_make 48 = .ok (.iload_n 2, 1) := by decide +kernel
theorem dX10_make_49 : decode cX10_make 49 = .ok (.invokevirtual 172, 3) := by decide +kernel
theorem dX10_make_52 : decode cX10_make 52 = .ok (.goto 9, 3) := by decide +kernel
theorem dX10_make_55 : decode cX10_make 55 = .ok (.aload_n 0, 1) := by decide +kernel
theorem dX10_make_56 : decode cX10_make 56 = .ok (.iconst 1, 1) := by decide +kernel
theorem dX10_make_57 : decode cX10_make 57 = .ok (.iload_n 2, 1) := by decide +kernel
theorem dX10_make_58 : decode cX10_make 58 = .ok (.invokevirtual 178, 3) := by decide +kernel
theorem dX10_make_61 : decode cX10_make 61 = .ok (.return_, 1) := by decide +kernel
theorem dX10_judge_0 : decode cX10_judge 0 = .ok (.iload_n 1, 1) := by decide +kernel
theorem dX10_judge_1 : decode cX10_judge 1 = .ok (.i2l, 1) := by decide +kernel
theorem dX10_judge_2 : decode cX10_judge 2 = .ok (.lconst 1, 1) := by decide +kernel
theorem dX10_judge_3 : decode cX10_judge 3 = .ok (.ldc2_w 181, 3) := by decide +kernel
theorem dX10_judge_6 : decode cX10_judge 6 = .ok (.invokestatic 58, 3) := by decide +kernel
theorem dX10_judge_9 : decode cX10_judge 9 = .ok (.ifCond .eq 21, 3) := by decide +kernel
theorem dX10_judge_12 : decode cX10_judge 12 = .ok (.iload_n 2, 1) := by decide +kernel
theorem dX10_judge_13 : decode cX10_judge 13 = .ok (.i2l, 1) := by decide +kernel
theorem dX10_judge_14 : decode cX10_judge 14 = .ok (.lconst 0, 1) := by decide +kernel
theorem dX10_judge_15 : decode cX10_judge 15 = .ok (.iconst 2, 1) := by decide +kernel
theorem dX10_judge_16 : decode cX10_judge 16 = .ok (.iload_n 1, 1) := by decide +kernel
theorem dX10_judge_17 : decode cX10_judge 17 = .ok (.imul, 1) := by decide +kernel
theorem dX10_judge_18 : decode cX10_judge 18 = .ok (.invokestatic 98, 3) := by decide +kernel
theorem dX10_judge_21 : decode cX10_judge 21 = .ok (.iconst 1, 1) := by decide +kernel
theorem dX10_judge_22 : decode cX10_judge 22 = .ok (.isub, 1) := by decide +kernel
theorem dX10_judge_23 : decode cX10_judge 23 = .ok (.i2l, 1) := by decide +kernel
theorem dX10_judge_24 : decode cX10_judge 24 = .ok (.invokestatic 58, 3) := by decide +kernel
theorem dX10_judge_27 : decode cX10_judge 27 = .ok (.ifCond .ne 6, 3) := by decide +kernel
theorem dX10_judge_30 : decode cX10_judge 30 = .ok (.bipush (-2), 2) := by decide +kernel
theorem dX10_judge_32 : decode cX10_judge 32 = .ok (.ireturn, 1) := by decide +kernel
theorem dX10_judge_33 : decode cX10_judge 33 = .ok (.iconst 0, 1) := by decide +kernel
theorem dX10_judge_34 : decode cX10_judge 34 = .ok (.istore_n 3, 1) := by decide +kernel
theorem dX10_judge_35 : decode cX10_judge 35 = .ok (.iload_n 3, 1) := by decide +kernel
theorem dX10_judge_36 : decode cX10_judge 36 = .ok (.bipush 14, 2) := by decide +kernel
theorem dX10_judge_38 : decode cX10_judge 38 = .ok (.if_icmp .ge 24, 3) := by decide +kernel
theorem dX10_judge_41 : decode cX10_judge 41 = .ok (.aload_n 0, 1) := by decide +kernel
theorem dX10_judge_42 : decode cX10_judge 42 = .ok (.getfield 7, 3) := by decide +kernel
theorem dX10_judge_45 : decode cX10_judge 45 = .ok (.bipush 14, 2) := by decide +kernel
theorem dX10_judge_47 : decode cX10_judge 47 = .ok (.iload_n 3, 1) := by decide +kernel
theorem dX10_judge_48 : decode cX10_judge 48 = .ok (.iadd, 1) := by decide +kernel
theorem dX10_judge_49 : decode cX10_judge 49 = .ok (.aload_n 0, 1) := by decide +kernel
theorem dX10_judge_50 : decode cX10_judge 50 = .ok (.getfield 7, 3) := by decide +kernel
theorem dX10_judge_53 : decode cX10_judge 53 = .ok (.iload_n 3, 1) := by decide +kernel
theorem dX10_judge_54 : decode cX10_judge 54 = .ok (.iaload, 1) := by decide +kernel
theorem dX10_judge_55 : decode cX10_judge 55 = .ok (.iastore, 1) := by decide +kernel
theorem dX10_judge_56 : decode cX10_judge 56 = .ok (.iinc 3 1, 3) := by decide +kernel
theorem dX10_judge_59 : decode cX10_judge 59 = .ok (.goto (-24), 3) := by decide +kernel
theorem dX10_judge_62 : decode cX10_judge 62 = .ok (.iconst 0, 1) := by decide +kernel
theorem dX10_judge_63 : decode cX10_judge 63 = .ok (.istore_n 3, 1) := by decide +kernel
theorem dX10_judge_64 : decode cX10_judge 64 = .ok (.iload_n 3, 1) := by decide +kernel
theorem dX10_judge_65 : decode cX10_judge 65 = .ok (.iload_n 1, 1) := by decide +kernel
theorem dX10_judge_66 : decode cX10_judge 66 = .ok (.if_icmp .ge 73, 3) := by decide +kernel
theorem dX10_judge_69 : decode cX10_judge 69 = .ok (.iload_n 2, 1) := by decide +kernel
theorem dX10_judge_70 : decode cX10_judge 70 = .ok (.iconst 2, 1) := by decide +kernel
theorem dX10_judge_71 : decode cX10_judge 71 = .ok (.iload_n 1, 1) := by decide +kernel
theorem dX10_judge_72 : decode cX10_judge 72 = .ok (.iload_n 3, 1) := by decide +kernel
theorem dX10_judge_73 : decode cX10_judge 73 = .ok (.isub, 1) := by decide +kernel
theorem dX10_judge_74 : decode cX10_judge 74 = .ok (.imul, 1) := by decide +kernel
theorem dX10_judge_75 : decode cX10_judge 75 = .ok (.iconst 1, 1) := by decide +kernel
theorem dX10_judge_76 : decode cX10_judge 76 = .ok (.isub, 1) := by decide +kernel
theorem dX10_judge_77 : decode cX10_judge 77 = .ok (.invokestatic 98, 3) := by decide +kernel
theorem dX10_judge_80 : decode cX10_judge 80 = .ok (.idiv, 1) := by decide +kernel
theorem dX10_judge_81 : decode cX10_judge 81 = .ok (.bipush 10, 2) := by decide +kernel
theorem dX10_judge_83 : decode cX10_judge 83 = .ok (.irem, 1) := by decide +kernel
theorem dX10_judge_84 : decode cX10_judge 84 = .ok (.istore 4, 2) := by decide +kernel
theorem dX10_judge_86 : decode cX10_judge 86 = .ok (.iload_n 2, 1) := by decide +kernel
theorem dX10_judge_87 : decode cX10_judge 87 = .ok (.iconst 2, 1) := by decide +kernel
theorem dX10_judge_88 : decode cX10_judge 88 = .ok (.iload_n 1, 1) := by decide +kernel
theorem dX10_judge_89 : decode cX10_judge 89 = .ok (.iload_n 3, 1) := by decide +kernel
theorem dX10_judge_90 : decode cX10_judge 90 = .ok (.isub, 1) := by decide +kernel
theorem dX10_judge_91 : decode cX10_judge 91 = .ok (.imul, 1) := by decide +kernel
theorem dX10_judge_92 : decode cX10_judge 92 = .ok (.iconst 2, 1) := by decide +kernel
theorem dX10_judge_93 : decode cX10_judge 93 = .ok (.isub, 1) := by decide +kernel
theorem dX10_judge_94 : decode cX10_judge 94 = .ok (.invokestatic 98, 3) := by decide +kernel
theorem dX10_judge_97 : decode cX10_judge 97 = .ok (.idiv, 1) := by decide +kernel
theorem dX10_judge_98 : decode cX10_judge 98 = .ok (.bipush 10, 2) := by decide +kernel
theorem dX10_judge_100 : decode cX10_judge 100 = .ok (.irem, 1) := by decide +kernel
theorem dX10_judge_101 : decode cX10_judge 101 = .ok (.istore 5, 2) := by decide +kernel
theorem dX10_judge_103 : decode cX10_judge 103 = .ok (.aload_n 0, 1) := by decide +kernel
theorem dX10_judge_104 : decode cX10_judge 104 = .ok (.iload 5, 2) := by decide +kernel
theorem dX10_judge_106 : decode cX10_judge 106 = .ok (.invokevirtual 128, 3) := by decide +kernel
theorem dX10_judge_109 : decode cX10_judge 109 = .ok (.ifCond .eq 14, 3) := by decide +kernel
theorem dX10_judge_112 : decode cX10_judge 112 = .ok (.aload_n 0, 1) := by decide +kernel
theorem dX10_judge_113 : decode cX10_judge 113 = .ok (.iload 4, 2) := by decide +kernel
theorem dX10_judge_115 : decode cX10_judge 115 = .ok (.iload 5, 2) := by decide +kernel
theorem dX10_judge_117 : decode cX10_judge 117 = .ok (.invokevirtual 183, 3) := by decide +kernel
theorem dX10_judge_120 : decode cX10_judge 120 = .ok (.ifCond .ne 5, 3) := by decide +kernel
theorem dX10_judge_123 : decode cX10_judge 123 = .ok (.iload_n 3, 1) := by decide +kernel
theorem dX10_judge_124 : decode cX10_judge 124 = .ok (.ireturn, 1) := by decide +kernel
theorem dX10_judge_125 : decode cX10_judge 125 = .ok (.aload_n 0, 1) := by decide +kernel
theorem dX10_judge_126 : decode cX10_judge 126 = .ok (.iload 4, 2) := by decide +kernel
theorem dX10_judge_128 : decode cX10_judge 128 = .ok (.iload 5, 2) := by decide +kernel
theorem dX10_judge_130 : decode cX10_judge 130 = .ok (.invokevirtual 186, 3) := by decide +kernel
theorem dX10_judge_133 : decode cX10_judge 133 = .ok (.iinc 3 1, 3) := by decide +kernel
theorem dX10_judge_136 : decode cX10_judge 136 = .ok (.goto (-72), 3) := by decide +kernel
theorem dX10_judge_139 : decode cX10_judge 139 = .ok (.bipush (-9), 2) := by decide +kernel
theorem dX10_judge_141 : decode cX10_judge 141 = .ok (.ireturn, 1) := by decide +kernel
theorem dX10_apart_0 : decode cX10_apart 0 = .ok (.iload_n 0, 1) := by decide +kernel
theorem dX10_apart_1 : decode cX10_apart 1 = .ok (.iload_n 1, 1) := by decide +kernel
theorem dX10_apart_2 : decode cX10_apart 2 = .ok (.if_icmp .ge 9, 3) := by decide +kernel
theorem dX10_apart_5 : decode cX10_apart 5 = .ok (.iload_n 1, 1) := by decide +kernel
theorem dX10_apart_6 : decode cX10_apart 6 = .ok (.iload_n 0, 1) := by decide +kernel
theorem dX10_apart_7 : decode cX10_apart 7 = .ok (.isub, 1) := by decide +kernel
theorem dX10_apart_8 : decode cX10_apart 8 = .ok (.goto 6, 3) := by decide +kernel
theorem dX10_apart_11 : decode cX10_apart 11 = .ok (.iload_n 0, 1) := by decide +kernel
theorem dX10_apart_12 : decode cX10_apart 12 = .ok (.iload_n 1, 1) := by decide +kernel
theorem dX10_apart_13 : decode cX10_apart 13 = .ok (.isub, 1) := by decide +kernel
theorem dX10_apart_14 : decode cX10_apart 14 = .ok (.ireturn, 1) := by decide +kernel
theorem dX10_costBy_0 : decode cX10_costBy 0 = .ok (.aload_n 0, 1) := by decide +kernel
theorem dX10_costBy_1 : decode cX10_costBy 1 = .ok (.iload_n 1, 1) := by decide +kernel
theorem dX10_costBy_2 : decode cX10_costBy 2 = .ok (.aload_n 0, 1) := by decide +kernel
theorem dX10_costBy_3 : decode cX10_costBy 3 = .ok (.iconst 0, 1) := by decide +kernel
theorem dX10_costBy_4 : decode cX10_costBy 4 = .ok (.invokevirtual 122, 3) := by decide +kernel
theorem dX10_costBy_7 : decode cX10_costBy 7 = .ok (.iload_n 2, 1) := by decide +kernel
theorem dX10_costBy_8 : decode cX10_costBy 8 = .ok (.invokevirtual 118, 3) := by decide +kernel
theorem dX10_costBy_11 : decode cX10_costBy 11 = .ok (.istore_n 3, 1) := by decide +kernel
theorem dX10_costBy_12 : decode cX10_costBy 12 = .ok (.iload_n 3, 1) := by decide +kernel
theorem dX10_costBy_13 : decode cX10_costBy 13 = .ok (.aload_n 0, 1) := by decide +kernel
theorem dX10_costBy_14 : decode cX10_costBy 14 = .ok (.getfield 7, 3) := by decide +kernel
theorem dX10_costBy_17 : decode cX10_costBy 17 = .ok (.bipush 10, 2) := by decide +kernel
theorem dX10_costBy_19 : decode cX10_costBy 19 = .ok (.iaload, 1) := by decide +kernel
theorem dX10_costBy_20 : decode cX10_costBy 20 = .ok (.iand, 1) := by decide +kernel
theorem dX10_costBy_21 : decode cX10_costBy 21 = .ok (.ifCond .eq 6, 3) := by decide +kernel
theorem dX10_costBy_24 : decode cX10_costBy 24 = .ok (.bipush (-9), 2) := by decide +kernel
theorem dX10_costBy_26 : decode cX10_costBy 26 = .ok (.ireturn, 1) := by decide +kernel
theorem dX10_costBy_27 : decode cX10_costBy 27 = .ok (.iconst 3, 1) := by decide +kernel
