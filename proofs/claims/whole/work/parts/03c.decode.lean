theorem dX10_costBy_28 : decode cX10_costBy 28 = .ok (.iload_n 2, 1) := by decide +kernel
theorem dX10_costBy_29 : decode cX10_costBy 29 = .ok (.aload_n 0, 1) := by decide +kernel
theorem dX10_costBy_30 : decode cX10_costBy 30 = .ok (.getfield 7, 3) := by decide +kernel
theorem dX10_costBy_33 : decode cX10_costBy 33 = .ok (.bipush 11, 2) := by decide +kernel
theorem dX10_costBy_35 : decode cX10_costBy 35 = .ok (.iaload, 1) := by decide +kernel
theorem dX10_costBy_36 : decode cX10_costBy 36 = .ok (.invokestatic 189, 3) := by decide +kernel
theorem dX10_costBy_39 : decode cX10_costBy 39 = .ok (.imul, 1) := by decide +kernel
theorem dX10_costBy_40 : decode cX10_costBy 40 = .ok (.istore 4, 2) := by decide +kernel
theorem dX10_costBy_42 : decode cX10_costBy 42 = .ok (.iconst 0, 1) := by decide +kernel
theorem dX10_costBy_43 : decode cX10_costBy 43 = .ok (.istore 5, 2) := by decide +kernel
theorem dX10_costBy_45 : decode cX10_costBy 45 = .ok (.iload 5, 2) := by decide +kernel
theorem dX10_costBy_47 : decode cX10_costBy 47 = .ok (.aload_n 0, 1) := by decide +kernel
theorem dX10_costBy_48 : decode cX10_costBy 48 = .ok (.invokevirtual 105, 3) := by decide +kernel
theorem dX10_costBy_51 : decode cX10_costBy 51 = .ok (.if_icmp .ge 42, 3) := by decide +kernel
theorem dX10_costBy_54 : decode cX10_costBy 54 = .ok (.iload 4, 2) := by decide +kernel
theorem dX10_costBy_56 : decode cX10_costBy 56 = .ok (.iload_n 3, 1) := by decide +kernel
theorem dX10_costBy_57 : decode cX10_costBy 57 = .ok (.iload 5, 2) := by decide +kernel
theorem dX10_costBy_59 : decode cX10_costBy 59 = .ok (.invokestatic 108, 3) := by decide +kernel
theorem dX10_costBy_62 : decode cX10_costBy 62 = .ok (.ifCond .eq 21, 3) := by decide +kernel
theorem dX10_costBy_65 : decode cX10_costBy 65 = .ok (.aload_n 0, 1) := by decide +kernel
theorem dX10_costBy_66 : decode cX10_costBy 66 = .ok (.iload 5, 2) := by decide +kernel
theorem dX10_costBy_68 : decode cX10_costBy 68 = .ok (.invokevirtual 137, 3) := by decide +kernel
theorem dX10_costBy_71 : decode cX10_costBy 71 = .ok (.iconst 5, 1) := by decide +kernel
theorem dX10_costBy_72 : decode cX10_costBy 72 = .ok (.aload_n 0, 1) := by decide +kernel
theorem dX10_costBy_73 : decode cX10_costBy 73 = .ok (.iload 5, 2) := by decide +kernel
theorem dX10_costBy_75 : decode cX10_costBy 75 = .ok (.invokevirtual 140, 3) := by decide +kernel
theorem dX10_costBy_78 : decode cX10_costBy 78 = .ok (.imul, 1) := by decide +kernel
theorem dX10_costBy_79 : decode cX10_costBy 79 = .ok (.iadd, 1) := by decide +kernel
theorem dX10_costBy_80 : decode cX10_costBy 80 = .ok (.goto 4, 3) := by decide +kernel
theorem dX10_costBy_83 : decode cX10_costBy 83 = .ok (.iconst 0, 1) := by decide +kernel
theorem dX10_costBy_84 : decode cX10_costBy 84 = .ok (.iadd, 1) := by decide +kernel
theorem dX10_costBy_85 : decode cX10_costBy 85 = .ok (.istore 4, 2) := by decide +kernel
theorem dX10_costBy_87 : decode cX10_costBy 87 = .ok (.iinc 5 1, 3) := by decide +kernel
theorem dX10_costBy_90 : decode cX10_costBy 90 = .ok (.goto (-45), 3) := by decide +kernel
theorem dX10_costBy_93 : decode cX10_costBy 93 = .ok (.iload 4, 2) := by decide +kernel
theorem dX10_costBy_95 : decode cX10_costBy 95 = .ok (.ireturn, 1) := by decide +kernel
theorem dX10_campaignWord_0 : decode cX10_campaignWord 0 = .ok (.bipush (-9), 2) := by decide +kernel
theorem dX10_campaignWord_2 : decode cX10_campaignWord 2 = .ok (.istore_n 2, 1) := by decide +kernel
theorem dX10_campaignWord_3 : decode cX10_campaignWord 3 = .ok (.iconst 1, 1) := by decide +kernel
theorem dX10_campaignWord_4 : decode cX10_campaignWord 4 = .ok (.istore_n 3, 1) := by decide +kernel
theorem dX10_campaignWord_5 : decode cX10_campaignWord 5 = .ok (.iload_n 3, 1) := by decide +kernel
theorem dX10_campaignWord_6 : decode cX10_campaignWord 6 = .ok (.iconst 5, 1) := by decide +kernel
theorem dX10_campaignWord_7 : decode cX10_campaignWord 7 = .ok (.if_icmp .ge 47, 3) := by decide +kernel
theorem dX10_campaignWord_10 : decode cX10_campaignWord 10 = .ok (.aload_n 0, 1) := by decide +kernel
theorem dX10_campaignWord_11 : decode cX10_campaignWord 11 = .ok (.iload_n 1, 1) := by decide +kernel
theorem dX10_campaignWord_12 : decode cX10_campaignWord 12 = .ok (.iload_n 3, 1) := by decide +kernel
theorem dX10_campaignWord_13 : decode cX10_campaignWord 13 = .ok (.invokevirtual 192, 3) := by decide +kernel
theorem dX10_campaignWord_16 : decode cX10_campaignWord 16 = .ok (.istore 4, 2) := by decide +kernel
theorem dX10_campaignWord_18 : decode cX10_campaignWord 18 = .ok (.iload 4, 2) := by decide +kernel
theorem dX10_campaignWord_20 : decode cX10_campaignWord 20 = .ok (.bipush (-9), 2) := by decide +kernel
theorem dX10_campaignWord_22 : decode cX10_campaignWord 22 = .ok (.if_icmp .eq 24, 3) := by decide +kernel
theorem dX10_campaignWord_25 : decode cX10_campaignWord 25 = .ok (.iload_n 2, 1) := by decide +kernel
theorem dX10_campaignWord_26 : decode cX10_campaignWord 26 = .ok (.bipush (-9), 2) := by decide +kernel
theorem dX10_campaignWord_28 : decode cX10_campaignWord 28 = .ok (.if_icmp .eq 14, 3) := by decide +kernel
theorem dX10_campaignWord_31 : decode cX10_campaignWord 31 = .ok (.iload 4, 2) := by decide +kernel
theorem dX10_campaignWord_33 : decode cX10_campaignWord 33 = .ok (.aload_n 0, 1) := by decide +kernel
theorem dX10_campaignWord_34 : decode cX10_campaignWord 34 = .ok (.iload_n 1, 1) := by decide +kernel
theorem dX10_campaignWord_35 : decode cX10_campaignWord 35 = .ok (.iload_n 2, 1) := by decide +kernel
theorem dX10_campaignWord_36 : decode cX10_campaignWord 36 = .ok (.invokevirtual 192, 3) := by decide +kernel
theorem dX10_campaignWord_39 : decode cX10_campaignWord 39 = .ok (.if_icmp .ge 7, 3) := by decide +kernel
theorem dX10_campaignWord_42 : decode cX10_campaignWord 42 = .ok (.iload_n 3, 1) := by decide +kernel
theorem dX10_campaignWord_43 : decode cX10_campaignWord 43 = .ok (.goto 4, 3) := by decide +kernel
theorem dX10_campaignWord_46 : decode cX10_campaignWord 46 = .ok (.iload_n 2, 1) := by decide +kernel
theorem dX10_campaignWord_47 : decode cX10_campaignWord 47 = .ok (.istore_n 2, 1) := by decide +kernel
theorem dX10_campaignWord_48 : decode cX10_campaignWord 48 = .ok (.iinc 3 1, 3) := by decide +kernel
theorem dX10_campaignWord_51 : decode cX10_campaignWord 51 = .ok (.goto (-46), 3) := by decide +kernel
theorem dX10_campaignWord_54 : decode cX10_campaignWord 54 = .ok (.iload_n 2, 1) := by decide +kernel
theorem dX10_campaignWord_55 : decode cX10_campaignWord 55 = .ok (.ireturn, 1) := by decide +kernel
theorem dX10_campaign_0 : decode cX10_campaign 0 = .ok (.aload_n 0, 1) := by decide +kernel
theorem dX10_campaign_1 : decode cX10_campaign 1 = .ok (.iload_n 1, 1) := by decide +kernel
theorem dX10_campaign_2 : decode cX10_campaign 2 = .ok (.invokevirtual 128, 3) := by decide +kernel
theorem dX10_campaign_5 : decode cX10_campaign 5 = .ok (.ifCond .ne 5, 3) := by decide +kernel
theorem dX10_campaign_8 : decode cX10_campaign 8 = .ok (.iconst (-1), 1) := by decide +kernel
theorem dX10_campaign_9 : decode cX10_campaign 9 = .ok (.ireturn, 1) := by decide +kernel
theorem dX10_campaign_10 : decode cX10_campaign 10 = .ok (.aload_n 0, 1) := by decide +kernel
theorem dX10_campaign_11 : decode cX10_campaign 11 = .ok (.iconst 0, 1) := by decide +kernel
theorem dX10_campaign_12 : decode cX10_campaign 12 = .ok (.invokevirtual 122, 3) := by decide +kernel
theorem dX10_campaign_15 : decode cX10_campaign 15 = .ok (.iload_n 1, 1) := by decide +kernel
theorem dX10_campaign_16 : decode cX10_campaign 16 = .ok (.invokestatic 108, 3) := by decide +kernel
theorem dX10_campaign_19 : decode cX10_campaign 19 = .ok (.ifCond .ne 6, 3) := by decide +kernel
theorem dX10_campaign_22 : decode cX10_campaign 22 = .ok (.bipush (-3), 2) := by decide +kernel
theorem dX10_campaign_24 : decode cX10_campaign 24 = .ok (.ireturn, 1) := by decide +kernel
theorem dX10_campaign_25 : decode cX10_campaign 25 = .ok (.aload_n 0, 1) := by decide +kernel
theorem dX10_campaign_26 : decode cX10_campaign 26 = .ok (.iload_n 1, 1) := by decide +kernel
theorem dX10_campaign_27 : decode cX10_campaign 27 = .ok (.invokevirtual 195, 3) := by decide +kernel
theorem dX10_campaign_30 : decode cX10_campaign 30 = .ok (.istore_n 2, 1) := by decide +kernel
theorem dX10_campaign_31 : decode cX10_campaign 31 = .ok (.iload_n 2, 1) := by decide +kernel
theorem dX10_campaign_32 : decode cX10_campaign 32 = .ok (.bipush (-9), 2) := by decide +kernel
theorem dX10_campaign_34 : decode cX10_campaign 34 = .ok (.if_icmp .ne 8, 3) := by decide +kernel
theorem dX10_campaign_37 : decode cX10_campaign 37 = .ok (.bipush (-9), 2) := by decide +kernel
theorem dX10_campaign_39 : decode cX10_campaign 39 = .ok (.goto 9, 3) := by decide +kernel
theorem dX10_campaign_42 : decode cX10_campaign 42 = .ok (.aload_n 0, 1) := by decide +kernel
theorem dX10_campaign_43 : decode cX10_campaign 43 = .ok (.iload_n 1, 1) := by decide +kernel
theorem dX10_campaign_44 : decode cX10_campaign 44 = .ok (.iload_n 2, 1) := by decide +kernel
theorem dX10_campaign_45 : decode cX10_campaign 45 = .ok (.invokevirtual 192, 3) := by decide +kernel
theorem dX10_campaign_48 : decode cX10_campaign 48 = .ok (.ireturn, 1) := by decide +kernel
theorem dX10_campaignBy_0 : decode cX10_campaignBy 0 = .ok (.aload_n 0, 1) := by decide +kernel
theorem dX10_campaignBy_1 : decode cX10_campaignBy 1 = .ok (.iload_n 1, 1) := by decide +kernel
theorem dX10_campaignBy_2 : decode cX10_campaignBy 2 = .ok (.invokevirtual 128, 3) := by decide +kernel
theorem dX10_campaignBy_5 : decode cX10_campaignBy 5 = .ok (.ifCond .ne 5, 3) := by decide +kernel
theorem dX10_campaignBy_8 : decode cX10_campaignBy 8 = .ok (.iconst (-1), 1) := by decide +kernel
theorem dX10_campaignBy_9 : decode cX10_campaignBy 9 = .ok (.ireturn, 1) := by decide +kernel
theorem dX10_campaignBy_10 : decode cX10_campaignBy 10 = .ok (.iload_n 2, 1) := by decide +kernel
theorem dX10_campaignBy_11 : decode cX10_campaignBy 11 = .ok (.i2l, 1) := by decide +kernel
theorem dX10_campaignBy_12 : decode cX10_campaignBy 12 = .ok (.lconst 0, 1) := by decide +kernel
theorem dX10_campaignBy_13 : decode cX10_campaignBy 13 = .ok (.lconst 1, 1) := by decide +kernel
theorem dX10_campaignBy_14 : decode cX10_campaignBy 14 = .ok (.invokestatic 58, 3) := by decide +kernel
theorem dX10_campaignBy_17 : decode cX10_campaignBy 17 = .ok (.ifCond .ne 6, 3) := by decide +kernel
theorem dX10_campaignBy_20 : decode cX10_campaignBy 20 = .ok (.bipush (-2), 2) := by decide +kernel
theorem dX10_campaignBy_22 : decode cX10_campaignBy 22 = .ok (.ireturn, 1) := by decide +kernel
theorem dX10_campaignBy_23 : decode cX10_campaignBy 23 = .ok (.aload_n 0, 1) := by decide +kernel
theorem dX10_campaignBy_24 : decode cX10_campaignBy 24 = .ok (.iconst 0, 1) := by decide +kernel
theorem dX10_campaignBy_25 : decode cX10_campaignBy 25 = .ok (.invokevirtual 122, 3) := by decide +kernel
theorem dX10_campaignBy_28 : decode cX10_campaignBy 28 = .ok (.iload_n 1, 1) := by decide +kernel
theorem dX10_campaignBy_29 : decode cX10_campaignBy 29 = .ok (.invokestatic 108, 3) := by decide +kernel
theorem dX10_campaignBy_32 : decode cX10_campaignBy 32 = .ok (.ifCond .ne 6, 3) := by decide +kernel
theorem dX10_campaignBy_35 : decode cX10_campaignBy 35 = .ok (.bipush (-3), 2) := by decide +kernel
theorem dX10_campaignBy_37 : decode cX10_campaignBy 37 = .ok (.ireturn, 1) := by decide +kernel
theorem dX10_campaignBy_38 : decode cX10_campaignBy 38 = .ok (.aload_n 0, 1) := by decide +kernel
theorem dX10_campaignBy_39 : decode cX10_campaignBy 39 = .ok (.iload_n 1, 1) := by decide +kernel
theorem dX10_campaignBy_40 : decode cX10_campaignBy 40 = .ok (.invokevirtual 195, 3) := by decide +kernel
theorem dX10_campaignBy_43 : decode cX10_campaignBy 43 = .ok (.istore_n 3, 1) := by decide +kernel
theorem dX10_campaignBy_44 : decode cX10_campaignBy 44 = .ok (.iload_n 3, 1) := by decide +kernel
theorem dX10_campaignBy_45 : decode cX10_campaignBy 45 = .ok (.bipush (-9), 2) := by decide +kernel
theorem dX10_campaignBy_47 : decode cX10_campaignBy 47 = .ok (.if_icmp .ne 8, 3) := by decide +kernel
theorem dX10_campaignBy_50 : decode cX10_campaignBy 50 = .ok (.bipush (-9), 2) := by decide +kernel
theorem dX10_campaignBy_52 : decode cX10_campaignBy 52 = .ok (.goto 22, 3) := by decide +kernel
theorem dX10_campaignBy_55 : decode cX10_campaignBy 55 = .ok (.iload_n 2, 1) := by decide +kernel
theorem dX10_campaignBy_56 : decode cX10_campaignBy 56 = .ok (.ifCond .ne 7, 3) := by decide +kernel
theorem dX10_campaignBy_59 : decode cX10_campaignBy 59 = .ok (.iload_n 3, 1) := by decide +kernel
theorem dX10_campaignBy_60 : decode cX10_campaignBy 60 = .ok (.goto 14, 3) := by decide +kernel
theorem dX10_campaignBy_63 : decode cX10_campaignBy 63 = .ok (.aload_n 0, 1) := by decide +kernel
theorem dX10_campaignBy_64 : decode cX10_campaignBy 64 = .ok (.iload_n 1, 1) := by decide +kernel
theorem dX10_campaignBy_65 : decode cX10_campaignBy 65 = .ok (.aload_n 0, 1) := by decide +kernel
theorem dX10_campaignBy_66 : decode cX10_campaignBy 66 = .ok (.iconst 0, 1) := by decide +kernel
theorem dX10_campaignBy_67 : decode cX10_campaignBy 67 = .ok (.invokevirtual 122, 3) := by decide +kernel
theorem dX10_campaignBy_70 : decode cX10_campaignBy 70 = .ok (.iload_n 3, 1) := by decide +kernel
theorem dX10_campaignBy_71 : decode cX10_campaignBy 71 = .ok (.invokevirtual 118, 3) := by decide +kernel
theorem dX10_campaignBy_74 : decode cX10_campaignBy 74 = .ok (.ireturn, 1) := by decide +kernel
theorem dX10_copy_0 : decode cX10_copy 0 = .ok (.aload_n 0, 1) := by decide +kernel
theorem dX10_copy_1 : decode cX10_copy 1 = .ok (.iload_n 1, 1) := by decide +kernel
theorem dX10_copy_2 : decode cX10_copy 2 = .ok (.invokevirtual 128, 3) := by decide +kernel
theorem dX10_copy_5 : decode cX10_copy 5 = .ok (.ifCond .ne 5, 3) := by decide +kernel
theorem dX10_copy_8 : decode cX10_copy 8 = .ok (.iconst (-1), 1) := by decide +kernel
theorem dX10_copy_9 : decode cX10_copy 9 = .ok (.ireturn, 1) := by decide +kernel
theorem dX10_copy_10 : decode cX10_copy 10 = .ok (.aload_n 0, 1) := by decide +kernel
theorem dX10_copy_11 : decode cX10_copy 11 = .ok (.getfield 7, 3) := by decide +kernel
theorem dX10_copy_14 : decode cX10_copy 14 = .ok (.bipush 10, 2) := by decide +kernel
theorem dX10_copy_16 : decode cX10_copy 16 = .ok (.iaload, 1) := by decide +kernel
theorem dX10_copy_17 : decode cX10_copy 17 = .ok (.iload_n 1, 1) := by decide +kernel
theorem dX10_copy_18 : decode cX10_copy 18 = .ok (.invokestatic 108, 3) := by decide +kernel
theorem dX10_copy_21 : decode cX10_copy 21 = .ok (.ifCond .ne 6, 3) := by decide +kernel
theorem dX10_copy_24 : decode cX10_copy 24 = .ok (.bipush (-3), 2) := by decide +kernel
theorem dX10_copy_26 : decode cX10_copy 26 = .ok (.ireturn, 1) := by decide +kernel
theorem dX10_copy_27 : decode cX10_copy 27 = .ok (.bipush (-9), 2) := by decide +kernel
theorem dX10_copy_29 : decode cX10_copy 29 = .ok (.istore_n 2, 1) := by decide +kernel
theorem dX10_copy_30 : decode cX10_copy 30 = .ok (.iconst 0, 1) := by decide +kernel
theorem dX10_copy_31 : decode cX10_copy 31 = .ok (.istore_n 3, 1) := by decide +kernel
theorem dX10_copy_32 : decode cX10_copy 32 = .ok (.iload_n 3, 1) := by decide +kernel
theorem dX10_copy_33 : decode cX10_copy 33 = .ok (.bipush 16, 2) := by decide +kernel
theorem dX10_copy_35 : decode cX10_copy 35 = .ok (.if_icmp .ge 129, 3) := by decide +kernel
theorem dX10_copy_38 : decode cX10_copy 38 = .ok (.iload_n 3, 1) := by decide +kernel
theorem dX10_copy_39 : decode cX10_copy 39 = .ok (.invokestatic 115, 3) := by decide +kernel
theorem dX10_copy_42 : decode cX10_copy 42 = .ok (.aload_n 0, 1) := by decide +kernel
theorem dX10_copy_43 : decode cX10_copy 43 = .ok (.getfield 7, 3) := by decide +kernel
theorem dX10_copy_46 : decode cX10_copy 46 = .ok (.bipush 11, 2) := by decide +kernel
theorem dX10_copy_48 : decode cX10_copy 48 = .ok (.iaload, 1) := by decide +kernel
theorem dX10_copy_49 : decode cX10_copy 49 = .ok (.if_icmp .lt 7, 3) := by decide +kernel
theorem dX10_copy_52 : decode cX10_copy 52 = .ok (.iconst 1, 1) := by decide +kernel
theorem dX10_copy_53 : decode cX10_copy 53 = .ok (.goto 4, 3) := by decide +kernel
theorem dX10_copy_56 : decode cX10_copy 56 = .ok (.iconst 0, 1) := by decide +kernel
theorem dX10_copy_57 : decode cX10_copy 57 = .ok (.istore 4, 2) := by decide +kernel
theorem dX10_copy_59 : decode cX10_copy 59 = .ok (.iconst 0, 1) := by decide +kernel
theorem dX10_copy_60 : decode cX10_copy 60 = .ok (.istore 5, 2) := by decide +kernel
theorem dX10_copy_62 : decode cX10_copy 62 = .ok (.iload 5, 2) := by decide +kernel
theorem dX10_copy_64 : decode cX10_copy 64 = .ok (.aload_n 0, 1) := by decide +kernel
theorem dX10_copy_65 : decode cX10_copy 65 = .ok (.invokevirtual 105, 3) := by decide +kernel
theorem dX10_copy_68 : decode cX10_copy 68 = .ok (.if_icmp .ge 62, 3) := by decide +kernel
theorem dX10_copy_71 : decode cX10_copy 71 = .ok (.iload 4, 2) := by decide +kernel
theorem dX10_copy_73 : decode cX10_copy 73 = .ok (.ifCond .eq 57, 3) := by decide +kernel
theorem dX10_copy_76 : decode cX10_copy 76 = .ok (.iload 5, 2) := by decide +kernel
theorem dX10_copy_78 : decode cX10_copy 78 = .ok (.iload_n 1, 1) := by decide +kernel
theorem dX10_copy_79 : decode cX10_copy 79 = .ok (.if_icmp .eq 38, 3) := by decide +kernel
theorem dX10_copy_82 : decode cX10_copy 82 = .ok (.aload_n 0, 1) := by decide +kernel
theorem dX10_copy_83 : decode cX10_copy 83 = .ok (.iconst 0, 1) := by decide +kernel
theorem dX10_copy_84 : decode cX10_copy 84 = .ok (.invokevirtual 122, 3) := by decide +kernel
theorem dX10_copy_87 : decode cX10_copy 87 = .ok (.iload 5, 2) := by decide +kernel
theorem dX10_copy_89 : decode cX10_copy 89 = .ok (.invokestatic 108, 3) := by decide +kernel
theorem dX10_copy_92 : decode cX10_copy 92 = .ok (.ifCond .eq 25, 3) := by decide +kernel
theorem dX10_copy_95 : decode cX10_copy 95 = .ok (.iload_n 3, 1) := by decide +kernel
theorem dX10_copy_96 : decode cX10_copy 96 = .ok (.aload_n 0, 1) := by decide +kernel
theorem dX10_copy_97 : decode cX10_copy 97 = .ok (.iload_n 1, 1) := by decide +kernel
theorem dX10_copy_98 : decode cX10_copy 98 = .ok (.iload 5, 2) := by decide +kernel
theorem dX10_copy_100 : decode cX10_copy 100 = .ok (.invokevirtual 112, 3) := by decide +kernel
theorem dX10_copy_103 : decode cX10_copy 103 = .ok (.iand, 1) := by decide +kernel
theorem dX10_copy_104 : decode cX10_copy 104 = .ok (.invokestatic 115, 3) := by decide +kernel
theorem dX10_copy_107 : decode cX10_copy 107 = .ok (.aload_n 0, 1) := by decide +kernel
theorem dX10_copy_108 : decode cX10_copy 108 = .ok (.getfield 7, 3) := by decide +kernel
theorem dX10_copy_111 : decode cX10_copy 111 = .ok (.bipush 11, 2) := by decide +kernel
theorem dX10_copy_113 : decode cX10_copy 113 = .ok (.iaload, 1) := by decide +kernel
theorem dX10_copy_114 : decode cX10_copy 114 = .ok (.if_icmp .ge 7, 3) := by decide +kernel
theorem dX10_copy_117 : decode cX10_copy 117 = .ok (.iconst 1, 1) := by decide +kernel
theorem dX10_copy_118 : decode cX10_copy 118 = .ok (.goto 4, 3) := by decide +kernel
theorem dX10_copy_121 : decode cX10_copy 121 = .ok (.iconst 0, 1) := by decide +kernel
theorem dX10_copy_122 : decode cX10_copy 122 = .ok (.istore 4, 2) := by decide +kernel
theorem dX10_copy_124 : decode cX10_copy 124 = .ok (.iinc 5 1, 3) := by decide +kernel
theorem dX10_copy_127 : decode cX10_copy 127 = .ok (.goto (-65), 3) := by decide +kernel
theorem dX10_copy_130 : decode cX10_copy 130 = .ok (.iload 4, 2) := by decide +kernel
theorem dX10_copy_132 : decode cX10_copy 132 = .ok (.ifCond .eq 24, 3) := by decide +kernel
theorem dX10_copy_135 : decode cX10_copy 135 = .ok (.iload_n 2, 1) := by decide +kernel
theorem dX10_copy_136 : decode cX10_copy 136 = .ok (.bipush (-9), 2) := by decide +kernel
theorem dX10_copy_138 : decode cX10_copy 138 = .ok (.if_icmp .eq 14, 3) := by decide +kernel
theorem dX10_copy_141 : decode cX10_copy 141 = .ok (.iload_n 3, 1) := by decide +kernel
theorem dX10_copy_142 : decode cX10_copy 142 = .ok (.invokestatic 115, 3) := by decide +kernel
theorem dX10_copy_145 : decode cX10_copy 145 = .ok (.iload_n 2, 1) := by decide +kernel
theorem dX10_copy_146 : decode cX10_copy 146 = .ok (.invokestatic 115, 3) := by decide +kernel
theorem dX10_copy_149 : decode cX10_copy 149 = .ok (.if_icmp .ge 7, 3) := by decide +kernel
theorem dX10_copy_152 : decode cX10_copy 152 = .ok (.iload_n 3, 1) := by decide +kernel
theorem dX10_copy_153 : decode cX10_copy 153 = .ok (.goto 4, 3) := by decide +kernel
theorem dX10_copy_156 : decode cX10_copy 156 = .ok (.iload_n 2, 1) := by decide +kernel
theorem dX10_copy_157 : decode cX10_copy 157 = .ok (.istore_n 2, 1) := by decide +kernel
theorem dX10_copy_158 : decode cX10_copy 158 = .ok (.iinc 3 1, 3) := by decide +kernel
theorem dX10_copy_161 : decode cX10_copy 161 = .ok (.goto (-129), 3) := by decide +kernel
theorem dX10_copy_164 : decode cX10_copy 164 = .ok (.iload_n 2, 1) := by decide +kernel
theorem dX10_copy_165 : decode cX10_copy 165 = .ok (.ireturn, 1) := by decide +kernel
theorem dX10_bestWord_0 : decode cX10_bestWord 0 = .ok (.iload_n 1, 1) := by decide +kernel
theorem dX10_bestWord_1 : decode cX10_bestWord 1 = .ok (.i2l, 1) := by decide +kernel
theorem dX10_bestWord_2 : decode cX10_bestWord 2 = .ok (.lconst 0, 1) := by decide +kernel
theorem dX10_bestWord_3 : decode cX10_bestWord 3 = .ok (.lconst 1, 1) := by decide +kernel
theorem dX10_bestWord_4 : decode cX10_bestWord 4 = .ok (.invokestatic 58, 3) := by decide +kernel
theorem dX10_bestWord_7 : decode cX10_bestWord 7 = .ok (.ifCond .ne 6, 3) := by decide +kernel
theorem dX10_bestWord_10 : decode cX10_bestWord 10 = .ok (.bipush (-2), 2) := by decide +kernel
theorem dX10_bestWord_12 : decode cX10_bestWord 12 = .ok (.ireturn, 1) := by decide +kernel
theorem dX10_bestWord_13 : decode cX10_bestWord 13 = .ok (.iconst 1, 1) := by decide +kernel
theorem dX10_bestWord_14 : decode cX10_bestWord 14 = .ok (.istore_n 2, 1) := by decide +kernel
theorem dX10_bestWord_15 : decode cX10_bestWord 15 = .ok (.iconst 2, 1) := by decide +kernel
theorem dX10_bestWord_16 : decode cX10_bestWord 16 = .ok (.istore_n 3, 1) := by decide +kernel
theorem dX10_bestWord_17 : decode cX10_bestWord 17 = .ok (.iload_n 3, 1) := by decide +kernel
theorem dX10_bestWord_18 : decode cX10_bestWord 18 = .ok (.iconst 5, 1) := by decide +kernel
theorem dX10_bestWord_19 : decode cX10_bestWord 19 = .ok (.if_icmp .ge 79, 3) := by decide +kernel
theorem dX10_bestWord_22 : decode cX10_bestWord 22 = .ok (.aload_n 0, 1) := by decide +kernel
theorem dX10_bestWord_23 : decode cX10_bestWord 23 = .ok (.aload_n 0, 1) := by decide +kernel
theorem dX10_bestWord_24 : decode cX10_bestWord 24 = .ok (.iconst 0, 1) := by decide +kernel
theorem dX10_bestWord_25 : decode cX10_bestWord 25 = .ok (.invokevirtual 122, 3) := by decide +kernel
theorem dX10_bestWord_28 : decode cX10_bestWord 28 = .ok (.iload_n 3, 1) := by decide +kernel
theorem dX10_bestWord_29 : decode cX10_bestWord 29 = .ok (.invokevirtual 125, 3) := by decide +kernel
theorem dX10_bestWord_32 : decode cX10_bestWord 32 = .ok (.invokestatic 115, 3) := by decide +kernel
theorem dX10_bestWord_35 : decode cX10_bestWord 35 = .ok (.aload_n 0, 1) := by decide +kernel
theorem dX10_bestWord_36 : decode cX10_bestWord 36 = .ok (.aload_n 0, 1) := by decide +kernel
theorem dX10_bestWord_37 : decode cX10_bestWord 37 = .ok (.iconst 0, 1) := by decide +kernel
theorem dX10_bestWord_38 : decode cX10_bestWord 38 = .ok (.invokevirtual 122, 3) := by decide +kernel
theorem dX10_bestWord_41 : decode cX10_bestWord 41 = .ok (.iload_n 2, 1) := by decide +kernel
theorem dX10_bestWord_42 : decode cX10_bestWord 42 = .ok (.invokevirtual 125, 3) := by decide +kernel
theorem dX10_bestWord_45 : decode cX10_bestWord 45 = .ok (.invokestatic 115, 3) := by decide +kernel
theorem dX10_bestWord_48 : decode cX10_bestWord 48 = .ok (.isub, 1) := by decide +kernel
theorem dX10_bestWord_49 : decode cX10_bestWord 49 = .ok (.istore 4, 2) := by decide +kernel
theorem dX10_bestWord_51 : decode cX10_bestWord 51 = .ok (.iload 4, 2) := by decide +kernel
theorem dX10_bestWord_53 : decode cX10_bestWord 53 = .ok (.ifCond .gt 33, 3) := by decide +kernel
theorem dX10_bestWord_56 : decode cX10_bestWord 56 = .ok (.iload 4, 2) := by decide +kernel
theorem dX10_bestWord_58 : decode cX10_bestWord 58 = .ok (.ifCond .ne 32, 3) := by decide +kernel
theorem dX10_bestWord_61 : decode cX10_bestWord 61 = .ok (.iload_n 3, 1) := by decide +kernel
theorem dX10_bestWord_62 : decode cX10_bestWord 62 = .ok (.aload_n 0, 1) := by decide +kernel
theorem dX10_bestWord_63 : decode cX10_bestWord 63 = .ok (.getfield 7, 3) := by decide +kernel
theorem dX10_bestWord_66 : decode cX10_bestWord 66 = .ok (.bipush 11, 2) := by decide +kernel
theorem dX10_bestWord_68 : decode cX10_bestWord 68 = .ok (.iaload, 1) := by decide +kernel
theorem dX10_bestWord_69 : decode cX10_bestWord 69 = .ok (.invokestatic 189, 3) := by decide +kernel
theorem dX10_bestWord_72 : decode cX10_bestWord 72 = .ok (.iload_n 2, 1) := by decide +kernel
theorem dX10_bestWord_73 : decode cX10_bestWord 73 = .ok (.aload_n 0, 1) := by decide +kernel
theorem dX10_bestWord_74 : decode cX10_bestWord 74 = .ok (.getfield 7, 3) := by decide +kernel
theorem dX10_bestWord_77 : decode cX10_bestWord 77 = .ok (.bipush 11, 2) := by decide +kernel
theorem dX10_bestWord_79 : decode cX10_bestWord 79 = .ok (.iaload, 1) := by decide +kernel
theorem dX10_bestWord_80 : decode cX10_bestWord 80 = .ok (.invokestatic 189, 3) := by decide +kernel
theorem dX10_bestWord_83 : decode cX10_bestWord 83 = .ok (.if_icmp .ge 7, 3) := by decide +kernel
theorem dX10_bestWord_86 : decode cX10_bestWord 86 = .ok (.iload_n 3, 1) := by decide +kernel
theorem dX10_bestWord_87 : decode cX10_bestWord 87 = .ok (.goto 4, 3) := by decide +kernel
theorem dX10_bestWord_90 : decode cX10_bestWord 90 = .ok (.iload_n 2, 1) := by decide +kernel
theorem dX10_bestWord_91 : decode cX10_bestWord 91 = .ok (.istore_n 2, 1) := by decide +kernel
theorem dX10_bestWord_92 : decode cX10_bestWord 92 = .ok (.iinc 3 1, 3) := by decide +kernel
theorem dX10_bestWord_95 : decode cX10_bestWord 95 = .ok (.goto (-78), 3) := by decide +kernel
theorem dX10_bestWord_98 : decode cX10_bestWord 98 = .ok (.iload_n 1, 1) := by decide +kernel
theorem dX10_bestWord_99 : decode cX10_bestWord 99 = .ok (.ifCond .ne 7, 3) := by decide +kernel
theorem dX10_bestWord_102 : decode cX10_bestWord 102 = .ok (.iload_n 2, 1) := by decide +kernel
theorem dX10_bestWord_103 : decode cX10_bestWord 103 = .ok (.goto 16, 3) := by decide +kernel
theorem dX10_bestWord_106 : decode cX10_bestWord 106 = .ok (.aload_n 0, 1) := by decide +kernel
theorem dX10_bestWord_107 : decode cX10_bestWord 107 = .ok (.aload_n 0, 1) := by decide +kernel
theorem dX10_bestWord_108 : decode cX10_bestWord 108 = .ok (.iconst 0, 1) := by decide +kernel
theorem dX10_bestWord_109 : decode cX10_bestWord 109 = .ok (.invokevirtual 122, 3) := by decide +kernel
theorem dX10_bestWord_112 : decode cX10_bestWord 112 = .ok (.iload_n 2, 1) := by decide +kernel
theorem dX10_bestWord_113 : decode cX10_bestWord 113 = .ok (.invokevirtual 125, 3) := by decide +kernel
theorem dX10_bestWord_116 : decode cX10_bestWord 116 = .ok (.invokestatic 115, 3) := by decide +kernel
theorem dX10_bestWord_119 : decode cX10_bestWord 119 = .ok (.ireturn, 1) := by decide +kernel
theorem dX10_may_0 : decode cX10_may 0 = .ok (.iload_n 2, 1) := by decide +kernel
theorem dX10_may_1 : decode cX10_may 1 = .ok (.ifCond .ne 5, 3) := by decide +kernel
theorem dX10_may_4 : decode cX10_may 4 = .ok (.iconst 1, 1) := by decide +kernel
theorem dX10_may_5 : decode cX10_may 5 = .ok (.ireturn, 1) := by decide +kernel
theorem dX10_may_6 : decode cX10_may 6 = .ok (.iload_n 2, 1) := by decide +kernel
theorem dX10_may_7 : decode cX10_may 7 = .ok (.iconst 1, 1) := by decide +kernel
theorem dX10_may_8 : decode cX10_may 8 = .ok (.isub, 1) := by decide +kernel
theorem dX10_may_9 : decode cX10_may 9 = .ok (.istore_n 3, 1) := by decide +kernel
theorem dX10_may_10 : decode cX10_may 10 = .ok (.aload_n 0, 1) := by decide +kernel
theorem dX10_may_11 : decode cX10_may 11 = .ok (.iload_n 3, 1) := by decide +kernel
theorem dX10_may_12 : decode cX10_may 12 = .ok (.invokevirtual 128, 3) := by decide +kernel
theorem dX10_may_15 : decode cX10_may 15 = .ok (.ifCond .eq 37, 3) := by decide +kernel
theorem dX10_may_18 : decode cX10_may 18 = .ok (.aload_n 0, 1) := by decide +kernel
theorem dX10_may_19 : decode cX10_may 19 = .ok (.iconst 0, 1) := by decide +kernel
theorem dX10_may_20 : decode cX10_may 20 = .ok (.invokevirtual 122, 3) := by decide +kernel
theorem dX10_may_23 : decode cX10_may 23 = .ok (.iload_n 3, 1) := by decide +kernel
theorem dX10_may_24 : decode cX10_may 24 = .ok (.invokestatic 108, 3) := by decide +kernel
theorem dX10_may_27 : decode cX10_may 27 = .ok (.ifCond .eq 25, 3) := by decide +kernel
theorem dX10_may_30 : decode cX10_may 30 = .ok (.aload_n 0, 1) := by decide +kernel
theorem dX10_may_31 : decode cX10_may 31 = .ok (.iconst 0, 1) := by decide +kernel
theorem dX10_may_32 : decode cX10_may 32 = .ok (.iload_n 3, 1) := by decide +kernel
theorem dX10_may_33 : decode cX10_may 33 = .ok (.invokevirtual 159, 3) := by decide +kernel
theorem dX10_may_36 : decode cX10_may 36 = .ok (.ifCond .eq 16, 3) := by decide +kernel
theorem dX10_may_39 : decode cX10_may 39 = .ok (.aload_n 0, 1) := by decide +kernel
theorem dX10_may_40 : decode cX10_may 40 = .ok (.iload_n 3, 1) := by decide +kernel
theorem dX10_may_41 : decode cX10_may 41 = .ok (.invokevirtual 131, 3) := by decide +kernel
theorem dX10_may_44 : decode cX10_may 44 = .ok (.iload_n 1, 1) := by decide +kernel
theorem dX10_may_45 : decode cX10_may 45 = .ok (.if_icmp .eq 7, 3) := by decide +kernel
theorem dX10_may_48 : decode cX10_may 48 = .ok (.iconst 1, 1) := by decide +kernel
theorem dX10_may_49 : decode cX10_may 49 = .ok (.goto 4, 3) := by decide +kernel
theorem dX10_may_52 : decode cX10_may 52 = .ok (.iconst 0, 1) := by decide +kernel
theorem dX10_may_53 : decode cX10_may 53 = .ok (.ireturn, 1) := by decide +kernel
theorem dX10_has3_0 : decode cX10_has3 0 = .ok (.aload_n 0, 1) := by decide +kernel
theorem dX10_has3_1 : decode cX10_has3 1 = .ok (.iconst 0, 1) := by decide +kernel
theorem dX10_has3_2 : decode cX10_has3 2 = .ok (.invokevirtual 122, 3) := by decide +kernel
theorem dX10_has3_5 : decode cX10_has3 5 = .ok (.iconst 1, 1) := by decide +kernel
theorem dX10_has3_6 : decode cX10_has3 6 = .ok (.iload_n 2, 1) := by decide +kernel
theorem dX10_has3_7 : decode cX10_has3 7 = .ok (.ishl, 1) := by decide +kernel
theorem dX10_has3_8 : decode cX10_has3 8 = .ok (.iconst 1, 1) := by decide +kernel
theorem dX10_has3_9 : decode cX10_has3 9 = .ok (.iload_n 3, 1) := by decide +kernel
theorem dX10_has3_10 : decode cX10_has3 10 = .ok (.ishl, 1) := by decide +kernel
theorem dX10_has3_11 : decode cX10_has3 11 = .ok (.ior, 1) := by decide +kernel
theorem dX10_has3_12 : decode cX10_has3 12 = .ok (.iconst 1, 1) := by decide +kernel
theorem dX10_has3_13 : decode cX10_has3 13 = .ok (.iload 4, 2) := by decide +kernel
theorem dX10_has3_15 : decode cX10_has3 15 = .ok (.ishl, 1) := by decide +kernel
theorem dX10_has3_16 : decode cX10_has3 16 = .ok (.ior, 1) := by decide +kernel
theorem dX10_has3_17 : decode cX10_has3 17 = .ok (.iconst 1, 1) := by decide +kernel
theorem dX10_has3_18 : decode cX10_has3 18 = .ok (.ishr, 1) := by decide +kernel
theorem dX10_has3_19 : decode cX10_has3 19 = .ok (.iconst (-1), 1) := by decide +kernel
theorem dX10_has3_20 : decode cX10_has3 20 = .ok (.ixor, 1) := by decide +kernel
theorem dX10_has3_21 : decode cX10_has3 21 = .ok (.iand, 1) := by decide +kernel
theorem dX10_has3_22 : decode cX10_has3 22 = .ok (.istore 5, 2) := by decide +kernel
theorem dX10_has3_24 : decode cX10_has3 24 = .ok (.iload_n 1, 1) := by decide +kernel
theorem dX10_has3_25 : decode cX10_has3 25 = .ok (.ifCond .ne 7, 3) := by decide +kernel
theorem dX10_has3_28 : decode cX10_has3 28 = .ok (.iload_n 2, 1) := by decide +kernel
theorem dX10_has3_29 : decode cX10_has3 29 = .ok (.goto 14, 3) := by decide +kernel
theorem dX10_has3_32 : decode cX10_has3 32 = .ok (.iload_n 1, 1) := by decide +kernel
theorem dX10_has3_33 : decode cX10_has3 33 = .ok (.iconst 1, 1) := by decide +kernel
theorem dX10_has3_34 : decode cX10_has3 34 = .ok (.if_icmp .ne 7, 3) := by decide +kernel
theorem dX10_has3_37 : decode cX10_has3 37 = .ok (.iload_n 3, 1) := by decide +kernel
theorem dX10_has3_38 : decode cX10_has3 38 = .ok (.goto 5, 3) := by decide +kernel
theorem dX10_has3_41 : decode cX10_has3 41 = .ok (.iload 4, 2) := by decide +kernel
theorem dX10_has3_43 : decode cX10_has3 43 = .ok (.istore 6, 2) := by decide +kernel
theorem dX10_has3_45 : decode cX10_has3 45 = .ok (.iload 6, 2) := by decide +kernel
theorem dX10_has3_47 : decode cX10_has3 47 = .ok (.ifCond .ne 7, 3) := by decide +kernel
theorem dX10_has3_50 : decode cX10_has3 50 = .ok (.iconst 0, 1) := by decide +kernel
theorem dX10_has3_51 : decode cX10_has3 51 = .ok (.goto 12, 3) := by decide +kernel
theorem dX10_has3_54 : decode cX10_has3 54 = .ok (.aload_n 0, 1) := by decide +kernel
theorem dX10_has3_55 : decode cX10_has3 55 = .ok (.iload 6, 2) := by decide +kernel
theorem dX10_has3_57 : decode cX10_has3 57 = .ok (.iconst 1, 1) := by decide +kernel
theorem dX10_has3_58 : decode cX10_has3 58 = .ok (.isub, 1) := by decide +kernel
theorem dX10_has3_59 : decode cX10_has3 59 = .ok (.invokevirtual 137, 3) := by decide +kernel
theorem dX10_has3_62 : decode cX10_has3 62 = .ok (.ineg, 1) := by decide +kernel
theorem dX10_has3_63 : decode cX10_has3 63 = .ok (.istore 7, 2) := by decide +kernel
theorem dX10_has3_65 : decode cX10_has3 65 = .ok (.iconst 0, 1) := by decide +kernel
theorem dX10_has3_66 : decode cX10_has3 66 = .ok (.istore 8, 2) := by decide +kernel
theorem dX10_has3_68 : decode cX10_has3 68 = .ok (.iload 8, 2) := by decide +kernel
theorem dX10_has3_70 : decode cX10_has3 70 = .ok (.aload_n 0, 1) := by decide +kernel
theorem dX10_has3_71 : decode cX10_has3 71 = .ok (.invokevirtual 105, 3) := by decide +kernel
theorem dX10_has3_74 : decode cX10_has3 74 = .ok (.if_icmp .ge 36, 3) := by decide +kernel
theorem dX10_has3_77 : decode cX10_has3 77 = .ok (.iload 7, 2) := by decide +kernel
theorem dX10_has3_79 : decode cX10_has3 79 = .ok (.aload_n 0, 1) := by decide +kernel
theorem dX10_has3_80 : decode cX10_has3 80 = .ok (.iload 8, 2) := by decide +kernel
theorem dX10_has3_82 : decode cX10_has3 82 = .ok (.invokevirtual 131, 3) := by decide +kernel
theorem dX10_has3_85 : decode cX10_has3 85 = .ok (.iload_n 1, 1) := by decide +kernel
theorem dX10_has3_86 : decode cX10_has3 86 = .ok (.if_icmp .ne 14, 3) := by decide +kernel
theorem dX10_has3_89 : decode cX10_has3 89 = .ok (.aload_n 0, 1) := by decide +kernel
theorem dX10_has3_90 : decode cX10_has3 90 = .ok (.iload 8, 2) := by decide +kernel
theorem dX10_has3_92 : decode cX10_has3 92 = .ok (.iload 5, 2) := by decide +kernel
theorem dX10_has3_94 : decode cX10_has3 94 = .ok (.invokevirtual 146, 3) := by decide +kernel
theorem dX10_has3_97 : decode cX10_has3 97 = .ok (.goto 4, 3) := by decide +kernel
theorem dX10_has3_100 : decode cX10_has3 100 = .ok (.iconst 0, 1) := by decide +kernel
theorem dX10_has3_101 : decode cX10_has3 101 = .ok (.iadd, 1) := by decide +kernel
theorem dX10_has3_102 : decode cX10_has3 102 = .ok (.istore 7, 2) := by decide +kernel
theorem dX10_has3_104 : decode cX10_has3 104 = .ok (.iinc 8 1, 3) := by decide +kernel
theorem dX10_has3_107 : decode cX10_has3 107 = .ok (.goto (-39), 3) := by decide +kernel
theorem dX10_has3_110 : decode cX10_has3 110 = .ok (.iload 7, 2) := by decide +kernel
theorem dX10_has3_112 : decode cX10_has3 112 = .ok (.ireturn, 1) := by decide +kernel
theorem dX10_rest_0 : decode cX10_rest 0 = .ok (.aload_n 0, 1) := by decide +kernel
theorem dX10_rest_1 : decode cX10_rest 1 = .ok (.iconst 0, 1) := by decide +kernel
theorem dX10_rest_2 : decode cX10_rest 2 = .ok (.iload_n 1, 1) := by decide +kernel
theorem dX10_rest_3 : decode cX10_rest 3 = .ok (.invokevirtual 198, 3) := by decide +kernel
theorem dX10_rest_6 : decode cX10_rest 6 = .ok (.ifCond .eq 25, 3) := by decide +kernel
theorem dX10_rest_9 : decode cX10_rest 9 = .ok (.aload_n 0, 1) := by decide +kernel
theorem dX10_rest_10 : decode cX10_rest 10 = .ok (.iconst 1, 1) := by decide +kernel
theorem dX10_rest_11 : decode cX10_rest 11 = .ok (.iload_n 2, 1) := by decide +kernel
theorem dX10_rest_12 : decode cX10_rest 12 = .ok (.invokevirtual 198, 3) := by decide +kernel
theorem dX10_rest_15 : decode cX10_rest 15 = .ok (.ifCond .eq 16, 3) := by decide +kernel
theorem dX10_rest_18 : decode cX10_rest 18 = .ok (.aload_n 0, 1) := by decide +kernel
theorem dX10_rest_19 : decode cX10_rest 19 = .ok (.iconst 2, 1) := by decide +kernel
theorem dX10_rest_20 : decode cX10_rest 20 = .ok (.iload_n 3, 1) := by decide +kernel
theorem dX10_rest_21 : decode cX10_rest 21 = .ok (.invokevirtual 198, 3) := by decide +kernel
theorem dX10_rest_24 : decode cX10_rest 24 = .ok (.ifCond .eq 7, 3) := by decide +kernel
theorem dX10_rest_27 : decode cX10_rest 27 = .ok (.iconst 1, 1) := by decide +kernel
theorem dX10_rest_28 : decode cX10_rest 28 = .ok (.goto 4, 3) := by decide +kernel
theorem dX10_rest_31 : decode cX10_rest 31 = .ok (.iconst 0, 1) := by decide +kernel
theorem dX10_rest_32 : decode cX10_rest 32 = .ok (.istore 4, 2) := by decide +kernel
theorem dX10_rest_34 : decode cX10_rest 34 = .ok (.iconst 0, 1) := by decide +kernel
theorem dX10_rest_35 : decode cX10_rest 35 = .ok (.istore 5, 2) := by decide +kernel
theorem dX10_rest_37 : decode cX10_rest 37 = .ok (.iload 5, 2) := by decide +kernel
theorem dX10_rest_39 : decode cX10_rest 39 = .ok (.bipush 9, 2) := by decide +kernel
theorem dX10_rest_41 : decode cX10_rest 41 = .ok (.if_icmp .ge 135, 3) := by decide +kernel
theorem dX10_rest_44 : decode cX10_rest 44 = .ok (.iload 4, 2) := by decide +kernel
theorem dX10_rest_46 : decode cX10_rest 46 = .ok (.ifCond .eq 130, 3) := by decide +kernel
theorem dX10_rest_49 : decode cX10_rest 49 = .ok (.aload_n 0, 1) := by decide +kernel
theorem dX10_rest_50 : decode cX10_rest 50 = .ok (.iconst 0, 1) := by decide +kernel
theorem dX10_rest_51 : decode cX10_rest 51 = .ok (.iload 5, 2) := by decide +kernel
theorem dX10_rest_53 : decode cX10_rest 53 = .ok (.invokevirtual 198, 3) := by decide +kernel
theorem dX10_rest_56 : decode cX10_rest 56 = .ok (.ifCond .eq 23, 3) := by decide +kernel
theorem dX10_rest_59 : decode cX10_rest 59 = .ok (.aload_n 0, 1) := by decide +kernel
theorem dX10_rest_60 : decode cX10_rest 60 = .ok (.iconst 0, 1) := by decide +kernel
theorem dX10_rest_61 : decode cX10_rest 61 = .ok (.iload 5, 2) := by decide +kernel
theorem dX10_rest_63 : decode cX10_rest 63 = .ok (.iload_n 2, 1) := by decide +kernel
theorem dX10_rest_64 : decode cX10_rest 64 = .ok (.iload_n 3, 1) := by decide +kernel
theorem dX10_rest_65 : decode cX10_rest 65 = .ok (.invokevirtual 201, 3) := by decide +kernel
theorem dX10_rest_68 : decode cX10_rest 68 = .ok (.aload_n 0, 1) := by decide +kernel
theorem dX10_rest_69 : decode cX10_rest 69 = .ok (.iconst 0, 1) := by decide +kernel
theorem dX10_rest_70 : decode cX10_rest 70 = .ok (.iload_n 1, 1) := by decide +kernel
theorem dX10_rest_71 : decode cX10_rest 71 = .ok (.iload_n 2, 1) := by decide +kernel
theorem dX10_rest_72 : decode cX10_rest 72 = .ok (.iload_n 3, 1) := by decide +kernel
theorem dX10_rest_73 : decode cX10_rest 73 = .ok (.invokevirtual 201, 3) := by decide +kernel
theorem dX10_rest_76 : decode cX10_rest 76 = .ok (.if_icmp .gt 7, 3) := by decide +kernel
theorem dX10_rest_79 : decode cX10_rest 79 = .ok (.iconst 1, 1) := by decide +kernel
theorem dX10_rest_80 : decode cX10_rest 80 = .ok (.goto 4, 3) := by decide +kernel
theorem dX10_rest_83 : decode cX10_rest 83 = .ok (.iconst 0, 1) := by decide +kernel
theorem dX10_rest_84 : decode cX10_rest 84 = .ok (.istore 4, 2) := by decide +kernel
theorem dX10_rest_86 : decode cX10_rest 86 = .ok (.iload 4, 2) := by decide +kernel
theorem dX10_rest_88 : decode cX10_rest 88 = .ok (.ifCond .eq 37, 3) := by decide +kernel
theorem dX10_rest_91 : decode cX10_rest 91 = .ok (.aload_n 0, 1) := by decide +kernel
theorem dX10_rest_92 : decode cX10_rest 92 = .ok (.iconst 1, 1) := by decide +kernel
theorem dX10_rest_93 : decode cX10_rest 93 = .ok (.iload 5, 2) := by decide +kernel
theorem dX10_rest_95 : decode cX10_rest 95 = .ok (.invokevirtual 198, 3) := by decide +kernel
theorem dX10_rest_98 : decode cX10_rest 98 = .ok (.ifCond .eq 23, 3) := by decide +kernel
theorem dX10_rest_101 : decode cX10_rest 101 = .ok (.aload_n 0, 1) := by decide +kernel
theorem dX10_rest_102 : decode cX10_rest 102 = .ok (.iconst 1, 1) := by decide +kernel
theorem dX10_rest_103 : decode cX10_rest 103 = .ok (.iload_n 1, 1) := by decide +kernel
theorem dX10_rest_104 : decode cX10_rest 104 = .ok (.iload 5, 2) := by decide +kernel
theorem dX10_rest_106 : decode cX10_rest 106 = .ok (.iload_n 3, 1) := by decide +kernel
theorem dX10_rest_107 : decode cX10_rest 107 = .ok (.invokevirtual 201, 3) := by decide +kernel
theorem dX10_rest_110 : decode cX10_rest 110 = .ok (.aload_n 0, 1) := by decide +kernel
theorem dX10_rest_111 : decode cX10_rest 111 = .ok (.iconst 1, 1) := by decide +kernel
theorem dX10_rest_112 : decode cX10_rest 112 = .ok (.iload_n 1, 1) := by decide +kernel
theorem dX10_rest_113 : decode cX10_rest 113 = .ok (.iload_n 2, 1) := by decide +kernel
theorem dX10_rest_114 : decode cX10_rest 114 = .ok (.iload_n 3, 1) := by decide +kernel
theorem dX10_rest_115 : decode cX10_rest 115 = .ok (.invokevirtual 201, 3) := by decide +kernel
theorem dX10_rest_118 : decode cX10_rest 118 = .ok (.if_icmp .gt 7, 3) := by decide +kernel
theorem dX10_rest_121 : decode cX10_rest 121 = .ok (.iconst 1, 1) := by decide +kernel
theorem dX10_rest_122 : decode cX10_rest 122 = .ok (.goto 4, 3) := by decide +kernel
theorem dX10_rest_125 : decode cX10_rest 125 = .ok (.iconst 0, 1) := by decide +kernel
theorem dX10_rest_126 : decode cX10_rest 126 = .ok (.istore 4, 2) := by decide +kernel
theorem dX10_rest_128 : decode cX10_rest 128 = .ok (.iload 4, 2) := by decide +kernel
theorem dX10_rest_130 : decode cX10_rest 130 = .ok (.ifCond .eq 37, 3) := by decide +kernel
theorem dX10_rest_133 : decode cX10_rest 133 = .ok (.aload_n 0, 1) := by decide +kernel
theorem dX10_rest_134 : decode cX10_rest 134 = .ok (.iconst 2, 1) := by decide +kernel
theorem dX10_rest_135 : decode cX10_rest 135 = .ok (.iload 5, 2) := by decide +kernel
theorem dX10_rest_137 : decode cX10_rest 137 = .ok (.invokevirtual 198, 3) := by decide +kernel
theorem dX10_rest_140 : decode cX10_rest 140 = .ok (.ifCond .eq 23, 3) := by decide +kernel
theorem dX10_rest_143 : decode cX10_rest 143 = .ok (.aload_n 0, 1) := by decide +kernel
theorem dX10_rest_144 : decode cX10_rest 144 = .ok (.iconst 2, 1) := by decide +kernel
theorem dX10_rest_145 : decode cX10_rest 145 = .ok (.iload_n 1, 1) := by decide +kernel
theorem dX10_rest_146 : decode cX10_rest 146 = .ok (.iload_n 2, 1) := by decide +kernel
theorem dX10_rest_147 : decode cX10_rest 147 = .ok (.iload 5, 2) := by decide +kernel
theorem dX10_rest_149 : decode cX10_rest 149 = .ok (.invokevirtual 201, 3) := by decide +kernel
theorem dX10_rest_152 : decode cX10_rest 152 = .ok (.aload_n 0, 1) := by decide +kernel
theorem dX10_rest_153 : decode cX10_rest 153 = .ok (.iconst 2, 1) := by decide +kernel
theorem dX10_rest_154 : decode cX10_rest 154 = .ok (.iload_n 1, 1) := by decide +kernel
theorem dX10_rest_155 : decode cX10_rest 155 = .ok (.iload_n 2, 1) := by decide +kernel
theorem dX10_rest_156 : decode cX10_rest 156 = .ok (.iload_n 3, 1) := by decide +kernel
theorem dX10_rest_157 : decode cX10_rest 157 = .ok (.invokevirtual 201, 3) := by decide +kernel
theorem dX10_rest_160 : decode cX10_rest 160 = .ok (.if_icmp .gt 7, 3) := by decide +kernel
theorem dX10_rest_163 : decode cX10_rest 163 = .ok (.iconst 1, 1) := by decide +kernel
theorem dX10_rest_164 : decode cX10_rest 164 = .ok (.goto 4, 3) := by decide +kernel
theorem dX10_rest_167 : decode cX10_rest 167 = .ok (.iconst 0, 1) := by decide +kernel
theorem dX10_rest_168 : decode cX10_rest 168 = .ok (.istore 4, 2) := by decide +kernel
theorem dX10_rest_170 : decode cX10_rest 170 = .ok (.iinc 5 1, 3) := by decide +kernel
theorem dX10_rest_173 : decode cX10_rest 173 = .ok (.goto (-136), 3) := by decide +kernel
theorem dX10_rest_176 : decode cX10_rest 176 = .ok (.iload 4, 2) := by decide +kernel
theorem dX10_rest_178 : decode cX10_rest 178 = .ok (.ireturn, 1) := by decide +kernel
theorem dX10_rests_0 : decode cX10_rests 0 = .ok (.iload_n 1, 1) := by decide +kernel
theorem dX10_rests_1 : decode cX10_rests 1 = .ok (.i2l, 1) := by decide +kernel
theorem dX10_rests_2 : decode cX10_rests 2 = .ok (.lconst 0, 1) := by decide +kernel
theorem dX10_rests_3 : decode cX10_rests 3 = .ok (.ldc2_w 181, 3) := by decide +kernel
theorem dX10_rests_6 : decode cX10_rests 6 = .ok (.invokestatic 58, 3) := by decide +kernel
theorem dX10_rests_9 : decode cX10_rests 9 = .ok (.ifCond .ne 6, 3) := by decide +kernel
theorem dX10_rests_12 : decode cX10_rests 12 = .ok (.bipush (-2), 2) := by decide +kernel
theorem dX10_rests_14 : decode cX10_rests 14 = .ok (.ireturn, 1) := by decide +kernel
theorem dX10_rests_15 : decode cX10_rests 15 = .ok (.iconst 0, 1) := by decide +kernel
theorem dX10_rests_16 : decode cX10_rests 16 = .ok (.istore_n 2, 1) := by decide +kernel
theorem dX10_rests_17 : decode cX10_rests 17 = .ok (.bipush (-9), 2) := by decide +kernel
theorem dX10_rests_19 : decode cX10_rests 19 = .ok (.istore_n 3, 1) := by decide +kernel
theorem dX10_rests_20 : decode cX10_rests 20 = .ok (.iconst 0, 1) := by decide +kernel
theorem dX10_rests_21 : decode cX10_rests 21 = .ok (.istore 4, 2) := by decide +kernel
theorem dX10_rests_23 : decode cX10_rests 23 = .ok (.iload 4, 2) := by decide +kernel
theorem dX10_rests_25 : decode cX10_rests 25 = .ok (.sipush 729, 3) := by decide +kernel
theorem dX10_rests_28 : decode cX10_rests 28 = .ok (.if_icmp .ge 62, 3) := by decide +kernel
theorem dX10_rests_31 : decode cX10_rests 31 = .ok (.aload_n 0, 1) := by decide +kernel
theorem dX10_rests_32 : decode cX10_rests 32 = .ok (.iload 4, 2) := by decide +kernel
theorem dX10_rests_34 : decode cX10_rests 34 = .ok (.bipush 81, 2) := by decide +kernel
theorem dX10_rests_36 : decode cX10_rests 36 = .ok (.idiv, 1) := by decide +kernel
theorem dX10_rests_37 : decode cX10_rests 37 = .ok (.iload 4, 2) := by decide +kernel
theorem dX10_rests_39 : decode cX10_rests 39 = .ok (.bipush 9, 2) := by decide +kernel
theorem dX10_rests_41 : decode cX10_rests 41 = .ok (.idiv, 1) := by decide +kernel
theorem dX10_rests_42 : decode cX10_rests 42 = .ok (.bipush 9, 2) := by decide +kernel
theorem dX10_rests_44 : decode cX10_rests 44 = .ok (.irem, 1) := by decide +kernel
theorem dX10_rests_45 : decode cX10_rests 45 = .ok (.iload 4, 2) := by decide +kernel
theorem dX10_rests_47 : decode cX10_rests 47 = .ok (.bipush 9, 2) := by decide +kernel
theorem dX10_rests_49 : decode cX10_rests 49 = .ok (.irem, 1) := by decide +kernel
theorem dX10_rests_50 : decode cX10_rests 50 = .ok (.invokevirtual 205, 3) := by decide +kernel
theorem dX10_rests_53 : decode cX10_rests 53 = .ok (.istore 5, 2) := by decide +kernel
theorem dX10_rests_55 : decode cX10_rests 55 = .ok (.iload 5, 2) := by decide +kernel
theorem dX10_rests_57 : decode cX10_rests 57 = .ok (.ifCond .eq 12, 3) := by decide +kernel
theorem dX10_rests_60 : decode cX10_rests 60 = .ok (.iload_n 2, 1) := by decide +kernel
theorem dX10_rests_61 : decode cX10_rests 61 = .ok (.ifCond .ne 8, 3) := by decide +kernel
theorem dX10_rests_64 : decode cX10_rests 64 = .ok (.iload 4, 2) := by decide +kernel
theorem dX10_rests_66 : decode cX10_rests 66 = .ok (.goto 4, 3) := by decide +kernel
theorem dX10_rests_69 : decode cX10_rests 69 = .ok (.iload_n 3, 1) := by decide +kernel
theorem dX10_rests_70 : decode cX10_rests 70 = .ok (.istore_n 3, 1) := by decide +kernel
theorem dX10_rests_71 : decode cX10_rests 71 = .ok (.iload_n 2, 1) := by decide +kernel
theorem dX10_rests_72 : decode cX10_rests 72 = .ok (.iload 5, 2) := by decide +kernel
theorem dX10_rests_74 : decode cX10_rests 74 = .ok (.ifCond .eq 7, 3) := by decide +kernel
theorem dX10_rests_77 : decode cX10_rests 77 = .ok (.iconst 1, 1) := by decide +kernel
theorem dX10_rests_78 : decode cX10_rests 78 = .ok (.goto 4, 3) := by decide +kernel
theorem dX10_rests_81 : decode cX10_rests 81 = .ok (.iconst 0, 1) := by decide +kernel
theorem dX10_rests_82 : decode cX10_rests 82 = .ok (.iadd, 1) := by decide +kernel
theorem dX10_rests_83 : decode cX10_rests 83 = .ok (.istore_n 2, 1) := by decide +kernel
theorem dX10_rests_84 : decode cX10_rests 84 = .ok (.iinc 4 1, 3) := by decide +kernel
theorem dX10_rests_87 : decode cX10_rests 87 = .ok (.goto (-64), 3) := by decide +kernel
theorem dX10_rests_90 : decode cX10_rests 90 = .ok (.iload_n 1, 1) := by decide +kernel
theorem dX10_rests_91 : decode cX10_rests 91 = .ok (.ifCond .eq 8, 3) := by decide +kernel
theorem dX10_rests_94 : decode cX10_rests 94 = .ok (.iload_n 1, 1) := by decide +kernel
theorem dX10_rests_95 : decode cX10_rests 95 = .ok (.iconst 4, 1) := by decide +kernel
theorem dX10_rests_96 : decode cX10_rests 96 = .ok (.if_icmp .ne 21, 3) := by decide +kernel
theorem dX10_rests_99 : decode cX10_rests 99 = .ok (.iload_n 1, 1) := by decide +kernel
theorem dX10_rests_100 : decode cX10_rests 100 = .ok (.ifCond .ne 7, 3) := by decide +kernel
theorem dX10_rests_103 : decode cX10_rests 103 = .ok (.iload_n 2, 1) := by decide +kernel
theorem dX10_rests_104 : decode cX10_rests 104 = .ok (.goto 12, 3) := by decide +kernel
theorem dX10_rests_107 : decode cX10_rests 107 = .ok (.iload_n 2, 1) := by decide +kernel
theorem dX10_rests_108 : decode cX10_rests 108 = .ok (.ifCond .le 7, 3) := by decide +kernel
theorem dX10_rests_111 : decode cX10_rests 111 = .ok (.iconst 1, 1) := by decide +kernel
theorem dX10_rests_112 : decode cX10_rests 112 = .ok (.goto 4, 3) := by decide +kernel
theorem dX10_rests_115 : decode cX10_rests 115 = .ok (.iconst 0, 1) := by decide +kernel
theorem dX10_rests_116 : decode cX10_rests 116 = .ok (.ireturn, 1) := by decide +kernel
theorem dX10_rests_117 : decode cX10_rests 117 = .ok (.iload_n 3, 1) := by decide +kernel
theorem dX10_rests_118 : decode cX10_rests 118 = .ok (.bipush (-9), 2) := by decide +kernel
theorem dX10_rests_120 : decode cX10_rests 120 = .ok (.if_icmp .ne 7, 3) := by decide +kernel
theorem dX10_rests_123 : decode cX10_rests 123 = .ok (.iconst 0, 1) := by decide +kernel
theorem dX10_rests_124 : decode cX10_rests 124 = .ok (.goto 34, 3) := by decide +kernel
theorem dX10_rests_127 : decode cX10_rests 127 = .ok (.iload_n 1, 1) := by decide +kernel
theorem dX10_rests_128 : decode cX10_rests 128 = .ok (.iconst 1, 1) := by decide +kernel
theorem dX10_rests_129 : decode cX10_rests 129 = .ok (.if_icmp .ne 10, 3) := by decide +kernel
theorem dX10_rests_132 : decode cX10_rests 132 = .ok (.iload_n 3, 1) := by decide +kernel
theorem dX10_rests_133 : decode cX10_rests 133 = .ok (.bipush 81, 2) := by decide +kernel
theorem dX10_rests_135 : decode cX10_rests 135 = .ok (.idiv, 1) := by decide +kernel
theorem dX10_rests_136 : decode cX10_rests 136 = .ok (.goto 22, 3) := by decide +kernel
theorem dX10_rests_139 : decode cX10_rests 139 = .ok (.iload_n 1, 1) := by decide +kernel
theorem dX10_rests_140 : decode cX10_rests 140 = .ok (.iconst 2, 1) := by decide +kernel
theorem dX10_rests_141 : decode cX10_rests 141 = .ok (.if_icmp .ne 13, 3) := by decide +kernel
theorem dX10_rests_144 : decode cX10_rests 144 = .ok (.iload_n 3, 1) := by decide +kernel
theorem dX10_rests_145 : decode cX10_rests 145 = .ok (.bipush 9, 2) := by decide +kernel
theorem dX10_rests_147 : decode cX10_rests 147 = .ok (.idiv, 1) := by decide +kernel
theorem dX10_rests_148 : decode cX10_rests 148 = .ok (.bipush 9, 2) := by decide +kernel
theorem dX10_rests_150 : decode cX10_rests 150 = .ok (.irem, 1) := by decide +kernel
theorem dX10_rests_151 : decode cX10_rests 151 = .ok (.goto 7, 3) := by decide +kernel
theorem dX10_rests_154 : decode cX10_rests 154 = .ok (.iload_n 3, 1) := by decide +kernel
theorem dX10_rests_155 : decode cX10_rests 155 = .ok (.bipush 9, 2) := by decide +kernel
theorem dX10_rests_157 : decode cX10_rests 157 = .ok (.irem, 1) := by decide +kernel
theorem dX10_rests_158 : decode cX10_rests 158 = .ok (.istore 4, 2) := by decide +kernel
theorem dX10_rests_160 : decode cX10_rests 160 = .ok (.iload 4, 2) := by decide +kernel
theorem dX10_rests_162 : decode cX10_rests 162 = .ok (.ifCond .ne 8, 3) := by decide +kernel
theorem dX10_rests_165 : decode cX10_rests 165 = .ok (.bipush (-9), 2) := by decide +kernel
theorem dX10_rests_167 : decode cX10_rests 167 = .ok (.goto 7, 3) := by decide +kernel
theorem dX10_rests_170 : decode cX10_rests 170 = .ok (.iload 4, 2) := by decide +kernel
theorem dX10_rests_172 : decode cX10_rests 172 = .ok (.iconst 1, 1) := by decide +kernel
theorem dX10_rests_173 : decode cX10_rests 173 = .ok (.isub, 1) := by decide +kernel
theorem dX10_rests_174 : decode cX10_rests 174 = .ok (.ireturn, 1) := by decide +kernel
theorem dX10_sight_0 : decode cX10_sight 0 = .ok (.aload_n 0, 1) := by decide +kernel
theorem dX10_sight_1 : decode cX10_sight 1 = .ok (.iload_n 1, 1) := by decide +kernel
theorem dX10_sight_2 : decode cX10_sight 2 = .ok (.invokevirtual 128, 3) := by decide +kernel
theorem dX10_sight_5 : decode cX10_sight 5 = .ok (.ifCond .ne 5, 3) := by decide +kernel
theorem dX10_sight_8 : decode cX10_sight 8 = .ok (.iconst (-1), 1) := by decide +kernel
theorem dX10_sight_9 : decode cX10_sight 9 = .ok (.ireturn, 1) := by decide +kernel
theorem dX10_sight_10 : decode cX10_sight 10 = .ok (.iload_n 2, 1) := by decide +kernel
theorem dX10_sight_11 : decode cX10_sight 11 = .ok (.i2l, 1) := by decide +kernel
theorem dX10_sight_12 : decode cX10_sight 12 = .ok (.lconst 0, 1) := by decide +kernel
theorem dX10_sight_13 : decode cX10_sight 13 = .ok (.ldc2_w 209, 3) := by decide +kernel
theorem dX10_sight_16 : decode cX10_sight 16 = .ok (.invokestatic 58, 3) := by decide +kernel
theorem dX10_sight_19 : decode cX10_sight 19 = .ok (.ifCond .ne 6, 3) := by decide +kernel
theorem dX10_sight_22 : decode cX10_sight 22 = .ok (.bipush (-2), 2) := by decide +kernel
theorem dX10_sight_24 : decode cX10_sight 24 = .ok (.ireturn, 1) := by decide +kernel
theorem dX10_sight_25 : decode cX10_sight 25 = .ok (.aload_n 0, 1) := by decide +kernel
theorem dX10_sight_26 : decode cX10_sight 26 = .ok (.getfield 211, 3) := by decide +kernel
theorem dX10_sight_29 : decode cX10_sight 29 = .ok (.bipush 6, 2) := by decide +kernel
theorem dX10_sight_31 : decode cX10_sight 31 = .ok (.if_icmp .ne 6, 3) := by decide +kernel
theorem dX10_sight_34 : decode cX10_sight 34 = .ok (.bipush (-4), 2) := by decide +kernel
theorem dX10_sight_36 : decode cX10_sight 36 = .ok (.ireturn, 1) := by decide +kernel
theorem dX10_sight_37 : decode cX10_sight 37 = .ok (.aload_n 0, 1) := by decide +kernel
theorem dX10_sight_38 : decode cX10_sight 38 = .ok (.getfield 19, 3) := by decide +kernel
theorem dX10_sight_41 : decode cX10_sight 41 = .ok (.aload_n 0, 1) := by decide +kernel
theorem dX10_sight_42 : decode cX10_sight 42 = .ok (.getfield 211, 3) := by decide +kernel
theorem dX10_sight_45 : decode cX10_sight 45 = .ok (.iload_n 1, 1) := by decide +kernel
theorem dX10_sight_46 : decode cX10_sight 46 = .ok (.iastore, 1) := by decide +kernel
theorem dX10_sight_47 : decode cX10_sight 47 = .ok (.aload_n 0, 1) := by decide +kernel
theorem dX10_sight_48 : decode cX10_sight 48 = .ok (.getfield 22, 3) := by decide +kernel
theorem dX10_sight_51 : decode cX10_sight 51 = .ok (.aload_n 0, 1) := by decide +kernel
theorem dX10_sight_52 : decode cX10_sight 52 = .ok (.getfield 211, 3) := by decide +kernel
theorem dX10_sight_55 : decode cX10_sight 55 = .ok (.iload_n 2, 1) := by decide +kernel
theorem dX10_sight_56 : decode cX10_sight 56 = .ok (.iastore, 1) := by decide +kernel
theorem dX10_sight_57 : decode cX10_sight 57 = .ok (.aload_n 0, 1) := by decide +kernel
theorem dX10_sight_58 : decode cX10_sight 58 = .ok (.getfield 25, 3) := by decide +kernel
theorem dX10_sight_61 : decode cX10_sight 61 = .ok (.aload_n 0, 1) := by decide +kernel
theorem dX10_sight_62 : decode cX10_sight 62 = .ok (.getfield 211, 3) := by decide +kernel
theorem dX10_sight_65 : decode cX10_sight 65 = .ok (.iload_n 3, 1) := by decide +kernel
theorem dX10_sight_66 : decode cX10_sight 66 = .ok (.bastore, 1) := by decide +kernel
theorem dX10_sight_67 : decode cX10_sight 67 = .ok (.aload_n 0, 1) := by decide +kernel
theorem dX10_sight_68 : decode cX10_sight 68 = .ok (.dup, 1) := by decide +kernel
theorem dX10_sight_69 : decode cX10_sight 69 = .ok (.getfield 211, 3) := by decide +kernel
theorem dX10_sight_72 : decode cX10_sight 72 = .ok (.iconst 1, 1) := by decide +kernel
theorem dX10_sight_73 : decode cX10_sight 73 = .ok (.iadd, 1) := by decide +kernel
theorem dX10_sight_74 : decode cX10_sight 74 = .ok (.putfield 211, 3) := by decide +kernel
theorem dX10_sight_77 : decode cX10_sight 77 = .ok (.aload_n 0, 1) := by decide +kernel
theorem dX10_sight_78 : decode cX10_sight 78 = .ok (.getfield 211, 3) := by decide +kernel
theorem dX10_sight_81 : decode cX10_sight 81 = .ok (.ireturn, 1) := by decide +kernel
theorem dX10_unsight_0 : decode cX10_unsight 0 = .ok (.aload_n 0, 1) := by decide +kernel
theorem dX10_unsight_1 : decode cX10_unsight 1 = .ok (.getfield 211, 3) := by decide +kernel
theorem dX10_unsight_4 : decode cX10_unsight 4 = .ok (.istore_n 1, 1) := by decide +kernel
theorem dX10_unsight_5 : decode cX10_unsight 5 = .ok (.aload_n 0, 1) := by decide +kernel
theorem dX10_unsight_6 : decode cX10_unsight 6 = .ok (.iconst 0, 1) := by decide +kernel
theorem dX10_unsight_7 : decode cX10_unsight 7 = .ok (.putfield 211, 3) := by decide +kernel
theorem dX10_unsight_10 : decode cX10_unsight 10 = .ok (.iload_n 1, 1) := by decide +kernel
theorem dX10_unsight_11 : decode cX10_unsight 11 = .ok (.ireturn, 1) := by decide +kernel
theorem dX10_hiddenThere_0 : decode cX10_hiddenThere 0 = .ok (.iconst 1, 1) := by decide +kernel
theorem dX10_hiddenThere_1 : decode cX10_hiddenThere 1 = .ok (.aload_n 0, 1) := by decide +kernel
theorem dX10_hiddenThere_2 : decode cX10_hiddenThere 2 = .ok (.invokevirtual 105, 3) := by decide +kernel
theorem dX10_hiddenThere_5 : decode cX10_hiddenThere 5 = .ok (.ishl, 1) := by decide +kernel
theorem dX10_hiddenThere_6 : decode cX10_hiddenThere 6 = .ok (.iconst 1, 1) := by decide +kernel
theorem dX10_hiddenThere_7 : decode cX10_hiddenThere 7 = .ok (.isub, 1) := by decide +kernel
theorem dX10_hiddenThere_8 : decode cX10_hiddenThere 8 = .ok (.aload_n 0, 1) := by decide +kernel
theorem dX10_hiddenThere_9 : decode cX10_hiddenThere 9 = .ok (.getfield 7, 3) := by decide +kernel
theorem dX10_hiddenThere_12 : decode cX10_hiddenThere 12 = .ok (.bipush 9, 2) := by decide +kernel
theorem dX10_hiddenThere_14 : decode cX10_hiddenThere 14 = .ok (.iaload, 1) := by decide +kernel
theorem dX10_hiddenThere_15 : decode cX10_hiddenThere 15 = .ok (.iand, 1) := by decide +kernel
theorem dX10_hiddenThere_16 : decode cX10_hiddenThere 16 = .ok (.aload_n 0, 1) := by decide +kernel
theorem dX10_hiddenThere_17 : decode cX10_hiddenThere 17 = .ok (.getfield 7, 3) := by decide +kernel
theorem dX10_hiddenThere_20 : decode cX10_hiddenThere 20 = .ok (.bipush 8, 2) := by decide +kernel
theorem dX10_hiddenThere_22 : decode cX10_hiddenThere 22 = .ok (.iaload, 1) := by decide +kernel
theorem dX10_hiddenThere_23 : decode cX10_hiddenThere 23 = .ok (.iconst (-1), 1) := by decide +kernel
theorem dX10_hiddenThere_24 : decode cX10_hiddenThere 24 = .ok (.ixor, 1) := by decide +kernel
theorem dX10_hiddenThere_25 : decode cX10_hiddenThere 25 = .ok (.iand, 1) := by decide +kernel
theorem dX10_hiddenThere_26 : decode cX10_hiddenThere 26 = .ok (.ireturn, 1) := by decide +kernel
theorem dX10_isSighted_0 : decode cX10_isSighted 0 = .ok (.iconst 1, 1) := by decide +kernel
theorem dX10_isSighted_1 : decode cX10_isSighted 1 = .ok (.istore_n 2, 1) := by decide +kernel
theorem dX10_isSighted_2 : decode cX10_isSighted 2 = .ok (.iconst 0, 1) := by decide +kernel
theorem dX10_isSighted_3 : decode cX10_isSighted 3 = .ok (.istore_n 3, 1) := by decide +kernel
theorem dX10_isSighted_4 : decode cX10_isSighted 4 = .ok (.iload_n 3, 1) := by decide +kernel
theorem dX10_isSighted_5 : decode cX10_isSighted 5 = .ok (.aload_n 0, 1) := by decide +kernel
theorem dX10_isSighted_6 : decode cX10_isSighted 6 = .ok (.getfield 211, 3) := by decide +kernel
theorem dX10_isSighted_9 : decode cX10_isSighted 9 = .ok (.if_icmp .ge 87, 3) := by decide +kernel
theorem dX10_isSighted_12 : decode cX10_isSighted 12 = .ok (.aload_n 0, 1) := by decide +kernel
theorem dX10_isSighted_13 : decode cX10_isSighted 13 = .ok (.getfield 19, 3) := by decide +kernel
theorem dX10_isSighted_16 : decode cX10_isSighted 16 = .ok (.iload_n 3, 1) := by decide +kernel
theorem dX10_isSighted_17 : decode cX10_isSighted 17 = .ok (.iaload, 1) := by decide +kernel
theorem dX10_isSighted_18 : decode cX10_isSighted 18 = .ok (.istore 4, 2) := by decide +kernel
theorem dX10_isSighted_20 : decode cX10_isSighted 20 = .ok (.aload_n 0, 1) := by decide +kernel
theorem dX10_isSighted_21 : decode cX10_isSighted 21 = .ok (.iload 4, 2) := by decide +kernel
theorem dX10_isSighted_23 : decode cX10_isSighted 23 = .ok (.invokevirtual 128, 3) := by decide +kernel
theorem dX10_isSighted_26 : decode cX10_isSighted 26 = .ok (.ifCond .eq 64, 3) := by decide +kernel
theorem dX10_isSighted_29 : decode cX10_isSighted 29 = .ok (.aload_n 0, 1) := by decide +kernel
theorem dX10_isSighted_30 : decode cX10_isSighted 30 = .ok (.iload 4, 2) := by decide +kernel
theorem dX10_isSighted_32 : decode cX10_isSighted 32 = .ok (.iload_n 1, 1) := by decide +kernel
theorem dX10_isSighted_33 : decode cX10_isSighted 33 = .ok (.aload_n 0, 1) := by decide +kernel
theorem dX10_isSighted_34 : decode cX10_isSighted 34 = .ok (.getfield 7, 3) := by decide +kernel
theorem dX10_isSighted_37 : decode cX10_isSighted 37 = .ok (.bipush 11, 2) := by decide +kernel
theorem dX10_isSighted_39 : decode cX10_isSighted 39 = .ok (.iaload, 1) := by decide +kernel
theorem dX10_isSighted_40 : decode cX10_isSighted 40 = .ok (.invokevirtual 118, 3) := by decide +kernel
theorem dX10_isSighted_43 : decode cX10_isSighted 43 = .ok (.invokestatic 115, 3) := by decide +kernel
theorem dX10_isSighted_46 : decode cX10_isSighted 46 = .ok (.iload_n 1, 1) := by decide +kernel
theorem dX10_isSighted_47 : decode cX10_isSighted 47 = .ok (.iload 4, 2) := by decide +kernel
theorem dX10_isSighted_49 : decode cX10_isSighted 49 = .ok (.ishr, 1) := by decide +kernel
theorem dX10_isSighted_50 : decode cX10_isSighted 50 = .ok (.iconst 1, 1) := by decide +kernel
theorem dX10_isSighted_51 : decode cX10_isSighted 51 = .ok (.iand, 1) := by decide +kernel
theorem dX10_isSighted_52 : decode cX10_isSighted 52 = .ok (.iadd, 1) := by decide +kernel
theorem dX10_isSighted_53 : decode cX10_isSighted 53 = .ok (.istore 5, 2) := by decide +kernel
theorem dX10_isSighted_55 : decode cX10_isSighted 55 = .ok (.iload_n 2, 1) := by decide +kernel
theorem dX10_isSighted_56 : decode cX10_isSighted 56 = .ok (.ifCond .eq 32, 3) := by decide +kernel
theorem dX10_isSighted_59 : decode cX10_isSighted 59 = .ok (.iload 5, 2) := by decide +kernel
theorem dX10_isSighted_61 : decode cX10_isSighted 61 = .ok (.aload_n 0, 1) := by decide +kernel
theorem dX10_isSighted_62 : decode cX10_isSighted 62 = .ok (.getfield 22, 3) := by decide +kernel
theorem dX10_isSighted_65 : decode cX10_isSighted 65 = .ok (.iload_n 3, 1) := by decide +kernel
theorem dX10_isSighted_66 : decode cX10_isSighted 66 = .ok (.iaload, 1) := by decide +kernel
theorem dX10_isSighted_67 : decode cX10_isSighted 67 = .ok (.if_icmp .lt 7, 3) := by decide +kernel
theorem dX10_isSighted_70 : decode cX10_isSighted 70 = .ok (.iconst 1, 1) := by decide +kernel
theorem dX10_isSighted_71 : decode cX10_isSighted 71 = .ok (.goto 4, 3) := by decide +kernel
theorem dX10_isSighted_74 : decode cX10_isSighted 74 = .ok (.iconst 0, 1) := by decide +kernel
theorem dX10_isSighted_75 : decode cX10_isSighted 75 = .ok (.aload_n 0, 1) := by decide +kernel
theorem dX10_isSighted_76 : decode cX10_isSighted 76 = .ok (.getfield 25, 3) := by decide +kernel
theorem dX10_isSighted_79 : decode cX10_isSighted 79 = .ok (.iload_n 3, 1) := by decide +kernel
theorem dX10_isSighted_80 : decode cX10_isSighted 80 = .ok (.baload, 1) := by decide +kernel
theorem dX10_isSighted_81 : decode cX10_isSighted 81 = .ok (.if_icmp .ne 7, 3) := by decide +kernel
theorem dX10_isSighted_84 : decode cX10_isSighted 84 = .ok (.iconst 1, 1) := by decide +kernel
theorem dX10_isSighted_85 : decode cX10_isSighted 85 = .ok (.goto 4, 3) := by decide +kernel
theorem dX10_isSighted_88 : decode cX10_isSighted 88 = .ok (.iconst 0, 1) := by decide +kernel
theorem dX10_isSighted_89 : decode cX10_isSighted 89 = .ok (.istore_n 2, 1) := by decide +kernel
theorem dX10_isSighted_90 : decode cX10_isSighted 90 = .ok (.iinc 3 1, 3) := by decide +kernel
theorem dX10_isSighted_93 : decode cX10_isSighted 93 = .ok (.goto (-89), 3) := by decide +kernel
theorem dX10_isSighted_96 : decode cX10_isSighted 96 = .ok (.iload_n 2, 1) := by decide +kernel
theorem dX10_isSighted_97 : decode cX10_isSighted 97 = .ok (.ireturn, 1) := by decide +kernel
theorem dX10_layWorlds_0 : decode cX10_layWorlds 0 = .ok (.aload_n 0, 1) := by decide +kernel
theorem dX10_layWorlds_1 : decode cX10_layWorlds 1 = .ok (.invokevirtual 214, 3) := by decide +kernel
theorem dX10_layWorlds_4 : decode cX10_layWorlds 4 = .ok (.istore_n 1, 1) := by decide +kernel
theorem dX10_layWorlds_5 : decode cX10_layWorlds 5 = .ok (.aload_n 0, 1) := by decide +kernel
theorem dX10_layWorlds_6 : decode cX10_layWorlds 6 = .ok (.iconst 0, 1) := by decide +kernel
theorem dX10_layWorlds_7 : decode cX10_layWorlds 7 = .ok (.putfield 217, 3) := by decide +kernel
theorem dX10_layWorlds_10 : decode cX10_layWorlds 10 = .ok (.aload_n 0, 1) := by decide +kernel
theorem dX10_layWorlds_11 : decode cX10_layWorlds 11 = .ok (.iload_n 1, 1) := by decide +kernel
theorem dX10_layWorlds_12 : decode cX10_layWorlds 12 = .ok (.putfield 220, 3) := by decide +kernel
theorem dX10_layWorlds_15 : decode cX10_layWorlds 15 = .ok (.aload_n 0, 1) := by decide +kernel
theorem dX10_layWorlds_16 : decode cX10_layWorlds 16 = .ok (.iconst 0, 1) := by decide +kernel
theorem dX10_layWorlds_17 : decode cX10_layWorlds 17 = .ok (.putfield 223, 3) := by decide +kernel
theorem dX10_layWorlds_20 : decode cX10_layWorlds 20 = .ok (.iconst 0, 1) := by decide +kernel
theorem dX10_layWorlds_21 : decode cX10_layWorlds 21 = .ok (.istore_n 2, 1) := by decide +kernel
theorem dX10_layWorlds_22 : decode cX10_layWorlds 22 = .ok (.iload_n 2, 1) := by decide +kernel
theorem dX10_layWorlds_23 : decode cX10_layWorlds 23 = .ok (.bipush 8, 2) := by decide +kernel
theorem dX10_layWorlds_25 : decode cX10_layWorlds 25 = .ok (.if_icmp .ge 16, 3) := by decide +kernel
theorem dX10_layWorlds_28 : decode cX10_layWorlds 28 = .ok (.aload_n 0, 1) := by decide +kernel
theorem dX10_layWorlds_29 : decode cX10_layWorlds 29 = .ok (.getfield 29, 3) := by decide +kernel
theorem dX10_layWorlds_32 : decode cX10_layWorlds 32 = .ok (.iload_n 2, 1) := by decide +kernel
theorem dX10_layWorlds_33 : decode cX10_layWorlds 33 = .ok (.iconst 0, 1) := by decide +kernel
theorem dX10_layWorlds_34 : decode cX10_layWorlds 34 = .ok (.iastore, 1) := by decide +kernel
theorem dX10_layWorlds_35 : decode cX10_layWorlds 35 = .ok (.iinc 2 1, 3) := by decide +kernel
theorem dX10_layWorlds_38 : decode cX10_layWorlds 38 = .ok (.goto (-16), 3) := by decide +kernel
theorem dX10_layWorlds_41 : decode cX10_layWorlds 41 = .ok (.iconst 0, 1) := by decide +kernel
theorem dX10_layWorlds_42 : decode cX10_layWorlds 42 = .ok (.istore_n 2, 1) := by decide +kernel
theorem dX10_layWorlds_43 : decode cX10_layWorlds 43 = .ok (.iload_n 2, 1) := by decide +kernel
theorem dX10_layWorlds_44 : decode cX10_layWorlds 44 = .ok (.sipush 256, 3) := by decide +kernel
theorem dX10_layWorlds_47 : decode cX10_layWorlds 47 = .ok (.if_icmp .ge 89, 3) := by decide +kernel
theorem dX10_layWorlds_50 : decode cX10_layWorlds 50 = .ok (.iload_n 2, 1) := by decide +kernel
theorem dX10_layWorlds_51 : decode cX10_layWorlds 51 = .ok (.iload_n 1, 1) := by decide +kernel
theorem dX10_layWorlds_52 : decode cX10_layWorlds 52 = .ok (.iconst (-1), 1) := by decide +kernel
theorem dX10_layWorlds_53 : decode cX10_layWorlds 53 = .ok (.ixor, 1) := by decide +kernel
theorem dX10_layWorlds_54 : decode cX10_layWorlds 54 = .ok (.iand, 1) := by decide +kernel
theorem dX10_layWorlds_55 : decode cX10_layWorlds 55 = .ok (.ifCond .ne 75, 3) := by decide +kernel
theorem dX10_layWorlds_58 : decode cX10_layWorlds 58 = .ok (.aload_n 0, 1) := by decide +kernel
theorem dX10_layWorlds_59 : decode cX10_layWorlds 59 = .ok (.aload_n 0, 1) := by decide +kernel
theorem dX10_layWorlds_60 : decode cX10_layWorlds 60 = .ok (.iconst 0, 1) := by decide +kernel
theorem dX10_layWorlds_61 : decode cX10_layWorlds 61 = .ok (.invokevirtual 122, 3) := by decide +kernel
theorem dX10_layWorlds_64 : decode cX10_layWorlds 64 = .ok (.iload_n 2, 1) := by decide +kernel
theorem dX10_layWorlds_65 : decode cX10_layWorlds 65 = .ok (.ior, 1) := by decide +kernel
theorem dX10_layWorlds_66 : decode cX10_layWorlds 66 = .ok (.invokevirtual 226, 3) := by decide +kernel
theorem dX10_layWorlds_69 : decode cX10_layWorlds 69 = .ok (.ifCond .eq 61, 3) := by decide +kernel
theorem dX10_layWorlds_72 : decode cX10_layWorlds 72 = .ok (.aload_n 0, 1) := by decide +kernel
theorem dX10_layWorlds_73 : decode cX10_layWorlds 73 = .ok (.dup, 1) := by decide +kernel
theorem dX10_layWorlds_74 : decode cX10_layWorlds 74 = .ok (.getfield 217, 3) := by decide +kernel
theorem dX10_layWorlds_77 : decode cX10_layWorlds 77 = .ok (.iconst 1, 1) := by decide +kernel
theorem dX10_layWorlds_78 : decode cX10_layWorlds 78 = .ok (.iadd, 1) := by decide +kernel
theorem dX10_layWorlds_79 : decode cX10_layWorlds 79 = .ok (.putfield 217, 3) := by decide +kernel
theorem dX10_layWorlds_82 : decode cX10_layWorlds 82 = .ok (.aload_n 0, 1) := by decide +kernel
theorem dX10_layWorlds_83 : decode cX10_layWorlds 83 = .ok (.dup, 1) := by decide +kernel
theorem dX10_layWorlds_84 : decode cX10_layWorlds 84 = .ok (.getfield 220, 3) := by decide +kernel
theorem dX10_layWorlds_87 : decode cX10_layWorlds 87 = .ok (.iload_n 2, 1) := by decide +kernel
theorem dX10_layWorlds_88 : decode cX10_layWorlds 88 = .ok (.iand, 1) := by decide +kernel
theorem dX10_layWorlds_89 : decode cX10_layWorlds 89 = .ok (.putfield 220, 3) := by decide +kernel
theorem dX10_layWorlds_92 : decode cX10_layWorlds 92 = .ok (.aload_n 0, 1) := by decide +kernel
theorem dX10_layWorlds_93 : decode cX10_layWorlds 93 = .ok (.dup, 1) := by decide +kernel
theorem dX10_layWorlds_94 : decode cX10_layWorlds 94 = .ok (.getfield 223, 3) := by decide +kernel
theorem dX10_layWorlds_97 : decode cX10_layWorlds 97 = .ok (.iload_n 2, 1) := by decide +kernel
theorem dX10_layWorlds_98 : decode cX10_layWorlds 98 = .ok (.ior, 1) := by decide +kernel
theorem dX10_layWorlds_99 : decode cX10_layWorlds 99 = .ok (.putfield 223, 3) := by decide +kernel
theorem dX10_layWorlds_102 : decode cX10_layWorlds 102 = .ok (.iconst 0, 1) := by decide +kernel
theorem dX10_layWorlds_103 : decode cX10_layWorlds 103 = .ok (.istore_n 3, 1) := by decide +kernel
theorem dX10_layWorlds_104 : decode cX10_layWorlds 104 = .ok (.iload_n 3, 1) := by decide +kernel
theorem dX10_layWorlds_105 : decode cX10_layWorlds 105 = .ok (.bipush 8, 2) := by decide +kernel
theorem dX10_layWorlds_107 : decode cX10_layWorlds 107 = .ok (.if_icmp .ge 23, 3) := by decide +kernel
theorem dX10_layWorlds_110 : decode cX10_layWorlds 110 = .ok (.aload_n 0, 1) := by decide +kernel
theorem dX10_layWorlds_111 : decode cX10_layWorlds 111 = .ok (.getfield 29, 3) := by decide +kernel
theorem dX10_layWorlds_114 : decode cX10_layWorlds 114 = .ok (.iload_n 3, 1) := by decide +kernel
theorem dX10_layWorlds_115 : decode cX10_layWorlds 115 = .ok (.dup2, 1) := by decide +kernel
theorem dX10_layWorlds_116 : decode cX10_layWorlds 116 = .ok (.iaload, 1) := by decide +kernel
theorem dX10_layWorlds_117 : decode cX10_layWorlds 117 = .ok (.iload_n 2, 1) := by decide +kernel
theorem dX10_layWorlds_118 : decode cX10_layWorlds 118 = .ok (.iload_n 3, 1) := by decide +kernel
theorem dX10_layWorlds_119 : decode cX10_layWorlds 119 = .ok (.ishr, 1) := by decide +kernel
theorem dX10_layWorlds_120 : decode cX10_layWorlds 120 = .ok (.iconst 1, 1) := by decide +kernel
theorem dX10_layWorlds_121 : decode cX10_layWorlds 121 = .ok (.iand, 1) := by decide +kernel
theorem dX10_layWorlds_122 : decode cX10_layWorlds 122 = .ok (.iadd, 1) := by decide +kernel
theorem dX10_layWorlds_123 : decode cX10_layWorlds 123 = .ok (.iastore, 1) := by decide +kernel
theorem dX10_layWorlds_124 : decode cX10_layWorlds 124 = .ok (.iinc 3 1, 3) := by decide +kernel
theorem dX10_layWorlds_127 : decode cX10_layWorlds 127 = .ok (.goto (-23), 3) := by decide +kernel
theorem dX10_layWorlds_130 : decode cX10_layWorlds 130 = .ok (.iinc 2 1, 3) := by decide +kernel
theorem dX10_layWorlds_133 : decode cX10_layWorlds 133 = .ok (.goto (-90), 3) := by decide +kernel
theorem dX10_layWorlds_136 : decode cX10_layWorlds 136 = .ok (.return_, 1) := by decide +kernel
theorem dX10_worlds_0 : decode cX10_worlds 0 = .ok (.iload_n 1, 1) := by decide +kernel
theorem dX10_worlds_1 : decode cX10_worlds 1 = .ok (.i2l, 1) := by decide +kernel
theorem dX10_worlds_2 : decode cX10_worlds 2 = .ok (.lconst 0, 1) := by decide +kernel
theorem dX10_worlds_3 : decode cX10_worlds 3 = .ok (.ldc2_w 167, 3) := by decide +kernel
theorem dX10_worlds_6 : decode cX10_worlds 6 = .ok (.invokestatic 58, 3) := by decide +kernel
theorem dX10_worlds_9 : decode cX10_worlds 9 = .ok (.ifCond .ne 6, 3) := by decide +kernel
theorem dX10_worlds_12 : decode cX10_worlds 12 = .ok (.bipush (-2), 2) := by decide +kernel
theorem dX10_worlds_14 : decode cX10_worlds 14 = .ok (.ireturn, 1) := by decide +kernel
theorem dX10_worlds_15 : decode cX10_worlds 15 = .ok (.aload_n 0, 1) := by decide +kernel
theorem dX10_worlds_16 : decode cX10_worlds 16 = .ok (.invokevirtual 229, 3) := by decide +kernel
theorem dX10_worlds_19 : decode cX10_worlds 19 = .ok (.iload_n 1, 1) := by decide +kernel
theorem dX10_worlds_20 : decode cX10_worlds 20 = .ok (.ifCond .ne 10, 3) := by decide +kernel
theorem dX10_worlds_23 : decode cX10_worlds 23 = .ok (.aload_n 0, 1) := by decide +kernel
theorem dX10_worlds_24 : decode cX10_worlds 24 = .ok (.getfield 217, 3) := by decide +kernel
theorem dX10_worlds_27 : decode cX10_worlds 27 = .ok (.goto 38, 3) := by decide +kernel
theorem dX10_worlds_30 : decode cX10_worlds 30 = .ok (.aload_n 0, 1) := by decide +kernel
theorem dX10_worlds_31 : decode cX10_worlds 31 = .ok (.getfield 217, 3) := by decide +kernel
theorem dX10_worlds_34 : decode cX10_worlds 34 = .ok (.ifCond .ne 8, 3) := by decide +kernel
theorem dX10_worlds_37 : decode cX10_worlds 37 = .ok (.bipush (-9), 2) := by decide +kernel
theorem dX10_worlds_39 : decode cX10_worlds 39 = .ok (.goto 26, 3) := by decide +kernel
theorem dX10_worlds_42 : decode cX10_worlds 42 = .ok (.iload_n 1, 1) := by decide +kernel
theorem dX10_worlds_43 : decode cX10_worlds 43 = .ok (.iconst 1, 1) := by decide +kernel
theorem dX10_worlds_44 : decode cX10_worlds 44 = .ok (.if_icmp .ne 10, 3) := by decide +kernel
theorem dX10_worlds_47 : decode cX10_worlds 47 = .ok (.aload_n 0, 1) := by decide +kernel
theorem dX10_worlds_48 : decode cX10_worlds 48 = .ok (.getfield 220, 3) := by decide +kernel
theorem dX10_worlds_51 : decode cX10_worlds 51 = .ok (.goto 14, 3) := by decide +kernel
theorem dX10_worlds_54 : decode cX10_worlds 54 = .ok (.aload_n 0, 1) := by decide +kernel
theorem dX10_worlds_55 : decode cX10_worlds 55 = .ok (.invokevirtual 214, 3) := by decide +kernel
theorem dX10_worlds_58 : decode cX10_worlds 58 = .ok (.aload_n 0, 1) := by decide +kernel
theorem dX10_worlds_59 : decode cX10_worlds 59 = .ok (.getfield 223, 3) := by decide +kernel
theorem dX10_worlds_62 : decode cX10_worlds 62 = .ok (.iconst (-1), 1) := by decide +kernel
theorem dX10_worlds_63 : decode cX10_worlds 63 = .ok (.ixor, 1) := by decide +kernel
theorem dX10_worlds_64 : decode cX10_worlds 64 = .ok (.iand, 1) := by decide +kernel
theorem dX10_worlds_65 : decode cX10_worlds 65 = .ok (.ireturn, 1) := by decide +kernel
theorem dX10_toSeek_0 : decode cX10_toSeek 0 = .ok (.aload_n 0, 1) := by decide +kernel
theorem dX10_toSeek_1 : decode cX10_toSeek 1 = .ok (.invokevirtual 229, 3) := by decide +kernel
theorem dX10_toSeek_4 : decode cX10_toSeek 4 = .ok (.bipush (-9), 2) := by decide +kernel
theorem dX10_toSeek_6 : decode cX10_toSeek 6 = .ok (.istore_n 1, 1) := by decide +kernel
theorem dX10_toSeek_7 : decode cX10_toSeek 7 = .ok (.bipush (-9), 2) := by decide +kernel
theorem dX10_toSeek_9 : decode cX10_toSeek 9 = .ok (.istore_n 2, 1) := by decide +kernel
theorem dX10_toSeek_10 : decode cX10_toSeek 10 = .ok (.iconst 0, 1) := by decide +kernel
theorem dX10_toSeek_11 : decode cX10_toSeek 11 = .ok (.istore_n 3, 1) := by decide +kernel
theorem dX10_toSeek_12 : decode cX10_toSeek 12 = .ok (.iload_n 3, 1) := by decide +kernel
theorem dX10_toSeek_13 : decode cX10_toSeek 13 = .ok (.aload_n 0, 1) := by decide +kernel
theorem dX10_toSeek_14 : decode cX10_toSeek 14 = .ok (.invokevirtual 105, 3) := by decide +kernel
theorem dX10_toSeek_17 : decode cX10_toSeek 17 = .ok (.if_icmp .ge 105, 3) := by decide +kernel
theorem dX10_toSeek_20 : decode cX10_toSeek 20 = .ok (.aload_n 0, 1) := by decide +kernel
theorem dX10_toSeek_21 : decode cX10_toSeek 21 = .ok (.getfield 217, 3) := by decide +kernel
theorem dX10_toSeek_24 : decode cX10_toSeek 24 = .ok (.ifCond .le 98, 3) := by decide +kernel
theorem dX10_toSeek_27 : decode cX10_toSeek 27 = .ok (.aload_n 0, 1) := by decide +kernel
theorem dX10_toSeek_28 : decode cX10_toSeek 28 = .ok (.getfield 29, 3) := by decide +kernel
theorem dX10_toSeek_31 : decode cX10_toSeek 31 = .ok (.iload_n 3, 1) := by decide +kernel
theorem dX10_toSeek_32 : decode cX10_toSeek 32 = .ok (.iaload, 1) := by decide +kernel
theorem dX10_toSeek_33 : decode cX10_toSeek 33 = .ok (.aload_n 0, 1) := by decide +kernel
theorem dX10_toSeek_34 : decode cX10_toSeek 34 = .ok (.getfield 217, 3) := by decide +kernel
theorem dX10_toSeek_37 : decode cX10_toSeek 37 = .ok (.aload_n 0, 1) := by decide +kernel
theorem dX10_toSeek_38 : decode cX10_toSeek 38 = .ok (.getfield 29, 3) := by decide +kernel
theorem dX10_toSeek_41 : decode cX10_toSeek 41 = .ok (.iload_n 3, 1) := by decide +kernel
theorem dX10_toSeek_42 : decode cX10_toSeek 42 = .ok (.iaload, 1) := by decide +kernel
theorem dX10_toSeek_43 : decode cX10_toSeek 43 = .ok (.isub, 1) := by decide +kernel
theorem dX10_toSeek_44 : decode cX10_toSeek 44 = .ok (.if_icmp .ge 12, 3) := by decide +kernel
theorem dX10_toSeek_47 : decode cX10_toSeek 47 = .ok (.aload_n 0, 1) := by decide +kernel
theorem dX10_toSeek_48 : decode cX10_toSeek 48 = .ok (.getfield 29, 3) := by decide +kernel
theorem dX10_toSeek_51 : decode cX10_toSeek 51 = .ok (.iload_n 3, 1) := by decide +kernel
theorem dX10_toSeek_52 : decode cX10_toSeek 52 = .ok (.iaload, 1) := by decide +kernel
theorem dX10_toSeek_53 : decode cX10_toSeek 53 = .ok (.goto 14, 3) := by decide +kernel
theorem dX10_toSeek_56 : decode cX10_toSeek 56 = .ok (.aload_n 0, 1) := by decide +kernel
theorem dX10_toSeek_57 : decode cX10_toSeek 57 = .ok (.getfield 217, 3) := by decide +kernel
theorem dX10_toSeek_60 : decode cX10_toSeek 60 = .ok (.aload_n 0, 1) := by decide +kernel
theorem dX10_toSeek_61 : decode cX10_toSeek 61 = .ok (.getfield 29, 3) := by decide +kernel
theorem dX10_toSeek_64 : decode cX10_toSeek 64 = .ok (.iload_n 3, 1) := by decide +kernel
theorem dX10_toSeek_65 : decode cX10_toSeek 65 = .ok (.iaload, 1) := by decide +kernel
theorem dX10_toSeek_66 : decode cX10_toSeek 66 = .ok (.isub, 1) := by decide +kernel
theorem dX10_toSeek_67 : decode cX10_toSeek 67 = .ok (.istore 4, 2) := by decide +kernel
theorem dX10_toSeek_69 : decode cX10_toSeek 69 = .ok (.aload_n 0, 1) := by decide +kernel
theorem dX10_toSeek_70 : decode cX10_toSeek 70 = .ok (.invokevirtual 214, 3) := by decide +kernel
theorem dX10_toSeek_73 : decode cX10_toSeek 73 = .ok (.iload_n 3, 1) := by decide +kernel
theorem dX10_toSeek_74 : decode cX10_toSeek 74 = .ok (.invokestatic 108, 3) := by decide +kernel
theorem dX10_toSeek_77 : decode cX10_toSeek 77 = .ok (.ifCond .eq 13, 3) := by decide +kernel
theorem dX10_toSeek_80 : decode cX10_toSeek 80 = .ok (.iload 4, 2) := by decide +kernel
theorem dX10_toSeek_82 : decode cX10_toSeek 82 = .ok (.iload_n 2, 1) := by decide +kernel
theorem dX10_toSeek_83 : decode cX10_toSeek 83 = .ok (.if_icmp .le 7, 3) := by decide +kernel
theorem dX10_toSeek_86 : decode cX10_toSeek 86 = .ok (.iconst 1, 1) := by decide +kernel
theorem dX10_toSeek_87 : decode cX10_toSeek 87 = .ok (.goto 4, 3) := by decide +kernel
theorem dX10_toSeek_90 : decode cX10_toSeek 90 = .ok (.iconst 0, 1) := by decide +kernel
theorem dX10_toSeek_91 : decode cX10_toSeek 91 = .ok (.istore 5, 2) := by decide +kernel
theorem dX10_toSeek_93 : decode cX10_toSeek 93 = .ok (.iload 5, 2) := by decide +kernel
theorem dX10_toSeek_95 : decode cX10_toSeek 95 = .ok (.ifCond .eq 7, 3) := by decide +kernel
theorem dX10_toSeek_98 : decode cX10_toSeek 98 = .ok (.iload_n 3, 1) := by decide +kernel
theorem dX10_toSeek_99 : decode cX10_toSeek 99 = .ok (.goto 4, 3) := by decide +kernel
theorem dX10_toSeek_102 : decode cX10_toSeek 102 = .ok (.iload_n 1, 1) := by decide +kernel
theorem dX10_toSeek_103 : decode cX10_toSeek 103 = .ok (.istore_n 1, 1) := by decide +kernel
theorem dX10_toSeek_104 : decode cX10_toSeek 104 = .ok (.iload 5, 2) := by decide +kernel
theorem dX10_toSeek_106 : decode cX10_toSeek 106 = .ok (.ifCond .eq 8, 3) := by decide +kernel
theorem dX10_toSeek_109 : decode cX10_toSeek 109 = .ok (.iload 4, 2) := by decide +kernel
theorem dX10_toSeek_111 : decode cX10_toSeek 111 = .ok (.goto 4, 3) := by decide +kernel
theorem dX10_toSeek_114 : decode cX10_toSeek 114 = .ok (.iload_n 2, 1) := by decide +kernel
theorem dX10_toSeek_115 : decode cX10_toSeek 115 = .ok (.istore_n 2, 1) := by decide +kernel
theorem dX10_toSeek_116 : decode cX10_toSeek 116 = .ok (.iinc 3 1, 3) := by decide +kernel
theorem dX10_toSeek_119 : decode cX10_toSeek 119 = .ok (.goto (-107), 3) := by decide +kernel
theorem dX10_toSeek_122 : decode cX10_toSeek 122 = .ok (.iload_n 1, 1) := by decide +kernel
theorem dX10_toSeek_123 : decode cX10_toSeek 123 = .ok (.ireturn, 1) := by decide +kernel
theorem dX10_canMove_0 : decode cX10_canMove 0 = .ok (.iload_n 2, 1) := by decide +kernel
theorem dX10_canMove_1 : decode cX10_canMove 1 = .ok (.ifCond .ne 5, 3) := by decide +kernel
theorem dX10_canMove_4 : decode cX10_canMove 4 = .ok (.iconst 1, 1) := by decide +kernel
theorem dX10_canMove_5 : decode cX10_canMove 5 = .ok (.ireturn, 1) := by decide +kernel
theorem dX10_canMove_6 : decode cX10_canMove 6 = .ok (.iload_n 2, 1) := by decide +kernel
theorem dX10_canMove_7 : decode cX10_canMove 7 = .ok (.bipush 10, 2) := by decide +kernel
theorem dX10_canMove_9 : decode cX10_canMove 9 = .ok (.if_icmp .le 10, 3) := by decide +kernel
theorem dX10_canMove_12 : decode cX10_canMove 12 = .ok (.iload_n 2, 1) := by decide +kernel
theorem dX10_canMove_13 : decode cX10_canMove 13 = .ok (.bipush 11, 2) := by decide +kernel
theorem dX10_canMove_15 : decode cX10_canMove 15 = .ok (.isub, 1) := by decide +kernel
theorem dX10_canMove_16 : decode cX10_canMove 16 = .ok (.goto 6, 3) := by decide +kernel
theorem dX10_canMove_19 : decode cX10_canMove 19 = .ok (.iload_n 2, 1) := by decide +kernel
theorem dX10_canMove_20 : decode cX10_canMove 20 = .ok (.iconst 1, 1) := by decide +kernel
theorem dX10_canMove_21 : decode cX10_canMove 21 = .ok (.isub, 1) := by decide +kernel
theorem dX10_canMove_22 : decode cX10_canMove 22 = .ok (.istore_n 3, 1) := by decide +kernel
theorem dX10_canMove_23 : decode cX10_canMove 23 = .ok (.aload_n 0, 1) := by decide +kernel
theorem dX10_canMove_24 : decode cX10_canMove 24 = .ok (.iload_n 3, 1) := by decide +kernel
theorem dX10_canMove_25 : decode cX10_canMove 25 = .ok (.invokevirtual 128, 3) := by decide +kernel
theorem dX10_canMove_28 : decode cX10_canMove 28 = .ok (.ifCond .eq 28, 3) := by decide +kernel
theorem dX10_canMove_31 : decode cX10_canMove 31 = .ok (.iload_n 2, 1) := by decide +kernel
theorem dX10_canMove_32 : decode cX10_canMove 32 = .ok (.bipush 8, 2) := by decide +kernel
theorem dX10_canMove_34 : decode cX10_canMove 34 = .ok (.if_icmp .le 9, 3) := by decide +kernel
theorem dX10_canMove_37 : decode cX10_canMove 37 = .ok (.iload_n 2, 1) := by decide +kernel
theorem dX10_canMove_38 : decode cX10_canMove 38 = .ok (.bipush 11, 2) := by decide +kernel
theorem dX10_canMove_40 : decode cX10_canMove 40 = .ok (.if_icmp .lt 16, 3) := by decide +kernel
theorem dX10_canMove_43 : decode cX10_canMove 43 = .ok (.aload_n 0, 1) := by decide +kernel
theorem dX10_canMove_44 : decode cX10_canMove 44 = .ok (.getfield 35, 3) := by decide +kernel
theorem dX10_canMove_47 : decode cX10_canMove 47 = .ok (.iload_n 1, 1) := by decide +kernel
theorem dX10_canMove_48 : decode cX10_canMove 48 = .ok (.iaload, 1) := by decide +kernel
theorem dX10_canMove_49 : decode cX10_canMove 49 = .ok (.iload_n 3, 1) := by decide +kernel
theorem dX10_canMove_50 : decode cX10_canMove 50 = .ok (.invokestatic 108, 3) := by decide +kernel
theorem dX10_canMove_53 : decode cX10_canMove 53 = .ok (.ifCond .eq 5, 3) := by decide +kernel
theorem dX10_canMove_56 : decode cX10_canMove 56 = .ok (.iconst 0, 1) := by decide +kernel
theorem dX10_canMove_57 : decode cX10_canMove 57 = .ok (.ireturn, 1) := by decide +kernel
theorem dX10_canMove_58 : decode cX10_canMove 58 = .ok (.iload_n 2, 1) := by decide +kernel
theorem dX10_canMove_59 : decode cX10_canMove 59 = .ok (.bipush 10, 2) := by decide +kernel
theorem dX10_canMove_61 : decode cX10_canMove 61 = .ok (.if_icmp .le 30, 3) := by decide +kernel
theorem dX10_canMove_64 : decode cX10_canMove 64 = .ok (.aload_n 0, 1) := by decide +kernel
theorem dX10_canMove_65 : decode cX10_canMove 65 = .ok (.getfield 32, 3) := by decide +kernel
theorem dX10_canMove_68 : decode cX10_canMove 68 = .ok (.iload_n 1, 1) := by decide +kernel
theorem dX10_canMove_69 : decode cX10_canMove 69 = .ok (.iaload, 1) := by decide +kernel
theorem dX10_canMove_70 : decode cX10_canMove 70 = .ok (.iload_n 3, 1) := by decide +kernel
theorem dX10_canMove_71 : decode cX10_canMove 71 = .ok (.invokestatic 108, 3) := by decide +kernel
theorem dX10_canMove_74 : decode cX10_canMove 74 = .ok (.ifCond .ne 15, 3) := by decide +kernel
theorem dX10_canMove_77 : decode cX10_canMove 77 = .ok (.aload_n 0, 1) := by decide +kernel
theorem dX10_canMove_78 : decode cX10_canMove 78 = .ok (.iload_n 3, 1) := by decide +kernel
theorem dX10_canMove_79 : decode cX10_canMove 79 = .ok (.invokevirtual 140, 3) := by decide +kernel
theorem dX10_canMove_82 : decode cX10_canMove 82 = .ok (.ifCond .ne 7, 3) := by decide +kernel
theorem dX10_canMove_85 : decode cX10_canMove 85 = .ok (.iconst 1, 1) := by decide +kernel
theorem dX10_canMove_86 : decode cX10_canMove 86 = .ok (.goto 4, 3) := by decide +kernel
theorem dX10_canMove_89 : decode cX10_canMove 89 = .ok (.iconst 0, 1) := by decide +kernel
theorem dX10_canMove_90 : decode cX10_canMove 90 = .ok (.ireturn, 1) := by decide +kernel
theorem dX10_canMove_91 : decode cX10_canMove 91 = .ok (.iconst 1, 1) := by decide +kernel
theorem dX10_canMove_92 : decode cX10_canMove 92 = .ok (.aload_n 0, 1) := by decide +kernel
theorem dX10_canMove_93 : decode cX10_canMove 93 = .ok (.invokevirtual 105, 3) := by decide +kernel
theorem dX10_canMove_96 : decode cX10_canMove 96 = .ok (.ishl, 1) := by decide +kernel
theorem dX10_canMove_97 : decode cX10_canMove 97 = .ok (.iconst 1, 1) := by decide +kernel
theorem dX10_canMove_98 : decode cX10_canMove 98 = .ok (.isub, 1) := by decide +kernel
theorem dX10_canMove_99 : decode cX10_canMove 99 = .ok (.aload_n 0, 1) := by decide +kernel
theorem dX10_canMove_100 : decode cX10_canMove 100 = .ok (.getfield 32, 3) := by decide +kernel
theorem dX10_canMove_103 : decode cX10_canMove 103 = .ok (.iload_n 1, 1) := by decide +kernel
theorem dX10_canMove_104 : decode cX10_canMove 104 = .ok (.iaload, 1) := by decide +kernel
theorem dX10_canMove_105 : decode cX10_canMove 105 = .ok (.iconst (-1), 1) := by decide +kernel
theorem dX10_canMove_106 : decode cX10_canMove 106 = .ok (.ixor, 1) := by decide +kernel
theorem dX10_canMove_107 : decode cX10_canMove 107 = .ok (.iand, 1) := by decide +kernel
theorem dX10_canMove_108 : decode cX10_canMove 108 = .ok (.aload_n 0, 1) := by decide +kernel
theorem dX10_canMove_109 : decode cX10_canMove 109 = .ok (.getfield 7, 3) := by decide +kernel
theorem dX10_canMove_112 : decode cX10_canMove 112 = .ok (.bipush 9, 2) := by decide +kernel
theorem dX10_canMove_114 : decode cX10_canMove 114 = .ok (.iaload, 1) := by decide +kernel
theorem dX10_canMove_115 : decode cX10_canMove 115 = .ok (.iconst (-1), 1) := by decide +kernel
theorem dX10_canMove_116 : decode cX10_canMove 116 = .ok (.ixor, 1) := by decide +kernel
theorem dX10_canMove_117 : decode cX10_canMove 117 = .ok (.iand, 1) := by decide +kernel
theorem dX10_canMove_118 : decode cX10_canMove 118 = .ok (.istore 4, 2) := by decide +kernel
theorem dX10_canMove_120 : decode cX10_canMove 120 = .ok (.aload_n 0, 1) := by decide +kernel
theorem dX10_canMove_121 : decode cX10_canMove 121 = .ok (.iload 4, 2) := by decide +kernel
theorem dX10_canMove_123 : decode cX10_canMove 123 = .ok (.aload_n 0, 1) := by decide +kernel
theorem dX10_canMove_124 : decode cX10_canMove 124 = .ok (.getfield 7, 3) := by decide +kernel
theorem dX10_canMove_127 : decode cX10_canMove 127 = .ok (.bipush 11, 2) := by decide +kernel
theorem dX10_canMove_129 : decode cX10_canMove 129 = .ok (.iaload, 1) := by decide +kernel
theorem dX10_canMove_130 : decode cX10_canMove 130 = .ok (.invokevirtual 125, 3) := by decide +kernel
theorem dX10_canMove_133 : decode cX10_canMove 133 = .ok (.iload_n 3, 1) := by decide +kernel
theorem dX10_canMove_134 : decode cX10_canMove 134 = .ok (.invokestatic 108, 3) := by decide +kernel
theorem dX10_canMove_137 : decode cX10_canMove 137 = .ok (.ireturn, 1) := by decide +kernel
theorem dX10_begin_0 : decode cX10_begin 0 = .ok (.aload_n 0, 1) := by decide +kernel
theorem dX10_begin_1 : decode cX10_begin 1 = .ok (.getfield 32, 3) := by decide +kernel
theorem dX10_begin_4 : decode cX10_begin 4 = .ok (.iload_n 1, 1) := by decide +kernel
theorem dX10_begin_5 : decode cX10_begin 5 = .ok (.iload_n 2, 1) := by decide +kernel
theorem dX10_begin_6 : decode cX10_begin 6 = .ok (.iastore, 1) := by decide +kernel
theorem dX10_begin_7 : decode cX10_begin 7 = .ok (.aload_n 0, 1) := by decide +kernel
theorem dX10_begin_8 : decode cX10_begin 8 = .ok (.getfield 35, 3) := by decide +kernel
theorem dX10_begin_11 : decode cX10_begin 11 = .ok (.iload_n 1, 1) := by decide +kernel
theorem dX10_begin_12 : decode cX10_begin 12 = .ok (.iload_n 3, 1) := by decide +kernel
theorem dX10_begin_13 : decode cX10_begin 13 = .ok (.iastore, 1) := by decide +kernel
theorem dX10_begin_14 : decode cX10_begin 14 = .ok (.aload_n 0, 1) := by decide +kernel
theorem dX10_begin_15 : decode cX10_begin 15 = .ok (.getfield 38, 3) := by decide +kernel
theorem dX10_begin_18 : decode cX10_begin 18 = .ok (.iload_n 1, 1) := by decide +kernel
theorem dX10_begin_19 : decode cX10_begin 19 = .ok (.iconst 0, 1) := by decide +kernel
theorem dX10_begin_20 : decode cX10_begin 20 = .ok (.iastore, 1) := by decide +kernel
theorem dX10_begin_21 : decode cX10_begin 21 = .ok (.aload_n 0, 1) := by decide +kernel
theorem dX10_begin_22 : decode cX10_begin 22 = .ok (.getfield 41, 3) := by decide +kernel
theorem dX10_begin_25 : decode cX10_begin 25 = .ok (.iload_n 1, 1) := by decide +kernel
theorem dX10_begin_26 : decode cX10_begin 26 = .ok (.ldc 232, 2) := by decide +kernel
theorem dX10_begin_28 : decode cX10_begin 28 = .ok (.iastore, 1) := by decide +kernel
theorem dX10_begin_29 : decode cX10_begin 29 = .ok (.aload_n 0, 1) := by decide +kernel
theorem dX10_begin_30 : decode cX10_begin 30 = .ok (.getfield 44, 3) := by decide +kernel
theorem dX10_begin_33 : decode cX10_begin 33 = .ok (.iload_n 1, 1) := by decide +kernel
theorem dX10_begin_34 : decode cX10_begin 34 = .ok (.iconst 0, 1) := by decide +kernel
theorem dX10_begin_35 : decode cX10_begin 35 = .ok (.iastore, 1) := by decide +kernel
theorem dX10_begin_36 : decode cX10_begin 36 = .ok (.return_, 1) := by decide +kernel
theorem dX10_go_0 : decode cX10_go 0 = .ok (.iload_n 2, 1) := by decide +kernel
theorem dX10_go_1 : decode cX10_go 1 = .ok (.bipush 10, 2) := by decide +kernel
theorem dX10_go_3 : decode cX10_go 3 = .ok (.if_icmp .le 10, 3) := by decide +kernel
theorem dX10_go_6 : decode cX10_go 6 = .ok (.iload_n 2, 1) := by decide +kernel
theorem dX10_go_7 : decode cX10_go 7 = .ok (.bipush 11, 2) := by decide +kernel
theorem dX10_go_9 : decode cX10_go 9 = .ok (.isub, 1) := by decide +kernel
theorem dX10_go_10 : decode cX10_go 10 = .ok (.goto 6, 3) := by decide +kernel
theorem dX10_go_13 : decode cX10_go 13 = .ok (.iload_n 2, 1) := by decide +kernel
theorem dX10_go_14 : decode cX10_go 14 = .ok (.iconst 1, 1) := by decide +kernel
theorem dX10_go_15 : decode cX10_go 15 = .ok (.isub, 1) := by decide +kernel
theorem dX10_go_16 : decode cX10_go 16 = .ok (.istore_n 3, 1) := by decide +kernel
theorem dX10_go_17 : decode cX10_go 17 = .ok (.iload_n 2, 1) := by decide +kernel
theorem dX10_go_18 : decode cX10_go 18 = .ok (.bipush 10, 2) := by decide +kernel
theorem dX10_go_20 : decode cX10_go 20 = .ok (.if_icmp .le 16, 3) := by decide +kernel
theorem dX10_go_23 : decode cX10_go 23 = .ok (.aload_n 0, 1) := by decide +kernel
theorem dX10_go_24 : decode cX10_go 24 = .ok (.getfield 32, 3) := by decide +kernel
theorem dX10_go_27 : decode cX10_go 27 = .ok (.iload_n 1, 1) := by decide +kernel
theorem dX10_go_28 : decode cX10_go 28 = .ok (.iaload, 1) := by decide +kernel
theorem dX10_go_29 : decode cX10_go 29 = .ok (.iconst 1, 1) := by decide +kernel
theorem dX10_go_30 : decode cX10_go 30 = .ok (.iload_n 3, 1) := by decide +kernel
theorem dX10_go_31 : decode cX10_go 31 = .ok (.ishl, 1) := by decide +kernel
theorem dX10_go_32 : decode cX10_go 32 = .ok (.ior, 1) := by decide +kernel
theorem dX10_go_33 : decode cX10_go 33 = .ok (.goto 9, 3) := by decide +kernel
theorem dX10_go_36 : decode cX10_go 36 = .ok (.aload_n 0, 1) := by decide +kernel
theorem dX10_go_37 : decode cX10_go 37 = .ok (.getfield 32, 3) := by decide +kernel
theorem dX10_go_40 : decode cX10_go 40 = .ok (.iload_n 1, 1) := by decide +kernel
theorem dX10_go_41 : decode cX10_go 41 = .ok (.iaload, 1) := by decide +kernel
theorem dX10_go_42 : decode cX10_go 42 = .ok (.istore 4, 2) := by decide +kernel
theorem dX10_go_44 : decode cX10_go 44 = .ok (.iload_n 2, 1) := by decide +kernel
theorem dX10_go_45 : decode cX10_go 45 = .ok (.ifCond .le 22, 3) := by decide +kernel
theorem dX10_go_48 : decode cX10_go 48 = .ok (.iload_n 2, 1) := by decide +kernel
theorem dX10_go_49 : decode cX10_go 49 = .ok (.bipush 9, 2) := by decide +kernel
theorem dX10_go_51 : decode cX10_go 51 = .ok (.if_icmp .ge 16, 3) := by decide +kernel
theorem dX10_go_54 : decode cX10_go 54 = .ok (.aload_n 0, 1) := by decide +kernel
theorem dX10_go_55 : decode cX10_go 55 = .ok (.getfield 35, 3) := by decide +kernel
theorem dX10_go_58 : decode cX10_go 58 = .ok (.iload_n 1, 1) := by decide +kernel
theorem dX10_go_59 : decode cX10_go 59 = .ok (.iaload, 1) := by decide +kernel
theorem dX10_go_60 : decode cX10_go 60 = .ok (.iconst 1, 1) := by decide +kernel
theorem dX10_go_61 : decode cX10_go 61 = .ok (.iload_n 3, 1) := by decide +kernel
theorem dX10_go_62 : decode cX10_go 62 = .ok (.ishl, 1) := by decide +kernel
theorem dX10_go_63 : decode cX10_go 63 = .ok (.ior, 1) := by decide +kernel
theorem dX10_go_64 : decode cX10_go 64 = .ok (.goto 9, 3) := by decide +kernel
theorem dX10_go_67 : decode cX10_go 67 = .ok (.aload_n 0, 1) := by decide +kernel
theorem dX10_go_68 : decode cX10_go 68 = .ok (.getfield 35, 3) := by decide +kernel
theorem dX10_go_71 : decode cX10_go 71 = .ok (.iload_n 1, 1) := by decide +kernel
theorem dX10_go_72 : decode cX10_go 72 = .ok (.iaload, 1) := by decide +kernel
theorem dX10_go_73 : decode cX10_go 73 = .ok (.istore 5, 2) := by decide +kernel
theorem dX10_go_75 : decode cX10_go 75 = .ok (.aload_n 0, 1) := by decide +kernel
theorem dX10_go_76 : decode cX10_go 76 = .ok (.getfield 47, 3) := by decide +kernel
theorem dX10_go_79 : decode cX10_go 79 = .ok (.iload_n 1, 1) := by decide +kernel
theorem dX10_go_80 : decode cX10_go 80 = .ok (.iload_n 2, 1) := by decide +kernel
theorem dX10_go_81 : decode cX10_go 81 = .ok (.ifCond .ne 7, 3) := by decide +kernel
theorem dX10_go_84 : decode cX10_go 84 = .ok (.iconst 0, 1) := by decide +kernel
theorem dX10_go_85 : decode cX10_go 85 = .ok (.goto 23, 3) := by decide +kernel
theorem dX10_go_88 : decode cX10_go 88 = .ok (.iload_n 2, 1) := by decide +kernel
theorem dX10_go_89 : decode cX10_go 89 = .ok (.bipush 10, 2) := by decide +kernel
theorem dX10_go_91 : decode cX10_go 91 = .ok (.if_icmp .le 12, 3) := by decide +kernel
theorem dX10_go_94 : decode cX10_go 94 = .ok (.aload_n 0, 1) := by decide +kernel
theorem dX10_go_95 : decode cX10_go 95 = .ok (.iload_n 3, 1) := by decide +kernel
theorem dX10_go_96 : decode cX10_go 96 = .ok (.invokevirtual 137, 3) := by decide +kernel
theorem dX10_go_99 : decode cX10_go 99 = .ok (.ineg, 1) := by decide +kernel
theorem dX10_go_100 : decode cX10_go 100 = .ok (.goto 8, 3) := by decide +kernel
theorem dX10_go_103 : decode cX10_go 103 = .ok (.aload_n 0, 1) := by decide +kernel
theorem dX10_go_104 : decode cX10_go 104 = .ok (.iload_n 3, 1) := by decide +kernel
theorem dX10_go_105 : decode cX10_go 105 = .ok (.invokevirtual 134, 3) := by decide +kernel
theorem dX10_go_108 : decode cX10_go 108 = .ok (.iastore, 1) := by decide +kernel
theorem dX10_go_109 : decode cX10_go 109 = .ok (.aload_n 0, 1) := by decide +kernel
theorem dX10_go_110 : decode cX10_go 110 = .ok (.iload_n 1, 1) := by decide +kernel
theorem dX10_go_111 : decode cX10_go 111 = .ok (.iconst 1, 1) := by decide +kernel
theorem dX10_go_112 : decode cX10_go 112 = .ok (.iadd, 1) := by decide +kernel
theorem dX10_go_113 : decode cX10_go 113 = .ok (.iload 4, 2) := by decide +kernel
theorem dX10_go_115 : decode cX10_go 115 = .ok (.iload 5, 2) := by decide +kernel
theorem dX10_go_117 : decode cX10_go 117 = .ok (.invokevirtual 233, 3) := by decide +kernel
theorem dX10_go_120 : decode cX10_go 120 = .ok (.return_, 1) := by decide +kernel
theorem dX10_byTurns_0 : decode cX10_byTurns 0 = .ok (.iload_n 1, 1) := by decide +kernel
theorem dX10_byTurns_1 : decode cX10_byTurns 1 = .ok (.i2l, 1) := by decide +kernel
theorem dX10_byTurns_2 : decode cX10_byTurns 2 = .ok (.lconst 0, 1) := by decide +kernel
theorem dX10_byTurns_3 : decode cX10_byTurns 3 = .ok (.ldc2_w 181, 3) := by decide +kernel
theorem dX10_byTurns_6 : decode cX10_byTurns 6 = .ok (.invokestatic 58, 3) := by decide +kernel
theorem dX10_byTurns_9 : decode cX10_byTurns 9 = .ok (.ifCond .eq 13, 3) := by decide +kernel
theorem dX10_byTurns_12 : decode cX10_byTurns 12 = .ok (.iload_n 2, 1) := by decide +kernel
theorem dX10_byTurns_13 : decode cX10_byTurns 13 = .ok (.i2l, 1) := by decide +kernel
theorem dX10_byTurns_14 : decode cX10_byTurns 14 = .ok (.lconst 0, 1) := by decide +kernel
theorem dX10_byTurns_15 : decode cX10_byTurns 15 = .ok (.lconst 1, 1) := by decide +kernel
theorem dX10_byTurns_16 : decode cX10_byTurns 16 = .ok (.invokestatic 58, 3) := by decide +kernel
theorem dX10_byTurns_19 : decode cX10_byTurns 19 = .ok (.ifCond .ne 6, 3) := by decide +kernel
theorem dX10_byTurns_22 : decode cX10_byTurns 22 = .ok (.bipush (-2), 2) := by decide +kernel
theorem dX10_byTurns_24 : decode cX10_byTurns 24 = .ok (.ireturn, 1) := by decide +kernel
theorem dX10_byTurns_25 : decode cX10_byTurns 25 = .ok (.iconst 0, 1) := by decide +kernel
theorem dX10_byTurns_26 : decode cX10_byTurns 26 = .ok (.istore_n 3, 1) := by decide +kernel
theorem dX10_byTurns_27 : decode cX10_byTurns 27 = .ok (.aload_n 0, 1) := by decide +kernel
theorem dX10_byTurns_28 : decode cX10_byTurns 28 = .ok (.iconst 0, 1) := by decide +kernel
theorem dX10_byTurns_29 : decode cX10_byTurns 29 = .ok (.aload_n 0, 1) := by decide +kernel
theorem dX10_byTurns_30 : decode cX10_byTurns 30 = .ok (.getfield 7, 3) := by decide +kernel
theorem dX10_byTurns_33 : decode cX10_byTurns 33 = .ok (.bipush 8, 2) := by decide +kernel
theorem dX10_byTurns_35 : decode cX10_byTurns 35 = .ok (.iaload, 1) := by decide +kernel
theorem dX10_byTurns_36 : decode cX10_byTurns 36 = .ok (.aload_n 0, 1) := by decide +kernel
theorem dX10_byTurns_37 : decode cX10_byTurns 37 = .ok (.getfield 7, 3) := by decide +kernel
theorem dX10_byTurns_40 : decode cX10_byTurns 40 = .ok (.bipush 10, 2) := by decide +kernel
theorem dX10_byTurns_42 : decode cX10_byTurns 42 = .ok (.iaload, 1) := by decide +kernel
theorem dX10_byTurns_43 : decode cX10_byTurns 43 = .ok (.invokevirtual 233, 3) := by decide +kernel
theorem dX10_byTurns_46 : decode cX10_byTurns 46 = .ok (.iload_n 1, 1) := by decide +kernel
theorem dX10_byTurns_47 : decode cX10_byTurns 47 = .ok (.ifCond .ne 7, 3) := by decide +kernel
theorem dX10_byTurns_50 : decode cX10_byTurns 50 = .ok (.iconst 1, 1) := by decide +kernel
theorem dX10_byTurns_51 : decode cX10_byTurns 51 = .ok (.goto 4, 3) := by decide +kernel
theorem dX10_byTurns_54 : decode cX10_byTurns 54 = .ok (.iconst 0, 1) := by decide +kernel
theorem dX10_byTurns_55 : decode cX10_byTurns 55 = .ok (.istore 4, 2) := by decide +kernel
theorem dX10_byTurns_57 : decode cX10_byTurns 57 = .ok (.aload_n 0, 1) := by decide +kernel
theorem dX10_byTurns_58 : decode cX10_byTurns 58 = .ok (.getfield 41, 3) := by decide +kernel
theorem dX10_byTurns_61 : decode cX10_byTurns 61 = .ok (.iconst 0, 1) := by decide +kernel
theorem dX10_byTurns_62 : decode cX10_byTurns 62 = .ok (.iload 4, 2) := by decide +kernel
theorem dX10_byTurns_64 : decode cX10_byTurns 64 = .ok (.ifCond .eq 7, 3) := by decide +kernel
theorem dX10_byTurns_67 : decode cX10_byTurns 67 = .ok (.iconst 0, 1) := by decide +kernel
theorem dX10_byTurns_68 : decode cX10_byTurns 68 = .ok (.goto 9, 3) := by decide +kernel
theorem dX10_byTurns_71 : decode cX10_byTurns 71 = .ok (.aload_n 0, 1) := by decide +kernel
theorem dX10_byTurns_72 : decode cX10_byTurns 72 = .ok (.getfield 41, 3) := by decide +kernel
theorem dX10_byTurns_75 : decode cX10_byTurns 75 = .ok (.iconst 0, 1) := by decide +kernel
theorem dX10_byTurns_76 : decode cX10_byTurns 76 = .ok (.iaload, 1) := by decide +kernel
theorem dX10_byTurns_77 : decode cX10_byTurns 77 = .ok (.iastore, 1) := by decide +kernel
theorem dX10_byTurns_78 : decode cX10_byTurns 78 = .ok (.iload 4, 2) := by decide +kernel
theorem dX10_byTurns_80 : decode cX10_byTurns 80 = .ok (.ifCond .ne 171, 3) := by decide +kernel
theorem dX10_byTurns_83 : decode cX10_byTurns 83 = .ok (.iload_n 3, 1) := by decide +kernel
theorem dX10_byTurns_84 : decode cX10_byTurns 84 = .ok (.iload_n 1, 1) := by decide +kernel
theorem dX10_byTurns_85 : decode cX10_byTurns 85 = .ok (.if_icmp .eq 14, 3) := by decide +kernel
theorem dX10_byTurns_88 : decode cX10_byTurns 88 = .ok (.aload_n 0, 1) := by decide +kernel
theorem dX10_byTurns_89 : decode cX10_byTurns 89 = .ok (.getfield 38, 3) := by decide +kernel
theorem dX10_byTurns_92 : decode cX10_byTurns 92 = .ok (.iload_n 3, 1) := by decide +kernel
theorem dX10_byTurns_93 : decode cX10_byTurns 93 = .ok (.iaload, 1) := by decide +kernel
theorem dX10_byTurns_94 : decode cX10_byTurns 94 = .ok (.bipush 18, 2) := by decide +kernel
theorem dX10_byTurns_96 : decode cX10_byTurns 96 = .ok (.if_icmp .le 114, 3) := by decide +kernel
theorem dX10_byTurns_99 : decode cX10_byTurns 99 = .ok (.iload_n 3, 1) := by decide +kernel
theorem dX10_byTurns_100 : decode cX10_byTurns 100 = .ok (.iload_n 1, 1) := by decide +kernel
theorem dX10_byTurns_101 : decode cX10_byTurns 101 = .ok (.if_icmp .ne 7, 3) := by decide +kernel
theorem dX10_byTurns_104 : decode cX10_byTurns 104 = .ok (.iconst 0, 1) := by decide +kernel
theorem dX10_byTurns_105 : decode cX10_byTurns 105 = .ok (.goto 9, 3) := by decide +kernel
theorem dX10_byTurns_108 : decode cX10_byTurns 108 = .ok (.aload_n 0, 1) := by decide +kernel
theorem dX10_byTurns_109 : decode cX10_byTurns 109 = .ok (.getfield 41, 3) := by decide +kernel
theorem dX10_byTurns_112 : decode cX10_byTurns 112 = .ok (.iload_n 3, 1) := by decide +kernel
theorem dX10_byTurns_113 : decode cX10_byTurns 113 = .ok (.iaload, 1) := by decide +kernel
theorem dX10_byTurns_114 : decode cX10_byTurns 114 = .ok (.istore 5, 2) := by decide +kernel
theorem dX10_byTurns_116 : decode cX10_byTurns 116 = .ok (.iinc 3 (-1), 3) := by decide +kernel
theorem dX10_byTurns_119 : decode cX10_byTurns 119 = .ok (.iload_n 3, 1) := by decide +kernel
theorem dX10_byTurns_120 : decode cX10_byTurns 120 = .ok (.ifCond .lt 76, 3) := by decide +kernel
theorem dX10_byTurns_123 : decode cX10_byTurns 123 = .ok (.aload_n 0, 1) := by decide +kernel
theorem dX10_byTurns_124 : decode cX10_byTurns 124 = .ok (.getfield 47, 3) := by decide +kernel
theorem dX10_byTurns_127 : decode cX10_byTurns 127 = .ok (.iload_n 3, 1) := by decide +kernel
theorem dX10_byTurns_128 : decode cX10_byTurns 128 = .ok (.iaload, 1) := by decide +kernel
theorem dX10_byTurns_129 : decode cX10_byTurns 129 = .ok (.iload 5, 2) := by decide +kernel
theorem dX10_byTurns_131 : decode cX10_byTurns 131 = .ok (.isub, 1) := by decide +kernel
theorem dX10_byTurns_132 : decode cX10_byTurns 132 = .ok (.istore 6, 2) := by decide +kernel
theorem dX10_byTurns_134 : decode cX10_byTurns 134 = .ok (.aload_n 0, 1) := by decide +kernel
theorem dX10_byTurns_135 : decode cX10_byTurns 135 = .ok (.getfield 44, 3) := by decide +kernel
theorem dX10_byTurns_138 : decode cX10_byTurns 138 = .ok (.iload_n 3, 1) := by decide +kernel
theorem dX10_byTurns_139 : decode cX10_byTurns 139 = .ok (.iload 6, 2) := by decide +kernel
theorem dX10_byTurns_141 : decode cX10_byTurns 141 = .ok (.aload_n 0, 1) := by decide +kernel
theorem dX10_byTurns_142 : decode cX10_byTurns 142 = .ok (.getfield 41, 3) := by decide +kernel
theorem dX10_byTurns_145 : decode cX10_byTurns 145 = .ok (.iload_n 3, 1) := by decide +kernel
theorem dX10_byTurns_146 : decode cX10_byTurns 146 = .ok (.iaload, 1) := by decide +kernel
theorem dX10_byTurns_147 : decode cX10_byTurns 147 = .ok (.if_icmp .le 14, 3) := by decide +kernel
theorem dX10_byTurns_150 : decode cX10_byTurns 150 = .ok (.aload_n 0, 1) := by decide +kernel
theorem dX10_byTurns_151 : decode cX10_byTurns 151 = .ok (.getfield 38, 3) := by decide +kernel
theorem dX10_byTurns_154 : decode cX10_byTurns 154 = .ok (.iload_n 3, 1) := by decide +kernel
theorem dX10_byTurns_155 : decode cX10_byTurns 155 = .ok (.iaload, 1) := by decide +kernel
theorem dX10_byTurns_156 : decode cX10_byTurns 156 = .ok (.iconst 1, 1) := by decide +kernel
theorem dX10_byTurns_157 : decode cX10_byTurns 157 = .ok (.isub, 1) := by decide +kernel
theorem dX10_byTurns_158 : decode cX10_byTurns 158 = .ok (.goto 9, 3) := by decide +kernel
theorem dX10_byTurns_161 : decode cX10_byTurns 161 = .ok (.aload_n 0, 1) := by decide +kernel
theorem dX10_byTurns_162 : decode cX10_byTurns 162 = .ok (.getfield 44, 3) := by decide +kernel
theorem dX10_byTurns_165 : decode cX10_byTurns 165 = .ok (.iload_n 3, 1) := by decide +kernel
theorem dX10_byTurns_166 : decode cX10_byTurns 166 = .ok (.iaload, 1) := by decide +kernel
theorem dX10_byTurns_167 : decode cX10_byTurns 167 = .ok (.iastore, 1) := by decide +kernel
theorem dX10_byTurns_168 : decode cX10_byTurns 168 = .ok (.aload_n 0, 1) := by decide +kernel
theorem dX10_byTurns_169 : decode cX10_byTurns 169 = .ok (.getfield 41, 3) := by decide +kernel
theorem dX10_byTurns_172 : decode cX10_byTurns 172 = .ok (.iload_n 3, 1) := by decide +kernel
theorem dX10_byTurns_173 : decode cX10_byTurns 173 = .ok (.iload 6, 2) := by decide +kernel
theorem dX10_byTurns_175 : decode cX10_byTurns 175 = .ok (.aload_n 0, 1) := by decide +kernel
theorem dX10_byTurns_176 : decode cX10_byTurns 176 = .ok (.getfield 41, 3) := by decide +kernel
theorem dX10_byTurns_179 : decode cX10_byTurns 179 = .ok (.iload_n 3, 1) := by decide +kernel
theorem dX10_byTurns_180 : decode cX10_byTurns 180 = .ok (.iaload, 1) := by decide +kernel
theorem dX10_byTurns_181 : decode cX10_byTurns 181 = .ok (.if_icmp .le 8, 3) := by decide +kernel
theorem dX10_byTurns_184 : decode cX10_byTurns 184 = .ok (.iload 6, 2) := by decide +kernel
theorem dX10_byTurns_186 : decode cX10_byTurns 186 = .ok (.goto 9, 3) := by decide +kernel
theorem dX10_byTurns_189 : decode cX10_byTurns 189 = .ok (.aload_n 0, 1) := by decide +kernel
theorem dX10_byTurns_190 : decode cX10_byTurns 190 = .ok (.getfield 41, 3) := by decide +kernel
theorem dX10_byTurns_193 : decode cX10_byTurns 193 = .ok (.iload_n 3, 1) := by decide +kernel
theorem dX10_byTurns_194 : decode cX10_byTurns 194 = .ok (.iaload, 1) := by decide +kernel
theorem dX10_byTurns_195 : decode cX10_byTurns 195 = .ok (.iastore, 1) := by decide +kernel
theorem dX10_byTurns_196 : decode cX10_byTurns 196 = .ok (.iload_n 3, 1) := by decide +kernel
theorem dX10_byTurns_197 : decode cX10_byTurns 197 = .ok (.ifCond .ge 7, 3) := by decide +kernel
theorem dX10_byTurns_200 : decode cX10_byTurns 200 = .ok (.iconst 1, 1) := by decide +kernel
theorem dX10_byTurns_201 : decode cX10_byTurns 201 = .ok (.goto 4, 3) := by decide +kernel
theorem dX10_byTurns_204 : decode cX10_byTurns 204 = .ok (.iconst 0, 1) := by decide +kernel
theorem dX10_byTurns_205 : decode cX10_byTurns 205 = .ok (.istore 4, 2) := by decide +kernel
theorem dX10_byTurns_207 : decode cX10_byTurns 207 = .ok (.goto (-129), 3) := by decide +kernel
theorem dX10_byTurns_210 : decode cX10_byTurns 210 = .ok (.aload_n 0, 1) := by decide +kernel
theorem dX10_byTurns_211 : decode cX10_byTurns 211 = .ok (.getfield 38, 3) := by decide +kernel
theorem dX10_byTurns_214 : decode cX10_byTurns 214 = .ok (.iload_n 3, 1) := by decide +kernel
theorem dX10_byTurns_215 : decode cX10_byTurns 215 = .ok (.iaload, 1) := by decide +kernel
theorem dX10_byTurns_216 : decode cX10_byTurns 216 = .ok (.istore 5, 2) := by decide +kernel
theorem dX10_byTurns_218 : decode cX10_byTurns 218 = .ok (.aload_n 0, 1) := by decide +kernel
theorem dX10_byTurns_219 : decode cX10_byTurns 219 = .ok (.getfield 38, 3) := by decide +kernel
theorem dX10_byTurns_222 : decode cX10_byTurns 222 = .ok (.iload_n 3, 1) := by decide +kernel
theorem dX10_byTurns_223 : decode cX10_byTurns 223 = .ok (.dup2, 1) := by decide +kernel
theorem dX10_byTurns_224 : decode cX10_byTurns 224 = .ok (.iaload, 1) := by decide +kernel
theorem dX10_byTurns_225 : decode cX10_byTurns 225 = .ok (.iconst 1, 1) := by decide +kernel
theorem dX10_byTurns_226 : decode cX10_byTurns 226 = .ok (.iadd, 1) := by decide +kernel
theorem dX10_byTurns_227 : decode cX10_byTurns 227 = .ok (.iastore, 1) := by decide +kernel
theorem dX10_byTurns_228 : decode cX10_byTurns 228 = .ok (.aload_n 0, 1) := by decide +kernel
theorem dX10_byTurns_229 : decode cX10_byTurns 229 = .ok (.iload_n 3, 1) := by decide +kernel
theorem dX10_byTurns_230 : decode cX10_byTurns 230 = .ok (.iload 5, 2) := by decide +kernel
theorem dX10_byTurns_232 : decode cX10_byTurns 232 = .ok (.invokevirtual 237, 3) := by decide +kernel
theorem dX10_byTurns_235 : decode cX10_byTurns 235 = .ok (.ifCond .eq 13, 3) := by decide +kernel
theorem dX10_byTurns_238 : decode cX10_byTurns 238 = .ok (.aload_n 0, 1) := by decide +kernel
theorem dX10_byTurns_239 : decode cX10_byTurns 239 = .ok (.iload_n 3, 1) := by decide +kernel
theorem dX10_byTurns_240 : decode cX10_byTurns 240 = .ok (.iload 5, 2) := by decide +kernel
theorem dX10_byTurns_242 : decode cX10_byTurns 242 = .ok (.invokevirtual 240, 3) := by decide +kernel
theorem dX10_byTurns_245 : decode cX10_byTurns 245 = .ok (.iinc 3 1, 3) := by decide +kernel
theorem dX10_byTurns_248 : decode cX10_byTurns 248 = .ok (.goto (-170), 3) := by decide +kernel
theorem dX10_byTurns_251 : decode cX10_byTurns 251 = .ok (.iload_n 2, 1) := by decide +kernel
theorem dX10_byTurns_252 : decode cX10_byTurns 252 = .ok (.ifCond .ne 16, 3) := by decide +kernel
theorem dX10_byTurns_255 : decode cX10_byTurns 255 = .ok (.sipush 1000, 3) := by decide +kernel
theorem dX10_byTurns_258 : decode cX10_byTurns 258 = .ok (.aload_n 0, 1) := by decide +kernel
theorem dX10_byTurns_259 : decode cX10_byTurns 259 = .ok (.getfield 41, 3) := by decide +kernel
theorem dX10_byTurns_262 : decode cX10_byTurns 262 = .ok (.iconst 0, 1) := by decide +kernel
theorem dX10_byTurns_263 : decode cX10_byTurns 263 = .ok (.iaload, 1) := by decide +kernel
theorem dX10_byTurns_264 : decode cX10_byTurns 264 = .ok (.iadd, 1) := by decide +kernel
theorem dX10_byTurns_265 : decode cX10_byTurns 265 = .ok (.goto 9, 3) := by decide +kernel
theorem dX10_byTurns_268 : decode cX10_byTurns 268 = .ok (.aload_n 0, 1) := by decide +kernel
theorem dX10_byTurns_269 : decode cX10_byTurns 269 = .ok (.getfield 44, 3) := by decide +kernel
theorem dX10_byTurns_272 : decode cX10_byTurns 272 = .ok (.iconst 0, 1) := by decide +kernel
theorem dX10_byTurns_273 : decode cX10_byTurns 273 = .ok (.iaload, 1) := by decide +kernel
theorem dX10_byTurns_274 : decode cX10_byTurns 274 = .ok (.ireturn, 1) := by decide +kernel
theorem dX10_common_0 : decode cX10_common 0 = .ok (.iload_n 0, 1) := by decide +kernel
theorem dX10_common_1 : decode cX10_common 1 = .ok (.istore_n 2, 1) := by decide +kernel
theorem dX10_common_2 : decode cX10_common 2 = .ok (.iload_n 1, 1) := by decide +kernel
theorem dX10_common_3 : decode cX10_common 3 = .ok (.istore_n 3, 1) := by decide +kernel
theorem dX10_common_4 : decode cX10_common 4 = .ok (.iload_n 3, 1) := by decide +kernel
theorem dX10_common_5 : decode cX10_common 5 = .ok (.ifCond .eq 16, 3) := by decide +kernel
theorem dX10_common_8 : decode cX10_common 8 = .ok (.iload_n 2, 1) := by decide +kernel
theorem dX10_common_9 : decode cX10_common 9 = .ok (.iload_n 3, 1) := by decide +kernel
theorem dX10_common_10 : decode cX10_common 10 = .ok (.irem, 1) := by decide +kernel
theorem dX10_common_11 : decode cX10_common 11 = .ok (.istore 4, 2) := by decide +kernel
theorem dX10_common_13 : decode cX10_common 13 = .ok (.iload_n 3, 1) := by decide +kernel
theorem dX10_common_14 : decode cX10_common 14 = .ok (.istore_n 2, 1) := by decide +kernel
theorem dX10_common_15 : decode cX10_common 15 = .ok (.iload 4, 2) := by decide +kernel
theorem dX10_common_17 : decode cX10_common 17 = .ok (.istore_n 3, 1) := by decide +kernel
theorem dX10_common_18 : decode cX10_common 18 = .ok (.goto (-14), 3) := by decide +kernel
theorem dX10_common_21 : decode cX10_common 21 = .ok (.iload_n 2, 1) := by decide +kernel
theorem dX10_common_22 : decode cX10_common 22 = .ok (.ireturn, 1) := by decide +kernel
theorem dX10_frail_0 : decode cX10_frail 0 = .ok (.iconst 0, 1) := by decide +kernel
theorem dX10_frail_1 : decode cX10_frail 1 = .ok (.istore_n 2, 1) := by decide +kernel
theorem dX10_frail_2 : decode cX10_frail 2 = .ok (.iconst 0, 1) := by decide +kernel
theorem dX10_frail_3 : decode cX10_frail 3 = .ok (.istore_n 3, 1) := by decide +kernel
theorem dX10_frail_4 : decode cX10_frail 4 = .ok (.iload_n 3, 1) := by decide +kernel
theorem dX10_frail_5 : decode cX10_frail 5 = .ok (.aload_n 0, 1) := by decide +kernel
theorem dX10_frail_6 : decode cX10_frail 6 = .ok (.invokevirtual 105, 3) := by decide +kernel
theorem dX10_frail_9 : decode cX10_frail 9 = .ok (.if_icmp .ge 49, 3) := by decide +kernel
theorem dX10_frail_12 : decode cX10_frail 12 = .ok (.iload_n 2, 1) := by decide +kernel
theorem dX10_frail_13 : decode cX10_frail 13 = .ok (.iload_n 1, 1) := by decide +kernel
theorem dX10_frail_14 : decode cX10_frail 14 = .ok (.iload_n 3, 1) := by decide +kernel
theorem dX10_frail_15 : decode cX10_frail 15 = .ok (.invokestatic 108, 3) := by decide +kernel
theorem dX10_frail_18 : decode cX10_frail 18 = .ok (.ifCond .eq 31, 3) := by decide +kernel
theorem dX10_frail_21 : decode cX10_frail 21 = .ok (.aload_n 0, 1) := by decide +kernel
theorem dX10_frail_22 : decode cX10_frail 22 = .ok (.getfield 7, 3) := by decide +kernel
theorem dX10_frail_25 : decode cX10_frail 25 = .ok (.bipush 10, 2) := by decide +kernel
theorem dX10_frail_27 : decode cX10_frail 27 = .ok (.iaload, 1) := by decide +kernel
theorem dX10_frail_28 : decode cX10_frail 28 = .ok (.iload_n 3, 1) := by decide +kernel
theorem dX10_frail_29 : decode cX10_frail 29 = .ok (.invokestatic 108, 3) := by decide +kernel
theorem dX10_frail_32 : decode cX10_frail 32 = .ok (.ifCond .ne 17, 3) := by decide +kernel
theorem dX10_frail_35 : decode cX10_frail 35 = .ok (.aload_n 0, 1) := by decide +kernel
theorem dX10_frail_36 : decode cX10_frail 36 = .ok (.iload_n 3, 1) := by decide +kernel
theorem dX10_frail_37 : decode cX10_frail 37 = .ok (.invokevirtual 140, 3) := by decide +kernel
theorem dX10_frail_40 : decode cX10_frail 40 = .ok (.ifCond .ne 9, 3) := by decide +kernel
theorem dX10_frail_43 : decode cX10_frail 43 = .ok (.iconst 1, 1) := by decide +kernel
theorem dX10_frail_44 : decode cX10_frail 44 = .ok (.iload_n 3, 1) := by decide +kernel
theorem dX10_frail_45 : decode cX10_frail 45 = .ok (.ishl, 1) := by decide +kernel
theorem dX10_frail_46 : decode cX10_frail 46 = .ok (.goto 4, 3) := by decide +kernel
theorem dX10_frail_49 : decode cX10_frail 49 = .ok (.iconst 0, 1) := by decide +kernel
theorem dX10_frail_50 : decode cX10_frail 50 = .ok (.ior, 1) := by decide +kernel
theorem dX10_frail_51 : decode cX10_frail 51 = .ok (.istore_n 2, 1) := by decide +kernel
theorem dX10_frail_52 : decode cX10_frail 52 = .ok (.iinc 3 1, 3) := by decide +kernel
theorem dX10_frail_55 : decode cX10_frail 55 = .ok (.goto (-51), 3) := by decide +kernel
theorem dX10_frail_58 : decode cX10_frail 58 = .ok (.iload_n 2, 1) := by decide +kernel
theorem dX10_frail_59 : decode cX10_frail 59 = .ok (.ireturn, 1) := by decide +kernel
theorem dX10_chance_0 : decode cX10_chance 0 = .ok (.aload_n 0, 1) := by decide +kernel
theorem dX10_chance_1 : decode cX10_chance 1 = .ok (.iload_n 1, 1) := by decide +kernel
theorem dX10_chance_2 : decode cX10_chance 2 = .ok (.invokevirtual 128, 3) := by decide +kernel
theorem dX10_chance_5 : decode cX10_chance 5 = .ok (.ifCond .ne 5, 3) := by decide +kernel
theorem dX10_chance_8 : decode cX10_chance 8 = .ok (.iconst (-1), 1) := by decide +kernel
theorem dX10_chance_9 : decode cX10_chance 9 = .ok (.ireturn, 1) := by decide +kernel
theorem dX10_chance_10 : decode cX10_chance 10 = .ok (.iload_n 2, 1) := by decide +kernel
theorem dX10_chance_11 : decode cX10_chance 11 = .ok (.i2l, 1) := by decide +kernel
theorem dX10_chance_12 : decode cX10_chance 12 = .ok (.lconst 0, 1) := by decide +kernel
theorem dX10_chance_13 : decode cX10_chance 13 = .ok (.ldc2_w 243, 3) := by decide +kernel
theorem dX10_chance_16 : decode cX10_chance 16 = .ok (.invokestatic 58, 3) := by decide +kernel
theorem dX10_chance_19 : decode cX10_chance 19 = .ok (.ifCond .ne 6, 3) := by decide +kernel
theorem dX10_chance_22 : decode cX10_chance 22 = .ok (.bipush (-2), 2) := by decide +kernel
theorem dX10_chance_24 : decode cX10_chance 24 = .ok (.ireturn, 1) := by decide +kernel
theorem dX10_chance_25 : decode cX10_chance 25 = .ok (.aload_n 0, 1) := by decide +kernel
theorem dX10_chance_26 : decode cX10_chance 26 = .ok (.aload_n 0, 1) := by decide +kernel
theorem dX10_chance_27 : decode cX10_chance 27 = .ok (.iconst 0, 1) := by decide +kernel
theorem dX10_chance_28 : decode cX10_chance 28 = .ok (.invokevirtual 122, 3) := by decide +kernel
theorem dX10_chance_31 : decode cX10_chance 31 = .ok (.invokevirtual 245, 3) := by decide +kernel
theorem dX10_chance_34 : decode cX10_chance 34 = .ok (.istore 4, 2) := by decide +kernel
theorem dX10_chance_36 : decode cX10_chance 36 = .ok (.iconst 0, 1) := by decide +kernel
theorem dX10_chance_37 : decode cX10_chance 37 = .ok (.istore 5, 2) := by decide +kernel
theorem dX10_chance_39 : decode cX10_chance 39 = .ok (.iconst 0, 1) := by decide +kernel
theorem dX10_chance_40 : decode cX10_chance 40 = .ok (.istore 6, 2) := by decide +kernel
theorem dX10_chance_42 : decode cX10_chance 42 = .ok (.iconst 0, 1) := by decide +kernel
theorem dX10_chance_43 : decode cX10_chance 43 = .ok (.istore 7, 2) := by decide +kernel
theorem dX10_chance_45 : decode cX10_chance 45 = .ok (.iload 7, 2) := by decide +kernel
theorem dX10_chance_47 : decode cX10_chance 47 = .ok (.sipush 256, 3) := by decide +kernel
theorem dX10_chance_50 : decode cX10_chance 50 = .ok (.if_icmp .ge 121, 3) := by decide +kernel
theorem dX10_chance_53 : decode cX10_chance 53 = .ok (.iload 7, 2) := by decide +kernel
theorem dX10_chance_55 : decode cX10_chance 55 = .ok (.iload 4, 2) := by decide +kernel
theorem dX10_chance_57 : decode cX10_chance 57 = .ok (.iconst (-1), 1) := by decide +kernel
theorem dX10_chance_58 : decode cX10_chance 58 = .ok (.ixor, 1) := by decide +kernel
theorem dX10_chance_59 : decode cX10_chance 59 = .ok (.iand, 1) := by decide +kernel
theorem dX10_chance_60 : decode cX10_chance 60 = .ok (.ifCond .ne 105, 3) := by decide +kernel
theorem dX10_chance_63 : decode cX10_chance 63 = .ok (.iconst 1, 1) := by decide +kernel
theorem dX10_chance_64 : decode cX10_chance 64 = .ok (.istore 8, 2) := by decide +kernel
theorem dX10_chance_66 : decode cX10_chance 66 = .ok (.iconst 0, 1) := by decide +kernel
theorem dX10_chance_67 : decode cX10_chance 67 = .ok (.istore 9, 2) := by decide +kernel
theorem dX10_chance_69 : decode cX10_chance 69 = .ok (.iload 9, 2) := by decide +kernel
theorem dX10_chance_71 : decode cX10_chance 71 = .ok (.bipush 8, 2) := by decide +kernel
theorem dX10_chance_73 : decode cX10_chance 73 = .ok (.if_icmp .ge 46, 3) := by decide +kernel
theorem dX10_chance_76 : decode cX10_chance 76 = .ok (.iload 8, 2) := by decide +kernel
theorem dX10_chance_78 : decode cX10_chance 78 = .ok (.iload 4, 2) := by decide +kernel
theorem dX10_chance_80 : decode cX10_chance 80 = .ok (.iload 9, 2) := by decide +kernel
theorem dX10_chance_82 : decode cX10_chance 82 = .ok (.invokestatic 108, 3) := by decide +kernel
theorem dX10_chance_85 : decode cX10_chance 85 = .ok (.ifCond .ne 7, 3) := by decide +kernel
theorem dX10_chance_88 : decode cX10_chance 88 = .ok (.iconst 1, 1) := by decide +kernel
theorem dX10_chance_89 : decode cX10_chance 89 = .ok (.goto 21, 3) := by decide +kernel
theorem dX10_chance_92 : decode cX10_chance 92 = .ok (.iload 7, 2) := by decide +kernel
theorem dX10_chance_94 : decode cX10_chance 94 = .ok (.iload 9, 2) := by decide +kernel
theorem dX10_chance_96 : decode cX10_chance 96 = .ok (.invokestatic 108, 3) := by decide +kernel
theorem dX10_chance_99 : decode cX10_chance 99 = .ok (.ifCond .eq 7, 3) := by decide +kernel
theorem dX10_chance_102 : decode cX10_chance 102 = .ok (.iload_n 2, 1) := by decide +kernel
theorem dX10_chance_103 : decode cX10_chance 103 = .ok (.goto 7, 3) := by decide +kernel
theorem dX10_chance_106 : decode cX10_chance 106 = .ok (.bipush 10, 2) := by decide +kernel
theorem dX10_chance_108 : decode cX10_chance 108 = .ok (.iload_n 2, 1) := by decide +kernel
theorem dX10_chance_109 : decode cX10_chance 109 = .ok (.isub, 1) := by decide +kernel
theorem dX10_chance_110 : decode cX10_chance 110 = .ok (.imul, 1) := by decide +kernel
theorem dX10_chance_111 : decode cX10_chance 111 = .ok (.istore 8, 2) := by decide +kernel
theorem dX10_chance_113 : decode cX10_chance 113 = .ok (.iinc 9 1, 3) := by decide +kernel
theorem dX10_chance_116 : decode cX10_chance 116 = .ok (.goto (-47), 3) := by decide +kernel
theorem dX10_chance_119 : decode cX10_chance 119 = .ok (.iload 6, 2) := by decide +kernel
theorem dX10_chance_121 : decode cX10_chance 121 = .ok (.iload 8, 2) := by decide +kernel
theorem dX10_chance_123 : decode cX10_chance 123 = .ok (.iadd, 1) := by decide +kernel
theorem dX10_chance_124 : decode cX10_chance 124 = .ok (.istore 6, 2) := by decide +kernel
theorem dX10_chance_126 : decode cX10_chance 126 = .ok (.iload 5, 2) := by decide +kernel
theorem dX10_chance_128 : decode cX10_chance 128 = .ok (.aload_n 0, 1) := by decide +kernel
theorem dX10_chance_129 : decode cX10_chance 129 = .ok (.aload_n 0, 1) := by decide +kernel
theorem dX10_chance_130 : decode cX10_chance 130 = .ok (.iconst 0, 1) := by decide +kernel
theorem dX10_chance_131 : decode cX10_chance 131 = .ok (.invokevirtual 122, 3) := by decide +kernel
theorem dX10_chance_134 : decode cX10_chance 134 = .ok (.iload 7, 2) := by decide +kernel
theorem dX10_chance_136 : decode cX10_chance 136 = .ok (.iconst (-1), 1) := by decide +kernel
theorem dX10_chance_137 : decode cX10_chance 137 = .ok (.ixor, 1) := by decide +kernel
theorem dX10_chance_138 : decode cX10_chance 138 = .ok (.iand, 1) := by decide +kernel
theorem dX10_chance_139 : decode cX10_chance 139 = .ok (.aload_n 0, 1) := by decide +kernel
theorem dX10_chance_140 : decode cX10_chance 140 = .ok (.getfield 7, 3) := by decide +kernel
theorem dX10_chance_143 : decode cX10_chance 143 = .ok (.bipush 11, 2) := by decide +kernel
theorem dX10_chance_145 : decode cX10_chance 145 = .ok (.iaload, 1) := by decide +kernel
theorem dX10_chance_146 : decode cX10_chance 146 = .ok (.invokevirtual 125, 3) := by decide +kernel
theorem dX10_chance_149 : decode cX10_chance 149 = .ok (.iload_n 1, 1) := by decide +kernel
theorem dX10_chance_150 : decode cX10_chance 150 = .ok (.invokestatic 108, 3) := by decide +kernel
theorem dX10_chance_153 : decode cX10_chance 153 = .ok (.ifCond .eq 8, 3) := by decide +kernel
theorem dX10_chance_156 : decode cX10_chance 156 = .ok (.iload 8, 2) := by decide +kernel
theorem dX10_chance_158 : decode cX10_chance 158 = .ok (.goto 4, 3) := by decide +kernel
theorem dX10_chance_161 : decode cX10_chance 161 = .ok (.iconst 0, 1) := by decide +kernel
theorem dX10_chance_162 : decode cX10_chance 162 = .ok (.iadd, 1) := by decide +kernel
theorem dX10_chance_163 : decode cX10_chance 163 = .ok (.istore 5, 2) := by decide +kernel
theorem dX10_chance_165 : decode cX10_chance 165 = .ok (.iinc 7 1, 3) := by decide +kernel
theorem dX10_chance_168 : decode cX10_chance 168 = .ok (.goto (-123), 3) := by decide +kernel
theorem dX10_chance_171 : decode cX10_chance 171 = .ok (.iload 5, 2) := by decide +kernel
theorem dX10_chance_173 : decode cX10_chance 173 = .ok (.iload 6, 2) := by decide +kernel
theorem dX10_chance_175 : decode cX10_chance 175 = .ok (.invokestatic 248, 3) := by decide +kernel
theorem dX10_chance_178 : decode cX10_chance 178 = .ok (.istore 7, 2) := by decide +kernel
theorem dX10_chance_180 : decode cX10_chance 180 = .ok (.iload_n 3, 1) := by decide +kernel
theorem dX10_chance_181 : decode cX10_chance 181 = .ok (.ifCond .eq 11, 3) := by decide +kernel
theorem dX10_chance_184 : decode cX10_chance 184 = .ok (.iload 5, 2) := by decide +kernel
theorem dX10_chance_186 : decode cX10_chance 186 = .ok (.iload 7, 2) := by decide +kernel
theorem dX10_chance_188 : decode cX10_chance 188 = .ok (.idiv, 1) := by decide +kernel
theorem dX10_chance_189 : decode cX10_chance 189 = .ok (.goto 8, 3) := by decide +kernel
theorem dX10_chance_192 : decode cX10_chance 192 = .ok (.iload 6, 2) := by decide +kernel
theorem dX10_chance_194 : decode cX10_chance 194 = .ok (.iload 7, 2) := by decide +kernel
theorem dX10_chance_196 : decode cX10_chance 196 = .ok (.idiv, 1) := by decide +kernel
theorem dX10_chance_197 : decode cX10_chance 197 = .ok (.ireturn, 1) := by decide +kernel
theorem dX10_seed_0 : decode cX10_seed 0 = .ok (.aload_n 0, 1) := by decide +kernel
theorem dX10_seed_1 : decode cX10_seed 1 = .ok (.getfield 251, 3) := by decide +kernel
theorem dX10_seed_4 : decode cX10_seed 4 = .ok (.lstore_n 3, 1) := by decide +kernel
theorem dX10_seed_5 : decode cX10_seed 5 = .ok (.aload_n 0, 1) := by decide +kernel
theorem dX10_seed_6 : decode cX10_seed 6 = .ok (.lload_n 1, 1) := by decide +kernel
theorem dX10_seed_7 : decode cX10_seed 7 = .ok (.putfield 251, 3) := by decide +kernel
theorem dX10_seed_10 : decode cX10_seed 10 = .ok (.lload_n 3, 1) := by decide +kernel
theorem dX10_seed_11 : decode cX10_seed 11 = .ok (.lreturn, 1) := by decide +kernel
theorem dX10_years_0 : decode cX10_years 0 = .ok (.iload_n 1, 1) := by decide +kernel
theorem dX10_years_1 : decode cX10_years 1 = .ok (.i2l, 1) := by decide +kernel
theorem dX10_years_2 : decode cX10_years 2 = .ok (.lconst 1, 1) := by decide +kernel
theorem dX10_years_3 : decode cX10_years 3 = .ok (.ldc2_w 255, 3) := by decide +kernel
theorem dX10_years_6 : decode cX10_years 6 = .ok (.invokestatic 58, 3) := by decide +kernel
theorem dX10_years_9 : decode cX10_years 9 = .ok (.ifCond .eq 15, 3) := by decide +kernel
theorem dX10_years_12 : decode cX10_years 12 = .ok (.iload_n 2, 1) := by decide +kernel
theorem dX10_years_13 : decode cX10_years 13 = .ok (.i2l, 1) := by decide +kernel
theorem dX10_years_14 : decode cX10_years 14 = .ok (.lconst 0, 1) := by decide +kernel
theorem dX10_years_15 : decode cX10_years 15 = .ok (.ldc2_w 243, 3) := by decide +kernel
theorem dX10_years_18 : decode cX10_years 18 = .ok (.invokestatic 58, 3) := by decide +kernel
theorem dX10_years_21 : decode cX10_years 21 = .ok (.ifCond .ne 6, 3) := by decide +kernel
theorem dX10_years_24 : decode cX10_years 24 = .ok (.bipush (-2), 2) := by decide +kernel
theorem dX10_years_26 : decode cX10_years 26 = .ok (.ireturn, 1) := by decide +kernel
theorem dX10_years_27 : decode cX10_years 27 = .ok (.aload_n 0, 1) := by decide +kernel
theorem dX10_years_28 : decode cX10_years 28 = .ok (.iconst 0, 1) := by decide +kernel
theorem dX10_years_29 : decode cX10_years 29 = .ok (.invokevirtual 122, 3) := by decide +kernel
theorem dX10_years_32 : decode cX10_years 32 = .ok (.istore_n 3, 1) := by decide +kernel
theorem dX10_years_33 : decode cX10_years 33 = .ok (.iconst 0, 1) := by decide +kernel
theorem dX10_years_34 : decode cX10_years 34 = .ok (.istore 4, 2) := by decide +kernel
theorem dX10_years_36 : decode cX10_years 36 = .ok (.iload 4, 2) := by decide +kernel
theorem dX10_years_38 : decode cX10_years 38 = .ok (.iload_n 1, 1) := by decide +kernel
theorem dX10_years_39 : decode cX10_years 39 = .ok (.if_icmp .ge 86, 3) := by decide +kernel
theorem dX10_years_42 : decode cX10_years 42 = .ok (.iconst 0, 1) := by decide +kernel
theorem dX10_years_43 : decode cX10_years 43 = .ok (.istore 5, 2) := by decide +kernel
theorem dX10_years_45 : decode cX10_years 45 = .ok (.iload 5, 2) := by decide +kernel
theorem dX10_years_47 : decode cX10_years 47 = .ok (.aload_n 0, 1) := by decide +kernel
theorem dX10_years_48 : decode cX10_years 48 = .ok (.invokevirtual 105, 3) := by decide +kernel
theorem dX10_years_51 : decode cX10_years 51 = .ok (.if_icmp .ge 68, 3) := by decide +kernel
theorem dX10_years_54 : decode cX10_years 54 = .ok (.aload_n 0, 1) := by decide +kernel
theorem dX10_years_55 : decode cX10_years 55 = .ok (.iload_n 3, 1) := by decide +kernel
theorem dX10_years_56 : decode cX10_years 56 = .ok (.invokevirtual 245, 3) := by decide +kernel
theorem dX10_years_59 : decode cX10_years 59 = .ok (.iload 5, 2) := by decide +kernel
theorem dX10_years_61 : decode cX10_years 61 = .ok (.invokestatic 108, 3) := by decide +kernel
theorem dX10_years_64 : decode cX10_years 64 = .ok (.ifCond .eq 49, 3) := by decide +kernel
theorem dX10_years_67 : decode cX10_years 67 = .ok (.aload_n 0, 1) := by decide +kernel
theorem dX10_years_68 : decode cX10_years 68 = .ok (.aload_n 0, 1) := by decide +kernel
theorem dX10_years_69 : decode cX10_years 69 = .ok (.getfield 251, 3) := by decide +kernel
theorem dX10_years_72 : decode cX10_years 72 = .ok (.ldc2_w 257, 3) := by decide +kernel
theorem dX10_years_75 : decode cX10_years 75 = .ok (.lmul, 1) := by decide +kernel
theorem dX10_years_76 : decode cX10_years 76 = .ok (.ldc2_w 259, 3) := by decide +kernel
theorem dX10_years_79 : decode cX10_years 79 = .ok (.ladd, 1) := by decide +kernel
theorem dX10_years_80 : decode cX10_years 80 = .ok (.putfield 251, 3) := by decide +kernel
theorem dX10_years_83 : decode cX10_years 83 = .ok (.iload_n 3, 1) := by decide +kernel
theorem dX10_years_84 : decode cX10_years 84 = .ok (.aload_n 0, 1) := by decide +kernel
theorem dX10_years_85 : decode cX10_years 85 = .ok (.getfield 251, 3) := by decide +kernel
theorem dX10_years_88 : decode cX10_years 88 = .ok (.bipush 33, 2) := by decide +kernel
theorem dX10_years_90 : decode cX10_years 90 = .ok (.lushr, 1) := by decide +kernel
theorem dX10_years_91 : decode cX10_years 91 = .ok (.ldc2_w 243, 3) := by decide +kernel
theorem dX10_years_94 : decode cX10_years 94 = .ok (.lrem, 1) := by decide +kernel
theorem dX10_years_95 : decode cX10_years 95 = .ok (.iload_n 2, 1) := by decide +kernel
theorem dX10_years_96 : decode cX10_years 96 = .ok (.i2l, 1) := by decide +kernel
theorem dX10_years_97 : decode cX10_years 97 = .ok (.lcmp, 1) := by decide +kernel
theorem dX10_years_98 : decode cX10_years 98 = .ok (.ifCond .ge 12, 3) := by decide +kernel
theorem dX10_years_101 : decode cX10_years 101 = .ok (.iconst 1, 1) := by decide +kernel
theorem dX10_years_102 : decode cX10_years 102 = .ok (.iload 5, 2) := by decide +kernel
theorem dX10_years_104 : decode cX10_years 104 = .ok (.ishl, 1) := by decide +kernel
theorem dX10_years_105 : decode cX10_years 105 = .ok (.iconst (-1), 1) := by decide +kernel
theorem dX10_years_106 : decode cX10_years 106 = .ok (.ixor, 1) := by decide +kernel
theorem dX10_years_107 : decode cX10_years 107 = .ok (.goto 4, 3) := by decide +kernel
theorem dX10_years_110 : decode cX10_years 110 = .ok (.iconst (-1), 1) := by decide +kernel
theorem dX10_years_111 : decode cX10_years 111 = .ok (.iand, 1) := by decide +kernel
theorem dX10_years_112 : decode cX10_years 112 = .ok (.istore_n 3, 1) := by decide +kernel
theorem dX10_years_113 : decode cX10_years 113 = .ok (.iinc 5 1, 3) := by decide +kernel
theorem dX10_years_116 : decode cX10_years 116 = .ok (.goto (-71), 3) := by decide +kernel
theorem dX10_years_119 : decode cX10_years 119 = .ok (.iinc 4 1, 3) := by decide +kernel
theorem dX10_years_122 : decode cX10_years 122 = .ok (.goto (-86), 3) := by decide +kernel
theorem dX10_years_125 : decode cX10_years 125 = .ok (.aload_n 0, 1) := by decide +kernel
theorem dX10_years_126 : decode cX10_years 126 = .ok (.iload_n 3, 1) := by decide +kernel
theorem dX10_years_127 : decode cX10_years 127 = .ok (.aload_n 0, 1) := by decide +kernel
theorem dX10_years_128 : decode cX10_years 128 = .ok (.getfield 7, 3) := by decide +kernel
theorem dX10_years_131 : decode cX10_years 131 = .ok (.bipush 11, 2) := by decide +kernel
theorem dX10_years_133 : decode cX10_years 133 = .ok (.iaload, 1) := by decide +kernel
theorem dX10_years_134 : decode cX10_years 134 = .ok (.invokevirtual 125, 3) := by decide +kernel
theorem dX10_years_137 : decode cX10_years 137 = .ok (.ireturn, 1) := by decide +kernel
theorem dX10_keep_0 : decode cX10_keep 0 = .ok (.iload_n 1, 1) := by decide +kernel
theorem dX10_keep_1 : decode cX10_keep 1 = .ok (.i2l, 1) := by decide +kernel
theorem dX10_keep_2 : decode cX10_keep 2 = .ok (.lconst 0, 1) := by decide +kernel
theorem dX10_keep_3 : decode cX10_keep 3 = .ok (.lconst 1, 1) := by decide +kernel
theorem dX10_keep_4 : decode cX10_keep 4 = .ok (.invokestatic 58, 3) := by decide +kernel
theorem dX10_keep_7 : decode cX10_keep 7 = .ok (.ifCond .ne 5, 3) := by decide +kernel
theorem dX10_keep_10 : decode cX10_keep 10 = .ok (.iconst (-1), 1) := by decide +kernel
theorem dX10_keep_11 : decode cX10_keep 11 = .ok (.ireturn, 1) := by decide +kernel
theorem dX10_keep_12 : decode cX10_keep 12 = .ok (.aload_n 0, 1) := by decide +kernel
theorem dX10_keep_13 : decode cX10_keep 13 = .ok (.getfield 50, 3) := by decide +kernel
theorem dX10_keep_16 : decode cX10_keep 16 = .ok (.iload_n 1, 1) := by decide +kernel
theorem dX10_keep_17 : decode cX10_keep 17 = .ok (.iconst 1, 1) := by decide +kernel
theorem dX10_keep_18 : decode cX10_keep 18 = .ok (.bastore, 1) := by decide +kernel
theorem dX10_keep_19 : decode cX10_keep 19 = .ok (.iconst 0, 1) := by decide +kernel
theorem dX10_keep_20 : decode cX10_keep 20 = .ok (.istore_n 2, 1) := by decide +kernel
theorem dX10_keep_21 : decode cX10_keep 21 = .ok (.iload_n 2, 1) := by decide +kernel
theorem dX10_keep_22 : decode cX10_keep 22 = .ok (.bipush 14, 2) := by decide +kernel
theorem dX10_keep_24 : decode cX10_keep 24 = .ok (.if_icmp .ge 26, 3) := by decide +kernel
theorem dX10_keep_27 : decode cX10_keep 27 = .ok (.aload_n 0, 1) := by decide +kernel
theorem dX10_keep_28 : decode cX10_keep 28 = .ok (.getfield 53, 3) := by decide +kernel
theorem dX10_keep_31 : decode cX10_keep 31 = .ok (.bipush 14, 2) := by decide +kernel
theorem dX10_keep_33 : decode cX10_keep 33 = .ok (.iload_n 1, 1) := by decide +kernel
theorem dX10_keep_34 : decode cX10_keep 34 = .ok (.imul, 1) := by decide +kernel
theorem dX10_keep_35 : decode cX10_keep 35 = .ok (.iload_n 2, 1) := by decide +kernel
theorem dX10_keep_36 : decode cX10_keep 36 = .ok (.iadd, 1) := by decide +kernel
theorem dX10_keep_37 : decode cX10_keep 37 = .ok (.aload_n 0, 1) := by decide +kernel
theorem dX10_keep_38 : decode cX10_keep 38 = .ok (.getfield 7, 3) := by decide +kernel
theorem dX10_keep_41 : decode cX10_keep 41 = .ok (.iload_n 2, 1) := by decide +kernel
theorem dX10_keep_42 : decode cX10_keep 42 = .ok (.iaload, 1) := by decide +kernel
theorem dX10_keep_43 : decode cX10_keep 43 = .ok (.iastore, 1) := by decide +kernel
theorem dX10_keep_44 : decode cX10_keep 44 = .ok (.iinc 2 1, 3) := by decide +kernel
theorem dX10_keep_47 : decode cX10_keep 47 = .ok (.goto (-26), 3) := by decide +kernel
theorem dX10_keep_50 : decode cX10_keep 50 = .ok (.aload_n 0, 1) := by decide +kernel
theorem dX10_keep_51 : decode cX10_keep 51 = .ok (.invokevirtual 105, 3) := by decide +kernel
theorem dX10_keep_54 : decode cX10_keep 54 = .ok (.ireturn, 1) := by decide +kernel
theorem dX10_again_0 : decode cX10_again 0 = .ok (.iload_n 1, 1) := by decide +kernel
theorem dX10_again_1 : decode cX10_again 1 = .ok (.i2l, 1) := by decide +kernel
theorem dX10_again_2 : decode cX10_again 2 = .ok (.lconst 0, 1) := by decide +kernel
theorem dX10_again_3 : decode cX10_again 3 = .ok (.lconst 1, 1) := by decide +kernel
theorem dX10_again_4 : decode cX10_again 4 = .ok (.invokestatic 58, 3) := by decide +kernel
theorem dX10_again_7 : decode cX10_again 7 = .ok (.ifCond .ne 5, 3) := by decide +kernel
theorem dX10_again_10 : decode cX10_again 10 = .ok (.iconst (-1), 1) := by decide +kernel
theorem dX10_again_11 : decode cX10_again 11 = .ok (.ireturn, 1) := by decide +kernel
theorem dX10_again_12 : decode cX10_again 12 = .ok (.aload_n 0, 1) := by decide +kernel
theorem dX10_again_13 : decode cX10_again 13 = .ok (.getfield 50, 3) := by decide +kernel
theorem dX10_again_16 : decode cX10_again 16 = .ok (.iload_n 1, 1) := by decide +kernel
theorem dX10_again_17 : decode cX10_again 17 = .ok (.baload, 1) := by decide +kernel
theorem dX10_again_18 : decode cX10_again 18 = .ok (.ifCond .ne 6, 3) := by decide +kernel
theorem dX10_again_21 : decode cX10_again 21 = .ok (.bipush (-3), 2) := by decide +kernel
theorem dX10_again_23 : decode cX10_again 23 = .ok (.ireturn, 1) := by decide +kernel
theorem dX10_again_24 : decode cX10_again 24 = .ok (.iconst 0, 1) := by decide +kernel
theorem dX10_again_25 : decode cX10_again 25 = .ok (.istore_n 2, 1) := by decide +kernel
theorem dX10_again_26 : decode cX10_again 26 = .ok (.iload_n 2, 1) := by decide +kernel
theorem dX10_again_27 : decode cX10_again 27 = .ok (.bipush 14, 2) := by decide +kernel
theorem dX10_again_29 : decode cX10_again 29 = .ok (.if_icmp .ge 26, 3) := by decide +kernel
theorem dX10_again_32 : decode cX10_again 32 = .ok (.aload_n 0, 1) := by decide +kernel
theorem dX10_again_33 : decode cX10_again 33 = .ok (.getfield 7, 3) := by decide +kernel
theorem dX10_again_36 : decode cX10_again 36 = .ok (.iload_n 2, 1) := by decide +kernel
theorem dX10_again_37 : decode cX10_again 37 = .ok (.aload_n 0, 1) := by decide +kernel
theorem dX10_again_38 : decode cX10_again 38 = .ok (.getfield 53, 3) := by decide +kernel
theorem dX10_again_41 : decode cX10_again 41 = .ok (.bipush 14, 2) := by decide +kernel
theorem dX10_again_43 : decode cX10_again 43 = .ok (.iload_n 1, 1) := by decide +kernel
theorem dX10_again_44 : decode cX10_again 44 = .ok (.imul, 1) := by decide +kernel
theorem dX10_again_45 : decode cX10_again 45 = .ok (.iload_n 2, 1) := by decide +kernel
theorem dX10_again_46 : decode cX10_again 46 = .ok (.iadd, 1) := by decide +kernel
theorem dX10_again_47 : decode cX10_again 47 = .ok (.iaload, 1) := by decide +kernel
theorem dX10_again_48 : decode cX10_again 48 = .ok (.iastore, 1) := by decide +kernel
theorem dX10_again_49 : decode cX10_again 49 = .ok (.iinc 2 1, 3) := by decide +kernel
theorem dX10_again_52 : decode cX10_again 52 = .ok (.goto (-26), 3) := by decide +kernel
theorem dX10_again_55 : decode cX10_again 55 = .ok (.aload_n 0, 1) := by decide +kernel
theorem dX10_again_56 : decode cX10_again 56 = .ok (.iconst 0, 1) := by decide +kernel
theorem dX10_again_57 : decode cX10_again 57 = .ok (.putfield 92, 3) := by decide +kernel
theorem dX10_again_60 : decode cX10_again 60 = .ok (.aload_n 0, 1) := by decide +kernel
theorem dX10_again_61 : decode cX10_again 61 = .ok (.invokevirtual 105, 3) := by decide +kernel
theorem dX10_again_64 : decode cX10_again 64 = .ok (.ireturn, 1) := by decide +kernel
theorem dX10_count_0 : decode cX10_count 0 = .ok (.iload_n 1, 1) := by decide +kernel
theorem dX10_count_1 : decode cX10_count 1 = .ok (.tableswitch 127 0 10 #[59, 64, 69, 77, 85, 91, 96, 104, 109, 117, 122], 59) := by decide +kernel
theorem dX10_count_60 : decode cX10_count 60 = .ok (.aload_n 0, 1) := by decide +kernel
theorem dX10_count_61 : decode cX10_count 61 = .ok (.getfield 62, 3) := by decide +kernel
theorem dX10_count_64 : decode cX10_count 64 = .ok (.ireturn, 1) := by decide +kernel
theorem dX10_count_65 : decode cX10_count 65 = .ok (.aload_n 0, 1) := by decide +kernel
theorem dX10_count_66 : decode cX10_count 66 = .ok (.invokevirtual 105, 3) := by decide +kernel
theorem dX10_count_69 : decode cX10_count 69 = .ok (.ireturn, 1) := by decide +kernel
theorem dX10_count_70 : decode cX10_count 70 = .ok (.aload_n 0, 1) := by decide +kernel
theorem dX10_count_71 : decode cX10_count 71 = .ok (.getfield 7, 3) := by decide +kernel
theorem dX10_count_74 : decode cX10_count 74 = .ok (.bipush 11, 2) := by decide +kernel
theorem dX10_count_76 : decode cX10_count 76 = .ok (.iaload, 1) := by decide +kernel
theorem dX10_count_77 : decode cX10_count 77 = .ok (.ireturn, 1) := by decide +kernel
theorem dX10_count_78 : decode cX10_count 78 = .ok (.aload_n 0, 1) := by decide +kernel
theorem dX10_count_79 : decode cX10_count 79 = .ok (.getfield 7, 3) := by decide +kernel
theorem dX10_count_82 : decode cX10_count 82 = .ok (.bipush 12, 2) := by decide +kernel
theorem dX10_count_84 : decode cX10_count 84 = .ok (.iaload, 1) := by decide +kernel
theorem dX10_count_85 : decode cX10_count 85 = .ok (.ireturn, 1) := by decide +kernel
theorem dX10_count_86 : decode cX10_count 86 = .ok (.aload_n 0, 1) := by decide +kernel
theorem dX10_count_87 : decode cX10_count 87 = .ok (.iconst 0, 1) := by decide +kernel
theorem dX10_count_88 : decode cX10_count 88 = .ok (.invokevirtual 122, 3) := by decide +kernel
theorem dX10_count_91 : decode cX10_count 91 = .ok (.ireturn, 1) := by decide +kernel
theorem dX10_count_92 : decode cX10_count 92 = .ok (.aload_n 0, 1) := by decide +kernel
theorem dX10_count_93 : decode cX10_count 93 = .ok (.invokevirtual 143, 3) := by decide +kernel
theorem dX10_count_96 : decode cX10_count 96 = .ok (.ireturn, 1) := by decide +kernel
theorem dX10_count_97 : decode cX10_count 97 = .ok (.aload_n 0, 1) := by decide +kernel
theorem dX10_count_98 : decode cX10_count 98 = .ok (.getfield 7, 3) := by decide +kernel
theorem dX10_count_101 : decode cX10_count 101 = .ok (.bipush 10, 2) := by decide +kernel
theorem dX10_count_103 : decode cX10_count 103 = .ok (.iaload, 1) := by decide +kernel
theorem dX10_count_104 : decode cX10_count 104 = .ok (.ireturn, 1) := by decide +kernel
theorem dX10_count_105 : decode cX10_count 105 = .ok (.aload_n 0, 1) := by decide +kernel
theorem dX10_count_106 : decode cX10_count 106 = .ok (.invokevirtual 214, 3) := by decide +kernel
theorem dX10_count_109 : decode cX10_count 109 = .ok (.ireturn, 1) := by decide +kernel
theorem dX10_count_110 : decode cX10_count 110 = .ok (.aload_n 0, 1) := by decide +kernel
theorem dX10_count_111 : decode cX10_count 111 = .ok (.getfield 7, 3) := by decide +kernel
theorem dX10_count_114 : decode cX10_count 114 = .ok (.bipush 8, 2) := by decide +kernel
theorem dX10_count_116 : decode cX10_count 116 = .ok (.iaload, 1) := by decide +kernel
theorem dX10_count_117 : decode cX10_count 117 = .ok (.ireturn, 1) := by decide +kernel
theorem dX10_count_118 : decode cX10_count 118 = .ok (.aload_n 0, 1) := by decide +kernel
theorem dX10_count_119 : decode cX10_count 119 = .ok (.getfield 92, 3) := by decide +kernel
theorem dX10_count_122 : decode cX10_count 122 = .ok (.ireturn, 1) := by decide +kernel
theorem dX10_count_123 : decode cX10_count 123 = .ok (.aload_n 0, 1) := by decide +kernel
theorem dX10_count_124 : decode cX10_count 124 = .ok (.getfield 211, 3) := by decide +kernel
theorem dX10_count_127 : decode cX10_count 127 = .ok (.ireturn, 1) := by decide +kernel
theorem dX10_count_128 : decode cX10_count 128 = .ok (.bipush (-2), 2) := by decide +kernel
theorem dX10_count_130 : decode cX10_count 130 = .ok (.ireturn, 1) := by decide +kernel
theorem dJ6_bitCount_0f7a4_0 : decode cJ6_bitCount_0f7a4 0 = .ok (.iload_n 0, 1) := by decide +kernel
theorem dJ6_bitCount_0f7a4_1 : decode cJ6_bitCount_0f7a4 1 = .ok (.iload_n 0, 1) := by decide +kernel
theorem dJ6_bitCount_0f7a4_2 : decode cJ6_bitCount_0f7a4 2 = .ok (.iconst 1, 1) := by decide +kernel
theorem dJ6_bitCount_0f7a4_3 : decode cJ6_bitCount_0f7a4 3 = .ok (.iushr, 1) := by decide +kernel
theorem dJ6_bitCount_0f7a4_4 : decode cJ6_bitCount_0f7a4 4 = .ok (.ldc_w 265, 3) := by decide +kernel
theorem dJ6_bitCount_0f7a4_7 : decode cJ6_bitCount_0f7a4 7 = .ok (.iand, 1) := by decide +kernel
theorem dJ6_bitCount_0f7a4_8 : decode cJ6_bitCount_0f7a4 8 = .ok (.isub, 1) := by decide +kernel
theorem dJ6_bitCount_0f7a4_9 : decode cJ6_bitCount_0f7a4 9 = .ok (.istore_n 0, 1) := by decide +kernel
theorem dJ6_bitCount_0f7a4_10 : decode cJ6_bitCount_0f7a4 10 = .ok (.iload_n 0, 1) := by decide +kernel
theorem dJ6_bitCount_0f7a4_11 : decode cJ6_bitCount_0f7a4 11 = .ok (.ldc_w 266, 3) := by decide +kernel
theorem dJ6_bitCount_0f7a4_14 : decode cJ6_bitCount_0f7a4 14 = .ok (.iand, 1) := by decide +kernel
theorem dJ6_bitCount_0f7a4_15 : decode cJ6_bitCount_0f7a4 15 = .ok (.iload_n 0, 1) := by decide +kernel
theorem dJ6_bitCount_0f7a4_16 : decode cJ6_bitCount_0f7a4 16 = .ok (.iconst 2, 1) := by decide +kernel
theorem dJ6_bitCount_0f7a4_17 : decode cJ6_bitCount_0f7a4 17 = .ok (.iushr, 1) := by decide +kernel
theorem dJ6_bitCount_0f7a4_18 : decode cJ6_bitCount_0f7a4 18 = .ok (.ldc_w 266, 3) := by decide +kernel
theorem dJ6_bitCount_0f7a4_21 : decode cJ6_bitCount_0f7a4 21 = .ok (.iand, 1) := by decide +kernel
theorem dJ6_bitCount_0f7a4_22 : decode cJ6_bitCount_0f7a4 22 = .ok (.iadd, 1) := by decide +kernel
theorem dJ6_bitCount_0f7a4_23 : decode cJ6_bitCount_0f7a4 23 = .ok (.istore_n 0, 1) := by decide +kernel
theorem dJ6_bitCount_0f7a4_24 : decode cJ6_bitCount_0f7a4 24 = .ok (.iload_n 0, 1) := by decide +kernel
theorem dJ6_bitCount_0f7a4_25 : decode cJ6_bitCount_0f7a4 25 = .ok (.iload_n 0, 1) := by decide +kernel
theorem dJ6_bitCount_0f7a4_26 : decode cJ6_bitCount_0f7a4 26 = .ok (.iconst 4, 1) := by decide +kernel
theorem dJ6_bitCount_0f7a4_27 : decode cJ6_bitCount_0f7a4 27 = .ok (.iushr, 1) := by decide +kernel
theorem dJ6_bitCount_0f7a4_28 : decode cJ6_bitCount_0f7a4 28 = .ok (.iadd, 1) := by decide +kernel
theorem dJ6_bitCount_0f7a4_29 : decode cJ6_bitCount_0f7a4 29 = .ok (.ldc_w 267, 3) := by decide +kernel
theorem dJ6_bitCount_0f7a4_32 : decode cJ6_bitCount_0f7a4 32 = .ok (.iand, 1) := by decide +kernel
theorem dJ6_bitCount_0f7a4_33 : decode cJ6_bitCount_0f7a4 33 = .ok (.istore_n 0, 1) := by decide +kernel
theorem dJ6_bitCount_0f7a4_34 : decode cJ6_bitCount_0f7a4 34 = .ok (.iload_n 0, 1) := by decide +kernel
theorem dJ6_bitCount_0f7a4_35 : decode cJ6_bitCount_0f7a4 35 = .ok (.iload_n 0, 1) := by decide +kernel
theorem dJ6_bitCount_0f7a4_36 : decode cJ6_bitCount_0f7a4 36 = .ok (.bipush 8, 2) := by decide +kernel
theorem dJ6_bitCount_0f7a4_38 : decode cJ6_bitCount_0f7a4 38 = .ok (.iushr, 1) := by decide +kernel
theorem dJ6_bitCount_0f7a4_39 : decode cJ6_bitCount_0f7a4 39 = .ok (.iadd, 1) := by decide +kernel
theorem dJ6_bitCount_0f7a4_40 : decode cJ6_bitCount_0f7a4 40 = .ok (.istore_n 0, 1) := by decide +kernel
theorem dJ6_bitCount_0f7a4_41 : decode cJ6_bitCount_0f7a4 41 = .ok (.iload_n 0, 1) := by decide +kernel
theorem dJ6_bitCount_0f7a4_42 : decode cJ6_bitCount_0f7a4 42 = .ok (.iload_n 0, 1) := by decide +kernel
theorem dJ6_bitCount_0f7a4_43 : decode cJ6_bitCount_0f7a4 43 = .ok (.bipush 16, 2) := by decide +kernel
theorem dJ6_bitCount_0f7a4_45 : decode cJ6_bitCount_0f7a4 45 = .ok (.iushr, 1) := by decide +kernel
theorem dJ6_bitCount_0f7a4_46 : decode cJ6_bitCount_0f7a4 46 = .ok (.iadd, 1) := by decide +kernel
theorem dJ6_bitCount_0f7a4_47 : decode cJ6_bitCount_0f7a4 47 = .ok (.istore_n 0, 1) := by decide +kernel
theorem dJ6_bitCount_0f7a4_48 : decode cJ6_bitCount_0f7a4 48 = .ok (.iload_n 0, 1) := by decide +kernel
theorem dJ6_bitCount_0f7a4_49 : decode cJ6_bitCount_0f7a4 49 = .ok (.bipush 63, 2) := by decide +kernel
theorem dJ6_bitCount_0f7a4_51 : decode cJ6_bitCount_0f7a4 51 = .ok (.iand, 1) := by decide +kernel
theorem dJ6_bitCount_0f7a4_52 : decode cJ6_bitCount_0f7a4 52 = .ok (.ireturn, 1) := by decide +kernel
theorem dJ9_abs_0f7a4_0 : decode cJ9_abs_0f7a4 0 = .ok (.iload_n 0, 1) := by decide +kernel
theorem dJ9_abs_0f7a4_1 : decode cJ9_abs_0f7a4 1 = .ok (.ifCond .ge 8, 3) := by decide +kernel
theorem dJ9_abs_0f7a4_4 : decode cJ9_abs_0f7a4 4 = .ok (.iload_n 0, 1) := by decide +kernel
theorem dJ9_abs_0f7a4_5 : decode cJ9_abs_0f7a4 5 = .ok (.ineg, 1) := by decide +kernel
theorem dJ9_abs_0f7a4_6 : decode cJ9_abs_0f7a4 6 = .ok (.goto 4, 3) := by decide +kernel
theorem dJ9_abs_0f7a4_9 : decode cJ9_abs_0f7a4 9 = .ok (.iload_n 0, 1) := by decide +kernel
theorem dJ9_abs_0f7a4_10 : decode cJ9_abs_0f7a4 10 = .ok (.ireturn, 1) := by decide +kernel
theorem dJ9_max_7cf53_0 : decode cJ9_max_7cf53 0 = .ok (.iload_n 0, 1) := by decide +kernel
theorem dJ9_max_7cf53_1 : decode cJ9_max_7cf53 1 = .ok (.iload_n 1, 1) := by decide +kernel
theorem dJ9_max_7cf53_2 : decode cJ9_max_7cf53 2 = .ok (.if_icmp .lt 7, 3) := by decide +kernel
theorem dJ9_max_7cf53_5 : decode cJ9_max_7cf53 5 = .ok (.iload_n 0, 1) := by decide +kernel
theorem dJ9_max_7cf53_6 : decode cJ9_max_7cf53 6 = .ok (.goto 4, 3) := by decide +kernel
theorem dJ9_max_7cf53_9 : decode cJ9_max_7cf53 9 = .ok (.iload_n 1, 1) := by decide +kernel
theorem dJ9_max_7cf53_10 : decode cJ9_max_7cf53 10 = .ok (.ireturn, 1) := by decide +kernel
theorem dJ9_min_7cf53_0 : decode cJ9_min_7cf53 0 = .ok (.iload_n 0, 1) := by decide +kernel
theorem dJ9_min_7cf53_1 : decode cJ9_min_7cf53 1 = .ok (.iload_n 1, 1) := by decide +kernel
theorem dJ9_min_7cf53_2 : decode cJ9_min_7cf53 2 = .ok (.if_icmp .gt 7, 3) := by decide +kernel
theorem dJ9_min_7cf53_5 : decode cJ9_min_7cf53 5 = .ok (.iload_n 0, 1) := by decide +kernel
theorem dJ9_min_7cf53_6 : decode cJ9_min_7cf53 6 = .ok (.goto 4, 3) := by decide +kernel
theorem dJ9_min_7cf53_9 : decode cJ9_min_7cf53 9 = .ok (.iload_n 1, 1) := by decide +kernel
theorem dJ9_min_7cf53_10 : decode cJ9_min_7cf53 10 = .ok (.ireturn, 1) := by decide +kernel
theorem dL_law_0 : decode cL_law 0 = .ok (.new 7, 3) := by decide +kernel
theorem dL_law_3 : decode cL_law 3 = .ok (.dup, 1) := by decide +kernel
theorem dL_law_4 : decode cL_law 4 = .ok (.invokespecial 9, 3) := by decide +kernel
theorem dL_law_7 : decode cL_law 7 = .ok (.astore_n 1, 1) := by decide +kernel
theorem dL_law_8 : decode cL_law 8 = .ok (.new 10, 3) := by decide +kernel
theorem dL_law_11 : decode cL_law 11 = .ok (.dup, 1) := by decide +kernel
theorem dL_law_12 : decode cL_law 12 = .ok (.invokespecial 12, 3) := by decide +kernel
theorem dL_law_15 : decode cL_law 15 = .ok (.astore_n 2, 1) := by decide +kernel
theorem dL_law_16 : decode cL_law 16 = .ok (.iconst 0, 1) := by decide +kernel
theorem dL_law_17 : decode cL_law 17 = .ok (.istore_n 3, 1) := by decide +kernel
theorem dL_law_18 : decode cL_law 18 = .ok (.iload_n 3, 1) := by decide +kernel
theorem dL_law_19 : decode cL_law 19 = .ok (.aload_n 0, 1) := by decide +kernel
theorem dL_law_20 : decode cL_law 20 = .ok (.arraylength, 1) := by decide +kernel
theorem dL_law_21 : decode cL_law 21 = .ok (.iconst 4, 1) := by decide +kernel
theorem dL_law_22 : decode cL_law 22 = .ok (.isub, 1) := by decide +kernel
theorem dL_law_23 : decode cL_law 23 = .ok (.if_icmp .gt 988, 3) := by decide +kernel
theorem dL_law_26 : decode cL_law 26 = .ok (.aload_n 0, 1) := by decide +kernel
theorem dL_law_27 : decode cL_law 27 = .ok (.iload_n 3, 1) := by decide +kernel
theorem dL_law_28 : decode cL_law 28 = .ok (.iaload, 1) := by decide +kernel
theorem dL_law_29 : decode cL_law 29 = .ok (.bipush 31, 2) := by decide +kernel
theorem dL_law_31 : decode cL_law 31 = .ok (.iand, 1) := by decide +kernel
theorem dL_law_32 : decode cL_law 32 = .ok (.tableswitch 973 0 31 #[144, 167, 180, 193, 206, 239, 262, 285, 308, 341, 364, 387, 410, 433, 446, 459, 492, 515, 548, 571, 594, 617, 676, 689, 712, 725, 758, 817, 871, 904, 927, 950], 144) := by decide +kernel
theorem dL_law_176 : decode cL_law 176 = .ok (.aload_n 1, 1) := by decide +kernel
theorem dL_law_177 : decode cL_law 177 = .ok (.aload_n 0, 1) := by decide +kernel
theorem dL_law_178 : decode cL_law 178 = .ok (.iload_n 3, 1) := by decide +kernel
theorem dL_law_179 : decode cL_law 179 = .ok (.iconst 1, 1) := by decide +kernel
theorem dL_law_180 : decode cL_law 180 = .ok (.iadd, 1) := by decide +kernel
theorem dL_law_181 : decode cL_law 181 = .ok (.iaload, 1) := by decide +kernel
theorem dL_law_182 : decode cL_law 182 = .ok (.invokevirtual 13, 3) := by decide +kernel
theorem dL_law_185 : decode cL_law 185 = .ok (.aload_n 2, 1) := by decide +kernel
theorem dL_law_186 : decode cL_law 186 = .ok (.aload_n 0, 1) := by decide +kernel
theorem dL_law_187 : decode cL_law 187 = .ok (.iload_n 3, 1) := by decide +kernel
theorem dL_law_188 : decode cL_law 188 = .ok (.iconst 1, 1) := by decide +kernel
theorem dL_law_189 : decode cL_law 189 = .ok (.iadd, 1) := by decide +kernel
theorem dL_law_190 : decode cL_law 190 = .ok (.iaload, 1) := by decide +kernel
theorem dL_law_191 : decode cL_law 191 = .ok (.invokevirtual 17, 3) := by decide +kernel
theorem dL_law_194 : decode cL_law 194 = .ok (.if_icmp .eq 811, 3) := by decide +kernel
theorem dL_law_197 : decode cL_law 197 = .ok (.iconst 0, 1) := by decide +kernel
theorem dL_law_198 : decode cL_law 198 = .ok (.ireturn, 1) := by decide +kernel
theorem dL_law_199 : decode cL_law 199 = .ok (.aload_n 1, 1) := by decide +kernel
theorem dL_law_200 : decode cL_law 200 = .ok (.invokevirtual 18, 3) := by decide +kernel
theorem dL_law_203 : decode cL_law 203 = .ok (.aload_n 2, 1) := by decide +kernel
theorem dL_law_204 : decode cL_law 204 = .ok (.invokevirtual 22, 3) := by decide +kernel
theorem dL_law_207 : decode cL_law 207 = .ok (.if_icmp .eq 798, 3) := by decide +kernel
theorem dL_law_210 : decode cL_law 210 = .ok (.iconst 0, 1) := by decide +kernel
theorem dL_law_211 : decode cL_law 211 = .ok (.ireturn, 1) := by decide +kernel
theorem dL_law_212 : decode cL_law 212 = .ok (.aload_n 1, 1) := by decide +kernel
theorem dL_law_213 : decode cL_law 213 = .ok (.invokevirtual 23, 3) := by decide +kernel
theorem dL_law_216 : decode cL_law 216 = .ok (.aload_n 2, 1) := by decide +kernel
theorem dL_law_217 : decode cL_law 217 = .ok (.invokevirtual 26, 3) := by decide +kernel
theorem dL_law_220 : decode cL_law 220 = .ok (.if_icmp .eq 785, 3) := by decide +kernel
theorem dL_law_223 : decode cL_law 223 = .ok (.iconst 0, 1) := by decide +kernel
theorem dL_law_224 : decode cL_law 224 = .ok (.ireturn, 1) := by decide +kernel
theorem dL_law_225 : decode cL_law 225 = .ok (.aload_n 1, 1) := by decide +kernel
theorem dL_law_226 : decode cL_law 226 = .ok (.invokevirtual 27, 3) := by decide +kernel
theorem dL_law_229 : decode cL_law 229 = .ok (.aload_n 2, 1) := by decide +kernel
theorem dL_law_230 : decode cL_law 230 = .ok (.invokevirtual 30, 3) := by decide +kernel
theorem dL_law_233 : decode cL_law 233 = .ok (.if_icmp .eq 772, 3) := by decide +kernel
theorem dL_law_236 : decode cL_law 236 = .ok (.iconst 0, 1) := by decide +kernel
theorem dL_law_237 : decode cL_law 237 = .ok (.ireturn, 1) := by decide +kernel
theorem dL_law_238 : decode cL_law 238 = .ok (.aload_n 1, 1) := by decide +kernel
theorem dL_law_239 : decode cL_law 239 = .ok (.aload_n 0, 1) := by decide +kernel
theorem dL_law_240 : decode cL_law 240 = .ok (.iload_n 3, 1) := by decide +kernel
theorem dL_law_241 : decode cL_law 241 = .ok (.iconst 1, 1) := by decide +kernel
theorem dL_law_242 : decode cL_law 242 = .ok (.iadd, 1) := by decide +kernel
theorem dL_law_243 : decode cL_law 243 = .ok (.iaload, 1) := by decide +kernel
theorem dL_law_244 : decode cL_law 244 = .ok (.aload_n 0, 1) := by decide +kernel
theorem dL_law_245 : decode cL_law 245 = .ok (.iload_n 3, 1) := by decide +kernel
theorem dL_law_246 : decode cL_law 246 = .ok (.iconst 2, 1) := by decide +kernel
theorem dL_law_247 : decode cL_law 247 = .ok (.iadd, 1) := by decide +kernel
theorem dL_law_248 : decode cL_law 248 = .ok (.iaload, 1) := by decide +kernel
theorem dL_law_249 : decode cL_law 249 = .ok (.invokevirtual 31, 3) := by decide +kernel
theorem dL_law_252 : decode cL_law 252 = .ok (.aload_n 2, 1) := by decide +kernel
theorem dL_law_253 : decode cL_law 253 = .ok (.aload_n 0, 1) := by decide +kernel
theorem dL_law_254 : decode cL_law 254 = .ok (.iload_n 3, 1) := by decide +kernel
theorem dL_law_255 : decode cL_law 255 = .ok (.iconst 1, 1) := by decide +kernel
theorem dL_law_256 : decode cL_law 256 = .ok (.iadd, 1) := by decide +kernel
theorem dL_law_257 : decode cL_law 257 = .ok (.iaload, 1) := by decide +kernel
theorem dL_law_258 : decode cL_law 258 = .ok (.aload_n 0, 1) := by decide +kernel
theorem dL_law_259 : decode cL_law 259 = .ok (.iload_n 3, 1) := by decide +kernel
theorem dL_law_260 : decode cL_law 260 = .ok (.iconst 2, 1) := by decide +kernel
theorem dL_law_261 : decode cL_law 261 = .ok (.iadd, 1) := by decide +kernel
theorem dL_law_262 : decode cL_law 262 = .ok (.iaload, 1) := by decide +kernel
theorem dL_law_263 : decode cL_law 263 = .ok (.invokevirtual 35, 3) := by decide +kernel
theorem dL_law_266 : decode cL_law 266 = .ok (.if_icmp .eq 739, 3) := by decide +kernel
theorem dL_law_269 : decode cL_law 269 = .ok (.iconst 0, 1) := by decide +kernel
theorem dL_law_270 : decode cL_law 270 = .ok (.ireturn, 1) := by decide +kernel
theorem dL_law_271 : decode cL_law 271 = .ok (.aload_n 1, 1) := by decide +kernel
theorem dL_law_272 : decode cL_law 272 = .ok (.aload_n 0, 1) := by decide +kernel
theorem dL_law_273 : decode cL_law 273 = .ok (.iload_n 3, 1) := by decide +kernel
theorem dL_law_274 : decode cL_law 274 = .ok (.iconst 1, 1) := by decide +kernel
theorem dL_law_275 : decode cL_law 275 = .ok (.iadd, 1) := by decide +kernel
theorem dL_law_276 : decode cL_law 276 = .ok (.iaload, 1) := by decide +kernel
theorem dL_law_277 : decode cL_law 277 = .ok (.invokevirtual 36, 3) := by decide +kernel
theorem dL_law_280 : decode cL_law 280 = .ok (.aload_n 2, 1) := by decide +kernel
theorem dL_law_281 : decode cL_law 281 = .ok (.aload_n 0, 1) := by decide +kernel
theorem dL_law_282 : decode cL_law 282 = .ok (.iload_n 3, 1) := by decide +kernel
theorem dL_law_283 : decode cL_law 283 = .ok (.iconst 1, 1) := by decide +kernel
theorem dL_law_284 : decode cL_law 284 = .ok (.iadd, 1) := by decide +kernel
theorem dL_law_285 : decode cL_law 285 = .ok (.iaload, 1) := by decide +kernel
theorem dL_law_286 : decode cL_law 286 = .ok (.invokevirtual 39, 3) := by decide +kernel
theorem dL_law_289 : decode cL_law 289 = .ok (.if_icmp .eq 716, 3) := by decide +kernel
theorem dL_law_292 : decode cL_law 292 = .ok (.iconst 0, 1) := by decide +kernel
theorem dL_law_293 : decode cL_law 293 = .ok (.ireturn, 1) := by decide +kernel
theorem dL_law_294 : decode cL_law 294 = .ok (.aload_n 1, 1) := by decide +kernel
theorem dL_law_295 : decode cL_law 295 = .ok (.aload_n 0, 1) := by decide +kernel
theorem dL_law_296 : decode cL_law 296 = .ok (.iload_n 3, 1) := by decide +kernel
theorem dL_law_297 : decode cL_law 297 = .ok (.iconst 1, 1) := by decide +kernel
theorem dL_law_298 : decode cL_law 298 = .ok (.iadd, 1) := by decide +kernel
theorem dL_law_299 : decode cL_law 299 = .ok (.iaload, 1) := by decide +kernel
theorem dL_law_300 : decode cL_law 300 = .ok (.invokevirtual 40, 3) := by decide +kernel
theorem dL_law_303 : decode cL_law 303 = .ok (.aload_n 2, 1) := by decide +kernel
theorem dL_law_304 : decode cL_law 304 = .ok (.aload_n 0, 1) := by decide +kernel
theorem dL_law_305 : decode cL_law 305 = .ok (.iload_n 3, 1) := by decide +kernel
theorem dL_law_306 : decode cL_law 306 = .ok (.iconst 1, 1) := by decide +kernel
theorem dL_law_307 : decode cL_law 307 = .ok (.iadd, 1) := by decide +kernel
theorem dL_law_308 : decode cL_law 308 = .ok (.iaload, 1) := by decide +kernel
theorem dL_law_309 : decode cL_law 309 = .ok (.invokevirtual 43, 3) := by decide +kernel
theorem dL_law_312 : decode cL_law 312 = .ok (.if_icmp .eq 693, 3) := by decide +kernel
theorem dL_law_315 : decode cL_law 315 = .ok (.iconst 0, 1) := by decide +kernel
theorem dL_law_316 : decode cL_law 316 = .ok (.ireturn, 1) := by decide +kernel
theorem dL_law_317 : decode cL_law 317 = .ok (.aload_n 1, 1) := by decide +kernel
theorem dL_law_318 : decode cL_law 318 = .ok (.aload_n 0, 1) := by decide +kernel
theorem dL_law_319 : decode cL_law 319 = .ok (.iload_n 3, 1) := by decide +kernel
theorem dL_law_320 : decode cL_law 320 = .ok (.iconst 1, 1) := by decide +kernel
theorem dL_law_321 : decode cL_law 321 = .ok (.iadd, 1) := by decide +kernel
theorem dL_law_322 : decode cL_law 322 = .ok (.iaload, 1) := by decide +kernel
theorem dL_law_323 : decode cL_law 323 = .ok (.invokevirtual 44, 3) := by decide +kernel
theorem dL_law_326 : decode cL_law 326 = .ok (.aload_n 2, 1) := by decide +kernel
theorem dL_law_327 : decode cL_law 327 = .ok (.aload_n 0, 1) := by decide +kernel
theorem dL_law_328 : decode cL_law 328 = .ok (.iload_n 3, 1) := by decide +kernel
theorem dL_law_329 : decode cL_law 329 = .ok (.iconst 1, 1) := by decide +kernel
theorem dL_law_330 : decode cL_law 330 = .ok (.iadd, 1) := by decide +kernel
theorem dL_law_331 : decode cL_law 331 = .ok (.iaload, 1) := by decide +kernel
theorem dL_law_332 : decode cL_law 332 = .ok (.invokevirtual 47, 3) := by decide +kernel
theorem dL_law_335 : decode cL_law 335 = .ok (.if_icmp .eq 670, 3) := by decide +kernel
theorem dL_law_338 : decode cL_law 338 = .ok (.iconst 0, 1) := by decide +kernel
theorem dL_law_339 : decode cL_law 339 = .ok (.ireturn, 1) := by decide +kernel
theorem dL_law_340 : decode cL_law 340 = .ok (.aload_n 1, 1) := by decide +kernel
theorem dL_law_341 : decode cL_law 341 = .ok (.aload_n 0, 1) := by decide +kernel
theorem dL_law_342 : decode cL_law 342 = .ok (.iload_n 3, 1) := by decide +kernel
theorem dL_law_343 : decode cL_law 343 = .ok (.iconst 1, 1) := by decide +kernel
theorem dL_law_344 : decode cL_law 344 = .ok (.iadd, 1) := by decide +kernel
theorem dL_law_345 : decode cL_law 345 = .ok (.iaload, 1) := by decide +kernel
theorem dL_law_346 : decode cL_law 346 = .ok (.aload_n 0, 1) := by decide +kernel
theorem dL_law_347 : decode cL_law 347 = .ok (.iload_n 3, 1) := by decide +kernel
theorem dL_law_348 : decode cL_law 348 = .ok (.iconst 2, 1) := by decide +kernel
theorem dL_law_349 : decode cL_law 349 = .ok (.iadd, 1) := by decide +kernel
theorem dL_law_350 : decode cL_law 350 = .ok (.iaload, 1) := by decide +kernel
theorem dL_law_351 : decode cL_law 351 = .ok (.invokevirtual 48, 3) := by decide +kernel
theorem dL_law_354 : decode cL_law 354 = .ok (.aload_n 2, 1) := by decide +kernel
theorem dL_law_355 : decode cL_law 355 = .ok (.aload_n 0, 1) := by decide +kernel
theorem dL_law_356 : decode cL_law 356 = .ok (.iload_n 3, 1) := by decide +kernel
theorem dL_law_357 : decode cL_law 357 = .ok (.iconst 1, 1) := by decide +kernel
theorem dL_law_358 : decode cL_law 358 = .ok (.iadd, 1) := by decide +kernel
theorem dL_law_359 : decode cL_law 359 = .ok (.iaload, 1) := by decide +kernel
theorem dL_law_360 : decode cL_law 360 = .ok (.aload_n 0, 1) := by decide +kernel
theorem dL_law_361 : decode cL_law 361 = .ok (.iload_n 3, 1) := by decide +kernel
theorem dL_law_362 : decode cL_law 362 = .ok (.iconst 2, 1) := by decide +kernel
theorem dL_law_363 : decode cL_law 363 = .ok (.iadd, 1) := by decide +kernel
theorem dL_law_364 : decode cL_law 364 = .ok (.iaload, 1) := by decide +kernel
theorem dL_law_365 : decode cL_law 365 = .ok (.invokevirtual 51, 3) := by decide +kernel
theorem dL_law_368 : decode cL_law 368 = .ok (.if_icmp .eq 637, 3) := by decide +kernel
theorem dL_law_371 : decode cL_law 371 = .ok (.iconst 0, 1) := by decide +kernel
theorem dL_law_372 : decode cL_law 372 = .ok (.ireturn, 1) := by decide +kernel
theorem dL_law_373 : decode cL_law 373 = .ok (.aload_n 1, 1) := by decide +kernel
theorem dL_law_374 : decode cL_law 374 = .ok (.aload_n 0, 1) := by decide +kernel
theorem dL_law_375 : decode cL_law 375 = .ok (.iload_n 3, 1) := by decide +kernel
theorem dL_law_376 : decode cL_law 376 = .ok (.iconst 1, 1) := by decide +kernel
theorem dL_law_377 : decode cL_law 377 = .ok (.iadd, 1) := by decide +kernel
theorem dL_law_378 : decode cL_law 378 = .ok (.iaload, 1) := by decide +kernel
theorem dL_law_379 : decode cL_law 379 = .ok (.invokevirtual 52, 3) := by decide +kernel
theorem dL_law_382 : decode cL_law 382 = .ok (.aload_n 2, 1) := by decide +kernel
theorem dL_law_383 : decode cL_law 383 = .ok (.aload_n 0, 1) := by decide +kernel
theorem dL_law_384 : decode cL_law 384 = .ok (.iload_n 3, 1) := by decide +kernel
theorem dL_law_385 : decode cL_law 385 = .ok (.iconst 1, 1) := by decide +kernel
theorem dL_law_386 : decode cL_law 386 = .ok (.iadd, 1) := by decide +kernel
theorem dL_law_387 : decode cL_law 387 = .ok (.iaload, 1) := by decide +kernel
theorem dL_law_388 : decode cL_law 388 = .ok (.invokevirtual 55, 3) := by decide +kernel
theorem dL_law_391 : decode cL_law 391 = .ok (.if_icmp .eq 614, 3) := by decide +kernel
theorem dL_law_394 : decode cL_law 394 = .ok (.iconst 0, 1) := by decide +kernel
theorem dL_law_395 : decode cL_law 395 = .ok (.ireturn, 1) := by decide +kernel
theorem dL_law_396 : decode cL_law 396 = .ok (.aload_n 1, 1) := by decide +kernel
theorem dL_law_397 : decode cL_law 397 = .ok (.aload_n 0, 1) := by decide +kernel
theorem dL_law_398 : decode cL_law 398 = .ok (.iload_n 3, 1) := by decide +kernel
theorem dL_law_399 : decode cL_law 399 = .ok (.iconst 1, 1) := by decide +kernel
theorem dL_law_400 : decode cL_law 400 = .ok (.iadd, 1) := by decide +kernel
theorem dL_law_401 : decode cL_law 401 = .ok (.iaload, 1) := by decide +kernel
theorem dL_law_402 : decode cL_law 402 = .ok (.invokevirtual 56, 3) := by decide +kernel
theorem dL_law_405 : decode cL_law 405 = .ok (.aload_n 2, 1) := by decide +kernel
theorem dL_law_406 : decode cL_law 406 = .ok (.aload_n 0, 1) := by decide +kernel
theorem dL_law_407 : decode cL_law 407 = .ok (.iload_n 3, 1) := by decide +kernel
theorem dL_law_408 : decode cL_law 408 = .ok (.iconst 1, 1) := by decide +kernel
theorem dL_law_409 : decode cL_law 409 = .ok (.iadd, 1) := by decide +kernel
theorem dL_law_410 : decode cL_law 410 = .ok (.iaload, 1) := by decide +kernel
theorem dL_law_411 : decode cL_law 411 = .ok (.invokevirtual 59, 3) := by decide +kernel
theorem dL_law_414 : decode cL_law 414 = .ok (.if_icmp .eq 591, 3) := by decide +kernel
theorem dL_law_417 : decode cL_law 417 = .ok (.iconst 0, 1) := by decide +kernel
theorem dL_law_418 : decode cL_law 418 = .ok (.ireturn, 1) := by decide +kernel
theorem dL_law_419 : decode cL_law 419 = .ok (.aload_n 1, 1) := by decide +kernel
theorem dL_law_420 : decode cL_law 420 = .ok (.aload_n 0, 1) := by decide +kernel
theorem dL_law_421 : decode cL_law 421 = .ok (.iload_n 3, 1) := by decide +kernel
theorem dL_law_422 : decode cL_law 422 = .ok (.iconst 1, 1) := by decide +kernel
theorem dL_law_423 : decode cL_law 423 = .ok (.iadd, 1) := by decide +kernel
theorem dL_law_424 : decode cL_law 424 = .ok (.iaload, 1) := by decide +kernel
theorem dL_law_425 : decode cL_law 425 = .ok (.invokevirtual 60, 3) := by decide +kernel
theorem dL_law_428 : decode cL_law 428 = .ok (.aload_n 2, 1) := by decide +kernel
theorem dL_law_429 : decode cL_law 429 = .ok (.aload_n 0, 1) := by decide +kernel
theorem dL_law_430 : decode cL_law 430 = .ok (.iload_n 3, 1) := by decide +kernel
theorem dL_law_431 : decode cL_law 431 = .ok (.iconst 1, 1) := by decide +kernel
theorem dL_law_432 : decode cL_law 432 = .ok (.iadd, 1) := by decide +kernel
theorem dL_law_433 : decode cL_law 433 = .ok (.iaload, 1) := by decide +kernel
theorem dL_law_434 : decode cL_law 434 = .ok (.invokevirtual 63, 3) := by decide +kernel
theorem dL_law_437 : decode cL_law 437 = .ok (.if_icmp .eq 568, 3) := by decide +kernel
theorem dL_law_440 : decode cL_law 440 = .ok (.iconst 0, 1) := by decide +kernel
theorem dL_law_441 : decode cL_law 441 = .ok (.ireturn, 1) := by decide +kernel
theorem dL_law_442 : decode cL_law 442 = .ok (.aload_n 1, 1) := by decide +kernel
theorem dL_law_443 : decode cL_law 443 = .ok (.aload_n 0, 1) := by decide +kernel
theorem dL_law_444 : decode cL_law 444 = .ok (.iload_n 3, 1) := by decide +kernel
theorem dL_law_445 : decode cL_law 445 = .ok (.iconst 1, 1) := by decide +kernel
theorem dL_law_446 : decode cL_law 446 = .ok (.iadd, 1) := by decide +kernel
theorem dL_law_447 : decode cL_law 447 = .ok (.iaload, 1) := by decide +kernel
theorem dL_law_448 : decode cL_law 448 = .ok (.invokevirtual 64, 3) := by decide +kernel
theorem dL_law_451 : decode cL_law 451 = .ok (.aload_n 2, 1) := by decide +kernel
theorem dL_law_452 : decode cL_law 452 = .ok (.aload_n 0, 1) := by decide +kernel
theorem dL_law_453 : decode cL_law 453 = .ok (.iload_n 3, 1) := by decide +kernel
theorem dL_law_454 : decode cL_law 454 = .ok (.iconst 1, 1) := by decide +kernel
theorem dL_law_455 : decode cL_law 455 = .ok (.iadd, 1) := by decide +kernel
theorem dL_law_456 : decode cL_law 456 = .ok (.iaload, 1) := by decide +kernel
theorem dL_law_457 : decode cL_law 457 = .ok (.invokevirtual 67, 3) := by decide +kernel
theorem dL_law_460 : decode cL_law 460 = .ok (.if_icmp .eq 545, 3) := by decide +kernel
theorem dL_law_463 : decode cL_law 463 = .ok (.iconst 0, 1) := by decide +kernel
theorem dL_law_464 : decode cL_law 464 = .ok (.ireturn, 1) := by decide +kernel
theorem dL_law_465 : decode cL_law 465 = .ok (.aload_n 1, 1) := by decide +kernel
theorem dL_law_466 : decode cL_law 466 = .ok (.invokevirtual 68, 3) := by decide +kernel
theorem dL_law_469 : decode cL_law 469 = .ok (.aload_n 2, 1) := by decide +kernel
theorem dL_law_470 : decode cL_law 470 = .ok (.invokevirtual 71, 3) := by decide +kernel
theorem dL_law_473 : decode cL_law 473 = .ok (.if_icmp .eq 532, 3) := by decide +kernel
theorem dL_law_476 : decode cL_law 476 = .ok (.iconst 0, 1) := by decide +kernel
theorem dL_law_477 : decode cL_law 477 = .ok (.ireturn, 1) := by decide +kernel
theorem dL_law_478 : decode cL_law 478 = .ok (.aload_n 1, 1) := by decide +kernel
theorem dL_law_479 : decode cL_law 479 = .ok (.invokevirtual 72, 3) := by decide +kernel
theorem dL_law_482 : decode cL_law 482 = .ok (.aload_n 2, 1) := by decide +kernel
theorem dL_law_483 : decode cL_law 483 = .ok (.invokevirtual 75, 3) := by decide +kernel
theorem dL_law_486 : decode cL_law 486 = .ok (.if_icmp .eq 519, 3) := by decide +kernel
theorem dL_law_489 : decode cL_law 489 = .ok (.iconst 0, 1) := by decide +kernel
theorem dL_law_490 : decode cL_law 490 = .ok (.ireturn, 1) := by decide +kernel
theorem dL_law_491 : decode cL_law 491 = .ok (.aload_n 1, 1) := by decide +kernel
theorem dL_law_492 : decode cL_law 492 = .ok (.aload_n 0, 1) := by decide +kernel
theorem dL_law_493 : decode cL_law 493 = .ok (.iload_n 3, 1) := by decide +kernel
theorem dL_law_494 : decode cL_law 494 = .ok (.iconst 1, 1) := by decide +kernel
theorem dL_law_495 : decode cL_law 495 = .ok (.iadd, 1) := by decide +kernel
theorem dL_law_496 : decode cL_law 496 = .ok (.iaload, 1) := by decide +kernel
theorem dL_law_497 : decode cL_law 497 = .ok (.aload_n 0, 1) := by decide +kernel
theorem dL_law_498 : decode cL_law 498 = .ok (.iload_n 3, 1) := by decide +kernel
theorem dL_law_499 : decode cL_law 499 = .ok (.iconst 2, 1) := by decide +kernel
theorem dL_law_500 : decode cL_law 500 = .ok (.iadd, 1) := by decide +kernel
theorem dL_law_501 : decode cL_law 501 = .ok (.iaload, 1) := by decide +kernel
theorem dL_law_502 : decode cL_law 502 = .ok (.invokevirtual 76, 3) := by decide +kernel
theorem dL_law_505 : decode cL_law 505 = .ok (.aload_n 2, 1) := by decide +kernel
theorem dL_law_506 : decode cL_law 506 = .ok (.aload_n 0, 1) := by decide +kernel
theorem dL_law_507 : decode cL_law 507 = .ok (.iload_n 3, 1) := by decide +kernel
theorem dL_law_508 : decode cL_law 508 = .ok (.iconst 1, 1) := by decide +kernel
theorem dL_law_509 : decode cL_law 509 = .ok (.iadd, 1) := by decide +kernel
theorem dL_law_510 : decode cL_law 510 = .ok (.iaload, 1) := by decide +kernel
theorem dL_law_511 : decode cL_law 511 = .ok (.aload_n 0, 1) := by decide +kernel
theorem dL_law_512 : decode cL_law 512 = .ok (.iload_n 3, 1) := by decide +kernel
theorem dL_law_513 : decode cL_law 513 = .ok (.iconst 2, 1) := by decide +kernel
theorem dL_law_514 : decode cL_law 514 = .ok (.iadd, 1) := by decide +kernel
theorem dL_law_515 : decode cL_law 515 = .ok (.iaload, 1) := by decide +kernel
theorem dL_law_516 : decode cL_law 516 = .ok (.invokevirtual 79, 3) := by decide +kernel
theorem dL_law_519 : decode cL_law 519 = .ok (.if_icmp .eq 486, 3) := by decide +kernel
theorem dL_law_522 : decode cL_law 522 = .ok (.iconst 0, 1) := by decide +kernel
theorem dL_law_523 : decode cL_law 523 = .ok (.ireturn, 1) := by decide +kernel
theorem dL_law_524 : decode cL_law 524 = .ok (.aload_n 1, 1) := by decide +kernel
theorem dL_law_525 : decode cL_law 525 = .ok (.aload_n 0, 1) := by decide +kernel
theorem dL_law_526 : decode cL_law 526 = .ok (.iload_n 3, 1) := by decide +kernel
theorem dL_law_527 : decode cL_law 527 = .ok (.iconst 1, 1) := by decide +kernel
theorem dL_law_528 : decode cL_law 528 = .ok (.iadd, 1) := by decide +kernel
theorem dL_law_529 : decode cL_law 529 = .ok (.iaload, 1) := by decide +kernel
theorem dL_law_530 : decode cL_law 530 = .ok (.invokevirtual 80, 3) := by decide +kernel
theorem dL_law_533 : decode cL_law 533 = .ok (.aload_n 2, 1) := by decide +kernel
theorem dL_law_534 : decode cL_law 534 = .ok (.aload_n 0, 1) := by decide +kernel
theorem dL_law_535 : decode cL_law 535 = .ok (.iload_n 3, 1) := by decide +kernel
theorem dL_law_536 : decode cL_law 536 = .ok (.iconst 1, 1) := by decide +kernel
theorem dL_law_537 : decode cL_law 537 = .ok (.iadd, 1) := by decide +kernel
theorem dL_law_538 : decode cL_law 538 = .ok (.iaload, 1) := by decide +kernel
theorem dL_law_539 : decode cL_law 539 = .ok (.invokevirtual 83, 3) := by decide +kernel
theorem dL_law_542 : decode cL_law 542 = .ok (.if_icmp .eq 463, 3) := by decide +kernel
theorem dL_law_545 : decode cL_law 545 = .ok (.iconst 0, 1) := by decide +kernel
theorem dL_law_546 : decode cL_law 546 = .ok (.ireturn, 1) := by decide +kernel
theorem dL_law_547 : decode cL_law 547 = .ok (.aload_n 1, 1) := by decide +kernel
theorem dL_law_548 : decode cL_law 548 = .ok (.aload_n 0, 1) := by decide +kernel
theorem dL_law_549 : decode cL_law 549 = .ok (.iload_n 3, 1) := by decide +kernel
theorem dL_law_550 : decode cL_law 550 = .ok (.iconst 1, 1) := by decide +kernel
theorem dL_law_551 : decode cL_law 551 = .ok (.iadd, 1) := by decide +kernel
theorem dL_law_552 : decode cL_law 552 = .ok (.iaload, 1) := by decide +kernel
theorem dL_law_553 : decode cL_law 553 = .ok (.aload_n 0, 1) := by decide +kernel
theorem dL_law_554 : decode cL_law 554 = .ok (.iload_n 3, 1) := by decide +kernel
theorem dL_law_555 : decode cL_law 555 = .ok (.iconst 2, 1) := by decide +kernel
theorem dL_law_556 : decode cL_law 556 = .ok (.iadd, 1) := by decide +kernel
theorem dL_law_557 : decode cL_law 557 = .ok (.iaload, 1) := by decide +kernel
theorem dL_law_558 : decode cL_law 558 = .ok (.invokevirtual 84, 3) := by decide +kernel
theorem dL_law_561 : decode cL_law 561 = .ok (.aload_n 2, 1) := by decide +kernel
theorem dL_law_562 : decode cL_law 562 = .ok (.aload_n 0, 1) := by decide +kernel
theorem dL_law_563 : decode cL_law 563 = .ok (.iload_n 3, 1) := by decide +kernel
theorem dL_law_564 : decode cL_law 564 = .ok (.iconst 1, 1) := by decide +kernel
theorem dL_law_565 : decode cL_law 565 = .ok (.iadd, 1) := by decide +kernel
theorem dL_law_566 : decode cL_law 566 = .ok (.iaload, 1) := by decide +kernel
theorem dL_law_567 : decode cL_law 567 = .ok (.aload_n 0, 1) := by decide +kernel
theorem dL_law_568 : decode cL_law 568 = .ok (.iload_n 3, 1) := by decide +kernel
theorem dL_law_569 : decode cL_law 569 = .ok (.iconst 2, 1) := by decide +kernel
theorem dL_law_570 : decode cL_law 570 = .ok (.iadd, 1) := by decide +kernel
theorem dL_law_571 : decode cL_law 571 = .ok (.iaload, 1) := by decide +kernel
theorem dL_law_572 : decode cL_law 572 = .ok (.invokevirtual 87, 3) := by decide +kernel
theorem dL_law_575 : decode cL_law 575 = .ok (.if_icmp .eq 430, 3) := by decide +kernel
theorem dL_law_578 : decode cL_law 578 = .ok (.iconst 0, 1) := by decide +kernel
theorem dL_law_579 : decode cL_law 579 = .ok (.ireturn, 1) := by decide +kernel
theorem dL_law_580 : decode cL_law 580 = .ok (.aload_n 1, 1) := by decide +kernel
theorem dL_law_581 : decode cL_law 581 = .ok (.aload_n 0, 1) := by decide +kernel
theorem dL_law_582 : decode cL_law 582 = .ok (.iload_n 3, 1) := by decide +kernel
theorem dL_law_583 : decode cL_law 583 = .ok (.iconst 1, 1) := by decide +kernel
theorem dL_law_584 : decode cL_law 584 = .ok (.iadd, 1) := by decide +kernel
theorem dL_law_585 : decode cL_law 585 = .ok (.iaload, 1) := by decide +kernel
theorem dL_law_586 : decode cL_law 586 = .ok (.invokevirtual 88, 3) := by decide +kernel
theorem dL_law_589 : decode cL_law 589 = .ok (.aload_n 2, 1) := by decide +kernel
theorem dL_law_590 : decode cL_law 590 = .ok (.aload_n 0, 1) := by decide +kernel
theorem dL_law_591 : decode cL_law 591 = .ok (.iload_n 3, 1) := by decide +kernel
theorem dL_law_592 : decode cL_law 592 = .ok (.iconst 1, 1) := by decide +kernel
theorem dL_law_593 : decode cL_law 593 = .ok (.iadd, 1) := by decide +kernel
theorem dL_law_594 : decode cL_law 594 = .ok (.iaload, 1) := by decide +kernel
theorem dL_law_595 : decode cL_law 595 = .ok (.invokevirtual 91, 3) := by decide +kernel
theorem dL_law_598 : decode cL_law 598 = .ok (.if_icmp .eq 407, 3) := by decide +kernel
theorem dL_law_601 : decode cL_law 601 = .ok (.iconst 0, 1) := by decide +kernel
theorem dL_law_602 : decode cL_law 602 = .ok (.ireturn, 1) := by decide +kernel
theorem dL_law_603 : decode cL_law 603 = .ok (.aload_n 1, 1) := by decide +kernel
theorem dL_law_604 : decode cL_law 604 = .ok (.aload_n 0, 1) := by decide +kernel
theorem dL_law_605 : decode cL_law 605 = .ok (.iload_n 3, 1) := by decide +kernel
theorem dL_law_606 : decode cL_law 606 = .ok (.iconst 1, 1) := by decide +kernel
theorem dL_law_607 : decode cL_law 607 = .ok (.iadd, 1) := by decide +kernel
theorem dL_law_608 : decode cL_law 608 = .ok (.iaload, 1) := by decide +kernel
theorem dL_law_609 : decode cL_law 609 = .ok (.invokevirtual 92, 3) := by decide +kernel
theorem dL_law_612 : decode cL_law 612 = .ok (.aload_n 2, 1) := by decide +kernel
theorem dL_law_613 : decode cL_law 613 = .ok (.aload_n 0, 1) := by decide +kernel
theorem dL_law_614 : decode cL_law 614 = .ok (.iload_n 3, 1) := by decide +kernel
theorem dL_law_615 : decode cL_law 615 = .ok (.iconst 1, 1) := by decide +kernel
theorem dL_law_616 : decode cL_law 616 = .ok (.iadd, 1) := by decide +kernel
theorem dL_law_617 : decode cL_law 617 = .ok (.iaload, 1) := by decide +kernel
theorem dL_law_618 : decode cL_law 618 = .ok (.invokevirtual 95, 3) := by decide +kernel
theorem dL_law_621 : decode cL_law 621 = .ok (.if_icmp .eq 384, 3) := by decide +kernel
theorem dL_law_624 : decode cL_law 624 = .ok (.iconst 0, 1) := by decide +kernel
theorem dL_law_625 : decode cL_law 625 = .ok (.ireturn, 1) := by decide +kernel
theorem dL_law_626 : decode cL_law 626 = .ok (.aload_n 1, 1) := by decide +kernel
theorem dL_law_627 : decode cL_law 627 = .ok (.aload_n 0, 1) := by decide +kernel
theorem dL_law_628 : decode cL_law 628 = .ok (.iload_n 3, 1) := by decide +kernel
theorem dL_law_629 : decode cL_law 629 = .ok (.iconst 1, 1) := by decide +kernel
theorem dL_law_630 : decode cL_law 630 = .ok (.iadd, 1) := by decide +kernel
theorem dL_law_631 : decode cL_law 631 = .ok (.iaload, 1) := by decide +kernel
theorem dL_law_632 : decode cL_law 632 = .ok (.invokevirtual 96, 3) := by decide +kernel
theorem dL_law_635 : decode cL_law 635 = .ok (.aload_n 2, 1) := by decide +kernel
theorem dL_law_636 : decode cL_law 636 = .ok (.aload_n 0, 1) := by decide +kernel
theorem dL_law_637 : decode cL_law 637 = .ok (.iload_n 3, 1) := by decide +kernel
theorem dL_law_638 : decode cL_law 638 = .ok (.iconst 1, 1) := by decide +kernel
theorem dL_law_639 : decode cL_law 639 = .ok (.iadd, 1) := by decide +kernel
theorem dL_law_640 : decode cL_law 640 = .ok (.iaload, 1) := by decide +kernel
theorem dL_law_641 : decode cL_law 641 = .ok (.invokevirtual 99, 3) := by decide +kernel
theorem dL_law_644 : decode cL_law 644 = .ok (.if_icmp .eq 361, 3) := by decide +kernel
theorem dL_law_647 : decode cL_law 647 = .ok (.iconst 0, 1) := by decide +kernel
theorem dL_law_648 : decode cL_law 648 = .ok (.ireturn, 1) := by decide +kernel
theorem dL_law_649 : decode cL_law 649 = .ok (.aload_n 1, 1) := by decide +kernel
theorem dL_law_650 : decode cL_law 650 = .ok (.aload_n 0, 1) := by decide +kernel
theorem dL_law_651 : decode cL_law 651 = .ok (.iload_n 3, 1) := by decide +kernel
theorem dL_law_652 : decode cL_law 652 = .ok (.iconst 1, 1) := by decide +kernel
theorem dL_law_653 : decode cL_law 653 = .ok (.iadd, 1) := by decide +kernel
theorem dL_law_654 : decode cL_law 654 = .ok (.iaload, 1) := by decide +kernel
theorem dL_law_655 : decode cL_law 655 = .ok (.aload_n 0, 1) := by decide +kernel
theorem dL_law_656 : decode cL_law 656 = .ok (.iload_n 3, 1) := by decide +kernel
theorem dL_law_657 : decode cL_law 657 = .ok (.iconst 2, 1) := by decide +kernel
theorem dL_law_658 : decode cL_law 658 = .ok (.iadd, 1) := by decide +kernel
theorem dL_law_659 : decode cL_law 659 = .ok (.iaload, 1) := by decide +kernel
theorem dL_law_660 : decode cL_law 660 = .ok (.aload_n 0, 1) := by decide +kernel
theorem dL_law_661 : decode cL_law 661 = .ok (.iload_n 3, 1) := by decide +kernel
theorem dL_law_662 : decode cL_law 662 = .ok (.iconst 3, 1) := by decide +kernel
theorem dL_law_663 : decode cL_law 663 = .ok (.iadd, 1) := by decide +kernel
theorem dL_law_664 : decode cL_law 664 = .ok (.iaload, 1) := by decide +kernel
theorem dL_law_665 : decode cL_law 665 = .ok (.ifCond .eq 7, 3) := by decide +kernel
theorem dL_law_668 : decode cL_law 668 = .ok (.iconst 1, 1) := by decide +kernel
theorem dL_law_669 : decode cL_law 669 = .ok (.goto 4, 3) := by decide +kernel
theorem dL_law_672 : decode cL_law 672 = .ok (.iconst 0, 1) := by decide +kernel
theorem dL_law_673 : decode cL_law 673 = .ok (.invokevirtual 100, 3) := by decide +kernel
theorem dL_law_676 : decode cL_law 676 = .ok (.aload_n 2, 1) := by decide +kernel
theorem dL_law_677 : decode cL_law 677 = .ok (.aload_n 0, 1) := by decide +kernel
theorem dL_law_678 : decode cL_law 678 = .ok (.iload_n 3, 1) := by decide +kernel
theorem dL_law_679 : decode cL_law 679 = .ok (.iconst 1, 1) := by decide +kernel
theorem dL_law_680 : decode cL_law 680 = .ok (.iadd, 1) := by decide +kernel
theorem dL_law_681 : decode cL_law 681 = .ok (.iaload, 1) := by decide +kernel
theorem dL_law_682 : decode cL_law 682 = .ok (.aload_n 0, 1) := by decide +kernel
theorem dL_law_683 : decode cL_law 683 = .ok (.iload_n 3, 1) := by decide +kernel
theorem dL_law_684 : decode cL_law 684 = .ok (.iconst 2, 1) := by decide +kernel
theorem dL_law_685 : decode cL_law 685 = .ok (.iadd, 1) := by decide +kernel
theorem dL_law_686 : decode cL_law 686 = .ok (.iaload, 1) := by decide +kernel
theorem dL_law_687 : decode cL_law 687 = .ok (.aload_n 0, 1) := by decide +kernel
theorem dL_law_688 : decode cL_law 688 = .ok (.iload_n 3, 1) := by decide +kernel
theorem dL_law_689 : decode cL_law 689 = .ok (.iconst 3, 1) := by decide +kernel
theorem dL_law_690 : decode cL_law 690 = .ok (.iadd, 1) := by decide +kernel
theorem dL_law_691 : decode cL_law 691 = .ok (.iaload, 1) := by decide +kernel
theorem dL_law_692 : decode cL_law 692 = .ok (.ifCond .eq 7, 3) := by decide +kernel
theorem dL_law_695 : decode cL_law 695 = .ok (.iconst 1, 1) := by decide +kernel
theorem dL_law_696 : decode cL_law 696 = .ok (.goto 4, 3) := by decide +kernel
theorem dL_law_699 : decode cL_law 699 = .ok (.iconst 0, 1) := by decide +kernel
theorem dL_law_700 : decode cL_law 700 = .ok (.invokevirtual 104, 3) := by decide +kernel
theorem dL_law_703 : decode cL_law 703 = .ok (.if_icmp .eq 302, 3) := by decide +kernel
theorem dL_law_706 : decode cL_law 706 = .ok (.iconst 0, 1) := by decide +kernel
theorem dL_law_707 : decode cL_law 707 = .ok (.ireturn, 1) := by decide +kernel
theorem dL_law_708 : decode cL_law 708 = .ok (.aload_n 1, 1) := by decide +kernel
theorem dL_law_709 : decode cL_law 709 = .ok (.invokevirtual 105, 3) := by decide +kernel
theorem dL_law_712 : decode cL_law 712 = .ok (.aload_n 2, 1) := by decide +kernel
theorem dL_law_713 : decode cL_law 713 = .ok (.invokevirtual 108, 3) := by decide +kernel
theorem dL_law_716 : decode cL_law 716 = .ok (.if_icmp .eq 289, 3) := by decide +kernel
theorem dL_law_719 : decode cL_law 719 = .ok (.iconst 0, 1) := by decide +kernel
theorem dL_law_720 : decode cL_law 720 = .ok (.ireturn, 1) := by decide +kernel
theorem dL_law_721 : decode cL_law 721 = .ok (.aload_n 1, 1) := by decide +kernel
theorem dL_law_722 : decode cL_law 722 = .ok (.aload_n 0, 1) := by decide +kernel
theorem dL_law_723 : decode cL_law 723 = .ok (.iload_n 3, 1) := by decide +kernel
theorem dL_law_724 : decode cL_law 724 = .ok (.iconst 1, 1) := by decide +kernel
theorem dL_law_725 : decode cL_law 725 = .ok (.iadd, 1) := by decide +kernel
theorem dL_law_726 : decode cL_law 726 = .ok (.iaload, 1) := by decide +kernel
theorem dL_law_727 : decode cL_law 727 = .ok (.invokevirtual 109, 3) := by decide +kernel
theorem dL_law_730 : decode cL_law 730 = .ok (.aload_n 2, 1) := by decide +kernel
theorem dL_law_731 : decode cL_law 731 = .ok (.aload_n 0, 1) := by decide +kernel
theorem dL_law_732 : decode cL_law 732 = .ok (.iload_n 3, 1) := by decide +kernel
theorem dL_law_733 : decode cL_law 733 = .ok (.iconst 1, 1) := by decide +kernel
theorem dL_law_734 : decode cL_law 734 = .ok (.iadd, 1) := by decide +kernel
theorem dL_law_735 : decode cL_law 735 = .ok (.iaload, 1) := by decide +kernel
theorem dL_law_736 : decode cL_law 736 = .ok (.invokevirtual 112, 3) := by decide +kernel
theorem dL_law_739 : decode cL_law 739 = .ok (.if_icmp .eq 266, 3) := by decide +kernel
theorem dL_law_742 : decode cL_law 742 = .ok (.iconst 0, 1) := by decide +kernel
theorem dL_law_743 : decode cL_law 743 = .ok (.ireturn, 1) := by decide +kernel
theorem dL_law_744 : decode cL_law 744 = .ok (.aload_n 1, 1) := by decide +kernel
theorem dL_law_745 : decode cL_law 745 = .ok (.invokevirtual 113, 3) := by decide +kernel
theorem dL_law_748 : decode cL_law 748 = .ok (.aload_n 2, 1) := by decide +kernel
theorem dL_law_749 : decode cL_law 749 = .ok (.invokevirtual 116, 3) := by decide +kernel
theorem dL_law_752 : decode cL_law 752 = .ok (.if_icmp .eq 253, 3) := by decide +kernel
theorem dL_law_755 : decode cL_law 755 = .ok (.iconst 0, 1) := by decide +kernel
theorem dL_law_756 : decode cL_law 756 = .ok (.ireturn, 1) := by decide +kernel
theorem dL_law_757 : decode cL_law 757 = .ok (.aload_n 1, 1) := by decide +kernel
theorem dL_law_758 : decode cL_law 758 = .ok (.aload_n 0, 1) := by decide +kernel
theorem dL_law_759 : decode cL_law 759 = .ok (.iload_n 3, 1) := by decide +kernel
theorem dL_law_760 : decode cL_law 760 = .ok (.iconst 1, 1) := by decide +kernel
theorem dL_law_761 : decode cL_law 761 = .ok (.iadd, 1) := by decide +kernel
theorem dL_law_762 : decode cL_law 762 = .ok (.iaload, 1) := by decide +kernel
theorem dL_law_763 : decode cL_law 763 = .ok (.aload_n 0, 1) := by decide +kernel
theorem dL_law_764 : decode cL_law 764 = .ok (.iload_n 3, 1) := by decide +kernel
theorem dL_law_765 : decode cL_law 765 = .ok (.iconst 2, 1) := by decide +kernel
theorem dL_law_766 : decode cL_law 766 = .ok (.iadd, 1) := by decide +kernel
theorem dL_law_767 : decode cL_law 767 = .ok (.iaload, 1) := by decide +kernel
theorem dL_law_768 : decode cL_law 768 = .ok (.invokevirtual 117, 3) := by decide +kernel
theorem dL_law_771 : decode cL_law 771 = .ok (.aload_n 2, 1) := by decide +kernel
theorem dL_law_772 : decode cL_law 772 = .ok (.aload_n 0, 1) := by decide +kernel
theorem dL_law_773 : decode cL_law 773 = .ok (.iload_n 3, 1) := by decide +kernel
theorem dL_law_774 : decode cL_law 774 = .ok (.iconst 1, 1) := by decide +kernel
theorem dL_law_775 : decode cL_law 775 = .ok (.iadd, 1) := by decide +kernel
theorem dL_law_776 : decode cL_law 776 = .ok (.iaload, 1) := by decide +kernel
theorem dL_law_777 : decode cL_law 777 = .ok (.aload_n 0, 1) := by decide +kernel
theorem dL_law_778 : decode cL_law 778 = .ok (.iload_n 3, 1) := by decide +kernel
theorem dL_law_779 : decode cL_law 779 = .ok (.iconst 2, 1) := by decide +kernel
theorem dL_law_780 : decode cL_law 780 = .ok (.iadd, 1) := by decide +kernel
theorem dL_law_781 : decode cL_law 781 = .ok (.iaload, 1) := by decide +kernel
theorem dL_law_782 : decode cL_law 782 = .ok (.invokevirtual 120, 3) := by decide +kernel
theorem dL_law_785 : decode cL_law 785 = .ok (.if_icmp .eq 220, 3) := by decide +kernel
theorem dL_law_788 : decode cL_law 788 = .ok (.iconst 0, 1) := by decide +kernel
theorem dL_law_789 : decode cL_law 789 = .ok (.ireturn, 1) := by decide +kernel
theorem dL_law_790 : decode cL_law 790 = .ok (.aload_n 1, 1) := by decide +kernel
theorem dL_law_791 : decode cL_law 791 = .ok (.aload_n 0, 1) := by decide +kernel
theorem dL_law_792 : decode cL_law 792 = .ok (.iload_n 3, 1) := by decide +kernel
theorem dL_law_793 : decode cL_law 793 = .ok (.iconst 1, 1) := by decide +kernel
theorem dL_law_794 : decode cL_law 794 = .ok (.iadd, 1) := by decide +kernel
theorem dL_law_795 : decode cL_law 795 = .ok (.iaload, 1) := by decide +kernel
theorem dL_law_796 : decode cL_law 796 = .ok (.aload_n 0, 1) := by decide +kernel
theorem dL_law_797 : decode cL_law 797 = .ok (.iload_n 3, 1) := by decide +kernel
theorem dL_law_798 : decode cL_law 798 = .ok (.iconst 2, 1) := by decide +kernel
theorem dL_law_799 : decode cL_law 799 = .ok (.iadd, 1) := by decide +kernel
theorem dL_law_800 : decode cL_law 800 = .ok (.iaload, 1) := by decide +kernel
theorem dL_law_801 : decode cL_law 801 = .ok (.aload_n 0, 1) := by decide +kernel
theorem dL_law_802 : decode cL_law 802 = .ok (.iload_n 3, 1) := by decide +kernel
theorem dL_law_803 : decode cL_law 803 = .ok (.iconst 3, 1) := by decide +kernel
theorem dL_law_804 : decode cL_law 804 = .ok (.iadd, 1) := by decide +kernel
theorem dL_law_805 : decode cL_law 805 = .ok (.iaload, 1) := by decide +kernel
theorem dL_law_806 : decode cL_law 806 = .ok (.ifCond .eq 7, 3) := by decide +kernel
theorem dL_law_809 : decode cL_law 809 = .ok (.iconst 1, 1) := by decide +kernel
theorem dL_law_810 : decode cL_law 810 = .ok (.goto 4, 3) := by decide +kernel
theorem dL_law_813 : decode cL_law 813 = .ok (.iconst 0, 1) := by decide +kernel
theorem dL_law_814 : decode cL_law 814 = .ok (.invokevirtual 121, 3) := by decide +kernel
theorem dL_law_817 : decode cL_law 817 = .ok (.aload_n 2, 1) := by decide +kernel
theorem dL_law_818 : decode cL_law 818 = .ok (.aload_n 0, 1) := by decide +kernel
theorem dL_law_819 : decode cL_law 819 = .ok (.iload_n 3, 1) := by decide +kernel
theorem dL_law_820 : decode cL_law 820 = .ok (.iconst 1, 1) := by decide +kernel
theorem dL_law_821 : decode cL_law 821 = .ok (.iadd, 1) := by decide +kernel
theorem dL_law_822 : decode cL_law 822 = .ok (.iaload, 1) := by decide +kernel
theorem dL_law_823 : decode cL_law 823 = .ok (.aload_n 0, 1) := by decide +kernel
theorem dL_law_824 : decode cL_law 824 = .ok (.iload_n 3, 1) := by decide +kernel
theorem dL_law_825 : decode cL_law 825 = .ok (.iconst 2, 1) := by decide +kernel
theorem dL_law_826 : decode cL_law 826 = .ok (.iadd, 1) := by decide +kernel
theorem dL_law_827 : decode cL_law 827 = .ok (.iaload, 1) := by decide +kernel
theorem dL_law_828 : decode cL_law 828 = .ok (.aload_n 0, 1) := by decide +kernel
theorem dL_law_829 : decode cL_law 829 = .ok (.iload_n 3, 1) := by decide +kernel
theorem dL_law_830 : decode cL_law 830 = .ok (.iconst 3, 1) := by decide +kernel
theorem dL_law_831 : decode cL_law 831 = .ok (.iadd, 1) := by decide +kernel
theorem dL_law_832 : decode cL_law 832 = .ok (.iaload, 1) := by decide +kernel
theorem dL_law_833 : decode cL_law 833 = .ok (.ifCond .eq 7, 3) := by decide +kernel
theorem dL_law_836 : decode cL_law 836 = .ok (.iconst 1, 1) := by decide +kernel
theorem dL_law_837 : decode cL_law 837 = .ok (.goto 4, 3) := by decide +kernel
theorem dL_law_840 : decode cL_law 840 = .ok (.iconst 0, 1) := by decide +kernel
theorem dL_law_841 : decode cL_law 841 = .ok (.invokevirtual 124, 3) := by decide +kernel
theorem dL_law_844 : decode cL_law 844 = .ok (.if_icmp .eq 161, 3) := by decide +kernel
theorem dL_law_847 : decode cL_law 847 = .ok (.iconst 0, 1) := by decide +kernel
theorem dL_law_848 : decode cL_law 848 = .ok (.ireturn, 1) := by decide +kernel
theorem dL_law_849 : decode cL_law 849 = .ok (.aload_n 1, 1) := by decide +kernel
theorem dL_law_850 : decode cL_law 850 = .ok (.aload_n 0, 1) := by decide +kernel
theorem dL_law_851 : decode cL_law 851 = .ok (.iload_n 3, 1) := by decide +kernel
theorem dL_law_852 : decode cL_law 852 = .ok (.iconst 1, 1) := by decide +kernel
theorem dL_law_853 : decode cL_law 853 = .ok (.iadd, 1) := by decide +kernel
theorem dL_law_854 : decode cL_law 854 = .ok (.iaload, 1) := by decide +kernel
theorem dL_law_855 : decode cL_law 855 = .ok (.i2l, 1) := by decide +kernel
theorem dL_law_856 : decode cL_law 856 = .ok (.bipush 32, 2) := by decide +kernel
theorem dL_law_858 : decode cL_law 858 = .ok (.lshl, 1) := by decide +kernel
theorem dL_law_859 : decode cL_law 859 = .ok (.aload_n 0, 1) := by decide +kernel
theorem dL_law_860 : decode cL_law 860 = .ok (.iload_n 3, 1) := by decide +kernel
theorem dL_law_861 : decode cL_law 861 = .ok (.iconst 2, 1) := by decide +kernel
theorem dL_law_862 : decode cL_law 862 = .ok (.iadd, 1) := by decide +kernel
theorem dL_law_863 : decode cL_law 863 = .ok (.iaload, 1) := by decide +kernel
theorem dL_law_864 : decode cL_law 864 = .ok (.i2l, 1) := by decide +kernel
theorem dL_law_865 : decode cL_law 865 = .ok (.ldc2_w 125, 3) := by decide +kernel
theorem dL_law_868 : decode cL_law 868 = .ok (.land, 1) := by decide +kernel
theorem dL_law_869 : decode cL_law 869 = .ok (.lor, 1) := by decide +kernel
theorem dL_law_870 : decode cL_law 870 = .ok (.invokevirtual 127, 3) := by decide +kernel
theorem dL_law_873 : decode cL_law 873 = .ok (.aload_n 2, 1) := by decide +kernel
theorem dL_law_874 : decode cL_law 874 = .ok (.aload_n 0, 1) := by decide +kernel
theorem dL_law_875 : decode cL_law 875 = .ok (.iload_n 3, 1) := by decide +kernel
theorem dL_law_876 : decode cL_law 876 = .ok (.iconst 1, 1) := by decide +kernel
theorem dL_law_877 : decode cL_law 877 = .ok (.iadd, 1) := by decide +kernel
theorem dL_law_878 : decode cL_law 878 = .ok (.iaload, 1) := by decide +kernel
theorem dL_law_879 : decode cL_law 879 = .ok (.i2l, 1) := by decide +kernel
theorem dL_law_880 : decode cL_law 880 = .ok (.bipush 32, 2) := by decide +kernel
theorem dL_law_882 : decode cL_law 882 = .ok (.lshl, 1) := by decide +kernel
theorem dL_law_883 : decode cL_law 883 = .ok (.aload_n 0, 1) := by decide +kernel
theorem dL_law_884 : decode cL_law 884 = .ok (.iload_n 3, 1) := by decide +kernel
theorem dL_law_885 : decode cL_law 885 = .ok (.iconst 2, 1) := by decide +kernel
theorem dL_law_886 : decode cL_law 886 = .ok (.iadd, 1) := by decide +kernel
theorem dL_law_887 : decode cL_law 887 = .ok (.iaload, 1) := by decide +kernel
theorem dL_law_888 : decode cL_law 888 = .ok (.i2l, 1) := by decide +kernel
theorem dL_law_889 : decode cL_law 889 = .ok (.ldc2_w 125, 3) := by decide +kernel
theorem dL_law_892 : decode cL_law 892 = .ok (.land, 1) := by decide +kernel
theorem dL_law_893 : decode cL_law 893 = .ok (.lor, 1) := by decide +kernel
theorem dL_law_894 : decode cL_law 894 = .ok (.invokevirtual 131, 3) := by decide +kernel
theorem dL_law_897 : decode cL_law 897 = .ok (.lcmp, 1) := by decide +kernel
theorem dL_law_898 : decode cL_law 898 = .ok (.ifCond .eq 107, 3) := by decide +kernel
theorem dL_law_901 : decode cL_law 901 = .ok (.iconst 0, 1) := by decide +kernel
theorem dL_law_902 : decode cL_law 902 = .ok (.ireturn, 1) := by decide +kernel
theorem dL_law_903 : decode cL_law 903 = .ok (.aload_n 1, 1) := by decide +kernel
theorem dL_law_904 : decode cL_law 904 = .ok (.aload_n 0, 1) := by decide +kernel
theorem dL_law_905 : decode cL_law 905 = .ok (.iload_n 3, 1) := by decide +kernel
theorem dL_law_906 : decode cL_law 906 = .ok (.iconst 1, 1) := by decide +kernel
theorem dL_law_907 : decode cL_law 907 = .ok (.iadd, 1) := by decide +kernel
theorem dL_law_908 : decode cL_law 908 = .ok (.iaload, 1) := by decide +kernel
theorem dL_law_909 : decode cL_law 909 = .ok (.aload_n 0, 1) := by decide +kernel
theorem dL_law_910 : decode cL_law 910 = .ok (.iload_n 3, 1) := by decide +kernel
theorem dL_law_911 : decode cL_law 911 = .ok (.iconst 2, 1) := by decide +kernel
theorem dL_law_912 : decode cL_law 912 = .ok (.iadd, 1) := by decide +kernel
theorem dL_law_913 : decode cL_law 913 = .ok (.iaload, 1) := by decide +kernel
theorem dL_law_914 : decode cL_law 914 = .ok (.invokevirtual 132, 3) := by decide +kernel
theorem dL_law_917 : decode cL_law 917 = .ok (.aload_n 2, 1) := by decide +kernel
theorem dL_law_918 : decode cL_law 918 = .ok (.aload_n 0, 1) := by decide +kernel
theorem dL_law_919 : decode cL_law 919 = .ok (.iload_n 3, 1) := by decide +kernel
theorem dL_law_920 : decode cL_law 920 = .ok (.iconst 1, 1) := by decide +kernel
theorem dL_law_921 : decode cL_law 921 = .ok (.iadd, 1) := by decide +kernel
theorem dL_law_922 : decode cL_law 922 = .ok (.iaload, 1) := by decide +kernel
theorem dL_law_923 : decode cL_law 923 = .ok (.aload_n 0, 1) := by decide +kernel
theorem dL_law_924 : decode cL_law 924 = .ok (.iload_n 3, 1) := by decide +kernel
theorem dL_law_925 : decode cL_law 925 = .ok (.iconst 2, 1) := by decide +kernel
theorem dL_law_926 : decode cL_law 926 = .ok (.iadd, 1) := by decide +kernel
theorem dL_law_927 : decode cL_law 927 = .ok (.iaload, 1) := by decide +kernel
theorem dL_law_928 : decode cL_law 928 = .ok (.invokevirtual 135, 3) := by decide +kernel
theorem dL_law_931 : decode cL_law 931 = .ok (.if_icmp .eq 74, 3) := by decide +kernel
theorem dL_law_934 : decode cL_law 934 = .ok (.iconst 0, 1) := by decide +kernel
theorem dL_law_935 : decode cL_law 935 = .ok (.ireturn, 1) := by decide +kernel
theorem dL_law_936 : decode cL_law 936 = .ok (.aload_n 1, 1) := by decide +kernel
theorem dL_law_937 : decode cL_law 937 = .ok (.aload_n 0, 1) := by decide +kernel
theorem dL_law_938 : decode cL_law 938 = .ok (.iload_n 3, 1) := by decide +kernel
theorem dL_law_939 : decode cL_law 939 = .ok (.iconst 1, 1) := by decide +kernel
theorem dL_law_940 : decode cL_law 940 = .ok (.iadd, 1) := by decide +kernel
theorem dL_law_941 : decode cL_law 941 = .ok (.iaload, 1) := by decide +kernel
theorem dL_law_942 : decode cL_law 942 = .ok (.invokevirtual 136, 3) := by decide +kernel
theorem dL_law_945 : decode cL_law 945 = .ok (.aload_n 2, 1) := by decide +kernel
theorem dL_law_946 : decode cL_law 946 = .ok (.aload_n 0, 1) := by decide +kernel
theorem dL_law_947 : decode cL_law 947 = .ok (.iload_n 3, 1) := by decide +kernel
theorem dL_law_948 : decode cL_law 948 = .ok (.iconst 1, 1) := by decide +kernel
theorem dL_law_949 : decode cL_law 949 = .ok (.iadd, 1) := by decide +kernel
theorem dL_law_950 : decode cL_law 950 = .ok (.iaload, 1) := by decide +kernel
theorem dL_law_951 : decode cL_law 951 = .ok (.invokevirtual 139, 3) := by decide +kernel
theorem dL_law_954 : decode cL_law 954 = .ok (.if_icmp .eq 51, 3) := by decide +kernel
theorem dL_law_957 : decode cL_law 957 = .ok (.iconst 0, 1) := by decide +kernel
theorem dL_law_958 : decode cL_law 958 = .ok (.ireturn, 1) := by decide +kernel
theorem dL_law_959 : decode cL_law 959 = .ok (.aload_n 1, 1) := by decide +kernel
theorem dL_law_960 : decode cL_law 960 = .ok (.aload_n 0, 1) := by decide +kernel
theorem dL_law_961 : decode cL_law 961 = .ok (.iload_n 3, 1) := by decide +kernel
theorem dL_law_962 : decode cL_law 962 = .ok (.iconst 1, 1) := by decide +kernel
theorem dL_law_963 : decode cL_law 963 = .ok (.iadd, 1) := by decide +kernel
theorem dL_law_964 : decode cL_law 964 = .ok (.iaload, 1) := by decide +kernel
theorem dL_law_965 : decode cL_law 965 = .ok (.invokevirtual 140, 3) := by decide +kernel
theorem dL_law_968 : decode cL_law 968 = .ok (.aload_n 2, 1) := by decide +kernel
theorem dL_law_969 : decode cL_law 969 = .ok (.aload_n 0, 1) := by decide +kernel
theorem dL_law_970 : decode cL_law 970 = .ok (.iload_n 3, 1) := by decide +kernel
theorem dL_law_971 : decode cL_law 971 = .ok (.iconst 1, 1) := by decide +kernel
theorem dL_law_972 : decode cL_law 972 = .ok (.iadd, 1) := by decide +kernel
theorem dL_law_973 : decode cL_law 973 = .ok (.iaload, 1) := by decide +kernel
theorem dL_law_974 : decode cL_law 974 = .ok (.invokevirtual 143, 3) := by decide +kernel
theorem dL_law_977 : decode cL_law 977 = .ok (.if_icmp .eq 28, 3) := by decide +kernel
theorem dL_law_980 : decode cL_law 980 = .ok (.iconst 0, 1) := by decide +kernel
theorem dL_law_981 : decode cL_law 981 = .ok (.ireturn, 1) := by decide +kernel
theorem dL_law_982 : decode cL_law 982 = .ok (.aload_n 1, 1) := by decide +kernel
theorem dL_law_983 : decode cL_law 983 = .ok (.aload_n 0, 1) := by decide +kernel
theorem dL_law_984 : decode cL_law 984 = .ok (.iload_n 3, 1) := by decide +kernel
theorem dL_law_985 : decode cL_law 985 = .ok (.iconst 1, 1) := by decide +kernel
theorem dL_law_986 : decode cL_law 986 = .ok (.iadd, 1) := by decide +kernel
theorem dL_law_987 : decode cL_law 987 = .ok (.iaload, 1) := by decide +kernel
theorem dL_law_988 : decode cL_law 988 = .ok (.invokevirtual 144, 3) := by decide +kernel
theorem dL_law_991 : decode cL_law 991 = .ok (.aload_n 2, 1) := by decide +kernel
theorem dL_law_992 : decode cL_law 992 = .ok (.aload_n 0, 1) := by decide +kernel
theorem dL_law_993 : decode cL_law 993 = .ok (.iload_n 3, 1) := by decide +kernel
theorem dL_law_994 : decode cL_law 994 = .ok (.iconst 1, 1) := by decide +kernel
theorem dL_law_995 : decode cL_law 995 = .ok (.iadd, 1) := by decide +kernel
theorem dL_law_996 : decode cL_law 996 = .ok (.iaload, 1) := by decide +kernel
theorem dL_law_997 : decode cL_law 997 = .ok (.invokevirtual 147, 3) := by decide +kernel
theorem dL_law_1000 : decode cL_law 1000 = .ok (.if_icmp .eq 5, 3) := by decide +kernel
theorem dL_law_1003 : decode cL_law 1003 = .ok (.iconst 0, 1) := by decide +kernel
theorem dL_law_1004 : decode cL_law 1004 = .ok (.ireturn, 1) := by decide +kernel
theorem dL_law_1005 : decode cL_law 1005 = .ok (.iinc 3 4, 3) := by decide +kernel
theorem dL_law_1008 : decode cL_law 1008 = .ok (.goto (-990), 3) := by decide +kernel
theorem dL_law_1011 : decode cL_law 1011 = .ok (.iconst 1, 1) := by decide +kernel
theorem dL_law_1012 : decode cL_law 1012 = .ok (.ireturn, 1) := by decide +kernel
