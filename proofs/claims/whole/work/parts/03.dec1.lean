theorem dX7_init_0 : decode cX7_init 0 = .ok (.aload_n 0, 1) := by decide +kernel
theorem dX7_init_1 : decode cX7_init 1 = .ok (.invokespecial 1, 3) := by decide +kernel
theorem dX7_init_4 : decode cX7_init 4 = .ok (.aload_n 0, 1) := by decide +kernel
theorem dX7_init_5 : decode cX7_init 5 = .ok (.sipush 4324, 3) := by decide +kernel
theorem dX7_init_8 : decode cX7_init 8 = .ok (.newarray .int, 2) := by decide +kernel
theorem dX7_init_10 : decode cX7_init 10 = .ok (.putfield 9, 3) := by decide +kernel
theorem dX7_init_13 : decode cX7_init 13 = .ok (.aload_n 0, 1) := by decide +kernel
theorem dX7_init_14 : decode cX7_init 14 = .ok (.sipush 4324, 3) := by decide +kernel
theorem dX7_init_17 : decode cX7_init 17 = .ok (.newarray .int, 2) := by decide +kernel
theorem dX7_init_19 : decode cX7_init 19 = .ok (.putfield 13, 3) := by decide +kernel
theorem dX7_init_22 : decode cX7_init 22 = .ok (.aload_n 0, 1) := by decide +kernel
theorem dX7_init_23 : decode cX7_init 23 = .ok (.bipush 60, 2) := by decide +kernel
theorem dX7_init_25 : decode cX7_init 25 = .ok (.newarray .boolean, 2) := by decide +kernel
theorem dX7_init_27 : decode cX7_init 27 = .ok (.putfield 16, 3) := by decide +kernel
theorem dX7_init_30 : decode cX7_init 30 = .ok (.aload_n 0, 1) := by decide +kernel
theorem dX7_init_31 : decode cX7_init 31 = .ok (.bipush 12, 2) := by decide +kernel
theorem dX7_init_33 : decode cX7_init 33 = .ok (.newarray .int, 2) := by decide +kernel
theorem dX7_init_35 : decode cX7_init 35 = .ok (.putfield 20, 3) := by decide +kernel
theorem dX7_init_38 : decode cX7_init 38 = .ok (.return_, 1) := by decide +kernel
theorem dX7_finding_0 : decode cX7_finding 0 = .ok (.aload_n 0, 1) := by decide +kernel
theorem dX7_finding_1 : decode cX7_finding 1 = .ok (.dup, 1) := by decide +kernel
theorem dX7_finding_2 : decode cX7_finding 2 = .ok (.getfield 23, 3) := by decide +kernel
theorem dX7_finding_5 : decode cX7_finding 5 = .ok (.iconst 1, 1) := by decide +kernel
theorem dX7_finding_6 : decode cX7_finding 6 = .ok (.iadd, 1) := by decide +kernel
theorem dX7_finding_7 : decode cX7_finding 7 = .ok (.putfield 23, 3) := by decide +kernel
theorem dX7_finding_10 : decode cX7_finding 10 = .ok (.iload_n 1, 1) := by decide +kernel
theorem dX7_finding_11 : decode cX7_finding 11 = .ok (.ireturn, 1) := by decide +kernel
theorem dX7_in_0 : decode cX7_in 0 = .ok (.iload_n 0, 1) := by decide +kernel
theorem dX7_in_1 : decode cX7_in 1 = .ok (.iload_n 1, 1) := by decide +kernel
theorem dX7_in_2 : decode cX7_in 2 = .ok (.if_icmp .lt 12, 3) := by decide +kernel
theorem dX7_in_5 : decode cX7_in 5 = .ok (.iload_n 0, 1) := by decide +kernel
theorem dX7_in_6 : decode cX7_in 6 = .ok (.iload_n 2, 1) := by decide +kernel
theorem dX7_in_7 : decode cX7_in 7 = .ok (.if_icmp .gt 7, 3) := by decide +kernel
theorem dX7_in_10 : decode cX7_in 10 = .ok (.iconst 1, 1) := by decide +kernel
theorem dX7_in_11 : decode cX7_in 11 = .ok (.goto 4, 3) := by decide +kernel
theorem dX7_in_14 : decode cX7_in 14 = .ok (.iconst 0, 1) := by decide +kernel
theorem dX7_in_15 : decode cX7_in 15 = .ok (.ireturn, 1) := by decide +kernel
theorem dX7_isPoint_0 : decode cX7_isPoint 0 = .ok (.iload_n 1, 1) := by decide +kernel
theorem dX7_isPoint_1 : decode cX7_isPoint 1 = .ok (.iconst 0, 1) := by decide +kernel
theorem dX7_isPoint_2 : decode cX7_isPoint 2 = .ok (.aload_n 0, 1) := by decide +kernel
theorem dX7_isPoint_3 : decode cX7_isPoint 3 = .ok (.getfield 9, 3) := by decide +kernel
theorem dX7_isPoint_6 : decode cX7_isPoint 6 = .ok (.iconst 0, 1) := by decide +kernel
theorem dX7_isPoint_7 : decode cX7_isPoint 7 = .ok (.iaload, 1) := by decide +kernel
theorem dX7_isPoint_8 : decode cX7_isPoint 8 = .ok (.iconst 1, 1) := by decide +kernel
theorem dX7_isPoint_9 : decode cX7_isPoint 9 = .ok (.isub, 1) := by decide +kernel
theorem dX7_isPoint_10 : decode cX7_isPoint 10 = .ok (.invokestatic 27, 3) := by decide +kernel
theorem dX7_isPoint_13 : decode cX7_isPoint 13 = .ok (.ireturn, 1) := by decide +kernel
theorem dX7_isBelt_0 : decode cX7_isBelt 0 = .ok (.iload_n 1, 1) := by decide +kernel
theorem dX7_isBelt_1 : decode cX7_isBelt 1 = .ok (.iconst 0, 1) := by decide +kernel
theorem dX7_isBelt_2 : decode cX7_isBelt 2 = .ok (.aload_n 0, 1) := by decide +kernel
theorem dX7_isBelt_3 : decode cX7_isBelt 3 = .ok (.getfield 9, 3) := by decide +kernel
theorem dX7_isBelt_6 : decode cX7_isBelt 6 = .ok (.iconst 1, 1) := by decide +kernel
theorem dX7_isBelt_7 : decode cX7_isBelt 7 = .ok (.iaload, 1) := by decide +kernel
theorem dX7_isBelt_8 : decode cX7_isBelt 8 = .ok (.iconst 1, 1) := by decide +kernel
theorem dX7_isBelt_9 : decode cX7_isBelt 9 = .ok (.isub, 1) := by decide +kernel
theorem dX7_isBelt_10 : decode cX7_isBelt 10 = .ok (.invokestatic 27, 3) := by decide +kernel
theorem dX7_isBelt_13 : decode cX7_isBelt 13 = .ok (.ireturn, 1) := by decide +kernel
theorem dX7_isFlight_0 : decode cX7_isFlight 0 = .ok (.iload_n 1, 1) := by decide +kernel
theorem dX7_isFlight_1 : decode cX7_isFlight 1 = .ok (.iconst 0, 1) := by decide +kernel
theorem dX7_isFlight_2 : decode cX7_isFlight 2 = .ok (.aload_n 0, 1) := by decide +kernel
theorem dX7_isFlight_3 : decode cX7_isFlight 3 = .ok (.getfield 9, 3) := by decide +kernel
theorem dX7_isFlight_6 : decode cX7_isFlight 6 = .ok (.iconst 2, 1) := by decide +kernel
theorem dX7_isFlight_7 : decode cX7_isFlight 7 = .ok (.iaload, 1) := by decide +kernel
theorem dX7_isFlight_8 : decode cX7_isFlight 8 = .ok (.iconst 1, 1) := by decide +kernel
theorem dX7_isFlight_9 : decode cX7_isFlight 9 = .ok (.isub, 1) := by decide +kernel
theorem dX7_isFlight_10 : decode cX7_isFlight 10 = .ok (.invokestatic 27, 3) := by decide +kernel
theorem dX7_isFlight_13 : decode cX7_isFlight 13 = .ok (.ireturn, 1) := by decide +kernel
theorem dX7_isBag_0 : decode cX7_isBag 0 = .ok (.iload_n 1, 1) := by decide +kernel
theorem dX7_isBag_1 : decode cX7_isBag 1 = .ok (.iconst 0, 1) := by decide +kernel
theorem dX7_isBag_2 : decode cX7_isBag 2 = .ok (.aload_n 0, 1) := by decide +kernel
theorem dX7_isBag_3 : decode cX7_isBag 3 = .ok (.getfield 9, 3) := by decide +kernel
theorem dX7_isBag_6 : decode cX7_isBag 6 = .ok (.iconst 3, 1) := by decide +kernel
theorem dX7_isBag_7 : decode cX7_isBag 7 = .ok (.iaload, 1) := by decide +kernel
theorem dX7_isBag_8 : decode cX7_isBag 8 = .ok (.iconst 1, 1) := by decide +kernel
theorem dX7_isBag_9 : decode cX7_isBag 9 = .ok (.isub, 1) := by decide +kernel
theorem dX7_isBag_10 : decode cX7_isBag 10 = .ok (.invokestatic 27, 3) := by decide +kernel
theorem dX7_isBag_13 : decode cX7_isBag 13 = .ok (.ireturn, 1) := by decide +kernel
theorem dX7_kindOf_0 : decode cX7_kindOf 0 = .ok (.aload_n 0, 1) := by decide +kernel
theorem dX7_kindOf_1 : decode cX7_kindOf 1 = .ok (.getfield 9, 3) := by decide +kernel
theorem dX7_kindOf_4 : decode cX7_kindOf 4 = .ok (.bipush 8, 2) := by decide +kernel
theorem dX7_kindOf_6 : decode cX7_kindOf 6 = .ok (.iload_n 1, 1) := by decide +kernel
theorem dX7_kindOf_7 : decode cX7_kindOf 7 = .ok (.iadd, 1) := by decide +kernel
theorem dX7_kindOf_8 : decode cX7_kindOf 8 = .ok (.iaload, 1) := by decide +kernel
theorem dX7_kindOf_9 : decode cX7_kindOf 9 = .ok (.ireturn, 1) := by decide +kernel
theorem dX7_point_0 : decode cX7_point 0 = .ok (.iload_n 1, 1) := by decide +kernel
theorem dX7_point_1 : decode cX7_point 1 = .ok (.iconst 0, 1) := by decide +kernel
theorem dX7_point_2 : decode cX7_point 2 = .ok (.iconst 5, 1) := by decide +kernel
theorem dX7_point_3 : decode cX7_point 3 = .ok (.invokestatic 27, 3) := by decide +kernel
theorem dX7_point_6 : decode cX7_point 6 = .ok (.ifCond .eq 33, 3) := by decide +kernel
theorem dX7_point_9 : decode cX7_point 9 = .ok (.iload_n 1, 1) := by decide +kernel
theorem dX7_point_10 : decode cX7_point 10 = .ok (.iconst 2, 1) := by decide +kernel
theorem dX7_point_11 : decode cX7_point 11 = .ok (.if_icmp .ne 13, 3) := by decide +kernel
theorem dX7_point_14 : decode cX7_point 14 = .ok (.iload_n 2, 1) := by decide +kernel
theorem dX7_point_15 : decode cX7_point 15 = .ok (.iconst 1, 1) := by decide +kernel
theorem dX7_point_16 : decode cX7_point 16 = .ok (.bipush 9, 2) := by decide +kernel
theorem dX7_point_18 : decode cX7_point 18 = .ok (.invokestatic 27, 3) := by decide +kernel
theorem dX7_point_21 : decode cX7_point 21 = .ok (.ifCond .eq 18, 3) := by decide +kernel
theorem dX7_point_24 : decode cX7_point 24 = .ok (.iload_n 1, 1) := by decide +kernel
theorem dX7_point_25 : decode cX7_point 25 = .ok (.iconst 4, 1) := by decide +kernel
theorem dX7_point_26 : decode cX7_point 26 = .ok (.if_icmp .ne 19, 3) := by decide +kernel
theorem dX7_point_29 : decode cX7_point 29 = .ok (.iload_n 2, 1) := by decide +kernel
theorem dX7_point_30 : decode cX7_point 30 = .ok (.iconst 1, 1) := by decide +kernel
theorem dX7_point_31 : decode cX7_point 31 = .ok (.bipush 20, 2) := by decide +kernel
theorem dX7_point_33 : decode cX7_point 33 = .ok (.invokestatic 27, 3) := by decide +kernel
theorem dX7_point_36 : decode cX7_point 36 = .ok (.ifCond .ne 9, 3) := by decide +kernel
theorem dX7_point_39 : decode cX7_point 39 = .ok (.aload_n 0, 1) := by decide +kernel
theorem dX7_point_40 : decode cX7_point 40 = .ok (.iconst (-1), 1) := by decide +kernel
theorem dX7_point_41 : decode cX7_point 41 = .ok (.invokevirtual 31, 3) := by decide +kernel
theorem dX7_point_44 : decode cX7_point 44 = .ok (.ireturn, 1) := by decide +kernel
theorem dX7_point_45 : decode cX7_point 45 = .ok (.aload_n 0, 1) := by decide +kernel
theorem dX7_point_46 : decode cX7_point 46 = .ok (.getfield 9, 3) := by decide +kernel
theorem dX7_point_49 : decode cX7_point 49 = .ok (.iconst 0, 1) := by decide +kernel
theorem dX7_point_50 : decode cX7_point 50 = .ok (.iaload, 1) := by decide +kernel
theorem dX7_point_51 : decode cX7_point 51 = .ok (.istore_n 3, 1) := by decide +kernel
theorem dX7_point_52 : decode cX7_point 52 = .ok (.iload_n 3, 1) := by decide +kernel
theorem dX7_point_53 : decode cX7_point 53 = .ok (.bipush 12, 2) := by decide +kernel
theorem dX7_point_55 : decode cX7_point 55 = .ok (.if_icmp .ne 10, 3) := by decide +kernel
theorem dX7_point_58 : decode cX7_point 58 = .ok (.aload_n 0, 1) := by decide +kernel
theorem dX7_point_59 : decode cX7_point 59 = .ok (.bipush (-3), 2) := by decide +kernel
theorem dX7_point_61 : decode cX7_point 61 = .ok (.invokevirtual 31, 3) := by decide +kernel
theorem dX7_point_64 : decode cX7_point 64 = .ok (.ireturn, 1) := by decide +kernel
theorem dX7_point_65 : decode cX7_point 65 = .ok (.aload_n 0, 1) := by decide +kernel
theorem dX7_point_66 : decode cX7_point 66 = .ok (.getfield 9, 3) := by decide +kernel
theorem dX7_point_69 : decode cX7_point 69 = .ok (.bipush 8, 2) := by decide +kernel
theorem dX7_point_71 : decode cX7_point 71 = .ok (.iload_n 3, 1) := by decide +kernel
theorem dX7_point_72 : decode cX7_point 72 = .ok (.iadd, 1) := by decide +kernel
theorem dX7_point_73 : decode cX7_point 73 = .ok (.iload_n 1, 1) := by decide +kernel
theorem dX7_point_74 : decode cX7_point 74 = .ok (.iastore, 1) := by decide +kernel
theorem dX7_point_75 : decode cX7_point 75 = .ok (.aload_n 0, 1) := by decide +kernel
theorem dX7_point_76 : decode cX7_point 76 = .ok (.getfield 9, 3) := by decide +kernel
theorem dX7_point_79 : decode cX7_point 79 = .ok (.bipush 20, 2) := by decide +kernel
theorem dX7_point_81 : decode cX7_point 81 = .ok (.iload_n 3, 1) := by decide +kernel
theorem dX7_point_82 : decode cX7_point 82 = .ok (.iadd, 1) := by decide +kernel
theorem dX7_point_83 : decode cX7_point 83 = .ok (.iload_n 2, 1) := by decide +kernel
theorem dX7_point_84 : decode cX7_point 84 = .ok (.iastore, 1) := by decide +kernel
theorem dX7_point_85 : decode cX7_point 85 = .ok (.aload_n 0, 1) := by decide +kernel
theorem dX7_point_86 : decode cX7_point 86 = .ok (.getfield 9, 3) := by decide +kernel
theorem dX7_point_89 : decode cX7_point 89 = .ok (.bipush 32, 2) := by decide +kernel
theorem dX7_point_91 : decode cX7_point 91 = .ok (.iload_n 3, 1) := by decide +kernel
theorem dX7_point_92 : decode cX7_point 92 = .ok (.iadd, 1) := by decide +kernel
theorem dX7_point_93 : decode cX7_point 93 = .ok (.iconst 0, 1) := by decide +kernel
theorem dX7_point_94 : decode cX7_point 94 = .ok (.iastore, 1) := by decide +kernel
theorem dX7_point_95 : decode cX7_point 95 = .ok (.aload_n 0, 1) := by decide +kernel
theorem dX7_point_96 : decode cX7_point 96 = .ok (.getfield 9, 3) := by decide +kernel
theorem dX7_point_99 : decode cX7_point 99 = .ok (.bipush 44, 2) := by decide +kernel
theorem dX7_point_101 : decode cX7_point 101 = .ok (.iload_n 3, 1) := by decide +kernel
theorem dX7_point_102 : decode cX7_point 102 = .ok (.iadd, 1) := by decide +kernel
theorem dX7_point_103 : decode cX7_point 103 = .ok (.iconst 0, 1) := by decide +kernel
theorem dX7_point_104 : decode cX7_point 104 = .ok (.iastore, 1) := by decide +kernel
theorem dX7_point_105 : decode cX7_point 105 = .ok (.aload_n 0, 1) := by decide +kernel
theorem dX7_point_106 : decode cX7_point 106 = .ok (.getfield 9, 3) := by decide +kernel
theorem dX7_point_109 : decode cX7_point 109 = .ok (.bipush 56, 2) := by decide +kernel
theorem dX7_point_111 : decode cX7_point 111 = .ok (.iload_n 3, 1) := by decide +kernel
theorem dX7_point_112 : decode cX7_point 112 = .ok (.iadd, 1) := by decide +kernel
theorem dX7_point_113 : decode cX7_point 113 = .ok (.iconst 0, 1) := by decide +kernel
theorem dX7_point_114 : decode cX7_point 114 = .ok (.iastore, 1) := by decide +kernel
theorem dX7_point_115 : decode cX7_point 115 = .ok (.aload_n 0, 1) := by decide +kernel
theorem dX7_point_116 : decode cX7_point 116 = .ok (.getfield 9, 3) := by decide +kernel
theorem dX7_point_119 : decode cX7_point 119 = .ok (.iconst 0, 1) := by decide +kernel
theorem dX7_point_120 : decode cX7_point 120 = .ok (.dup2, 1) := by decide +kernel
theorem dX7_point_121 : decode cX7_point 121 = .ok (.iaload, 1) := by decide +kernel
theorem dX7_point_122 : decode cX7_point 122 = .ok (.iconst 1, 1) := by decide +kernel
theorem dX7_point_123 : decode cX7_point 123 = .ok (.iadd, 1) := by decide +kernel
theorem dX7_point_124 : decode cX7_point 124 = .ok (.iastore, 1) := by decide +kernel
theorem dX7_point_125 : decode cX7_point 125 = .ok (.iload_n 3, 1) := by decide +kernel
theorem dX7_point_126 : decode cX7_point 126 = .ok (.ireturn, 1) := by decide +kernel
theorem dX7_belt_0 : decode cX7_belt 0 = .ok (.aload_n 0, 1) := by decide +kernel
theorem dX7_belt_1 : decode cX7_belt 1 = .ok (.iload_n 1, 1) := by decide +kernel
theorem dX7_belt_2 : decode cX7_belt 2 = .ok (.invokevirtual 35, 3) := by decide +kernel
theorem dX7_belt_5 : decode cX7_belt 5 = .ok (.ifCond .eq 21, 3) := by decide +kernel
theorem dX7_belt_8 : decode cX7_belt 8 = .ok (.aload_n 0, 1) := by decide +kernel
theorem dX7_belt_9 : decode cX7_belt 9 = .ok (.iload_n 2, 1) := by decide +kernel
theorem dX7_belt_10 : decode cX7_belt 10 = .ok (.invokevirtual 35, 3) := by decide +kernel
theorem dX7_belt_13 : decode cX7_belt 13 = .ok (.ifCond .eq 13, 3) := by decide +kernel
theorem dX7_belt_16 : decode cX7_belt 16 = .ok (.iload_n 3, 1) := by decide +kernel
theorem dX7_belt_17 : decode cX7_belt 17 = .ok (.iconst 1, 1) := by decide +kernel
theorem dX7_belt_18 : decode cX7_belt 18 = .ok (.bipush 12, 2) := by decide +kernel
theorem dX7_belt_20 : decode cX7_belt 20 = .ok (.invokestatic 27, 3) := by decide +kernel
theorem dX7_belt_23 : decode cX7_belt 23 = .ok (.ifCond .ne 9, 3) := by decide +kernel
theorem dX7_belt_26 : decode cX7_belt 26 = .ok (.aload_n 0, 1) := by decide +kernel
theorem dX7_belt_27 : decode cX7_belt 27 = .ok (.iconst (-1), 1) := by decide +kernel
theorem dX7_belt_28 : decode cX7_belt 28 = .ok (.invokevirtual 31, 3) := by decide +kernel
theorem dX7_belt_31 : decode cX7_belt 31 = .ok (.ireturn, 1) := by decide +kernel
theorem dX7_belt_32 : decode cX7_belt 32 = .ok (.iload_n 1, 1) := by decide +kernel
theorem dX7_belt_33 : decode cX7_belt 33 = .ok (.iload_n 2, 1) := by decide +kernel
theorem dX7_belt_34 : decode cX7_belt 34 = .ok (.if_icmp .ne 10, 3) := by decide +kernel
theorem dX7_belt_37 : decode cX7_belt 37 = .ok (.aload_n 0, 1) := by decide +kernel
theorem dX7_belt_38 : decode cX7_belt 38 = .ok (.bipush (-5), 2) := by decide +kernel
theorem dX7_belt_40 : decode cX7_belt 40 = .ok (.invokevirtual 31, 3) := by decide +kernel
theorem dX7_belt_43 : decode cX7_belt 43 = .ok (.ireturn, 1) := by decide +kernel
theorem dX7_belt_44 : decode cX7_belt 44 = .ok (.aload_n 0, 1) := by decide +kernel
theorem dX7_belt_45 : decode cX7_belt 45 = .ok (.iload_n 1, 1) := by decide +kernel
theorem dX7_belt_46 : decode cX7_belt 46 = .ok (.invokevirtual 39, 3) := by decide +kernel
theorem dX7_belt_49 : decode cX7_belt 49 = .ok (.iconst 5, 1) := by decide +kernel
theorem dX7_belt_50 : decode cX7_belt 50 = .ok (.if_icmp .eq 11, 3) := by decide +kernel
theorem dX7_belt_53 : decode cX7_belt 53 = .ok (.aload_n 0, 1) := by decide +kernel
theorem dX7_belt_54 : decode cX7_belt 54 = .ok (.iload_n 2, 1) := by decide +kernel
theorem dX7_belt_55 : decode cX7_belt 55 = .ok (.invokevirtual 39, 3) := by decide +kernel
theorem dX7_belt_58 : decode cX7_belt 58 = .ok (.ifCond .ne 10, 3) := by decide +kernel
theorem dX7_belt_61 : decode cX7_belt 61 = .ok (.aload_n 0, 1) := by decide +kernel
theorem dX7_belt_62 : decode cX7_belt 62 = .ok (.bipush (-4), 2) := by decide +kernel
theorem dX7_belt_64 : decode cX7_belt 64 = .ok (.invokevirtual 31, 3) := by decide +kernel
theorem dX7_belt_67 : decode cX7_belt 67 = .ok (.ireturn, 1) := by decide +kernel
theorem dX7_belt_68 : decode cX7_belt 68 = .ok (.aload_n 0, 1) := by decide +kernel
theorem dX7_belt_69 : decode cX7_belt 69 = .ok (.getfield 9, 3) := by decide +kernel
theorem dX7_belt_72 : decode cX7_belt 72 = .ok (.iconst 1, 1) := by decide +kernel
theorem dX7_belt_73 : decode cX7_belt 73 = .ok (.iaload, 1) := by decide +kernel
theorem dX7_belt_74 : decode cX7_belt 74 = .ok (.istore 4, 2) := by decide +kernel
theorem dX7_belt_76 : decode cX7_belt 76 = .ok (.iload 4, 2) := by decide +kernel
theorem dX7_belt_78 : decode cX7_belt 78 = .ok (.bipush 16, 2) := by decide +kernel
theorem dX7_belt_80 : decode cX7_belt 80 = .ok (.if_icmp .ne 10, 3) := by decide +kernel
theorem dX7_belt_83 : decode cX7_belt 83 = .ok (.aload_n 0, 1) := by decide +kernel
theorem dX7_belt_84 : decode cX7_belt 84 = .ok (.bipush (-3), 2) := by decide +kernel
theorem dX7_belt_86 : decode cX7_belt 86 = .ok (.invokevirtual 31, 3) := by decide +kernel
theorem dX7_belt_89 : decode cX7_belt 89 = .ok (.ireturn, 1) := by decide +kernel
theorem dX7_belt_90 : decode cX7_belt 90 = .ok (.aload_n 0, 1) := by decide +kernel
theorem dX7_belt_91 : decode cX7_belt 91 = .ok (.getfield 9, 3) := by decide +kernel
theorem dX7_belt_94 : decode cX7_belt 94 = .ok (.bipush 68, 2) := by decide +kernel
theorem dX7_belt_96 : decode cX7_belt 96 = .ok (.iload 4, 2) := by decide +kernel
theorem dX7_belt_98 : decode cX7_belt 98 = .ok (.iadd, 1) := by decide +kernel
theorem dX7_belt_99 : decode cX7_belt 99 = .ok (.iload_n 1, 1) := by decide +kernel
theorem dX7_belt_100 : decode cX7_belt 100 = .ok (.iastore, 1) := by decide +kernel
theorem dX7_belt_101 : decode cX7_belt 101 = .ok (.aload_n 0, 1) := by decide +kernel
theorem dX7_belt_102 : decode cX7_belt 102 = .ok (.getfield 9, 3) := by decide +kernel
theorem dX7_belt_105 : decode cX7_belt 105 = .ok (.bipush 84, 2) := by decide +kernel
theorem dX7_belt_107 : decode cX7_belt 107 = .ok (.iload 4, 2) := by decide +kernel
theorem dX7_belt_109 : decode cX7_belt 109 = .ok (.iadd, 1) := by decide +kernel
theorem dX7_belt_110 : decode cX7_belt 110 = .ok (.iload_n 2, 1) := by decide +kernel
theorem dX7_belt_111 : decode cX7_belt 111 = .ok (.iastore, 1) := by decide +kernel
theorem dX7_belt_112 : decode cX7_belt 112 = .ok (.aload_n 0, 1) := by decide +kernel
theorem dX7_belt_113 : decode cX7_belt 113 = .ok (.getfield 9, 3) := by decide +kernel
theorem dX7_belt_116 : decode cX7_belt 116 = .ok (.bipush 100, 2) := by decide +kernel
theorem dX7_belt_118 : decode cX7_belt 118 = .ok (.iload 4, 2) := by decide +kernel
theorem dX7_belt_120 : decode cX7_belt 120 = .ok (.iadd, 1) := by decide +kernel
theorem dX7_belt_121 : decode cX7_belt 121 = .ok (.iload_n 3, 1) := by decide +kernel
theorem dX7_belt_122 : decode cX7_belt 122 = .ok (.iastore, 1) := by decide +kernel
theorem dX7_belt_123 : decode cX7_belt 123 = .ok (.aload_n 0, 1) := by decide +kernel
theorem dX7_belt_124 : decode cX7_belt 124 = .ok (.getfield 9, 3) := by decide +kernel
theorem dX7_belt_127 : decode cX7_belt 127 = .ok (.bipush 116, 2) := by decide +kernel
theorem dX7_belt_129 : decode cX7_belt 129 = .ok (.iload 4, 2) := by decide +kernel
theorem dX7_belt_131 : decode cX7_belt 131 = .ok (.iadd, 1) := by decide +kernel
theorem dX7_belt_132 : decode cX7_belt 132 = .ok (.iconst 0, 1) := by decide +kernel
theorem dX7_belt_133 : decode cX7_belt 133 = .ok (.iastore, 1) := by decide +kernel
theorem dX7_belt_134 : decode cX7_belt 134 = .ok (.aload_n 0, 1) := by decide +kernel
theorem dX7_belt_135 : decode cX7_belt 135 = .ok (.getfield 9, 3) := by decide +kernel
theorem dX7_belt_138 : decode cX7_belt 138 = .ok (.sipush 132, 3) := by decide +kernel
theorem dX7_belt_141 : decode cX7_belt 141 = .ok (.iload 4, 2) := by decide +kernel
theorem dX7_belt_143 : decode cX7_belt 143 = .ok (.iadd, 1) := by decide +kernel
theorem dX7_belt_144 : decode cX7_belt 144 = .ok (.iconst 1, 1) := by decide +kernel
theorem dX7_belt_145 : decode cX7_belt 145 = .ok (.iastore, 1) := by decide +kernel
theorem dX7_belt_146 : decode cX7_belt 146 = .ok (.iconst 0, 1) := by decide +kernel
theorem dX7_belt_147 : decode cX7_belt 147 = .ok (.istore 5, 2) := by decide +kernel
theorem dX7_belt_149 : decode cX7_belt 149 = .ok (.iload 5, 2) := by decide +kernel
theorem dX7_belt_151 : decode cX7_belt 151 = .ok (.bipush 12, 2) := by decide +kernel
theorem dX7_belt_153 : decode cX7_belt 153 = .ok (.if_icmp .ge 27, 3) := by decide +kernel
theorem dX7_belt_156 : decode cX7_belt 156 = .ok (.aload_n 0, 1) := by decide +kernel
theorem dX7_belt_157 : decode cX7_belt 157 = .ok (.getfield 9, 3) := by decide +kernel
theorem dX7_belt_160 : decode cX7_belt 160 = .ok (.sipush 148, 3) := by decide +kernel
theorem dX7_belt_163 : decode cX7_belt 163 = .ok (.bipush 12, 2) := by decide +kernel
theorem dX7_belt_165 : decode cX7_belt 165 = .ok (.iload 4, 2) := by decide +kernel
theorem dX7_belt_167 : decode cX7_belt 167 = .ok (.imul, 1) := by decide +kernel
theorem dX7_belt_168 : decode cX7_belt 168 = .ok (.iadd, 1) := by decide +kernel
theorem dX7_belt_169 : decode cX7_belt 169 = .ok (.iload 5, 2) := by decide +kernel
theorem dX7_belt_171 : decode cX7_belt 171 = .ok (.iadd, 1) := by decide +kernel
theorem dX7_belt_172 : decode cX7_belt 172 = .ok (.iconst 0, 1) := by decide +kernel
theorem dX7_belt_173 : decode cX7_belt 173 = .ok (.iastore, 1) := by decide +kernel
theorem dX7_belt_174 : decode cX7_belt 174 = .ok (.iinc 5 1, 3) := by decide +kernel
theorem dX7_belt_177 : decode cX7_belt 177 = .ok (.goto (-28), 3) := by decide +kernel
theorem dX7_belt_180 : decode cX7_belt 180 = .ok (.aload_n 0, 1) := by decide +kernel
theorem dX7_belt_181 : decode cX7_belt 181 = .ok (.iload_n 2, 1) := by decide +kernel
theorem dX7_belt_182 : decode cX7_belt 182 = .ok (.invokevirtual 39, 3) := by decide +kernel
theorem dX7_belt_185 : decode cX7_belt 185 = .ok (.iconst 1, 1) := by decide +kernel
theorem dX7_belt_186 : decode cX7_belt 186 = .ok (.if_icmp .ne 38, 3) := by decide +kernel
theorem dX7_belt_189 : decode cX7_belt 189 = .ok (.aload_n 0, 1) := by decide +kernel
theorem dX7_belt_190 : decode cX7_belt 190 = .ok (.getfield 9, 3) := by decide +kernel
theorem dX7_belt_193 : decode cX7_belt 193 = .ok (.bipush 44, 2) := by decide +kernel
theorem dX7_belt_195 : decode cX7_belt 195 = .ok (.iload_n 2, 1) := by decide +kernel
theorem dX7_belt_196 : decode cX7_belt 196 = .ok (.iadd, 1) := by decide +kernel
theorem dX7_belt_197 : decode cX7_belt 197 = .ok (.iaload, 1) := by decide +kernel
theorem dX7_belt_198 : decode cX7_belt 198 = .ok (.ifCond .ne 26, 3) := by decide +kernel
theorem dX7_belt_201 : decode cX7_belt 201 = .ok (.aload_n 0, 1) := by decide +kernel
theorem dX7_belt_202 : decode cX7_belt 202 = .ok (.getfield 9, 3) := by decide +kernel
theorem dX7_belt_205 : decode cX7_belt 205 = .ok (.bipush 44, 2) := by decide +kernel
theorem dX7_belt_207 : decode cX7_belt 207 = .ok (.iload_n 2, 1) := by decide +kernel
theorem dX7_belt_208 : decode cX7_belt 208 = .ok (.iadd, 1) := by decide +kernel
theorem dX7_belt_209 : decode cX7_belt 209 = .ok (.iload 4, 2) := by decide +kernel
theorem dX7_belt_211 : decode cX7_belt 211 = .ok (.iconst 1, 1) := by decide +kernel
theorem dX7_belt_212 : decode cX7_belt 212 = .ok (.iadd, 1) := by decide +kernel
theorem dX7_belt_213 : decode cX7_belt 213 = .ok (.iastore, 1) := by decide +kernel
theorem dX7_belt_214 : decode cX7_belt 214 = .ok (.aload_n 0, 1) := by decide +kernel
theorem dX7_belt_215 : decode cX7_belt 215 = .ok (.getfield 9, 3) := by decide +kernel
theorem dX7_belt_218 : decode cX7_belt 218 = .ok (.bipush 56, 2) := by decide +kernel
theorem dX7_belt_220 : decode cX7_belt 220 = .ok (.iload_n 2, 1) := by decide +kernel
theorem dX7_belt_221 : decode cX7_belt 221 = .ok (.iadd, 1) := by decide +kernel
theorem dX7_belt_222 : decode cX7_belt 222 = .ok (.iconst 1, 1) := by decide +kernel
theorem dX7_belt_223 : decode cX7_belt 223 = .ok (.iastore, 1) := by decide +kernel
theorem dX7_belt_224 : decode cX7_belt 224 = .ok (.aload_n 0, 1) := by decide +kernel
theorem dX7_belt_225 : decode cX7_belt 225 = .ok (.getfield 9, 3) := by decide +kernel
theorem dX7_belt_228 : decode cX7_belt 228 = .ok (.iconst 1, 1) := by decide +kernel
theorem dX7_belt_229 : decode cX7_belt 229 = .ok (.dup2, 1) := by decide +kernel
theorem dX7_belt_230 : decode cX7_belt 230 = .ok (.iaload, 1) := by decide +kernel
theorem dX7_belt_231 : decode cX7_belt 231 = .ok (.iconst 1, 1) := by decide +kernel
theorem dX7_belt_232 : decode cX7_belt 232 = .ok (.iadd, 1) := by decide +kernel
theorem dX7_belt_233 : decode cX7_belt 233 = .ok (.iastore, 1) := by decide +kernel
theorem dX7_belt_234 : decode cX7_belt 234 = .ok (.iload 4, 2) := by decide +kernel
theorem dX7_belt_236 : decode cX7_belt 236 = .ok (.ireturn, 1) := by decide +kernel
theorem dX7_as_0 : decode cX7_as 0 = .ok (.aload_n 0, 1) := by decide +kernel
theorem dX7_as_1 : decode cX7_as 1 = .ok (.iload_n 1, 1) := by decide +kernel
theorem dX7_as_2 : decode cX7_as 2 = .ok (.invokevirtual 35, 3) := by decide +kernel
theorem dX7_as_5 : decode cX7_as 5 = .ok (.ifCond .eq 12, 3) := by decide +kernel
theorem dX7_as_8 : decode cX7_as 8 = .ok (.iload_n 2, 1) := by decide +kernel
theorem dX7_as_9 : decode cX7_as 9 = .ok (.iconst 0, 1) := by decide +kernel
theorem dX7_as_10 : decode cX7_as 10 = .ok (.iconst 5, 1) := by decide +kernel
theorem dX7_as_11 : decode cX7_as 11 = .ok (.invokestatic 27, 3) := by decide +kernel
theorem dX7_as_14 : decode cX7_as 14 = .ok (.ifCond .ne 9, 3) := by decide +kernel
theorem dX7_as_17 : decode cX7_as 17 = .ok (.aload_n 0, 1) := by decide +kernel
theorem dX7_as_18 : decode cX7_as 18 = .ok (.iconst (-1), 1) := by decide +kernel
theorem dX7_as_19 : decode cX7_as 19 = .ok (.invokevirtual 31, 3) := by decide +kernel
theorem dX7_as_22 : decode cX7_as 22 = .ok (.ireturn, 1) := by decide +kernel
theorem dX7_as_23 : decode cX7_as 23 = .ok (.aload_n 0, 1) := by decide +kernel
theorem dX7_as_24 : decode cX7_as 24 = .ok (.iload_n 1, 1) := by decide +kernel
theorem dX7_as_25 : decode cX7_as 25 = .ok (.invokevirtual 39, 3) := by decide +kernel
theorem dX7_as_28 : decode cX7_as 28 = .ok (.iload_n 2, 1) := by decide +kernel
theorem dX7_as_29 : decode cX7_as 29 = .ok (.if_icmp .ne 7, 3) := by decide +kernel
theorem dX7_as_32 : decode cX7_as 32 = .ok (.iload_n 1, 1) := by decide +kernel
theorem dX7_as_33 : decode cX7_as 33 = .ok (.goto 9, 3) := by decide +kernel
theorem dX7_as_36 : decode cX7_as 36 = .ok (.aload_n 0, 1) := by decide +kernel
theorem dX7_as_37 : decode cX7_as 37 = .ok (.bipush (-4), 2) := by decide +kernel
theorem dX7_as_39 : decode cX7_as 39 = .ok (.invokevirtual 31, 3) := by decide +kernel
theorem dX7_as_42 : decode cX7_as 42 = .ok (.ireturn, 1) := by decide +kernel
theorem dX7_turns_0 : decode cX7_turns 0 = .ok (.aload_n 0, 1) := by decide +kernel
theorem dX7_turns_1 : decode cX7_turns 1 = .ok (.iload_n 1, 1) := by decide +kernel
theorem dX7_turns_2 : decode cX7_turns 2 = .ok (.invokevirtual 42, 3) := by decide +kernel
theorem dX7_turns_5 : decode cX7_turns 5 = .ok (.ifCond .eq 13, 3) := by decide +kernel
theorem dX7_turns_8 : decode cX7_turns 8 = .ok (.iload_n 2, 1) := by decide +kernel
theorem dX7_turns_9 : decode cX7_turns 9 = .ok (.iconst 0, 1) := by decide +kernel
theorem dX7_turns_10 : decode cX7_turns 10 = .ok (.bipush 9, 2) := by decide +kernel
theorem dX7_turns_12 : decode cX7_turns 12 = .ok (.invokestatic 27, 3) := by decide +kernel
theorem dX7_turns_15 : decode cX7_turns 15 = .ok (.ifCond .ne 9, 3) := by decide +kernel
theorem dX7_turns_18 : decode cX7_turns 18 = .ok (.aload_n 0, 1) := by decide +kernel
theorem dX7_turns_19 : decode cX7_turns 19 = .ok (.iconst (-1), 1) := by decide +kernel
theorem dX7_turns_20 : decode cX7_turns 20 = .ok (.invokevirtual 31, 3) := by decide +kernel
theorem dX7_turns_23 : decode cX7_turns 23 = .ok (.ireturn, 1) := by decide +kernel
theorem dX7_turns_24 : decode cX7_turns 24 = .ok (.aload_n 0, 1) := by decide +kernel
theorem dX7_turns_25 : decode cX7_turns 25 = .ok (.getfield 9, 3) := by decide +kernel
theorem dX7_turns_28 : decode cX7_turns 28 = .ok (.bipush 84, 2) := by decide +kernel
theorem dX7_turns_30 : decode cX7_turns 30 = .ok (.iload_n 1, 1) := by decide +kernel
theorem dX7_turns_31 : decode cX7_turns 31 = .ok (.iadd, 1) := by decide +kernel
theorem dX7_turns_32 : decode cX7_turns 32 = .ok (.iaload, 1) := by decide +kernel
theorem dX7_turns_33 : decode cX7_turns 33 = .ok (.istore_n 3, 1) := by decide +kernel
theorem dX7_turns_34 : decode cX7_turns 34 = .ok (.aload_n 0, 1) := by decide +kernel
theorem dX7_turns_35 : decode cX7_turns 35 = .ok (.iload_n 3, 1) := by decide +kernel
theorem dX7_turns_36 : decode cX7_turns 36 = .ok (.invokevirtual 39, 3) := by decide +kernel
theorem dX7_turns_39 : decode cX7_turns 39 = .ok (.iconst 1, 1) := by decide +kernel
theorem dX7_turns_40 : decode cX7_turns 40 = .ok (.if_icmp .eq 10, 3) := by decide +kernel
theorem dX7_turns_43 : decode cX7_turns 43 = .ok (.aload_n 0, 1) := by decide +kernel
theorem dX7_turns_44 : decode cX7_turns 44 = .ok (.bipush (-4), 2) := by decide +kernel
theorem dX7_turns_46 : decode cX7_turns 46 = .ok (.invokevirtual 31, 3) := by decide +kernel
theorem dX7_turns_49 : decode cX7_turns 49 = .ok (.ireturn, 1) := by decide +kernel
theorem dX7_turns_50 : decode cX7_turns 50 = .ok (.aload_n 0, 1) := by decide +kernel
theorem dX7_turns_51 : decode cX7_turns 51 = .ok (.getfield 9, 3) := by decide +kernel
theorem dX7_turns_54 : decode cX7_turns 54 = .ok (.sipush 132, 3) := by decide +kernel
theorem dX7_turns_57 : decode cX7_turns 57 = .ok (.iload_n 1, 1) := by decide +kernel
theorem dX7_turns_58 : decode cX7_turns 58 = .ok (.iadd, 1) := by decide +kernel
theorem dX7_turns_59 : decode cX7_turns 59 = .ok (.iaload, 1) := by decide +kernel
theorem dX7_turns_60 : decode cX7_turns 60 = .ok (.istore 4, 2) := by decide +kernel
theorem dX7_turns_62 : decode cX7_turns 62 = .ok (.aload_n 0, 1) := by decide +kernel
theorem dX7_turns_63 : decode cX7_turns 63 = .ok (.getfield 9, 3) := by decide +kernel
theorem dX7_turns_66 : decode cX7_turns 66 = .ok (.sipush 132, 3) := by decide +kernel
theorem dX7_turns_69 : decode cX7_turns 69 = .ok (.iload_n 1, 1) := by decide +kernel
theorem dX7_turns_70 : decode cX7_turns 70 = .ok (.iadd, 1) := by decide +kernel
theorem dX7_turns_71 : decode cX7_turns 71 = .ok (.iload_n 2, 1) := by decide +kernel
theorem dX7_turns_72 : decode cX7_turns 72 = .ok (.iastore, 1) := by decide +kernel
theorem dX7_turns_73 : decode cX7_turns 73 = .ok (.aload_n 0, 1) := by decide +kernel
theorem dX7_turns_74 : decode cX7_turns 74 = .ok (.getfield 9, 3) := by decide +kernel
theorem dX7_turns_77 : decode cX7_turns 77 = .ok (.bipush 44, 2) := by decide +kernel
theorem dX7_turns_79 : decode cX7_turns 79 = .ok (.iload_n 3, 1) := by decide +kernel
theorem dX7_turns_80 : decode cX7_turns 80 = .ok (.iadd, 1) := by decide +kernel
theorem dX7_turns_81 : decode cX7_turns 81 = .ok (.iaload, 1) := by decide +kernel
theorem dX7_turns_82 : decode cX7_turns 82 = .ok (.iload_n 1, 1) := by decide +kernel
theorem dX7_turns_83 : decode cX7_turns 83 = .ok (.iconst 1, 1) := by decide +kernel
theorem dX7_turns_84 : decode cX7_turns 84 = .ok (.iadd, 1) := by decide +kernel
theorem dX7_turns_85 : decode cX7_turns 85 = .ok (.if_icmp .ne 26, 3) := by decide +kernel
theorem dX7_turns_88 : decode cX7_turns 88 = .ok (.aload_n 0, 1) := by decide +kernel
theorem dX7_turns_89 : decode cX7_turns 89 = .ok (.getfield 9, 3) := by decide +kernel
theorem dX7_turns_92 : decode cX7_turns 92 = .ok (.bipush 56, 2) := by decide +kernel
theorem dX7_turns_94 : decode cX7_turns 94 = .ok (.iload_n 3, 1) := by decide +kernel
theorem dX7_turns_95 : decode cX7_turns 95 = .ok (.iadd, 1) := by decide +kernel
theorem dX7_turns_96 : decode cX7_turns 96 = .ok (.iaload, 1) := by decide +kernel
theorem dX7_turns_97 : decode cX7_turns 97 = .ok (.iload_n 2, 1) := by decide +kernel
theorem dX7_turns_98 : decode cX7_turns 98 = .ok (.if_icmp .le 13, 3) := by decide +kernel
theorem dX7_turns_101 : decode cX7_turns 101 = .ok (.aload_n 0, 1) := by decide +kernel
theorem dX7_turns_102 : decode cX7_turns 102 = .ok (.getfield 9, 3) := by decide +kernel
theorem dX7_turns_105 : decode cX7_turns 105 = .ok (.bipush 56, 2) := by decide +kernel
theorem dX7_turns_107 : decode cX7_turns 107 = .ok (.iload_n 3, 1) := by decide +kernel
theorem dX7_turns_108 : decode cX7_turns 108 = .ok (.iadd, 1) := by decide +kernel
theorem dX7_turns_109 : decode cX7_turns 109 = .ok (.iload_n 2, 1) := by decide +kernel
theorem dX7_turns_110 : decode cX7_turns 110 = .ok (.iastore, 1) := by decide +kernel
theorem dX7_turns_111 : decode cX7_turns 111 = .ok (.iload 4, 2) := by decide +kernel
theorem dX7_turns_113 : decode cX7_turns 113 = .ok (.ireturn, 1) := by decide +kernel
theorem dX7_flight_0 : decode cX7_flight 0 = .ok (.aload_n 0, 1) := by decide +kernel
theorem dX7_flight_1 : decode cX7_flight 1 = .ok (.iload_n 1, 1) := by decide +kernel
theorem dX7_flight_2 : decode cX7_flight 2 = .ok (.invokevirtual 35, 3) := by decide +kernel
theorem dX7_flight_5 : decode cX7_flight 5 = .ok (.ifCond .eq 30, 3) := by decide +kernel
theorem dX7_flight_8 : decode cX7_flight 8 = .ok (.iload_n 2, 1) := by decide +kernel
theorem dX7_flight_9 : decode cX7_flight 9 = .ok (.iconst 0, 1) := by decide +kernel
theorem dX7_flight_10 : decode cX7_flight 10 = .ok (.sipush 5000, 3) := by decide +kernel
theorem dX7_flight_13 : decode cX7_flight 13 = .ok (.invokestatic 27, 3) := by decide +kernel
theorem dX7_flight_16 : decode cX7_flight 16 = .ok (.ifCond .eq 19, 3) := by decide +kernel
theorem dX7_flight_19 : decode cX7_flight 19 = .ok (.iload_n 3, 1) := by decide +kernel
theorem dX7_flight_20 : decode cX7_flight 20 = .ok (.iconst 0, 1) := by decide +kernel
theorem dX7_flight_21 : decode cX7_flight 21 = .ok (.sipush 5000, 3) := by decide +kernel
theorem dX7_flight_24 : decode cX7_flight 24 = .ok (.invokestatic 27, 3) := by decide +kernel
theorem dX7_flight_27 : decode cX7_flight 27 = .ok (.ifCond .eq 8, 3) := by decide +kernel
theorem dX7_flight_30 : decode cX7_flight 30 = .ok (.iload_n 2, 1) := by decide +kernel
theorem dX7_flight_31 : decode cX7_flight 31 = .ok (.iload_n 3, 1) := by decide +kernel
theorem dX7_flight_32 : decode cX7_flight 32 = .ok (.if_icmp .le 9, 3) := by decide +kernel
theorem dX7_flight_35 : decode cX7_flight 35 = .ok (.aload_n 0, 1) := by decide +kernel
theorem dX7_flight_36 : decode cX7_flight 36 = .ok (.iconst (-1), 1) := by decide +kernel
theorem dX7_flight_37 : decode cX7_flight 37 = .ok (.invokevirtual 31, 3) := by decide +kernel
theorem dX7_flight_40 : decode cX7_flight 40 = .ok (.ireturn, 1) := by decide +kernel
theorem dX7_flight_41 : decode cX7_flight 41 = .ok (.aload_n 0, 1) := by decide +kernel
theorem dX7_flight_42 : decode cX7_flight 42 = .ok (.iload_n 1, 1) := by decide +kernel
theorem dX7_flight_43 : decode cX7_flight 43 = .ok (.invokevirtual 39, 3) := by decide +kernel
theorem dX7_flight_46 : decode cX7_flight 46 = .ok (.iconst 5, 1) := by decide +kernel
theorem dX7_flight_47 : decode cX7_flight 47 = .ok (.if_icmp .eq 10, 3) := by decide +kernel
theorem dX7_flight_50 : decode cX7_flight 50 = .ok (.aload_n 0, 1) := by decide +kernel
theorem dX7_flight_51 : decode cX7_flight 51 = .ok (.bipush (-4), 2) := by decide +kernel
theorem dX7_flight_53 : decode cX7_flight 53 = .ok (.invokevirtual 31, 3) := by decide +kernel
theorem dX7_flight_56 : decode cX7_flight 56 = .ok (.ireturn, 1) := by decide +kernel
theorem dX7_flight_57 : decode cX7_flight 57 = .ok (.aload_n 0, 1) := by decide +kernel
theorem dX7_flight_58 : decode cX7_flight 58 = .ok (.getfield 9, 3) := by decide +kernel
theorem dX7_flight_61 : decode cX7_flight 61 = .ok (.iconst 2, 1) := by decide +kernel
theorem dX7_flight_62 : decode cX7_flight 62 = .ok (.iaload, 1) := by decide +kernel
theorem dX7_flight_63 : decode cX7_flight 63 = .ok (.istore 4, 2) := by decide +kernel
theorem dX7_flight_65 : decode cX7_flight 65 = .ok (.iload 4, 2) := by decide +kernel
theorem dX7_flight_67 : decode cX7_flight 67 = .ok (.bipush 8, 2) := by decide +kernel
theorem dX7_flight_69 : decode cX7_flight 69 = .ok (.if_icmp .ne 10, 3) := by decide +kernel
theorem dX7_flight_72 : decode cX7_flight 72 = .ok (.aload_n 0, 1) := by decide +kernel
theorem dX7_flight_73 : decode cX7_flight 73 = .ok (.bipush (-3), 2) := by decide +kernel
theorem dX7_flight_75 : decode cX7_flight 75 = .ok (.invokevirtual 31, 3) := by decide +kernel
theorem dX7_flight_78 : decode cX7_flight 78 = .ok (.ireturn, 1) := by decide +kernel
theorem dX7_flight_79 : decode cX7_flight 79 = .ok (.aload_n 0, 1) := by decide +kernel
theorem dX7_flight_80 : decode cX7_flight 80 = .ok (.getfield 9, 3) := by decide +kernel
theorem dX7_flight_83 : decode cX7_flight 83 = .ok (.sipush 340, 3) := by decide +kernel
theorem dX7_flight_86 : decode cX7_flight 86 = .ok (.iload 4, 2) := by decide +kernel
theorem dX7_flight_88 : decode cX7_flight 88 = .ok (.iadd, 1) := by decide +kernel
theorem dX7_flight_89 : decode cX7_flight 89 = .ok (.iload_n 1, 1) := by decide +kernel
theorem dX7_flight_90 : decode cX7_flight 90 = .ok (.iastore, 1) := by decide +kernel
theorem dX7_flight_91 : decode cX7_flight 91 = .ok (.aload_n 0, 1) := by decide +kernel
theorem dX7_flight_92 : decode cX7_flight 92 = .ok (.getfield 9, 3) := by decide +kernel
theorem dX7_flight_95 : decode cX7_flight 95 = .ok (.sipush 348, 3) := by decide +kernel
theorem dX7_flight_98 : decode cX7_flight 98 = .ok (.iload 4, 2) := by decide +kernel
theorem dX7_flight_100 : decode cX7_flight 100 = .ok (.iadd, 1) := by decide +kernel
theorem dX7_flight_101 : decode cX7_flight 101 = .ok (.iload_n 2, 1) := by decide +kernel
theorem dX7_flight_102 : decode cX7_flight 102 = .ok (.iastore, 1) := by decide +kernel
theorem dX7_flight_103 : decode cX7_flight 103 = .ok (.aload_n 0, 1) := by decide +kernel
theorem dX7_flight_104 : decode cX7_flight 104 = .ok (.getfield 9, 3) := by decide +kernel
theorem dX7_flight_107 : decode cX7_flight 107 = .ok (.sipush 356, 3) := by decide +kernel
theorem dX7_flight_110 : decode cX7_flight 110 = .ok (.iload 4, 2) := by decide +kernel
theorem dX7_flight_112 : decode cX7_flight 112 = .ok (.iadd, 1) := by decide +kernel
theorem dX7_flight_113 : decode cX7_flight 113 = .ok (.iload_n 3, 1) := by decide +kernel
theorem dX7_flight_114 : decode cX7_flight 114 = .ok (.iastore, 1) := by decide +kernel
theorem dX7_flight_115 : decode cX7_flight 115 = .ok (.aload_n 0, 1) := by decide +kernel
theorem dX7_flight_116 : decode cX7_flight 116 = .ok (.getfield 9, 3) := by decide +kernel
theorem dX7_flight_119 : decode cX7_flight 119 = .ok (.iconst 2, 1) := by decide +kernel
theorem dX7_flight_120 : decode cX7_flight 120 = .ok (.dup2, 1) := by decide +kernel
theorem dX7_flight_121 : decode cX7_flight 121 = .ok (.iaload, 1) := by decide +kernel
theorem dX7_flight_122 : decode cX7_flight 122 = .ok (.iconst 1, 1) := by decide +kernel
theorem dX7_flight_123 : decode cX7_flight 123 = .ok (.iadd, 1) := by decide +kernel
theorem dX7_flight_124 : decode cX7_flight 124 = .ok (.iastore, 1) := by decide +kernel
theorem dX7_flight_125 : decode cX7_flight 125 = .ok (.iload 4, 2) := by decide +kernel
theorem dX7_flight_127 : decode cX7_flight 127 = .ok (.ireturn, 1) := by decide +kernel
theorem dX7_fall_0 : decode cX7_fall 0 = .ok (.aload_n 0, 1) := by decide +kernel
theorem dX7_fall_1 : decode cX7_fall 1 = .ok (.iload_n 1, 1) := by decide +kernel
theorem dX7_fall_2 : decode cX7_fall 2 = .ok (.invokevirtual 42, 3) := by decide +kernel
theorem dX7_fall_5 : decode cX7_fall 5 = .ok (.ifCond .ne 9, 3) := by decide +kernel
theorem dX7_fall_8 : decode cX7_fall 8 = .ok (.aload_n 0, 1) := by decide +kernel
theorem dX7_fall_9 : decode cX7_fall 9 = .ok (.iconst (-1), 1) := by decide +kernel
theorem dX7_fall_10 : decode cX7_fall 10 = .ok (.invokevirtual 31, 3) := by decide +kernel
theorem dX7_fall_13 : decode cX7_fall 13 = .ok (.ireturn, 1) := by decide +kernel
theorem dX7_fall_14 : decode cX7_fall 14 = .ok (.aload_n 0, 1) := by decide +kernel
theorem dX7_fall_15 : decode cX7_fall 15 = .ok (.getfield 9, 3) := by decide +kernel
theorem dX7_fall_18 : decode cX7_fall 18 = .ok (.bipush 116, 2) := by decide +kernel
theorem dX7_fall_20 : decode cX7_fall 20 = .ok (.iload_n 1, 1) := by decide +kernel
theorem dX7_fall_21 : decode cX7_fall 21 = .ok (.iadd, 1) := by decide +kernel
theorem dX7_fall_22 : decode cX7_fall 22 = .ok (.iaload, 1) := by decide +kernel
theorem dX7_fall_23 : decode cX7_fall 23 = .ok (.iconst 1, 1) := by decide +kernel
theorem dX7_fall_24 : decode cX7_fall 24 = .ok (.if_icmp .ne 7, 3) := by decide +kernel
theorem dX7_fall_27 : decode cX7_fall 27 = .ok (.iconst 1, 1) := by decide +kernel
theorem dX7_fall_28 : decode cX7_fall 28 = .ok (.goto 4, 3) := by decide +kernel
theorem dX7_fall_31 : decode cX7_fall 31 = .ok (.iconst 0, 1) := by decide +kernel
theorem dX7_fall_32 : decode cX7_fall 32 = .ok (.istore_n 3, 1) := by decide +kernel
theorem dX7_fall_33 : decode cX7_fall 33 = .ok (.aload_n 0, 1) := by decide +kernel
theorem dX7_fall_34 : decode cX7_fall 34 = .ok (.getfield 9, 3) := by decide +kernel
theorem dX7_fall_37 : decode cX7_fall 37 = .ok (.bipush 116, 2) := by decide +kernel
theorem dX7_fall_39 : decode cX7_fall 39 = .ok (.iload_n 1, 1) := by decide +kernel
theorem dX7_fall_40 : decode cX7_fall 40 = .ok (.iadd, 1) := by decide +kernel
theorem dX7_fall_41 : decode cX7_fall 41 = .ok (.iload_n 2, 1) := by decide +kernel
theorem dX7_fall_42 : decode cX7_fall 42 = .ok (.ifCond .eq 7, 3) := by decide +kernel
theorem dX7_fall_45 : decode cX7_fall 45 = .ok (.iconst 1, 1) := by decide +kernel
theorem dX7_fall_46 : decode cX7_fall 46 = .ok (.goto 4, 3) := by decide +kernel
theorem dX7_fall_49 : decode cX7_fall 49 = .ok (.iconst 0, 1) := by decide +kernel
theorem dX7_fall_50 : decode cX7_fall 50 = .ok (.iastore, 1) := by decide +kernel
theorem dX7_fall_51 : decode cX7_fall 51 = .ok (.iload_n 3, 1) := by decide +kernel
theorem dX7_fall_52 : decode cX7_fall 52 = .ok (.iload_n 2, 1) := by decide +kernel
theorem dX7_fall_53 : decode cX7_fall 53 = .ok (.if_icmp .ne 7, 3) := by decide +kernel
theorem dX7_fall_56 : decode cX7_fall 56 = .ok (.iconst 0, 1) := by decide +kernel
theorem dX7_fall_57 : decode cX7_fall 57 = .ok (.goto 4, 3) := by decide +kernel
theorem dX7_fall_60 : decode cX7_fall 60 = .ok (.iconst 1, 1) := by decide +kernel
theorem dX7_fall_61 : decode cX7_fall 61 = .ok (.ireturn, 1) := by decide +kernel
theorem dX7_lies_0 : decode cX7_lies 0 = .ok (.aload_n 0, 1) := by decide +kernel
theorem dX7_lies_1 : decode cX7_lies 1 = .ok (.getfield 9, 3) := by decide +kernel
theorem dX7_lies_4 : decode cX7_lies 4 = .ok (.sipush 484, 3) := by decide +kernel
theorem dX7_lies_7 : decode cX7_lies 7 = .ok (.iload_n 1, 1) := by decide +kernel
theorem dX7_lies_8 : decode cX7_lies 8 = .ok (.iadd, 1) := by decide +kernel
theorem dX7_lies_9 : decode cX7_lies 9 = .ok (.iload_n 2, 1) := by decide +kernel
theorem dX7_lies_10 : decode cX7_lies 10 = .ok (.iastore, 1) := by decide +kernel
theorem dX7_lies_11 : decode cX7_lies 11 = .ok (.aload_n 0, 1) := by decide +kernel
theorem dX7_lies_12 : decode cX7_lies 12 = .ok (.getfield 9, 3) := by decide +kernel
theorem dX7_lies_15 : decode cX7_lies 15 = .ok (.sipush 544, 3) := by decide +kernel
theorem dX7_lies_18 : decode cX7_lies 18 = .ok (.iload_n 1, 1) := by decide +kernel
theorem dX7_lies_19 : decode cX7_lies 19 = .ok (.iadd, 1) := by decide +kernel
theorem dX7_lies_20 : decode cX7_lies 20 = .ok (.iload_n 3, 1) := by decide +kernel
theorem dX7_lies_21 : decode cX7_lies 21 = .ok (.iastore, 1) := by decide +kernel
theorem dX7_lies_22 : decode cX7_lies 22 = .ok (.aload_n 0, 1) := by decide +kernel
theorem dX7_lies_23 : decode cX7_lies 23 = .ok (.getfield 9, 3) := by decide +kernel
theorem dX7_lies_26 : decode cX7_lies 26 = .ok (.sipush 604, 3) := by decide +kernel
theorem dX7_lies_29 : decode cX7_lies 29 = .ok (.iload_n 1, 1) := by decide +kernel
theorem dX7_lies_30 : decode cX7_lies 30 = .ok (.iadd, 1) := by decide +kernel
theorem dX7_lies_31 : decode cX7_lies 31 = .ok (.iload 4, 2) := by decide +kernel
theorem dX7_lies_33 : decode cX7_lies 33 = .ok (.iastore, 1) := by decide +kernel
theorem dX7_lies_34 : decode cX7_lies 34 = .ok (.return_, 1) := by decide +kernel
theorem dX7_waits_0 : decode cX7_waits 0 = .ok (.aload_n 0, 1) := by decide +kernel
theorem dX7_waits_1 : decode cX7_waits 1 = .ok (.iload_n 1, 1) := by decide +kernel
theorem dX7_waits_2 : decode cX7_waits 2 = .ok (.iconst 0, 1) := by decide +kernel
theorem dX7_waits_3 : decode cX7_waits 3 = .ok (.iload_n 2, 1) := by decide +kernel
theorem dX7_waits_4 : decode cX7_waits 4 = .ok (.aload_n 0, 1) := by decide +kernel
theorem dX7_waits_5 : decode cX7_waits 5 = .ok (.getfield 9, 3) := by decide +kernel
theorem dX7_waits_8 : decode cX7_waits 8 = .ok (.iconst 5, 1) := by decide +kernel
theorem dX7_waits_9 : decode cX7_waits 9 = .ok (.iaload, 1) := by decide +kernel
theorem dX7_waits_10 : decode cX7_waits 10 = .ok (.invokevirtual 45, 3) := by decide +kernel
theorem dX7_waits_13 : decode cX7_waits 13 = .ok (.aload_n 0, 1) := by decide +kernel
theorem dX7_waits_14 : decode cX7_waits 14 = .ok (.getfield 9, 3) := by decide +kernel
theorem dX7_waits_17 : decode cX7_waits 17 = .ok (.iconst 5, 1) := by decide +kernel
theorem dX7_waits_18 : decode cX7_waits 18 = .ok (.dup2, 1) := by decide +kernel
theorem dX7_waits_19 : decode cX7_waits 19 = .ok (.iaload, 1) := by decide +kernel
theorem dX7_waits_20 : decode cX7_waits 20 = .ok (.iconst 1, 1) := by decide +kernel
theorem dX7_waits_21 : decode cX7_waits 21 = .ok (.iadd, 1) := by decide +kernel
theorem dX7_waits_22 : decode cX7_waits 22 = .ok (.iastore, 1) := by decide +kernel
theorem dX7_waits_23 : decode cX7_waits 23 = .ok (.return_, 1) := by decide +kernel
theorem dX7_waitingAt_0 : decode cX7_waitingAt 0 = .ok (.iconst 0, 1) := by decide +kernel
theorem dX7_waitingAt_1 : decode cX7_waitingAt 1 = .ok (.istore_n 2, 1) := by decide +kernel
theorem dX7_waitingAt_2 : decode cX7_waitingAt 2 = .ok (.iconst 0, 1) := by decide +kernel
theorem dX7_waitingAt_3 : decode cX7_waitingAt 3 = .ok (.istore_n 3, 1) := by decide +kernel
theorem dX7_waitingAt_4 : decode cX7_waitingAt 4 = .ok (.iload_n 3, 1) := by decide +kernel
theorem dX7_waitingAt_5 : decode cX7_waitingAt 5 = .ok (.aload_n 0, 1) := by decide +kernel
theorem dX7_waitingAt_6 : decode cX7_waitingAt 6 = .ok (.getfield 9, 3) := by decide +kernel
theorem dX7_waitingAt_9 : decode cX7_waitingAt 9 = .ok (.iconst 3, 1) := by decide +kernel
theorem dX7_waitingAt_10 : decode cX7_waitingAt 10 = .ok (.iaload, 1) := by decide +kernel
theorem dX7_waitingAt_11 : decode cX7_waitingAt 11 = .ok (.if_icmp .ge 44, 3) := by decide +kernel
theorem dX7_waitingAt_14 : decode cX7_waitingAt 14 = .ok (.iload_n 2, 1) := by decide +kernel
theorem dX7_waitingAt_15 : decode cX7_waitingAt 15 = .ok (.aload_n 0, 1) := by decide +kernel
theorem dX7_waitingAt_16 : decode cX7_waitingAt 16 = .ok (.getfield 9, 3) := by decide +kernel
theorem dX7_waitingAt_19 : decode cX7_waitingAt 19 = .ok (.sipush 484, 3) := by decide +kernel
theorem dX7_waitingAt_22 : decode cX7_waitingAt 22 = .ok (.iload_n 3, 1) := by decide +kernel
theorem dX7_waitingAt_23 : decode cX7_waitingAt 23 = .ok (.iadd, 1) := by decide +kernel
theorem dX7_waitingAt_24 : decode cX7_waitingAt 24 = .ok (.iaload, 1) := by decide +kernel
theorem dX7_waitingAt_25 : decode cX7_waitingAt 25 = .ok (.ifCond .ne 21, 3) := by decide +kernel
theorem dX7_waitingAt_28 : decode cX7_waitingAt 28 = .ok (.aload_n 0, 1) := by decide +kernel
theorem dX7_waitingAt_29 : decode cX7_waitingAt 29 = .ok (.getfield 9, 3) := by decide +kernel
theorem dX7_waitingAt_32 : decode cX7_waitingAt 32 = .ok (.sipush 544, 3) := by decide +kernel
theorem dX7_waitingAt_35 : decode cX7_waitingAt 35 = .ok (.iload_n 3, 1) := by decide +kernel
theorem dX7_waitingAt_36 : decode cX7_waitingAt 36 = .ok (.iadd, 1) := by decide +kernel
theorem dX7_waitingAt_37 : decode cX7_waitingAt 37 = .ok (.iaload, 1) := by decide +kernel
theorem dX7_waitingAt_38 : decode cX7_waitingAt 38 = .ok (.iload_n 1, 1) := by decide +kernel
theorem dX7_waitingAt_39 : decode cX7_waitingAt 39 = .ok (.if_icmp .ne 7, 3) := by decide +kernel
theorem dX7_waitingAt_42 : decode cX7_waitingAt 42 = .ok (.iconst 1, 1) := by decide +kernel
theorem dX7_waitingAt_43 : decode cX7_waitingAt 43 = .ok (.goto 4, 3) := by decide +kernel
theorem dX7_waitingAt_46 : decode cX7_waitingAt 46 = .ok (.iconst 0, 1) := by decide +kernel
theorem dX7_waitingAt_47 : decode cX7_waitingAt 47 = .ok (.iadd, 1) := by decide +kernel
theorem dX7_waitingAt_48 : decode cX7_waitingAt 48 = .ok (.istore_n 2, 1) := by decide +kernel
theorem dX7_waitingAt_49 : decode cX7_waitingAt 49 = .ok (.iinc 3 1, 3) := by decide +kernel
theorem dX7_waitingAt_52 : decode cX7_waitingAt 52 = .ok (.goto (-48), 3) := by decide +kernel
theorem dX7_waitingAt_55 : decode cX7_waitingAt 55 = .ok (.iload_n 2, 1) := by decide +kernel
theorem dX7_waitingAt_56 : decode cX7_waitingAt 56 = .ok (.ireturn, 1) := by decide +kernel
theorem dX7_bag_0 : decode cX7_bag 0 = .ok (.aload_n 0, 1) := by decide +kernel
theorem dX7_bag_1 : decode cX7_bag 1 = .ok (.iload_n 1, 1) := by decide +kernel
theorem dX7_bag_2 : decode cX7_bag 2 = .ok (.invokevirtual 35, 3) := by decide +kernel
theorem dX7_bag_5 : decode cX7_bag 5 = .ok (.ifCond .eq 11, 3) := by decide +kernel
theorem dX7_bag_8 : decode cX7_bag 8 = .ok (.aload_n 0, 1) := by decide +kernel
theorem dX7_bag_9 : decode cX7_bag 9 = .ok (.iload_n 2, 1) := by decide +kernel
theorem dX7_bag_10 : decode cX7_bag 10 = .ok (.invokevirtual 49, 3) := by decide +kernel
theorem dX7_bag_13 : decode cX7_bag 13 = .ok (.ifCond .ne 9, 3) := by decide +kernel
theorem dX7_bag_16 : decode cX7_bag 16 = .ok (.aload_n 0, 1) := by decide +kernel
theorem dX7_bag_17 : decode cX7_bag 17 = .ok (.iconst (-1), 1) := by decide +kernel
theorem dX7_bag_18 : decode cX7_bag 18 = .ok (.invokevirtual 31, 3) := by decide +kernel
theorem dX7_bag_21 : decode cX7_bag 21 = .ok (.ireturn, 1) := by decide +kernel
theorem dX7_bag_22 : decode cX7_bag 22 = .ok (.aload_n 0, 1) := by decide +kernel
theorem dX7_bag_23 : decode cX7_bag 23 = .ok (.iload_n 1, 1) := by decide +kernel
theorem dX7_bag_24 : decode cX7_bag 24 = .ok (.invokevirtual 39, 3) := by decide +kernel
theorem dX7_bag_27 : decode cX7_bag 27 = .ok (.ifCond .eq 10, 3) := by decide +kernel
theorem dX7_bag_30 : decode cX7_bag 30 = .ok (.aload_n 0, 1) := by decide +kernel
theorem dX7_bag_31 : decode cX7_bag 31 = .ok (.bipush (-4), 2) := by decide +kernel
theorem dX7_bag_33 : decode cX7_bag 33 = .ok (.invokevirtual 31, 3) := by decide +kernel
theorem dX7_bag_36 : decode cX7_bag 36 = .ok (.ireturn, 1) := by decide +kernel
theorem dX7_bag_37 : decode cX7_bag 37 = .ok (.aload_n 0, 1) := by decide +kernel
theorem dX7_bag_38 : decode cX7_bag 38 = .ok (.getfield 9, 3) := by decide +kernel
theorem dX7_bag_41 : decode cX7_bag 41 = .ok (.iconst 3, 1) := by decide +kernel
theorem dX7_bag_42 : decode cX7_bag 42 = .ok (.iaload, 1) := by decide +kernel
theorem dX7_bag_43 : decode cX7_bag 43 = .ok (.istore 4, 2) := by decide +kernel
theorem dX7_bag_45 : decode cX7_bag 45 = .ok (.iload 4, 2) := by decide +kernel
theorem dX7_bag_47 : decode cX7_bag 47 = .ok (.bipush 60, 2) := by decide +kernel
theorem dX7_bag_49 : decode cX7_bag 49 = .ok (.if_icmp .ne 10, 3) := by decide +kernel
theorem dX7_bag_52 : decode cX7_bag 52 = .ok (.aload_n 0, 1) := by decide +kernel
theorem dX7_bag_53 : decode cX7_bag 53 = .ok (.bipush (-3), 2) := by decide +kernel
theorem dX7_bag_55 : decode cX7_bag 55 = .ok (.invokevirtual 31, 3) := by decide +kernel
theorem dX7_bag_58 : decode cX7_bag 58 = .ok (.ireturn, 1) := by decide +kernel
theorem dX7_bag_59 : decode cX7_bag 59 = .ok (.aload_n 0, 1) := by decide +kernel
theorem dX7_bag_60 : decode cX7_bag 60 = .ok (.getfield 9, 3) := by decide +kernel
theorem dX7_bag_63 : decode cX7_bag 63 = .ok (.sipush 364, 3) := by decide +kernel
theorem dX7_bag_66 : decode cX7_bag 66 = .ok (.iload 4, 2) := by decide +kernel
theorem dX7_bag_68 : decode cX7_bag 68 = .ok (.iadd, 1) := by decide +kernel
theorem dX7_bag_69 : decode cX7_bag 69 = .ok (.iload_n 2, 1) := by decide +kernel
theorem dX7_bag_70 : decode cX7_bag 70 = .ok (.iastore, 1) := by decide +kernel
theorem dX7_bag_71 : decode cX7_bag 71 = .ok (.aload_n 0, 1) := by decide +kernel
theorem dX7_bag_72 : decode cX7_bag 72 = .ok (.getfield 9, 3) := by decide +kernel
theorem dX7_bag_75 : decode cX7_bag 75 = .ok (.sipush 424, 3) := by decide +kernel
theorem dX7_bag_78 : decode cX7_bag 78 = .ok (.iload 4, 2) := by decide +kernel
theorem dX7_bag_80 : decode cX7_bag 80 = .ok (.iadd, 1) := by decide +kernel
theorem dX7_bag_81 : decode cX7_bag 81 = .ok (.iload_n 3, 1) := by decide +kernel
theorem dX7_bag_82 : decode cX7_bag 82 = .ok (.ifCond .eq 7, 3) := by decide +kernel
theorem dX7_bag_85 : decode cX7_bag 85 = .ok (.iconst 1, 1) := by decide +kernel
theorem dX7_bag_86 : decode cX7_bag 86 = .ok (.goto 4, 3) := by decide +kernel
theorem dX7_bag_89 : decode cX7_bag 89 = .ok (.iconst 0, 1) := by decide +kernel
theorem dX7_bag_90 : decode cX7_bag 90 = .ok (.iastore, 1) := by decide +kernel
theorem dX7_bag_91 : decode cX7_bag 91 = .ok (.aload_n 0, 1) := by decide +kernel
theorem dX7_bag_92 : decode cX7_bag 92 = .ok (.getfield 9, 3) := by decide +kernel
theorem dX7_bag_95 : decode cX7_bag 95 = .ok (.sipush 664, 3) := by decide +kernel
theorem dX7_bag_98 : decode cX7_bag 98 = .ok (.iload 4, 2) := by decide +kernel
theorem dX7_bag_100 : decode cX7_bag 100 = .ok (.iadd, 1) := by decide +kernel
theorem dX7_bag_101 : decode cX7_bag 101 = .ok (.iconst 0, 1) := by decide +kernel
theorem dX7_bag_102 : decode cX7_bag 102 = .ok (.iastore, 1) := by decide +kernel
theorem dX7_bag_103 : decode cX7_bag 103 = .ok (.aload_n 0, 1) := by decide +kernel
theorem dX7_bag_104 : decode cX7_bag 104 = .ok (.iload 4, 2) := by decide +kernel
theorem dX7_bag_106 : decode cX7_bag 106 = .ok (.iload_n 1, 1) := by decide +kernel
theorem dX7_bag_107 : decode cX7_bag 107 = .ok (.invokevirtual 52, 3) := by decide +kernel
theorem dX7_bag_110 : decode cX7_bag 110 = .ok (.aload_n 0, 1) := by decide +kernel
theorem dX7_bag_111 : decode cX7_bag 111 = .ok (.getfield 9, 3) := by decide +kernel
theorem dX7_bag_114 : decode cX7_bag 114 = .ok (.iconst 3, 1) := by decide +kernel
theorem dX7_bag_115 : decode cX7_bag 115 = .ok (.dup2, 1) := by decide +kernel
theorem dX7_bag_116 : decode cX7_bag 116 = .ok (.iaload, 1) := by decide +kernel
theorem dX7_bag_117 : decode cX7_bag 117 = .ok (.iconst 1, 1) := by decide +kernel
theorem dX7_bag_118 : decode cX7_bag 118 = .ok (.iadd, 1) := by decide +kernel
theorem dX7_bag_119 : decode cX7_bag 119 = .ok (.iastore, 1) := by decide +kernel
theorem dX7_bag_120 : decode cX7_bag 120 = .ok (.iload 4, 2) := by decide +kernel
theorem dX7_bag_122 : decode cX7_bag 122 = .ok (.ireturn, 1) := by decide +kernel
theorem dX7_take_0 : decode cX7_take 0 = .ok (.aload_n 0, 1) := by decide +kernel
theorem dX7_take_1 : decode cX7_take 1 = .ok (.iload_n 1, 1) := by decide +kernel
theorem dX7_take_2 : decode cX7_take 2 = .ok (.invokevirtual 56, 3) := by decide +kernel
theorem dX7_take_5 : decode cX7_take 5 = .ok (.ifCond .ne 9, 3) := by decide +kernel
theorem dX7_take_8 : decode cX7_take 8 = .ok (.aload_n 0, 1) := by decide +kernel
theorem dX7_take_9 : decode cX7_take 9 = .ok (.iconst (-1), 1) := by decide +kernel
theorem dX7_take_10 : decode cX7_take 10 = .ok (.invokevirtual 31, 3) := by decide +kernel
theorem dX7_take_13 : decode cX7_take 13 = .ok (.ireturn, 1) := by decide +kernel
theorem dX7_take_14 : decode cX7_take 14 = .ok (.aload_n 0, 1) := by decide +kernel
theorem dX7_take_15 : decode cX7_take 15 = .ok (.getfield 9, 3) := by decide +kernel
theorem dX7_take_18 : decode cX7_take 18 = .ok (.sipush 484, 3) := by decide +kernel
theorem dX7_take_21 : decode cX7_take 21 = .ok (.iload_n 1, 1) := by decide +kernel
theorem dX7_take_22 : decode cX7_take 22 = .ok (.iadd, 1) := by decide +kernel
theorem dX7_take_23 : decode cX7_take 23 = .ok (.iaload, 1) := by decide +kernel
theorem dX7_take_24 : decode cX7_take 24 = .ok (.istore_n 2, 1) := by decide +kernel
theorem dX7_take_25 : decode cX7_take 25 = .ok (.aload_n 0, 1) := by decide +kernel
theorem dX7_take_26 : decode cX7_take 26 = .ok (.getfield 9, 3) := by decide +kernel
theorem dX7_take_29 : decode cX7_take 29 = .ok (.sipush 544, 3) := by decide +kernel
theorem dX7_take_32 : decode cX7_take 32 = .ok (.iload_n 1, 1) := by decide +kernel
theorem dX7_take_33 : decode cX7_take 33 = .ok (.iadd, 1) := by decide +kernel
theorem dX7_take_34 : decode cX7_take 34 = .ok (.iaload, 1) := by decide +kernel
theorem dX7_take_35 : decode cX7_take 35 = .ok (.istore_n 3, 1) := by decide +kernel
theorem dX7_take_36 : decode cX7_take 36 = .ok (.iload_n 2, 1) := by decide +kernel
theorem dX7_take_37 : decode cX7_take 37 = .ok (.iconst 4, 1) := by decide +kernel
theorem dX7_take_38 : decode cX7_take 38 = .ok (.if_icmp .lt 10, 3) := by decide +kernel
theorem dX7_take_41 : decode cX7_take 41 = .ok (.aload_n 0, 1) := by decide +kernel
theorem dX7_take_42 : decode cX7_take 42 = .ok (.bipush (-6), 2) := by decide +kernel
theorem dX7_take_44 : decode cX7_take 44 = .ok (.invokevirtual 31, 3) := by decide +kernel
theorem dX7_take_47 : decode cX7_take 47 = .ok (.ireturn, 1) := by decide +kernel
theorem dX7_take_48 : decode cX7_take 48 = .ok (.iload_n 2, 1) := by decide +kernel
theorem dX7_take_49 : decode cX7_take 49 = .ok (.iconst 1, 1) := by decide +kernel
theorem dX7_take_50 : decode cX7_take 50 = .ok (.if_icmp .ne 28, 3) := by decide +kernel
theorem dX7_take_53 : decode cX7_take 53 = .ok (.aload_n 0, 1) := by decide +kernel
theorem dX7_take_54 : decode cX7_take 54 = .ok (.getfield 9, 3) := by decide +kernel
theorem dX7_take_57 : decode cX7_take 57 = .ok (.sipush 148, 3) := by decide +kernel
theorem dX7_take_60 : decode cX7_take 60 = .ok (.bipush 12, 2) := by decide +kernel
theorem dX7_take_62 : decode cX7_take 62 = .ok (.iload_n 3, 1) := by decide +kernel
theorem dX7_take_63 : decode cX7_take 63 = .ok (.imul, 1) := by decide +kernel
theorem dX7_take_64 : decode cX7_take 64 = .ok (.iadd, 1) := by decide +kernel
theorem dX7_take_65 : decode cX7_take 65 = .ok (.aload_n 0, 1) := by decide +kernel
theorem dX7_take_66 : decode cX7_take 66 = .ok (.getfield 9, 3) := by decide +kernel
theorem dX7_take_69 : decode cX7_take 69 = .ok (.sipush 604, 3) := by decide +kernel
theorem dX7_take_72 : decode cX7_take 72 = .ok (.iload_n 1, 1) := by decide +kernel
theorem dX7_take_73 : decode cX7_take 73 = .ok (.iadd, 1) := by decide +kernel
theorem dX7_take_74 : decode cX7_take 74 = .ok (.iaload, 1) := by decide +kernel
theorem dX7_take_75 : decode cX7_take 75 = .ok (.iadd, 1) := by decide +kernel
theorem dX7_take_76 : decode cX7_take 76 = .ok (.iconst 0, 1) := by decide +kernel
theorem dX7_take_77 : decode cX7_take 77 = .ok (.iastore, 1) := by decide +kernel
theorem dX7_take_78 : decode cX7_take 78 = .ok (.iload_n 2, 1) := by decide +kernel
theorem dX7_take_79 : decode cX7_take 79 = .ok (.iconst 2, 1) := by decide +kernel
theorem dX7_take_80 : decode cX7_take 80 = .ok (.if_icmp .ne 13, 3) := by decide +kernel
theorem dX7_take_83 : decode cX7_take 83 = .ok (.aload_n 0, 1) := by decide +kernel
theorem dX7_take_84 : decode cX7_take 84 = .ok (.getfield 9, 3) := by decide +kernel
theorem dX7_take_87 : decode cX7_take 87 = .ok (.bipush 32, 2) := by decide +kernel
theorem dX7_take_89 : decode cX7_take 89 = .ok (.iload_n 3, 1) := by decide +kernel
theorem dX7_take_90 : decode cX7_take 90 = .ok (.iadd, 1) := by decide +kernel
theorem dX7_take_91 : decode cX7_take 91 = .ok (.iconst 0, 1) := by decide +kernel
theorem dX7_take_92 : decode cX7_take 92 = .ok (.iastore, 1) := by decide +kernel
theorem dX7_take_93 : decode cX7_take 93 = .ok (.aload_n 0, 1) := by decide +kernel
theorem dX7_take_94 : decode cX7_take 94 = .ok (.iload_n 1, 1) := by decide +kernel
theorem dX7_take_95 : decode cX7_take 95 = .ok (.iconst 4, 1) := by decide +kernel
theorem dX7_take_96 : decode cX7_take 96 = .ok (.bipush (-100), 2) := by decide +kernel
theorem dX7_take_98 : decode cX7_take 98 = .ok (.iconst 0, 1) := by decide +kernel
theorem dX7_take_99 : decode cX7_take 99 = .ok (.invokevirtual 45, 3) := by decide +kernel
theorem dX7_take_102 : decode cX7_take 102 = .ok (.iconst 1, 1) := by decide +kernel
theorem dX7_take_103 : decode cX7_take 103 = .ok (.ireturn, 1) := by decide +kernel
theorem dX7_give_0 : decode cX7_give 0 = .ok (.aload_n 0, 1) := by decide +kernel
theorem dX7_give_1 : decode cX7_give 1 = .ok (.iload_n 1, 1) := by decide +kernel
theorem dX7_give_2 : decode cX7_give 2 = .ok (.invokevirtual 56, 3) := by decide +kernel
theorem dX7_give_5 : decode cX7_give 5 = .ok (.ifCond .eq 11, 3) := by decide +kernel
theorem dX7_give_8 : decode cX7_give 8 = .ok (.aload_n 0, 1) := by decide +kernel
theorem dX7_give_9 : decode cX7_give 9 = .ok (.iload_n 2, 1) := by decide +kernel
theorem dX7_give_10 : decode cX7_give 10 = .ok (.invokevirtual 35, 3) := by decide +kernel
theorem dX7_give_13 : decode cX7_give 13 = .ok (.ifCond .ne 9, 3) := by decide +kernel
theorem dX7_give_16 : decode cX7_give 16 = .ok (.aload_n 0, 1) := by decide +kernel
theorem dX7_give_17 : decode cX7_give 17 = .ok (.iconst (-1), 1) := by decide +kernel
theorem dX7_give_18 : decode cX7_give 18 = .ok (.invokevirtual 31, 3) := by decide +kernel
theorem dX7_give_21 : decode cX7_give 21 = .ok (.ireturn, 1) := by decide +kernel
theorem dX7_give_22 : decode cX7_give 22 = .ok (.aload_n 0, 1) := by decide +kernel
theorem dX7_give_23 : decode cX7_give 23 = .ok (.iload_n 2, 1) := by decide +kernel
theorem dX7_give_24 : decode cX7_give 24 = .ok (.invokevirtual 39, 3) := by decide +kernel
theorem dX7_give_27 : decode cX7_give 27 = .ok (.ifCond .eq 10, 3) := by decide +kernel
theorem dX7_give_30 : decode cX7_give 30 = .ok (.aload_n 0, 1) := by decide +kernel
theorem dX7_give_31 : decode cX7_give 31 = .ok (.bipush (-4), 2) := by decide +kernel
theorem dX7_give_33 : decode cX7_give 33 = .ok (.invokevirtual 31, 3) := by decide +kernel
theorem dX7_give_36 : decode cX7_give 36 = .ok (.ireturn, 1) := by decide +kernel
theorem dX7_give_37 : decode cX7_give 37 = .ok (.aload_n 0, 1) := by decide +kernel
theorem dX7_give_38 : decode cX7_give 38 = .ok (.getfield 9, 3) := by decide +kernel
theorem dX7_give_41 : decode cX7_give 41 = .ok (.sipush 484, 3) := by decide +kernel
theorem dX7_give_44 : decode cX7_give 44 = .ok (.iload_n 1, 1) := by decide +kernel
theorem dX7_give_45 : decode cX7_give 45 = .ok (.iadd, 1) := by decide +kernel
theorem dX7_give_46 : decode cX7_give 46 = .ok (.iaload, 1) := by decide +kernel
theorem dX7_give_47 : decode cX7_give 47 = .ok (.iconst 4, 1) := by decide +kernel
theorem dX7_give_48 : decode cX7_give 48 = .ok (.if_icmp .eq 10, 3) := by decide +kernel
theorem dX7_give_51 : decode cX7_give 51 = .ok (.aload_n 0, 1) := by decide +kernel
theorem dX7_give_52 : decode cX7_give 52 = .ok (.bipush (-2), 2) := by decide +kernel
theorem dX7_give_54 : decode cX7_give 54 = .ok (.invokevirtual 31, 3) := by decide +kernel
theorem dX7_give_57 : decode cX7_give 57 = .ok (.ireturn, 1) := by decide +kernel
theorem dX7_give_58 : decode cX7_give 58 = .ok (.aload_n 0, 1) := by decide +kernel
theorem dX7_give_59 : decode cX7_give 59 = .ok (.getfield 9, 3) := by decide +kernel
theorem dX7_give_62 : decode cX7_give 62 = .ok (.sipush 424, 3) := by decide +kernel
theorem dX7_give_65 : decode cX7_give 65 = .ok (.iload_n 1, 1) := by decide +kernel
theorem dX7_give_66 : decode cX7_give 66 = .ok (.iadd, 1) := by decide +kernel
theorem dX7_give_67 : decode cX7_give 67 = .ok (.iload_n 3, 1) := by decide +kernel
theorem dX7_give_68 : decode cX7_give 68 = .ok (.ifCond .eq 7, 3) := by decide +kernel
theorem dX7_give_71 : decode cX7_give 71 = .ok (.iconst 1, 1) := by decide +kernel
theorem dX7_give_72 : decode cX7_give 72 = .ok (.goto 4, 3) := by decide +kernel
theorem dX7_give_75 : decode cX7_give 75 = .ok (.iconst 0, 1) := by decide +kernel
theorem dX7_give_76 : decode cX7_give 76 = .ok (.iastore, 1) := by decide +kernel
theorem dX7_give_77 : decode cX7_give 77 = .ok (.aload_n 0, 1) := by decide +kernel
theorem dX7_give_78 : decode cX7_give 78 = .ok (.iload_n 1, 1) := by decide +kernel
theorem dX7_give_79 : decode cX7_give 79 = .ok (.iload_n 2, 1) := by decide +kernel
theorem dX7_give_80 : decode cX7_give 80 = .ok (.invokevirtual 52, 3) := by decide +kernel
theorem dX7_give_83 : decode cX7_give 83 = .ok (.aload_n 0, 1) := by decide +kernel
theorem dX7_give_84 : decode cX7_give 84 = .ok (.iload_n 2, 1) := by decide +kernel
theorem dX7_give_85 : decode cX7_give 85 = .ok (.invokevirtual 59, 3) := by decide +kernel
theorem dX7_give_88 : decode cX7_give 88 = .ok (.ireturn, 1) := by decide +kernel
theorem dX7_where_0 : decode cX7_where 0 = .ok (.aload_n 0, 1) := by decide +kernel
theorem dX7_where_1 : decode cX7_where 1 = .ok (.iload_n 1, 1) := by decide +kernel
theorem dX7_where_2 : decode cX7_where 2 = .ok (.invokevirtual 56, 3) := by decide +kernel
theorem dX7_where_5 : decode cX7_where 5 = .ok (.ifCond .eq 16, 3) := by decide +kernel
theorem dX7_where_8 : decode cX7_where 8 = .ok (.aload_n 0, 1) := by decide +kernel
theorem dX7_where_9 : decode cX7_where 9 = .ok (.getfield 9, 3) := by decide +kernel
theorem dX7_where_12 : decode cX7_where 12 = .ok (.sipush 484, 3) := by decide +kernel
theorem dX7_where_15 : decode cX7_where 15 = .ok (.iload_n 1, 1) := by decide +kernel
theorem dX7_where_16 : decode cX7_where 16 = .ok (.iadd, 1) := by decide +kernel
theorem dX7_where_17 : decode cX7_where 17 = .ok (.iaload, 1) := by decide +kernel
theorem dX7_where_18 : decode cX7_where 18 = .ok (.goto 8, 3) := by decide +kernel
theorem dX7_where_21 : decode cX7_where 21 = .ok (.aload_n 0, 1) := by decide +kernel
theorem dX7_where_22 : decode cX7_where 22 = .ok (.iconst (-1), 1) := by decide +kernel
theorem dX7_where_23 : decode cX7_where 23 = .ok (.invokevirtual 31, 3) := by decide +kernel
theorem dX7_where_26 : decode cX7_where 26 = .ok (.ireturn, 1) := by decide +kernel
theorem dX7_place_0 : decode cX7_place 0 = .ok (.aload_n 0, 1) := by decide +kernel
theorem dX7_place_1 : decode cX7_place 1 = .ok (.iload_n 1, 1) := by decide +kernel
theorem dX7_place_2 : decode cX7_place 2 = .ok (.invokevirtual 56, 3) := by decide +kernel
theorem dX7_place_5 : decode cX7_place 5 = .ok (.ifCond .eq 16, 3) := by decide +kernel
theorem dX7_place_8 : decode cX7_place 8 = .ok (.aload_n 0, 1) := by decide +kernel
theorem dX7_place_9 : decode cX7_place 9 = .ok (.getfield 9, 3) := by decide +kernel
theorem dX7_place_12 : decode cX7_place 12 = .ok (.sipush 544, 3) := by decide +kernel
theorem dX7_place_15 : decode cX7_place 15 = .ok (.iload_n 1, 1) := by decide +kernel
theorem dX7_place_16 : decode cX7_place 16 = .ok (.iadd, 1) := by decide +kernel
theorem dX7_place_17 : decode cX7_place 17 = .ok (.iaload, 1) := by decide +kernel
theorem dX7_place_18 : decode cX7_place 18 = .ok (.goto 8, 3) := by decide +kernel
theorem dX7_place_21 : decode cX7_place 21 = .ok (.aload_n 0, 1) := by decide +kernel
theorem dX7_place_22 : decode cX7_place 22 = .ok (.iconst (-1), 1) := by decide +kernel
theorem dX7_place_23 : decode cX7_place 23 = .ok (.invokevirtual 31, 3) := by decide +kernel
theorem dX7_place_26 : decode cX7_place 26 = .ok (.ireturn, 1) := by decide +kernel
theorem dX7_detail_0 : decode cX7_detail 0 = .ok (.aload_n 0, 1) := by decide +kernel
theorem dX7_detail_1 : decode cX7_detail 1 = .ok (.iload_n 1, 1) := by decide +kernel
theorem dX7_detail_2 : decode cX7_detail 2 = .ok (.invokevirtual 56, 3) := by decide +kernel
theorem dX7_detail_5 : decode cX7_detail 5 = .ok (.ifCond .ne 9, 3) := by decide +kernel
theorem dX7_detail_8 : decode cX7_detail 8 = .ok (.aload_n 0, 1) := by decide +kernel
theorem dX7_detail_9 : decode cX7_detail 9 = .ok (.iconst (-1), 1) := by decide +kernel
theorem dX7_detail_10 : decode cX7_detail 10 = .ok (.invokevirtual 31, 3) := by decide +kernel
theorem dX7_detail_13 : decode cX7_detail 13 = .ok (.ireturn, 1) := by decide +kernel
theorem dX7_detail_14 : decode cX7_detail 14 = .ok (.aload_n 0, 1) := by decide +kernel
theorem dX7_detail_15 : decode cX7_detail 15 = .ok (.getfield 9, 3) := by decide +kernel
theorem dX7_detail_18 : decode cX7_detail 18 = .ok (.sipush 484, 3) := by decide +kernel
theorem dX7_detail_21 : decode cX7_detail 21 = .ok (.iload_n 1, 1) := by decide +kernel
theorem dX7_detail_22 : decode cX7_detail 22 = .ok (.iadd, 1) := by decide +kernel
theorem dX7_detail_23 : decode cX7_detail 23 = .ok (.iaload, 1) := by decide +kernel
theorem dX7_detail_24 : decode cX7_detail 24 = .ok (.iconst 4, 1) := by decide +kernel
theorem dX7_detail_25 : decode cX7_detail 25 = .ok (.if_icmp .ne 10, 3) := by decide +kernel
theorem dX7_detail_28 : decode cX7_detail 28 = .ok (.aload_n 0, 1) := by decide +kernel
theorem dX7_detail_29 : decode cX7_detail 29 = .ok (.bipush (-2), 2) := by decide +kernel
theorem dX7_detail_31 : decode cX7_detail 31 = .ok (.invokevirtual 31, 3) := by decide +kernel
theorem dX7_detail_34 : decode cX7_detail 34 = .ok (.ireturn, 1) := by decide +kernel
theorem dX7_detail_35 : decode cX7_detail 35 = .ok (.aload_n 0, 1) := by decide +kernel
theorem dX7_detail_36 : decode cX7_detail 36 = .ok (.getfield 9, 3) := by decide +kernel
theorem dX7_detail_39 : decode cX7_detail 39 = .ok (.sipush 484, 3) := by decide +kernel
theorem dX7_detail_42 : decode cX7_detail 42 = .ok (.iload_n 1, 1) := by decide +kernel
theorem dX7_detail_43 : decode cX7_detail 43 = .ok (.iadd, 1) := by decide +kernel
theorem dX7_detail_44 : decode cX7_detail 44 = .ok (.iaload, 1) := by decide +kernel
theorem dX7_detail_45 : decode cX7_detail 45 = .ok (.ifCond .eq 14, 3) := by decide +kernel
theorem dX7_detail_48 : decode cX7_detail 48 = .ok (.aload_n 0, 1) := by decide +kernel
theorem dX7_detail_49 : decode cX7_detail 49 = .ok (.getfield 9, 3) := by decide +kernel
theorem dX7_detail_52 : decode cX7_detail 52 = .ok (.sipush 604, 3) := by decide +kernel
theorem dX7_detail_55 : decode cX7_detail 55 = .ok (.iload_n 1, 1) := by decide +kernel
theorem dX7_detail_56 : decode cX7_detail 56 = .ok (.iadd, 1) := by decide +kernel
theorem dX7_detail_57 : decode cX7_detail 57 = .ok (.iaload, 1) := by decide +kernel
theorem dX7_detail_58 : decode cX7_detail 58 = .ok (.ireturn, 1) := by decide +kernel
theorem dX7_detail_59 : decode cX7_detail 59 = .ok (.iconst 0, 1) := by decide +kernel
theorem dX7_detail_60 : decode cX7_detail 60 = .ok (.istore_n 2, 1) := by decide +kernel
theorem dX7_detail_61 : decode cX7_detail 61 = .ok (.iconst 0, 1) := by decide +kernel
theorem dX7_detail_62 : decode cX7_detail 62 = .ok (.istore_n 3, 1) := by decide +kernel
theorem dX7_detail_63 : decode cX7_detail 63 = .ok (.iload_n 3, 1) := by decide +kernel
theorem dX7_detail_64 : decode cX7_detail 64 = .ok (.aload_n 0, 1) := by decide +kernel
theorem dX7_detail_65 : decode cX7_detail 65 = .ok (.getfield 9, 3) := by decide +kernel
theorem dX7_detail_68 : decode cX7_detail 68 = .ok (.iconst 3, 1) := by decide +kernel
theorem dX7_detail_69 : decode cX7_detail 69 = .ok (.iaload, 1) := by decide +kernel
theorem dX7_detail_70 : decode cX7_detail 70 = .ok (.if_icmp .ge 88, 3) := by decide +kernel
theorem dX7_detail_73 : decode cX7_detail 73 = .ok (.aload_n 0, 1) := by decide +kernel
theorem dX7_detail_74 : decode cX7_detail 74 = .ok (.getfield 9, 3) := by decide +kernel
theorem dX7_detail_77 : decode cX7_detail 77 = .ok (.sipush 484, 3) := by decide +kernel
theorem dX7_detail_80 : decode cX7_detail 80 = .ok (.iload_n 3, 1) := by decide +kernel
theorem dX7_detail_81 : decode cX7_detail 81 = .ok (.iadd, 1) := by decide +kernel
theorem dX7_detail_82 : decode cX7_detail 82 = .ok (.iaload, 1) := by decide +kernel
theorem dX7_detail_83 : decode cX7_detail 83 = .ok (.ifCond .ne 30, 3) := by decide +kernel
theorem dX7_detail_86 : decode cX7_detail 86 = .ok (.aload_n 0, 1) := by decide +kernel
theorem dX7_detail_87 : decode cX7_detail 87 = .ok (.getfield 9, 3) := by decide +kernel
theorem dX7_detail_90 : decode cX7_detail 90 = .ok (.sipush 544, 3) := by decide +kernel
theorem dX7_detail_93 : decode cX7_detail 93 = .ok (.iload_n 3, 1) := by decide +kernel
theorem dX7_detail_94 : decode cX7_detail 94 = .ok (.iadd, 1) := by decide +kernel
theorem dX7_detail_95 : decode cX7_detail 95 = .ok (.iaload, 1) := by decide +kernel
theorem dX7_detail_96 : decode cX7_detail 96 = .ok (.aload_n 0, 1) := by decide +kernel
theorem dX7_detail_97 : decode cX7_detail 97 = .ok (.getfield 9, 3) := by decide +kernel
theorem dX7_detail_100 : decode cX7_detail 100 = .ok (.sipush 544, 3) := by decide +kernel
theorem dX7_detail_103 : decode cX7_detail 103 = .ok (.iload_n 1, 1) := by decide +kernel
theorem dX7_detail_104 : decode cX7_detail 104 = .ok (.iadd, 1) := by decide +kernel
theorem dX7_detail_105 : decode cX7_detail 105 = .ok (.iaload, 1) := by decide +kernel
theorem dX7_detail_106 : decode cX7_detail 106 = .ok (.if_icmp .ne 7, 3) := by decide +kernel
theorem dX7_detail_109 : decode cX7_detail 109 = .ok (.iconst 1, 1) := by decide +kernel
theorem dX7_detail_110 : decode cX7_detail 110 = .ok (.goto 4, 3) := by decide +kernel
theorem dX7_detail_113 : decode cX7_detail 113 = .ok (.iconst 0, 1) := by decide +kernel
theorem dX7_detail_114 : decode cX7_detail 114 = .ok (.istore 4, 2) := by decide +kernel
theorem dX7_detail_116 : decode cX7_detail 116 = .ok (.iload_n 2, 1) := by decide +kernel
theorem dX7_detail_117 : decode cX7_detail 117 = .ok (.iload 4, 2) := by decide +kernel
theorem dX7_detail_119 : decode cX7_detail 119 = .ok (.ifCond .eq 30, 3) := by decide +kernel
theorem dX7_detail_122 : decode cX7_detail 122 = .ok (.aload_n 0, 1) := by decide +kernel
theorem dX7_detail_123 : decode cX7_detail 123 = .ok (.getfield 9, 3) := by decide +kernel
theorem dX7_detail_126 : decode cX7_detail 126 = .ok (.sipush 604, 3) := by decide +kernel
theorem dX7_detail_129 : decode cX7_detail 129 = .ok (.iload_n 3, 1) := by decide +kernel
theorem dX7_detail_130 : decode cX7_detail 130 = .ok (.iadd, 1) := by decide +kernel
theorem dX7_detail_131 : decode cX7_detail 131 = .ok (.iaload, 1) := by decide +kernel
theorem dX7_detail_132 : decode cX7_detail 132 = .ok (.aload_n 0, 1) := by decide +kernel
theorem dX7_detail_133 : decode cX7_detail 133 = .ok (.getfield 9, 3) := by decide +kernel
theorem dX7_detail_136 : decode cX7_detail 136 = .ok (.sipush 604, 3) := by decide +kernel
theorem dX7_detail_139 : decode cX7_detail 139 = .ok (.iload_n 1, 1) := by decide +kernel
theorem dX7_detail_140 : decode cX7_detail 140 = .ok (.iadd, 1) := by decide +kernel
theorem dX7_detail_141 : decode cX7_detail 141 = .ok (.iaload, 1) := by decide +kernel
theorem dX7_detail_142 : decode cX7_detail 142 = .ok (.if_icmp .ge 7, 3) := by decide +kernel
theorem dX7_detail_145 : decode cX7_detail 145 = .ok (.iconst 1, 1) := by decide +kernel
theorem dX7_detail_146 : decode cX7_detail 146 = .ok (.goto 4, 3) := by decide +kernel
theorem dX7_detail_149 : decode cX7_detail 149 = .ok (.iconst 0, 1) := by decide +kernel
theorem dX7_detail_150 : decode cX7_detail 150 = .ok (.iadd, 1) := by decide +kernel
theorem dX7_detail_151 : decode cX7_detail 151 = .ok (.istore_n 2, 1) := by decide +kernel
theorem dX7_detail_152 : decode cX7_detail 152 = .ok (.iinc 3 1, 3) := by decide +kernel
theorem dX7_detail_155 : decode cX7_detail 155 = .ok (.goto (-92), 3) := by decide +kernel
theorem dX7_detail_158 : decode cX7_detail 158 = .ok (.iload_n 2, 1) := by decide +kernel
theorem dX7_detail_159 : decode cX7_detail 159 = .ok (.ireturn, 1) := by decide +kernel
theorem dX7_steps_0 : decode cX7_steps 0 = .ok (.aload_n 0, 1) := by decide +kernel
theorem dX7_steps_1 : decode cX7_steps 1 = .ok (.iload_n 1, 1) := by decide +kernel
theorem dX7_steps_2 : decode cX7_steps 2 = .ok (.invokevirtual 56, 3) := by decide +kernel
theorem dX7_steps_5 : decode cX7_steps 5 = .ok (.ifCond .eq 16, 3) := by decide +kernel
theorem dX7_steps_8 : decode cX7_steps 8 = .ok (.aload_n 0, 1) := by decide +kernel
theorem dX7_steps_9 : decode cX7_steps 9 = .ok (.getfield 9, 3) := by decide +kernel
theorem dX7_steps_12 : decode cX7_steps 12 = .ok (.sipush 664, 3) := by decide +kernel
theorem dX7_steps_15 : decode cX7_steps 15 = .ok (.iload_n 1, 1) := by decide +kernel
theorem dX7_steps_16 : decode cX7_steps 16 = .ok (.iadd, 1) := by decide +kernel
theorem dX7_steps_17 : decode cX7_steps 17 = .ok (.iaload, 1) := by decide +kernel
theorem dX7_steps_18 : decode cX7_steps 18 = .ok (.goto 8, 3) := by decide +kernel
theorem dX7_steps_21 : decode cX7_steps 21 = .ok (.aload_n 0, 1) := by decide +kernel
theorem dX7_steps_22 : decode cX7_steps 22 = .ok (.iconst (-1), 1) := by decide +kernel
theorem dX7_steps_23 : decode cX7_steps 23 = .ok (.invokevirtual 31, 3) := by decide +kernel
theorem dX7_steps_26 : decode cX7_steps 26 = .ok (.ireturn, 1) := by decide +kernel
theorem dX7_step_0 : decode cX7_step 0 = .ok (.aload_n 0, 1) := by decide +kernel
theorem dX7_step_1 : decode cX7_step 1 = .ok (.iload_n 1, 1) := by decide +kernel
theorem dX7_step_2 : decode cX7_step 2 = .ok (.invokevirtual 56, 3) := by decide +kernel
theorem dX7_step_5 : decode cX7_step 5 = .ok (.ifCond .eq 28, 3) := by decide +kernel
theorem dX7_step_8 : decode cX7_step 8 = .ok (.iload_n 2, 1) := by decide +kernel
theorem dX7_step_9 : decode cX7_step 9 = .ok (.iconst 0, 1) := by decide +kernel
theorem dX7_step_10 : decode cX7_step 10 = .ok (.aload_n 0, 1) := by decide +kernel
theorem dX7_step_11 : decode cX7_step 11 = .ok (.getfield 9, 3) := by decide +kernel
theorem dX7_step_14 : decode cX7_step 14 = .ok (.sipush 664, 3) := by decide +kernel
theorem dX7_step_17 : decode cX7_step 17 = .ok (.iload_n 1, 1) := by decide +kernel
theorem dX7_step_18 : decode cX7_step 18 = .ok (.iadd, 1) := by decide +kernel
theorem dX7_step_19 : decode cX7_step 19 = .ok (.iaload, 1) := by decide +kernel
theorem dX7_step_20 : decode cX7_step 20 = .ok (.bipush 30, 2) := by decide +kernel
theorem dX7_step_22 : decode cX7_step 22 = .ok (.invokestatic 62, 3) := by decide +kernel
theorem dX7_step_25 : decode cX7_step 25 = .ok (.iconst 1, 1) := by decide +kernel
theorem dX7_step_26 : decode cX7_step 26 = .ok (.isub, 1) := by decide +kernel
theorem dX7_step_27 : decode cX7_step 27 = .ok (.invokestatic 27, 3) := by decide +kernel
theorem dX7_step_30 : decode cX7_step 30 = .ok (.ifCond .ne 9, 3) := by decide +kernel
theorem dX7_step_33 : decode cX7_step 33 = .ok (.aload_n 0, 1) := by decide +kernel
theorem dX7_step_34 : decode cX7_step 34 = .ok (.iconst (-1), 1) := by decide +kernel
theorem dX7_step_35 : decode cX7_step 35 = .ok (.invokevirtual 31, 3) := by decide +kernel
theorem dX7_step_38 : decode cX7_step 38 = .ok (.ireturn, 1) := by decide +kernel
theorem dX7_step_39 : decode cX7_step 39 = .ok (.aload_n 0, 1) := by decide +kernel
theorem dX7_step_40 : decode cX7_step 40 = .ok (.getfield 9, 3) := by decide +kernel
theorem dX7_step_43 : decode cX7_step 43 = .ok (.iload_n 3, 1) := by decide +kernel
theorem dX7_step_44 : decode cX7_step 44 = .ok (.ifCond .eq 9, 3) := by decide +kernel
theorem dX7_step_47 : decode cX7_step 47 = .ok (.sipush 2524, 3) := by decide +kernel
theorem dX7_step_50 : decode cX7_step 50 = .ok (.goto 6, 3) := by decide +kernel
theorem dX7_step_53 : decode cX7_step 53 = .ok (.sipush 724, 3) := by decide +kernel
theorem dX7_step_56 : decode cX7_step 56 = .ok (.bipush 30, 2) := by decide +kernel
theorem dX7_step_58 : decode cX7_step 58 = .ok (.iload_n 1, 1) := by decide +kernel
theorem dX7_step_59 : decode cX7_step 59 = .ok (.imul, 1) := by decide +kernel
theorem dX7_step_60 : decode cX7_step 60 = .ok (.iadd, 1) := by decide +kernel
theorem dX7_step_61 : decode cX7_step 61 = .ok (.iload_n 2, 1) := by decide +kernel
theorem dX7_step_62 : decode cX7_step 62 = .ok (.iadd, 1) := by decide +kernel
theorem dX7_step_63 : decode cX7_step 63 = .ok (.iaload, 1) := by decide +kernel
theorem dX7_step_64 : decode cX7_step 64 = .ok (.ireturn, 1) := by decide +kernel
theorem dX7_goes_0 : decode cX7_goes 0 = .ok (.aload_n 0, 1) := by decide +kernel
theorem dX7_goes_1 : decode cX7_goes 1 = .ok (.getfield 9, 3) := by decide +kernel
theorem dX7_goes_4 : decode cX7_goes 4 = .ok (.sipush 664, 3) := by decide +kernel
theorem dX7_goes_7 : decode cX7_goes 7 = .ok (.iload_n 1, 1) := by decide +kernel
theorem dX7_goes_8 : decode cX7_goes 8 = .ok (.iadd, 1) := by decide +kernel
theorem dX7_goes_9 : decode cX7_goes 9 = .ok (.iaload, 1) := by decide +kernel
theorem dX7_goes_10 : decode cX7_goes 10 = .ok (.istore_n 3, 1) := by decide +kernel
theorem dX7_goes_11 : decode cX7_goes 11 = .ok (.iload_n 3, 1) := by decide +kernel
theorem dX7_goes_12 : decode cX7_goes 12 = .ok (.bipush 30, 2) := by decide +kernel
theorem dX7_goes_14 : decode cX7_goes 14 = .ok (.if_icmp .ge 40, 3) := by decide +kernel
theorem dX7_goes_17 : decode cX7_goes 17 = .ok (.aload_n 0, 1) := by decide +kernel
theorem dX7_goes_18 : decode cX7_goes 18 = .ok (.getfield 9, 3) := by decide +kernel
theorem dX7_goes_21 : decode cX7_goes 21 = .ok (.sipush 724, 3) := by decide +kernel
theorem dX7_goes_24 : decode cX7_goes 24 = .ok (.bipush 30, 2) := by decide +kernel
theorem dX7_goes_26 : decode cX7_goes 26 = .ok (.iload_n 1, 1) := by decide +kernel
theorem dX7_goes_27 : decode cX7_goes 27 = .ok (.imul, 1) := by decide +kernel
theorem dX7_goes_28 : decode cX7_goes 28 = .ok (.iadd, 1) := by decide +kernel
theorem dX7_goes_29 : decode cX7_goes 29 = .ok (.iload_n 3, 1) := by decide +kernel
theorem dX7_goes_30 : decode cX7_goes 30 = .ok (.iadd, 1) := by decide +kernel
theorem dX7_goes_31 : decode cX7_goes 31 = .ok (.iload_n 2, 1) := by decide +kernel
theorem dX7_goes_32 : decode cX7_goes 32 = .ok (.iastore, 1) := by decide +kernel
theorem dX7_goes_33 : decode cX7_goes 33 = .ok (.aload_n 0, 1) := by decide +kernel
theorem dX7_goes_34 : decode cX7_goes 34 = .ok (.getfield 9, 3) := by decide +kernel
theorem dX7_goes_37 : decode cX7_goes 37 = .ok (.sipush 2524, 3) := by decide +kernel
theorem dX7_goes_40 : decode cX7_goes 40 = .ok (.bipush 30, 2) := by decide +kernel
theorem dX7_goes_42 : decode cX7_goes 42 = .ok (.iload_n 1, 1) := by decide +kernel
theorem dX7_goes_43 : decode cX7_goes 43 = .ok (.imul, 1) := by decide +kernel
theorem dX7_goes_44 : decode cX7_goes 44 = .ok (.iadd, 1) := by decide +kernel
theorem dX7_goes_45 : decode cX7_goes 45 = .ok (.iload_n 3, 1) := by decide +kernel
theorem dX7_goes_46 : decode cX7_goes 46 = .ok (.iadd, 1) := by decide +kernel
theorem dX7_goes_47 : decode cX7_goes 47 = .ok (.aload_n 0, 1) := by decide +kernel
theorem dX7_goes_48 : decode cX7_goes 48 = .ok (.getfield 9, 3) := by decide +kernel
theorem dX7_goes_51 : decode cX7_goes 51 = .ok (.iconst 4, 1) := by decide +kernel
theorem dX7_goes_52 : decode cX7_goes 52 = .ok (.iaload, 1) := by decide +kernel
theorem dX7_goes_53 : decode cX7_goes 53 = .ok (.iastore, 1) := by decide +kernel
theorem dX7_goes_54 : decode cX7_goes 54 = .ok (.aload_n 0, 1) := by decide +kernel
theorem dX7_goes_55 : decode cX7_goes 55 = .ok (.getfield 9, 3) := by decide +kernel
theorem dX7_goes_58 : decode cX7_goes 58 = .ok (.sipush 664, 3) := by decide +kernel
theorem dX7_goes_61 : decode cX7_goes 61 = .ok (.iload_n 1, 1) := by decide +kernel
theorem dX7_goes_62 : decode cX7_goes 62 = .ok (.iadd, 1) := by decide +kernel
theorem dX7_goes_63 : decode cX7_goes 63 = .ok (.dup2, 1) := by decide +kernel
theorem dX7_goes_64 : decode cX7_goes 64 = .ok (.iaload, 1) := by decide +kernel
theorem dX7_goes_65 : decode cX7_goes 65 = .ok (.iconst 1, 1) := by decide +kernel
theorem dX7_goes_66 : decode cX7_goes 66 = .ok (.iadd, 1) := by decide +kernel
theorem dX7_goes_67 : decode cX7_goes 67 = .ok (.iastore, 1) := by decide +kernel
theorem dX7_goes_68 : decode cX7_goes 68 = .ok (.return_, 1) := by decide +kernel
theorem dX7_findFar_0 : decode cX7_findFar 0 = .ok (.iconst 0, 1) := by decide +kernel
theorem dX7_findFar_1 : decode cX7_findFar 1 = .ok (.istore_n 2, 1) := by decide +kernel
theorem dX7_findFar_2 : decode cX7_findFar 2 = .ok (.iload_n 2, 1) := by decide +kernel
theorem dX7_findFar_3 : decode cX7_findFar 3 = .ok (.bipush 12, 2) := by decide +kernel
theorem dX7_findFar_5 : decode cX7_findFar 5 = .ok (.if_icmp .ge 16, 3) := by decide +kernel
theorem dX7_findFar_8 : decode cX7_findFar 8 = .ok (.aload_n 0, 1) := by decide +kernel
theorem dX7_findFar_9 : decode cX7_findFar 9 = .ok (.getfield 20, 3) := by decide +kernel
theorem dX7_findFar_12 : decode cX7_findFar 12 = .ok (.iload_n 2, 1) := by decide +kernel
theorem dX7_findFar_13 : decode cX7_findFar 13 = .ok (.iconst (-1), 1) := by decide +kernel
theorem dX7_findFar_14 : decode cX7_findFar 14 = .ok (.iastore, 1) := by decide +kernel
theorem dX7_findFar_15 : decode cX7_findFar 15 = .ok (.iinc 2 1, 3) := by decide +kernel
theorem dX7_findFar_18 : decode cX7_findFar 18 = .ok (.goto (-16), 3) := by decide +kernel
theorem dX7_findFar_21 : decode cX7_findFar 21 = .ok (.aload_n 0, 1) := by decide +kernel
theorem dX7_findFar_22 : decode cX7_findFar 22 = .ok (.getfield 20, 3) := by decide +kernel
theorem dX7_findFar_25 : decode cX7_findFar 25 = .ok (.iload_n 1, 1) := by decide +kernel
theorem dX7_findFar_26 : decode cX7_findFar 26 = .ok (.iconst 0, 1) := by decide +kernel
theorem dX7_findFar_27 : decode cX7_findFar 27 = .ok (.iastore, 1) := by decide +kernel
theorem dX7_findFar_28 : decode cX7_findFar 28 = .ok (.iconst 1, 1) := by decide +kernel
theorem dX7_findFar_29 : decode cX7_findFar 29 = .ok (.istore_n 2, 1) := by decide +kernel
theorem dX7_findFar_30 : decode cX7_findFar 30 = .ok (.iload_n 2, 1) := by decide +kernel
theorem dX7_findFar_31 : decode cX7_findFar 31 = .ok (.ifCond .eq 163, 3) := by decide +kernel
theorem dX7_findFar_34 : decode cX7_findFar 34 = .ok (.iconst 0, 1) := by decide +kernel
theorem dX7_findFar_35 : decode cX7_findFar 35 = .ok (.istore_n 2, 1) := by decide +kernel
theorem dX7_findFar_36 : decode cX7_findFar 36 = .ok (.iconst 0, 1) := by decide +kernel
theorem dX7_findFar_37 : decode cX7_findFar 37 = .ok (.istore_n 3, 1) := by decide +kernel
theorem dX7_findFar_38 : decode cX7_findFar 38 = .ok (.iload_n 3, 1) := by decide +kernel
theorem dX7_findFar_39 : decode cX7_findFar 39 = .ok (.aload_n 0, 1) := by decide +kernel
theorem dX7_findFar_40 : decode cX7_findFar 40 = .ok (.getfield 9, 3) := by decide +kernel
theorem dX7_findFar_43 : decode cX7_findFar 43 = .ok (.iconst 1, 1) := by decide +kernel
theorem dX7_findFar_44 : decode cX7_findFar 44 = .ok (.iaload, 1) := by decide +kernel
theorem dX7_findFar_45 : decode cX7_findFar 45 = .ok (.if_icmp .ge 146, 3) := by decide +kernel
theorem dX7_findFar_48 : decode cX7_findFar 48 = .ok (.aload_n 0, 1) := by decide +kernel
theorem dX7_findFar_49 : decode cX7_findFar 49 = .ok (.getfield 9, 3) := by decide +kernel
theorem dX7_findFar_52 : decode cX7_findFar 52 = .ok (.bipush 68, 2) := by decide +kernel
theorem dX7_findFar_54 : decode cX7_findFar 54 = .ok (.iload_n 3, 1) := by decide +kernel
theorem dX7_findFar_55 : decode cX7_findFar 55 = .ok (.iadd, 1) := by decide +kernel
theorem dX7_findFar_56 : decode cX7_findFar 56 = .ok (.iaload, 1) := by decide +kernel
theorem dX7_findFar_57 : decode cX7_findFar 57 = .ok (.istore 4, 2) := by decide +kernel
theorem dX7_findFar_59 : decode cX7_findFar 59 = .ok (.aload_n 0, 1) := by decide +kernel
theorem dX7_findFar_60 : decode cX7_findFar 60 = .ok (.getfield 9, 3) := by decide +kernel
theorem dX7_findFar_63 : decode cX7_findFar 63 = .ok (.bipush 84, 2) := by decide +kernel
theorem dX7_findFar_65 : decode cX7_findFar 65 = .ok (.iload_n 3, 1) := by decide +kernel
theorem dX7_findFar_66 : decode cX7_findFar 66 = .ok (.iadd, 1) := by decide +kernel
theorem dX7_findFar_67 : decode cX7_findFar 67 = .ok (.iaload, 1) := by decide +kernel
theorem dX7_findFar_68 : decode cX7_findFar 68 = .ok (.istore 5, 2) := by decide +kernel
theorem dX7_findFar_70 : decode cX7_findFar 70 = .ok (.iload 5, 2) := by decide +kernel
theorem dX7_findFar_72 : decode cX7_findFar 72 = .ok (.iload_n 1, 1) := by decide +kernel
theorem dX7_findFar_73 : decode cX7_findFar 73 = .ok (.if_icmp .eq 22, 3) := by decide +kernel
theorem dX7_findFar_76 : decode cX7_findFar 76 = .ok (.aload_n 0, 1) := by decide +kernel
theorem dX7_findFar_77 : decode cX7_findFar 77 = .ok (.iload 5, 2) := by decide +kernel
theorem dX7_findFar_79 : decode cX7_findFar 79 = .ok (.invokevirtual 39, 3) := by decide +kernel
theorem dX7_findFar_82 : decode cX7_findFar 82 = .ok (.ifCond .eq 17, 3) := by decide +kernel
theorem dX7_findFar_85 : decode cX7_findFar 85 = .ok (.aload_n 0, 1) := by decide +kernel
theorem dX7_findFar_86 : decode cX7_findFar 86 = .ok (.iload 5, 2) := by decide +kernel
theorem dX7_findFar_88 : decode cX7_findFar 88 = .ok (.invokevirtual 39, 3) := by decide +kernel
theorem dX7_findFar_91 : decode cX7_findFar 91 = .ok (.iconst 5, 1) := by decide +kernel
theorem dX7_findFar_92 : decode cX7_findFar 92 = .ok (.if_icmp .eq 7, 3) := by decide +kernel
theorem dX7_findFar_95 : decode cX7_findFar 95 = .ok (.iconst 1, 1) := by decide +kernel
theorem dX7_findFar_96 : decode cX7_findFar 96 = .ok (.goto 4, 3) := by decide +kernel
theorem dX7_findFar_99 : decode cX7_findFar 99 = .ok (.iconst 0, 1) := by decide +kernel
theorem dX7_findFar_100 : decode cX7_findFar 100 = .ok (.istore 6, 2) := by decide +kernel
theorem dX7_findFar_102 : decode cX7_findFar 102 = .ok (.aload_n 0, 1) := by decide +kernel
theorem dX7_findFar_103 : decode cX7_findFar 103 = .ok (.getfield 9, 3) := by decide +kernel
theorem dX7_findFar_106 : decode cX7_findFar 106 = .ok (.bipush 116, 2) := by decide +kernel
theorem dX7_findFar_108 : decode cX7_findFar 108 = .ok (.iload_n 3, 1) := by decide +kernel
theorem dX7_findFar_109 : decode cX7_findFar 109 = .ok (.iadd, 1) := by decide +kernel
theorem dX7_findFar_110 : decode cX7_findFar 110 = .ok (.iaload, 1) := by decide +kernel
theorem dX7_findFar_111 : decode cX7_findFar 111 = .ok (.iconst 1, 1) := by decide +kernel
theorem dX7_findFar_112 : decode cX7_findFar 112 = .ok (.if_icmp .eq 73, 3) := by decide +kernel
theorem dX7_findFar_115 : decode cX7_findFar 115 = .ok (.iload 6, 2) := by decide +kernel
theorem dX7_findFar_117 : decode cX7_findFar 117 = .ok (.ifCond .eq 68, 3) := by decide +kernel
theorem dX7_findFar_120 : decode cX7_findFar 120 = .ok (.aload_n 0, 1) := by decide +kernel
theorem dX7_findFar_121 : decode cX7_findFar 121 = .ok (.getfield 20, 3) := by decide +kernel
theorem dX7_findFar_124 : decode cX7_findFar 124 = .ok (.iload 5, 2) := by decide +kernel
theorem dX7_findFar_126 : decode cX7_findFar 126 = .ok (.iaload, 1) := by decide +kernel
theorem dX7_findFar_127 : decode cX7_findFar 127 = .ok (.ifCond .ge 6, 3) := by decide +kernel
theorem dX7_findFar_130 : decode cX7_findFar 130 = .ok (.goto 55, 3) := by decide +kernel
theorem dX7_findFar_133 : decode cX7_findFar 133 = .ok (.aload_n 0, 1) := by decide +kernel
theorem dX7_findFar_134 : decode cX7_findFar 134 = .ok (.getfield 9, 3) := by decide +kernel
theorem dX7_findFar_137 : decode cX7_findFar 137 = .ok (.bipush 100, 2) := by decide +kernel
theorem dX7_findFar_139 : decode cX7_findFar 139 = .ok (.iload_n 3, 1) := by decide +kernel
theorem dX7_findFar_140 : decode cX7_findFar 140 = .ok (.iadd, 1) := by decide +kernel
theorem dX7_findFar_141 : decode cX7_findFar 141 = .ok (.iaload, 1) := by decide +kernel
theorem dX7_findFar_142 : decode cX7_findFar 142 = .ok (.aload_n 0, 1) := by decide +kernel
theorem dX7_findFar_143 : decode cX7_findFar 143 = .ok (.getfield 20, 3) := by decide +kernel
theorem dX7_findFar_146 : decode cX7_findFar 146 = .ok (.iload 5, 2) := by decide +kernel
theorem dX7_findFar_148 : decode cX7_findFar 148 = .ok (.iaload, 1) := by decide +kernel
theorem dX7_findFar_149 : decode cX7_findFar 149 = .ok (.iadd, 1) := by decide +kernel
theorem dX7_findFar_150 : decode cX7_findFar 150 = .ok (.istore 7, 2) := by decide +kernel
theorem dX7_findFar_152 : decode cX7_findFar 152 = .ok (.aload_n 0, 1) := by decide +kernel
theorem dX7_findFar_153 : decode cX7_findFar 153 = .ok (.getfield 20, 3) := by decide +kernel
theorem dX7_findFar_156 : decode cX7_findFar 156 = .ok (.iload 4, 2) := by decide +kernel
theorem dX7_findFar_158 : decode cX7_findFar 158 = .ok (.iaload, 1) := by decide +kernel
theorem dX7_findFar_159 : decode cX7_findFar 159 = .ok (.ifCond .lt 15, 3) := by decide +kernel
theorem dX7_findFar_162 : decode cX7_findFar 162 = .ok (.iload 7, 2) := by decide +kernel
theorem dX7_findFar_164 : decode cX7_findFar 164 = .ok (.aload_n 0, 1) := by decide +kernel
theorem dX7_findFar_165 : decode cX7_findFar 165 = .ok (.getfield 20, 3) := by decide +kernel
theorem dX7_findFar_168 : decode cX7_findFar 168 = .ok (.iload 4, 2) := by decide +kernel
theorem dX7_findFar_170 : decode cX7_findFar 170 = .ok (.iaload, 1) := by decide +kernel
theorem dX7_findFar_171 : decode cX7_findFar 171 = .ok (.if_icmp .ge 14, 3) := by decide +kernel
theorem dX7_findFar_174 : decode cX7_findFar 174 = .ok (.aload_n 0, 1) := by decide +kernel
theorem dX7_findFar_175 : decode cX7_findFar 175 = .ok (.getfield 20, 3) := by decide +kernel
theorem dX7_findFar_178 : decode cX7_findFar 178 = .ok (.iload 4, 2) := by decide +kernel
theorem dX7_findFar_180 : decode cX7_findFar 180 = .ok (.iload 7, 2) := by decide +kernel
theorem dX7_findFar_182 : decode cX7_findFar 182 = .ok (.iastore, 1) := by decide +kernel
theorem dX7_findFar_183 : decode cX7_findFar 183 = .ok (.iconst 1, 1) := by decide +kernel
theorem dX7_findFar_184 : decode cX7_findFar 184 = .ok (.istore_n 2, 1) := by decide +kernel
theorem dX7_findFar_185 : decode cX7_findFar 185 = .ok (.iinc 3 1, 3) := by decide +kernel
theorem dX7_findFar_188 : decode cX7_findFar 188 = .ok (.goto (-150), 3) := by decide +kernel
theorem dX7_findFar_191 : decode cX7_findFar 191 = .ok (.goto (-161), 3) := by decide +kernel
theorem dX7_findFar_194 : decode cX7_findFar 194 = .ok (.return_, 1) := by decide +kernel
theorem dX7_far_0 : decode cX7_far 0 = .ok (.aload_n 0, 1) := by decide +kernel
theorem dX7_far_1 : decode cX7_far 1 = .ok (.iload_n 1, 1) := by decide +kernel
theorem dX7_far_2 : decode cX7_far 2 = .ok (.invokevirtual 35, 3) := by decide +kernel
theorem dX7_far_5 : decode cX7_far 5 = .ok (.ifCond .eq 11, 3) := by decide +kernel
theorem dX7_far_8 : decode cX7_far 8 = .ok (.aload_n 0, 1) := by decide +kernel
theorem dX7_far_9 : decode cX7_far 9 = .ok (.iload_n 2, 1) := by decide +kernel
theorem dX7_far_10 : decode cX7_far 10 = .ok (.invokevirtual 35, 3) := by decide +kernel
theorem dX7_far_13 : decode cX7_far 13 = .ok (.ifCond .ne 9, 3) := by decide +kernel
theorem dX7_far_16 : decode cX7_far 16 = .ok (.aload_n 0, 1) := by decide +kernel
theorem dX7_far_17 : decode cX7_far 17 = .ok (.iconst (-1), 1) := by decide +kernel
theorem dX7_far_18 : decode cX7_far 18 = .ok (.invokevirtual 31, 3) := by decide +kernel
theorem dX7_far_21 : decode cX7_far 21 = .ok (.ireturn, 1) := by decide +kernel
theorem dX7_far_22 : decode cX7_far 22 = .ok (.aload_n 0, 1) := by decide +kernel
theorem dX7_far_23 : decode cX7_far 23 = .ok (.iload_n 2, 1) := by decide +kernel
theorem dX7_far_24 : decode cX7_far 24 = .ok (.invokevirtual 39, 3) := by decide +kernel
theorem dX7_far_27 : decode cX7_far 27 = .ok (.iconst 5, 1) := by decide +kernel
theorem dX7_far_28 : decode cX7_far 28 = .ok (.if_icmp .eq 10, 3) := by decide +kernel
theorem dX7_far_31 : decode cX7_far 31 = .ok (.aload_n 0, 1) := by decide +kernel
theorem dX7_far_32 : decode cX7_far 32 = .ok (.bipush (-4), 2) := by decide +kernel
theorem dX7_far_34 : decode cX7_far 34 = .ok (.invokevirtual 31, 3) := by decide +kernel
theorem dX7_far_37 : decode cX7_far 37 = .ok (.ireturn, 1) := by decide +kernel
theorem dX7_far_38 : decode cX7_far 38 = .ok (.aload_n 0, 1) := by decide +kernel
theorem dX7_far_39 : decode cX7_far 39 = .ok (.iload_n 2, 1) := by decide +kernel
theorem dX7_far_40 : decode cX7_far 40 = .ok (.invokevirtual 68, 3) := by decide +kernel
theorem dX7_far_43 : decode cX7_far 43 = .ok (.aload_n 0, 1) := by decide +kernel
theorem dX7_far_44 : decode cX7_far 44 = .ok (.getfield 20, 3) := by decide +kernel
theorem dX7_far_47 : decode cX7_far 47 = .ok (.iload_n 1, 1) := by decide +kernel
theorem dX7_far_48 : decode cX7_far 48 = .ok (.iaload, 1) := by decide +kernel
theorem dX7_far_49 : decode cX7_far 49 = .ok (.ifCond .ge 12, 3) := by decide +kernel
theorem dX7_far_52 : decode cX7_far 52 = .ok (.aload_n 0, 1) := by decide +kernel
theorem dX7_far_53 : decode cX7_far 53 = .ok (.bipush (-2), 2) := by decide +kernel
theorem dX7_far_55 : decode cX7_far 55 = .ok (.invokevirtual 31, 3) := by decide +kernel
theorem dX7_far_58 : decode cX7_far 58 = .ok (.goto 9, 3) := by decide +kernel
theorem dX7_far_61 : decode cX7_far 61 = .ok (.aload_n 0, 1) := by decide +kernel
theorem dX7_far_62 : decode cX7_far 62 = .ok (.getfield 20, 3) := by decide +kernel
theorem dX7_far_65 : decode cX7_far 65 = .ok (.iload_n 1, 1) := by decide +kernel
theorem dX7_far_66 : decode cX7_far 66 = .ok (.iaload, 1) := by decide +kernel
theorem dX7_far_67 : decode cX7_far 67 = .ok (.ireturn, 1) := by decide +kernel
theorem dX7_outletFor_0 : decode cX7_outletFor 0 = .ok (.aload_n 0, 1) := by decide +kernel
theorem dX7_outletFor_1 : decode cX7_outletFor 1 = .ok (.aload_n 0, 1) := by decide +kernel
theorem dX7_outletFor_2 : decode cX7_outletFor 2 = .ok (.getfield 9, 3) := by decide +kernel
theorem dX7_outletFor_5 : decode cX7_outletFor 5 = .ok (.sipush 340, 3) := by decide +kernel
theorem dX7_outletFor_8 : decode cX7_outletFor 8 = .ok (.iload_n 2, 1) := by decide +kernel
theorem dX7_outletFor_9 : decode cX7_outletFor 9 = .ok (.iadd, 1) := by decide +kernel
theorem dX7_outletFor_10 : decode cX7_outletFor 10 = .ok (.iaload, 1) := by decide +kernel
theorem dX7_outletFor_11 : decode cX7_outletFor 11 = .ok (.invokevirtual 68, 3) := by decide +kernel
theorem dX7_outletFor_14 : decode cX7_outletFor 14 = .ok (.iconst (-1), 1) := by decide +kernel
theorem dX7_outletFor_15 : decode cX7_outletFor 15 = .ok (.istore_n 3, 1) := by decide +kernel
theorem dX7_outletFor_16 : decode cX7_outletFor 16 = .ok (.iconst 0, 1) := by decide +kernel
theorem dX7_outletFor_17 : decode cX7_outletFor 17 = .ok (.istore 4, 2) := by decide +kernel
theorem dX7_outletFor_19 : decode cX7_outletFor 19 = .ok (.iconst 0, 1) := by decide +kernel
theorem dX7_outletFor_20 : decode cX7_outletFor 20 = .ok (.istore 5, 2) := by decide +kernel
theorem dX7_outletFor_22 : decode cX7_outletFor 22 = .ok (.iload 5, 2) := by decide +kernel
theorem dX7_outletFor_24 : decode cX7_outletFor 24 = .ok (.aload_n 0, 1) := by decide +kernel
theorem dX7_outletFor_25 : decode cX7_outletFor 25 = .ok (.getfield 9, 3) := by decide +kernel
theorem dX7_outletFor_28 : decode cX7_outletFor 28 = .ok (.iconst 1, 1) := by decide +kernel
theorem dX7_outletFor_29 : decode cX7_outletFor 29 = .ok (.iaload, 1) := by decide +kernel
theorem dX7_outletFor_30 : decode cX7_outletFor 30 = .ok (.if_icmp .ge 100, 3) := by decide +kernel
theorem dX7_outletFor_33 : decode cX7_outletFor 33 = .ok (.aload_n 0, 1) := by decide +kernel
theorem dX7_outletFor_34 : decode cX7_outletFor 34 = .ok (.getfield 9, 3) := by decide +kernel
theorem dX7_outletFor_37 : decode cX7_outletFor 37 = .ok (.bipush 84, 2) := by decide +kernel
theorem dX7_outletFor_39 : decode cX7_outletFor 39 = .ok (.iload 5, 2) := by decide +kernel
theorem dX7_outletFor_41 : decode cX7_outletFor 41 = .ok (.iadd, 1) := by decide +kernel
theorem dX7_outletFor_42 : decode cX7_outletFor 42 = .ok (.iaload, 1) := by decide +kernel
theorem dX7_outletFor_43 : decode cX7_outletFor 43 = .ok (.istore 6, 2) := by decide +kernel
theorem dX7_outletFor_45 : decode cX7_outletFor 45 = .ok (.aload_n 0, 1) := by decide +kernel
theorem dX7_outletFor_46 : decode cX7_outletFor 46 = .ok (.getfield 9, 3) := by decide +kernel
theorem dX7_outletFor_49 : decode cX7_outletFor 49 = .ok (.bipush 68, 2) := by decide +kernel
theorem dX7_outletFor_51 : decode cX7_outletFor 51 = .ok (.iload 5, 2) := by decide +kernel
theorem dX7_outletFor_53 : decode cX7_outletFor 53 = .ok (.iadd, 1) := by decide +kernel
theorem dX7_outletFor_54 : decode cX7_outletFor 54 = .ok (.iaload, 1) := by decide +kernel
theorem dX7_outletFor_55 : decode cX7_outletFor 55 = .ok (.iload_n 1, 1) := by decide +kernel
theorem dX7_outletFor_56 : decode cX7_outletFor 56 = .ok (.if_icmp .ne 68, 3) := by decide +kernel
theorem dX7_outletFor_59 : decode cX7_outletFor 59 = .ok (.aload_n 0, 1) := by decide +kernel
theorem dX7_outletFor_60 : decode cX7_outletFor 60 = .ok (.getfield 9, 3) := by decide +kernel
theorem dX7_outletFor_63 : decode cX7_outletFor 63 = .ok (.bipush 116, 2) := by decide +kernel
theorem dX7_outletFor_65 : decode cX7_outletFor 65 = .ok (.iload 5, 2) := by decide +kernel
theorem dX7_outletFor_67 : decode cX7_outletFor 67 = .ok (.iadd, 1) := by decide +kernel
theorem dX7_outletFor_68 : decode cX7_outletFor 68 = .ok (.iaload, 1) := by decide +kernel
theorem dX7_outletFor_69 : decode cX7_outletFor 69 = .ok (.iconst 1, 1) := by decide +kernel
theorem dX7_outletFor_70 : decode cX7_outletFor 70 = .ok (.if_icmp .eq 54, 3) := by decide +kernel
theorem dX7_outletFor_73 : decode cX7_outletFor 73 = .ok (.aload_n 0, 1) := by decide +kernel
theorem dX7_outletFor_74 : decode cX7_outletFor 74 = .ok (.getfield 20, 3) := by decide +kernel
theorem dX7_outletFor_77 : decode cX7_outletFor 77 = .ok (.iload 6, 2) := by decide +kernel
theorem dX7_outletFor_79 : decode cX7_outletFor 79 = .ok (.iaload, 1) := by decide +kernel
theorem dX7_outletFor_80 : decode cX7_outletFor 80 = .ok (.ifCond .ge 6, 3) := by decide +kernel
theorem dX7_outletFor_83 : decode cX7_outletFor 83 = .ok (.goto 41, 3) := by decide +kernel
theorem dX7_outletFor_86 : decode cX7_outletFor 86 = .ok (.aload_n 0, 1) := by decide +kernel
theorem dX7_outletFor_87 : decode cX7_outletFor 87 = .ok (.getfield 9, 3) := by decide +kernel
theorem dX7_outletFor_90 : decode cX7_outletFor 90 = .ok (.bipush 100, 2) := by decide +kernel
theorem dX7_outletFor_92 : decode cX7_outletFor 92 = .ok (.iload 5, 2) := by decide +kernel
theorem dX7_outletFor_94 : decode cX7_outletFor 94 = .ok (.iadd, 1) := by decide +kernel
theorem dX7_outletFor_95 : decode cX7_outletFor 95 = .ok (.iaload, 1) := by decide +kernel
theorem dX7_outletFor_96 : decode cX7_outletFor 96 = .ok (.aload_n 0, 1) := by decide +kernel
theorem dX7_outletFor_97 : decode cX7_outletFor 97 = .ok (.getfield 20, 3) := by decide +kernel
theorem dX7_outletFor_100 : decode cX7_outletFor 100 = .ok (.iload 6, 2) := by decide +kernel
theorem dX7_outletFor_102 : decode cX7_outletFor 102 = .ok (.iaload, 1) := by decide +kernel
theorem dX7_outletFor_103 : decode cX7_outletFor 103 = .ok (.iadd, 1) := by decide +kernel
theorem dX7_outletFor_104 : decode cX7_outletFor 104 = .ok (.istore 7, 2) := by decide +kernel
theorem dX7_outletFor_106 : decode cX7_outletFor 106 = .ok (.iload_n 3, 1) := by decide +kernel
theorem dX7_outletFor_107 : decode cX7_outletFor 107 = .ok (.ifCond .lt 10, 3) := by decide +kernel
theorem dX7_outletFor_110 : decode cX7_outletFor 110 = .ok (.iload 7, 2) := by decide +kernel
theorem dX7_outletFor_112 : decode cX7_outletFor 112 = .ok (.iload 4, 2) := by decide +kernel
theorem dX7_outletFor_114 : decode cX7_outletFor 114 = .ok (.if_icmp .ge 10, 3) := by decide +kernel
theorem dX7_outletFor_117 : decode cX7_outletFor 117 = .ok (.iload 5, 2) := by decide +kernel
theorem dX7_outletFor_119 : decode cX7_outletFor 119 = .ok (.istore_n 3, 1) := by decide +kernel
theorem dX7_outletFor_120 : decode cX7_outletFor 120 = .ok (.iload 7, 2) := by decide +kernel
theorem dX7_outletFor_122 : decode cX7_outletFor 122 = .ok (.istore 4, 2) := by decide +kernel
theorem dX7_outletFor_124 : decode cX7_outletFor 124 = .ok (.iinc 5 1, 3) := by decide +kernel
theorem dX7_outletFor_127 : decode cX7_outletFor 127 = .ok (.goto (-105), 3) := by decide +kernel
theorem dX7_outletFor_130 : decode cX7_outletFor 130 = .ok (.iload_n 3, 1) := by decide +kernel
theorem dX7_outletFor_131 : decode cX7_outletFor 131 = .ok (.ireturn, 1) := by decide +kernel
theorem dX7_route_0 : decode cX7_route 0 = .ok (.aload_n 0, 1) := by decide +kernel
theorem dX7_route_1 : decode cX7_route 1 = .ok (.iload_n 1, 1) := by decide +kernel
theorem dX7_route_2 : decode cX7_route 2 = .ok (.invokevirtual 35, 3) := by decide +kernel
theorem dX7_route_5 : decode cX7_route 5 = .ok (.ifCond .eq 11, 3) := by decide +kernel
theorem dX7_route_8 : decode cX7_route 8 = .ok (.aload_n 0, 1) := by decide +kernel
theorem dX7_route_9 : decode cX7_route 9 = .ok (.iload_n 2, 1) := by decide +kernel
theorem dX7_route_10 : decode cX7_route 10 = .ok (.invokevirtual 49, 3) := by decide +kernel
theorem dX7_route_13 : decode cX7_route 13 = .ok (.ifCond .ne 9, 3) := by decide +kernel
theorem dX7_route_16 : decode cX7_route 16 = .ok (.aload_n 0, 1) := by decide +kernel
theorem dX7_route_17 : decode cX7_route 17 = .ok (.iconst (-1), 1) := by decide +kernel
theorem dX7_route_18 : decode cX7_route 18 = .ok (.invokevirtual 31, 3) := by decide +kernel
theorem dX7_route_21 : decode cX7_route 21 = .ok (.ireturn, 1) := by decide +kernel
theorem dX7_route_22 : decode cX7_route 22 = .ok (.aload_n 0, 1) := by decide +kernel
theorem dX7_route_23 : decode cX7_route 23 = .ok (.iload_n 1, 1) := by decide +kernel
theorem dX7_route_24 : decode cX7_route 24 = .ok (.invokevirtual 39, 3) := by decide +kernel
theorem dX7_route_27 : decode cX7_route 27 = .ok (.iconst 3, 1) := by decide +kernel
theorem dX7_route_28 : decode cX7_route 28 = .ok (.if_icmp .eq 10, 3) := by decide +kernel
theorem dX7_route_31 : decode cX7_route 31 = .ok (.aload_n 0, 1) := by decide +kernel
theorem dX7_route_32 : decode cX7_route 32 = .ok (.bipush (-4), 2) := by decide +kernel
theorem dX7_route_34 : decode cX7_route 34 = .ok (.invokevirtual 31, 3) := by decide +kernel
theorem dX7_route_37 : decode cX7_route 37 = .ok (.ireturn, 1) := by decide +kernel
theorem dX7_route_38 : decode cX7_route 38 = .ok (.aload_n 0, 1) := by decide +kernel
theorem dX7_route_39 : decode cX7_route 39 = .ok (.iload_n 1, 1) := by decide +kernel
theorem dX7_route_40 : decode cX7_route 40 = .ok (.iload_n 2, 1) := by decide +kernel
theorem dX7_route_41 : decode cX7_route 41 = .ok (.invokevirtual 72, 3) := by decide +kernel
theorem dX7_route_44 : decode cX7_route 44 = .ok (.istore_n 3, 1) := by decide +kernel
theorem dX7_route_45 : decode cX7_route 45 = .ok (.iload_n 3, 1) := by decide +kernel
theorem dX7_route_46 : decode cX7_route 46 = .ok (.ifCond .ge 12, 3) := by decide +kernel
theorem dX7_route_49 : decode cX7_route 49 = .ok (.aload_n 0, 1) := by decide +kernel
theorem dX7_route_50 : decode cX7_route 50 = .ok (.bipush (-2), 2) := by decide +kernel
theorem dX7_route_52 : decode cX7_route 52 = .ok (.invokevirtual 31, 3) := by decide +kernel
theorem dX7_route_55 : decode cX7_route 55 = .ok (.goto 4, 3) := by decide +kernel
theorem dX7_route_58 : decode cX7_route 58 = .ok (.iload_n 3, 1) := by decide +kernel
theorem dX7_route_59 : decode cX7_route 59 = .ok (.ireturn, 1) := by decide +kernel
theorem dX7_outlet_0 : decode cX7_outlet 0 = .ok (.iconst 0, 1) := by decide +kernel
theorem dX7_outlet_1 : decode cX7_outlet 1 = .ok (.istore_n 2, 1) := by decide +kernel
theorem dX7_outlet_2 : decode cX7_outlet 2 = .ok (.iload_n 2, 1) := by decide +kernel
theorem dX7_outlet_3 : decode cX7_outlet 3 = .ok (.aload_n 0, 1) := by decide +kernel
theorem dX7_outlet_4 : decode cX7_outlet 4 = .ok (.getfield 9, 3) := by decide +kernel
theorem dX7_outlet_7 : decode cX7_outlet 7 = .ok (.iconst 1, 1) := by decide +kernel
theorem dX7_outlet_8 : decode cX7_outlet 8 = .ok (.iaload, 1) := by decide +kernel
theorem dX7_outlet_9 : decode cX7_outlet 9 = .ok (.if_icmp .ge 36, 3) := by decide +kernel
theorem dX7_outlet_12 : decode cX7_outlet 12 = .ok (.aload_n 0, 1) := by decide +kernel
theorem dX7_outlet_13 : decode cX7_outlet 13 = .ok (.getfield 9, 3) := by decide +kernel
theorem dX7_outlet_16 : decode cX7_outlet 16 = .ok (.bipush 68, 2) := by decide +kernel
theorem dX7_outlet_18 : decode cX7_outlet 18 = .ok (.iload_n 2, 1) := by decide +kernel
theorem dX7_outlet_19 : decode cX7_outlet 19 = .ok (.iadd, 1) := by decide +kernel
theorem dX7_outlet_20 : decode cX7_outlet 20 = .ok (.iaload, 1) := by decide +kernel
theorem dX7_outlet_21 : decode cX7_outlet 21 = .ok (.iload_n 1, 1) := by decide +kernel
theorem dX7_outlet_22 : decode cX7_outlet 22 = .ok (.if_icmp .ne 17, 3) := by decide +kernel
theorem dX7_outlet_25 : decode cX7_outlet 25 = .ok (.aload_n 0, 1) := by decide +kernel
theorem dX7_outlet_26 : decode cX7_outlet 26 = .ok (.getfield 9, 3) := by decide +kernel
theorem dX7_outlet_29 : decode cX7_outlet 29 = .ok (.bipush 116, 2) := by decide +kernel
theorem dX7_outlet_31 : decode cX7_outlet 31 = .ok (.iload_n 2, 1) := by decide +kernel
theorem dX7_outlet_32 : decode cX7_outlet 32 = .ok (.iadd, 1) := by decide +kernel
theorem dX7_outlet_33 : decode cX7_outlet 33 = .ok (.iaload, 1) := by decide +kernel
theorem dX7_outlet_34 : decode cX7_outlet 34 = .ok (.ifCond .ne 5, 3) := by decide +kernel
theorem dX7_outlet_37 : decode cX7_outlet 37 = .ok (.iload_n 2, 1) := by decide +kernel
theorem dX7_outlet_38 : decode cX7_outlet 38 = .ok (.ireturn, 1) := by decide +kernel
theorem dX7_outlet_39 : decode cX7_outlet 39 = .ok (.iinc 2 1, 3) := by decide +kernel
theorem dX7_outlet_42 : decode cX7_outlet 42 = .ok (.goto (-40), 3) := by decide +kernel
theorem dX7_outlet_45 : decode cX7_outlet 45 = .ok (.iconst (-1), 1) := by decide +kernel
theorem dX7_outlet_46 : decode cX7_outlet 46 = .ok (.ireturn, 1) := by decide +kernel
theorem dX7_outletAt_0 : decode cX7_outletAt 0 = .ok (.iload_n 2, 1) := by decide +kernel
theorem dX7_outletAt_1 : decode cX7_outletAt 1 = .ok (.istore_n 3, 1) := by decide +kernel
theorem dX7_outletAt_2 : decode cX7_outletAt 2 = .ok (.iconst 0, 1) := by decide +kernel
theorem dX7_outletAt_3 : decode cX7_outletAt 3 = .ok (.istore 4, 2) := by decide +kernel
theorem dX7_outletAt_5 : decode cX7_outletAt 5 = .ok (.iload 4, 2) := by decide +kernel
theorem dX7_outletAt_7 : decode cX7_outletAt 7 = .ok (.aload_n 0, 1) := by decide +kernel
theorem dX7_outletAt_8 : decode cX7_outletAt 8 = .ok (.getfield 9, 3) := by decide +kernel
theorem dX7_outletAt_11 : decode cX7_outletAt 11 = .ok (.iconst 1, 1) := by decide +kernel
theorem dX7_outletAt_12 : decode cX7_outletAt 12 = .ok (.iaload, 1) := by decide +kernel
theorem dX7_outletAt_13 : decode cX7_outletAt 13 = .ok (.if_icmp .ge 36, 3) := by decide +kernel
theorem dX7_outletAt_16 : decode cX7_outletAt 16 = .ok (.aload_n 0, 1) := by decide +kernel
theorem dX7_outletAt_17 : decode cX7_outletAt 17 = .ok (.getfield 9, 3) := by decide +kernel
theorem dX7_outletAt_20 : decode cX7_outletAt 20 = .ok (.bipush 68, 2) := by decide +kernel
theorem dX7_outletAt_22 : decode cX7_outletAt 22 = .ok (.iload 4, 2) := by decide +kernel
theorem dX7_outletAt_24 : decode cX7_outletAt 24 = .ok (.iadd, 1) := by decide +kernel
theorem dX7_outletAt_25 : decode cX7_outletAt 25 = .ok (.iaload, 1) := by decide +kernel
theorem dX7_outletAt_26 : decode cX7_outletAt 26 = .ok (.iload_n 1, 1) := by decide +kernel
theorem dX7_outletAt_27 : decode cX7_outletAt 27 = .ok (.if_icmp .eq 6, 3) := by decide +kernel
theorem dX7_outletAt_30 : decode cX7_outletAt 30 = .ok (.goto 13, 3) := by decide +kernel
theorem dX7_outletAt_33 : decode cX7_outletAt 33 = .ok (.iload_n 3, 1) := by decide +kernel
theorem dX7_outletAt_34 : decode cX7_outletAt 34 = .ok (.ifCond .ne 6, 3) := by decide +kernel
theorem dX7_outletAt_37 : decode cX7_outletAt 37 = .ok (.iload 4, 2) := by decide +kernel
theorem dX7_outletAt_39 : decode cX7_outletAt 39 = .ok (.ireturn, 1) := by decide +kernel
theorem dX7_outletAt_40 : decode cX7_outletAt 40 = .ok (.iinc 3 (-1), 3) := by decide +kernel
theorem dX7_outletAt_43 : decode cX7_outletAt 43 = .ok (.iinc 4 1, 3) := by decide +kernel
theorem dX7_outletAt_46 : decode cX7_outletAt 46 = .ok (.goto (-41), 3) := by decide +kernel
theorem dX7_outletAt_49 : decode cX7_outletAt 49 = .ok (.iconst (-1), 1) := by decide +kernel
theorem dX7_outletAt_50 : decode cX7_outletAt 50 = .ok (.ireturn, 1) := by decide +kernel
theorem dX7_isFree_0 : decode cX7_isFree 0 = .ok (.iload_n 1, 1) := by decide +kernel
theorem dX7_isFree_1 : decode cX7_isFree 1 = .ok (.ifCond .lt 35, 3) := by decide +kernel
theorem dX7_isFree_4 : decode cX7_isFree 4 = .ok (.aload_n 0, 1) := by decide +kernel
theorem dX7_isFree_5 : decode cX7_isFree 5 = .ok (.getfield 9, 3) := by decide +kernel
theorem dX7_isFree_8 : decode cX7_isFree 8 = .ok (.bipush 116, 2) := by decide +kernel
theorem dX7_isFree_10 : decode cX7_isFree 10 = .ok (.iload_n 1, 1) := by decide +kernel
theorem dX7_isFree_11 : decode cX7_isFree 11 = .ok (.iadd, 1) := by decide +kernel
theorem dX7_isFree_12 : decode cX7_isFree 12 = .ok (.iaload, 1) := by decide +kernel
theorem dX7_isFree_13 : decode cX7_isFree 13 = .ok (.ifCond .ne 23, 3) := by decide +kernel
theorem dX7_isFree_16 : decode cX7_isFree 16 = .ok (.aload_n 0, 1) := by decide +kernel
theorem dX7_isFree_17 : decode cX7_isFree 17 = .ok (.getfield 9, 3) := by decide +kernel
theorem dX7_isFree_20 : decode cX7_isFree 20 = .ok (.sipush 148, 3) := by decide +kernel
theorem dX7_isFree_23 : decode cX7_isFree 23 = .ok (.bipush 12, 2) := by decide +kernel
theorem dX7_isFree_25 : decode cX7_isFree 25 = .ok (.iload_n 1, 1) := by decide +kernel
theorem dX7_isFree_26 : decode cX7_isFree 26 = .ok (.imul, 1) := by decide +kernel
theorem dX7_isFree_27 : decode cX7_isFree 27 = .ok (.iadd, 1) := by decide +kernel
theorem dX7_isFree_28 : decode cX7_isFree 28 = .ok (.iaload, 1) := by decide +kernel
theorem dX7_isFree_29 : decode cX7_isFree 29 = .ok (.ifCond .ne 7, 3) := by decide +kernel
theorem dX7_isFree_32 : decode cX7_isFree 32 = .ok (.iconst 1, 1) := by decide +kernel
theorem dX7_isFree_33 : decode cX7_isFree 33 = .ok (.goto 4, 3) := by decide +kernel
theorem dX7_isFree_36 : decode cX7_isFree 36 = .ok (.iconst 0, 1) := by decide +kernel
theorem dX7_isFree_37 : decode cX7_isFree 37 = .ok (.ireturn, 1) := by decide +kernel
theorem dX7_put_0 : decode cX7_put 0 = .ok (.aload_n 0, 1) := by decide +kernel
theorem dX7_put_1 : decode cX7_put 1 = .ok (.iload_n 2, 1) := by decide +kernel
theorem dX7_put_2 : decode cX7_put 2 = .ok (.invokevirtual 75, 3) := by decide +kernel
theorem dX7_put_5 : decode cX7_put 5 = .ok (.ifCond .ne 5, 3) := by decide +kernel
theorem dX7_put_8 : decode cX7_put 8 = .ok (.iconst 0, 1) := by decide +kernel
theorem dX7_put_9 : decode cX7_put 9 = .ok (.ireturn, 1) := by decide +kernel
theorem dX7_put_10 : decode cX7_put 10 = .ok (.aload_n 0, 1) := by decide +kernel
theorem dX7_put_11 : decode cX7_put 11 = .ok (.getfield 9, 3) := by decide +kernel
theorem dX7_put_14 : decode cX7_put 14 = .ok (.sipush 148, 3) := by decide +kernel
theorem dX7_put_17 : decode cX7_put 17 = .ok (.bipush 12, 2) := by decide +kernel
theorem dX7_put_19 : decode cX7_put 19 = .ok (.iload_n 2, 1) := by decide +kernel
theorem dX7_put_20 : decode cX7_put 20 = .ok (.imul, 1) := by decide +kernel
theorem dX7_put_21 : decode cX7_put 21 = .ok (.iadd, 1) := by decide +kernel
theorem dX7_put_22 : decode cX7_put 22 = .ok (.iload_n 1, 1) := by decide +kernel
theorem dX7_put_23 : decode cX7_put 23 = .ok (.iconst 1, 1) := by decide +kernel
theorem dX7_put_24 : decode cX7_put 24 = .ok (.iadd, 1) := by decide +kernel
theorem dX7_put_25 : decode cX7_put 25 = .ok (.iastore, 1) := by decide +kernel
theorem dX7_put_26 : decode cX7_put 26 = .ok (.aload_n 0, 1) := by decide +kernel
theorem dX7_put_27 : decode cX7_put 27 = .ok (.iload_n 1, 1) := by decide +kernel
theorem dX7_put_28 : decode cX7_put 28 = .ok (.iconst 1, 1) := by decide +kernel
theorem dX7_put_29 : decode cX7_put 29 = .ok (.iload_n 2, 1) := by decide +kernel
theorem dX7_put_30 : decode cX7_put 30 = .ok (.iconst 0, 1) := by decide +kernel
theorem dX7_put_31 : decode cX7_put 31 = .ok (.invokevirtual 45, 3) := by decide +kernel
theorem dX7_put_34 : decode cX7_put 34 = .ok (.aload_n 0, 1) := by decide +kernel
theorem dX7_put_35 : decode cX7_put 35 = .ok (.getfield 16, 3) := by decide +kernel
theorem dX7_put_38 : decode cX7_put 38 = .ok (.iload_n 1, 1) := by decide +kernel
theorem dX7_put_39 : decode cX7_put 39 = .ok (.iconst 1, 1) := by decide +kernel
theorem dX7_put_40 : decode cX7_put 40 = .ok (.bastore, 1) := by decide +kernel
theorem dX7_put_41 : decode cX7_put 41 = .ok (.iconst 1, 1) := by decide +kernel
theorem dX7_put_42 : decode cX7_put 42 = .ok (.ireturn, 1) := by decide +kernel
theorem dX7_firstWaiting_0 : decode cX7_firstWaiting 0 = .ok (.iconst (-1), 1) := by decide +kernel
theorem dX7_firstWaiting_1 : decode cX7_firstWaiting 1 = .ok (.istore_n 2, 1) := by decide +kernel
theorem dX7_firstWaiting_2 : decode cX7_firstWaiting 2 = .ok (.iconst 0, 1) := by decide +kernel
theorem dX7_firstWaiting_3 : decode cX7_firstWaiting 3 = .ok (.istore_n 3, 1) := by decide +kernel
theorem dX7_firstWaiting_4 : decode cX7_firstWaiting 4 = .ok (.iload_n 3, 1) := by decide +kernel
theorem dX7_firstWaiting_5 : decode cX7_firstWaiting 5 = .ok (.aload_n 0, 1) := by decide +kernel
theorem dX7_firstWaiting_6 : decode cX7_firstWaiting 6 = .ok (.getfield 9, 3) := by decide +kernel
theorem dX7_firstWaiting_9 : decode cX7_firstWaiting 9 = .ok (.iconst 3, 1) := by decide +kernel
theorem dX7_firstWaiting_10 : decode cX7_firstWaiting 10 = .ok (.iaload, 1) := by decide +kernel
theorem dX7_firstWaiting_11 : decode cX7_firstWaiting 11 = .ok (.if_icmp .ge 81, 3) := by decide +kernel
theorem dX7_firstWaiting_14 : decode cX7_firstWaiting 14 = .ok (.aload_n 0, 1) := by decide +kernel
theorem dX7_firstWaiting_15 : decode cX7_firstWaiting 15 = .ok (.getfield 9, 3) := by decide +kernel
theorem dX7_firstWaiting_18 : decode cX7_firstWaiting 18 = .ok (.sipush 484, 3) := by decide +kernel
theorem dX7_firstWaiting_21 : decode cX7_firstWaiting 21 = .ok (.iload_n 3, 1) := by decide +kernel
theorem dX7_firstWaiting_22 : decode cX7_firstWaiting 22 = .ok (.iadd, 1) := by decide +kernel
theorem dX7_firstWaiting_23 : decode cX7_firstWaiting 23 = .ok (.iaload, 1) := by decide +kernel
theorem dX7_firstWaiting_24 : decode cX7_firstWaiting 24 = .ok (.ifCond .ne 21, 3) := by decide +kernel
theorem dX7_firstWaiting_27 : decode cX7_firstWaiting 27 = .ok (.aload_n 0, 1) := by decide +kernel
theorem dX7_firstWaiting_28 : decode cX7_firstWaiting 28 = .ok (.getfield 9, 3) := by decide +kernel
theorem dX7_firstWaiting_31 : decode cX7_firstWaiting 31 = .ok (.sipush 544, 3) := by decide +kernel
theorem dX7_firstWaiting_34 : decode cX7_firstWaiting 34 = .ok (.iload_n 3, 1) := by decide +kernel
theorem dX7_firstWaiting_35 : decode cX7_firstWaiting 35 = .ok (.iadd, 1) := by decide +kernel
theorem dX7_firstWaiting_36 : decode cX7_firstWaiting 36 = .ok (.iaload, 1) := by decide +kernel
theorem dX7_firstWaiting_37 : decode cX7_firstWaiting 37 = .ok (.iload_n 1, 1) := by decide +kernel
theorem dX7_firstWaiting_38 : decode cX7_firstWaiting 38 = .ok (.if_icmp .ne 7, 3) := by decide +kernel
theorem dX7_firstWaiting_41 : decode cX7_firstWaiting 41 = .ok (.iconst 1, 1) := by decide +kernel
theorem dX7_firstWaiting_42 : decode cX7_firstWaiting 42 = .ok (.goto 4, 3) := by decide +kernel
theorem dX7_firstWaiting_45 : decode cX7_firstWaiting 45 = .ok (.iconst 0, 1) := by decide +kernel
theorem dX7_firstWaiting_46 : decode cX7_firstWaiting 46 = .ok (.istore 4, 2) := by decide +kernel
theorem dX7_firstWaiting_48 : decode cX7_firstWaiting 48 = .ok (.iload 4, 2) := by decide +kernel
theorem dX7_firstWaiting_50 : decode cX7_firstWaiting 50 = .ok (.ifCond .eq 34, 3) := by decide +kernel
theorem dX7_firstWaiting_53 : decode cX7_firstWaiting 53 = .ok (.iload_n 2, 1) := by decide +kernel
theorem dX7_firstWaiting_54 : decode cX7_firstWaiting 54 = .ok (.ifCond .lt 26, 3) := by decide +kernel
theorem dX7_firstWaiting_57 : decode cX7_firstWaiting 57 = .ok (.aload_n 0, 1) := by decide +kernel
theorem dX7_firstWaiting_58 : decode cX7_firstWaiting 58 = .ok (.getfield 9, 3) := by decide +kernel
theorem dX7_firstWaiting_61 : decode cX7_firstWaiting 61 = .ok (.sipush 604, 3) := by decide +kernel
theorem dX7_firstWaiting_64 : decode cX7_firstWaiting 64 = .ok (.iload_n 3, 1) := by decide +kernel
theorem dX7_firstWaiting_65 : decode cX7_firstWaiting 65 = .ok (.iadd, 1) := by decide +kernel
theorem dX7_firstWaiting_66 : decode cX7_firstWaiting 66 = .ok (.iaload, 1) := by decide +kernel
theorem dX7_firstWaiting_67 : decode cX7_firstWaiting 67 = .ok (.aload_n 0, 1) := by decide +kernel
theorem dX7_firstWaiting_68 : decode cX7_firstWaiting 68 = .ok (.getfield 9, 3) := by decide +kernel
theorem dX7_firstWaiting_71 : decode cX7_firstWaiting 71 = .ok (.sipush 604, 3) := by decide +kernel
theorem dX7_firstWaiting_74 : decode cX7_firstWaiting 74 = .ok (.iload_n 2, 1) := by decide +kernel
theorem dX7_firstWaiting_75 : decode cX7_firstWaiting 75 = .ok (.iadd, 1) := by decide +kernel
theorem dX7_firstWaiting_76 : decode cX7_firstWaiting 76 = .ok (.iaload, 1) := by decide +kernel
theorem dX7_firstWaiting_77 : decode cX7_firstWaiting 77 = .ok (.if_icmp .ge 7, 3) := by decide +kernel
theorem dX7_firstWaiting_80 : decode cX7_firstWaiting 80 = .ok (.iload_n 3, 1) := by decide +kernel
theorem dX7_firstWaiting_81 : decode cX7_firstWaiting 81 = .ok (.goto 4, 3) := by decide +kernel
theorem dX7_firstWaiting_84 : decode cX7_firstWaiting 84 = .ok (.iload_n 2, 1) := by decide +kernel
theorem dX7_firstWaiting_85 : decode cX7_firstWaiting 85 = .ok (.istore_n 2, 1) := by decide +kernel
theorem dX7_firstWaiting_86 : decode cX7_firstWaiting 86 = .ok (.iinc 3 1, 3) := by decide +kernel
theorem dX7_firstWaiting_89 : decode cX7_firstWaiting 89 = .ok (.goto (-85), 3) := by decide +kernel
theorem dX7_firstWaiting_92 : decode cX7_firstWaiting 92 = .ok (.iload_n 2, 1) := by decide +kernel
theorem dX7_firstWaiting_93 : decode cX7_firstWaiting 93 = .ok (.ireturn, 1) := by decide +kernel
theorem dX7_firstOpened_0 : decode cX7_firstOpened 0 = .ok (.iconst (-1), 1) := by decide +kernel
theorem dX7_firstOpened_1 : decode cX7_firstOpened 1 = .ok (.istore_n 2, 1) := by decide +kernel
theorem dX7_firstOpened_2 : decode cX7_firstOpened 2 = .ok (.iconst 0, 1) := by decide +kernel
theorem dX7_firstOpened_3 : decode cX7_firstOpened 3 = .ok (.istore_n 3, 1) := by decide +kernel
theorem dX7_firstOpened_4 : decode cX7_firstOpened 4 = .ok (.iload_n 3, 1) := by decide +kernel
theorem dX7_firstOpened_5 : decode cX7_firstOpened 5 = .ok (.aload_n 0, 1) := by decide +kernel
theorem dX7_firstOpened_6 : decode cX7_firstOpened 6 = .ok (.getfield 9, 3) := by decide +kernel
theorem dX7_firstOpened_9 : decode cX7_firstOpened 9 = .ok (.iconst 3, 1) := by decide +kernel
theorem dX7_firstOpened_10 : decode cX7_firstOpened 10 = .ok (.iaload, 1) := by decide +kernel
theorem dX7_firstOpened_11 : decode cX7_firstOpened 11 = .ok (.if_icmp .ge 110, 3) := by decide +kernel
theorem dX7_firstOpened_14 : decode cX7_firstOpened 14 = .ok (.aload_n 0, 1) := by decide +kernel
theorem dX7_firstOpened_15 : decode cX7_firstOpened 15 = .ok (.getfield 9, 3) := by decide +kernel
theorem dX7_firstOpened_18 : decode cX7_firstOpened 18 = .ok (.sipush 484, 3) := by decide +kernel
theorem dX7_firstOpened_21 : decode cX7_firstOpened 21 = .ok (.iload_n 3, 1) := by decide +kernel
theorem dX7_firstOpened_22 : decode cX7_firstOpened 22 = .ok (.iadd, 1) := by decide +kernel
theorem dX7_firstOpened_23 : decode cX7_firstOpened 23 = .ok (.iaload, 1) := by decide +kernel
theorem dX7_firstOpened_24 : decode cX7_firstOpened 24 = .ok (.iconst 3, 1) := by decide +kernel
theorem dX7_firstOpened_25 : decode cX7_firstOpened 25 = .ok (.if_icmp .ne 49, 3) := by decide +kernel
theorem dX7_firstOpened_28 : decode cX7_firstOpened 28 = .ok (.aload_n 0, 1) := by decide +kernel
theorem dX7_firstOpened_29 : decode cX7_firstOpened 29 = .ok (.getfield 9, 3) := by decide +kernel
theorem dX7_firstOpened_32 : decode cX7_firstOpened 32 = .ok (.sipush 544, 3) := by decide +kernel
theorem dX7_firstOpened_35 : decode cX7_firstOpened 35 = .ok (.iload_n 3, 1) := by decide +kernel
theorem dX7_firstOpened_36 : decode cX7_firstOpened 36 = .ok (.iadd, 1) := by decide +kernel
theorem dX7_firstOpened_37 : decode cX7_firstOpened 37 = .ok (.iaload, 1) := by decide +kernel
theorem dX7_firstOpened_38 : decode cX7_firstOpened 38 = .ok (.iload_n 1, 1) := by decide +kernel
theorem dX7_firstOpened_39 : decode cX7_firstOpened 39 = .ok (.if_icmp .ne 35, 3) := by decide +kernel
theorem dX7_firstOpened_42 : decode cX7_firstOpened 42 = .ok (.aload_n 0, 1) := by decide +kernel
theorem dX7_firstOpened_43 : decode cX7_firstOpened 43 = .ok (.getfield 9, 3) := by decide +kernel
theorem dX7_firstOpened_46 : decode cX7_firstOpened 46 = .ok (.sipush 348, 3) := by decide +kernel
theorem dX7_firstOpened_49 : decode cX7_firstOpened 49 = .ok (.aload_n 0, 1) := by decide +kernel
theorem dX7_firstOpened_50 : decode cX7_firstOpened 50 = .ok (.getfield 9, 3) := by decide +kernel
theorem dX7_firstOpened_53 : decode cX7_firstOpened 53 = .ok (.sipush 364, 3) := by decide +kernel
theorem dX7_firstOpened_56 : decode cX7_firstOpened 56 = .ok (.iload_n 3, 1) := by decide +kernel
theorem dX7_firstOpened_57 : decode cX7_firstOpened 57 = .ok (.iadd, 1) := by decide +kernel
theorem dX7_firstOpened_58 : decode cX7_firstOpened 58 = .ok (.iaload, 1) := by decide +kernel
theorem dX7_firstOpened_59 : decode cX7_firstOpened 59 = .ok (.iadd, 1) := by decide +kernel
theorem dX7_firstOpened_60 : decode cX7_firstOpened 60 = .ok (.iaload, 1) := by decide +kernel
theorem dX7_firstOpened_61 : decode cX7_firstOpened 61 = .ok (.aload_n 0, 1) := by decide +kernel
theorem dX7_firstOpened_62 : decode cX7_firstOpened 62 = .ok (.getfield 9, 3) := by decide +kernel
theorem dX7_firstOpened_65 : decode cX7_firstOpened 65 = .ok (.iconst 4, 1) := by decide +kernel
theorem dX7_firstOpened_66 : decode cX7_firstOpened 66 = .ok (.iaload, 1) := by decide +kernel
theorem dX7_firstOpened_67 : decode cX7_firstOpened 67 = .ok (.if_icmp .gt 7, 3) := by decide +kernel
theorem dX7_firstOpened_70 : decode cX7_firstOpened 70 = .ok (.iconst 1, 1) := by decide +kernel
theorem dX7_firstOpened_71 : decode cX7_firstOpened 71 = .ok (.goto 4, 3) := by decide +kernel
theorem dX7_firstOpened_74 : decode cX7_firstOpened 74 = .ok (.iconst 0, 1) := by decide +kernel
theorem dX7_firstOpened_75 : decode cX7_firstOpened 75 = .ok (.istore 4, 2) := by decide +kernel
theorem dX7_firstOpened_77 : decode cX7_firstOpened 77 = .ok (.iload 4, 2) := by decide +kernel
theorem dX7_firstOpened_79 : decode cX7_firstOpened 79 = .ok (.ifCond .eq 34, 3) := by decide +kernel
theorem dX7_firstOpened_82 : decode cX7_firstOpened 82 = .ok (.iload_n 2, 1) := by decide +kernel
theorem dX7_firstOpened_83 : decode cX7_firstOpened 83 = .ok (.ifCond .lt 26, 3) := by decide +kernel
theorem dX7_firstOpened_86 : decode cX7_firstOpened 86 = .ok (.aload_n 0, 1) := by decide +kernel
theorem dX7_firstOpened_87 : decode cX7_firstOpened 87 = .ok (.getfield 9, 3) := by decide +kernel
theorem dX7_firstOpened_90 : decode cX7_firstOpened 90 = .ok (.sipush 604, 3) := by decide +kernel
theorem dX7_firstOpened_93 : decode cX7_firstOpened 93 = .ok (.iload_n 3, 1) := by decide +kernel
theorem dX7_firstOpened_94 : decode cX7_firstOpened 94 = .ok (.iadd, 1) := by decide +kernel
theorem dX7_firstOpened_95 : decode cX7_firstOpened 95 = .ok (.iaload, 1) := by decide +kernel
theorem dX7_firstOpened_96 : decode cX7_firstOpened 96 = .ok (.aload_n 0, 1) := by decide +kernel
theorem dX7_firstOpened_97 : decode cX7_firstOpened 97 = .ok (.getfield 9, 3) := by decide +kernel
theorem dX7_firstOpened_100 : decode cX7_firstOpened 100 = .ok (.sipush 604, 3) := by decide +kernel
theorem dX7_firstOpened_103 : decode cX7_firstOpened 103 = .ok (.iload_n 2, 1) := by decide +kernel
theorem dX7_firstOpened_104 : decode cX7_firstOpened 104 = .ok (.iadd, 1) := by decide +kernel
theorem dX7_firstOpened_105 : decode cX7_firstOpened 105 = .ok (.iaload, 1) := by decide +kernel
theorem dX7_firstOpened_106 : decode cX7_firstOpened 106 = .ok (.if_icmp .ge 7, 3) := by decide +kernel
theorem dX7_firstOpened_109 : decode cX7_firstOpened 109 = .ok (.iload_n 3, 1) := by decide +kernel
theorem dX7_firstOpened_110 : decode cX7_firstOpened 110 = .ok (.goto 4, 3) := by decide +kernel
theorem dX7_firstOpened_113 : decode cX7_firstOpened 113 = .ok (.iload_n 2, 1) := by decide +kernel
theorem dX7_firstOpened_114 : decode cX7_firstOpened 114 = .ok (.istore_n 2, 1) := by decide +kernel
theorem dX7_firstOpened_115 : decode cX7_firstOpened 115 = .ok (.iinc 3 1, 3) := by decide +kernel
theorem dX7_firstOpened_118 : decode cX7_firstOpened 118 = .ok (.goto (-114), 3) := by decide +kernel
theorem dX7_firstOpened_121 : decode cX7_firstOpened 121 = .ok (.iload_n 2, 1) := by decide +kernel
theorem dX7_firstOpened_122 : decode cX7_firstOpened 122 = .ok (.ireturn, 1) := by decide +kernel
theorem dX7_screened_0 : decode cX7_screened 0 = .ok (.aload_n 0, 1) := by decide +kernel
theorem dX7_screened_1 : decode cX7_screened 1 = .ok (.getfield 9, 3) := by decide +kernel
theorem dX7_screened_4 : decode cX7_screened 4 = .ok (.iconst 4, 1) := by decide +kernel
theorem dX7_screened_5 : decode cX7_screened 5 = .ok (.iaload, 1) := by decide +kernel
theorem dX7_screened_6 : decode cX7_screened 6 = .ok (.aload_n 0, 1) := by decide +kernel
theorem dX7_screened_7 : decode cX7_screened 7 = .ok (.getfield 9, 3) := by decide +kernel
theorem dX7_screened_10 : decode cX7_screened 10 = .ok (.sipush 604, 3) := by decide +kernel
theorem dX7_screened_13 : decode cX7_screened 13 = .ok (.iload_n 2, 1) := by decide +kernel
theorem dX7_screened_14 : decode cX7_screened 14 = .ok (.iadd, 1) := by decide +kernel
theorem dX7_screened_15 : decode cX7_screened 15 = .ok (.iaload, 1) := by decide +kernel
theorem dX7_screened_16 : decode cX7_screened 16 = .ok (.aload_n 0, 1) := by decide +kernel
theorem dX7_screened_17 : decode cX7_screened 17 = .ok (.getfield 9, 3) := by decide +kernel
theorem dX7_screened_20 : decode cX7_screened 20 = .ok (.bipush 20, 2) := by decide +kernel
theorem dX7_screened_22 : decode cX7_screened 22 = .ok (.iload_n 1, 1) := by decide +kernel
theorem dX7_screened_23 : decode cX7_screened 23 = .ok (.iadd, 1) := by decide +kernel
theorem dX7_screened_24 : decode cX7_screened 24 = .ok (.iaload, 1) := by decide +kernel
theorem dX7_screened_25 : decode cX7_screened 25 = .ok (.iadd, 1) := by decide +kernel
theorem dX7_screened_26 : decode cX7_screened 26 = .ok (.if_icmp .ge 5, 3) := by decide +kernel
theorem dX7_screened_29 : decode cX7_screened 29 = .ok (.iconst (-1), 1) := by decide +kernel
theorem dX7_screened_30 : decode cX7_screened 30 = .ok (.ireturn, 1) := by decide +kernel
theorem dX7_screened_31 : decode cX7_screened 31 = .ok (.aload_n 0, 1) := by decide +kernel
theorem dX7_screened_32 : decode cX7_screened 32 = .ok (.iload_n 1, 1) := by decide +kernel
theorem dX7_screened_33 : decode cX7_screened 33 = .ok (.iconst 1, 1) := by decide +kernel
theorem dX7_screened_34 : decode cX7_screened 34 = .ok (.invokevirtual 78, 3) := by decide +kernel
theorem dX7_screened_37 : decode cX7_screened 37 = .ok (.istore_n 3, 1) := by decide +kernel
theorem dX7_screened_38 : decode cX7_screened 38 = .ok (.aload_n 0, 1) := by decide +kernel
theorem dX7_screened_39 : decode cX7_screened 39 = .ok (.getfield 9, 3) := by decide +kernel
theorem dX7_screened_42 : decode cX7_screened 42 = .ok (.sipush 424, 3) := by decide +kernel
theorem dX7_screened_45 : decode cX7_screened 45 = .ok (.iload_n 2, 1) := by decide +kernel
theorem dX7_screened_46 : decode cX7_screened 46 = .ok (.iadd, 1) := by decide +kernel
theorem dX7_screened_47 : decode cX7_screened 47 = .ok (.iaload, 1) := by decide +kernel
theorem dX7_screened_48 : decode cX7_screened 48 = .ok (.iconst 1, 1) := by decide +kernel
theorem dX7_screened_49 : decode cX7_screened 49 = .ok (.if_icmp .ne 11, 3) := by decide +kernel
theorem dX7_screened_52 : decode cX7_screened 52 = .ok (.iload_n 3, 1) := by decide +kernel
theorem dX7_screened_53 : decode cX7_screened 53 = .ok (.ifCond .lt 7, 3) := by decide +kernel
theorem dX7_screened_56 : decode cX7_screened 56 = .ok (.iload_n 3, 1) := by decide +kernel
theorem dX7_screened_57 : decode cX7_screened 57 = .ok (.goto 9, 3) := by decide +kernel
theorem dX7_screened_60 : decode cX7_screened 60 = .ok (.aload_n 0, 1) := by decide +kernel
theorem dX7_screened_61 : decode cX7_screened 61 = .ok (.iload_n 1, 1) := by decide +kernel
theorem dX7_screened_62 : decode cX7_screened 62 = .ok (.iconst 0, 1) := by decide +kernel
theorem dX7_screened_63 : decode cX7_screened 63 = .ok (.invokevirtual 78, 3) := by decide +kernel
theorem dX7_screened_66 : decode cX7_screened 66 = .ok (.ireturn, 1) := by decide +kernel
theorem dX7_giveAt_0 : decode cX7_giveAt 0 = .ok (.aload_n 0, 1) := by decide +kernel
theorem dX7_giveAt_1 : decode cX7_giveAt 1 = .ok (.iload_n 1, 1) := by decide +kernel
theorem dX7_giveAt_2 : decode cX7_giveAt 2 = .ok (.invokevirtual 39, 3) := by decide +kernel
theorem dX7_giveAt_5 : decode cX7_giveAt 5 = .ok (.istore_n 2, 1) := by decide +kernel
theorem dX7_giveAt_6 : decode cX7_giveAt 6 = .ok (.iload_n 2, 1) := by decide +kernel
theorem dX7_giveAt_7 : decode cX7_giveAt 7 = .ok (.ifCond .ne 33, 3) := by decide +kernel
theorem dX7_giveAt_10 : decode cX7_giveAt 10 = .ok (.aload_n 0, 1) := by decide +kernel
theorem dX7_giveAt_11 : decode cX7_giveAt 11 = .ok (.iload_n 1, 1) := by decide +kernel
theorem dX7_giveAt_12 : decode cX7_giveAt 12 = .ok (.invokevirtual 81, 3) := by decide +kernel
theorem dX7_giveAt_15 : decode cX7_giveAt 15 = .ok (.istore_n 3, 1) := by decide +kernel
theorem dX7_giveAt_16 : decode cX7_giveAt 16 = .ok (.iload_n 3, 1) := by decide +kernel
theorem dX7_giveAt_17 : decode cX7_giveAt 17 = .ok (.ifCond .lt 22, 3) := by decide +kernel
theorem dX7_giveAt_20 : decode cX7_giveAt 20 = .ok (.aload_n 0, 1) := by decide +kernel
theorem dX7_giveAt_21 : decode cX7_giveAt 21 = .ok (.iload_n 3, 1) := by decide +kernel
theorem dX7_giveAt_22 : decode cX7_giveAt 22 = .ok (.aload_n 0, 1) := by decide +kernel
theorem dX7_giveAt_23 : decode cX7_giveAt 23 = .ok (.iload_n 1, 1) := by decide +kernel
theorem dX7_giveAt_24 : decode cX7_giveAt 24 = .ok (.invokevirtual 84, 3) := by decide +kernel
theorem dX7_giveAt_27 : decode cX7_giveAt 27 = .ok (.invokevirtual 87, 3) := by decide +kernel
theorem dX7_giveAt_30 : decode cX7_giveAt 30 = .ok (.ifCond .eq 9, 3) := by decide +kernel
theorem dX7_giveAt_33 : decode cX7_giveAt 33 = .ok (.aload_n 0, 1) := by decide +kernel
theorem dX7_giveAt_34 : decode cX7_giveAt 34 = .ok (.iload_n 3, 1) := by decide +kernel
theorem dX7_giveAt_35 : decode cX7_giveAt 35 = .ok (.iload_n 1, 1) := by decide +kernel
theorem dX7_giveAt_36 : decode cX7_giveAt 36 = .ok (.invokevirtual 91, 3) := by decide +kernel
theorem dX7_giveAt_39 : decode cX7_giveAt 39 = .ok (.return_, 1) := by decide +kernel
theorem dX7_giveAt_40 : decode cX7_giveAt 40 = .ok (.iload_n 2, 1) := by decide +kernel
theorem dX7_giveAt_41 : decode cX7_giveAt 41 = .ok (.iconst 4, 1) := by decide +kernel
theorem dX7_giveAt_42 : decode cX7_giveAt 42 = .ok (.if_icmp .ne 34, 3) := by decide +kernel
theorem dX7_giveAt_45 : decode cX7_giveAt 45 = .ok (.aload_n 0, 1) := by decide +kernel
theorem dX7_giveAt_46 : decode cX7_giveAt 46 = .ok (.iload_n 1, 1) := by decide +kernel
theorem dX7_giveAt_47 : decode cX7_giveAt 47 = .ok (.invokevirtual 94, 3) := by decide +kernel
theorem dX7_giveAt_50 : decode cX7_giveAt 50 = .ok (.istore_n 3, 1) := by decide +kernel
theorem dX7_giveAt_51 : decode cX7_giveAt 51 = .ok (.iload_n 3, 1) := by decide +kernel
theorem dX7_giveAt_52 : decode cX7_giveAt 52 = .ok (.ifCond .lt 20, 3) := by decide +kernel
theorem dX7_giveAt_55 : decode cX7_giveAt 55 = .ok (.aload_n 0, 1) := by decide +kernel
theorem dX7_giveAt_56 : decode cX7_giveAt 56 = .ok (.iload_n 3, 1) := by decide +kernel
theorem dX7_giveAt_57 : decode cX7_giveAt 57 = .ok (.aload_n 0, 1) := by decide +kernel
theorem dX7_giveAt_58 : decode cX7_giveAt 58 = .ok (.iload_n 1, 1) := by decide +kernel
theorem dX7_giveAt_59 : decode cX7_giveAt 59 = .ok (.invokevirtual 84, 3) := by decide +kernel
theorem dX7_giveAt_62 : decode cX7_giveAt 62 = .ok (.invokevirtual 87, 3) := by decide +kernel
theorem dX7_giveAt_65 : decode cX7_giveAt 65 = .ok (.ifCond .eq 7, 3) := by decide +kernel
theorem dX7_giveAt_68 : decode cX7_giveAt 68 = .ok (.iconst 1, 1) := by decide +kernel
theorem dX7_giveAt_69 : decode cX7_giveAt 69 = .ok (.goto 4, 3) := by decide +kernel
theorem dX7_giveAt_72 : decode cX7_giveAt 72 = .ok (.iconst 0, 1) := by decide +kernel
theorem dX7_giveAt_73 : decode cX7_giveAt 73 = .ok (.istore 4, 2) := by decide +kernel
theorem dX7_giveAt_75 : decode cX7_giveAt 75 = .ok (.return_, 1) := by decide +kernel
theorem dX7_giveAt_76 : decode cX7_giveAt 76 = .ok (.aload_n 0, 1) := by decide +kernel
theorem dX7_giveAt_77 : decode cX7_giveAt 77 = .ok (.getfield 9, 3) := by decide +kernel
theorem dX7_giveAt_80 : decode cX7_giveAt 80 = .ok (.bipush 32, 2) := by decide +kernel
theorem dX7_giveAt_82 : decode cX7_giveAt 82 = .ok (.iload_n 1, 1) := by decide +kernel
theorem dX7_giveAt_83 : decode cX7_giveAt 83 = .ok (.iadd, 1) := by decide +kernel
theorem dX7_giveAt_84 : decode cX7_giveAt 84 = .ok (.iaload, 1) := by decide +kernel
theorem dX7_giveAt_85 : decode cX7_giveAt 85 = .ok (.iconst 1, 1) := by decide +kernel
theorem dX7_giveAt_86 : decode cX7_giveAt 86 = .ok (.isub, 1) := by decide +kernel
theorem dX7_giveAt_87 : decode cX7_giveAt 87 = .ok (.istore_n 3, 1) := by decide +kernel
theorem dX7_giveAt_88 : decode cX7_giveAt 88 = .ok (.iload_n 2, 1) := by decide +kernel
theorem dX7_giveAt_89 : decode cX7_giveAt 89 = .ok (.iconst 5, 1) := by decide +kernel
theorem dX7_giveAt_90 : decode cX7_giveAt 90 = .ok (.if_icmp .eq 7, 3) := by decide +kernel
theorem dX7_giveAt_93 : decode cX7_giveAt 93 = .ok (.iload_n 3, 1) := by decide +kernel
theorem dX7_giveAt_94 : decode cX7_giveAt 94 = .ok (.ifCond .ge 4, 3) := by decide +kernel
theorem dX7_giveAt_97 : decode cX7_giveAt 97 = .ok (.return_, 1) := by decide +kernel
theorem dX7_giveAt_98 : decode cX7_giveAt 98 = .ok (.iload_n 2, 1) := by decide +kernel
theorem dX7_giveAt_99 : decode cX7_giveAt 99 = .ok (.iconst 1, 1) := by decide +kernel
theorem dX7_giveAt_100 : decode cX7_giveAt 100 = .ok (.if_icmp .ne 11, 3) := by decide +kernel
theorem dX7_giveAt_103 : decode cX7_giveAt 103 = .ok (.aload_n 0, 1) := by decide +kernel
theorem dX7_giveAt_104 : decode cX7_giveAt 104 = .ok (.iload_n 1, 1) := by decide +kernel
theorem dX7_giveAt_105 : decode cX7_giveAt 105 = .ok (.invokevirtual 84, 3) := by decide +kernel
theorem dX7_giveAt_108 : decode cX7_giveAt 108 = .ok (.goto 32, 3) := by decide +kernel
theorem dX7_giveAt_111 : decode cX7_giveAt 111 = .ok (.iload_n 2, 1) := by decide +kernel
theorem dX7_giveAt_112 : decode cX7_giveAt 112 = .ok (.iconst 2, 1) := by decide +kernel
theorem dX7_giveAt_113 : decode cX7_giveAt 113 = .ok (.if_icmp .ne 12, 3) := by decide +kernel
theorem dX7_giveAt_116 : decode cX7_giveAt 116 = .ok (.aload_n 0, 1) := by decide +kernel
theorem dX7_giveAt_117 : decode cX7_giveAt 117 = .ok (.iload_n 1, 1) := by decide +kernel
theorem dX7_giveAt_118 : decode cX7_giveAt 118 = .ok (.iload_n 3, 1) := by decide +kernel
theorem dX7_giveAt_119 : decode cX7_giveAt 119 = .ok (.invokevirtual 97, 3) := by decide +kernel
theorem dX7_giveAt_122 : decode cX7_giveAt 122 = .ok (.goto 18, 3) := by decide +kernel
theorem dX7_giveAt_125 : decode cX7_giveAt 125 = .ok (.aload_n 0, 1) := by decide +kernel
theorem dX7_giveAt_126 : decode cX7_giveAt 126 = .ok (.iload_n 1, 1) := by decide +kernel
theorem dX7_giveAt_127 : decode cX7_giveAt 127 = .ok (.aload_n 0, 1) := by decide +kernel
theorem dX7_giveAt_128 : decode cX7_giveAt 128 = .ok (.getfield 9, 3) := by decide +kernel
theorem dX7_giveAt_131 : decode cX7_giveAt 131 = .ok (.sipush 364, 3) := by decide +kernel
theorem dX7_giveAt_134 : decode cX7_giveAt 134 = .ok (.iload_n 3, 1) := by decide +kernel
theorem dX7_giveAt_135 : decode cX7_giveAt 135 = .ok (.iadd, 1) := by decide +kernel
theorem dX7_giveAt_136 : decode cX7_giveAt 136 = .ok (.iaload, 1) := by decide +kernel
theorem dX7_giveAt_137 : decode cX7_giveAt 137 = .ok (.invokevirtual 72, 3) := by decide +kernel
theorem dX7_giveAt_140 : decode cX7_giveAt 140 = .ok (.istore 4, 2) := by decide +kernel
theorem dX7_giveAt_142 : decode cX7_giveAt 142 = .ok (.aload_n 0, 1) := by decide +kernel
theorem dX7_giveAt_143 : decode cX7_giveAt 143 = .ok (.iload_n 3, 1) := by decide +kernel
theorem dX7_giveAt_144 : decode cX7_giveAt 144 = .ok (.iload 4, 2) := by decide +kernel
theorem dX7_giveAt_146 : decode cX7_giveAt 146 = .ok (.invokevirtual 87, 3) := by decide +kernel
theorem dX7_giveAt_149 : decode cX7_giveAt 149 = .ok (.ifCond .eq 13, 3) := by decide +kernel
theorem dX7_giveAt_152 : decode cX7_giveAt 152 = .ok (.aload_n 0, 1) := by decide +kernel
theorem dX7_giveAt_153 : decode cX7_giveAt 153 = .ok (.getfield 9, 3) := by decide +kernel
theorem dX7_giveAt_156 : decode cX7_giveAt 156 = .ok (.bipush 32, 2) := by decide +kernel
theorem dX7_giveAt_158 : decode cX7_giveAt 158 = .ok (.iload_n 1, 1) := by decide +kernel
theorem dX7_giveAt_159 : decode cX7_giveAt 159 = .ok (.iadd, 1) := by decide +kernel
theorem dX7_giveAt_160 : decode cX7_giveAt 160 = .ok (.iconst 0, 1) := by decide +kernel
theorem dX7_giveAt_161 : decode cX7_giveAt 161 = .ok (.iastore, 1) := by decide +kernel
theorem dX7_giveAt_162 : decode cX7_giveAt 162 = .ok (.return_, 1) := by decide +kernel
theorem dX7_move_0 : decode cX7_move 0 = .ok (.aload_n 0, 1) := by decide +kernel
theorem dX7_move_1 : decode cX7_move 1 = .ok (.getfield 9, 3) := by decide +kernel
theorem dX7_move_4 : decode cX7_move 4 = .ok (.bipush 116, 2) := by decide +kernel
theorem dX7_move_6 : decode cX7_move 6 = .ok (.iload_n 1, 1) := by decide +kernel
theorem dX7_move_7 : decode cX7_move 7 = .ok (.iadd, 1) := by decide +kernel
theorem dX7_move_8 : decode cX7_move 8 = .ok (.iaload, 1) := by decide +kernel
theorem dX7_move_9 : decode cX7_move 9 = .ok (.iconst 1, 1) := by decide +kernel
theorem dX7_move_10 : decode cX7_move 10 = .ok (.if_icmp .ne 4, 3) := by decide +kernel
theorem dX7_move_13 : decode cX7_move 13 = .ok (.return_, 1) := by decide +kernel
theorem dX7_move_14 : decode cX7_move 14 = .ok (.aload_n 0, 1) := by decide +kernel
theorem dX7_move_15 : decode cX7_move 15 = .ok (.getfield 9, 3) := by decide +kernel
theorem dX7_move_18 : decode cX7_move 18 = .ok (.bipush 100, 2) := by decide +kernel
theorem dX7_move_20 : decode cX7_move 20 = .ok (.iload_n 1, 1) := by decide +kernel
theorem dX7_move_21 : decode cX7_move 21 = .ok (.iadd, 1) := by decide +kernel
theorem dX7_move_22 : decode cX7_move 22 = .ok (.iaload, 1) := by decide +kernel
theorem dX7_move_23 : decode cX7_move 23 = .ok (.iconst 2, 1) := by decide +kernel
theorem dX7_move_24 : decode cX7_move 24 = .ok (.isub, 1) := by decide +kernel
theorem dX7_move_25 : decode cX7_move 25 = .ok (.istore_n 2, 1) := by decide +kernel
theorem dX7_move_26 : decode cX7_move 26 = .ok (.iload_n 2, 1) := by decide +kernel
theorem dX7_move_27 : decode cX7_move 27 = .ok (.ifCond .lt 92, 3) := by decide +kernel
theorem dX7_move_30 : decode cX7_move 30 = .ok (.sipush 148, 3) := by decide +kernel
theorem dX7_move_33 : decode cX7_move 33 = .ok (.bipush 12, 2) := by decide +kernel
theorem dX7_move_35 : decode cX7_move 35 = .ok (.iload_n 1, 1) := by decide +kernel
theorem dX7_move_36 : decode cX7_move 36 = .ok (.imul, 1) := by decide +kernel
theorem dX7_move_37 : decode cX7_move 37 = .ok (.iadd, 1) := by decide +kernel
theorem dX7_move_38 : decode cX7_move 38 = .ok (.iload_n 2, 1) := by decide +kernel
theorem dX7_move_39 : decode cX7_move 39 = .ok (.iadd, 1) := by decide +kernel
theorem dX7_move_40 : decode cX7_move 40 = .ok (.istore_n 3, 1) := by decide +kernel
theorem dX7_move_41 : decode cX7_move 41 = .ok (.aload_n 0, 1) := by decide +kernel
theorem dX7_move_42 : decode cX7_move 42 = .ok (.getfield 9, 3) := by decide +kernel
theorem dX7_move_45 : decode cX7_move 45 = .ok (.iload_n 3, 1) := by decide +kernel
theorem dX7_move_46 : decode cX7_move 46 = .ok (.iaload, 1) := by decide +kernel
theorem dX7_move_47 : decode cX7_move 47 = .ok (.iconst 1, 1) := by decide +kernel
theorem dX7_move_48 : decode cX7_move 48 = .ok (.isub, 1) := by decide +kernel
theorem dX7_move_49 : decode cX7_move 49 = .ok (.istore 4, 2) := by decide +kernel
theorem dX7_move_51 : decode cX7_move 51 = .ok (.iload 4, 2) := by decide +kernel
theorem dX7_move_53 : decode cX7_move 53 = .ok (.ifCond .lt 60, 3) := by decide +kernel
theorem dX7_move_56 : decode cX7_move 56 = .ok (.aload_n 0, 1) := by decide +kernel
theorem dX7_move_57 : decode cX7_move 57 = .ok (.getfield 16, 3) := by decide +kernel
theorem dX7_move_60 : decode cX7_move 60 = .ok (.iload 4, 2) := by decide +kernel
theorem dX7_move_62 : decode cX7_move 62 = .ok (.baload, 1) := by decide +kernel
theorem dX7_move_63 : decode cX7_move 63 = .ok (.ifCond .ne 50, 3) := by decide +kernel
theorem dX7_move_66 : decode cX7_move 66 = .ok (.aload_n 0, 1) := by decide +kernel
theorem dX7_move_67 : decode cX7_move 67 = .ok (.getfield 9, 3) := by decide +kernel
theorem dX7_move_70 : decode cX7_move 70 = .ok (.iload_n 3, 1) := by decide +kernel
theorem dX7_move_71 : decode cX7_move 71 = .ok (.iconst 1, 1) := by decide +kernel
theorem dX7_move_72 : decode cX7_move 72 = .ok (.iadd, 1) := by decide +kernel
theorem dX7_move_73 : decode cX7_move 73 = .ok (.iaload, 1) := by decide +kernel
theorem dX7_move_74 : decode cX7_move 74 = .ok (.ifCond .eq 6, 3) := by decide +kernel
theorem dX7_move_77 : decode cX7_move 77 = .ok (.goto 36, 3) := by decide +kernel
theorem dX7_move_80 : decode cX7_move 80 = .ok (.aload_n 0, 1) := by decide +kernel
theorem dX7_move_81 : decode cX7_move 81 = .ok (.getfield 9, 3) := by decide +kernel
theorem dX7_move_84 : decode cX7_move 84 = .ok (.iload_n 3, 1) := by decide +kernel
theorem dX7_move_85 : decode cX7_move 85 = .ok (.iconst 1, 1) := by decide +kernel
theorem dX7_move_86 : decode cX7_move 86 = .ok (.iadd, 1) := by decide +kernel
theorem dX7_move_87 : decode cX7_move 87 = .ok (.iload 4, 2) := by decide +kernel
theorem dX7_move_89 : decode cX7_move 89 = .ok (.iconst 1, 1) := by decide +kernel
theorem dX7_move_90 : decode cX7_move 90 = .ok (.iadd, 1) := by decide +kernel
theorem dX7_move_91 : decode cX7_move 91 = .ok (.iastore, 1) := by decide +kernel
theorem dX7_move_92 : decode cX7_move 92 = .ok (.aload_n 0, 1) := by decide +kernel
theorem dX7_move_93 : decode cX7_move 93 = .ok (.getfield 9, 3) := by decide +kernel
theorem dX7_move_96 : decode cX7_move 96 = .ok (.iload_n 3, 1) := by decide +kernel
theorem dX7_move_97 : decode cX7_move 97 = .ok (.iconst 0, 1) := by decide +kernel
theorem dX7_move_98 : decode cX7_move 98 = .ok (.iastore, 1) := by decide +kernel
theorem dX7_move_99 : decode cX7_move 99 = .ok (.aload_n 0, 1) := by decide +kernel
theorem dX7_move_100 : decode cX7_move 100 = .ok (.getfield 9, 3) := by decide +kernel
theorem dX7_move_103 : decode cX7_move 103 = .ok (.sipush 604, 3) := by decide +kernel
theorem dX7_move_106 : decode cX7_move 106 = .ok (.iload 4, 2) := by decide +kernel
theorem dX7_move_108 : decode cX7_move 108 = .ok (.iadd, 1) := by decide +kernel
theorem dX7_move_109 : decode cX7_move 109 = .ok (.iload_n 2, 1) := by decide +kernel
theorem dX7_move_110 : decode cX7_move 110 = .ok (.iconst 1, 1) := by decide +kernel
theorem dX7_move_111 : decode cX7_move 111 = .ok (.iadd, 1) := by decide +kernel
theorem dX7_move_112 : decode cX7_move 112 = .ok (.iastore, 1) := by decide +kernel
theorem dX7_move_113 : decode cX7_move 113 = .ok (.iinc 2 (-1), 3) := by decide +kernel
theorem dX7_move_116 : decode cX7_move 116 = .ok (.goto (-90), 3) := by decide +kernel
theorem dX7_move_119 : decode cX7_move 119 = .ok (.return_, 1) := by decide +kernel
theorem dX7_ready_0 : decode cX7_ready 0 = .ok (.aload_n 0, 1) := by decide +kernel
theorem dX7_ready_1 : decode cX7_ready 1 = .ok (.getfield 9, 3) := by decide +kernel
theorem dX7_ready_4 : decode cX7_ready 4 = .ok (.bipush 116, 2) := by decide +kernel
theorem dX7_ready_6 : decode cX7_ready 6 = .ok (.iload_n 1, 1) := by decide +kernel
theorem dX7_ready_7 : decode cX7_ready 7 = .ok (.iadd, 1) := by decide +kernel
theorem dX7_ready_8 : decode cX7_ready 8 = .ok (.iaload, 1) := by decide +kernel
theorem dX7_ready_9 : decode cX7_ready 9 = .ok (.iconst 1, 1) := by decide +kernel
theorem dX7_ready_10 : decode cX7_ready 10 = .ok (.if_icmp .ne 5, 3) := by decide +kernel
theorem dX7_ready_13 : decode cX7_ready 13 = .ok (.iconst (-1), 1) := by decide +kernel
theorem dX7_ready_14 : decode cX7_ready 14 = .ok (.ireturn, 1) := by decide +kernel
theorem dX7_ready_15 : decode cX7_ready 15 = .ok (.aload_n 0, 1) := by decide +kernel
theorem dX7_ready_16 : decode cX7_ready 16 = .ok (.getfield 9, 3) := by decide +kernel
theorem dX7_ready_19 : decode cX7_ready 19 = .ok (.sipush 148, 3) := by decide +kernel
theorem dX7_ready_22 : decode cX7_ready 22 = .ok (.bipush 12, 2) := by decide +kernel
theorem dX7_ready_24 : decode cX7_ready 24 = .ok (.iload_n 1, 1) := by decide +kernel
theorem dX7_ready_25 : decode cX7_ready 25 = .ok (.imul, 1) := by decide +kernel
theorem dX7_ready_26 : decode cX7_ready 26 = .ok (.iadd, 1) := by decide +kernel
theorem dX7_ready_27 : decode cX7_ready 27 = .ok (.aload_n 0, 1) := by decide +kernel
theorem dX7_ready_28 : decode cX7_ready 28 = .ok (.getfield 9, 3) := by decide +kernel
theorem dX7_ready_31 : decode cX7_ready 31 = .ok (.bipush 100, 2) := by decide +kernel
theorem dX7_ready_33 : decode cX7_ready 33 = .ok (.iload_n 1, 1) := by decide +kernel
theorem dX7_ready_34 : decode cX7_ready 34 = .ok (.iadd, 1) := by decide +kernel
theorem dX7_ready_35 : decode cX7_ready 35 = .ok (.iaload, 1) := by decide +kernel
theorem dX7_ready_36 : decode cX7_ready 36 = .ok (.iadd, 1) := by decide +kernel
theorem dX7_ready_37 : decode cX7_ready 37 = .ok (.iconst 1, 1) := by decide +kernel
theorem dX7_ready_38 : decode cX7_ready 38 = .ok (.isub, 1) := by decide +kernel
theorem dX7_ready_39 : decode cX7_ready 39 = .ok (.iaload, 1) := by decide +kernel
theorem dX7_ready_40 : decode cX7_ready 40 = .ok (.iconst 1, 1) := by decide +kernel
theorem dX7_ready_41 : decode cX7_ready 41 = .ok (.isub, 1) := by decide +kernel
theorem dX7_ready_42 : decode cX7_ready 42 = .ok (.istore_n 2, 1) := by decide +kernel
theorem dX7_ready_43 : decode cX7_ready 43 = .ok (.iload_n 2, 1) := by decide +kernel
theorem dX7_ready_44 : decode cX7_ready 44 = .ok (.ifCond .lt 12, 3) := by decide +kernel
theorem dX7_ready_47 : decode cX7_ready 47 = .ok (.aload_n 0, 1) := by decide +kernel
theorem dX7_ready_48 : decode cX7_ready 48 = .ok (.getfield 16, 3) := by decide +kernel
theorem dX7_ready_51 : decode cX7_ready 51 = .ok (.iload_n 2, 1) := by decide +kernel
theorem dX7_ready_52 : decode cX7_ready 52 = .ok (.baload, 1) := by decide +kernel
theorem dX7_ready_53 : decode cX7_ready 53 = .ok (.ifCond .eq 7, 3) := by decide +kernel
theorem dX7_ready_56 : decode cX7_ready 56 = .ok (.iconst (-1), 1) := by decide +kernel
theorem dX7_ready_57 : decode cX7_ready 57 = .ok (.goto 4, 3) := by decide +kernel
theorem dX7_ready_60 : decode cX7_ready 60 = .ok (.iload_n 2, 1) := by decide +kernel
theorem dX7_ready_61 : decode cX7_ready 61 = .ok (.ireturn, 1) := by decide +kernel
theorem dX7_takeFrom_0 : decode cX7_takeFrom 0 = .ok (.aload_n 0, 1) := by decide +kernel
theorem dX7_takeFrom_1 : decode cX7_takeFrom 1 = .ok (.iload_n 1, 1) := by decide +kernel
theorem dX7_takeFrom_2 : decode cX7_takeFrom 2 = .ok (.invokevirtual 100, 3) := by decide +kernel
theorem dX7_takeFrom_5 : decode cX7_takeFrom 5 = .ok (.istore 4, 2) := by decide +kernel
theorem dX7_takeFrom_7 : decode cX7_takeFrom 7 = .ok (.aload_n 0, 1) := by decide +kernel
theorem dX7_takeFrom_8 : decode cX7_takeFrom 8 = .ok (.getfield 9, 3) := by decide +kernel
theorem dX7_takeFrom_11 : decode cX7_takeFrom 11 = .ok (.sipush 148, 3) := by decide +kernel
theorem dX7_takeFrom_14 : decode cX7_takeFrom 14 = .ok (.bipush 12, 2) := by decide +kernel
theorem dX7_takeFrom_16 : decode cX7_takeFrom 16 = .ok (.iload_n 1, 1) := by decide +kernel
theorem dX7_takeFrom_17 : decode cX7_takeFrom 17 = .ok (.imul, 1) := by decide +kernel
theorem dX7_takeFrom_18 : decode cX7_takeFrom 18 = .ok (.iadd, 1) := by decide +kernel
theorem dX7_takeFrom_19 : decode cX7_takeFrom 19 = .ok (.aload_n 0, 1) := by decide +kernel
theorem dX7_takeFrom_20 : decode cX7_takeFrom 20 = .ok (.getfield 9, 3) := by decide +kernel
theorem dX7_takeFrom_23 : decode cX7_takeFrom 23 = .ok (.bipush 100, 2) := by decide +kernel
theorem dX7_takeFrom_25 : decode cX7_takeFrom 25 = .ok (.iload_n 1, 1) := by decide +kernel
theorem dX7_takeFrom_26 : decode cX7_takeFrom 26 = .ok (.iadd, 1) := by decide +kernel
theorem dX7_takeFrom_27 : decode cX7_takeFrom 27 = .ok (.iaload, 1) := by decide +kernel
theorem dX7_takeFrom_28 : decode cX7_takeFrom 28 = .ok (.iadd, 1) := by decide +kernel
theorem dX7_takeFrom_29 : decode cX7_takeFrom 29 = .ok (.iconst 1, 1) := by decide +kernel
theorem dX7_takeFrom_30 : decode cX7_takeFrom 30 = .ok (.isub, 1) := by decide +kernel
theorem dX7_takeFrom_31 : decode cX7_takeFrom 31 = .ok (.iconst 0, 1) := by decide +kernel
theorem dX7_takeFrom_32 : decode cX7_takeFrom 32 = .ok (.iastore, 1) := by decide +kernel
theorem dX7_takeFrom_33 : decode cX7_takeFrom 33 = .ok (.aload_n 0, 1) := by decide +kernel
theorem dX7_takeFrom_34 : decode cX7_takeFrom 34 = .ok (.iload 4, 2) := by decide +kernel
theorem dX7_takeFrom_36 : decode cX7_takeFrom 36 = .ok (.iload_n 3, 1) := by decide +kernel
theorem dX7_takeFrom_37 : decode cX7_takeFrom 37 = .ok (.iload_n 2, 1) := by decide +kernel
theorem dX7_takeFrom_38 : decode cX7_takeFrom 38 = .ok (.aload_n 0, 1) := by decide +kernel
theorem dX7_takeFrom_39 : decode cX7_takeFrom 39 = .ok (.getfield 9, 3) := by decide +kernel
theorem dX7_takeFrom_42 : decode cX7_takeFrom 42 = .ok (.iconst 4, 1) := by decide +kernel
theorem dX7_takeFrom_43 : decode cX7_takeFrom 43 = .ok (.iaload, 1) := by decide +kernel
theorem dX7_takeFrom_44 : decode cX7_takeFrom 44 = .ok (.invokevirtual 45, 3) := by decide +kernel
theorem dX7_takeFrom_47 : decode cX7_takeFrom 47 = .ok (.iload_n 3, 1) := by decide +kernel
theorem dX7_takeFrom_48 : decode cX7_takeFrom 48 = .ok (.iconst 2, 1) := by decide +kernel
theorem dX7_takeFrom_49 : decode cX7_takeFrom 49 = .ok (.if_icmp .ne 16, 3) := by decide +kernel
theorem dX7_takeFrom_52 : decode cX7_takeFrom 52 = .ok (.aload_n 0, 1) := by decide +kernel
theorem dX7_takeFrom_53 : decode cX7_takeFrom 53 = .ok (.getfield 9, 3) := by decide +kernel
theorem dX7_takeFrom_56 : decode cX7_takeFrom 56 = .ok (.bipush 32, 2) := by decide +kernel
theorem dX7_takeFrom_58 : decode cX7_takeFrom 58 = .ok (.iload_n 2, 1) := by decide +kernel
theorem dX7_takeFrom_59 : decode cX7_takeFrom 59 = .ok (.iadd, 1) := by decide +kernel
theorem dX7_takeFrom_60 : decode cX7_takeFrom 60 = .ok (.iload 4, 2) := by decide +kernel
theorem dX7_takeFrom_62 : decode cX7_takeFrom 62 = .ok (.iconst 1, 1) := by decide +kernel
theorem dX7_takeFrom_63 : decode cX7_takeFrom 63 = .ok (.iadd, 1) := by decide +kernel
theorem dX7_takeFrom_64 : decode cX7_takeFrom 64 = .ok (.iastore, 1) := by decide +kernel
theorem dX7_takeFrom_65 : decode cX7_takeFrom 65 = .ok (.aload_n 0, 1) := by decide +kernel
theorem dX7_takeFrom_66 : decode cX7_takeFrom 66 = .ok (.iload 4, 2) := by decide +kernel
theorem dX7_takeFrom_68 : decode cX7_takeFrom 68 = .ok (.iload_n 2, 1) := by decide +kernel
theorem dX7_takeFrom_69 : decode cX7_takeFrom 69 = .ok (.invokevirtual 91, 3) := by decide +kernel
theorem dX7_takeFrom_72 : decode cX7_takeFrom 72 = .ok (.return_, 1) := by decide +kernel
theorem dX7_readyInlet_0 : decode cX7_readyInlet 0 = .ok (.iconst 0, 1) := by decide +kernel
theorem dX7_readyInlet_1 : decode cX7_readyInlet 1 = .ok (.istore_n 2, 1) := by decide +kernel
theorem dX7_readyInlet_2 : decode cX7_readyInlet 2 = .ok (.iload_n 2, 1) := by decide +kernel
theorem dX7_readyInlet_3 : decode cX7_readyInlet 3 = .ok (.aload_n 0, 1) := by decide +kernel
theorem dX7_readyInlet_4 : decode cX7_readyInlet 4 = .ok (.getfield 9, 3) := by decide +kernel
theorem dX7_readyInlet_7 : decode cX7_readyInlet 7 = .ok (.iconst 1, 1) := by decide +kernel
theorem dX7_readyInlet_8 : decode cX7_readyInlet 8 = .ok (.iaload, 1) := by decide +kernel
theorem dX7_readyInlet_9 : decode cX7_readyInlet 9 = .ok (.if_icmp .ge 32, 3) := by decide +kernel
theorem dX7_readyInlet_12 : decode cX7_readyInlet 12 = .ok (.aload_n 0, 1) := by decide +kernel
theorem dX7_readyInlet_13 : decode cX7_readyInlet 13 = .ok (.getfield 9, 3) := by decide +kernel
theorem dX7_readyInlet_16 : decode cX7_readyInlet 16 = .ok (.bipush 84, 2) := by decide +kernel
theorem dX7_readyInlet_18 : decode cX7_readyInlet 18 = .ok (.iload_n 2, 1) := by decide +kernel
theorem dX7_readyInlet_19 : decode cX7_readyInlet 19 = .ok (.iadd, 1) := by decide +kernel
theorem dX7_readyInlet_20 : decode cX7_readyInlet 20 = .ok (.iaload, 1) := by decide +kernel
theorem dX7_readyInlet_21 : decode cX7_readyInlet 21 = .ok (.iload_n 1, 1) := by decide +kernel
theorem dX7_readyInlet_22 : decode cX7_readyInlet 22 = .ok (.if_icmp .ne 13, 3) := by decide +kernel
theorem dX7_readyInlet_25 : decode cX7_readyInlet 25 = .ok (.aload_n 0, 1) := by decide +kernel
theorem dX7_readyInlet_26 : decode cX7_readyInlet 26 = .ok (.iload_n 2, 1) := by decide +kernel
theorem dX7_readyInlet_27 : decode cX7_readyInlet 27 = .ok (.invokevirtual 100, 3) := by decide +kernel
theorem dX7_readyInlet_30 : decode cX7_readyInlet 30 = .ok (.ifCond .lt 5, 3) := by decide +kernel
theorem dX7_readyInlet_33 : decode cX7_readyInlet 33 = .ok (.iload_n 2, 1) := by decide +kernel
theorem dX7_readyInlet_34 : decode cX7_readyInlet 34 = .ok (.ireturn, 1) := by decide +kernel
theorem dX7_readyInlet_35 : decode cX7_readyInlet 35 = .ok (.iinc 2 1, 3) := by decide +kernel
theorem dX7_readyInlet_38 : decode cX7_readyInlet 38 = .ok (.goto (-36), 3) := by decide +kernel
theorem dX7_readyInlet_41 : decode cX7_readyInlet 41 = .ok (.iconst (-1), 1) := by decide +kernel
theorem dX7_readyInlet_42 : decode cX7_readyInlet 42 = .ok (.ireturn, 1) := by decide +kernel
theorem dX7_nextInlet_0 : decode cX7_nextInlet 0 = .ok (.iconst (-1), 1) := by decide +kernel
theorem dX7_nextInlet_1 : decode cX7_nextInlet 1 = .ok (.istore_n 3, 1) := by decide +kernel
theorem dX7_nextInlet_2 : decode cX7_nextInlet 2 = .ok (.aload_n 0, 1) := by decide +kernel
theorem dX7_nextInlet_3 : decode cX7_nextInlet 3 = .ok (.getfield 9, 3) := by decide +kernel
theorem dX7_nextInlet_6 : decode cX7_nextInlet 6 = .ok (.iconst 1, 1) := by decide +kernel
theorem dX7_nextInlet_7 : decode cX7_nextInlet 7 = .ok (.iaload, 1) := by decide +kernel
theorem dX7_nextInlet_8 : decode cX7_nextInlet 8 = .ok (.iconst 1, 1) := by decide +kernel
theorem dX7_nextInlet_9 : decode cX7_nextInlet 9 = .ok (.isub, 1) := by decide +kernel
theorem dX7_nextInlet_10 : decode cX7_nextInlet 10 = .ok (.istore 4, 2) := by decide +kernel
theorem dX7_nextInlet_12 : decode cX7_nextInlet 12 = .ok (.iload 4, 2) := by decide +kernel
theorem dX7_nextInlet_14 : decode cX7_nextInlet 14 = .ok (.ifCond .lt 30, 3) := by decide +kernel
theorem dX7_nextInlet_17 : decode cX7_nextInlet 17 = .ok (.aload_n 0, 1) := by decide +kernel
theorem dX7_nextInlet_18 : decode cX7_nextInlet 18 = .ok (.getfield 9, 3) := by decide +kernel
theorem dX7_nextInlet_21 : decode cX7_nextInlet 21 = .ok (.bipush 84, 2) := by decide +kernel
theorem dX7_nextInlet_23 : decode cX7_nextInlet 23 = .ok (.iload 4, 2) := by decide +kernel
theorem dX7_nextInlet_25 : decode cX7_nextInlet 25 = .ok (.iadd, 1) := by decide +kernel
theorem dX7_nextInlet_26 : decode cX7_nextInlet 26 = .ok (.iaload, 1) := by decide +kernel
theorem dX7_nextInlet_27 : decode cX7_nextInlet 27 = .ok (.iload_n 1, 1) := by decide +kernel
theorem dX7_nextInlet_28 : decode cX7_nextInlet 28 = .ok (.if_icmp .ne 8, 3) := by decide +kernel
theorem dX7_nextInlet_31 : decode cX7_nextInlet 31 = .ok (.iload 4, 2) := by decide +kernel
theorem dX7_nextInlet_33 : decode cX7_nextInlet 33 = .ok (.goto 4, 3) := by decide +kernel
theorem dX7_nextInlet_36 : decode cX7_nextInlet 36 = .ok (.iload_n 3, 1) := by decide +kernel
theorem dX7_nextInlet_37 : decode cX7_nextInlet 37 = .ok (.istore_n 3, 1) := by decide +kernel
theorem dX7_nextInlet_38 : decode cX7_nextInlet 38 = .ok (.iinc 4 (-1), 3) := by decide +kernel
theorem dX7_nextInlet_41 : decode cX7_nextInlet 41 = .ok (.goto (-29), 3) := by decide +kernel
theorem dX7_nextInlet_44 : decode cX7_nextInlet 44 = .ok (.iload_n 2, 1) := by decide +kernel
theorem dX7_nextInlet_45 : decode cX7_nextInlet 45 = .ok (.iconst 1, 1) := by decide +kernel
theorem dX7_nextInlet_46 : decode cX7_nextInlet 46 = .ok (.iadd, 1) := by decide +kernel
theorem dX7_nextInlet_47 : decode cX7_nextInlet 47 = .ok (.istore 4, 2) := by decide +kernel
theorem dX7_nextInlet_49 : decode cX7_nextInlet 49 = .ok (.iload 4, 2) := by decide +kernel
theorem dX7_nextInlet_51 : decode cX7_nextInlet 51 = .ok (.aload_n 0, 1) := by decide +kernel
theorem dX7_nextInlet_52 : decode cX7_nextInlet 52 = .ok (.getfield 9, 3) := by decide +kernel
theorem dX7_nextInlet_55 : decode cX7_nextInlet 55 = .ok (.iconst 1, 1) := by decide +kernel
theorem dX7_nextInlet_56 : decode cX7_nextInlet 56 = .ok (.iaload, 1) := by decide +kernel
theorem dX7_nextInlet_57 : decode cX7_nextInlet 57 = .ok (.if_icmp .ge 26, 3) := by decide +kernel
theorem dX7_nextInlet_60 : decode cX7_nextInlet 60 = .ok (.aload_n 0, 1) := by decide +kernel
theorem dX7_nextInlet_61 : decode cX7_nextInlet 61 = .ok (.getfield 9, 3) := by decide +kernel
theorem dX7_nextInlet_64 : decode cX7_nextInlet 64 = .ok (.bipush 84, 2) := by decide +kernel
theorem dX7_nextInlet_66 : decode cX7_nextInlet 66 = .ok (.iload 4, 2) := by decide +kernel
theorem dX7_nextInlet_68 : decode cX7_nextInlet 68 = .ok (.iadd, 1) := by decide +kernel
theorem dX7_nextInlet_69 : decode cX7_nextInlet 69 = .ok (.iaload, 1) := by decide +kernel
theorem dX7_nextInlet_70 : decode cX7_nextInlet 70 = .ok (.iload_n 1, 1) := by decide +kernel
theorem dX7_nextInlet_71 : decode cX7_nextInlet 71 = .ok (.if_icmp .ne 6, 3) := by decide +kernel
theorem dX7_nextInlet_74 : decode cX7_nextInlet 74 = .ok (.iload 4, 2) := by decide +kernel
theorem dX7_nextInlet_76 : decode cX7_nextInlet 76 = .ok (.ireturn, 1) := by decide +kernel
theorem dX7_nextInlet_77 : decode cX7_nextInlet 77 = .ok (.iinc 4 1, 3) := by decide +kernel
theorem dX7_nextInlet_80 : decode cX7_nextInlet 80 = .ok (.goto (-31), 3) := by decide +kernel
theorem dX7_nextInlet_83 : decode cX7_nextInlet 83 = .ok (.iload_n 3, 1) := by decide +kernel
theorem dX7_nextInlet_84 : decode cX7_nextInlet 84 = .ok (.ireturn, 1) := by decide +kernel
theorem dX7_inlets_0 : decode cX7_inlets 0 = .ok (.iconst 0, 1) := by decide +kernel
theorem dX7_inlets_1 : decode cX7_inlets 1 = .ok (.istore_n 2, 1) := by decide +kernel
theorem dX7_inlets_2 : decode cX7_inlets 2 = .ok (.iconst 0, 1) := by decide +kernel
theorem dX7_inlets_3 : decode cX7_inlets 3 = .ok (.istore_n 3, 1) := by decide +kernel
theorem dX7_inlets_4 : decode cX7_inlets 4 = .ok (.iload_n 3, 1) := by decide +kernel
theorem dX7_inlets_5 : decode cX7_inlets 5 = .ok (.aload_n 0, 1) := by decide +kernel
theorem dX7_inlets_6 : decode cX7_inlets 6 = .ok (.getfield 9, 3) := by decide +kernel
theorem dX7_inlets_9 : decode cX7_inlets 9 = .ok (.iconst 1, 1) := by decide +kernel
theorem dX7_inlets_10 : decode cX7_inlets 10 = .ok (.iaload, 1) := by decide +kernel
theorem dX7_inlets_11 : decode cX7_inlets 11 = .ok (.if_icmp .ge 30, 3) := by decide +kernel
theorem dX7_inlets_14 : decode cX7_inlets 14 = .ok (.iload_n 2, 1) := by decide +kernel
theorem dX7_inlets_15 : decode cX7_inlets 15 = .ok (.aload_n 0, 1) := by decide +kernel
theorem dX7_inlets_16 : decode cX7_inlets 16 = .ok (.getfield 9, 3) := by decide +kernel
theorem dX7_inlets_19 : decode cX7_inlets 19 = .ok (.bipush 84, 2) := by decide +kernel
theorem dX7_inlets_21 : decode cX7_inlets 21 = .ok (.iload_n 3, 1) := by decide +kernel
theorem dX7_inlets_22 : decode cX7_inlets 22 = .ok (.iadd, 1) := by decide +kernel
theorem dX7_inlets_23 : decode cX7_inlets 23 = .ok (.iaload, 1) := by decide +kernel
theorem dX7_inlets_24 : decode cX7_inlets 24 = .ok (.iload_n 1, 1) := by decide +kernel
theorem dX7_inlets_25 : decode cX7_inlets 25 = .ok (.if_icmp .ne 7, 3) := by decide +kernel
theorem dX7_inlets_28 : decode cX7_inlets 28 = .ok (.iconst 1, 1) := by decide +kernel
theorem dX7_inlets_29 : decode cX7_inlets 29 = .ok (.goto 4, 3) := by decide +kernel
theorem dX7_inlets_32 : decode cX7_inlets 32 = .ok (.iconst 0, 1) := by decide +kernel
theorem dX7_inlets_33 : decode cX7_inlets 33 = .ok (.iadd, 1) := by decide +kernel
theorem dX7_inlets_34 : decode cX7_inlets 34 = .ok (.istore_n 2, 1) := by decide +kernel
theorem dX7_inlets_35 : decode cX7_inlets 35 = .ok (.iinc 3 1, 3) := by decide +kernel
theorem dX7_inlets_38 : decode cX7_inlets 38 = .ok (.goto (-34), 3) := by decide +kernel
theorem dX7_inlets_41 : decode cX7_inlets 41 = .ok (.iload_n 2, 1) := by decide +kernel
theorem dX7_inlets_42 : decode cX7_inlets 42 = .ok (.ireturn, 1) := by decide +kernel
theorem dX7_merge_0 : decode cX7_merge 0 = .ok (.aload_n 0, 1) := by decide +kernel
theorem dX7_merge_1 : decode cX7_merge 1 = .ok (.iload_n 1, 1) := by decide +kernel
theorem dX7_merge_2 : decode cX7_merge 2 = .ok (.invokevirtual 103, 3) := by decide +kernel
theorem dX7_merge_5 : decode cX7_merge 5 = .ok (.istore_n 2, 1) := by decide +kernel
theorem dX7_merge_6 : decode cX7_merge 6 = .ok (.iconst 0, 1) := by decide +kernel
theorem dX7_merge_7 : decode cX7_merge 7 = .ok (.istore_n 3, 1) := by decide +kernel
theorem dX7_merge_8 : decode cX7_merge 8 = .ok (.iload_n 3, 1) := by decide +kernel
theorem dX7_merge_9 : decode cX7_merge 9 = .ok (.iload_n 2, 1) := by decide +kernel
theorem dX7_merge_10 : decode cX7_merge 10 = .ok (.if_icmp .gt 124, 3) := by decide +kernel
theorem dX7_merge_13 : decode cX7_merge 13 = .ok (.iload_n 2, 1) := by decide +kernel
theorem dX7_merge_14 : decode cX7_merge 14 = .ok (.ifCond .le 120, 3) := by decide +kernel
theorem dX7_merge_17 : decode cX7_merge 17 = .ok (.iload_n 3, 1) := by decide +kernel
theorem dX7_merge_18 : decode cX7_merge 18 = .ok (.ifCond .le 54, 3) := by decide +kernel
theorem dX7_merge_21 : decode cX7_merge 21 = .ok (.aload_n 0, 1) := by decide +kernel
theorem dX7_merge_22 : decode cX7_merge 22 = .ok (.iload_n 1, 1) := by decide +kernel
theorem dX7_merge_23 : decode cX7_merge 23 = .ok (.aload_n 0, 1) := by decide +kernel
theorem dX7_merge_24 : decode cX7_merge 24 = .ok (.getfield 9, 3) := by decide +kernel
theorem dX7_merge_27 : decode cX7_merge 27 = .ok (.bipush 44, 2) := by decide +kernel
theorem dX7_merge_29 : decode cX7_merge 29 = .ok (.iload_n 1, 1) := by decide +kernel
theorem dX7_merge_30 : decode cX7_merge 30 = .ok (.iadd, 1) := by decide +kernel
theorem dX7_merge_31 : decode cX7_merge 31 = .ok (.iaload, 1) := by decide +kernel
theorem dX7_merge_32 : decode cX7_merge 32 = .ok (.iconst 1, 1) := by decide +kernel
theorem dX7_merge_33 : decode cX7_merge 33 = .ok (.isub, 1) := by decide +kernel
theorem dX7_merge_34 : decode cX7_merge 34 = .ok (.invokevirtual 106, 3) := by decide +kernel
theorem dX7_merge_37 : decode cX7_merge 37 = .ok (.istore 4, 2) := by decide +kernel
theorem dX7_merge_39 : decode cX7_merge 39 = .ok (.aload_n 0, 1) := by decide +kernel
theorem dX7_merge_40 : decode cX7_merge 40 = .ok (.getfield 9, 3) := by decide +kernel
theorem dX7_merge_43 : decode cX7_merge 43 = .ok (.bipush 44, 2) := by decide +kernel
theorem dX7_merge_45 : decode cX7_merge 45 = .ok (.iload_n 1, 1) := by decide +kernel
theorem dX7_merge_46 : decode cX7_merge 46 = .ok (.iadd, 1) := by decide +kernel
theorem dX7_merge_47 : decode cX7_merge 47 = .ok (.iload 4, 2) := by decide +kernel
theorem dX7_merge_49 : decode cX7_merge 49 = .ok (.iconst 1, 1) := by decide +kernel
theorem dX7_merge_50 : decode cX7_merge 50 = .ok (.iadd, 1) := by decide +kernel
theorem dX7_merge_51 : decode cX7_merge 51 = .ok (.iastore, 1) := by decide +kernel
theorem dX7_merge_52 : decode cX7_merge 52 = .ok (.aload_n 0, 1) := by decide +kernel
theorem dX7_merge_53 : decode cX7_merge 53 = .ok (.getfield 9, 3) := by decide +kernel
theorem dX7_merge_56 : decode cX7_merge 56 = .ok (.bipush 56, 2) := by decide +kernel
theorem dX7_merge_58 : decode cX7_merge 58 = .ok (.iload_n 1, 1) := by decide +kernel
theorem dX7_merge_59 : decode cX7_merge 59 = .ok (.iadd, 1) := by decide +kernel
theorem dX7_merge_60 : decode cX7_merge 60 = .ok (.aload_n 0, 1) := by decide +kernel
theorem dX7_merge_61 : decode cX7_merge 61 = .ok (.getfield 9, 3) := by decide +kernel
theorem dX7_merge_64 : decode cX7_merge 64 = .ok (.sipush 132, 3) := by decide +kernel
theorem dX7_merge_67 : decode cX7_merge 67 = .ok (.iload 4, 2) := by decide +kernel
theorem dX7_merge_69 : decode cX7_merge 69 = .ok (.iadd, 1) := by decide +kernel
theorem dX7_merge_70 : decode cX7_merge 70 = .ok (.iaload, 1) := by decide +kernel
theorem dX7_merge_71 : decode cX7_merge 71 = .ok (.iastore, 1) := by decide +kernel
theorem dX7_merge_72 : decode cX7_merge 72 = .ok (.aload_n 0, 1) := by decide +kernel
theorem dX7_merge_73 : decode cX7_merge 73 = .ok (.getfield 9, 3) := by decide +kernel
theorem dX7_merge_76 : decode cX7_merge 76 = .ok (.bipush 44, 2) := by decide +kernel
theorem dX7_merge_78 : decode cX7_merge 78 = .ok (.iload_n 1, 1) := by decide +kernel
theorem dX7_merge_79 : decode cX7_merge 79 = .ok (.iadd, 1) := by decide +kernel
theorem dX7_merge_80 : decode cX7_merge 80 = .ok (.iaload, 1) := by decide +kernel
theorem dX7_merge_81 : decode cX7_merge 81 = .ok (.iconst 1, 1) := by decide +kernel
theorem dX7_merge_82 : decode cX7_merge 82 = .ok (.isub, 1) := by decide +kernel
theorem dX7_merge_83 : decode cX7_merge 83 = .ok (.istore 4, 2) := by decide +kernel
theorem dX7_merge_85 : decode cX7_merge 85 = .ok (.aload_n 0, 1) := by decide +kernel
theorem dX7_merge_86 : decode cX7_merge 86 = .ok (.getfield 9, 3) := by decide +kernel
theorem dX7_merge_89 : decode cX7_merge 89 = .ok (.bipush 56, 2) := by decide +kernel
theorem dX7_merge_91 : decode cX7_merge 91 = .ok (.iload_n 1, 1) := by decide +kernel
theorem dX7_merge_92 : decode cX7_merge 92 = .ok (.iadd, 1) := by decide +kernel
theorem dX7_merge_93 : decode cX7_merge 93 = .ok (.iaload, 1) := by decide +kernel
theorem dX7_merge_94 : decode cX7_merge 94 = .ok (.ifCond .le 34, 3) := by decide +kernel
theorem dX7_merge_97 : decode cX7_merge 97 = .ok (.aload_n 0, 1) := by decide +kernel
theorem dX7_merge_98 : decode cX7_merge 98 = .ok (.iload 4, 2) := by decide +kernel
theorem dX7_merge_100 : decode cX7_merge 100 = .ok (.invokevirtual 100, 3) := by decide +kernel
theorem dX7_merge_103 : decode cX7_merge 103 = .ok (.ifCond .lt 25, 3) := by decide +kernel
theorem dX7_merge_106 : decode cX7_merge 106 = .ok (.aload_n 0, 1) := by decide +kernel
theorem dX7_merge_107 : decode cX7_merge 107 = .ok (.getfield 9, 3) := by decide +kernel
theorem dX7_merge_110 : decode cX7_merge 110 = .ok (.bipush 56, 2) := by decide +kernel
theorem dX7_merge_112 : decode cX7_merge 112 = .ok (.iload_n 1, 1) := by decide +kernel
theorem dX7_merge_113 : decode cX7_merge 113 = .ok (.iadd, 1) := by decide +kernel
theorem dX7_merge_114 : decode cX7_merge 114 = .ok (.dup2, 1) := by decide +kernel
theorem dX7_merge_115 : decode cX7_merge 115 = .ok (.iaload, 1) := by decide +kernel
theorem dX7_merge_116 : decode cX7_merge 116 = .ok (.iconst 1, 1) := by decide +kernel
theorem dX7_merge_117 : decode cX7_merge 117 = .ok (.isub, 1) := by decide +kernel
theorem dX7_merge_118 : decode cX7_merge 118 = .ok (.iastore, 1) := by decide +kernel
theorem dX7_merge_119 : decode cX7_merge 119 = .ok (.aload_n 0, 1) := by decide +kernel
theorem dX7_merge_120 : decode cX7_merge 120 = .ok (.iload 4, 2) := by decide +kernel
theorem dX7_merge_122 : decode cX7_merge 122 = .ok (.iload_n 1, 1) := by decide +kernel
theorem dX7_merge_123 : decode cX7_merge 123 = .ok (.iconst 2, 1) := by decide +kernel
theorem dX7_merge_124 : decode cX7_merge 124 = .ok (.invokevirtual 109, 3) := by decide +kernel
theorem dX7_merge_127 : decode cX7_merge 127 = .ok (.return_, 1) := by decide +kernel
theorem dX7_merge_128 : decode cX7_merge 128 = .ok (.iinc 3 1, 3) := by decide +kernel
theorem dX7_merge_131 : decode cX7_merge 131 = .ok (.goto (-123), 3) := by decide +kernel
theorem dX7_merge_134 : decode cX7_merge 134 = .ok (.return_, 1) := by decide +kernel
theorem dX7_storedAt_0 : decode cX7_storedAt 0 = .ok (.iconst 0, 1) := by decide +kernel
theorem dX7_storedAt_1 : decode cX7_storedAt 1 = .ok (.istore_n 2, 1) := by decide +kernel
theorem dX7_storedAt_2 : decode cX7_storedAt 2 = .ok (.iconst 0, 1) := by decide +kernel
theorem dX7_storedAt_3 : decode cX7_storedAt 3 = .ok (.istore_n 3, 1) := by decide +kernel
theorem dX7_storedAt_4 : decode cX7_storedAt 4 = .ok (.iload_n 3, 1) := by decide +kernel
theorem dX7_storedAt_5 : decode cX7_storedAt 5 = .ok (.aload_n 0, 1) := by decide +kernel
theorem dX7_storedAt_6 : decode cX7_storedAt 6 = .ok (.getfield 9, 3) := by decide +kernel
theorem dX7_storedAt_9 : decode cX7_storedAt 9 = .ok (.iconst 3, 1) := by decide +kernel
theorem dX7_storedAt_10 : decode cX7_storedAt 10 = .ok (.iaload, 1) := by decide +kernel
theorem dX7_storedAt_11 : decode cX7_storedAt 11 = .ok (.if_icmp .ge 45, 3) := by decide +kernel
theorem dX7_storedAt_14 : decode cX7_storedAt 14 = .ok (.iload_n 2, 1) := by decide +kernel
theorem dX7_storedAt_15 : decode cX7_storedAt 15 = .ok (.aload_n 0, 1) := by decide +kernel
theorem dX7_storedAt_16 : decode cX7_storedAt 16 = .ok (.getfield 9, 3) := by decide +kernel
theorem dX7_storedAt_19 : decode cX7_storedAt 19 = .ok (.sipush 484, 3) := by decide +kernel
theorem dX7_storedAt_22 : decode cX7_storedAt 22 = .ok (.iload_n 3, 1) := by decide +kernel
theorem dX7_storedAt_23 : decode cX7_storedAt 23 = .ok (.iadd, 1) := by decide +kernel
theorem dX7_storedAt_24 : decode cX7_storedAt 24 = .ok (.iaload, 1) := by decide +kernel
theorem dX7_storedAt_25 : decode cX7_storedAt 25 = .ok (.iconst 3, 1) := by decide +kernel
theorem dX7_storedAt_26 : decode cX7_storedAt 26 = .ok (.if_icmp .ne 21, 3) := by decide +kernel
theorem dX7_storedAt_29 : decode cX7_storedAt 29 = .ok (.aload_n 0, 1) := by decide +kernel
theorem dX7_storedAt_30 : decode cX7_storedAt 30 = .ok (.getfield 9, 3) := by decide +kernel
theorem dX7_storedAt_33 : decode cX7_storedAt 33 = .ok (.sipush 544, 3) := by decide +kernel
theorem dX7_storedAt_36 : decode cX7_storedAt 36 = .ok (.iload_n 3, 1) := by decide +kernel
theorem dX7_storedAt_37 : decode cX7_storedAt 37 = .ok (.iadd, 1) := by decide +kernel
theorem dX7_storedAt_38 : decode cX7_storedAt 38 = .ok (.iaload, 1) := by decide +kernel
theorem dX7_storedAt_39 : decode cX7_storedAt 39 = .ok (.iload_n 1, 1) := by decide +kernel
theorem dX7_storedAt_40 : decode cX7_storedAt 40 = .ok (.if_icmp .ne 7, 3) := by decide +kernel
theorem dX7_storedAt_43 : decode cX7_storedAt 43 = .ok (.iconst 1, 1) := by decide +kernel
theorem dX7_storedAt_44 : decode cX7_storedAt 44 = .ok (.goto 4, 3) := by decide +kernel
theorem dX7_storedAt_47 : decode cX7_storedAt 47 = .ok (.iconst 0, 1) := by decide +kernel
theorem dX7_storedAt_48 : decode cX7_storedAt 48 = .ok (.iadd, 1) := by decide +kernel
theorem dX7_storedAt_49 : decode cX7_storedAt 49 = .ok (.istore_n 2, 1) := by decide +kernel
theorem dX7_storedAt_50 : decode cX7_storedAt 50 = .ok (.iinc 3 1, 3) := by decide +kernel
theorem dX7_storedAt_53 : decode cX7_storedAt 53 = .ok (.goto (-49), 3) := by decide +kernel
theorem dX7_storedAt_56 : decode cX7_storedAt 56 = .ok (.iload_n 2, 1) := by decide +kernel
theorem dX7_storedAt_57 : decode cX7_storedAt 57 = .ok (.ireturn, 1) := by decide +kernel
theorem dX7_takeAt_0 : decode cX7_takeAt 0 = .ok (.aload_n 0, 1) := by decide +kernel
theorem dX7_takeAt_1 : decode cX7_takeAt 1 = .ok (.iload_n 1, 1) := by decide +kernel
theorem dX7_takeAt_2 : decode cX7_takeAt 2 = .ok (.invokevirtual 39, 3) := by decide +kernel
theorem dX7_takeAt_5 : decode cX7_takeAt 5 = .ok (.istore_n 2, 1) := by decide +kernel
theorem dX7_takeAt_6 : decode cX7_takeAt 6 = .ok (.iload_n 2, 1) := by decide +kernel
theorem dX7_takeAt_7 : decode cX7_takeAt 7 = .ok (.iconst 5, 1) := by decide +kernel
theorem dX7_takeAt_8 : decode cX7_takeAt 8 = .ok (.if_icmp .ne 123, 3) := by decide +kernel
theorem dX7_takeAt_11 : decode cX7_takeAt 11 = .ok (.iconst 0, 1) := by decide +kernel
theorem dX7_takeAt_12 : decode cX7_takeAt 12 = .ok (.istore_n 3, 1) := by decide +kernel
theorem dX7_takeAt_13 : decode cX7_takeAt 13 = .ok (.iload_n 3, 1) := by decide +kernel
theorem dX7_takeAt_14 : decode cX7_takeAt 14 = .ok (.aload_n 0, 1) := by decide +kernel
theorem dX7_takeAt_15 : decode cX7_takeAt 15 = .ok (.getfield 9, 3) := by decide +kernel
theorem dX7_takeAt_18 : decode cX7_takeAt 18 = .ok (.iconst 1, 1) := by decide +kernel
theorem dX7_takeAt_19 : decode cX7_takeAt 19 = .ok (.iaload, 1) := by decide +kernel
theorem dX7_takeAt_20 : decode cX7_takeAt 20 = .ok (.if_icmp .ge 110, 3) := by decide +kernel
theorem dX7_takeAt_23 : decode cX7_takeAt 23 = .ok (.aload_n 0, 1) := by decide +kernel
theorem dX7_takeAt_24 : decode cX7_takeAt 24 = .ok (.getfield 9, 3) := by decide +kernel
theorem dX7_takeAt_27 : decode cX7_takeAt 27 = .ok (.bipush 84, 2) := by decide +kernel
theorem dX7_takeAt_29 : decode cX7_takeAt 29 = .ok (.iload_n 3, 1) := by decide +kernel
theorem dX7_takeAt_30 : decode cX7_takeAt 30 = .ok (.iadd, 1) := by decide +kernel
theorem dX7_takeAt_31 : decode cX7_takeAt 31 = .ok (.iaload, 1) := by decide +kernel
theorem dX7_takeAt_32 : decode cX7_takeAt 32 = .ok (.iload_n 1, 1) := by decide +kernel
theorem dX7_takeAt_33 : decode cX7_takeAt 33 = .ok (.if_icmp .ne 91, 3) := by decide +kernel
theorem dX7_takeAt_36 : decode cX7_takeAt 36 = .ok (.aload_n 0, 1) := by decide +kernel
theorem dX7_takeAt_37 : decode cX7_takeAt 37 = .ok (.iload_n 3, 1) := by decide +kernel
theorem dX7_takeAt_38 : decode cX7_takeAt 38 = .ok (.invokevirtual 100, 3) := by decide +kernel
theorem dX7_takeAt_41 : decode cX7_takeAt 41 = .ok (.ifCond .lt 83, 3) := by decide +kernel
theorem dX7_takeAt_44 : decode cX7_takeAt 44 = .ok (.aload_n 0, 1) := by decide +kernel
theorem dX7_takeAt_45 : decode cX7_takeAt 45 = .ok (.getfield 9, 3) := by decide +kernel
theorem dX7_takeAt_48 : decode cX7_takeAt 48 = .ok (.sipush 364, 3) := by decide +kernel
theorem dX7_takeAt_51 : decode cX7_takeAt 51 = .ok (.aload_n 0, 1) := by decide +kernel
theorem dX7_takeAt_52 : decode cX7_takeAt 52 = .ok (.iload_n 3, 1) := by decide +kernel
theorem dX7_takeAt_53 : decode cX7_takeAt 53 = .ok (.invokevirtual 100, 3) := by decide +kernel
theorem dX7_takeAt_56 : decode cX7_takeAt 56 = .ok (.iadd, 1) := by decide +kernel
theorem dX7_takeAt_57 : decode cX7_takeAt 57 = .ok (.iaload, 1) := by decide +kernel
theorem dX7_takeAt_58 : decode cX7_takeAt 58 = .ok (.istore 4, 2) := by decide +kernel
theorem dX7_takeAt_60 : decode cX7_takeAt 60 = .ok (.aload_n 0, 1) := by decide +kernel
theorem dX7_takeAt_61 : decode cX7_takeAt 61 = .ok (.getfield 9, 3) := by decide +kernel
theorem dX7_takeAt_64 : decode cX7_takeAt 64 = .ok (.sipush 340, 3) := by decide +kernel
theorem dX7_takeAt_67 : decode cX7_takeAt 67 = .ok (.iload 4, 2) := by decide +kernel
theorem dX7_takeAt_69 : decode cX7_takeAt 69 = .ok (.iadd, 1) := by decide +kernel
theorem dX7_takeAt_70 : decode cX7_takeAt 70 = .ok (.iaload, 1) := by decide +kernel
theorem dX7_takeAt_71 : decode cX7_takeAt 71 = .ok (.iload_n 1, 1) := by decide +kernel
theorem dX7_takeAt_72 : decode cX7_takeAt 72 = .ok (.if_icmp .ne 7, 3) := by decide +kernel
theorem dX7_takeAt_75 : decode cX7_takeAt 75 = .ok (.iconst 1, 1) := by decide +kernel
theorem dX7_takeAt_76 : decode cX7_takeAt 76 = .ok (.goto 4, 3) := by decide +kernel
theorem dX7_takeAt_79 : decode cX7_takeAt 79 = .ok (.iconst 0, 1) := by decide +kernel
theorem dX7_takeAt_80 : decode cX7_takeAt 80 = .ok (.istore 5, 2) := by decide +kernel
theorem dX7_takeAt_82 : decode cX7_takeAt 82 = .ok (.aload_n 0, 1) := by decide +kernel
theorem dX7_takeAt_83 : decode cX7_takeAt 83 = .ok (.iload_n 3, 1) := by decide +kernel
theorem dX7_takeAt_84 : decode cX7_takeAt 84 = .ok (.iload_n 1, 1) := by decide +kernel
theorem dX7_takeAt_85 : decode cX7_takeAt 85 = .ok (.iload 5, 2) := by decide +kernel
theorem dX7_takeAt_87 : decode cX7_takeAt 87 = .ok (.ifCond .ne 8, 3) := by decide +kernel
theorem dX7_takeAt_90 : decode cX7_takeAt 90 = .ok (.bipush 7, 2) := by decide +kernel
theorem dX7_takeAt_92 : decode cX7_takeAt 92 = .ok (.goto 29, 3) := by decide +kernel
theorem dX7_takeAt_95 : decode cX7_takeAt 95 = .ok (.aload_n 0, 1) := by decide +kernel
theorem dX7_takeAt_96 : decode cX7_takeAt 96 = .ok (.getfield 9, 3) := by decide +kernel
theorem dX7_takeAt_99 : decode cX7_takeAt 99 = .ok (.iconst 4, 1) := by decide +kernel
theorem dX7_takeAt_100 : decode cX7_takeAt 100 = .ok (.iaload, 1) := by decide +kernel
theorem dX7_takeAt_101 : decode cX7_takeAt 101 = .ok (.aload_n 0, 1) := by decide +kernel
theorem dX7_takeAt_102 : decode cX7_takeAt 102 = .ok (.getfield 9, 3) := by decide +kernel
theorem dX7_takeAt_105 : decode cX7_takeAt 105 = .ok (.sipush 356, 3) := by decide +kernel
theorem dX7_takeAt_108 : decode cX7_takeAt 108 = .ok (.iload 4, 2) := by decide +kernel
theorem dX7_takeAt_110 : decode cX7_takeAt 110 = .ok (.iadd, 1) := by decide +kernel
theorem dX7_takeAt_111 : decode cX7_takeAt 111 = .ok (.iaload, 1) := by decide +kernel
theorem dX7_takeAt_112 : decode cX7_takeAt 112 = .ok (.if_icmp .ge 7, 3) := by decide +kernel
theorem dX7_takeAt_115 : decode cX7_takeAt 115 = .ok (.iconst 5, 1) := by decide +kernel
theorem dX7_takeAt_116 : decode cX7_takeAt 116 = .ok (.goto 5, 3) := by decide +kernel
theorem dX7_takeAt_119 : decode cX7_takeAt 119 = .ok (.bipush 6, 2) := by decide +kernel
theorem dX7_takeAt_121 : decode cX7_takeAt 121 = .ok (.invokevirtual 109, 3) := by decide +kernel
theorem dX7_takeAt_124 : decode cX7_takeAt 124 = .ok (.iinc 3 1, 3) := by decide +kernel
theorem dX7_takeAt_127 : decode cX7_takeAt 127 = .ok (.goto (-114), 3) := by decide +kernel
theorem dX7_takeAt_130 : decode cX7_takeAt 130 = .ok (.return_, 1) := by decide +kernel
theorem dX7_takeAt_131 : decode cX7_takeAt 131 = .ok (.iload_n 2, 1) := by decide +kernel
theorem dX7_takeAt_132 : decode cX7_takeAt 132 = .ok (.iconst 4, 1) := by decide +kernel
theorem dX7_takeAt_133 : decode cX7_takeAt 133 = .ok (.if_icmp .ne 38, 3) := by decide +kernel
theorem dX7_takeAt_136 : decode cX7_takeAt 136 = .ok (.aload_n 0, 1) := by decide +kernel
theorem dX7_takeAt_137 : decode cX7_takeAt 137 = .ok (.iload_n 1, 1) := by decide +kernel
theorem dX7_takeAt_138 : decode cX7_takeAt 138 = .ok (.invokevirtual 113, 3) := by decide +kernel
theorem dX7_takeAt_141 : decode cX7_takeAt 141 = .ok (.istore_n 3, 1) := by decide +kernel
theorem dX7_takeAt_142 : decode cX7_takeAt 142 = .ok (.iload_n 3, 1) := by decide +kernel
theorem dX7_takeAt_143 : decode cX7_takeAt 143 = .ok (.ifCond .lt 27, 3) := by decide +kernel
theorem dX7_takeAt_146 : decode cX7_takeAt 146 = .ok (.aload_n 0, 1) := by decide +kernel
theorem dX7_takeAt_147 : decode cX7_takeAt 147 = .ok (.iload_n 1, 1) := by decide +kernel
theorem dX7_takeAt_148 : decode cX7_takeAt 148 = .ok (.invokevirtual 116, 3) := by decide +kernel
theorem dX7_takeAt_151 : decode cX7_takeAt 151 = .ok (.aload_n 0, 1) := by decide +kernel
theorem dX7_takeAt_152 : decode cX7_takeAt 152 = .ok (.getfield 9, 3) := by decide +kernel
theorem dX7_takeAt_155 : decode cX7_takeAt 155 = .ok (.bipush 20, 2) := by decide +kernel
theorem dX7_takeAt_157 : decode cX7_takeAt 157 = .ok (.iload_n 1, 1) := by decide +kernel
theorem dX7_takeAt_158 : decode cX7_takeAt 158 = .ok (.iadd, 1) := by decide +kernel
theorem dX7_takeAt_159 : decode cX7_takeAt 159 = .ok (.iaload, 1) := by decide +kernel
theorem dX7_takeAt_160 : decode cX7_takeAt 160 = .ok (.if_icmp .ge 10, 3) := by decide +kernel
theorem dX7_takeAt_163 : decode cX7_takeAt 163 = .ok (.aload_n 0, 1) := by decide +kernel
theorem dX7_takeAt_164 : decode cX7_takeAt 164 = .ok (.iload_n 3, 1) := by decide +kernel
theorem dX7_takeAt_165 : decode cX7_takeAt 165 = .ok (.iload_n 1, 1) := by decide +kernel
theorem dX7_takeAt_166 : decode cX7_takeAt 166 = .ok (.iconst 3, 1) := by decide +kernel
theorem dX7_takeAt_167 : decode cX7_takeAt 167 = .ok (.invokevirtual 109, 3) := by decide +kernel
theorem dX7_takeAt_170 : decode cX7_takeAt 170 = .ok (.return_, 1) := by decide +kernel
theorem dX7_takeAt_171 : decode cX7_takeAt 171 = .ok (.iload_n 2, 1) := by decide +kernel
theorem dX7_takeAt_172 : decode cX7_takeAt 172 = .ok (.ifCond .eq 15, 3) := by decide +kernel
theorem dX7_takeAt_175 : decode cX7_takeAt 175 = .ok (.aload_n 0, 1) := by decide +kernel
theorem dX7_takeAt_176 : decode cX7_takeAt 176 = .ok (.getfield 9, 3) := by decide +kernel
theorem dX7_takeAt_179 : decode cX7_takeAt 179 = .ok (.bipush 32, 2) := by decide +kernel
theorem dX7_takeAt_181 : decode cX7_takeAt 181 = .ok (.iload_n 1, 1) := by decide +kernel
theorem dX7_takeAt_182 : decode cX7_takeAt 182 = .ok (.iadd, 1) := by decide +kernel
theorem dX7_takeAt_183 : decode cX7_takeAt 183 = .ok (.iaload, 1) := by decide +kernel
theorem dX7_takeAt_184 : decode cX7_takeAt 184 = .ok (.ifCond .eq 4, 3) := by decide +kernel
theorem dX7_takeAt_187 : decode cX7_takeAt 187 = .ok (.return_, 1) := by decide +kernel
theorem dX7_takeAt_188 : decode cX7_takeAt 188 = .ok (.iload_n 2, 1) := by decide +kernel
theorem dX7_takeAt_189 : decode cX7_takeAt 189 = .ok (.iconst 1, 1) := by decide +kernel
theorem dX7_takeAt_190 : decode cX7_takeAt 190 = .ok (.if_icmp .ne 9, 3) := by decide +kernel
theorem dX7_takeAt_193 : decode cX7_takeAt 193 = .ok (.aload_n 0, 1) := by decide +kernel
theorem dX7_takeAt_194 : decode cX7_takeAt 194 = .ok (.iload_n 1, 1) := by decide +kernel
theorem dX7_takeAt_195 : decode cX7_takeAt 195 = .ok (.invokevirtual 119, 3) := by decide +kernel
theorem dX7_takeAt_198 : decode cX7_takeAt 198 = .ok (.return_, 1) := by decide +kernel
theorem dX7_takeAt_199 : decode cX7_takeAt 199 = .ok (.aload_n 0, 1) := by decide +kernel
theorem dX7_takeAt_200 : decode cX7_takeAt 200 = .ok (.iload_n 1, 1) := by decide +kernel
theorem dX7_takeAt_201 : decode cX7_takeAt 201 = .ok (.invokevirtual 113, 3) := by decide +kernel
theorem dX7_takeAt_204 : decode cX7_takeAt 204 = .ok (.istore_n 3, 1) := by decide +kernel
theorem dX7_takeAt_205 : decode cX7_takeAt 205 = .ok (.iload_n 3, 1) := by decide +kernel
theorem dX7_takeAt_206 : decode cX7_takeAt 206 = .ok (.ifCond .lt 10, 3) := by decide +kernel
theorem dX7_takeAt_209 : decode cX7_takeAt 209 = .ok (.aload_n 0, 1) := by decide +kernel
theorem dX7_takeAt_210 : decode cX7_takeAt 210 = .ok (.iload_n 3, 1) := by decide +kernel
theorem dX7_takeAt_211 : decode cX7_takeAt 211 = .ok (.iload_n 1, 1) := by decide +kernel
theorem dX7_takeAt_212 : decode cX7_takeAt 212 = .ok (.iconst 2, 1) := by decide +kernel
theorem dX7_takeAt_213 : decode cX7_takeAt 213 = .ok (.invokevirtual 109, 3) := by decide +kernel
theorem dX7_takeAt_216 : decode cX7_takeAt 216 = .ok (.return_, 1) := by decide +kernel
theorem dX7_tickOnce_0 : decode cX7_tickOnce 0 = .ok (.iconst 0, 1) := by decide +kernel
theorem dX7_tickOnce_1 : decode cX7_tickOnce 1 = .ok (.istore_n 1, 1) := by decide +kernel
theorem dX7_tickOnce_2 : decode cX7_tickOnce 2 = .ok (.iload_n 1, 1) := by decide +kernel
theorem dX7_tickOnce_3 : decode cX7_tickOnce 3 = .ok (.bipush 60, 2) := by decide +kernel
theorem dX7_tickOnce_5 : decode cX7_tickOnce 5 = .ok (.if_icmp .ge 16, 3) := by decide +kernel
theorem dX7_tickOnce_8 : decode cX7_tickOnce 8 = .ok (.aload_n 0, 1) := by decide +kernel
theorem dX7_tickOnce_9 : decode cX7_tickOnce 9 = .ok (.getfield 16, 3) := by decide +kernel
theorem dX7_tickOnce_12 : decode cX7_tickOnce 12 = .ok (.iload_n 1, 1) := by decide +kernel
theorem dX7_tickOnce_13 : decode cX7_tickOnce 13 = .ok (.iconst 0, 1) := by decide +kernel
theorem dX7_tickOnce_14 : decode cX7_tickOnce 14 = .ok (.bastore, 1) := by decide +kernel
theorem dX7_tickOnce_15 : decode cX7_tickOnce 15 = .ok (.iinc 1 1, 3) := by decide +kernel
theorem dX7_tickOnce_18 : decode cX7_tickOnce 18 = .ok (.goto (-16), 3) := by decide +kernel
theorem dX7_tickOnce_21 : decode cX7_tickOnce 21 = .ok (.iconst 0, 1) := by decide +kernel
theorem dX7_tickOnce_22 : decode cX7_tickOnce 22 = .ok (.istore_n 1, 1) := by decide +kernel
theorem dX7_tickOnce_23 : decode cX7_tickOnce 23 = .ok (.iload_n 1, 1) := by decide +kernel
theorem dX7_tickOnce_24 : decode cX7_tickOnce 24 = .ok (.aload_n 0, 1) := by decide +kernel
theorem dX7_tickOnce_25 : decode cX7_tickOnce 25 = .ok (.getfield 9, 3) := by decide +kernel
theorem dX7_tickOnce_28 : decode cX7_tickOnce 28 = .ok (.iconst 0, 1) := by decide +kernel
theorem dX7_tickOnce_29 : decode cX7_tickOnce 29 = .ok (.iaload, 1) := by decide +kernel
theorem dX7_tickOnce_30 : decode cX7_tickOnce 30 = .ok (.if_icmp .ge 14, 3) := by decide +kernel
theorem dX7_tickOnce_33 : decode cX7_tickOnce 33 = .ok (.aload_n 0, 1) := by decide +kernel
theorem dX7_tickOnce_34 : decode cX7_tickOnce 34 = .ok (.iload_n 1, 1) := by decide +kernel
theorem dX7_tickOnce_35 : decode cX7_tickOnce 35 = .ok (.invokevirtual 122, 3) := by decide +kernel
theorem dX7_tickOnce_38 : decode cX7_tickOnce 38 = .ok (.iinc 1 1, 3) := by decide +kernel
theorem dX7_tickOnce_41 : decode cX7_tickOnce 41 = .ok (.goto (-18), 3) := by decide +kernel
theorem dX7_tickOnce_44 : decode cX7_tickOnce 44 = .ok (.iconst 0, 1) := by decide +kernel
theorem dX7_tickOnce_45 : decode cX7_tickOnce 45 = .ok (.istore_n 1, 1) := by decide +kernel
theorem dX7_tickOnce_46 : decode cX7_tickOnce 46 = .ok (.iload_n 1, 1) := by decide +kernel
theorem dX7_tickOnce_47 : decode cX7_tickOnce 47 = .ok (.aload_n 0, 1) := by decide +kernel
theorem dX7_tickOnce_48 : decode cX7_tickOnce 48 = .ok (.getfield 9, 3) := by decide +kernel
theorem dX7_tickOnce_51 : decode cX7_tickOnce 51 = .ok (.iconst 1, 1) := by decide +kernel
theorem dX7_tickOnce_52 : decode cX7_tickOnce 52 = .ok (.iaload, 1) := by decide +kernel
theorem dX7_tickOnce_53 : decode cX7_tickOnce 53 = .ok (.if_icmp .ge 14, 3) := by decide +kernel
theorem dX7_tickOnce_56 : decode cX7_tickOnce 56 = .ok (.aload_n 0, 1) := by decide +kernel
theorem dX7_tickOnce_57 : decode cX7_tickOnce 57 = .ok (.iload_n 1, 1) := by decide +kernel
theorem dX7_tickOnce_58 : decode cX7_tickOnce 58 = .ok (.invokevirtual 125, 3) := by decide +kernel
theorem dX7_tickOnce_61 : decode cX7_tickOnce 61 = .ok (.iinc 1 1, 3) := by decide +kernel
theorem dX7_tickOnce_64 : decode cX7_tickOnce 64 = .ok (.goto (-18), 3) := by decide +kernel
theorem dX7_tickOnce_67 : decode cX7_tickOnce 67 = .ok (.iconst 0, 1) := by decide +kernel
theorem dX7_tickOnce_68 : decode cX7_tickOnce 68 = .ok (.istore_n 1, 1) := by decide +kernel
theorem dX7_tickOnce_69 : decode cX7_tickOnce 69 = .ok (.iload_n 1, 1) := by decide +kernel
theorem dX7_tickOnce_70 : decode cX7_tickOnce 70 = .ok (.aload_n 0, 1) := by decide +kernel
theorem dX7_tickOnce_71 : decode cX7_tickOnce 71 = .ok (.getfield 9, 3) := by decide +kernel
theorem dX7_tickOnce_74 : decode cX7_tickOnce 74 = .ok (.iconst 0, 1) := by decide +kernel
theorem dX7_tickOnce_75 : decode cX7_tickOnce 75 = .ok (.iaload, 1) := by decide +kernel
theorem dX7_tickOnce_76 : decode cX7_tickOnce 76 = .ok (.if_icmp .ge 14, 3) := by decide +kernel
theorem dX7_tickOnce_79 : decode cX7_tickOnce 79 = .ok (.aload_n 0, 1) := by decide +kernel
theorem dX7_tickOnce_80 : decode cX7_tickOnce 80 = .ok (.iload_n 1, 1) := by decide +kernel
theorem dX7_tickOnce_81 : decode cX7_tickOnce 81 = .ok (.invokevirtual 128, 3) := by decide +kernel
theorem dX7_tickOnce_84 : decode cX7_tickOnce 84 = .ok (.iinc 1 1, 3) := by decide +kernel
theorem dX7_tickOnce_87 : decode cX7_tickOnce 87 = .ok (.goto (-18), 3) := by decide +kernel
theorem dX7_tickOnce_90 : decode cX7_tickOnce 90 = .ok (.aload_n 0, 1) := by decide +kernel
theorem dX7_tickOnce_91 : decode cX7_tickOnce 91 = .ok (.getfield 9, 3) := by decide +kernel
theorem dX7_tickOnce_94 : decode cX7_tickOnce 94 = .ok (.iconst 4, 1) := by decide +kernel
theorem dX7_tickOnce_95 : decode cX7_tickOnce 95 = .ok (.dup2, 1) := by decide +kernel
theorem dX7_tickOnce_96 : decode cX7_tickOnce 96 = .ok (.iaload, 1) := by decide +kernel
theorem dX7_tickOnce_97 : decode cX7_tickOnce 97 = .ok (.iconst 1, 1) := by decide +kernel
theorem dX7_tickOnce_98 : decode cX7_tickOnce 98 = .ok (.iadd, 1) := by decide +kernel
theorem dX7_tickOnce_99 : decode cX7_tickOnce 99 = .ok (.iastore, 1) := by decide +kernel
theorem dX7_tickOnce_100 : decode cX7_tickOnce 100 = .ok (.return_, 1) := by decide +kernel
theorem dX7_tick_0 : decode cX7_tick 0 = .ok (.iload_n 1, 1) := by decide +kernel
theorem dX7_tick_1 : decode cX7_tick 1 = .ok (.iconst 1, 1) := by decide +kernel
theorem dX7_tick_2 : decode cX7_tick 2 = .ok (.bipush 100, 2) := by decide +kernel
theorem dX7_tick_4 : decode cX7_tick 4 = .ok (.invokestatic 27, 3) := by decide +kernel
theorem dX7_tick_7 : decode cX7_tick 7 = .ok (.ifCond .ne 9, 3) := by decide +kernel
theorem dX7_tick_10 : decode cX7_tick 10 = .ok (.aload_n 0, 1) := by decide +kernel
theorem dX7_tick_11 : decode cX7_tick 11 = .ok (.iconst (-1), 1) := by decide +kernel
theorem dX7_tick_12 : decode cX7_tick 12 = .ok (.invokevirtual 31, 3) := by decide +kernel
theorem dX7_tick_15 : decode cX7_tick 15 = .ok (.ireturn, 1) := by decide +kernel
theorem dX7_tick_16 : decode cX7_tick 16 = .ok (.iconst 0, 1) := by decide +kernel
theorem dX7_tick_17 : decode cX7_tick 17 = .ok (.istore_n 2, 1) := by decide +kernel
theorem dX7_tick_18 : decode cX7_tick 18 = .ok (.iload_n 2, 1) := by decide +kernel
theorem dX7_tick_19 : decode cX7_tick 19 = .ok (.iload_n 1, 1) := by decide +kernel
theorem dX7_tick_20 : decode cX7_tick 20 = .ok (.if_icmp .ge 13, 3) := by decide +kernel
theorem dX7_tick_23 : decode cX7_tick 23 = .ok (.aload_n 0, 1) := by decide +kernel
theorem dX7_tick_24 : decode cX7_tick 24 = .ok (.invokevirtual 131, 3) := by decide +kernel
theorem dX7_tick_27 : decode cX7_tick 27 = .ok (.iinc 2 1, 3) := by decide +kernel
theorem dX7_tick_30 : decode cX7_tick 30 = .ok (.goto (-12), 3) := by decide +kernel
theorem dX7_tick_33 : decode cX7_tick 33 = .ok (.aload_n 0, 1) := by decide +kernel
theorem dX7_tick_34 : decode cX7_tick 34 = .ok (.getfield 9, 3) := by decide +kernel
theorem dX7_tick_37 : decode cX7_tick 37 = .ok (.iconst 4, 1) := by decide +kernel
theorem dX7_tick_38 : decode cX7_tick 38 = .ok (.iaload, 1) := by decide +kernel
theorem dX7_tick_39 : decode cX7_tick 39 = .ok (.ireturn, 1) := by decide +kernel
theorem dX7_cell_0 : decode cX7_cell 0 = .ok (.aload_n 0, 1) := by decide +kernel
theorem dX7_cell_1 : decode cX7_cell 1 = .ok (.iload_n 1, 1) := by decide +kernel
theorem dX7_cell_2 : decode cX7_cell 2 = .ok (.invokevirtual 42, 3) := by decide +kernel
theorem dX7_cell_5 : decode cX7_cell 5 = .ok (.ifCond .eq 22, 3) := by decide +kernel
theorem dX7_cell_8 : decode cX7_cell 8 = .ok (.iload_n 2, 1) := by decide +kernel
theorem dX7_cell_9 : decode cX7_cell 9 = .ok (.iconst 0, 1) := by decide +kernel
theorem dX7_cell_10 : decode cX7_cell 10 = .ok (.aload_n 0, 1) := by decide +kernel
theorem dX7_cell_11 : decode cX7_cell 11 = .ok (.getfield 9, 3) := by decide +kernel
theorem dX7_cell_14 : decode cX7_cell 14 = .ok (.bipush 100, 2) := by decide +kernel
theorem dX7_cell_16 : decode cX7_cell 16 = .ok (.iload_n 1, 1) := by decide +kernel
theorem dX7_cell_17 : decode cX7_cell 17 = .ok (.iadd, 1) := by decide +kernel
theorem dX7_cell_18 : decode cX7_cell 18 = .ok (.iaload, 1) := by decide +kernel
theorem dX7_cell_19 : decode cX7_cell 19 = .ok (.iconst 1, 1) := by decide +kernel
theorem dX7_cell_20 : decode cX7_cell 20 = .ok (.isub, 1) := by decide +kernel
theorem dX7_cell_21 : decode cX7_cell 21 = .ok (.invokestatic 27, 3) := by decide +kernel
theorem dX7_cell_24 : decode cX7_cell 24 = .ok (.ifCond .ne 9, 3) := by decide +kernel
theorem dX7_cell_27 : decode cX7_cell 27 = .ok (.aload_n 0, 1) := by decide +kernel
theorem dX7_cell_28 : decode cX7_cell 28 = .ok (.iconst (-1), 1) := by decide +kernel
theorem dX7_cell_29 : decode cX7_cell 29 = .ok (.invokevirtual 31, 3) := by decide +kernel
theorem dX7_cell_32 : decode cX7_cell 32 = .ok (.ireturn, 1) := by decide +kernel
theorem dX7_cell_33 : decode cX7_cell 33 = .ok (.aload_n 0, 1) := by decide +kernel
theorem dX7_cell_34 : decode cX7_cell 34 = .ok (.getfield 9, 3) := by decide +kernel
theorem dX7_cell_37 : decode cX7_cell 37 = .ok (.sipush 148, 3) := by decide +kernel
theorem dX7_cell_40 : decode cX7_cell 40 = .ok (.bipush 12, 2) := by decide +kernel
theorem dX7_cell_42 : decode cX7_cell 42 = .ok (.iload_n 1, 1) := by decide +kernel
theorem dX7_cell_43 : decode cX7_cell 43 = .ok (.imul, 1) := by decide +kernel
theorem dX7_cell_44 : decode cX7_cell 44 = .ok (.iadd, 1) := by decide +kernel
theorem dX7_cell_45 : decode cX7_cell 45 = .ok (.iload_n 2, 1) := by decide +kernel
theorem dX7_cell_46 : decode cX7_cell 46 = .ok (.iadd, 1) := by decide +kernel
theorem dX7_cell_47 : decode cX7_cell 47 = .ok (.iaload, 1) := by decide +kernel
theorem dX7_cell_48 : decode cX7_cell 48 = .ok (.iconst 1, 1) := by decide +kernel
theorem dX7_cell_49 : decode cX7_cell 49 = .ok (.isub, 1) := by decide +kernel
theorem dX7_cell_50 : decode cX7_cell 50 = .ok (.istore_n 3, 1) := by decide +kernel
theorem dX7_cell_51 : decode cX7_cell 51 = .ok (.iload_n 3, 1) := by decide +kernel
theorem dX7_cell_52 : decode cX7_cell 52 = .ok (.ifCond .ge 12, 3) := by decide +kernel
theorem dX7_cell_55 : decode cX7_cell 55 = .ok (.aload_n 0, 1) := by decide +kernel
theorem dX7_cell_56 : decode cX7_cell 56 = .ok (.bipush (-2), 2) := by decide +kernel
theorem dX7_cell_58 : decode cX7_cell 58 = .ok (.invokevirtual 31, 3) := by decide +kernel
theorem dX7_cell_61 : decode cX7_cell 61 = .ok (.goto 4, 3) := by decide +kernel
theorem dX7_cell_64 : decode cX7_cell 64 = .ok (.iload_n 3, 1) := by decide +kernel
theorem dX7_cell_65 : decode cX7_cell 65 = .ok (.ireturn, 1) := by decide +kernel
theorem dX7_holds_0 : decode cX7_holds 0 = .ok (.aload_n 0, 1) := by decide +kernel
theorem dX7_holds_1 : decode cX7_holds 1 = .ok (.iload_n 1, 1) := by decide +kernel
theorem dX7_holds_2 : decode cX7_holds 2 = .ok (.invokevirtual 35, 3) := by decide +kernel
theorem dX7_holds_5 : decode cX7_holds 5 = .ok (.ifCond .ne 9, 3) := by decide +kernel
theorem dX7_holds_8 : decode cX7_holds 8 = .ok (.aload_n 0, 1) := by decide +kernel
theorem dX7_holds_9 : decode cX7_holds 9 = .ok (.iconst (-1), 1) := by decide +kernel
theorem dX7_holds_10 : decode cX7_holds 10 = .ok (.invokevirtual 31, 3) := by decide +kernel
theorem dX7_holds_13 : decode cX7_holds 13 = .ok (.ireturn, 1) := by decide +kernel
theorem dX7_holds_14 : decode cX7_holds 14 = .ok (.aload_n 0, 1) := by decide +kernel
theorem dX7_holds_15 : decode cX7_holds 15 = .ok (.iload_n 1, 1) := by decide +kernel
theorem dX7_holds_16 : decode cX7_holds 16 = .ok (.invokevirtual 39, 3) := by decide +kernel
theorem dX7_holds_19 : decode cX7_holds 19 = .ok (.iconst 1, 1) := by decide +kernel
theorem dX7_holds_20 : decode cX7_holds 20 = .ok (.iconst 3, 1) := by decide +kernel
theorem dX7_holds_21 : decode cX7_holds 21 = .ok (.invokestatic 27, 3) := by decide +kernel
theorem dX7_holds_24 : decode cX7_holds 24 = .ok (.ifCond .ne 10, 3) := by decide +kernel
theorem dX7_holds_27 : decode cX7_holds 27 = .ok (.aload_n 0, 1) := by decide +kernel
theorem dX7_holds_28 : decode cX7_holds 28 = .ok (.bipush (-4), 2) := by decide +kernel
theorem dX7_holds_30 : decode cX7_holds 30 = .ok (.invokevirtual 31, 3) := by decide +kernel
theorem dX7_holds_33 : decode cX7_holds 33 = .ok (.ireturn, 1) := by decide +kernel
theorem dX7_holds_34 : decode cX7_holds 34 = .ok (.aload_n 0, 1) := by decide +kernel
theorem dX7_holds_35 : decode cX7_holds 35 = .ok (.getfield 9, 3) := by decide +kernel
theorem dX7_holds_38 : decode cX7_holds 38 = .ok (.bipush 32, 2) := by decide +kernel
theorem dX7_holds_40 : decode cX7_holds 40 = .ok (.iload_n 1, 1) := by decide +kernel
theorem dX7_holds_41 : decode cX7_holds 41 = .ok (.iadd, 1) := by decide +kernel
theorem dX7_holds_42 : decode cX7_holds 42 = .ok (.iaload, 1) := by decide +kernel
theorem dX7_holds_43 : decode cX7_holds 43 = .ok (.ifCond .ne 12, 3) := by decide +kernel
theorem dX7_holds_46 : decode cX7_holds 46 = .ok (.aload_n 0, 1) := by decide +kernel
theorem dX7_holds_47 : decode cX7_holds 47 = .ok (.bipush (-2), 2) := by decide +kernel
theorem dX7_holds_49 : decode cX7_holds 49 = .ok (.invokevirtual 31, 3) := by decide +kernel
theorem dX7_holds_52 : decode cX7_holds 52 = .ok (.goto 14, 3) := by decide +kernel
theorem dX7_holds_55 : decode cX7_holds 55 = .ok (.aload_n 0, 1) := by decide +kernel
theorem dX7_holds_56 : decode cX7_holds 56 = .ok (.getfield 9, 3) := by decide +kernel
theorem dX7_holds_59 : decode cX7_holds 59 = .ok (.bipush 32, 2) := by decide +kernel
theorem dX7_holds_61 : decode cX7_holds 61 = .ok (.iload_n 1, 1) := by decide +kernel
theorem dX7_holds_62 : decode cX7_holds 62 = .ok (.iadd, 1) := by decide +kernel
theorem dX7_holds_63 : decode cX7_holds 63 = .ok (.iaload, 1) := by decide +kernel
theorem dX7_holds_64 : decode cX7_holds 64 = .ok (.iconst 1, 1) := by decide +kernel
theorem dX7_holds_65 : decode cX7_holds 65 = .ok (.isub, 1) := by decide +kernel
theorem dX7_holds_66 : decode cX7_holds 66 = .ok (.ireturn, 1) := by decide +kernel
theorem dX7_list_0 : decode cX7_list 0 = .ok (.aload_n 0, 1) := by decide +kernel
theorem dX7_list_1 : decode cX7_list 1 = .ok (.iload_n 1, 1) := by decide +kernel
theorem dX7_list_2 : decode cX7_list 2 = .ok (.invokevirtual 35, 3) := by decide +kernel
theorem dX7_list_5 : decode cX7_list 5 = .ok (.ifCond .ne 9, 3) := by decide +kernel
theorem dX7_list_8 : decode cX7_list 8 = .ok (.aload_n 0, 1) := by decide +kernel
theorem dX7_list_9 : decode cX7_list 9 = .ok (.iconst (-1), 1) := by decide +kernel
theorem dX7_list_10 : decode cX7_list 10 = .ok (.invokevirtual 31, 3) := by decide +kernel
theorem dX7_list_13 : decode cX7_list 13 = .ok (.ireturn, 1) := by decide +kernel
theorem dX7_list_14 : decode cX7_list 14 = .ok (.aload_n 0, 1) := by decide +kernel
theorem dX7_list_15 : decode cX7_list 15 = .ok (.iload_n 1, 1) := by decide +kernel
theorem dX7_list_16 : decode cX7_list 16 = .ok (.invokevirtual 39, 3) := by decide +kernel
theorem dX7_list_19 : decode cX7_list 19 = .ok (.ifCond .eq 19, 3) := by decide +kernel
theorem dX7_list_22 : decode cX7_list 22 = .ok (.aload_n 0, 1) := by decide +kernel
theorem dX7_list_23 : decode cX7_list 23 = .ok (.iload_n 1, 1) := by decide +kernel
theorem dX7_list_24 : decode cX7_list 24 = .ok (.invokevirtual 39, 3) := by decide +kernel
theorem dX7_list_27 : decode cX7_list 27 = .ok (.iconst 4, 1) := by decide +kernel
theorem dX7_list_28 : decode cX7_list 28 = .ok (.if_icmp .eq 10, 3) := by decide +kernel
theorem dX7_list_31 : decode cX7_list 31 = .ok (.aload_n 0, 1) := by decide +kernel
theorem dX7_list_32 : decode cX7_list 32 = .ok (.bipush (-4), 2) := by decide +kernel
theorem dX7_list_34 : decode cX7_list 34 = .ok (.invokevirtual 31, 3) := by decide +kernel
theorem dX7_list_37 : decode cX7_list 37 = .ok (.ireturn, 1) := by decide +kernel
theorem dX7_list_38 : decode cX7_list 38 = .ok (.aload_n 0, 1) := by decide +kernel
theorem dX7_list_39 : decode cX7_list 39 = .ok (.iload_n 1, 1) := by decide +kernel
theorem dX7_list_40 : decode cX7_list 40 = .ok (.invokevirtual 39, 3) := by decide +kernel
theorem dX7_list_43 : decode cX7_list 43 = .ok (.ifCond .ne 7, 3) := by decide +kernel
theorem dX7_list_46 : decode cX7_list 46 = .ok (.iconst 0, 1) := by decide +kernel
theorem dX7_list_47 : decode cX7_list 47 = .ok (.goto 4, 3) := by decide +kernel
theorem dX7_list_50 : decode cX7_list 50 = .ok (.iconst 3, 1) := by decide +kernel
theorem dX7_list_51 : decode cX7_list 51 = .ok (.istore_n 3, 1) := by decide +kernel
theorem dX7_list_52 : decode cX7_list 52 = .ok (.iload_n 3, 1) := by decide +kernel
theorem dX7_list_53 : decode cX7_list 53 = .ok (.ifCond .ne 11, 3) := by decide +kernel
theorem dX7_list_56 : decode cX7_list 56 = .ok (.aload_n 0, 1) := by decide +kernel
theorem dX7_list_57 : decode cX7_list 57 = .ok (.iload_n 1, 1) := by decide +kernel
theorem dX7_list_58 : decode cX7_list 58 = .ok (.invokevirtual 59, 3) := by decide +kernel
theorem dX7_list_61 : decode cX7_list 61 = .ok (.goto 8, 3) := by decide +kernel
theorem dX7_list_64 : decode cX7_list 64 = .ok (.aload_n 0, 1) := by decide +kernel
theorem dX7_list_65 : decode cX7_list 65 = .ok (.iload_n 1, 1) := by decide +kernel
theorem dX7_list_66 : decode cX7_list 66 = .ok (.invokevirtual 116, 3) := by decide +kernel
theorem dX7_list_69 : decode cX7_list 69 = .ok (.istore 4, 2) := by decide +kernel
theorem dX7_list_71 : decode cX7_list 71 = .ok (.iload_n 2, 1) := by decide +kernel
theorem dX7_list_72 : decode cX7_list 72 = .ok (.iconst (-1), 1) := by decide +kernel
theorem dX7_list_73 : decode cX7_list 73 = .ok (.if_icmp .ne 6, 3) := by decide +kernel
theorem dX7_list_76 : decode cX7_list 76 = .ok (.iload 4, 2) := by decide +kernel
theorem dX7_list_78 : decode cX7_list 78 = .ok (.ireturn, 1) := by decide +kernel
theorem dX7_list_79 : decode cX7_list 79 = .ok (.iload_n 2, 1) := by decide +kernel
theorem dX7_list_80 : decode cX7_list 80 = .ok (.iconst 0, 1) := by decide +kernel
theorem dX7_list_81 : decode cX7_list 81 = .ok (.iload 4, 2) := by decide +kernel
theorem dX7_list_83 : decode cX7_list 83 = .ok (.iconst 1, 1) := by decide +kernel
theorem dX7_list_84 : decode cX7_list 84 = .ok (.isub, 1) := by decide +kernel
theorem dX7_list_85 : decode cX7_list 85 = .ok (.invokestatic 27, 3) := by decide +kernel
theorem dX7_list_88 : decode cX7_list 88 = .ok (.ifCond .ne 10, 3) := by decide +kernel
theorem dX7_list_91 : decode cX7_list 91 = .ok (.aload_n 0, 1) := by decide +kernel
theorem dX7_list_92 : decode cX7_list 92 = .ok (.bipush (-2), 2) := by decide +kernel
theorem dX7_list_94 : decode cX7_list 94 = .ok (.invokevirtual 31, 3) := by decide +kernel
theorem dX7_list_97 : decode cX7_list 97 = .ok (.ireturn, 1) := by decide +kernel
theorem dX7_list_98 : decode cX7_list 98 = .ok (.iconst 0, 1) := by decide +kernel
theorem dX7_list_99 : decode cX7_list 99 = .ok (.istore 5, 2) := by decide +kernel
theorem dX7_list_101 : decode cX7_list 101 = .ok (.iload 5, 2) := by decide +kernel
theorem dX7_list_103 : decode cX7_list 103 = .ok (.aload_n 0, 1) := by decide +kernel
theorem dX7_list_104 : decode cX7_list 104 = .ok (.getfield 9, 3) := by decide +kernel
theorem dX7_list_107 : decode cX7_list 107 = .ok (.iconst 3, 1) := by decide +kernel
theorem dX7_list_108 : decode cX7_list 108 = .ok (.iaload, 1) := by decide +kernel
theorem dX7_list_109 : decode cX7_list 109 = .ok (.if_icmp .ge 54, 3) := by decide +kernel
theorem dX7_list_112 : decode cX7_list 112 = .ok (.aload_n 0, 1) := by decide +kernel
theorem dX7_list_113 : decode cX7_list 113 = .ok (.getfield 9, 3) := by decide +kernel
theorem dX7_list_116 : decode cX7_list 116 = .ok (.sipush 484, 3) := by decide +kernel
theorem dX7_list_119 : decode cX7_list 119 = .ok (.iload 5, 2) := by decide +kernel
theorem dX7_list_121 : decode cX7_list 121 = .ok (.iadd, 1) := by decide +kernel
theorem dX7_list_122 : decode cX7_list 122 = .ok (.iaload, 1) := by decide +kernel
theorem dX7_list_123 : decode cX7_list 123 = .ok (.iload_n 3, 1) := by decide +kernel
theorem dX7_list_124 : decode cX7_list 124 = .ok (.if_icmp .ne 33, 3) := by decide +kernel
theorem dX7_list_127 : decode cX7_list 127 = .ok (.aload_n 0, 1) := by decide +kernel
theorem dX7_list_128 : decode cX7_list 128 = .ok (.getfield 9, 3) := by decide +kernel
theorem dX7_list_131 : decode cX7_list 131 = .ok (.sipush 544, 3) := by decide +kernel
theorem dX7_list_134 : decode cX7_list 134 = .ok (.iload 5, 2) := by decide +kernel
theorem dX7_list_136 : decode cX7_list 136 = .ok (.iadd, 1) := by decide +kernel
theorem dX7_list_137 : decode cX7_list 137 = .ok (.iaload, 1) := by decide +kernel
theorem dX7_list_138 : decode cX7_list 138 = .ok (.iload_n 1, 1) := by decide +kernel
theorem dX7_list_139 : decode cX7_list 139 = .ok (.if_icmp .ne 18, 3) := by decide +kernel
theorem dX7_list_142 : decode cX7_list 142 = .ok (.aload_n 0, 1) := by decide +kernel
theorem dX7_list_143 : decode cX7_list 143 = .ok (.iload 5, 2) := by decide +kernel
theorem dX7_list_145 : decode cX7_list 145 = .ok (.iload_n 3, 1) := by decide +kernel
theorem dX7_list_146 : decode cX7_list 146 = .ok (.iload_n 1, 1) := by decide +kernel
theorem dX7_list_147 : decode cX7_list 147 = .ok (.invokevirtual 134, 3) := by decide +kernel
theorem dX7_list_150 : decode cX7_list 150 = .ok (.iload_n 2, 1) := by decide +kernel
theorem dX7_list_151 : decode cX7_list 151 = .ok (.if_icmp .ne 6, 3) := by decide +kernel
theorem dX7_list_154 : decode cX7_list 154 = .ok (.iload 5, 2) := by decide +kernel
theorem dX7_list_156 : decode cX7_list 156 = .ok (.ireturn, 1) := by decide +kernel
theorem dX7_list_157 : decode cX7_list 157 = .ok (.iinc 5 1, 3) := by decide +kernel
theorem dX7_list_160 : decode cX7_list 160 = .ok (.goto (-59), 3) := by decide +kernel
theorem dX7_list_163 : decode cX7_list 163 = .ok (.aload_n 0, 1) := by decide +kernel
theorem dX7_list_164 : decode cX7_list 164 = .ok (.bipush (-2), 2) := by decide +kernel
theorem dX7_list_166 : decode cX7_list 166 = .ok (.invokevirtual 31, 3) := by decide +kernel
theorem dX7_list_169 : decode cX7_list 169 = .ok (.ireturn, 1) := by decide +kernel
theorem dX7_aheadOf_0 : decode cX7_aheadOf 0 = .ok (.iconst 0, 1) := by decide +kernel
theorem dX7_aheadOf_1 : decode cX7_aheadOf 1 = .ok (.istore 4, 2) := by decide +kernel
theorem dX7_aheadOf_3 : decode cX7_aheadOf 3 = .ok (.iconst 0, 1) := by decide +kernel
theorem dX7_aheadOf_4 : decode cX7_aheadOf 4 = .ok (.istore 5, 2) := by decide +kernel
theorem dX7_aheadOf_6 : decode cX7_aheadOf 6 = .ok (.iload 5, 2) := by decide +kernel
theorem dX7_aheadOf_8 : decode cX7_aheadOf 8 = .ok (.aload_n 0, 1) := by decide +kernel
theorem dX7_aheadOf_9 : decode cX7_aheadOf 9 = .ok (.getfield 9, 3) := by decide +kernel
theorem dX7_aheadOf_12 : decode cX7_aheadOf 12 = .ok (.iconst 3, 1) := by decide +kernel
theorem dX7_aheadOf_13 : decode cX7_aheadOf 13 = .ok (.iaload, 1) := by decide +kernel
theorem dX7_aheadOf_14 : decode cX7_aheadOf 14 = .ok (.if_icmp .ge 127, 3) := by decide +kernel
theorem dX7_aheadOf_17 : decode cX7_aheadOf 17 = .ok (.aload_n 0, 1) := by decide +kernel
theorem dX7_aheadOf_18 : decode cX7_aheadOf 18 = .ok (.getfield 9, 3) := by decide +kernel
theorem dX7_aheadOf_21 : decode cX7_aheadOf 21 = .ok (.sipush 484, 3) := by decide +kernel
theorem dX7_aheadOf_24 : decode cX7_aheadOf 24 = .ok (.iload 5, 2) := by decide +kernel
theorem dX7_aheadOf_26 : decode cX7_aheadOf 26 = .ok (.iadd, 1) := by decide +kernel
theorem dX7_aheadOf_27 : decode cX7_aheadOf 27 = .ok (.iaload, 1) := by decide +kernel
theorem dX7_aheadOf_28 : decode cX7_aheadOf 28 = .ok (.iload_n 2, 1) := by decide +kernel
theorem dX7_aheadOf_29 : decode cX7_aheadOf 29 = .ok (.if_icmp .ne 22, 3) := by decide +kernel
theorem dX7_aheadOf_32 : decode cX7_aheadOf 32 = .ok (.aload_n 0, 1) := by decide +kernel
theorem dX7_aheadOf_33 : decode cX7_aheadOf 33 = .ok (.getfield 9, 3) := by decide +kernel
theorem dX7_aheadOf_36 : decode cX7_aheadOf 36 = .ok (.sipush 544, 3) := by decide +kernel
theorem dX7_aheadOf_39 : decode cX7_aheadOf 39 = .ok (.iload 5, 2) := by decide +kernel
theorem dX7_aheadOf_41 : decode cX7_aheadOf 41 = .ok (.iadd, 1) := by decide +kernel
theorem dX7_aheadOf_42 : decode cX7_aheadOf 42 = .ok (.iaload, 1) := by decide +kernel
theorem dX7_aheadOf_43 : decode cX7_aheadOf 43 = .ok (.iload_n 3, 1) := by decide +kernel
theorem dX7_aheadOf_44 : decode cX7_aheadOf 44 = .ok (.if_icmp .ne 7, 3) := by decide +kernel
theorem dX7_aheadOf_47 : decode cX7_aheadOf 47 = .ok (.iconst 1, 1) := by decide +kernel
theorem dX7_aheadOf_48 : decode cX7_aheadOf 48 = .ok (.goto 4, 3) := by decide +kernel
theorem dX7_aheadOf_51 : decode cX7_aheadOf 51 = .ok (.iconst 0, 1) := by decide +kernel
theorem dX7_aheadOf_52 : decode cX7_aheadOf 52 = .ok (.istore 6, 2) := by decide +kernel
theorem dX7_aheadOf_54 : decode cX7_aheadOf 54 = .ok (.aload_n 0, 1) := by decide +kernel
theorem dX7_aheadOf_55 : decode cX7_aheadOf 55 = .ok (.getfield 9, 3) := by decide +kernel
theorem dX7_aheadOf_58 : decode cX7_aheadOf 58 = .ok (.sipush 604, 3) := by decide +kernel
theorem dX7_aheadOf_61 : decode cX7_aheadOf 61 = .ok (.iload 5, 2) := by decide +kernel
theorem dX7_aheadOf_63 : decode cX7_aheadOf 63 = .ok (.iadd, 1) := by decide +kernel
theorem dX7_aheadOf_64 : decode cX7_aheadOf 64 = .ok (.iaload, 1) := by decide +kernel
theorem dX7_aheadOf_65 : decode cX7_aheadOf 65 = .ok (.aload_n 0, 1) := by decide +kernel
theorem dX7_aheadOf_66 : decode cX7_aheadOf 66 = .ok (.getfield 9, 3) := by decide +kernel
theorem dX7_aheadOf_69 : decode cX7_aheadOf 69 = .ok (.sipush 604, 3) := by decide +kernel
theorem dX7_aheadOf_72 : decode cX7_aheadOf 72 = .ok (.iload_n 1, 1) := by decide +kernel
theorem dX7_aheadOf_73 : decode cX7_aheadOf 73 = .ok (.iadd, 1) := by decide +kernel
theorem dX7_aheadOf_74 : decode cX7_aheadOf 74 = .ok (.iaload, 1) := by decide +kernel
theorem dX7_aheadOf_75 : decode cX7_aheadOf 75 = .ok (.if_icmp .lt 33, 3) := by decide +kernel
theorem dX7_aheadOf_78 : decode cX7_aheadOf 78 = .ok (.aload_n 0, 1) := by decide +kernel
theorem dX7_aheadOf_79 : decode cX7_aheadOf 79 = .ok (.getfield 9, 3) := by decide +kernel
theorem dX7_aheadOf_82 : decode cX7_aheadOf 82 = .ok (.sipush 604, 3) := by decide +kernel
theorem dX7_aheadOf_85 : decode cX7_aheadOf 85 = .ok (.iload 5, 2) := by decide +kernel
theorem dX7_aheadOf_87 : decode cX7_aheadOf 87 = .ok (.iadd, 1) := by decide +kernel
theorem dX7_aheadOf_88 : decode cX7_aheadOf 88 = .ok (.iaload, 1) := by decide +kernel
theorem dX7_aheadOf_89 : decode cX7_aheadOf 89 = .ok (.aload_n 0, 1) := by decide +kernel
theorem dX7_aheadOf_90 : decode cX7_aheadOf 90 = .ok (.getfield 9, 3) := by decide +kernel
theorem dX7_aheadOf_93 : decode cX7_aheadOf 93 = .ok (.sipush 604, 3) := by decide +kernel
theorem dX7_aheadOf_96 : decode cX7_aheadOf 96 = .ok (.iload_n 1, 1) := by decide +kernel
theorem dX7_aheadOf_97 : decode cX7_aheadOf 97 = .ok (.iadd, 1) := by decide +kernel
theorem dX7_aheadOf_98 : decode cX7_aheadOf 98 = .ok (.iaload, 1) := by decide +kernel
theorem dX7_aheadOf_99 : decode cX7_aheadOf 99 = .ok (.if_icmp .ne 13, 3) := by decide +kernel
theorem dX7_aheadOf_102 : decode cX7_aheadOf 102 = .ok (.iload 5, 2) := by decide +kernel
theorem dX7_aheadOf_104 : decode cX7_aheadOf 104 = .ok (.iload_n 1, 1) := by decide +kernel
theorem dX7_aheadOf_105 : decode cX7_aheadOf 105 = .ok (.if_icmp .ge 7, 3) := by decide +kernel
theorem dX7_aheadOf_108 : decode cX7_aheadOf 108 = .ok (.iconst 1, 1) := by decide +kernel
theorem dX7_aheadOf_109 : decode cX7_aheadOf 109 = .ok (.goto 4, 3) := by decide +kernel
theorem dX7_aheadOf_112 : decode cX7_aheadOf 112 = .ok (.iconst 0, 1) := by decide +kernel
theorem dX7_aheadOf_113 : decode cX7_aheadOf 113 = .ok (.istore 7, 2) := by decide +kernel
theorem dX7_aheadOf_115 : decode cX7_aheadOf 115 = .ok (.iload 4, 2) := by decide +kernel
theorem dX7_aheadOf_117 : decode cX7_aheadOf 117 = .ok (.iload 6, 2) := by decide +kernel
theorem dX7_aheadOf_119 : decode cX7_aheadOf 119 = .ok (.ifCond .eq 12, 3) := by decide +kernel
theorem dX7_aheadOf_122 : decode cX7_aheadOf 122 = .ok (.iload 7, 2) := by decide +kernel
theorem dX7_aheadOf_124 : decode cX7_aheadOf 124 = .ok (.ifCond .eq 7, 3) := by decide +kernel
theorem dX7_aheadOf_127 : decode cX7_aheadOf 127 = .ok (.iconst 1, 1) := by decide +kernel
theorem dX7_aheadOf_128 : decode cX7_aheadOf 128 = .ok (.goto 4, 3) := by decide +kernel
theorem dX7_aheadOf_131 : decode cX7_aheadOf 131 = .ok (.iconst 0, 1) := by decide +kernel
theorem dX7_aheadOf_132 : decode cX7_aheadOf 132 = .ok (.iadd, 1) := by decide +kernel
theorem dX7_aheadOf_133 : decode cX7_aheadOf 133 = .ok (.istore 4, 2) := by decide +kernel
theorem dX7_aheadOf_135 : decode cX7_aheadOf 135 = .ok (.iinc 5 1, 3) := by decide +kernel
theorem dX7_aheadOf_138 : decode cX7_aheadOf 138 = .ok (.goto (-132), 3) := by decide +kernel
theorem dX7_aheadOf_141 : decode cX7_aheadOf 141 = .ok (.iload 4, 2) := by decide +kernel
theorem dX7_aheadOf_143 : decode cX7_aheadOf 143 = .ok (.ireturn, 1) := by decide +kernel
theorem dX7_flown_0 : decode cX7_flown 0 = .ok (.aload_n 0, 1) := by decide +kernel
theorem dX7_flown_1 : decode cX7_flown 1 = .ok (.iload_n 1, 1) := by decide +kernel
theorem dX7_flown_2 : decode cX7_flown 2 = .ok (.invokevirtual 49, 3) := by decide +kernel
theorem dX7_flown_5 : decode cX7_flown 5 = .ok (.ifCond .eq 13, 3) := by decide +kernel
theorem dX7_flown_8 : decode cX7_flown 8 = .ok (.iload_n 2, 1) := by decide +kernel
theorem dX7_flown_9 : decode cX7_flown 9 = .ok (.iconst 0, 1) := by decide +kernel
theorem dX7_flown_10 : decode cX7_flown 10 = .ok (.bipush 6, 2) := by decide +kernel
theorem dX7_flown_12 : decode cX7_flown 12 = .ok (.invokestatic 27, 3) := by decide +kernel
theorem dX7_flown_15 : decode cX7_flown 15 = .ok (.ifCond .ne 9, 3) := by decide +kernel
theorem dX7_flown_18 : decode cX7_flown 18 = .ok (.aload_n 0, 1) := by decide +kernel
theorem dX7_flown_19 : decode cX7_flown 19 = .ok (.iconst (-1), 1) := by decide +kernel
theorem dX7_flown_20 : decode cX7_flown 20 = .ok (.invokevirtual 31, 3) := by decide +kernel
theorem dX7_flown_23 : decode cX7_flown 23 = .ok (.ireturn, 1) := by decide +kernel
theorem dX7_flown_24 : decode cX7_flown 24 = .ok (.iload_n 2, 1) := by decide +kernel
theorem dX7_flown_25 : decode cX7_flown 25 = .ok (.iconst 3, 1) := by decide +kernel
theorem dX7_flown_26 : decode cX7_flown 26 = .ok (.if_icmp .ge 35, 3) := by decide +kernel
theorem dX7_flown_29 : decode cX7_flown 29 = .ok (.aload_n 0, 1) := by decide +kernel
theorem dX7_flown_30 : decode cX7_flown 30 = .ok (.getfield 9, 3) := by decide +kernel
theorem dX7_flown_33 : decode cX7_flown 33 = .ok (.iload_n 2, 1) := by decide +kernel
theorem dX7_flown_34 : decode cX7_flown 34 = .ok (.ifCond .ne 9, 3) := by decide +kernel
theorem dX7_flown_37 : decode cX7_flown 37 = .ok (.sipush 340, 3) := by decide +kernel
theorem dX7_flown_40 : decode cX7_flown 40 = .ok (.goto 17, 3) := by decide +kernel
theorem dX7_flown_43 : decode cX7_flown 43 = .ok (.iload_n 2, 1) := by decide +kernel
theorem dX7_flown_44 : decode cX7_flown 44 = .ok (.iconst 1, 1) := by decide +kernel
theorem dX7_flown_45 : decode cX7_flown 45 = .ok (.if_icmp .ne 9, 3) := by decide +kernel
theorem dX7_flown_48 : decode cX7_flown 48 = .ok (.sipush 348, 3) := by decide +kernel
theorem dX7_flown_51 : decode cX7_flown 51 = .ok (.goto 6, 3) := by decide +kernel
theorem dX7_flown_54 : decode cX7_flown 54 = .ok (.sipush 356, 3) := by decide +kernel
theorem dX7_flown_57 : decode cX7_flown 57 = .ok (.iload_n 1, 1) := by decide +kernel
theorem dX7_flown_58 : decode cX7_flown 58 = .ok (.iadd, 1) := by decide +kernel
theorem dX7_flown_59 : decode cX7_flown 59 = .ok (.iaload, 1) := by decide +kernel
theorem dX7_flown_60 : decode cX7_flown 60 = .ok (.ireturn, 1) := by decide +kernel
theorem dX7_flown_61 : decode cX7_flown 61 = .ok (.iconst 0, 1) := by decide +kernel
theorem dX7_flown_62 : decode cX7_flown 62 = .ok (.istore_n 3, 1) := by decide +kernel
theorem dX7_flown_63 : decode cX7_flown 63 = .ok (.iconst 0, 1) := by decide +kernel
theorem dX7_flown_64 : decode cX7_flown 64 = .ok (.istore 4, 2) := by decide +kernel
theorem dX7_flown_66 : decode cX7_flown 66 = .ok (.iload 4, 2) := by decide +kernel
theorem dX7_flown_68 : decode cX7_flown 68 = .ok (.aload_n 0, 1) := by decide +kernel
theorem dX7_flown_69 : decode cX7_flown 69 = .ok (.getfield 9, 3) := by decide +kernel
theorem dX7_flown_72 : decode cX7_flown 72 = .ok (.iconst 3, 1) := by decide +kernel
theorem dX7_flown_73 : decode cX7_flown 73 = .ok (.iaload, 1) := by decide +kernel
theorem dX7_flown_74 : decode cX7_flown 74 = .ok (.if_icmp .ge 69, 3) := by decide +kernel
theorem dX7_flown_77 : decode cX7_flown 77 = .ok (.iload_n 2, 1) := by decide +kernel
theorem dX7_flown_78 : decode cX7_flown 78 = .ok (.bipush 6, 2) := by decide +kernel
theorem dX7_flown_80 : decode cX7_flown 80 = .ok (.if_icmp .eq 22, 3) := by decide +kernel
theorem dX7_flown_83 : decode cX7_flown 83 = .ok (.aload_n 0, 1) := by decide +kernel
theorem dX7_flown_84 : decode cX7_flown 84 = .ok (.getfield 9, 3) := by decide +kernel
theorem dX7_flown_87 : decode cX7_flown 87 = .ok (.sipush 484, 3) := by decide +kernel
theorem dX7_flown_90 : decode cX7_flown 90 = .ok (.iload 4, 2) := by decide +kernel
theorem dX7_flown_92 : decode cX7_flown 92 = .ok (.iadd, 1) := by decide +kernel
theorem dX7_flown_93 : decode cX7_flown 93 = .ok (.iaload, 1) := by decide +kernel
theorem dX7_flown_94 : decode cX7_flown 94 = .ok (.iconst 5, 1) := by decide +kernel
theorem dX7_flown_95 : decode cX7_flown 95 = .ok (.iload_n 2, 1) := by decide +kernel
theorem dX7_flown_96 : decode cX7_flown 96 = .ok (.iadd, 1) := by decide +kernel
theorem dX7_flown_97 : decode cX7_flown 97 = .ok (.iconst 3, 1) := by decide +kernel
theorem dX7_flown_98 : decode cX7_flown 98 = .ok (.isub, 1) := by decide +kernel
theorem dX7_flown_99 : decode cX7_flown 99 = .ok (.if_icmp .ne 7, 3) := by decide +kernel
theorem dX7_flown_102 : decode cX7_flown 102 = .ok (.iconst 1, 1) := by decide +kernel
theorem dX7_flown_103 : decode cX7_flown 103 = .ok (.goto 4, 3) := by decide +kernel
theorem dX7_flown_106 : decode cX7_flown 106 = .ok (.iconst 0, 1) := by decide +kernel
theorem dX7_flown_107 : decode cX7_flown 107 = .ok (.istore 5, 2) := by decide +kernel
theorem dX7_flown_109 : decode cX7_flown 109 = .ok (.iload_n 3, 1) := by decide +kernel
theorem dX7_flown_110 : decode cX7_flown 110 = .ok (.aload_n 0, 1) := by decide +kernel
theorem dX7_flown_111 : decode cX7_flown 111 = .ok (.getfield 9, 3) := by decide +kernel
theorem dX7_flown_114 : decode cX7_flown 114 = .ok (.sipush 364, 3) := by decide +kernel
theorem dX7_flown_117 : decode cX7_flown 117 = .ok (.iload 4, 2) := by decide +kernel
theorem dX7_flown_119 : decode cX7_flown 119 = .ok (.iadd, 1) := by decide +kernel
theorem dX7_flown_120 : decode cX7_flown 120 = .ok (.iaload, 1) := by decide +kernel
theorem dX7_flown_121 : decode cX7_flown 121 = .ok (.iload_n 1, 1) := by decide +kernel
theorem dX7_flown_122 : decode cX7_flown 122 = .ok (.if_icmp .ne 12, 3) := by decide +kernel
theorem dX7_flown_125 : decode cX7_flown 125 = .ok (.iload 5, 2) := by decide +kernel
theorem dX7_flown_127 : decode cX7_flown 127 = .ok (.ifCond .eq 7, 3) := by decide +kernel
theorem dX7_flown_130 : decode cX7_flown 130 = .ok (.iconst 1, 1) := by decide +kernel
theorem dX7_flown_131 : decode cX7_flown 131 = .ok (.goto 4, 3) := by decide +kernel
theorem dX7_flown_134 : decode cX7_flown 134 = .ok (.iconst 0, 1) := by decide +kernel
theorem dX7_flown_135 : decode cX7_flown 135 = .ok (.iadd, 1) := by decide +kernel
theorem dX7_flown_136 : decode cX7_flown 136 = .ok (.istore_n 3, 1) := by decide +kernel
theorem dX7_flown_137 : decode cX7_flown 137 = .ok (.iinc 4 1, 3) := by decide +kernel
theorem dX7_flown_140 : decode cX7_flown 140 = .ok (.goto (-74), 3) := by decide +kernel
theorem dX7_flown_143 : decode cX7_flown 143 = .ok (.iload_n 3, 1) := by decide +kernel
theorem dX7_flown_144 : decode cX7_flown 144 = .ok (.ireturn, 1) := by decide +kernel
theorem dX7_count_0 : decode cX7_count 0 = .ok (.iload_n 1, 1) := by decide +kernel
theorem dX7_count_1 : decode cX7_count 1 = .ok (.iconst 0, 1) := by decide +kernel
theorem dX7_count_2 : decode cX7_count 2 = .ok (.bipush 14, 2) := by decide +kernel
theorem dX7_count_4 : decode cX7_count 4 = .ok (.invokestatic 27, 3) := by decide +kernel
theorem dX7_count_7 : decode cX7_count 7 = .ok (.ifCond .ne 9, 3) := by decide +kernel
theorem dX7_count_10 : decode cX7_count 10 = .ok (.aload_n 0, 1) := by decide +kernel
theorem dX7_count_11 : decode cX7_count 11 = .ok (.iconst (-1), 1) := by decide +kernel
theorem dX7_count_12 : decode cX7_count 12 = .ok (.invokevirtual 31, 3) := by decide +kernel
theorem dX7_count_15 : decode cX7_count 15 = .ok (.ireturn, 1) := by decide +kernel
theorem dX7_count_16 : decode cX7_count 16 = .ok (.iconst 0, 1) := by decide +kernel
theorem dX7_count_17 : decode cX7_count 17 = .ok (.istore_n 2, 1) := by decide +kernel
theorem dX7_count_18 : decode cX7_count 18 = .ok (.iconst 0, 1) := by decide +kernel
theorem dX7_count_19 : decode cX7_count 19 = .ok (.istore_n 3, 1) := by decide +kernel
theorem dX7_count_20 : decode cX7_count 20 = .ok (.iload_n 3, 1) := by decide +kernel
theorem dX7_count_21 : decode cX7_count 21 = .ok (.aload_n 0, 1) := by decide +kernel
theorem dX7_count_22 : decode cX7_count 22 = .ok (.getfield 9, 3) := by decide +kernel
theorem dX7_count_25 : decode cX7_count 25 = .ok (.iconst 3, 1) := by decide +kernel
theorem dX7_count_26 : decode cX7_count 26 = .ok (.iaload, 1) := by decide +kernel
theorem dX7_count_27 : decode cX7_count 27 = .ok (.if_icmp .ge 31, 3) := by decide +kernel
theorem dX7_count_30 : decode cX7_count 30 = .ok (.iload_n 2, 1) := by decide +kernel
theorem dX7_count_31 : decode cX7_count 31 = .ok (.aload_n 0, 1) := by decide +kernel
theorem dX7_count_32 : decode cX7_count 32 = .ok (.getfield 9, 3) := by decide +kernel
theorem dX7_count_35 : decode cX7_count 35 = .ok (.sipush 484, 3) := by decide +kernel
theorem dX7_count_38 : decode cX7_count 38 = .ok (.iload_n 3, 1) := by decide +kernel
theorem dX7_count_39 : decode cX7_count 39 = .ok (.iadd, 1) := by decide +kernel
theorem dX7_count_40 : decode cX7_count 40 = .ok (.iaload, 1) := by decide +kernel
theorem dX7_count_41 : decode cX7_count 41 = .ok (.iload_n 1, 1) := by decide +kernel
theorem dX7_count_42 : decode cX7_count 42 = .ok (.if_icmp .ne 7, 3) := by decide +kernel
theorem dX7_count_45 : decode cX7_count 45 = .ok (.iconst 1, 1) := by decide +kernel
theorem dX7_count_46 : decode cX7_count 46 = .ok (.goto 4, 3) := by decide +kernel
theorem dX7_count_49 : decode cX7_count 49 = .ok (.iconst 0, 1) := by decide +kernel
theorem dX7_count_50 : decode cX7_count 50 = .ok (.iadd, 1) := by decide +kernel
theorem dX7_count_51 : decode cX7_count 51 = .ok (.istore_n 2, 1) := by decide +kernel
theorem dX7_count_52 : decode cX7_count 52 = .ok (.iinc 3 1, 3) := by decide +kernel
theorem dX7_count_55 : decode cX7_count 55 = .ok (.goto (-35), 3) := by decide +kernel
theorem dX7_count_58 : decode cX7_count 58 = .ok (.iload_n 1, 1) := by decide +kernel
theorem dX7_count_59 : decode cX7_count 59 = .ok (.tableswitch 113 8 14 #[41, 48, 55, 62, 69, 101, 108], 41) := by decide +kernel
theorem dX7_count_100 : decode cX7_count 100 = .ok (.aload_n 0, 1) := by decide +kernel
theorem dX7_count_101 : decode cX7_count 101 = .ok (.getfield 9, 3) := by decide +kernel
theorem dX7_count_104 : decode cX7_count 104 = .ok (.iconst 3, 1) := by decide +kernel
theorem dX7_count_105 : decode cX7_count 105 = .ok (.iaload, 1) := by decide +kernel
theorem dX7_count_106 : decode cX7_count 106 = .ok (.ireturn, 1) := by decide +kernel
theorem dX7_count_107 : decode cX7_count 107 = .ok (.aload_n 0, 1) := by decide +kernel
theorem dX7_count_108 : decode cX7_count 108 = .ok (.getfield 9, 3) := by decide +kernel
theorem dX7_count_111 : decode cX7_count 111 = .ok (.iconst 0, 1) := by decide +kernel
theorem dX7_count_112 : decode cX7_count 112 = .ok (.iaload, 1) := by decide +kernel
theorem dX7_count_113 : decode cX7_count 113 = .ok (.ireturn, 1) := by decide +kernel
theorem dX7_count_114 : decode cX7_count 114 = .ok (.aload_n 0, 1) := by decide +kernel
theorem dX7_count_115 : decode cX7_count 115 = .ok (.getfield 9, 3) := by decide +kernel
theorem dX7_count_118 : decode cX7_count 118 = .ok (.iconst 1, 1) := by decide +kernel
theorem dX7_count_119 : decode cX7_count 119 = .ok (.iaload, 1) := by decide +kernel
theorem dX7_count_120 : decode cX7_count 120 = .ok (.ireturn, 1) := by decide +kernel
theorem dX7_count_121 : decode cX7_count 121 = .ok (.aload_n 0, 1) := by decide +kernel
theorem dX7_count_122 : decode cX7_count 122 = .ok (.getfield 9, 3) := by decide +kernel
theorem dX7_count_125 : decode cX7_count 125 = .ok (.iconst 2, 1) := by decide +kernel
theorem dX7_count_126 : decode cX7_count 126 = .ok (.iaload, 1) := by decide +kernel
theorem dX7_count_127 : decode cX7_count 127 = .ok (.ireturn, 1) := by decide +kernel
theorem dX7_count_128 : decode cX7_count 128 = .ok (.iconst 0, 1) := by decide +kernel
theorem dX7_count_129 : decode cX7_count 129 = .ok (.istore_n 3, 1) := by decide +kernel
theorem dX7_count_130 : decode cX7_count 130 = .ok (.iload_n 3, 1) := by decide +kernel
theorem dX7_count_131 : decode cX7_count 131 = .ok (.aload_n 0, 1) := by decide +kernel
theorem dX7_count_132 : decode cX7_count 132 = .ok (.getfield 9, 3) := by decide +kernel
theorem dX7_count_135 : decode cX7_count 135 = .ok (.iconst 1, 1) := by decide +kernel
theorem dX7_count_136 : decode cX7_count 136 = .ok (.iaload, 1) := by decide +kernel
theorem dX7_count_137 : decode cX7_count 137 = .ok (.if_icmp .ge 21, 3) := by decide +kernel
theorem dX7_count_140 : decode cX7_count 140 = .ok (.iload_n 2, 1) := by decide +kernel
theorem dX7_count_141 : decode cX7_count 141 = .ok (.aload_n 0, 1) := by decide +kernel
theorem dX7_count_142 : decode cX7_count 142 = .ok (.getfield 9, 3) := by decide +kernel
theorem dX7_count_145 : decode cX7_count 145 = .ok (.bipush 116, 2) := by decide +kernel
theorem dX7_count_147 : decode cX7_count 147 = .ok (.iload_n 3, 1) := by decide +kernel
theorem dX7_count_148 : decode cX7_count 148 = .ok (.iadd, 1) := by decide +kernel
theorem dX7_count_149 : decode cX7_count 149 = .ok (.iaload, 1) := by decide +kernel
theorem dX7_count_150 : decode cX7_count 150 = .ok (.iadd, 1) := by decide +kernel
theorem dX7_count_151 : decode cX7_count 151 = .ok (.istore_n 2, 1) := by decide +kernel
theorem dX7_count_152 : decode cX7_count 152 = .ok (.iinc 3 1, 3) := by decide +kernel
theorem dX7_count_155 : decode cX7_count 155 = .ok (.goto (-25), 3) := by decide +kernel
theorem dX7_count_158 : decode cX7_count 158 = .ok (.iload_n 2, 1) := by decide +kernel
theorem dX7_count_159 : decode cX7_count 159 = .ok (.ireturn, 1) := by decide +kernel
theorem dX7_count_160 : decode cX7_count 160 = .ok (.aload_n 0, 1) := by decide +kernel
theorem dX7_count_161 : decode cX7_count 161 = .ok (.getfield 9, 3) := by decide +kernel
theorem dX7_count_164 : decode cX7_count 164 = .ok (.iconst 4, 1) := by decide +kernel
theorem dX7_count_165 : decode cX7_count 165 = .ok (.iaload, 1) := by decide +kernel
theorem dX7_count_166 : decode cX7_count 166 = .ok (.ireturn, 1) := by decide +kernel
theorem dX7_count_167 : decode cX7_count 167 = .ok (.aload_n 0, 1) := by decide +kernel
theorem dX7_count_168 : decode cX7_count 168 = .ok (.getfield 23, 3) := by decide +kernel
theorem dX7_count_171 : decode cX7_count 171 = .ok (.ireturn, 1) := by decide +kernel
theorem dX7_count_172 : decode cX7_count 172 = .ok (.iload_n 2, 1) := by decide +kernel
theorem dX7_count_173 : decode cX7_count 173 = .ok (.ireturn, 1) := by decide +kernel
theorem dX7_keep_0 : decode cX7_keep 0 = .ok (.iconst 0, 1) := by decide +kernel
theorem dX7_keep_1 : decode cX7_keep 1 = .ok (.istore_n 1, 1) := by decide +kernel
theorem dX7_keep_2 : decode cX7_keep 2 = .ok (.iload_n 1, 1) := by decide +kernel
theorem dX7_keep_3 : decode cX7_keep 3 = .ok (.sipush 4324, 3) := by decide +kernel
theorem dX7_keep_6 : decode cX7_keep 6 = .ok (.if_icmp .ge 21, 3) := by decide +kernel
theorem dX7_keep_9 : decode cX7_keep 9 = .ok (.aload_n 0, 1) := by decide +kernel
theorem dX7_keep_10 : decode cX7_keep 10 = .ok (.getfield 13, 3) := by decide +kernel
theorem dX7_keep_13 : decode cX7_keep 13 = .ok (.iload_n 1, 1) := by decide +kernel
theorem dX7_keep_14 : decode cX7_keep 14 = .ok (.aload_n 0, 1) := by decide +kernel
theorem dX7_keep_15 : decode cX7_keep 15 = .ok (.getfield 9, 3) := by decide +kernel
theorem dX7_keep_18 : decode cX7_keep 18 = .ok (.iload_n 1, 1) := by decide +kernel
theorem dX7_keep_19 : decode cX7_keep 19 = .ok (.iaload, 1) := by decide +kernel
theorem dX7_keep_20 : decode cX7_keep 20 = .ok (.iastore, 1) := by decide +kernel
theorem dX7_keep_21 : decode cX7_keep 21 = .ok (.iinc 1 1, 3) := by decide +kernel
theorem dX7_keep_24 : decode cX7_keep 24 = .ok (.goto (-22), 3) := by decide +kernel
theorem dX7_keep_27 : decode cX7_keep 27 = .ok (.aload_n 0, 1) := by decide +kernel
theorem dX7_keep_28 : decode cX7_keep 28 = .ok (.iconst 1, 1) := by decide +kernel
theorem dX7_keep_29 : decode cX7_keep 29 = .ok (.putfield 138, 3) := by decide +kernel
theorem dX7_keep_32 : decode cX7_keep 32 = .ok (.aload_n 0, 1) := by decide +kernel
theorem dX7_keep_33 : decode cX7_keep 33 = .ok (.getfield 9, 3) := by decide +kernel
theorem dX7_keep_36 : decode cX7_keep 36 = .ok (.iconst 4, 1) := by decide +kernel
theorem dX7_keep_37 : decode cX7_keep 37 = .ok (.iaload, 1) := by decide +kernel
theorem dX7_keep_38 : decode cX7_keep 38 = .ok (.ireturn, 1) := by decide +kernel
theorem dX7_back_0 : decode cX7_back 0 = .ok (.aload_n 0, 1) := by decide +kernel
theorem dX7_back_1 : decode cX7_back 1 = .ok (.getfield 138, 3) := by decide +kernel
theorem dX7_back_4 : decode cX7_back 4 = .ok (.ifCond .ne 10, 3) := by decide +kernel
theorem dX7_back_7 : decode cX7_back 7 = .ok (.aload_n 0, 1) := by decide +kernel
theorem dX7_back_8 : decode cX7_back 8 = .ok (.bipush (-2), 2) := by decide +kernel
theorem dX7_back_10 : decode cX7_back 10 = .ok (.invokevirtual 31, 3) := by decide +kernel
theorem dX7_back_13 : decode cX7_back 13 = .ok (.ireturn, 1) := by decide +kernel
theorem dX7_back_14 : decode cX7_back 14 = .ok (.iconst 0, 1) := by decide +kernel
theorem dX7_back_15 : decode cX7_back 15 = .ok (.istore_n 1, 1) := by decide +kernel
theorem dX7_back_16 : decode cX7_back 16 = .ok (.iload_n 1, 1) := by decide +kernel
theorem dX7_back_17 : decode cX7_back 17 = .ok (.sipush 4324, 3) := by decide +kernel
theorem dX7_back_20 : decode cX7_back 20 = .ok (.if_icmp .ge 21, 3) := by decide +kernel
theorem dX7_back_23 : decode cX7_back 23 = .ok (.aload_n 0, 1) := by decide +kernel
theorem dX7_back_24 : decode cX7_back 24 = .ok (.getfield 9, 3) := by decide +kernel
theorem dX7_back_27 : decode cX7_back 27 = .ok (.iload_n 1, 1) := by decide +kernel
theorem dX7_back_28 : decode cX7_back 28 = .ok (.aload_n 0, 1) := by decide +kernel
theorem dX7_back_29 : decode cX7_back 29 = .ok (.getfield 13, 3) := by decide +kernel
theorem dX7_back_32 : decode cX7_back 32 = .ok (.iload_n 1, 1) := by decide +kernel
theorem dX7_back_33 : decode cX7_back 33 = .ok (.iaload, 1) := by decide +kernel
theorem dX7_back_34 : decode cX7_back 34 = .ok (.iastore, 1) := by decide +kernel
theorem dX7_back_35 : decode cX7_back 35 = .ok (.iinc 1 1, 3) := by decide +kernel
theorem dX7_back_38 : decode cX7_back 38 = .ok (.goto (-22), 3) := by decide +kernel
theorem dX7_back_41 : decode cX7_back 41 = .ok (.aload_n 0, 1) := by decide +kernel
theorem dX7_back_42 : decode cX7_back 42 = .ok (.getfield 9, 3) := by decide +kernel
theorem dX7_back_45 : decode cX7_back 45 = .ok (.iconst 4, 1) := by decide +kernel
theorem dX7_back_46 : decode cX7_back 46 = .ok (.iaload, 1) := by decide +kernel
theorem dX7_back_47 : decode cX7_back 47 = .ok (.ireturn, 1) := by decide +kernel
