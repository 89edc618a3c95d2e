theorem dX10_left_21 : decode cX10_left 21 = .ok (.aload_n 0, 1) := by decide +kernel
theorem dX10_left_22 : decode cX10_left 22 = .ok (.getfield 32, 3) := by decide +kernel
theorem dX10_left_25 : decode cX10_left 25 = .ok (.getfield 137, 3) := by decide +kernel
theorem dX10_left_28 : decode cX10_left 28 = .ok (.iload_n 1, 1) := by decide +kernel
theorem dX10_left_29 : decode cX10_left 29 = .ok (.iconst 3, 1) := by decide +kernel
theorem dX10_left_30 : decode cX10_left 30 = .ok (.imul, 1) := by decide +kernel
theorem dX10_left_31 : decode cX10_left 31 = .ok (.iload_n 2, 1) := by decide +kernel
theorem dX10_left_32 : decode cX10_left 32 = .ok (.iadd, 1) := by decide +kernel
theorem dX10_left_33 : decode cX10_left 33 = .ok (.iaload, 1) := by decide +kernel
theorem dX10_left_34 : decode cX10_left 34 = .ok (.ireturn, 1) := by decide +kernel
theorem dX10_told_0 : decode cX10_told 0 = .ok (.aload_n 0, 1) := by decide +kernel
theorem dX10_told_1 : decode cX10_told 1 = .ok (.getfield 19, 3) := by decide +kernel
theorem dX10_told_4 : decode cX10_told 4 = .ok (.iload_n 1, 1) := by decide +kernel
theorem dX10_told_5 : decode cX10_told 5 = .ok (.invokevirtual 121, 3) := by decide +kernel
theorem dX10_told_8 : decode cX10_told 8 = .ok (.ifCond .ne 5, 3) := by decide +kernel
theorem dX10_told_11 : decode cX10_told 11 = .ok (.iconst (-1), 1) := by decide +kernel
theorem dX10_told_12 : decode cX10_told 12 = .ok (.ireturn, 1) := by decide +kernel
theorem dX10_told_13 : decode cX10_told 13 = .ok (.aload_n 0, 1) := by decide +kernel
theorem dX10_told_14 : decode cX10_told 14 = .ok (.getfield 19, 3) := by decide +kernel
theorem dX10_told_17 : decode cX10_told 17 = .ok (.getfield 126, 3) := by decide +kernel
theorem dX10_told_20 : decode cX10_told 20 = .ok (.iload_n 1, 1) := by decide +kernel
theorem dX10_told_21 : decode cX10_told 21 = .ok (.iaload, 1) := by decide +kernel
theorem dX10_told_22 : decode cX10_told 22 = .ok (.iconst 1, 1) := by decide +kernel
theorem dX10_told_23 : decode cX10_told 23 = .ok (.if_icmp .ne 7, 3) := by decide +kernel
theorem dX10_told_26 : decode cX10_told 26 = .ok (.iconst 1, 1) := by decide +kernel
theorem dX10_told_27 : decode cX10_told 27 = .ok (.goto 4, 3) := by decide +kernel
theorem dX10_told_30 : decode cX10_told 30 = .ok (.iconst 0, 1) := by decide +kernel
theorem dX10_told_31 : decode cX10_told 31 = .ok (.istore_n 3, 1) := by decide +kernel
theorem dX10_told_32 : decode cX10_told 32 = .ok (.iload_n 2, 1) := by decide +kernel
theorem dX10_told_33 : decode cX10_told 33 = .ok (.tableswitch 117 0 5 #[39, 49, 68, 87, 97, 107], 39) := by decide +kernel
theorem dX10_told_72 : decode cX10_told 72 = .ok (.aload_n 0, 1) := by decide +kernel
theorem dX10_told_73 : decode cX10_told 73 = .ok (.getfield 19, 3) := by decide +kernel
theorem dX10_told_76 : decode cX10_told 76 = .ok (.getfield 126, 3) := by decide +kernel
theorem dX10_told_79 : decode cX10_told 79 = .ok (.iload_n 1, 1) := by decide +kernel
theorem dX10_told_80 : decode cX10_told 80 = .ok (.iaload, 1) := by decide +kernel
theorem dX10_told_81 : decode cX10_told 81 = .ok (.ireturn, 1) := by decide +kernel
theorem dX10_told_82 : decode cX10_told 82 = .ok (.iload_n 3, 1) := by decide +kernel
theorem dX10_told_83 : decode cX10_told 83 = .ok (.ifCond .eq 15, 3) := by decide +kernel
theorem dX10_told_86 : decode cX10_told 86 = .ok (.aload_n 0, 1) := by decide +kernel
theorem dX10_told_87 : decode cX10_told 87 = .ok (.getfield 19, 3) := by decide +kernel
theorem dX10_told_90 : decode cX10_told 90 = .ok (.getfield 140, 3) := by decide +kernel
theorem dX10_told_93 : decode cX10_told 93 = .ok (.iload_n 1, 1) := by decide +kernel
theorem dX10_told_94 : decode cX10_told 94 = .ok (.iaload, 1) := by decide +kernel
theorem dX10_told_95 : decode cX10_told 95 = .ok (.goto 5, 3) := by decide +kernel
theorem dX10_told_98 : decode cX10_told 98 = .ok (.bipush (-3), 2) := by decide +kernel
theorem dX10_told_100 : decode cX10_told 100 = .ok (.ireturn, 1) := by decide +kernel
theorem dX10_told_101 : decode cX10_told 101 = .ok (.iload_n 3, 1) := by decide +kernel
theorem dX10_told_102 : decode cX10_told 102 = .ok (.ifCond .eq 15, 3) := by decide +kernel
theorem dX10_told_105 : decode cX10_told 105 = .ok (.aload_n 0, 1) := by decide +kernel
theorem dX10_told_106 : decode cX10_told 106 = .ok (.getfield 19, 3) := by decide +kernel
theorem dX10_told_109 : decode cX10_told 109 = .ok (.getfield 143, 3) := by decide +kernel
theorem dX10_told_112 : decode cX10_told 112 = .ok (.iload_n 1, 1) := by decide +kernel
theorem dX10_told_113 : decode cX10_told 113 = .ok (.iaload, 1) := by decide +kernel
theorem dX10_told_114 : decode cX10_told 114 = .ok (.goto 5, 3) := by decide +kernel
theorem dX10_told_117 : decode cX10_told 117 = .ok (.bipush (-3), 2) := by decide +kernel
theorem dX10_told_119 : decode cX10_told 119 = .ok (.ireturn, 1) := by decide +kernel
theorem dX10_told_120 : decode cX10_told 120 = .ok (.aload_n 0, 1) := by decide +kernel
theorem dX10_told_121 : decode cX10_told 121 = .ok (.getfield 19, 3) := by decide +kernel
theorem dX10_told_124 : decode cX10_told 124 = .ok (.getfield 146, 3) := by decide +kernel
theorem dX10_told_127 : decode cX10_told 127 = .ok (.iload_n 1, 1) := by decide +kernel
theorem dX10_told_128 : decode cX10_told 128 = .ok (.iaload, 1) := by decide +kernel
theorem dX10_told_129 : decode cX10_told 129 = .ok (.ireturn, 1) := by decide +kernel
theorem dX10_told_130 : decode cX10_told 130 = .ok (.aload_n 0, 1) := by decide +kernel
theorem dX10_told_131 : decode cX10_told 131 = .ok (.getfield 19, 3) := by decide +kernel
theorem dX10_told_134 : decode cX10_told 134 = .ok (.getfield 149, 3) := by decide +kernel
theorem dX10_told_137 : decode cX10_told 137 = .ok (.iload_n 1, 1) := by decide +kernel
theorem dX10_told_138 : decode cX10_told 138 = .ok (.iaload, 1) := by decide +kernel
theorem dX10_told_139 : decode cX10_told 139 = .ok (.ireturn, 1) := by decide +kernel
theorem dX10_told_140 : decode cX10_told 140 = .ok (.aload_n 0, 1) := by decide +kernel
theorem dX10_told_141 : decode cX10_told 141 = .ok (.getfield 19, 3) := by decide +kernel
theorem dX10_told_144 : decode cX10_told 144 = .ok (.getfield 152, 3) := by decide +kernel
theorem dX10_told_147 : decode cX10_told 147 = .ok (.iload_n 1, 1) := by decide +kernel
theorem dX10_told_148 : decode cX10_told 148 = .ok (.iaload, 1) := by decide +kernel
theorem dX10_told_149 : decode cX10_told 149 = .ok (.ireturn, 1) := by decide +kernel
theorem dX10_told_150 : decode cX10_told 150 = .ok (.iconst (-1), 1) := by decide +kernel
theorem dX10_told_151 : decode cX10_told 151 = .ok (.ireturn, 1) := by decide +kernel
theorem dX10_place_0 : decode cX10_place 0 = .ok (.aload_n 0, 1) := by decide +kernel
theorem dX10_place_1 : decode cX10_place 1 = .ok (.getfield 19, 3) := by decide +kernel
theorem dX10_place_4 : decode cX10_place 4 = .ok (.iload_n 1, 1) := by decide +kernel
theorem dX10_place_5 : decode cX10_place 5 = .ok (.invokevirtual 121, 3) := by decide +kernel
theorem dX10_place_8 : decode cX10_place 8 = .ok (.ifCond .ne 5, 3) := by decide +kernel
theorem dX10_place_11 : decode cX10_place 11 = .ok (.iconst (-1), 1) := by decide +kernel
theorem dX10_place_12 : decode cX10_place 12 = .ok (.ireturn, 1) := by decide +kernel
theorem dX10_place_13 : decode cX10_place 13 = .ok (.aload_n 0, 1) := by decide +kernel
theorem dX10_place_14 : decode cX10_place 14 = .ok (.getfield 19, 3) := by decide +kernel
theorem dX10_place_17 : decode cX10_place 17 = .ok (.getfield 126, 3) := by decide +kernel
theorem dX10_place_20 : decode cX10_place 20 = .ok (.iload_n 1, 1) := by decide +kernel
theorem dX10_place_21 : decode cX10_place 21 = .ok (.iaload, 1) := by decide +kernel
theorem dX10_place_22 : decode cX10_place 22 = .ok (.ifCond .ne 16, 3) := by decide +kernel
theorem dX10_place_25 : decode cX10_place 25 = .ok (.aload_n 0, 1) := by decide +kernel
theorem dX10_place_26 : decode cX10_place 26 = .ok (.getfield 19, 3) := by decide +kernel
theorem dX10_place_29 : decode cX10_place 29 = .ok (.getfield 146, 3) := by decide +kernel
theorem dX10_place_32 : decode cX10_place 32 = .ok (.iload_n 1, 1) := by decide +kernel
theorem dX10_place_33 : decode cX10_place 33 = .ok (.iaload, 1) := by decide +kernel
theorem dX10_place_34 : decode cX10_place 34 = .ok (.iconst 2, 1) := by decide +kernel
theorem dX10_place_35 : decode cX10_place 35 = .ok (.if_icmp .ne 6, 3) := by decide +kernel
theorem dX10_place_38 : decode cX10_place 38 = .ok (.bipush (-2), 2) := by decide +kernel
theorem dX10_place_40 : decode cX10_place 40 = .ok (.ireturn, 1) := by decide +kernel
theorem dX10_place_41 : decode cX10_place 41 = .ok (.aload_n 0, 1) := by decide +kernel
theorem dX10_place_42 : decode cX10_place 42 = .ok (.getfield 32, 3) := by decide +kernel
theorem dX10_place_45 : decode cX10_place 45 = .ok (.iload_n 1, 1) := by decide +kernel
theorem dX10_place_46 : decode cX10_place 46 = .ok (.invokevirtual 155, 3) := by decide +kernel
theorem dX10_place_49 : decode cX10_place 49 = .ok (.istore_n 2, 1) := by decide +kernel
theorem dX10_place_50 : decode cX10_place 50 = .ok (.iload_n 2, 1) := by decide +kernel
theorem dX10_place_51 : decode cX10_place 51 = .ok (.iconst (-1), 1) := by decide +kernel
theorem dX10_place_52 : decode cX10_place 52 = .ok (.if_icmp .ne 7, 3) := by decide +kernel
theorem dX10_place_55 : decode cX10_place 55 = .ok (.iconst 1, 1) := by decide +kernel
theorem dX10_place_56 : decode cX10_place 56 = .ok (.goto 4, 3) := by decide +kernel
theorem dX10_place_59 : decode cX10_place 59 = .ok (.iconst 0, 1) := by decide +kernel
theorem dX10_place_60 : decode cX10_place 60 = .ok (.istore_n 3, 1) := by decide +kernel
theorem dX10_place_61 : decode cX10_place 61 = .ok (.iload_n 3, 1) := by decide +kernel
theorem dX10_place_62 : decode cX10_place 62 = .ok (.ifCond .eq 12, 3) := by decide +kernel
theorem dX10_place_65 : decode cX10_place 65 = .ok (.aload_n 0, 1) := by decide +kernel
theorem dX10_place_66 : decode cX10_place 66 = .ok (.getfield 48, 3) := by decide +kernel
theorem dX10_place_69 : decode cX10_place 69 = .ok (.iload_n 1, 1) := by decide +kernel
theorem dX10_place_70 : decode cX10_place 70 = .ok (.invokevirtual 159, 3) := by decide +kernel
theorem dX10_place_73 : decode cX10_place 73 = .ok (.istore_n 2, 1) := by decide +kernel
theorem dX10_place_74 : decode cX10_place 74 = .ok (.iload_n 2, 1) := by decide +kernel
theorem dX10_place_75 : decode cX10_place 75 = .ok (.iconst (-1), 1) := by decide +kernel
theorem dX10_place_76 : decode cX10_place 76 = .ok (.if_icmp .ne 6, 3) := by decide +kernel
theorem dX10_place_79 : decode cX10_place 79 = .ok (.bipush (-3), 2) := by decide +kernel
theorem dX10_place_81 : decode cX10_place 81 = .ok (.ireturn, 1) := by decide +kernel
theorem dX10_place_82 : decode cX10_place 82 = .ok (.aload_n 0, 1) := by decide +kernel
theorem dX10_place_83 : decode cX10_place 83 = .ok (.getfield 39, 3) := by decide +kernel
theorem dX10_place_86 : decode cX10_place 86 = .ok (.invokevirtual 97, 3) := by decide +kernel
theorem dX10_place_89 : decode cX10_place 89 = .ok (.aload_n 0, 1) := by decide +kernel
theorem dX10_place_90 : decode cX10_place 90 = .ok (.iload_n 3, 1) := by decide +kernel
theorem dX10_place_91 : decode cX10_place 91 = .ok (.ifCond .eq 12, 3) := by decide +kernel
theorem dX10_place_94 : decode cX10_place 94 = .ok (.aload_n 0, 1) := by decide +kernel
theorem dX10_place_95 : decode cX10_place 95 = .ok (.iload_n 1, 1) := by decide +kernel
theorem dX10_place_96 : decode cX10_place 96 = .ok (.iload_n 2, 1) := by decide +kernel
theorem dX10_place_97 : decode cX10_place 97 = .ok (.invokevirtual 160, 3) := by decide +kernel
theorem dX10_place_100 : decode cX10_place 100 = .ok (.goto 4, 3) := by decide +kernel
theorem dX10_place_103 : decode cX10_place 103 = .ok (.iconst 0, 1) := by decide +kernel
theorem dX10_place_104 : decode cX10_place 104 = .ok (.putfield 163, 3) := by decide +kernel
theorem dX10_place_107 : decode cX10_place 107 = .ok (.aload_n 0, 1) := by decide +kernel
theorem dX10_place_108 : decode cX10_place 108 = .ok (.iload_n 1, 1) := by decide +kernel
theorem dX10_place_109 : decode cX10_place 109 = .ok (.iload_n 2, 1) := by decide +kernel
theorem dX10_place_110 : decode cX10_place 110 = .ok (.invokevirtual 166, 3) := by decide +kernel
theorem dX10_place_113 : decode cX10_place 113 = .ok (.iload_n 2, 1) := by decide +kernel
theorem dX10_place_114 : decode cX10_place 114 = .ok (.ireturn, 1) := by decide +kernel
theorem dX10_gone_0 : decode cX10_gone 0 = .ok (.aload_n 0, 1) := by decide +kernel
theorem dX10_gone_1 : decode cX10_gone 1 = .ok (.getfield 163, 3) := by decide +kernel
theorem dX10_gone_4 : decode cX10_gone 4 = .ok (.ireturn, 1) := by decide +kernel
theorem dX10_gang_0 : decode cX10_gang 0 = .ok (.iload_n 1, 1) := by decide +kernel
theorem dX10_gang_1 : decode cX10_gang 1 = .ok (.bipush 8, 2) := by decide +kernel
theorem dX10_gang_3 : decode cX10_gang 3 = .ok (.invokestatic 89, 3) := by decide +kernel
theorem dX10_gang_6 : decode cX10_gang 6 = .ok (.ifCond .ne 5, 3) := by decide +kernel
theorem dX10_gang_9 : decode cX10_gang 9 = .ok (.iconst (-1), 1) := by decide +kernel
theorem dX10_gang_10 : decode cX10_gang 10 = .ok (.ireturn, 1) := by decide +kernel
theorem dX10_gang_11 : decode cX10_gang 11 = .ok (.aload_n 0, 1) := by decide +kernel
theorem dX10_gang_12 : decode cX10_gang 12 = .ok (.iload_n 1, 1) := by decide +kernel
theorem dX10_gang_13 : decode cX10_gang 13 = .ok (.invokevirtual 170, 3) := by decide +kernel
theorem dX10_gang_16 : decode cX10_gang 16 = .ok (.istore_n 2, 1) := by decide +kernel
theorem dX10_gang_17 : decode cX10_gang 17 = .ok (.iload_n 2, 1) := by decide +kernel
theorem dX10_gang_18 : decode cX10_gang 18 = .ok (.ifCond .ne 6, 3) := by decide +kernel
theorem dX10_gang_21 : decode cX10_gang 21 = .ok (.bipush (-2), 2) := by decide +kernel
theorem dX10_gang_23 : decode cX10_gang 23 = .ok (.ireturn, 1) := by decide +kernel
theorem dX10_gang_24 : decode cX10_gang 24 = .ok (.aload_n 0, 1) := by decide +kernel
theorem dX10_gang_25 : decode cX10_gang 25 = .ok (.iload_n 1, 1) := by decide +kernel
theorem dX10_gang_26 : decode cX10_gang 26 = .ok (.invokevirtual 173, 3) := by decide +kernel
theorem dX10_gang_29 : decode cX10_gang 29 = .ok (.istore_n 3, 1) := by decide +kernel
theorem dX10_gang_30 : decode cX10_gang 30 = .ok (.aload_n 0, 1) := by decide +kernel
theorem dX10_gang_31 : decode cX10_gang 31 = .ok (.getfield 32, 3) := by decide +kernel
theorem dX10_gang_34 : decode cX10_gang 34 = .ok (.invokevirtual 111, 3) := by decide +kernel
theorem dX10_gang_37 : decode cX10_gang 37 = .ok (.iload_n 3, 1) := by decide +kernel
theorem dX10_gang_38 : decode cX10_gang 38 = .ok (.ifCond .ne 6, 3) := by decide +kernel
theorem dX10_gang_41 : decode cX10_gang 41 = .ok (.bipush (-3), 2) := by decide +kernel
theorem dX10_gang_43 : decode cX10_gang 43 = .ok (.ireturn, 1) := by decide +kernel
theorem dX10_gang_44 : decode cX10_gang 44 = .ok (.aload_n 0, 1) := by decide +kernel
theorem dX10_gang_45 : decode cX10_gang 45 = .ok (.getfield 39, 3) := by decide +kernel
theorem dX10_gang_48 : decode cX10_gang 48 = .ok (.invokevirtual 97, 3) := by decide +kernel
theorem dX10_gang_51 : decode cX10_gang 51 = .ok (.iconst 0, 1) := by decide +kernel
theorem dX10_gang_52 : decode cX10_gang 52 = .ok (.istore 4, 2) := by decide +kernel
theorem dX10_gang_54 : decode cX10_gang 54 = .ok (.iload 4, 2) := by decide +kernel
theorem dX10_gang_56 : decode cX10_gang 56 = .ok (.aload_n 0, 1) := by decide +kernel
theorem dX10_gang_57 : decode cX10_gang 57 = .ok (.getfield 19, 3) := by decide +kernel
theorem dX10_gang_60 : decode cX10_gang 60 = .ok (.getfield 114, 3) := by decide +kernel
theorem dX10_gang_63 : decode cX10_gang 63 = .ok (.if_icmp .ge 34, 3) := by decide +kernel
theorem dX10_gang_66 : decode cX10_gang 66 = .ok (.aload_n 0, 1) := by decide +kernel
theorem dX10_gang_67 : decode cX10_gang 67 = .ok (.iload 4, 2) := by decide +kernel
theorem dX10_gang_69 : decode cX10_gang 69 = .ok (.iload_n 1, 1) := by decide +kernel
theorem dX10_gang_70 : decode cX10_gang 70 = .ok (.invokevirtual 176, 3) := by decide +kernel
theorem dX10_gang_73 : decode cX10_gang 73 = .ok (.ifCond .eq 18, 3) := by decide +kernel
theorem dX10_gang_76 : decode cX10_gang 76 = .ok (.aload_n 0, 1) := by decide +kernel
theorem dX10_gang_77 : decode cX10_gang 77 = .ok (.iload 4, 2) := by decide +kernel
theorem dX10_gang_79 : decode cX10_gang 79 = .ok (.aload_n 0, 1) := by decide +kernel
theorem dX10_gang_80 : decode cX10_gang 80 = .ok (.getfield 32, 3) := by decide +kernel
theorem dX10_gang_83 : decode cX10_gang 83 = .ok (.iload 4, 2) := by decide +kernel
theorem dX10_gang_85 : decode cX10_gang 85 = .ok (.invokevirtual 155, 3) := by decide +kernel
theorem dX10_gang_88 : decode cX10_gang 88 = .ok (.invokevirtual 166, 3) := by decide +kernel
theorem dX10_gang_91 : decode cX10_gang 91 = .ok (.iinc 4 1, 3) := by decide +kernel
theorem dX10_gang_94 : decode cX10_gang 94 = .ok (.goto (-40), 3) := by decide +kernel
theorem dX10_gang_97 : decode cX10_gang 97 = .ok (.iload_n 2, 1) := by decide +kernel
theorem dX10_gang_98 : decode cX10_gang 98 = .ok (.ireturn, 1) := by decide +kernel
theorem dX10_end_0 : decode cX10_end 0 = .ok (.aload_n 0, 1) := by decide +kernel
theorem dX10_end_1 : decode cX10_end 1 = .ok (.getfield 19, 3) := by decide +kernel
theorem dX10_end_4 : decode cX10_end 4 = .ok (.iload_n 1, 1) := by decide +kernel
theorem dX10_end_5 : decode cX10_end 5 = .ok (.invokevirtual 121, 3) := by decide +kernel
theorem dX10_end_8 : decode cX10_end 8 = .ok (.ifCond .ne 5, 3) := by decide +kernel
theorem dX10_end_11 : decode cX10_end 11 = .ok (.iconst (-1), 1) := by decide +kernel
theorem dX10_end_12 : decode cX10_end 12 = .ok (.ireturn, 1) := by decide +kernel
theorem dX10_end_13 : decode cX10_end 13 = .ok (.aload_n 0, 1) := by decide +kernel
theorem dX10_end_14 : decode cX10_end 14 = .ok (.getfield 19, 3) := by decide +kernel
theorem dX10_end_17 : decode cX10_end 17 = .ok (.getfield 126, 3) := by decide +kernel
theorem dX10_end_20 : decode cX10_end 20 = .ok (.iload_n 1, 1) := by decide +kernel
theorem dX10_end_21 : decode cX10_end 21 = .ok (.iaload, 1) := by decide +kernel
theorem dX10_end_22 : decode cX10_end 22 = .ok (.iconst 2, 1) := by decide +kernel
theorem dX10_end_23 : decode cX10_end 23 = .ok (.if_icmp .ne 6, 3) := by decide +kernel
theorem dX10_end_26 : decode cX10_end 26 = .ok (.bipush (-2), 2) := by decide +kernel
theorem dX10_end_28 : decode cX10_end 28 = .ok (.ireturn, 1) := by decide +kernel
theorem dX10_end_29 : decode cX10_end 29 = .ok (.aload_n 0, 1) := by decide +kernel
theorem dX10_end_30 : decode cX10_end 30 = .ok (.getfield 39, 3) := by decide +kernel
theorem dX10_end_33 : decode cX10_end 33 = .ok (.invokevirtual 97, 3) := by decide +kernel
theorem dX10_end_36 : decode cX10_end 36 = .ok (.aload_n 0, 1) := by decide +kernel
theorem dX10_end_37 : decode cX10_end 37 = .ok (.iload_n 1, 1) := by decide +kernel
theorem dX10_end_38 : decode cX10_end 38 = .ok (.iconst 2, 1) := by decide +kernel
theorem dX10_end_39 : decode cX10_end 39 = .ok (.invokevirtual 179, 3) := by decide +kernel
theorem dX10_end_42 : decode cX10_end 42 = .ok (.iconst 1, 1) := by decide +kernel
theorem dX10_end_43 : decode cX10_end 43 = .ok (.ireturn, 1) := by decide +kernel
theorem dX10_fall_0 : decode cX10_fall 0 = .ok (.aload_n 0, 1) := by decide +kernel
theorem dX10_fall_1 : decode cX10_fall 1 = .ok (.getfield 10, 3) := by decide +kernel
theorem dX10_fall_4 : decode cX10_fall 4 = .ok (.iload_n 1, 1) := by decide +kernel
theorem dX10_fall_5 : decode cX10_fall 5 = .ok (.invokevirtual 125, 3) := by decide +kernel
theorem dX10_fall_8 : decode cX10_fall 8 = .ok (.ifCond .ne 5, 3) := by decide +kernel
theorem dX10_fall_11 : decode cX10_fall 11 = .ok (.iconst (-1), 1) := by decide +kernel
theorem dX10_fall_12 : decode cX10_fall 12 = .ok (.ireturn, 1) := by decide +kernel
theorem dX10_fall_13 : decode cX10_fall 13 = .ok (.aload_n 0, 1) := by decide +kernel
theorem dX10_fall_14 : decode cX10_fall 14 = .ok (.getfield 10, 3) := by decide +kernel
theorem dX10_fall_17 : decode cX10_fall 17 = .ok (.getfield 182, 3) := by decide +kernel
theorem dX10_fall_20 : decode cX10_fall 20 = .ok (.iload_n 1, 1) := by decide +kernel
theorem dX10_fall_21 : decode cX10_fall 21 = .ok (.baload, 1) := by decide +kernel
theorem dX10_fall_22 : decode cX10_fall 22 = .ok (.ifCond .ne 6, 3) := by decide +kernel
theorem dX10_fall_25 : decode cX10_fall 25 = .ok (.bipush (-2), 2) := by decide +kernel
theorem dX10_fall_27 : decode cX10_fall 27 = .ok (.ireturn, 1) := by decide +kernel
theorem dX10_fall_28 : decode cX10_fall 28 = .ok (.aload_n 0, 1) := by decide +kernel
theorem dX10_fall_29 : decode cX10_fall 29 = .ok (.getfield 39, 3) := by decide +kernel
theorem dX10_fall_32 : decode cX10_fall 32 = .ok (.invokevirtual 97, 3) := by decide +kernel
theorem dX10_fall_35 : decode cX10_fall 35 = .ok (.aload_n 0, 1) := by decide +kernel
theorem dX10_fall_36 : decode cX10_fall 36 = .ok (.getfield 10, 3) := by decide +kernel
theorem dX10_fall_39 : decode cX10_fall 39 = .ok (.getfield 182, 3) := by decide +kernel
theorem dX10_fall_42 : decode cX10_fall 42 = .ok (.iload_n 1, 1) := by decide +kernel
theorem dX10_fall_43 : decode cX10_fall 43 = .ok (.iconst 0, 1) := by decide +kernel
theorem dX10_fall_44 : decode cX10_fall 44 = .ok (.bastore, 1) := by decide +kernel
theorem dX10_fall_45 : decode cX10_fall 45 = .ok (.iconst 0, 1) := by decide +kernel
theorem dX10_fall_46 : decode cX10_fall 46 = .ok (.istore_n 2, 1) := by decide +kernel
theorem dX10_fall_47 : decode cX10_fall 47 = .ok (.iconst 0, 1) := by decide +kernel
theorem dX10_fall_48 : decode cX10_fall 48 = .ok (.istore_n 3, 1) := by decide +kernel
theorem dX10_fall_49 : decode cX10_fall 49 = .ok (.iload_n 3, 1) := by decide +kernel
theorem dX10_fall_50 : decode cX10_fall 50 = .ok (.aload_n 0, 1) := by decide +kernel
theorem dX10_fall_51 : decode cX10_fall 51 = .ok (.getfield 19, 3) := by decide +kernel
theorem dX10_fall_54 : decode cX10_fall 54 = .ok (.getfield 114, 3) := by decide +kernel
theorem dX10_fall_57 : decode cX10_fall 57 = .ok (.if_icmp .ge 69, 3) := by decide +kernel
theorem dX10_fall_60 : decode cX10_fall 60 = .ok (.aload_n 0, 1) := by decide +kernel
theorem dX10_fall_61 : decode cX10_fall 61 = .ok (.getfield 19, 3) := by decide +kernel
theorem dX10_fall_64 : decode cX10_fall 64 = .ok (.iload_n 3, 1) := by decide +kernel
theorem dX10_fall_65 : decode cX10_fall 65 = .ok (.iload_n 1, 1) := by decide +kernel
theorem dX10_fall_66 : decode cX10_fall 66 = .ok (.invokevirtual 186, 3) := by decide +kernel
theorem dX10_fall_69 : decode cX10_fall 69 = .ok (.ifCond .eq 51, 3) := by decide +kernel
theorem dX10_fall_72 : decode cX10_fall 72 = .ok (.aload_n 0, 1) := by decide +kernel
theorem dX10_fall_73 : decode cX10_fall 73 = .ok (.getfield 19, 3) := by decide +kernel
theorem dX10_fall_76 : decode cX10_fall 76 = .ok (.getfield 146, 3) := by decide +kernel
theorem dX10_fall_79 : decode cX10_fall 79 = .ok (.iload_n 3, 1) := by decide +kernel
theorem dX10_fall_80 : decode cX10_fall 80 = .ok (.iaload, 1) := by decide +kernel
theorem dX10_fall_81 : decode cX10_fall 81 = .ok (.iconst 3, 1) := by decide +kernel
theorem dX10_fall_82 : decode cX10_fall 82 = .ok (.if_icmp .ne 7, 3) := by decide +kernel
theorem dX10_fall_85 : decode cX10_fall 85 = .ok (.iconst 1, 1) := by decide +kernel
theorem dX10_fall_86 : decode cX10_fall 86 = .ok (.goto 4, 3) := by decide +kernel
theorem dX10_fall_89 : decode cX10_fall 89 = .ok (.iconst 0, 1) := by decide +kernel
theorem dX10_fall_90 : decode cX10_fall 90 = .ok (.istore 4, 2) := by decide +kernel
theorem dX10_fall_92 : decode cX10_fall 92 = .ok (.aload_n 0, 1) := by decide +kernel
theorem dX10_fall_93 : decode cX10_fall 93 = .ok (.iload_n 3, 1) := by decide +kernel
theorem dX10_fall_94 : decode cX10_fall 94 = .ok (.iload 4, 2) := by decide +kernel
theorem dX10_fall_96 : decode cX10_fall 96 = .ok (.ifCond .eq 7, 3) := by decide +kernel
theorem dX10_fall_99 : decode cX10_fall 99 = .ok (.iconst 2, 1) := by decide +kernel
theorem dX10_fall_100 : decode cX10_fall 100 = .ok (.goto 4, 3) := by decide +kernel
theorem dX10_fall_103 : decode cX10_fall 103 = .ok (.iconst 0, 1) := by decide +kernel
theorem dX10_fall_104 : decode cX10_fall 104 = .ok (.invokevirtual 179, 3) := by decide +kernel
theorem dX10_fall_107 : decode cX10_fall 107 = .ok (.iload_n 2, 1) := by decide +kernel
theorem dX10_fall_108 : decode cX10_fall 108 = .ok (.iload 4, 2) := by decide +kernel
theorem dX10_fall_110 : decode cX10_fall 110 = .ok (.ifCond .eq 7, 3) := by decide +kernel
theorem dX10_fall_113 : decode cX10_fall 113 = .ok (.iconst 0, 1) := by decide +kernel
theorem dX10_fall_114 : decode cX10_fall 114 = .ok (.goto 4, 3) := by decide +kernel
theorem dX10_fall_117 : decode cX10_fall 117 = .ok (.iconst 1, 1) := by decide +kernel
theorem dX10_fall_118 : decode cX10_fall 118 = .ok (.iadd, 1) := by decide +kernel
theorem dX10_fall_119 : decode cX10_fall 119 = .ok (.istore_n 2, 1) := by decide +kernel
theorem dX10_fall_120 : decode cX10_fall 120 = .ok (.iinc 3 1, 3) := by decide +kernel
theorem dX10_fall_123 : decode cX10_fall 123 = .ok (.goto (-74), 3) := by decide +kernel
theorem dX10_fall_126 : decode cX10_fall 126 = .ok (.iload_n 2, 1) := by decide +kernel
theorem dX10_fall_127 : decode cX10_fall 127 = .ok (.ireturn, 1) := by decide +kernel
theorem dX10_rise_0 : decode cX10_rise 0 = .ok (.aload_n 0, 1) := by decide +kernel
theorem dX10_rise_1 : decode cX10_rise 1 = .ok (.getfield 10, 3) := by decide +kernel
theorem dX10_rise_4 : decode cX10_rise 4 = .ok (.iload_n 1, 1) := by decide +kernel
theorem dX10_rise_5 : decode cX10_rise 5 = .ok (.invokevirtual 125, 3) := by decide +kernel
theorem dX10_rise_8 : decode cX10_rise 8 = .ok (.ifCond .ne 5, 3) := by decide +kernel
theorem dX10_rise_11 : decode cX10_rise 11 = .ok (.iconst (-1), 1) := by decide +kernel
theorem dX10_rise_12 : decode cX10_rise 12 = .ok (.ireturn, 1) := by decide +kernel
theorem dX10_rise_13 : decode cX10_rise 13 = .ok (.aload_n 0, 1) := by decide +kernel
theorem dX10_rise_14 : decode cX10_rise 14 = .ok (.getfield 10, 3) := by decide +kernel
theorem dX10_rise_17 : decode cX10_rise 17 = .ok (.getfield 182, 3) := by decide +kernel
theorem dX10_rise_20 : decode cX10_rise 20 = .ok (.iload_n 1, 1) := by decide +kernel
theorem dX10_rise_21 : decode cX10_rise 21 = .ok (.baload, 1) := by decide +kernel
theorem dX10_rise_22 : decode cX10_rise 22 = .ok (.ifCond .eq 6, 3) := by decide +kernel
theorem dX10_rise_25 : decode cX10_rise 25 = .ok (.bipush (-2), 2) := by decide +kernel
theorem dX10_rise_27 : decode cX10_rise 27 = .ok (.ireturn, 1) := by decide +kernel
theorem dX10_rise_28 : decode cX10_rise 28 = .ok (.aload_n 0, 1) := by decide +kernel
theorem dX10_rise_29 : decode cX10_rise 29 = .ok (.getfield 39, 3) := by decide +kernel
theorem dX10_rise_32 : decode cX10_rise 32 = .ok (.invokevirtual 97, 3) := by decide +kernel
theorem dX10_rise_35 : decode cX10_rise 35 = .ok (.aload_n 0, 1) := by decide +kernel
theorem dX10_rise_36 : decode cX10_rise 36 = .ok (.getfield 10, 3) := by decide +kernel
theorem dX10_rise_39 : decode cX10_rise 39 = .ok (.getfield 182, 3) := by decide +kernel
theorem dX10_rise_42 : decode cX10_rise 42 = .ok (.iload_n 1, 1) := by decide +kernel
theorem dX10_rise_43 : decode cX10_rise 43 = .ok (.iconst 1, 1) := by decide +kernel
theorem dX10_rise_44 : decode cX10_rise 44 = .ok (.bastore, 1) := by decide +kernel
theorem dX10_rise_45 : decode cX10_rise 45 = .ok (.iconst 1, 1) := by decide +kernel
theorem dX10_rise_46 : decode cX10_rise 46 = .ok (.ireturn, 1) := by decide +kernel
theorem dX10_move_0 : decode cX10_move 0 = .ok (.aload_n 0, 1) := by decide +kernel
theorem dX10_move_1 : decode cX10_move 1 = .ok (.getfield 19, 3) := by decide +kernel
theorem dX10_move_4 : decode cX10_move 4 = .ok (.iload_n 1, 1) := by decide +kernel
theorem dX10_move_5 : decode cX10_move 5 = .ok (.invokevirtual 121, 3) := by decide +kernel
theorem dX10_move_8 : decode cX10_move 8 = .ok (.ifCond .eq 14, 3) := by decide +kernel
theorem dX10_move_11 : decode cX10_move 11 = .ok (.aload_n 0, 1) := by decide +kernel
theorem dX10_move_12 : decode cX10_move 12 = .ok (.getfield 10, 3) := by decide +kernel
theorem dX10_move_15 : decode cX10_move 15 = .ok (.iload_n 2, 1) := by decide +kernel
theorem dX10_move_16 : decode cX10_move 16 = .ok (.invokevirtual 125, 3) := by decide +kernel
theorem dX10_move_19 : decode cX10_move 19 = .ok (.ifCond .ne 5, 3) := by decide +kernel
theorem dX10_move_22 : decode cX10_move 22 = .ok (.iconst (-1), 1) := by decide +kernel
theorem dX10_move_23 : decode cX10_move 23 = .ok (.ireturn, 1) := by decide +kernel
theorem dX10_move_24 : decode cX10_move 24 = .ok (.aload_n 0, 1) := by decide +kernel
theorem dX10_move_25 : decode cX10_move 25 = .ok (.getfield 19, 3) := by decide +kernel
theorem dX10_move_28 : decode cX10_move 28 = .ok (.getfield 126, 3) := by decide +kernel
theorem dX10_move_31 : decode cX10_move 31 = .ok (.iload_n 1, 1) := by decide +kernel
theorem dX10_move_32 : decode cX10_move 32 = .ok (.iaload, 1) := by decide +kernel
theorem dX10_move_33 : decode cX10_move 33 = .ok (.iconst 1, 1) := by decide +kernel
theorem dX10_move_34 : decode cX10_move 34 = .ok (.if_icmp .ne 29, 3) := by decide +kernel
theorem dX10_move_37 : decode cX10_move 37 = .ok (.aload_n 0, 1) := by decide +kernel
theorem dX10_move_38 : decode cX10_move 38 = .ok (.getfield 19, 3) := by decide +kernel
theorem dX10_move_41 : decode cX10_move 41 = .ok (.getfield 146, 3) := by decide +kernel
theorem dX10_move_44 : decode cX10_move 44 = .ok (.iload_n 1, 1) := by decide +kernel
theorem dX10_move_45 : decode cX10_move 45 = .ok (.iaload, 1) := by decide +kernel
theorem dX10_move_46 : decode cX10_move 46 = .ok (.iconst 3, 1) := by decide +kernel
theorem dX10_move_47 : decode cX10_move 47 = .ok (.if_icmp .eq 16, 3) := by decide +kernel
theorem dX10_move_50 : decode cX10_move 50 = .ok (.aload_n 0, 1) := by decide +kernel
theorem dX10_move_51 : decode cX10_move 51 = .ok (.getfield 19, 3) := by decide +kernel
theorem dX10_move_54 : decode cX10_move 54 = .ok (.getfield 140, 3) := by decide +kernel
theorem dX10_move_57 : decode cX10_move 57 = .ok (.iload_n 1, 1) := by decide +kernel
theorem dX10_move_58 : decode cX10_move 58 = .ok (.iaload, 1) := by decide +kernel
theorem dX10_move_59 : decode cX10_move 59 = .ok (.iload_n 2, 1) := by decide +kernel
theorem dX10_move_60 : decode cX10_move 60 = .ok (.if_icmp .ne 6, 3) := by decide +kernel
theorem dX10_move_63 : decode cX10_move 63 = .ok (.bipush (-2), 2) := by decide +kernel
theorem dX10_move_65 : decode cX10_move 65 = .ok (.ireturn, 1) := by decide +kernel
theorem dX10_move_66 : decode cX10_move 66 = .ok (.aload_n 0, 1) := by decide +kernel
theorem dX10_move_67 : decode cX10_move 67 = .ok (.getfield 19, 3) := by decide +kernel
theorem dX10_move_70 : decode cX10_move 70 = .ok (.getfield 140, 3) := by decide +kernel
theorem dX10_move_73 : decode cX10_move 73 = .ok (.iload_n 1, 1) := by decide +kernel
theorem dX10_move_74 : decode cX10_move 74 = .ok (.iaload, 1) := by decide +kernel
theorem dX10_move_75 : decode cX10_move 75 = .ok (.istore_n 3, 1) := by decide +kernel
theorem dX10_move_76 : decode cX10_move 76 = .ok (.aload_n 0, 1) := by decide +kernel
theorem dX10_move_77 : decode cX10_move 77 = .ok (.getfield 32, 3) := by decide +kernel
theorem dX10_move_80 : decode cX10_move 80 = .ok (.iload_n 1, 1) := by decide +kernel
theorem dX10_move_81 : decode cX10_move 81 = .ok (.iload_n 3, 1) := by decide +kernel
theorem dX10_move_82 : decode cX10_move 82 = .ok (.iconst (-1), 1) := by decide +kernel
theorem dX10_move_83 : decode cX10_move 83 = .ok (.invokevirtual 189, 3) := by decide +kernel
theorem dX10_move_86 : decode cX10_move 86 = .ok (.aload_n 0, 1) := by decide +kernel
theorem dX10_move_87 : decode cX10_move 87 = .ok (.getfield 32, 3) := by decide +kernel
theorem dX10_move_90 : decode cX10_move 90 = .ok (.iload_n 1, 1) := by decide +kernel
theorem dX10_move_91 : decode cX10_move 91 = .ok (.iload_n 2, 1) := by decide +kernel
theorem dX10_move_92 : decode cX10_move 92 = .ok (.invokevirtual 193, 3) := by decide +kernel
theorem dX10_move_95 : decode cX10_move 95 = .ok (.istore 4, 2) := by decide +kernel
theorem dX10_move_97 : decode cX10_move 97 = .ok (.aload_n 0, 1) := by decide +kernel
theorem dX10_move_98 : decode cX10_move 98 = .ok (.getfield 32, 3) := by decide +kernel
theorem dX10_move_101 : decode cX10_move 101 = .ok (.iload_n 1, 1) := by decide +kernel
theorem dX10_move_102 : decode cX10_move 102 = .ok (.iload_n 3, 1) := by decide +kernel
theorem dX10_move_103 : decode cX10_move 103 = .ok (.iconst 1, 1) := by decide +kernel
theorem dX10_move_104 : decode cX10_move 104 = .ok (.invokevirtual 189, 3) := by decide +kernel
theorem dX10_move_107 : decode cX10_move 107 = .ok (.iload 4, 2) := by decide +kernel
theorem dX10_move_109 : decode cX10_move 109 = .ok (.ifCond .ne 6, 3) := by decide +kernel
theorem dX10_move_112 : decode cX10_move 112 = .ok (.bipush (-3), 2) := by decide +kernel
theorem dX10_move_114 : decode cX10_move 114 = .ok (.ireturn, 1) := by decide +kernel
theorem dX10_move_115 : decode cX10_move 115 = .ok (.aload_n 0, 1) := by decide +kernel
theorem dX10_move_116 : decode cX10_move 116 = .ok (.getfield 39, 3) := by decide +kernel
theorem dX10_move_119 : decode cX10_move 119 = .ok (.invokevirtual 97, 3) := by decide +kernel
theorem dX10_move_122 : decode cX10_move 122 = .ok (.aload_n 0, 1) := by decide +kernel
theorem dX10_move_123 : decode cX10_move 123 = .ok (.iload_n 1, 1) := by decide +kernel
theorem dX10_move_124 : decode cX10_move 124 = .ok (.iconst 0, 1) := by decide +kernel
theorem dX10_move_125 : decode cX10_move 125 = .ok (.invokevirtual 179, 3) := by decide +kernel
theorem dX10_move_128 : decode cX10_move 128 = .ok (.aload_n 0, 1) := by decide +kernel
theorem dX10_move_129 : decode cX10_move 129 = .ok (.iload_n 1, 1) := by decide +kernel
theorem dX10_move_130 : decode cX10_move 130 = .ok (.iload_n 2, 1) := by decide +kernel
theorem dX10_move_131 : decode cX10_move 131 = .ok (.invokevirtual 166, 3) := by decide +kernel
theorem dX10_move_134 : decode cX10_move 134 = .ok (.iload_n 3, 1) := by decide +kernel
theorem dX10_move_135 : decode cX10_move 135 = .ok (.ireturn, 1) := by decide +kernel
theorem dX10_safe_0 : decode cX10_safe 0 = .ok (.aload_n 0, 1) := by decide +kernel
theorem dX10_safe_1 : decode cX10_safe 1 = .ok (.getfield 60, 3) := by decide +kernel
theorem dX10_safe_4 : decode cX10_safe 4 = .ok (.invokevirtual 196, 3) := by decide +kernel
theorem dX10_safe_7 : decode cX10_safe 7 = .ok (.ifCond .eq 6, 3) := by decide +kernel
theorem dX10_safe_10 : decode cX10_safe 10 = .ok (.bipush (-4), 2) := by decide +kernel
theorem dX10_safe_12 : decode cX10_safe 12 = .ok (.ireturn, 1) := by decide +kernel
theorem dX10_safe_13 : decode cX10_safe 13 = .ok (.aload_n 0, 1) := by decide +kernel
theorem dX10_safe_14 : decode cX10_safe 14 = .ok (.getfield 60, 3) := by decide +kernel
theorem dX10_safe_17 : decode cX10_safe 17 = .ok (.invokevirtual 200, 3) := by decide +kernel
theorem dX10_safe_20 : decode cX10_safe 20 = .ok (.iconst (-1), 1) := by decide +kernel
theorem dX10_safe_21 : decode cX10_safe 21 = .ok (.if_icmp .ne 7, 3) := by decide +kernel
theorem dX10_safe_24 : decode cX10_safe 24 = .ok (.iconst 1, 1) := by decide +kernel
theorem dX10_safe_25 : decode cX10_safe 25 = .ok (.goto 4, 3) := by decide +kernel
theorem dX10_safe_28 : decode cX10_safe 28 = .ok (.iconst 0, 1) := by decide +kernel
theorem dX10_safe_29 : decode cX10_safe 29 = .ok (.ireturn, 1) := by decide +kernel
theorem dX10_worst_0 : decode cX10_worst 0 = .ok (.aload_n 0, 1) := by decide +kernel
theorem dX10_worst_1 : decode cX10_worst 1 = .ok (.getfield 60, 3) := by decide +kernel
theorem dX10_worst_4 : decode cX10_worst 4 = .ok (.invokevirtual 196, 3) := by decide +kernel
theorem dX10_worst_7 : decode cX10_worst 7 = .ok (.ifCond .eq 6, 3) := by decide +kernel
theorem dX10_worst_10 : decode cX10_worst 10 = .ok (.bipush (-4), 2) := by decide +kernel
theorem dX10_worst_12 : decode cX10_worst 12 = .ok (.ireturn, 1) := by decide +kernel
theorem dX10_worst_13 : decode cX10_worst 13 = .ok (.aload_n 0, 1) := by decide +kernel
theorem dX10_worst_14 : decode cX10_worst 14 = .ok (.getfield 60, 3) := by decide +kernel
theorem dX10_worst_17 : decode cX10_worst 17 = .ok (.invokevirtual 200, 3) := by decide +kernel
theorem dX10_worst_20 : decode cX10_worst 20 = .ok (.istore_n 1, 1) := by decide +kernel
theorem dX10_worst_21 : decode cX10_worst 21 = .ok (.iload_n 1, 1) := by decide +kernel
theorem dX10_worst_22 : decode cX10_worst 22 = .ok (.iconst (-1), 1) := by decide +kernel
theorem dX10_worst_23 : decode cX10_worst 23 = .ok (.if_icmp .ne 8, 3) := by decide +kernel
theorem dX10_worst_26 : decode cX10_worst 26 = .ok (.bipush (-3), 2) := by decide +kernel
theorem dX10_worst_28 : decode cX10_worst 28 = .ok (.goto 4, 3) := by decide +kernel
theorem dX10_worst_31 : decode cX10_worst 31 = .ok (.iload_n 1, 1) := by decide +kernel
theorem dX10_worst_32 : decode cX10_worst 32 = .ok (.ireturn, 1) := by decide +kernel
theorem dX10_target_0 : decode cX10_target 0 = .ok (.aload_n 0, 1) := by decide +kernel
theorem dX10_target_1 : decode cX10_target 1 = .ok (.getfield 19, 3) := by decide +kernel
theorem dX10_target_4 : decode cX10_target 4 = .ok (.iload_n 1, 1) := by decide +kernel
theorem dX10_target_5 : decode cX10_target 5 = .ok (.invokevirtual 121, 3) := by decide +kernel
theorem dX10_target_8 : decode cX10_target 8 = .ok (.ifCond .eq 19, 3) := by decide +kernel
theorem dX10_target_11 : decode cX10_target 11 = .ok (.iload_n 2, 1) := by decide +kernel
theorem dX10_target_12 : decode cX10_target 12 = .ok (.iconst (-1), 1) := by decide +kernel
theorem dX10_target_13 : decode cX10_target 13 = .ok (.if_icmp .eq 16, 3) := by decide +kernel
theorem dX10_target_16 : decode cX10_target 16 = .ok (.aload_n 0, 1) := by decide +kernel
theorem dX10_target_17 : decode cX10_target 17 = .ok (.getfield 10, 3) := by decide +kernel
theorem dX10_target_20 : decode cX10_target 20 = .ok (.iload_n 2, 1) := by decide +kernel
theorem dX10_target_21 : decode cX10_target 21 = .ok (.invokevirtual 125, 3) := by decide +kernel
theorem dX10_target_24 : decode cX10_target 24 = .ok (.ifCond .ne 5, 3) := by decide +kernel
theorem dX10_target_27 : decode cX10_target 27 = .ok (.iconst (-1), 1) := by decide +kernel
theorem dX10_target_28 : decode cX10_target 28 = .ok (.ireturn, 1) := by decide +kernel
theorem dX10_target_29 : decode cX10_target 29 = .ok (.aload_n 0, 1) := by decide +kernel
theorem dX10_target_30 : decode cX10_target 30 = .ok (.getfield 39, 3) := by decide +kernel
theorem dX10_target_33 : decode cX10_target 33 = .ok (.invokevirtual 97, 3) := by decide +kernel
theorem dX10_target_36 : decode cX10_target 36 = .ok (.aload_n 0, 1) := by decide +kernel
theorem dX10_target_37 : decode cX10_target 37 = .ok (.getfield 19, 3) := by decide +kernel
theorem dX10_target_40 : decode cX10_target 40 = .ok (.getfield 204, 3) := by decide +kernel
theorem dX10_target_43 : decode cX10_target 43 = .ok (.iload_n 1, 1) := by decide +kernel
theorem dX10_target_44 : decode cX10_target 44 = .ok (.iload_n 2, 1) := by decide +kernel
theorem dX10_target_45 : decode cX10_target 45 = .ok (.iastore, 1) := by decide +kernel
theorem dX10_target_46 : decode cX10_target 46 = .ok (.aload_n 0, 1) := by decide +kernel
theorem dX10_target_47 : decode cX10_target 47 = .ok (.getfield 19, 3) := by decide +kernel
theorem dX10_target_50 : decode cX10_target 50 = .ok (.invokevirtual 207, 3) := by decide +kernel
theorem dX10_target_53 : decode cX10_target 53 = .ok (.ireturn, 1) := by decide +kernel
theorem dX10_plan_0 : decode cX10_plan 0 = .ok (.aload_n 0, 1) := by decide +kernel
theorem dX10_plan_1 : decode cX10_plan 1 = .ok (.getfield 67, 3) := by decide +kernel
theorem dX10_plan_4 : decode cX10_plan 4 = .ok (.invokevirtual 210, 3) := by decide +kernel
theorem dX10_plan_7 : decode cX10_plan 7 = .ok (.ifCond .ne 6, 3) := by decide +kernel
theorem dX10_plan_10 : decode cX10_plan 10 = .ok (.bipush (-2), 2) := by decide +kernel
theorem dX10_plan_12 : decode cX10_plan 12 = .ok (.ireturn, 1) := by decide +kernel
theorem dX10_plan_13 : decode cX10_plan 13 = .ok (.aload_n 0, 1) := by decide +kernel
theorem dX10_plan_14 : decode cX10_plan 14 = .ok (.getfield 19, 3) := by decide +kernel
theorem dX10_plan_17 : decode cX10_plan 17 = .ok (.invokevirtual 207, 3) := by decide +kernel
theorem dX10_plan_20 : decode cX10_plan 20 = .ok (.iconst 4, 1) := by decide +kernel
theorem dX10_plan_21 : decode cX10_plan 21 = .ok (.if_icmp .le 6, 3) := by decide +kernel
theorem dX10_plan_24 : decode cX10_plan 24 = .ok (.bipush (-4), 2) := by decide +kernel
theorem dX10_plan_26 : decode cX10_plan 26 = .ok (.ireturn, 1) := by decide +kernel
theorem dX10_plan_27 : decode cX10_plan 27 = .ok (.aload_n 0, 1) := by decide +kernel
theorem dX10_plan_28 : decode cX10_plan 28 = .ok (.getfield 67, 3) := by decide +kernel
theorem dX10_plan_31 : decode cX10_plan 31 = .ok (.invokevirtual 213, 3) := by decide +kernel
theorem dX10_plan_34 : decode cX10_plan 34 = .ok (.ireturn, 1) := by decide +kernel
theorem dX10_step_0 : decode cX10_step 0 = .ok (.iload_n 1, 1) := by decide +kernel
theorem dX10_step_1 : decode cX10_step 1 = .ok (.aload_n 0, 1) := by decide +kernel
theorem dX10_step_2 : decode cX10_step 2 = .ok (.getfield 67, 3) := by decide +kernel
theorem dX10_step_5 : decode cX10_step 5 = .ok (.getfield 216, 3) := by decide +kernel
theorem dX10_step_8 : decode cX10_step 8 = .ok (.invokestatic 89, 3) := by decide +kernel
theorem dX10_step_11 : decode cX10_step 11 = .ok (.ifCond .eq 11, 3) := by decide +kernel
theorem dX10_step_14 : decode cX10_step 14 = .ok (.iload_n 2, 1) := by decide +kernel
theorem dX10_step_15 : decode cX10_step 15 = .ok (.iconst 2, 1) := by decide +kernel
theorem dX10_step_16 : decode cX10_step 16 = .ok (.invokestatic 89, 3) := by decide +kernel
theorem dX10_step_19 : decode cX10_step 19 = .ok (.ifCond .ne 5, 3) := by decide +kernel
theorem dX10_step_22 : decode cX10_step 22 = .ok (.iconst (-1), 1) := by decide +kernel
theorem dX10_step_23 : decode cX10_step 23 = .ok (.ireturn, 1) := by decide +kernel
theorem dX10_step_24 : decode cX10_step 24 = .ok (.iload_n 2, 1) := by decide +kernel
theorem dX10_step_25 : decode cX10_step 25 = .ok (.ifCond .ne 15, 3) := by decide +kernel
theorem dX10_step_28 : decode cX10_step 28 = .ok (.aload_n 0, 1) := by decide +kernel
theorem dX10_step_29 : decode cX10_step 29 = .ok (.getfield 67, 3) := by decide +kernel
theorem dX10_step_32 : decode cX10_step 32 = .ok (.getfield 219, 3) := by decide +kernel
theorem dX10_step_35 : decode cX10_step 35 = .ok (.iload_n 1, 1) := by decide +kernel
theorem dX10_step_36 : decode cX10_step 36 = .ok (.iaload, 1) := by decide +kernel
theorem dX10_step_37 : decode cX10_step 37 = .ok (.goto 12, 3) := by decide +kernel
theorem dX10_step_40 : decode cX10_step 40 = .ok (.aload_n 0, 1) := by decide +kernel
theorem dX10_step_41 : decode cX10_step 41 = .ok (.getfield 67, 3) := by decide +kernel
theorem dX10_step_44 : decode cX10_step 44 = .ok (.getfield 222, 3) := by decide +kernel
theorem dX10_step_47 : decode cX10_step 47 = .ok (.iload_n 1, 1) := by decide +kernel
theorem dX10_step_48 : decode cX10_step 48 = .ok (.iaload, 1) := by decide +kernel
theorem dX10_step_49 : decode cX10_step 49 = .ok (.ireturn, 1) := by decide +kernel
theorem dX10_fewest_0 : decode cX10_fewest 0 = .ok (.aload_n 0, 1) := by decide +kernel
theorem dX10_fewest_1 : decode cX10_fewest 1 = .ok (.getfield 74, 3) := by decide +kernel
theorem dX10_fewest_4 : decode cX10_fewest 4 = .ok (.invokevirtual 225, 3) := by decide +kernel
theorem dX10_fewest_7 : decode cX10_fewest 7 = .ok (.iconst 5, 1) := by decide +kernel
theorem dX10_fewest_8 : decode cX10_fewest 8 = .ok (.if_icmp .le 6, 3) := by decide +kernel
theorem dX10_fewest_11 : decode cX10_fewest 11 = .ok (.bipush (-4), 2) := by decide +kernel
theorem dX10_fewest_13 : decode cX10_fewest 13 = .ok (.ireturn, 1) := by decide +kernel
theorem dX10_fewest_14 : decode cX10_fewest 14 = .ok (.aload_n 0, 1) := by decide +kernel
theorem dX10_fewest_15 : decode cX10_fewest 15 = .ok (.getfield 74, 3) := by decide +kernel
theorem dX10_fewest_18 : decode cX10_fewest 18 = .ok (.invokevirtual 228, 3) := by decide +kernel
theorem dX10_fewest_21 : decode cX10_fewest 21 = .ok (.ireturn, 1) := by decide +kernel
theorem dX10_would_0 : decode cX10_would 0 = .ok (.aload_n 0, 1) := by decide +kernel
theorem dX10_would_1 : decode cX10_would 1 = .ok (.getfield 19, 3) := by decide +kernel
theorem dX10_would_4 : decode cX10_would 4 = .ok (.iload_n 1, 1) := by decide +kernel
theorem dX10_would_5 : decode cX10_would 5 = .ok (.invokevirtual 121, 3) := by decide +kernel
theorem dX10_would_8 : decode cX10_would 8 = .ok (.ifCond .eq 11, 3) := by decide +kernel
theorem dX10_would_11 : decode cX10_would 11 = .ok (.iload_n 2, 1) := by decide +kernel
theorem dX10_would_12 : decode cX10_would 12 = .ok (.iconst 4, 1) := by decide +kernel
theorem dX10_would_13 : decode cX10_would 13 = .ok (.invokestatic 89, 3) := by decide +kernel
theorem dX10_would_16 : decode cX10_would 16 = .ok (.ifCond .ne 5, 3) := by decide +kernel
theorem dX10_would_19 : decode cX10_would 19 = .ok (.iconst (-1), 1) := by decide +kernel
theorem dX10_would_20 : decode cX10_would 20 = .ok (.ireturn, 1) := by decide +kernel
theorem dX10_would_21 : decode cX10_would 21 = .ok (.aload_n 0, 1) := by decide +kernel
theorem dX10_would_22 : decode cX10_would 22 = .ok (.getfield 19, 3) := by decide +kernel
theorem dX10_would_25 : decode cX10_would 25 = .ok (.getfield 126, 3) := by decide +kernel
theorem dX10_would_28 : decode cX10_would 28 = .ok (.iload_n 1, 1) := by decide +kernel
theorem dX10_would_29 : decode cX10_would 29 = .ok (.iaload, 1) := by decide +kernel
theorem dX10_would_30 : decode cX10_would 30 = .ok (.ifCond .ne 15, 3) := by decide +kernel
theorem dX10_would_33 : decode cX10_would 33 = .ok (.aload_n 0, 1) := by decide +kernel
theorem dX10_would_34 : decode cX10_would 34 = .ok (.getfield 32, 3) := by decide +kernel
theorem dX10_would_37 : decode cX10_would 37 = .ok (.iload_n 1, 1) := by decide +kernel
theorem dX10_would_38 : decode cX10_would 38 = .ok (.invokevirtual 231, 3) := by decide +kernel
theorem dX10_would_41 : decode cX10_would 41 = .ok (.iconst (-1), 1) := by decide +kernel
theorem dX10_would_42 : decode cX10_would 42 = .ok (.if_icmp .eq 6, 3) := by decide +kernel
theorem dX10_would_45 : decode cX10_would 45 = .ok (.bipush (-2), 2) := by decide +kernel
theorem dX10_would_47 : decode cX10_would 47 = .ok (.ireturn, 1) := by decide +kernel
theorem dX10_would_48 : decode cX10_would 48 = .ok (.aload_n 0, 1) := by decide +kernel
theorem dX10_would_49 : decode cX10_would 49 = .ok (.getfield 81, 3) := by decide +kernel
theorem dX10_would_52 : decode cX10_would 52 = .ok (.iload_n 1, 1) := by decide +kernel
theorem dX10_would_53 : decode cX10_would 53 = .ok (.invokevirtual 234, 3) := by decide +kernel
theorem dX10_would_56 : decode cX10_would 56 = .ok (.ifCond .ne 6, 3) := by decide +kernel
theorem dX10_would_59 : decode cX10_would 59 = .ok (.bipush (-3), 2) := by decide +kernel
theorem dX10_would_61 : decode cX10_would 61 = .ok (.ireturn, 1) := by decide +kernel
theorem dX10_would_62 : decode cX10_would 62 = .ok (.aload_n 0, 1) := by decide +kernel
theorem dX10_would_63 : decode cX10_would 63 = .ok (.getfield 81, 3) := by decide +kernel
theorem dX10_would_66 : decode cX10_would 66 = .ok (.iload_n 2, 1) := by decide +kernel
theorem dX10_would_67 : decode cX10_would 67 = .ok (.invokevirtual 236, 3) := by decide +kernel
theorem dX10_would_70 : decode cX10_would 70 = .ok (.ireturn, 1) := by decide +kernel
theorem dX10_undo_0 : decode cX10_undo 0 = .ok (.aload_n 0, 1) := by decide +kernel
theorem dX10_undo_1 : decode cX10_undo 1 = .ok (.getfield 39, 3) := by decide +kernel
theorem dX10_undo_4 : decode cX10_undo 4 = .ok (.getfield 239, 3) := by decide +kernel
theorem dX10_undo_7 : decode cX10_undo 7 = .ok (.ifCond .ne 6, 3) := by decide +kernel
theorem dX10_undo_10 : decode cX10_undo 10 = .ok (.bipush (-2), 2) := by decide +kernel
theorem dX10_undo_12 : decode cX10_undo 12 = .ok (.ireturn, 1) := by decide +kernel
theorem dX10_undo_13 : decode cX10_undo 13 = .ok (.aload_n 0, 1) := by decide +kernel
theorem dX10_undo_14 : decode cX10_undo 14 = .ok (.getfield 39, 3) := by decide +kernel
theorem dX10_undo_17 : decode cX10_undo 17 = .ok (.invokevirtual 242, 3) := by decide +kernel
theorem dX10_undo_20 : decode cX10_undo 20 = .ok (.aload_n 0, 1) := by decide +kernel
theorem dX10_undo_21 : decode cX10_undo 21 = .ok (.getfield 32, 3) := by decide +kernel
theorem dX10_undo_24 : decode cX10_undo 24 = .ok (.invokevirtual 111, 3) := by decide +kernel
theorem dX10_undo_27 : decode cX10_undo 27 = .ok (.aload_n 0, 1) := by decide +kernel
theorem dX10_undo_28 : decode cX10_undo 28 = .ok (.getfield 39, 3) := by decide +kernel
theorem dX10_undo_31 : decode cX10_undo 31 = .ok (.getfield 239, 3) := by decide +kernel
theorem dX10_undo_34 : decode cX10_undo 34 = .ok (.ireturn, 1) := by decide +kernel
theorem dX10_count_0 : decode cX10_count 0 = .ok (.iload_n 1, 1) := by decide +kernel
theorem dX10_count_1 : decode cX10_count 1 = .ok (.tableswitch 114 0 7 #[47, 55, 63, 72, 81, 90, 98, 106], 47) := by decide +kernel
theorem dX10_count_48 : decode cX10_count 48 = .ok (.aload_n 0, 1) := by decide +kernel
theorem dX10_count_49 : decode cX10_count 49 = .ok (.getfield 10, 3) := by decide +kernel
theorem dX10_count_52 : decode cX10_count 52 = .ok (.getfield 93, 3) := by decide +kernel
theorem dX10_count_55 : decode cX10_count 55 = .ok (.ireturn, 1) := by decide +kernel
theorem dX10_count_56 : decode cX10_count 56 = .ok (.aload_n 0, 1) := by decide +kernel
theorem dX10_count_57 : decode cX10_count 57 = .ok (.getfield 19, 3) := by decide +kernel
theorem dX10_count_60 : decode cX10_count 60 = .ok (.getfield 114, 3) := by decide +kernel
theorem dX10_count_63 : decode cX10_count 63 = .ok (.ireturn, 1) := by decide +kernel
theorem dX10_count_64 : decode cX10_count 64 = .ok (.aload_n 0, 1) := by decide +kernel
theorem dX10_count_65 : decode cX10_count 65 = .ok (.getfield 19, 3) := by decide +kernel
theorem dX10_count_68 : decode cX10_count 68 = .ok (.iconst 0, 1) := by decide +kernel
theorem dX10_count_69 : decode cX10_count 69 = .ok (.invokevirtual 245, 3) := by decide +kernel
theorem dX10_count_72 : decode cX10_count 72 = .ok (.ireturn, 1) := by decide +kernel
theorem dX10_count_73 : decode cX10_count 73 = .ok (.aload_n 0, 1) := by decide +kernel
theorem dX10_count_74 : decode cX10_count 74 = .ok (.getfield 19, 3) := by decide +kernel
theorem dX10_count_77 : decode cX10_count 77 = .ok (.iconst 1, 1) := by decide +kernel
theorem dX10_count_78 : decode cX10_count 78 = .ok (.invokevirtual 245, 3) := by decide +kernel
theorem dX10_count_81 : decode cX10_count 81 = .ok (.ireturn, 1) := by decide +kernel
theorem dX10_count_82 : decode cX10_count 82 = .ok (.aload_n 0, 1) := by decide +kernel
theorem dX10_count_83 : decode cX10_count 83 = .ok (.getfield 19, 3) := by decide +kernel
theorem dX10_count_86 : decode cX10_count 86 = .ok (.iconst 2, 1) := by decide +kernel
theorem dX10_count_87 : decode cX10_count 87 = .ok (.invokevirtual 245, 3) := by decide +kernel
theorem dX10_count_90 : decode cX10_count 90 = .ok (.ireturn, 1) := by decide +kernel
theorem dX10_count_91 : decode cX10_count 91 = .ok (.aload_n 0, 1) := by decide +kernel
theorem dX10_count_92 : decode cX10_count 92 = .ok (.getfield 10, 3) := by decide +kernel
theorem dX10_count_95 : decode cX10_count 95 = .ok (.invokevirtual 248, 3) := by decide +kernel
theorem dX10_count_98 : decode cX10_count 98 = .ok (.ireturn, 1) := by decide +kernel
theorem dX10_count_99 : decode cX10_count 99 = .ok (.aload_n 0, 1) := by decide +kernel
theorem dX10_count_100 : decode cX10_count 100 = .ok (.getfield 19, 3) := by decide +kernel
theorem dX10_count_103 : decode cX10_count 103 = .ok (.invokevirtual 207, 3) := by decide +kernel
theorem dX10_count_106 : decode cX10_count 106 = .ok (.ireturn, 1) := by decide +kernel
theorem dX10_count_107 : decode cX10_count 107 = .ok (.aload_n 0, 1) := by decide +kernel
theorem dX10_count_108 : decode cX10_count 108 = .ok (.getfield 39, 3) := by decide +kernel
theorem dX10_count_111 : decode cX10_count 111 = .ok (.getfield 239, 3) := by decide +kernel
theorem dX10_count_114 : decode cX10_count 114 = .ok (.ireturn, 1) := by decide +kernel
theorem dX10_count_115 : decode cX10_count 115 = .ok (.iconst (-1), 1) := by decide +kernel
theorem dX10_count_116 : decode cX10_count 116 = .ok (.ireturn, 1) := by decide +kernel
theorem dX10_isBelow_0 : decode cX10_isBelow 0 = .ok (.iload_n 0, 1) := by decide +kernel
theorem dX10_isBelow_1 : decode cX10_isBelow 1 = .ok (.ifCond .lt 12, 3) := by decide +kernel
theorem dX10_isBelow_4 : decode cX10_isBelow 4 = .ok (.iload_n 0, 1) := by decide +kernel
theorem dX10_isBelow_5 : decode cX10_isBelow 5 = .ok (.iload_n 1, 1) := by decide +kernel
theorem dX10_isBelow_6 : decode cX10_isBelow 6 = .ok (.if_icmp .ge 7, 3) := by decide +kernel
theorem dX10_isBelow_9 : decode cX10_isBelow 9 = .ok (.iconst 1, 1) := by decide +kernel
theorem dX10_isBelow_10 : decode cX10_isBelow 10 = .ok (.goto 4, 3) := by decide +kernel
theorem dX10_isBelow_13 : decode cX10_isBelow 13 = .ok (.iconst 0, 1) := by decide +kernel
theorem dX10_isBelow_14 : decode cX10_isBelow 14 = .ok (.ireturn, 1) := by decide +kernel
theorem dX10_areAmounts_0 : decode cX10_areAmounts 0 = .ok (.iload_n 0, 1) := by decide +kernel
theorem dX10_areAmounts_1 : decode cX10_areAmounts 1 = .ok (.sipush 1001, 3) := by decide +kernel
theorem dX10_areAmounts_4 : decode cX10_areAmounts 4 = .ok (.invokestatic 89, 3) := by decide +kernel
theorem dX10_areAmounts_7 : decode cX10_areAmounts 7 = .ok (.ifCond .eq 27, 3) := by decide +kernel
theorem dX10_areAmounts_10 : decode cX10_areAmounts 10 = .ok (.iload_n 1, 1) := by decide +kernel
theorem dX10_areAmounts_11 : decode cX10_areAmounts 11 = .ok (.sipush 1001, 3) := by decide +kernel
theorem dX10_areAmounts_14 : decode cX10_areAmounts 14 = .ok (.invokestatic 89, 3) := by decide +kernel
theorem dX10_areAmounts_17 : decode cX10_areAmounts 17 = .ok (.ifCond .eq 17, 3) := by decide +kernel
theorem dX10_areAmounts_20 : decode cX10_areAmounts 20 = .ok (.iload_n 2, 1) := by decide +kernel
theorem dX10_areAmounts_21 : decode cX10_areAmounts 21 = .ok (.sipush 1001, 3) := by decide +kernel
theorem dX10_areAmounts_24 : decode cX10_areAmounts 24 = .ok (.invokestatic 89, 3) := by decide +kernel
theorem dX10_areAmounts_27 : decode cX10_areAmounts 27 = .ok (.ifCond .eq 7, 3) := by decide +kernel
theorem dX10_areAmounts_30 : decode cX10_areAmounts 30 = .ok (.iconst 1, 1) := by decide +kernel
theorem dX10_areAmounts_31 : decode cX10_areAmounts 31 = .ok (.goto 4, 3) := by decide +kernel
theorem dX10_areAmounts_34 : decode cX10_areAmounts 34 = .ok (.iconst 0, 1) := by decide +kernel
theorem dX10_areAmounts_35 : decode cX10_areAmounts 35 = .ok (.ireturn, 1) := by decide +kernel
theorem dX10_putThree_0 : decode cX10_putThree 0 = .ok (.aload_n 0, 1) := by decide +kernel
theorem dX10_putThree_1 : decode cX10_putThree 1 = .ok (.iload_n 1, 1) := by decide +kernel
theorem dX10_putThree_2 : decode cX10_putThree 2 = .ok (.iconst 3, 1) := by decide +kernel
theorem dX10_putThree_3 : decode cX10_putThree 3 = .ok (.imul, 1) := by decide +kernel
theorem dX10_putThree_4 : decode cX10_putThree 4 = .ok (.iload_n 2, 1) := by decide +kernel
theorem dX10_putThree_5 : decode cX10_putThree 5 = .ok (.iastore, 1) := by decide +kernel
theorem dX10_putThree_6 : decode cX10_putThree 6 = .ok (.aload_n 0, 1) := by decide +kernel
theorem dX10_putThree_7 : decode cX10_putThree 7 = .ok (.iload_n 1, 1) := by decide +kernel
theorem dX10_putThree_8 : decode cX10_putThree 8 = .ok (.iconst 3, 1) := by decide +kernel
theorem dX10_putThree_9 : decode cX10_putThree 9 = .ok (.imul, 1) := by decide +kernel
theorem dX10_putThree_10 : decode cX10_putThree 10 = .ok (.iconst 1, 1) := by decide +kernel
theorem dX10_putThree_11 : decode cX10_putThree 11 = .ok (.iadd, 1) := by decide +kernel
theorem dX10_putThree_12 : decode cX10_putThree 12 = .ok (.iload_n 3, 1) := by decide +kernel
theorem dX10_putThree_13 : decode cX10_putThree 13 = .ok (.iastore, 1) := by decide +kernel
theorem dX10_putThree_14 : decode cX10_putThree 14 = .ok (.aload_n 0, 1) := by decide +kernel
theorem dX10_putThree_15 : decode cX10_putThree 15 = .ok (.iload_n 1, 1) := by decide +kernel
theorem dX10_putThree_16 : decode cX10_putThree 16 = .ok (.iconst 3, 1) := by decide +kernel
theorem dX10_putThree_17 : decode cX10_putThree 17 = .ok (.imul, 1) := by decide +kernel
theorem dX10_putThree_18 : decode cX10_putThree 18 = .ok (.iconst 2, 1) := by decide +kernel
theorem dX10_putThree_19 : decode cX10_putThree 19 = .ok (.iadd, 1) := by decide +kernel
theorem dX10_putThree_20 : decode cX10_putThree 20 = .ok (.iload 4, 2) := by decide +kernel
theorem dX10_putThree_22 : decode cX10_putThree 22 = .ok (.iastore, 1) := by decide +kernel
theorem dX10_putThree_23 : decode cX10_putThree 23 = .ok (.return_, 1) := by decide +kernel
theorem dX10_seat_0 : decode cX10_seat 0 = .ok (.aload_n 0, 1) := by decide +kernel
theorem dX10_seat_1 : decode cX10_seat 1 = .ok (.getfield 10, 3) := by decide +kernel
theorem dX10_seat_4 : decode cX10_seat 4 = .ok (.iload_n 2, 1) := by decide +kernel
theorem dX10_seat_5 : decode cX10_seat 5 = .ok (.invokevirtual 125, 3) := by decide +kernel
theorem dX10_seat_8 : decode cX10_seat 8 = .ok (.ifCond .ne 4, 3) := by decide +kernel
theorem dX10_seat_11 : decode cX10_seat 11 = .ok (.return_, 1) := by decide +kernel
theorem dX10_seat_12 : decode cX10_seat 12 = .ok (.aload_n 0, 1) := by decide +kernel
theorem dX10_seat_13 : decode cX10_seat 13 = .ok (.getfield 19, 3) := by decide +kernel
theorem dX10_seat_16 : decode cX10_seat 16 = .ok (.iload_n 1, 1) := by decide +kernel
theorem dX10_seat_17 : decode cX10_seat 17 = .ok (.iload_n 2, 1) := by decide +kernel
theorem dX10_seat_18 : decode cX10_seat 18 = .ok (.invokevirtual 251, 3) := by decide +kernel
theorem dX10_seat_21 : decode cX10_seat 21 = .ok (.aload_n 0, 1) := by decide +kernel
theorem dX10_seat_22 : decode cX10_seat 22 = .ok (.getfield 32, 3) := by decide +kernel
theorem dX10_seat_25 : decode cX10_seat 25 = .ok (.iload_n 1, 1) := by decide +kernel
theorem dX10_seat_26 : decode cX10_seat 26 = .ok (.iload_n 2, 1) := by decide +kernel
theorem dX10_seat_27 : decode cX10_seat 27 = .ok (.iconst 1, 1) := by decide +kernel
theorem dX10_seat_28 : decode cX10_seat 28 = .ok (.invokevirtual 189, 3) := by decide +kernel
theorem dX10_seat_31 : decode cX10_seat 31 = .ok (.return_, 1) := by decide +kernel
theorem dX10_release_0 : decode cX10_release 0 = .ok (.aload_n 0, 1) := by decide +kernel
theorem dX10_release_1 : decode cX10_release 1 = .ok (.getfield 19, 3) := by decide +kernel
theorem dX10_release_4 : decode cX10_release 4 = .ok (.getfield 126, 3) := by decide +kernel
theorem dX10_release_7 : decode cX10_release 7 = .ok (.iload_n 1, 1) := by decide +kernel
theorem dX10_release_8 : decode cX10_release 8 = .ok (.iaload, 1) := by decide +kernel
theorem dX10_release_9 : decode cX10_release 9 = .ok (.iconst 1, 1) := by decide +kernel
theorem dX10_release_10 : decode cX10_release 10 = .ok (.if_icmp .ne 21, 3) := by decide +kernel
theorem dX10_release_13 : decode cX10_release 13 = .ok (.aload_n 0, 1) := by decide +kernel
theorem dX10_release_14 : decode cX10_release 14 = .ok (.getfield 32, 3) := by decide +kernel
theorem dX10_release_17 : decode cX10_release 17 = .ok (.iload_n 1, 1) := by decide +kernel
theorem dX10_release_18 : decode cX10_release 18 = .ok (.aload_n 0, 1) := by decide +kernel
theorem dX10_release_19 : decode cX10_release 19 = .ok (.getfield 19, 3) := by decide +kernel
theorem dX10_release_22 : decode cX10_release 22 = .ok (.getfield 140, 3) := by decide +kernel
theorem dX10_release_25 : decode cX10_release 25 = .ok (.iload_n 1, 1) := by decide +kernel
theorem dX10_release_26 : decode cX10_release 26 = .ok (.iaload, 1) := by decide +kernel
theorem dX10_release_27 : decode cX10_release 27 = .ok (.iconst (-1), 1) := by decide +kernel
theorem dX10_release_28 : decode cX10_release 28 = .ok (.invokevirtual 189, 3) := by decide +kernel
theorem dX10_release_31 : decode cX10_release 31 = .ok (.aload_n 0, 1) := by decide +kernel
theorem dX10_release_32 : decode cX10_release 32 = .ok (.getfield 19, 3) := by decide +kernel
theorem dX10_release_35 : decode cX10_release 35 = .ok (.iload_n 1, 1) := by decide +kernel
theorem dX10_release_36 : decode cX10_release 36 = .ok (.iload_n 2, 1) := by decide +kernel
theorem dX10_release_37 : decode cX10_release 37 = .ok (.invokevirtual 254, 3) := by decide +kernel
theorem dX10_release_40 : decode cX10_release 40 = .ok (.return_, 1) := by decide +kernel
theorem dX10_sendAway_0 : decode cX10_sendAway 0 = .ok (.aload_n 0, 1) := by decide +kernel
theorem dX10_sendAway_1 : decode cX10_sendAway 1 = .ok (.getfield 48, 3) := by decide +kernel
theorem dX10_sendAway_4 : decode cX10_sendAway 4 = .ok (.iload_n 1, 1) := by decide +kernel
theorem dX10_sendAway_5 : decode cX10_sendAway 5 = .ok (.iload_n 2, 1) := by decide +kernel
theorem dX10_sendAway_6 : decode cX10_sendAway 6 = .ok (.invokevirtual 257, 3) := by decide +kernel
theorem dX10_sendAway_9 : decode cX10_sendAway 9 = .ok (.pop, 1) := by decide +kernel
theorem dX10_sendAway_10 : decode cX10_sendAway 10 = .ok (.iconst 0, 1) := by decide +kernel
theorem dX10_sendAway_11 : decode cX10_sendAway 11 = .ok (.istore_n 3, 1) := by decide +kernel
theorem dX10_sendAway_12 : decode cX10_sendAway 12 = .ok (.iload_n 3, 1) := by decide +kernel
theorem dX10_sendAway_13 : decode cX10_sendAway 13 = .ok (.aload_n 0, 1) := by decide +kernel
theorem dX10_sendAway_14 : decode cX10_sendAway 14 = .ok (.getfield 48, 3) := by decide +kernel
theorem dX10_sendAway_17 : decode cX10_sendAway 17 = .ok (.getfield 260, 3) := by decide +kernel
theorem dX10_sendAway_20 : decode cX10_sendAway 20 = .ok (.if_icmp .ge 26, 3) := by decide +kernel
theorem dX10_sendAway_23 : decode cX10_sendAway 23 = .ok (.aload_n 0, 1) := by decide +kernel
theorem dX10_sendAway_24 : decode cX10_sendAway 24 = .ok (.getfield 19, 3) := by decide +kernel
theorem dX10_sendAway_27 : decode cX10_sendAway 27 = .ok (.aload_n 0, 1) := by decide +kernel
theorem dX10_sendAway_28 : decode cX10_sendAway 28 = .ok (.getfield 48, 3) := by decide +kernel
theorem dX10_sendAway_31 : decode cX10_sendAway 31 = .ok (.getfield 263, 3) := by decide +kernel
theorem dX10_sendAway_34 : decode cX10_sendAway 34 = .ok (.iload_n 3, 1) := by decide +kernel
theorem dX10_sendAway_35 : decode cX10_sendAway 35 = .ok (.iaload, 1) := by decide +kernel
theorem dX10_sendAway_36 : decode cX10_sendAway 36 = .ok (.iconst 0, 1) := by decide +kernel
theorem dX10_sendAway_37 : decode cX10_sendAway 37 = .ok (.invokevirtual 254, 3) := by decide +kernel
theorem dX10_sendAway_40 : decode cX10_sendAway 40 = .ok (.iinc 3 1, 3) := by decide +kernel
theorem dX10_sendAway_43 : decode cX10_sendAway 43 = .ok (.goto (-31), 3) := by decide +kernel
theorem dX10_sendAway_46 : decode cX10_sendAway 46 = .ok (.aload_n 0, 1) := by decide +kernel
theorem dX10_sendAway_47 : decode cX10_sendAway 47 = .ok (.getfield 48, 3) := by decide +kernel
theorem dX10_sendAway_50 : decode cX10_sendAway 50 = .ok (.getfield 260, 3) := by decide +kernel
theorem dX10_sendAway_53 : decode cX10_sendAway 53 = .ok (.ireturn, 1) := by decide +kernel
theorem dX10_isInGang_0 : decode cX10_isInGang 0 = .ok (.aload_n 0, 1) := by decide +kernel
theorem dX10_isInGang_1 : decode cX10_isInGang 1 = .ok (.getfield 19, 3) := by decide +kernel
theorem dX10_isInGang_4 : decode cX10_isInGang 4 = .ok (.getfield 146, 3) := by decide +kernel
theorem dX10_isInGang_7 : decode cX10_isInGang 7 = .ok (.iload_n 1, 1) := by decide +kernel
theorem dX10_isInGang_8 : decode cX10_isInGang 8 = .ok (.iaload, 1) := by decide +kernel
theorem dX10_isInGang_9 : decode cX10_isInGang 9 = .ok (.iconst 2, 1) := by decide +kernel
theorem dX10_isInGang_10 : decode cX10_isInGang 10 = .ok (.if_icmp .ne 32, 3) := by decide +kernel
theorem dX10_isInGang_13 : decode cX10_isInGang 13 = .ok (.aload_n 0, 1) := by decide +kernel
theorem dX10_isInGang_14 : decode cX10_isInGang 14 = .ok (.getfield 19, 3) := by decide +kernel
theorem dX10_isInGang_17 : decode cX10_isInGang 17 = .ok (.getfield 152, 3) := by decide +kernel
theorem dX10_isInGang_20 : decode cX10_isInGang 20 = .ok (.iload_n 1, 1) := by decide +kernel
theorem dX10_isInGang_21 : decode cX10_isInGang 21 = .ok (.iaload, 1) := by decide +kernel
theorem dX10_isInGang_22 : decode cX10_isInGang 22 = .ok (.iload_n 2, 1) := by decide +kernel
theorem dX10_isInGang_23 : decode cX10_isInGang 23 = .ok (.if_icmp .ne 19, 3) := by decide +kernel
theorem dX10_isInGang_26 : decode cX10_isInGang 26 = .ok (.aload_n 0, 1) := by decide +kernel
theorem dX10_isInGang_27 : decode cX10_isInGang 27 = .ok (.getfield 19, 3) := by decide +kernel
theorem dX10_isInGang_30 : decode cX10_isInGang 30 = .ok (.getfield 126, 3) := by decide +kernel
theorem dX10_isInGang_33 : decode cX10_isInGang 33 = .ok (.iload_n 1, 1) := by decide +kernel
theorem dX10_isInGang_34 : decode cX10_isInGang 34 = .ok (.iaload, 1) := by decide +kernel
theorem dX10_isInGang_35 : decode cX10_isInGang 35 = .ok (.ifCond .ne 7, 3) := by decide +kernel
theorem dX10_isInGang_38 : decode cX10_isInGang 38 = .ok (.iconst 1, 1) := by decide +kernel
theorem dX10_isInGang_39 : decode cX10_isInGang 39 = .ok (.goto 4, 3) := by decide +kernel
theorem dX10_isInGang_42 : decode cX10_isInGang 42 = .ok (.iconst 0, 1) := by decide +kernel
theorem dX10_isInGang_43 : decode cX10_isInGang 43 = .ok (.ireturn, 1) := by decide +kernel
theorem dX10_gangSize_0 : decode cX10_gangSize 0 = .ok (.iconst 0, 1) := by decide +kernel
theorem dX10_gangSize_1 : decode cX10_gangSize 1 = .ok (.istore_n 2, 1) := by decide +kernel
theorem dX10_gangSize_2 : decode cX10_gangSize 2 = .ok (.iconst 0, 1) := by decide +kernel
theorem dX10_gangSize_3 : decode cX10_gangSize 3 = .ok (.istore_n 3, 1) := by decide +kernel
theorem dX10_gangSize_4 : decode cX10_gangSize 4 = .ok (.iload_n 3, 1) := by decide +kernel
theorem dX10_gangSize_5 : decode cX10_gangSize 5 = .ok (.aload_n 0, 1) := by decide +kernel
theorem dX10_gangSize_6 : decode cX10_gangSize 6 = .ok (.getfield 19, 3) := by decide +kernel
theorem dX10_gangSize_9 : decode cX10_gangSize 9 = .ok (.getfield 114, 3) := by decide +kernel
theorem dX10_gangSize_12 : decode cX10_gangSize 12 = .ok (.if_icmp .ge 26, 3) := by decide +kernel
theorem dX10_gangSize_15 : decode cX10_gangSize 15 = .ok (.iload_n 2, 1) := by decide +kernel
theorem dX10_gangSize_16 : decode cX10_gangSize 16 = .ok (.aload_n 0, 1) := by decide +kernel
theorem dX10_gangSize_17 : decode cX10_gangSize 17 = .ok (.iload_n 3, 1) := by decide +kernel
theorem dX10_gangSize_18 : decode cX10_gangSize 18 = .ok (.iload_n 1, 1) := by decide +kernel
theorem dX10_gangSize_19 : decode cX10_gangSize 19 = .ok (.invokevirtual 176, 3) := by decide +kernel
theorem dX10_gangSize_22 : decode cX10_gangSize 22 = .ok (.ifCond .eq 7, 3) := by decide +kernel
theorem dX10_gangSize_25 : decode cX10_gangSize 25 = .ok (.iconst 1, 1) := by decide +kernel
theorem dX10_gangSize_26 : decode cX10_gangSize 26 = .ok (.goto 4, 3) := by decide +kernel
theorem dX10_gangSize_29 : decode cX10_gangSize 29 = .ok (.iconst 0, 1) := by decide +kernel
theorem dX10_gangSize_30 : decode cX10_gangSize 30 = .ok (.iadd, 1) := by decide +kernel
theorem dX10_gangSize_31 : decode cX10_gangSize 31 = .ok (.istore_n 2, 1) := by decide +kernel
theorem dX10_gangSize_32 : decode cX10_gangSize 32 = .ok (.iinc 3 1, 3) := by decide +kernel
theorem dX10_gangSize_35 : decode cX10_gangSize 35 = .ok (.goto (-31), 3) := by decide +kernel
theorem dX10_gangSize_38 : decode cX10_gangSize 38 = .ok (.iload_n 2, 1) := by decide +kernel
theorem dX10_gangSize_39 : decode cX10_gangSize 39 = .ok (.ireturn, 1) := by decide +kernel
theorem dX10_fitGang_0 : decode cX10_fitGang 0 = .ok (.iconst 0, 1) := by decide +kernel
theorem dX10_fitGang_1 : decode cX10_fitGang 1 = .ok (.istore_n 2, 1) := by decide +kernel
theorem dX10_fitGang_2 : decode cX10_fitGang 2 = .ok (.iload_n 2, 1) := by decide +kernel
theorem dX10_fitGang_3 : decode cX10_fitGang 3 = .ok (.aload_n 0, 1) := by decide +kernel
theorem dX10_fitGang_4 : decode cX10_fitGang 4 = .ok (.getfield 19, 3) := by decide +kernel
theorem dX10_fitGang_7 : decode cX10_fitGang 7 = .ok (.getfield 114, 3) := by decide +kernel
theorem dX10_fitGang_10 : decode cX10_fitGang 10 = .ok (.if_icmp .ge 44, 3) := by decide +kernel
theorem dX10_fitGang_13 : decode cX10_fitGang 13 = .ok (.aload_n 0, 1) := by decide +kernel
theorem dX10_fitGang_14 : decode cX10_fitGang 14 = .ok (.iload_n 2, 1) := by decide +kernel
theorem dX10_fitGang_15 : decode cX10_fitGang 15 = .ok (.iload_n 1, 1) := by decide +kernel
theorem dX10_fitGang_16 : decode cX10_fitGang 16 = .ok (.invokevirtual 176, 3) := by decide +kernel
theorem dX10_fitGang_19 : decode cX10_fitGang 19 = .ok (.ifCond .eq 29, 3) := by decide +kernel
theorem dX10_fitGang_22 : decode cX10_fitGang 22 = .ok (.aload_n 0, 1) := by decide +kernel
theorem dX10_fitGang_23 : decode cX10_fitGang 23 = .ok (.getfield 32, 3) := by decide +kernel
theorem dX10_fitGang_26 : decode cX10_fitGang 26 = .ok (.iload_n 2, 1) := by decide +kernel
theorem dX10_fitGang_27 : decode cX10_fitGang 27 = .ok (.invokevirtual 155, 3) := by decide +kernel
theorem dX10_fitGang_30 : decode cX10_fitGang 30 = .ok (.istore_n 3, 1) := by decide +kernel
theorem dX10_fitGang_31 : decode cX10_fitGang 31 = .ok (.iload_n 3, 1) := by decide +kernel
theorem dX10_fitGang_32 : decode cX10_fitGang 32 = .ok (.iconst (-1), 1) := by decide +kernel
theorem dX10_fitGang_33 : decode cX10_fitGang 33 = .ok (.if_icmp .ne 5, 3) := by decide +kernel
theorem dX10_fitGang_36 : decode cX10_fitGang 36 = .ok (.iconst 0, 1) := by decide +kernel
theorem dX10_fitGang_37 : decode cX10_fitGang 37 = .ok (.ireturn, 1) := by decide +kernel
theorem dX10_fitGang_38 : decode cX10_fitGang 38 = .ok (.aload_n 0, 1) := by decide +kernel
theorem dX10_fitGang_39 : decode cX10_fitGang 39 = .ok (.getfield 32, 3) := by decide +kernel
theorem dX10_fitGang_42 : decode cX10_fitGang 42 = .ok (.iload_n 2, 1) := by decide +kernel
theorem dX10_fitGang_43 : decode cX10_fitGang 43 = .ok (.iload_n 3, 1) := by decide +kernel
theorem dX10_fitGang_44 : decode cX10_fitGang 44 = .ok (.iconst 1, 1) := by decide +kernel
theorem dX10_fitGang_45 : decode cX10_fitGang 45 = .ok (.invokevirtual 189, 3) := by decide +kernel
theorem dX10_fitGang_48 : decode cX10_fitGang 48 = .ok (.iinc 2 1, 3) := by decide +kernel
theorem dX10_fitGang_51 : decode cX10_fitGang 51 = .ok (.goto (-49), 3) := by decide +kernel
theorem dX10_fitGang_54 : decode cX10_fitGang 54 = .ok (.iconst 1, 1) := by decide +kernel
theorem dX10_fitGang_55 : decode cX10_fitGang 55 = .ok (.ireturn, 1) := by decide +kernel
theorem dX11_init_0 : decode cX11_init 0 = .ok (.aload_n 0, 1) := by decide +kernel
theorem dX11_init_1 : decode cX11_init 1 = .ok (.invokespecial 1, 3) := by decide +kernel
theorem dX11_init_4 : decode cX11_init 4 = .ok (.aload_n 0, 1) := by decide +kernel
theorem dX11_init_5 : decode cX11_init 5 = .ok (.sipush 354, 3) := by decide +kernel
theorem dX11_init_8 : decode cX11_init 8 = .ok (.newarray .int, 2) := by decide +kernel
theorem dX11_init_10 : decode cX11_init 10 = .ok (.putfield 7, 3) := by decide +kernel
theorem dX11_init_13 : decode cX11_init 13 = .ok (.aload_n 0, 1) := by decide +kernel
theorem dX11_init_14 : decode cX11_init 14 = .ok (.sipush 10620, 3) := by decide +kernel
theorem dX11_init_17 : decode cX11_init 17 = .ok (.newarray .int, 2) := by decide +kernel
theorem dX11_init_19 : decode cX11_init 19 = .ok (.putfield 13, 3) := by decide +kernel
theorem dX11_init_22 : decode cX11_init 22 = .ok (.aload_n 0, 1) := by decide +kernel
theorem dX11_init_23 : decode cX11_init 23 = .ok (.bipush 24, 2) := by decide +kernel
theorem dX11_init_25 : decode cX11_init 25 = .ok (.newarray .int, 2) := by decide +kernel
theorem dX11_init_27 : decode cX11_init 27 = .ok (.putfield 16, 3) := by decide +kernel
theorem dX11_init_30 : decode cX11_init 30 = .ok (.aload_n 0, 1) := by decide +kernel
theorem dX11_init_31 : decode cX11_init 31 = .ok (.sipush 354, 3) := by decide +kernel
theorem dX11_init_34 : decode cX11_init 34 = .ok (.newarray .int, 2) := by decide +kernel
theorem dX11_init_36 : decode cX11_init 36 = .ok (.putfield 19, 3) := by decide +kernel
theorem dX11_init_39 : decode cX11_init 39 = .ok (.aload_n 0, 1) := by decide +kernel
theorem dX11_init_40 : decode cX11_init 40 = .ok (.bipush 24, 2) := by decide +kernel
theorem dX11_init_42 : decode cX11_init 42 = .ok (.newarray .int, 2) := by decide +kernel
theorem dX11_init_44 : decode cX11_init 44 = .ok (.putfield 22, 3) := by decide +kernel
theorem dX11_init_47 : decode cX11_init 47 = .ok (.aload_n 0, 1) := by decide +kernel
theorem dX11_init_48 : decode cX11_init 48 = .ok (.sipush 14641, 3) := by decide +kernel
theorem dX11_init_51 : decode cX11_init 51 = .ok (.newarray .boolean, 2) := by decide +kernel
theorem dX11_init_53 : decode cX11_init 53 = .ok (.putfield 25, 3) := by decide +kernel
theorem dX11_init_56 : decode cX11_init 56 = .ok (.aload_n 0, 1) := by decide +kernel
theorem dX11_init_57 : decode cX11_init 57 = .ok (.sipush 14641, 3) := by decide +kernel
theorem dX11_init_60 : decode cX11_init 60 = .ok (.newarray .int, 2) := by decide +kernel
theorem dX11_init_62 : decode cX11_init 62 = .ok (.putfield 29, 3) := by decide +kernel
theorem dX11_init_65 : decode cX11_init 65 = .ok (.aload_n 0, 1) := by decide +kernel
theorem dX11_init_66 : decode cX11_init 66 = .ok (.sipush 14641, 3) := by decide +kernel
theorem dX11_init_69 : decode cX11_init 69 = .ok (.newarray .int, 2) := by decide +kernel
theorem dX11_init_71 : decode cX11_init 71 = .ok (.putfield 32, 3) := by decide +kernel
theorem dX11_init_74 : decode cX11_init 74 = .ok (.aload_n 0, 1) := by decide +kernel
theorem dX11_init_75 : decode cX11_init 75 = .ok (.sipush 14641, 3) := by decide +kernel
theorem dX11_init_78 : decode cX11_init 78 = .ok (.newarray .int, 2) := by decide +kernel
theorem dX11_init_80 : decode cX11_init 80 = .ok (.putfield 35, 3) := by decide +kernel
theorem dX11_init_83 : decode cX11_init 83 = .ok (.aload_n 0, 1) := by decide +kernel
theorem dX11_init_84 : decode cX11_init 84 = .ok (.bipush 8, 2) := by decide +kernel
theorem dX11_init_86 : decode cX11_init 86 = .ok (.newarray .int, 2) := by decide +kernel
theorem dX11_init_88 : decode cX11_init 88 = .ok (.putfield 38, 3) := by decide +kernel
theorem dX11_init_91 : decode cX11_init 91 = .ok (.aload_n 0, 1) := by decide +kernel
theorem dX11_init_92 : decode cX11_init 92 = .ok (.bipush 8, 2) := by decide +kernel
theorem dX11_init_94 : decode cX11_init 94 = .ok (.newarray .int, 2) := by decide +kernel
theorem dX11_init_96 : decode cX11_init 96 = .ok (.putfield 41, 3) := by decide +kernel
theorem dX11_init_99 : decode cX11_init 99 = .ok (.aload_n 0, 1) := by decide +kernel
theorem dX11_init_100 : decode cX11_init 100 = .ok (.bipush 8, 2) := by decide +kernel
theorem dX11_init_102 : decode cX11_init 102 = .ok (.newarray .int, 2) := by decide +kernel
theorem dX11_init_104 : decode cX11_init 104 = .ok (.putfield 44, 3) := by decide +kernel
theorem dX11_init_107 : decode cX11_init 107 = .ok (.aload_n 0, 1) := by decide +kernel
theorem dX11_init_108 : decode cX11_init 108 = .ok (.iconst 4, 1) := by decide +kernel
theorem dX11_init_109 : decode cX11_init 109 = .ok (.newarray .int, 2) := by decide +kernel
theorem dX11_init_111 : decode cX11_init 111 = .ok (.putfield 47, 3) := by decide +kernel
theorem dX11_init_114 : decode cX11_init 114 = .ok (.aload_n 0, 1) := by decide +kernel
theorem dX11_init_115 : decode cX11_init 115 = .ok (.getfield 7, 3) := by decide +kernel
theorem dX11_init_118 : decode cX11_init 118 = .ok (.iconst 2, 1) := by decide +kernel
theorem dX11_init_119 : decode cX11_init 119 = .ok (.iconst 1, 1) := by decide +kernel
theorem dX11_init_120 : decode cX11_init 120 = .ok (.iastore, 1) := by decide +kernel
theorem dX11_init_121 : decode cX11_init 121 = .ok (.aload_n 0, 1) := by decide +kernel
theorem dX11_init_122 : decode cX11_init 122 = .ok (.getfield 7, 3) := by decide +kernel
theorem dX11_init_125 : decode cX11_init 125 = .ok (.iconst 3, 1) := by decide +kernel
theorem dX11_init_126 : decode cX11_init 126 = .ok (.bipush 10, 2) := by decide +kernel
theorem dX11_init_128 : decode cX11_init 128 = .ok (.iastore, 1) := by decide +kernel
theorem dX11_init_129 : decode cX11_init 129 = .ok (.aload_n 0, 1) := by decide +kernel
theorem dX11_init_130 : decode cX11_init 130 = .ok (.getfield 7, 3) := by decide +kernel
theorem dX11_init_133 : decode cX11_init 133 = .ok (.iconst 4, 1) := by decide +kernel
theorem dX11_init_134 : decode cX11_init 134 = .ok (.iconst 5, 1) := by decide +kernel
theorem dX11_init_135 : decode cX11_init 135 = .ok (.iastore, 1) := by decide +kernel
theorem dX11_init_136 : decode cX11_init 136 = .ok (.return_, 1) := by decide +kernel
theorem dX11_in_0 : decode cX11_in 0 = .ok (.iload_n 0, 1) := by decide +kernel
theorem dX11_in_1 : decode cX11_in 1 = .ok (.iload_n 1, 1) := by decide +kernel
theorem dX11_in_2 : decode cX11_in 2 = .ok (.if_icmp .lt 12, 3) := by decide +kernel
theorem dX11_in_5 : decode cX11_in 5 = .ok (.iload_n 0, 1) := by decide +kernel
theorem dX11_in_6 : decode cX11_in 6 = .ok (.iload_n 2, 1) := by decide +kernel
theorem dX11_in_7 : decode cX11_in 7 = .ok (.if_icmp .gt 7, 3) := by decide +kernel
theorem dX11_in_10 : decode cX11_in 10 = .ok (.iconst 1, 1) := by decide +kernel
theorem dX11_in_11 : decode cX11_in 11 = .ok (.goto 4, 3) := by decide +kernel
theorem dX11_in_14 : decode cX11_in 14 = .ok (.iconst 0, 1) := by decide +kernel
theorem dX11_in_15 : decode cX11_in 15 = .ok (.ireturn, 1) := by decide +kernel
theorem dX11_isHost_0 : decode cX11_isHost 0 = .ok (.iload_n 1, 1) := by decide +kernel
theorem dX11_isHost_1 : decode cX11_isHost 1 = .ok (.iconst 0, 1) := by decide +kernel
theorem dX11_isHost_2 : decode cX11_isHost 2 = .ok (.aload_n 0, 1) := by decide +kernel
theorem dX11_isHost_3 : decode cX11_isHost 3 = .ok (.getfield 7, 3) := by decide +kernel
theorem dX11_isHost_6 : decode cX11_isHost 6 = .ok (.iconst 0, 1) := by decide +kernel
theorem dX11_isHost_7 : decode cX11_isHost 7 = .ok (.iaload, 1) := by decide +kernel
theorem dX11_isHost_8 : decode cX11_isHost 8 = .ok (.iconst 1, 1) := by decide +kernel
theorem dX11_isHost_9 : decode cX11_isHost 9 = .ok (.isub, 1) := by decide +kernel
theorem dX11_isHost_10 : decode cX11_isHost 10 = .ok (.invokestatic 50, 3) := by decide +kernel
theorem dX11_isHost_13 : decode cX11_isHost 13 = .ok (.ireturn, 1) := by decide +kernel
theorem dX11_isJob_0 : decode cX11_isJob 0 = .ok (.iload_n 1, 1) := by decide +kernel
theorem dX11_isJob_1 : decode cX11_isJob 1 = .ok (.iconst 0, 1) := by decide +kernel
theorem dX11_isJob_2 : decode cX11_isJob 2 = .ok (.aload_n 0, 1) := by decide +kernel
theorem dX11_isJob_3 : decode cX11_isJob 3 = .ok (.getfield 7, 3) := by decide +kernel
theorem dX11_isJob_6 : decode cX11_isJob 6 = .ok (.iconst 1, 1) := by decide +kernel
theorem dX11_isJob_7 : decode cX11_isJob 7 = .ok (.iaload, 1) := by decide +kernel
theorem dX11_isJob_8 : decode cX11_isJob 8 = .ok (.iconst 1, 1) := by decide +kernel
theorem dX11_isJob_9 : decode cX11_isJob 9 = .ok (.isub, 1) := by decide +kernel
theorem dX11_isJob_10 : decode cX11_isJob 10 = .ok (.invokestatic 50, 3) := by decide +kernel
theorem dX11_isJob_13 : decode cX11_isJob 13 = .ok (.ireturn, 1) := by decide +kernel
theorem dX11_keep_0 : decode cX11_keep 0 = .ok (.aload_n 0, 1) := by decide +kernel
theorem dX11_keep_1 : decode cX11_keep 1 = .ok (.getfield 54, 3) := by decide +kernel
theorem dX11_keep_4 : decode cX11_keep 4 = .ok (.bipush 30, 2) := by decide +kernel
theorem dX11_keep_6 : decode cX11_keep 6 = .ok (.if_icmp .ne 46, 3) := by decide +kernel
theorem dX11_keep_9 : decode cX11_keep 9 = .ok (.sipush 354, 3) := by decide +kernel
theorem dX11_keep_12 : decode cX11_keep 12 = .ok (.istore_n 1, 1) := by decide +kernel
theorem dX11_keep_13 : decode cX11_keep 13 = .ok (.iload_n 1, 1) := by decide +kernel
theorem dX11_keep_14 : decode cX11_keep 14 = .ok (.sipush 10620, 3) := by decide +kernel
theorem dX11_keep_17 : decode cX11_keep 17 = .ok (.if_icmp .ge 25, 3) := by decide +kernel
theorem dX11_keep_20 : decode cX11_keep 20 = .ok (.aload_n 0, 1) := by decide +kernel
theorem dX11_keep_21 : decode cX11_keep 21 = .ok (.getfield 13, 3) := by decide +kernel
theorem dX11_keep_24 : decode cX11_keep 24 = .ok (.iload_n 1, 1) := by decide +kernel
theorem dX11_keep_25 : decode cX11_keep 25 = .ok (.sipush 354, 3) := by decide +kernel
theorem dX11_keep_28 : decode cX11_keep 28 = .ok (.isub, 1) := by decide +kernel
theorem dX11_keep_29 : decode cX11_keep 29 = .ok (.aload_n 0, 1) := by decide +kernel
theorem dX11_keep_30 : decode cX11_keep 30 = .ok (.getfield 13, 3) := by decide +kernel
theorem dX11_keep_33 : decode cX11_keep 33 = .ok (.iload_n 1, 1) := by decide +kernel
theorem dX11_keep_34 : decode cX11_keep 34 = .ok (.iaload, 1) := by decide +kernel
theorem dX11_keep_35 : decode cX11_keep 35 = .ok (.iastore, 1) := by decide +kernel
theorem dX11_keep_36 : decode cX11_keep 36 = .ok (.iinc 1 1, 3) := by decide +kernel
theorem dX11_keep_39 : decode cX11_keep 39 = .ok (.goto (-26), 3) := by decide +kernel
theorem dX11_keep_42 : decode cX11_keep 42 = .ok (.aload_n 0, 1) := by decide +kernel
theorem dX11_keep_43 : decode cX11_keep 43 = .ok (.dup, 1) := by decide +kernel
theorem dX11_keep_44 : decode cX11_keep 44 = .ok (.getfield 54, 3) := by decide +kernel
theorem dX11_keep_47 : decode cX11_keep 47 = .ok (.iconst 1, 1) := by decide +kernel
theorem dX11_keep_48 : decode cX11_keep 48 = .ok (.isub, 1) := by decide +kernel
theorem dX11_keep_49 : decode cX11_keep 49 = .ok (.putfield 54, 3) := by decide +kernel
theorem dX11_keep_52 : decode cX11_keep 52 = .ok (.iconst 0, 1) := by decide +kernel
theorem dX11_keep_53 : decode cX11_keep 53 = .ok (.istore_n 1, 1) := by decide +kernel
theorem dX11_keep_54 : decode cX11_keep 54 = .ok (.iload_n 1, 1) := by decide +kernel
theorem dX11_keep_55 : decode cX11_keep 55 = .ok (.sipush 354, 3) := by decide +kernel
theorem dX11_keep_58 : decode cX11_keep 58 = .ok (.if_icmp .ge 30, 3) := by decide +kernel
theorem dX11_keep_61 : decode cX11_keep 61 = .ok (.aload_n 0, 1) := by decide +kernel
theorem dX11_keep_62 : decode cX11_keep 62 = .ok (.getfield 13, 3) := by decide +kernel
theorem dX11_keep_65 : decode cX11_keep 65 = .ok (.sipush 354, 3) := by decide +kernel
theorem dX11_keep_68 : decode cX11_keep 68 = .ok (.aload_n 0, 1) := by decide +kernel
theorem dX11_keep_69 : decode cX11_keep 69 = .ok (.getfield 54, 3) := by decide +kernel
theorem dX11_keep_72 : decode cX11_keep 72 = .ok (.imul, 1) := by decide +kernel
theorem dX11_keep_73 : decode cX11_keep 73 = .ok (.iload_n 1, 1) := by decide +kernel
theorem dX11_keep_74 : decode cX11_keep 74 = .ok (.iadd, 1) := by decide +kernel
theorem dX11_keep_75 : decode cX11_keep 75 = .ok (.aload_n 0, 1) := by decide +kernel
theorem dX11_keep_76 : decode cX11_keep 76 = .ok (.getfield 7, 3) := by decide +kernel
theorem dX11_keep_79 : decode cX11_keep 79 = .ok (.iload_n 1, 1) := by decide +kernel
theorem dX11_keep_80 : decode cX11_keep 80 = .ok (.iaload, 1) := by decide +kernel
