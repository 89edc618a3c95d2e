theorem dX11_told_29 : decode cX11_told 29 = .ok (.iconst 1, 1) := by decide +kernel
theorem dX11_told_30 : decode cX11_told 30 = .ok (.if_icmp .ne 7, 3) := by decide +kernel
theorem dX11_told_33 : decode cX11_told 33 = .ok (.iconst 1, 1) := by decide +kernel
theorem dX11_told_34 : decode cX11_told 34 = .ok (.goto 4, 3) := by decide +kernel
theorem dX11_told_37 : decode cX11_told 37 = .ok (.iconst 0, 1) := by decide +kernel
theorem dX11_told_38 : decode cX11_told 38 = .ok (.istore_n 3, 1) := by decide +kernel
theorem dX11_told_39 : decode cX11_told 39 = .ok (.iload_n 2, 1) := by decide +kernel
theorem dX11_told_40 : decode cX11_told 40 = .ok (.tableswitch 108 0 4 #[36, 47, 67, 87, 97], 36) := by decide +kernel
theorem dX11_told_76 : decode cX11_told 76 = .ok (.aload_n 0, 1) := by decide +kernel
theorem dX11_told_77 : decode cX11_told 77 = .ok (.getfield 7, 3) := by decide +kernel
theorem dX11_told_80 : decode cX11_told 80 = .ok (.sipush 258, 3) := by decide +kernel
theorem dX11_told_83 : decode cX11_told 83 = .ok (.iload_n 1, 1) := by decide +kernel
theorem dX11_told_84 : decode cX11_told 84 = .ok (.iadd, 1) := by decide +kernel
theorem dX11_told_85 : decode cX11_told 85 = .ok (.iaload, 1) := by decide +kernel
theorem dX11_told_86 : decode cX11_told 86 = .ok (.ireturn, 1) := by decide +kernel
theorem dX11_told_87 : decode cX11_told 87 = .ok (.iload_n 3, 1) := by decide +kernel
theorem dX11_told_88 : decode cX11_told 88 = .ok (.ifCond .eq 16, 3) := by decide +kernel
theorem dX11_told_91 : decode cX11_told 91 = .ok (.aload_n 0, 1) := by decide +kernel
theorem dX11_told_92 : decode cX11_told 92 = .ok (.getfield 7, 3) := by decide +kernel
theorem dX11_told_95 : decode cX11_told 95 = .ok (.sipush 282, 3) := by decide +kernel
theorem dX11_told_98 : decode cX11_told 98 = .ok (.iload_n 1, 1) := by decide +kernel
theorem dX11_told_99 : decode cX11_told 99 = .ok (.iadd, 1) := by decide +kernel
theorem dX11_told_100 : decode cX11_told 100 = .ok (.iaload, 1) := by decide +kernel
theorem dX11_told_101 : decode cX11_told 101 = .ok (.goto 5, 3) := by decide +kernel
theorem dX11_told_104 : decode cX11_told 104 = .ok (.bipush (-3), 2) := by decide +kernel
theorem dX11_told_106 : decode cX11_told 106 = .ok (.ireturn, 1) := by decide +kernel
theorem dX11_told_107 : decode cX11_told 107 = .ok (.iload_n 3, 1) := by decide +kernel
theorem dX11_told_108 : decode cX11_told 108 = .ok (.ifCond .eq 16, 3) := by decide +kernel
theorem dX11_told_111 : decode cX11_told 111 = .ok (.aload_n 0, 1) := by decide +kernel
theorem dX11_told_112 : decode cX11_told 112 = .ok (.getfield 7, 3) := by decide +kernel
theorem dX11_told_115 : decode cX11_told 115 = .ok (.sipush 306, 3) := by decide +kernel
theorem dX11_told_118 : decode cX11_told 118 = .ok (.iload_n 1, 1) := by decide +kernel
theorem dX11_told_119 : decode cX11_told 119 = .ok (.iadd, 1) := by decide +kernel
theorem dX11_told_120 : decode cX11_told 120 = .ok (.iaload, 1) := by decide +kernel
theorem dX11_told_121 : decode cX11_told 121 = .ok (.goto 5, 3) := by decide +kernel
theorem dX11_told_124 : decode cX11_told 124 = .ok (.bipush (-3), 2) := by decide +kernel
theorem dX11_told_126 : decode cX11_told 126 = .ok (.ireturn, 1) := by decide +kernel
theorem dX11_told_127 : decode cX11_told 127 = .ok (.aload_n 0, 1) := by decide +kernel
theorem dX11_told_128 : decode cX11_told 128 = .ok (.getfield 7, 3) := by decide +kernel
theorem dX11_told_131 : decode cX11_told 131 = .ok (.bipush 66, 2) := by decide +kernel
theorem dX11_told_133 : decode cX11_told 133 = .ok (.iload_n 1, 1) := by decide +kernel
theorem dX11_told_134 : decode cX11_told 134 = .ok (.iadd, 1) := by decide +kernel
theorem dX11_told_135 : decode cX11_told 135 = .ok (.iaload, 1) := by decide +kernel
theorem dX11_told_136 : decode cX11_told 136 = .ok (.ireturn, 1) := by decide +kernel
theorem dX11_told_137 : decode cX11_told 137 = .ok (.aload_n 0, 1) := by decide +kernel
theorem dX11_told_138 : decode cX11_told 138 = .ok (.getfield 7, 3) := by decide +kernel
theorem dX11_told_141 : decode cX11_told 141 = .ok (.sipush 162, 3) := by decide +kernel
theorem dX11_told_144 : decode cX11_told 144 = .ok (.iload_n 1, 1) := by decide +kernel
theorem dX11_told_145 : decode cX11_told 145 = .ok (.iadd, 1) := by decide +kernel
theorem dX11_told_146 : decode cX11_told 146 = .ok (.iaload, 1) := by decide +kernel
theorem dX11_told_147 : decode cX11_told 147 = .ok (.ireturn, 1) := by decide +kernel
theorem dX11_told_148 : decode cX11_told 148 = .ok (.aload_n 0, 1) := by decide +kernel
theorem dX11_told_149 : decode cX11_told 149 = .ok (.getfield 7, 3) := by decide +kernel
theorem dX11_told_152 : decode cX11_told 152 = .ok (.sipush 186, 3) := by decide +kernel
theorem dX11_told_155 : decode cX11_told 155 = .ok (.iload_n 1, 1) := by decide +kernel
theorem dX11_told_156 : decode cX11_told 156 = .ok (.iadd, 1) := by decide +kernel
theorem dX11_told_157 : decode cX11_told 157 = .ok (.iaload, 1) := by decide +kernel
theorem dX11_told_158 : decode cX11_told 158 = .ok (.ireturn, 1) := by decide +kernel
theorem dX11_bestFor_0 : decode cX11_bestFor 0 = .ok (.bipush (-3), 2) := by decide +kernel
theorem dX11_bestFor_2 : decode cX11_bestFor 2 = .ok (.istore_n 2, 1) := by decide +kernel
theorem dX11_bestFor_3 : decode cX11_bestFor 3 = .ok (.iconst 0, 1) := by decide +kernel
theorem dX11_bestFor_4 : decode cX11_bestFor 4 = .ok (.istore_n 3, 1) := by decide +kernel
theorem dX11_bestFor_5 : decode cX11_bestFor 5 = .ok (.iconst 0, 1) := by decide +kernel
theorem dX11_bestFor_6 : decode cX11_bestFor 6 = .ok (.istore 4, 2) := by decide +kernel
theorem dX11_bestFor_8 : decode cX11_bestFor 8 = .ok (.iload 4, 2) := by decide +kernel
theorem dX11_bestFor_10 : decode cX11_bestFor 10 = .ok (.aload_n 0, 1) := by decide +kernel
theorem dX11_bestFor_11 : decode cX11_bestFor 11 = .ok (.getfield 7, 3) := by decide +kernel
theorem dX11_bestFor_14 : decode cX11_bestFor 14 = .ok (.iconst 0, 1) := by decide +kernel
theorem dX11_bestFor_15 : decode cX11_bestFor 15 = .ok (.iaload, 1) := by decide +kernel
theorem dX11_bestFor_16 : decode cX11_bestFor 16 = .ok (.if_icmp .ge 67, 3) := by decide +kernel
theorem dX11_bestFor_19 : decode cX11_bestFor 19 = .ok (.aload_n 0, 1) := by decide +kernel
theorem dX11_bestFor_20 : decode cX11_bestFor 20 = .ok (.iload_n 1, 1) := by decide +kernel
theorem dX11_bestFor_21 : decode cX11_bestFor 21 = .ok (.iload 4, 2) := by decide +kernel
theorem dX11_bestFor_23 : decode cX11_bestFor 23 = .ok (.invokevirtual 98, 3) := by decide +kernel
theorem dX11_bestFor_26 : decode cX11_bestFor 26 = .ok (.ifCond .ne 51, 3) := by decide +kernel
theorem dX11_bestFor_29 : decode cX11_bestFor 29 = .ok (.aload_n 0, 1) := by decide +kernel
theorem dX11_bestFor_30 : decode cX11_bestFor 30 = .ok (.iload_n 1, 1) := by decide +kernel
theorem dX11_bestFor_31 : decode cX11_bestFor 31 = .ok (.iload 4, 2) := by decide +kernel
theorem dX11_bestFor_33 : decode cX11_bestFor 33 = .ok (.invokevirtual 103, 3) := by decide +kernel
theorem dX11_bestFor_36 : decode cX11_bestFor 36 = .ok (.istore 5, 2) := by decide +kernel
theorem dX11_bestFor_38 : decode cX11_bestFor 38 = .ok (.iload_n 2, 1) := by decide +kernel
theorem dX11_bestFor_39 : decode cX11_bestFor 39 = .ok (.ifCond .lt 9, 3) := by decide +kernel
theorem dX11_bestFor_42 : decode cX11_bestFor 42 = .ok (.iload 5, 2) := by decide +kernel
theorem dX11_bestFor_44 : decode cX11_bestFor 44 = .ok (.iload_n 3, 1) := by decide +kernel
theorem dX11_bestFor_45 : decode cX11_bestFor 45 = .ok (.if_icmp .le 8, 3) := by decide +kernel
theorem dX11_bestFor_48 : decode cX11_bestFor 48 = .ok (.iload 5, 2) := by decide +kernel
theorem dX11_bestFor_50 : decode cX11_bestFor 50 = .ok (.goto 4, 3) := by decide +kernel
theorem dX11_bestFor_53 : decode cX11_bestFor 53 = .ok (.iload_n 3, 1) := by decide +kernel
theorem dX11_bestFor_54 : decode cX11_bestFor 54 = .ok (.istore_n 3, 1) := by decide +kernel
theorem dX11_bestFor_55 : decode cX11_bestFor 55 = .ok (.iload_n 2, 1) := by decide +kernel
theorem dX11_bestFor_56 : decode cX11_bestFor 56 = .ok (.ifCond .lt 14, 3) := by decide +kernel
theorem dX11_bestFor_59 : decode cX11_bestFor 59 = .ok (.iload 5, 2) := by decide +kernel
theorem dX11_bestFor_61 : decode cX11_bestFor 61 = .ok (.aload_n 0, 1) := by decide +kernel
theorem dX11_bestFor_62 : decode cX11_bestFor 62 = .ok (.iload_n 1, 1) := by decide +kernel
theorem dX11_bestFor_63 : decode cX11_bestFor 63 = .ok (.iload_n 2, 1) := by decide +kernel
theorem dX11_bestFor_64 : decode cX11_bestFor 64 = .ok (.invokevirtual 103, 3) := by decide +kernel
theorem dX11_bestFor_67 : decode cX11_bestFor 67 = .ok (.if_icmp .le 8, 3) := by decide +kernel
theorem dX11_bestFor_70 : decode cX11_bestFor 70 = .ok (.iload 4, 2) := by decide +kernel
theorem dX11_bestFor_72 : decode cX11_bestFor 72 = .ok (.goto 4, 3) := by decide +kernel
theorem dX11_bestFor_75 : decode cX11_bestFor 75 = .ok (.iload_n 2, 1) := by decide +kernel
theorem dX11_bestFor_76 : decode cX11_bestFor 76 = .ok (.istore_n 2, 1) := by decide +kernel
theorem dX11_bestFor_77 : decode cX11_bestFor 77 = .ok (.iinc 4 1, 3) := by decide +kernel
theorem dX11_bestFor_80 : decode cX11_bestFor 80 = .ok (.goto (-72), 3) := by decide +kernel
theorem dX11_bestFor_83 : decode cX11_bestFor 83 = .ok (.iload_n 2, 1) := by decide +kernel
theorem dX11_bestFor_84 : decode cX11_bestFor 84 = .ok (.ireturn, 1) := by decide +kernel
theorem dX11_stand_0 : decode cX11_stand 0 = .ok (.aload_n 0, 1) := by decide +kernel
theorem dX11_stand_1 : decode cX11_stand 1 = .ok (.getfield 7, 3) := by decide +kernel
theorem dX11_stand_4 : decode cX11_stand 4 = .ok (.sipush 258, 3) := by decide +kernel
theorem dX11_stand_7 : decode cX11_stand 7 = .ok (.iload_n 1, 1) := by decide +kernel
theorem dX11_stand_8 : decode cX11_stand 8 = .ok (.iadd, 1) := by decide +kernel
theorem dX11_stand_9 : decode cX11_stand 9 = .ok (.iconst 1, 1) := by decide +kernel
theorem dX11_stand_10 : decode cX11_stand 10 = .ok (.iastore, 1) := by decide +kernel
theorem dX11_stand_11 : decode cX11_stand 11 = .ok (.aload_n 0, 1) := by decide +kernel
theorem dX11_stand_12 : decode cX11_stand 12 = .ok (.getfield 7, 3) := by decide +kernel
theorem dX11_stand_15 : decode cX11_stand 15 = .ok (.sipush 282, 3) := by decide +kernel
theorem dX11_stand_18 : decode cX11_stand 18 = .ok (.iload_n 1, 1) := by decide +kernel
theorem dX11_stand_19 : decode cX11_stand 19 = .ok (.iadd, 1) := by decide +kernel
theorem dX11_stand_20 : decode cX11_stand 20 = .ok (.iload_n 2, 1) := by decide +kernel
theorem dX11_stand_21 : decode cX11_stand 21 = .ok (.iastore, 1) := by decide +kernel
theorem dX11_stand_22 : decode cX11_stand 22 = .ok (.aload_n 0, 1) := by decide +kernel
theorem dX11_stand_23 : decode cX11_stand 23 = .ok (.getfield 7, 3) := by decide +kernel
theorem dX11_stand_26 : decode cX11_stand 26 = .ok (.iconst 5, 1) := by decide +kernel
theorem dX11_stand_27 : decode cX11_stand 27 = .ok (.dup2, 1) := by decide +kernel
theorem dX11_stand_28 : decode cX11_stand 28 = .ok (.iaload, 1) := by decide +kernel
theorem dX11_stand_29 : decode cX11_stand 29 = .ok (.iconst 1, 1) := by decide +kernel
theorem dX11_stand_30 : decode cX11_stand 30 = .ok (.iadd, 1) := by decide +kernel
theorem dX11_stand_31 : decode cX11_stand 31 = .ok (.iastore, 1) := by decide +kernel
theorem dX11_stand_32 : decode cX11_stand 32 = .ok (.aload_n 0, 1) := by decide +kernel
theorem dX11_stand_33 : decode cX11_stand 33 = .ok (.getfield 7, 3) := by decide +kernel
theorem dX11_stand_36 : decode cX11_stand 36 = .ok (.sipush 306, 3) := by decide +kernel
theorem dX11_stand_39 : decode cX11_stand 39 = .ok (.iload_n 1, 1) := by decide +kernel
theorem dX11_stand_40 : decode cX11_stand 40 = .ok (.iadd, 1) := by decide +kernel
theorem dX11_stand_41 : decode cX11_stand 41 = .ok (.aload_n 0, 1) := by decide +kernel
theorem dX11_stand_42 : decode cX11_stand 42 = .ok (.getfield 7, 3) := by decide +kernel
theorem dX11_stand_45 : decode cX11_stand 45 = .ok (.iconst 5, 1) := by decide +kernel
theorem dX11_stand_46 : decode cX11_stand 46 = .ok (.iaload, 1) := by decide +kernel
theorem dX11_stand_47 : decode cX11_stand 47 = .ok (.iastore, 1) := by decide +kernel
theorem dX11_stand_48 : decode cX11_stand 48 = .ok (.return_, 1) := by decide +kernel
theorem dX11_findGoing_0 : decode cX11_findGoing 0 = .ok (.aload_n 0, 1) := by decide +kernel
theorem dX11_findGoing_1 : decode cX11_findGoing 1 = .ok (.iconst 0, 1) := by decide +kernel
theorem dX11_findGoing_2 : decode cX11_findGoing 2 = .ok (.putfield 106, 3) := by decide +kernel
theorem dX11_findGoing_5 : decode cX11_findGoing 5 = .ok (.aload_n 0, 1) := by decide +kernel
theorem dX11_findGoing_6 : decode cX11_findGoing 6 = .ok (.iconst (-1), 1) := by decide +kernel
theorem dX11_findGoing_7 : decode cX11_findGoing 7 = .ok (.putfield 109, 3) := by decide +kernel
theorem dX11_findGoing_10 : decode cX11_findGoing 10 = .ok (.aload_n 0, 1) := by decide +kernel
theorem dX11_findGoing_11 : decode cX11_findGoing 11 = .ok (.iload_n 1, 1) := by decide +kernel
theorem dX11_findGoing_12 : decode cX11_findGoing 12 = .ok (.iload_n 2, 1) := by decide +kernel
theorem dX11_findGoing_13 : decode cX11_findGoing 13 = .ok (.invokevirtual 98, 3) := by decide +kernel
theorem dX11_findGoing_16 : decode cX11_findGoing 16 = .ok (.ifCond .ne 7, 3) := by decide +kernel
theorem dX11_findGoing_19 : decode cX11_findGoing 19 = .ok (.iconst 1, 1) := by decide +kernel
theorem dX11_findGoing_20 : decode cX11_findGoing 20 = .ok (.goto 4, 3) := by decide +kernel
theorem dX11_findGoing_23 : decode cX11_findGoing 23 = .ok (.iconst 0, 1) := by decide +kernel
theorem dX11_findGoing_24 : decode cX11_findGoing 24 = .ok (.istore_n 3, 1) := by decide +kernel
theorem dX11_findGoing_25 : decode cX11_findGoing 25 = .ok (.iload_n 3, 1) := by decide +kernel
theorem dX11_findGoing_26 : decode cX11_findGoing 26 = .ok (.ifCond .ne 286, 3) := by decide +kernel
theorem dX11_findGoing_29 : decode cX11_findGoing 29 = .ok (.iconst (-1), 1) := by decide +kernel
theorem dX11_findGoing_30 : decode cX11_findGoing 30 = .ok (.istore 4, 2) := by decide +kernel
theorem dX11_findGoing_32 : decode cX11_findGoing 32 = .ok (.iconst 0, 1) := by decide +kernel
theorem dX11_findGoing_33 : decode cX11_findGoing 33 = .ok (.istore 5, 2) := by decide +kernel
theorem dX11_findGoing_35 : decode cX11_findGoing 35 = .ok (.iload 5, 2) := by decide +kernel
theorem dX11_findGoing_37 : decode cX11_findGoing 37 = .ok (.aload_n 0, 1) := by decide +kernel
theorem dX11_findGoing_38 : decode cX11_findGoing 38 = .ok (.getfield 7, 3) := by decide +kernel
theorem dX11_findGoing_41 : decode cX11_findGoing 41 = .ok (.iconst 1, 1) := by decide +kernel
theorem dX11_findGoing_42 : decode cX11_findGoing 42 = .ok (.iaload, 1) := by decide +kernel
theorem dX11_findGoing_43 : decode cX11_findGoing 43 = .ok (.if_icmp .ge 170, 3) := by decide +kernel
theorem dX11_findGoing_46 : decode cX11_findGoing 46 = .ok (.aload_n 0, 1) := by decide +kernel
theorem dX11_findGoing_47 : decode cX11_findGoing 47 = .ok (.iload 5, 2) := by decide +kernel
theorem dX11_findGoing_49 : decode cX11_findGoing 49 = .ok (.iload_n 2, 1) := by decide +kernel
theorem dX11_findGoing_50 : decode cX11_findGoing 50 = .ok (.invokevirtual 64, 3) := by decide +kernel
theorem dX11_findGoing_53 : decode cX11_findGoing 53 = .ok (.ifCond .eq 45, 3) := by decide +kernel
theorem dX11_findGoing_56 : decode cX11_findGoing 56 = .ok (.aload_n 0, 1) := by decide +kernel
theorem dX11_findGoing_57 : decode cX11_findGoing 57 = .ok (.getfield 7, 3) := by decide +kernel
theorem dX11_findGoing_60 : decode cX11_findGoing 60 = .ok (.bipush 66, 2) := by decide +kernel
theorem dX11_findGoing_62 : decode cX11_findGoing 62 = .ok (.iload 5, 2) := by decide +kernel
theorem dX11_findGoing_64 : decode cX11_findGoing 64 = .ok (.iadd, 1) := by decide +kernel
theorem dX11_findGoing_65 : decode cX11_findGoing 65 = .ok (.iaload, 1) := by decide +kernel
theorem dX11_findGoing_66 : decode cX11_findGoing 66 = .ok (.iconst 3, 1) := by decide +kernel
theorem dX11_findGoing_67 : decode cX11_findGoing 67 = .ok (.if_icmp .eq 31, 3) := by decide +kernel
theorem dX11_findGoing_70 : decode cX11_findGoing 70 = .ok (.aload_n 0, 1) := by decide +kernel
theorem dX11_findGoing_71 : decode cX11_findGoing 71 = .ok (.getfield 7, 3) := by decide +kernel
theorem dX11_findGoing_74 : decode cX11_findGoing 74 = .ok (.sipush 162, 3) := by decide +kernel
theorem dX11_findGoing_77 : decode cX11_findGoing 77 = .ok (.iload 5, 2) := by decide +kernel
theorem dX11_findGoing_79 : decode cX11_findGoing 79 = .ok (.iadd, 1) := by decide +kernel
theorem dX11_findGoing_80 : decode cX11_findGoing 80 = .ok (.iaload, 1) := by decide +kernel
theorem dX11_findGoing_81 : decode cX11_findGoing 81 = .ok (.aload_n 0, 1) := by decide +kernel
theorem dX11_findGoing_82 : decode cX11_findGoing 82 = .ok (.getfield 7, 3) := by decide +kernel
theorem dX11_findGoing_85 : decode cX11_findGoing 85 = .ok (.sipush 162, 3) := by decide +kernel
theorem dX11_findGoing_88 : decode cX11_findGoing 88 = .ok (.iload_n 1, 1) := by decide +kernel
theorem dX11_findGoing_89 : decode cX11_findGoing 89 = .ok (.iadd, 1) := by decide +kernel
theorem dX11_findGoing_90 : decode cX11_findGoing 90 = .ok (.iaload, 1) := by decide +kernel
theorem dX11_findGoing_91 : decode cX11_findGoing 91 = .ok (.if_icmp .ge 7, 3) := by decide +kernel
theorem dX11_findGoing_94 : decode cX11_findGoing 94 = .ok (.iconst 1, 1) := by decide +kernel
theorem dX11_findGoing_95 : decode cX11_findGoing 95 = .ok (.goto 4, 3) := by decide +kernel
theorem dX11_findGoing_98 : decode cX11_findGoing 98 = .ok (.iconst 0, 1) := by decide +kernel
theorem dX11_findGoing_99 : decode cX11_findGoing 99 = .ok (.istore 6, 2) := by decide +kernel
theorem dX11_findGoing_101 : decode cX11_findGoing 101 = .ok (.iload 6, 2) := by decide +kernel
theorem dX11_findGoing_103 : decode cX11_findGoing 103 = .ok (.ifCond .eq 87, 3) := by decide +kernel
theorem dX11_findGoing_106 : decode cX11_findGoing 106 = .ok (.iload 4, 2) := by decide +kernel
theorem dX11_findGoing_108 : decode cX11_findGoing 108 = .ok (.ifCond .lt 78, 3) := by decide +kernel
theorem dX11_findGoing_111 : decode cX11_findGoing 111 = .ok (.aload_n 0, 1) := by decide +kernel
theorem dX11_findGoing_112 : decode cX11_findGoing 112 = .ok (.getfield 7, 3) := by decide +kernel
theorem dX11_findGoing_115 : decode cX11_findGoing 115 = .ok (.sipush 162, 3) := by decide +kernel
theorem dX11_findGoing_118 : decode cX11_findGoing 118 = .ok (.iload 5, 2) := by decide +kernel
theorem dX11_findGoing_120 : decode cX11_findGoing 120 = .ok (.iadd, 1) := by decide +kernel
theorem dX11_findGoing_121 : decode cX11_findGoing 121 = .ok (.iaload, 1) := by decide +kernel
theorem dX11_findGoing_122 : decode cX11_findGoing 122 = .ok (.aload_n 0, 1) := by decide +kernel
theorem dX11_findGoing_123 : decode cX11_findGoing 123 = .ok (.getfield 7, 3) := by decide +kernel
theorem dX11_findGoing_126 : decode cX11_findGoing 126 = .ok (.sipush 162, 3) := by decide +kernel
theorem dX11_findGoing_129 : decode cX11_findGoing 129 = .ok (.iload 4, 2) := by decide +kernel
theorem dX11_findGoing_131 : decode cX11_findGoing 131 = .ok (.iadd, 1) := by decide +kernel
theorem dX11_findGoing_132 : decode cX11_findGoing 132 = .ok (.iaload, 1) := by decide +kernel
theorem dX11_findGoing_133 : decode cX11_findGoing 133 = .ok (.if_icmp .lt 53, 3) := by decide +kernel
theorem dX11_findGoing_136 : decode cX11_findGoing 136 = .ok (.aload_n 0, 1) := by decide +kernel
theorem dX11_findGoing_137 : decode cX11_findGoing 137 = .ok (.getfield 7, 3) := by decide +kernel
theorem dX11_findGoing_140 : decode cX11_findGoing 140 = .ok (.sipush 162, 3) := by decide +kernel
theorem dX11_findGoing_143 : decode cX11_findGoing 143 = .ok (.iload 5, 2) := by decide +kernel
theorem dX11_findGoing_145 : decode cX11_findGoing 145 = .ok (.iadd, 1) := by decide +kernel
theorem dX11_findGoing_146 : decode cX11_findGoing 146 = .ok (.iaload, 1) := by decide +kernel
theorem dX11_findGoing_147 : decode cX11_findGoing 147 = .ok (.aload_n 0, 1) := by decide +kernel
theorem dX11_findGoing_148 : decode cX11_findGoing 148 = .ok (.getfield 7, 3) := by decide +kernel
theorem dX11_findGoing_151 : decode cX11_findGoing 151 = .ok (.sipush 162, 3) := by decide +kernel
theorem dX11_findGoing_154 : decode cX11_findGoing 154 = .ok (.iload 4, 2) := by decide +kernel
theorem dX11_findGoing_156 : decode cX11_findGoing 156 = .ok (.iadd, 1) := by decide +kernel
theorem dX11_findGoing_157 : decode cX11_findGoing 157 = .ok (.iaload, 1) := by decide +kernel
theorem dX11_findGoing_158 : decode cX11_findGoing 158 = .ok (.if_icmp .ne 32, 3) := by decide +kernel
theorem dX11_findGoing_161 : decode cX11_findGoing 161 = .ok (.aload_n 0, 1) := by decide +kernel
theorem dX11_findGoing_162 : decode cX11_findGoing 162 = .ok (.getfield 7, 3) := by decide +kernel
theorem dX11_findGoing_165 : decode cX11_findGoing 165 = .ok (.sipush 306, 3) := by decide +kernel
theorem dX11_findGoing_168 : decode cX11_findGoing 168 = .ok (.iload 5, 2) := by decide +kernel
theorem dX11_findGoing_170 : decode cX11_findGoing 170 = .ok (.iadd, 1) := by decide +kernel
theorem dX11_findGoing_171 : decode cX11_findGoing 171 = .ok (.iaload, 1) := by decide +kernel
theorem dX11_findGoing_172 : decode cX11_findGoing 172 = .ok (.aload_n 0, 1) := by decide +kernel
theorem dX11_findGoing_173 : decode cX11_findGoing 173 = .ok (.getfield 7, 3) := by decide +kernel
theorem dX11_findGoing_176 : decode cX11_findGoing 176 = .ok (.sipush 306, 3) := by decide +kernel
theorem dX11_findGoing_179 : decode cX11_findGoing 179 = .ok (.iload 4, 2) := by decide +kernel
theorem dX11_findGoing_181 : decode cX11_findGoing 181 = .ok (.iadd, 1) := by decide +kernel
theorem dX11_findGoing_182 : decode cX11_findGoing 182 = .ok (.iaload, 1) := by decide +kernel
theorem dX11_findGoing_183 : decode cX11_findGoing 183 = .ok (.if_icmp .le 7, 3) := by decide +kernel
theorem dX11_findGoing_186 : decode cX11_findGoing 186 = .ok (.iconst 1, 1) := by decide +kernel
theorem dX11_findGoing_187 : decode cX11_findGoing 187 = .ok (.goto 4, 3) := by decide +kernel
theorem dX11_findGoing_190 : decode cX11_findGoing 190 = .ok (.iconst 0, 1) := by decide +kernel
theorem dX11_findGoing_191 : decode cX11_findGoing 191 = .ok (.istore 7, 2) := by decide +kernel
theorem dX11_findGoing_193 : decode cX11_findGoing 193 = .ok (.iload 7, 2) := by decide +kernel
theorem dX11_findGoing_195 : decode cX11_findGoing 195 = .ok (.ifCond .eq 8, 3) := by decide +kernel
theorem dX11_findGoing_198 : decode cX11_findGoing 198 = .ok (.iload 5, 2) := by decide +kernel
theorem dX11_findGoing_200 : decode cX11_findGoing 200 = .ok (.goto 5, 3) := by decide +kernel
theorem dX11_findGoing_203 : decode cX11_findGoing 203 = .ok (.iload 4, 2) := by decide +kernel
theorem dX11_findGoing_205 : decode cX11_findGoing 205 = .ok (.istore 4, 2) := by decide +kernel
theorem dX11_findGoing_207 : decode cX11_findGoing 207 = .ok (.iinc 5 1, 3) := by decide +kernel
theorem dX11_findGoing_210 : decode cX11_findGoing 210 = .ok (.goto (-175), 3) := by decide +kernel
theorem dX11_findGoing_213 : decode cX11_findGoing 213 = .ok (.iload 4, 2) := by decide +kernel
theorem dX11_findGoing_215 : decode cX11_findGoing 215 = .ok (.ifCond .ge 6, 3) := by decide +kernel
theorem dX11_findGoing_218 : decode cX11_findGoing 218 = .ok (.goto 94, 3) := by decide +kernel
theorem dX11_findGoing_221 : decode cX11_findGoing 221 = .ok (.aload_n 0, 1) := by decide +kernel
theorem dX11_findGoing_222 : decode cX11_findGoing 222 = .ok (.getfield 7, 3) := by decide +kernel
theorem dX11_findGoing_225 : decode cX11_findGoing 225 = .ok (.sipush 258, 3) := by decide +kernel
theorem dX11_findGoing_228 : decode cX11_findGoing 228 = .ok (.iload 4, 2) := by decide +kernel
theorem dX11_findGoing_230 : decode cX11_findGoing 230 = .ok (.iadd, 1) := by decide +kernel
theorem dX11_findGoing_231 : decode cX11_findGoing 231 = .ok (.iconst 0, 1) := by decide +kernel
theorem dX11_findGoing_232 : decode cX11_findGoing 232 = .ok (.iastore, 1) := by decide +kernel
theorem dX11_findGoing_233 : decode cX11_findGoing 233 = .ok (.aload_n 0, 1) := by decide +kernel
theorem dX11_findGoing_234 : decode cX11_findGoing 234 = .ok (.getfield 16, 3) := by decide +kernel
theorem dX11_findGoing_237 : decode cX11_findGoing 237 = .ok (.aload_n 0, 1) := by decide +kernel
theorem dX11_findGoing_238 : decode cX11_findGoing 238 = .ok (.getfield 106, 3) := by decide +kernel
theorem dX11_findGoing_241 : decode cX11_findGoing 241 = .ok (.iload 4, 2) := by decide +kernel
theorem dX11_findGoing_243 : decode cX11_findGoing 243 = .ok (.iastore, 1) := by decide +kernel
theorem dX11_findGoing_244 : decode cX11_findGoing 244 = .ok (.aload_n 0, 1) := by decide +kernel
theorem dX11_findGoing_245 : decode cX11_findGoing 245 = .ok (.dup, 1) := by decide +kernel
theorem dX11_findGoing_246 : decode cX11_findGoing 246 = .ok (.getfield 106, 3) := by decide +kernel
theorem dX11_findGoing_249 : decode cX11_findGoing 249 = .ok (.iconst 1, 1) := by decide +kernel
theorem dX11_findGoing_250 : decode cX11_findGoing 250 = .ok (.iadd, 1) := by decide +kernel
theorem dX11_findGoing_251 : decode cX11_findGoing 251 = .ok (.putfield 106, 3) := by decide +kernel
theorem dX11_findGoing_254 : decode cX11_findGoing 254 = .ok (.aload_n 0, 1) := by decide +kernel
theorem dX11_findGoing_255 : decode cX11_findGoing 255 = .ok (.aload_n 0, 1) := by decide +kernel
theorem dX11_findGoing_256 : decode cX11_findGoing 256 = .ok (.getfield 7, 3) := by decide +kernel
theorem dX11_findGoing_259 : decode cX11_findGoing 259 = .ok (.sipush 162, 3) := by decide +kernel
theorem dX11_findGoing_262 : decode cX11_findGoing 262 = .ok (.iload 4, 2) := by decide +kernel
theorem dX11_findGoing_264 : decode cX11_findGoing 264 = .ok (.iadd, 1) := by decide +kernel
theorem dX11_findGoing_265 : decode cX11_findGoing 265 = .ok (.iaload, 1) := by decide +kernel
theorem dX11_findGoing_266 : decode cX11_findGoing 266 = .ok (.aload_n 0, 1) := by decide +kernel
theorem dX11_findGoing_267 : decode cX11_findGoing 267 = .ok (.getfield 109, 3) := by decide +kernel
theorem dX11_findGoing_270 : decode cX11_findGoing 270 = .ok (.if_icmp .le 17, 3) := by decide +kernel
theorem dX11_findGoing_273 : decode cX11_findGoing 273 = .ok (.aload_n 0, 1) := by decide +kernel
theorem dX11_findGoing_274 : decode cX11_findGoing 274 = .ok (.getfield 7, 3) := by decide +kernel
theorem dX11_findGoing_277 : decode cX11_findGoing 277 = .ok (.sipush 162, 3) := by decide +kernel
theorem dX11_findGoing_280 : decode cX11_findGoing 280 = .ok (.iload 4, 2) := by decide +kernel
theorem dX11_findGoing_282 : decode cX11_findGoing 282 = .ok (.iadd, 1) := by decide +kernel
theorem dX11_findGoing_283 : decode cX11_findGoing 283 = .ok (.iaload, 1) := by decide +kernel
theorem dX11_findGoing_284 : decode cX11_findGoing 284 = .ok (.goto 7, 3) := by decide +kernel
theorem dX11_findGoing_287 : decode cX11_findGoing 287 = .ok (.aload_n 0, 1) := by decide +kernel
theorem dX11_findGoing_288 : decode cX11_findGoing 288 = .ok (.getfield 109, 3) := by decide +kernel
theorem dX11_findGoing_291 : decode cX11_findGoing 291 = .ok (.putfield 109, 3) := by decide +kernel
theorem dX11_findGoing_294 : decode cX11_findGoing 294 = .ok (.aload_n 0, 1) := by decide +kernel
theorem dX11_findGoing_295 : decode cX11_findGoing 295 = .ok (.iload_n 1, 1) := by decide +kernel
theorem dX11_findGoing_296 : decode cX11_findGoing 296 = .ok (.iload_n 2, 1) := by decide +kernel
theorem dX11_findGoing_297 : decode cX11_findGoing 297 = .ok (.invokevirtual 98, 3) := by decide +kernel
theorem dX11_findGoing_300 : decode cX11_findGoing 300 = .ok (.ifCond .ne 7, 3) := by decide +kernel
theorem dX11_findGoing_303 : decode cX11_findGoing 303 = .ok (.iconst 1, 1) := by decide +kernel
theorem dX11_findGoing_304 : decode cX11_findGoing 304 = .ok (.goto 4, 3) := by decide +kernel
theorem dX11_findGoing_307 : decode cX11_findGoing 307 = .ok (.iconst 0, 1) := by decide +kernel
theorem dX11_findGoing_308 : decode cX11_findGoing 308 = .ok (.istore_n 3, 1) := by decide +kernel
theorem dX11_findGoing_309 : decode cX11_findGoing 309 = .ok (.goto (-284), 3) := by decide +kernel
theorem dX11_findGoing_312 : decode cX11_findGoing 312 = .ok (.iconst 0, 1) := by decide +kernel
theorem dX11_findGoing_313 : decode cX11_findGoing 313 = .ok (.istore 4, 2) := by decide +kernel
theorem dX11_findGoing_315 : decode cX11_findGoing 315 = .ok (.iload 4, 2) := by decide +kernel
theorem dX11_findGoing_317 : decode cX11_findGoing 317 = .ok (.aload_n 0, 1) := by decide +kernel
theorem dX11_findGoing_318 : decode cX11_findGoing 318 = .ok (.getfield 106, 3) := by decide +kernel
theorem dX11_findGoing_321 : decode cX11_findGoing 321 = .ok (.if_icmp .ge 26, 3) := by decide +kernel
theorem dX11_findGoing_324 : decode cX11_findGoing 324 = .ok (.aload_n 0, 1) := by decide +kernel
theorem dX11_findGoing_325 : decode cX11_findGoing 325 = .ok (.getfield 7, 3) := by decide +kernel
theorem dX11_findGoing_328 : decode cX11_findGoing 328 = .ok (.sipush 258, 3) := by decide +kernel
theorem dX11_findGoing_331 : decode cX11_findGoing 331 = .ok (.aload_n 0, 1) := by decide +kernel
theorem dX11_findGoing_332 : decode cX11_findGoing 332 = .ok (.getfield 16, 3) := by decide +kernel
theorem dX11_findGoing_335 : decode cX11_findGoing 335 = .ok (.iload 4, 2) := by decide +kernel
theorem dX11_findGoing_337 : decode cX11_findGoing 337 = .ok (.iaload, 1) := by decide +kernel
theorem dX11_findGoing_338 : decode cX11_findGoing 338 = .ok (.iadd, 1) := by decide +kernel
theorem dX11_findGoing_339 : decode cX11_findGoing 339 = .ok (.iconst 1, 1) := by decide +kernel
theorem dX11_findGoing_340 : decode cX11_findGoing 340 = .ok (.iastore, 1) := by decide +kernel
theorem dX11_findGoing_341 : decode cX11_findGoing 341 = .ok (.iinc 4 1, 3) := by decide +kernel
theorem dX11_findGoing_344 : decode cX11_findGoing 344 = .ok (.goto (-29), 3) := by decide +kernel
theorem dX11_findGoing_347 : decode cX11_findGoing 347 = .ok (.iload_n 3, 1) := by decide +kernel
theorem dX11_findGoing_348 : decode cX11_findGoing 348 = .ok (.ireturn, 1) := by decide +kernel
theorem dX11_place_0 : decode cX11_place 0 = .ok (.aload_n 0, 1) := by decide +kernel
theorem dX11_place_1 : decode cX11_place 1 = .ok (.iload_n 1, 1) := by decide +kernel
theorem dX11_place_2 : decode cX11_place 2 = .ok (.invokevirtual 91, 3) := by decide +kernel
theorem dX11_place_5 : decode cX11_place 5 = .ok (.ifCond .ne 5, 3) := by decide +kernel
theorem dX11_place_8 : decode cX11_place 8 = .ok (.iconst (-1), 1) := by decide +kernel
theorem dX11_place_9 : decode cX11_place 9 = .ok (.ireturn, 1) := by decide +kernel
theorem dX11_place_10 : decode cX11_place 10 = .ok (.aload_n 0, 1) := by decide +kernel
theorem dX11_place_11 : decode cX11_place 11 = .ok (.getfield 7, 3) := by decide +kernel
theorem dX11_place_14 : decode cX11_place 14 = .ok (.sipush 258, 3) := by decide +kernel
theorem dX11_place_17 : decode cX11_place 17 = .ok (.iload_n 1, 1) := by decide +kernel
theorem dX11_place_18 : decode cX11_place 18 = .ok (.iadd, 1) := by decide +kernel
theorem dX11_place_19 : decode cX11_place 19 = .ok (.iaload, 1) := by decide +kernel
theorem dX11_place_20 : decode cX11_place 20 = .ok (.ifCond .ne 16, 3) := by decide +kernel
theorem dX11_place_23 : decode cX11_place 23 = .ok (.aload_n 0, 1) := by decide +kernel
theorem dX11_place_24 : decode cX11_place 24 = .ok (.getfield 7, 3) := by decide +kernel
theorem dX11_place_27 : decode cX11_place 27 = .ok (.bipush 66, 2) := by decide +kernel
theorem dX11_place_29 : decode cX11_place 29 = .ok (.iload_n 1, 1) := by decide +kernel
theorem dX11_place_30 : decode cX11_place 30 = .ok (.iadd, 1) := by decide +kernel
theorem dX11_place_31 : decode cX11_place 31 = .ok (.iaload, 1) := by decide +kernel
theorem dX11_place_32 : decode cX11_place 32 = .ok (.iconst 2, 1) := by decide +kernel
theorem dX11_place_33 : decode cX11_place 33 = .ok (.if_icmp .ne 6, 3) := by decide +kernel
theorem dX11_place_36 : decode cX11_place 36 = .ok (.bipush (-2), 2) := by decide +kernel
theorem dX11_place_38 : decode cX11_place 38 = .ok (.ireturn, 1) := by decide +kernel
theorem dX11_place_39 : decode cX11_place 39 = .ok (.aload_n 0, 1) := by decide +kernel
theorem dX11_place_40 : decode cX11_place 40 = .ok (.iload_n 1, 1) := by decide +kernel
theorem dX11_place_41 : decode cX11_place 41 = .ok (.invokevirtual 112, 3) := by decide +kernel
theorem dX11_place_44 : decode cX11_place 44 = .ok (.istore_n 2, 1) := by decide +kernel
theorem dX11_place_45 : decode cX11_place 45 = .ok (.iload_n 2, 1) := by decide +kernel
theorem dX11_place_46 : decode cX11_place 46 = .ok (.ifCond .lt 20, 3) := by decide +kernel
theorem dX11_place_49 : decode cX11_place 49 = .ok (.aload_n 0, 1) := by decide +kernel
theorem dX11_place_50 : decode cX11_place 50 = .ok (.invokevirtual 61, 3) := by decide +kernel
theorem dX11_place_53 : decode cX11_place 53 = .ok (.aload_n 0, 1) := by decide +kernel
theorem dX11_place_54 : decode cX11_place 54 = .ok (.iload_n 1, 1) := by decide +kernel
theorem dX11_place_55 : decode cX11_place 55 = .ok (.iload_n 2, 1) := by decide +kernel
theorem dX11_place_56 : decode cX11_place 56 = .ok (.invokevirtual 116, 3) := by decide +kernel
theorem dX11_place_59 : decode cX11_place 59 = .ok (.aload_n 0, 1) := by decide +kernel
theorem dX11_place_60 : decode cX11_place 60 = .ok (.iconst 0, 1) := by decide +kernel
theorem dX11_place_61 : decode cX11_place 61 = .ok (.putfield 120, 3) := by decide +kernel
theorem dX11_place_64 : decode cX11_place 64 = .ok (.iload_n 2, 1) := by decide +kernel
theorem dX11_place_65 : decode cX11_place 65 = .ok (.ireturn, 1) := by decide +kernel
theorem dX11_place_66 : decode cX11_place 66 = .ok (.iconst 0, 1) := by decide +kernel
theorem dX11_place_67 : decode cX11_place 67 = .ok (.istore_n 3, 1) := by decide +kernel
theorem dX11_place_68 : decode cX11_place 68 = .ok (.iconst 0, 1) := by decide +kernel
theorem dX11_place_69 : decode cX11_place 69 = .ok (.istore 4, 2) := by decide +kernel
theorem dX11_place_71 : decode cX11_place 71 = .ok (.iconst 0, 1) := by decide +kernel
theorem dX11_place_72 : decode cX11_place 72 = .ok (.istore 5, 2) := by decide +kernel
theorem dX11_place_74 : decode cX11_place 74 = .ok (.iload 5, 2) := by decide +kernel
theorem dX11_place_76 : decode cX11_place 76 = .ok (.aload_n 0, 1) := by decide +kernel
theorem dX11_place_77 : decode cX11_place 77 = .ok (.getfield 7, 3) := by decide +kernel
theorem dX11_place_80 : decode cX11_place 80 = .ok (.iconst 0, 1) := by decide +kernel
theorem dX11_place_81 : decode cX11_place 81 = .ok (.iaload, 1) := by decide +kernel
theorem dX11_place_82 : decode cX11_place 82 = .ok (.if_icmp .ge 75, 3) := by decide +kernel
theorem dX11_place_85 : decode cX11_place 85 = .ok (.aload_n 0, 1) := by decide +kernel
theorem dX11_place_86 : decode cX11_place 86 = .ok (.getfield 7, 3) := by decide +kernel
theorem dX11_place_89 : decode cX11_place 89 = .ok (.bipush 66, 2) := by decide +kernel
theorem dX11_place_91 : decode cX11_place 91 = .ok (.iload_n 1, 1) := by decide +kernel
theorem dX11_place_92 : decode cX11_place 92 = .ok (.iadd, 1) := by decide +kernel
theorem dX11_place_93 : decode cX11_place 93 = .ok (.iaload, 1) := by decide +kernel
theorem dX11_place_94 : decode cX11_place 94 = .ok (.iconst 3, 1) := by decide +kernel
theorem dX11_place_95 : decode cX11_place 95 = .ok (.if_icmp .eq 62, 3) := by decide +kernel
theorem dX11_place_98 : decode cX11_place 98 = .ok (.aload_n 0, 1) := by decide +kernel
theorem dX11_place_99 : decode cX11_place 99 = .ok (.iload_n 1, 1) := by decide +kernel
theorem dX11_place_100 : decode cX11_place 100 = .ok (.iload 5, 2) := by decide +kernel
theorem dX11_place_102 : decode cX11_place 102 = .ok (.invokevirtual 123, 3) := by decide +kernel
theorem dX11_place_105 : decode cX11_place 105 = .ok (.ifCond .eq 46, 3) := by decide +kernel
theorem dX11_place_108 : decode cX11_place 108 = .ok (.iload_n 2, 1) := by decide +kernel
theorem dX11_place_109 : decode cX11_place 109 = .ok (.ifCond .lt 28, 3) := by decide +kernel
theorem dX11_place_112 : decode cX11_place 112 = .ok (.aload_n 0, 1) := by decide +kernel
theorem dX11_place_113 : decode cX11_place 113 = .ok (.getfield 109, 3) := by decide +kernel
theorem dX11_place_116 : decode cX11_place 116 = .ok (.iload_n 3, 1) := by decide +kernel
theorem dX11_place_117 : decode cX11_place 117 = .ok (.if_icmp .lt 20, 3) := by decide +kernel
theorem dX11_place_120 : decode cX11_place 120 = .ok (.aload_n 0, 1) := by decide +kernel
theorem dX11_place_121 : decode cX11_place 121 = .ok (.getfield 109, 3) := by decide +kernel
theorem dX11_place_124 : decode cX11_place 124 = .ok (.iload_n 3, 1) := by decide +kernel
theorem dX11_place_125 : decode cX11_place 125 = .ok (.if_icmp .ne 26, 3) := by decide +kernel
theorem dX11_place_128 : decode cX11_place 128 = .ok (.aload_n 0, 1) := by decide +kernel
theorem dX11_place_129 : decode cX11_place 129 = .ok (.getfield 106, 3) := by decide +kernel
theorem dX11_place_132 : decode cX11_place 132 = .ok (.iload 4, 2) := by decide +kernel
theorem dX11_place_134 : decode cX11_place 134 = .ok (.if_icmp .ge 17, 3) := by decide +kernel
theorem dX11_place_137 : decode cX11_place 137 = .ok (.iload 5, 2) := by decide +kernel
theorem dX11_place_139 : decode cX11_place 139 = .ok (.istore_n 2, 1) := by decide +kernel
theorem dX11_place_140 : decode cX11_place 140 = .ok (.aload_n 0, 1) := by decide +kernel
theorem dX11_place_141 : decode cX11_place 141 = .ok (.getfield 109, 3) := by decide +kernel
theorem dX11_place_144 : decode cX11_place 144 = .ok (.istore_n 3, 1) := by decide +kernel
theorem dX11_place_145 : decode cX11_place 145 = .ok (.aload_n 0, 1) := by decide +kernel
theorem dX11_place_146 : decode cX11_place 146 = .ok (.getfield 106, 3) := by decide +kernel
theorem dX11_place_149 : decode cX11_place 149 = .ok (.istore 4, 2) := by decide +kernel
theorem dX11_place_151 : decode cX11_place 151 = .ok (.iinc 5 1, 3) := by decide +kernel
theorem dX11_place_154 : decode cX11_place 154 = .ok (.goto (-80), 3) := by decide +kernel
theorem dX11_place_157 : decode cX11_place 157 = .ok (.iload_n 2, 1) := by decide +kernel
theorem dX11_place_158 : decode cX11_place 158 = .ok (.ifCond .ge 6, 3) := by decide +kernel
theorem dX11_place_161 : decode cX11_place 161 = .ok (.bipush (-3), 2) := by decide +kernel
theorem dX11_place_163 : decode cX11_place 163 = .ok (.ireturn, 1) := by decide +kernel
theorem dX11_place_164 : decode cX11_place 164 = .ok (.aload_n 0, 1) := by decide +kernel
theorem dX11_place_165 : decode cX11_place 165 = .ok (.invokevirtual 61, 3) := by decide +kernel
theorem dX11_place_168 : decode cX11_place 168 = .ok (.aload_n 0, 1) := by decide +kernel
theorem dX11_place_169 : decode cX11_place 169 = .ok (.iload_n 1, 1) := by decide +kernel
theorem dX11_place_170 : decode cX11_place 170 = .ok (.iload_n 2, 1) := by decide +kernel
theorem dX11_place_171 : decode cX11_place 171 = .ok (.invokevirtual 123, 3) := by decide +kernel
theorem dX11_place_174 : decode cX11_place 174 = .ok (.istore 5, 2) := by decide +kernel
theorem dX11_place_176 : decode cX11_place 176 = .ok (.iconst 0, 1) := by decide +kernel
theorem dX11_place_177 : decode cX11_place 177 = .ok (.istore 6, 2) := by decide +kernel
theorem dX11_place_179 : decode cX11_place 179 = .ok (.iload 6, 2) := by decide +kernel
theorem dX11_place_181 : decode cX11_place 181 = .ok (.aload_n 0, 1) := by decide +kernel
theorem dX11_place_182 : decode cX11_place 182 = .ok (.getfield 106, 3) := by decide +kernel
theorem dX11_place_185 : decode cX11_place 185 = .ok (.if_icmp .ge 26, 3) := by decide +kernel
theorem dX11_place_188 : decode cX11_place 188 = .ok (.aload_n 0, 1) := by decide +kernel
theorem dX11_place_189 : decode cX11_place 189 = .ok (.getfield 7, 3) := by decide +kernel
theorem dX11_place_192 : decode cX11_place 192 = .ok (.sipush 258, 3) := by decide +kernel
theorem dX11_place_195 : decode cX11_place 195 = .ok (.aload_n 0, 1) := by decide +kernel
theorem dX11_place_196 : decode cX11_place 196 = .ok (.getfield 16, 3) := by decide +kernel
theorem dX11_place_199 : decode cX11_place 199 = .ok (.iload 6, 2) := by decide +kernel
theorem dX11_place_201 : decode cX11_place 201 = .ok (.iaload, 1) := by decide +kernel
theorem dX11_place_202 : decode cX11_place 202 = .ok (.iadd, 1) := by decide +kernel
theorem dX11_place_203 : decode cX11_place 203 = .ok (.iconst 0, 1) := by decide +kernel
theorem dX11_place_204 : decode cX11_place 204 = .ok (.iastore, 1) := by decide +kernel
theorem dX11_place_205 : decode cX11_place 205 = .ok (.iinc 6 1, 3) := by decide +kernel
theorem dX11_place_208 : decode cX11_place 208 = .ok (.goto (-29), 3) := by decide +kernel
theorem dX11_place_211 : decode cX11_place 211 = .ok (.aload_n 0, 1) := by decide +kernel
theorem dX11_place_212 : decode cX11_place 212 = .ok (.iload_n 1, 1) := by decide +kernel
theorem dX11_place_213 : decode cX11_place 213 = .ok (.iload_n 2, 1) := by decide +kernel
theorem dX11_place_214 : decode cX11_place 214 = .ok (.invokevirtual 116, 3) := by decide +kernel
theorem dX11_place_217 : decode cX11_place 217 = .ok (.aload_n 0, 1) := by decide +kernel
theorem dX11_place_218 : decode cX11_place 218 = .ok (.aload_n 0, 1) := by decide +kernel
theorem dX11_place_219 : decode cX11_place 219 = .ok (.getfield 106, 3) := by decide +kernel
theorem dX11_place_222 : decode cX11_place 222 = .ok (.putfield 120, 3) := by decide +kernel
theorem dX11_place_225 : decode cX11_place 225 = .ok (.iload_n 2, 1) := by decide +kernel
theorem dX11_place_226 : decode cX11_place 226 = .ok (.ireturn, 1) := by decide +kernel
theorem dX11_gone_0 : decode cX11_gone 0 = .ok (.aload_n 0, 1) := by decide +kernel
theorem dX11_gone_1 : decode cX11_gone 1 = .ok (.getfield 120, 3) := by decide +kernel
theorem dX11_gone_4 : decode cX11_gone 4 = .ok (.ireturn, 1) := by decide +kernel
theorem dX11_gang_0 : decode cX11_gang 0 = .ok (.iload_n 1, 1) := by decide +kernel
theorem dX11_gang_1 : decode cX11_gang 1 = .ok (.iconst 0, 1) := by decide +kernel
theorem dX11_gang_2 : decode cX11_gang 2 = .ok (.bipush 7, 2) := by decide +kernel
theorem dX11_gang_4 : decode cX11_gang 4 = .ok (.invokestatic 50, 3) := by decide +kernel
theorem dX11_gang_7 : decode cX11_gang 7 = .ok (.ifCond .ne 5, 3) := by decide +kernel
theorem dX11_gang_10 : decode cX11_gang 10 = .ok (.iconst (-1), 1) := by decide +kernel
theorem dX11_gang_11 : decode cX11_gang 11 = .ok (.ireturn, 1) := by decide +kernel
theorem dX11_gang_12 : decode cX11_gang 12 = .ok (.iconst 0, 1) := by decide +kernel
theorem dX11_gang_13 : decode cX11_gang 13 = .ok (.istore_n 2, 1) := by decide +kernel
theorem dX11_gang_14 : decode cX11_gang 14 = .ok (.iconst 0, 1) := by decide +kernel
theorem dX11_gang_15 : decode cX11_gang 15 = .ok (.istore_n 3, 1) := by decide +kernel
theorem dX11_gang_16 : decode cX11_gang 16 = .ok (.iload_n 3, 1) := by decide +kernel
theorem dX11_gang_17 : decode cX11_gang 17 = .ok (.aload_n 0, 1) := by decide +kernel
theorem dX11_gang_18 : decode cX11_gang 18 = .ok (.getfield 7, 3) := by decide +kernel
theorem dX11_gang_21 : decode cX11_gang 21 = .ok (.iconst 1, 1) := by decide +kernel
theorem dX11_gang_22 : decode cX11_gang 22 = .ok (.iaload, 1) := by decide +kernel
theorem dX11_gang_23 : decode cX11_gang 23 = .ok (.if_icmp .ge 57, 3) := by decide +kernel
theorem dX11_gang_26 : decode cX11_gang 26 = .ok (.iload_n 2, 1) := by decide +kernel
theorem dX11_gang_27 : decode cX11_gang 27 = .ok (.aload_n 0, 1) := by decide +kernel
theorem dX11_gang_28 : decode cX11_gang 28 = .ok (.getfield 7, 3) := by decide +kernel
theorem dX11_gang_31 : decode cX11_gang 31 = .ok (.bipush 66, 2) := by decide +kernel
theorem dX11_gang_33 : decode cX11_gang 33 = .ok (.iload_n 3, 1) := by decide +kernel
theorem dX11_gang_34 : decode cX11_gang 34 = .ok (.iadd, 1) := by decide +kernel
theorem dX11_gang_35 : decode cX11_gang 35 = .ok (.iaload, 1) := by decide +kernel
theorem dX11_gang_36 : decode cX11_gang 36 = .ok (.iconst 2, 1) := by decide +kernel
theorem dX11_gang_37 : decode cX11_gang 37 = .ok (.if_icmp .ne 34, 3) := by decide +kernel
theorem dX11_gang_40 : decode cX11_gang 40 = .ok (.aload_n 0, 1) := by decide +kernel
theorem dX11_gang_41 : decode cX11_gang 41 = .ok (.getfield 7, 3) := by decide +kernel
theorem dX11_gang_44 : decode cX11_gang 44 = .ok (.sipush 186, 3) := by decide +kernel
theorem dX11_gang_47 : decode cX11_gang 47 = .ok (.iload_n 3, 1) := by decide +kernel
theorem dX11_gang_48 : decode cX11_gang 48 = .ok (.iadd, 1) := by decide +kernel
theorem dX11_gang_49 : decode cX11_gang 49 = .ok (.iaload, 1) := by decide +kernel
theorem dX11_gang_50 : decode cX11_gang 50 = .ok (.iload_n 1, 1) := by decide +kernel
theorem dX11_gang_51 : decode cX11_gang 51 = .ok (.if_icmp .ne 20, 3) := by decide +kernel
theorem dX11_gang_54 : decode cX11_gang 54 = .ok (.aload_n 0, 1) := by decide +kernel
theorem dX11_gang_55 : decode cX11_gang 55 = .ok (.getfield 7, 3) := by decide +kernel
theorem dX11_gang_58 : decode cX11_gang 58 = .ok (.sipush 258, 3) := by decide +kernel
theorem dX11_gang_61 : decode cX11_gang 61 = .ok (.iload_n 3, 1) := by decide +kernel
theorem dX11_gang_62 : decode cX11_gang 62 = .ok (.iadd, 1) := by decide +kernel
theorem dX11_gang_63 : decode cX11_gang 63 = .ok (.iaload, 1) := by decide +kernel
theorem dX11_gang_64 : decode cX11_gang 64 = .ok (.ifCond .ne 7, 3) := by decide +kernel
theorem dX11_gang_67 : decode cX11_gang 67 = .ok (.iconst 1, 1) := by decide +kernel
theorem dX11_gang_68 : decode cX11_gang 68 = .ok (.goto 4, 3) := by decide +kernel
theorem dX11_gang_71 : decode cX11_gang 71 = .ok (.iconst 0, 1) := by decide +kernel
theorem dX11_gang_72 : decode cX11_gang 72 = .ok (.iadd, 1) := by decide +kernel
theorem dX11_gang_73 : decode cX11_gang 73 = .ok (.istore_n 2, 1) := by decide +kernel
theorem dX11_gang_74 : decode cX11_gang 74 = .ok (.iinc 3 1, 3) := by decide +kernel
theorem dX11_gang_77 : decode cX11_gang 77 = .ok (.goto (-61), 3) := by decide +kernel
theorem dX11_gang_80 : decode cX11_gang 80 = .ok (.iload_n 2, 1) := by decide +kernel
theorem dX11_gang_81 : decode cX11_gang 81 = .ok (.ifCond .ne 6, 3) := by decide +kernel
theorem dX11_gang_84 : decode cX11_gang 84 = .ok (.bipush (-2), 2) := by decide +kernel
theorem dX11_gang_86 : decode cX11_gang 86 = .ok (.ireturn, 1) := by decide +kernel
theorem dX11_gang_87 : decode cX11_gang 87 = .ok (.aload_n 0, 1) := by decide +kernel
theorem dX11_gang_88 : decode cX11_gang 88 = .ok (.invokevirtual 126, 3) := by decide +kernel
theorem dX11_gang_91 : decode cX11_gang 91 = .ok (.iconst 1, 1) := by decide +kernel
theorem dX11_gang_92 : decode cX11_gang 92 = .ok (.istore_n 3, 1) := by decide +kernel
theorem dX11_gang_93 : decode cX11_gang 93 = .ok (.iconst 0, 1) := by decide +kernel
theorem dX11_gang_94 : decode cX11_gang 94 = .ok (.istore 4, 2) := by decide +kernel
theorem dX11_gang_96 : decode cX11_gang 96 = .ok (.iload 4, 2) := by decide +kernel
theorem dX11_gang_98 : decode cX11_gang 98 = .ok (.aload_n 0, 1) := by decide +kernel
theorem dX11_gang_99 : decode cX11_gang 99 = .ok (.getfield 7, 3) := by decide +kernel
theorem dX11_gang_102 : decode cX11_gang 102 = .ok (.iconst 1, 1) := by decide +kernel
theorem dX11_gang_103 : decode cX11_gang 103 = .ok (.iaload, 1) := by decide +kernel
theorem dX11_gang_104 : decode cX11_gang 104 = .ok (.if_icmp .ge 87, 3) := by decide +kernel
theorem dX11_gang_107 : decode cX11_gang 107 = .ok (.iload_n 3, 1) := by decide +kernel
theorem dX11_gang_108 : decode cX11_gang 108 = .ok (.ifCond .eq 83, 3) := by decide +kernel
theorem dX11_gang_111 : decode cX11_gang 111 = .ok (.aload_n 0, 1) := by decide +kernel
theorem dX11_gang_112 : decode cX11_gang 112 = .ok (.getfield 7, 3) := by decide +kernel
theorem dX11_gang_115 : decode cX11_gang 115 = .ok (.bipush 66, 2) := by decide +kernel
theorem dX11_gang_117 : decode cX11_gang 117 = .ok (.iload 4, 2) := by decide +kernel
theorem dX11_gang_119 : decode cX11_gang 119 = .ok (.iadd, 1) := by decide +kernel
theorem dX11_gang_120 : decode cX11_gang 120 = .ok (.iaload, 1) := by decide +kernel
theorem dX11_gang_121 : decode cX11_gang 121 = .ok (.iconst 2, 1) := by decide +kernel
theorem dX11_gang_122 : decode cX11_gang 122 = .ok (.if_icmp .ne 63, 3) := by decide +kernel
theorem dX11_gang_125 : decode cX11_gang 125 = .ok (.aload_n 0, 1) := by decide +kernel
theorem dX11_gang_126 : decode cX11_gang 126 = .ok (.getfield 7, 3) := by decide +kernel
theorem dX11_gang_129 : decode cX11_gang 129 = .ok (.sipush 186, 3) := by decide +kernel
theorem dX11_gang_132 : decode cX11_gang 132 = .ok (.iload 4, 2) := by decide +kernel
theorem dX11_gang_134 : decode cX11_gang 134 = .ok (.iadd, 1) := by decide +kernel
theorem dX11_gang_135 : decode cX11_gang 135 = .ok (.iaload, 1) := by decide +kernel
theorem dX11_gang_136 : decode cX11_gang 136 = .ok (.iload_n 1, 1) := by decide +kernel
theorem dX11_gang_137 : decode cX11_gang 137 = .ok (.if_icmp .ne 48, 3) := by decide +kernel
theorem dX11_gang_140 : decode cX11_gang 140 = .ok (.aload_n 0, 1) := by decide +kernel
theorem dX11_gang_141 : decode cX11_gang 141 = .ok (.getfield 7, 3) := by decide +kernel
theorem dX11_gang_144 : decode cX11_gang 144 = .ok (.sipush 258, 3) := by decide +kernel
theorem dX11_gang_147 : decode cX11_gang 147 = .ok (.iload 4, 2) := by decide +kernel
theorem dX11_gang_149 : decode cX11_gang 149 = .ok (.iadd, 1) := by decide +kernel
theorem dX11_gang_150 : decode cX11_gang 150 = .ok (.iaload, 1) := by decide +kernel
theorem dX11_gang_151 : decode cX11_gang 151 = .ok (.ifCond .ne 34, 3) := by decide +kernel
theorem dX11_gang_154 : decode cX11_gang 154 = .ok (.aload_n 0, 1) := by decide +kernel
theorem dX11_gang_155 : decode cX11_gang 155 = .ok (.iload 4, 2) := by decide +kernel
theorem dX11_gang_157 : decode cX11_gang 157 = .ok (.invokevirtual 112, 3) := by decide +kernel
theorem dX11_gang_160 : decode cX11_gang 160 = .ok (.istore 5, 2) := by decide +kernel
theorem dX11_gang_162 : decode cX11_gang 162 = .ok (.iload 5, 2) := by decide +kernel
theorem dX11_gang_164 : decode cX11_gang 164 = .ok (.ifCond .lt 7, 3) := by decide +kernel
theorem dX11_gang_167 : decode cX11_gang 167 = .ok (.iconst 1, 1) := by decide +kernel
theorem dX11_gang_168 : decode cX11_gang 168 = .ok (.goto 4, 3) := by decide +kernel
theorem dX11_gang_171 : decode cX11_gang 171 = .ok (.iconst 0, 1) := by decide +kernel
theorem dX11_gang_172 : decode cX11_gang 172 = .ok (.istore_n 3, 1) := by decide +kernel
theorem dX11_gang_173 : decode cX11_gang 173 = .ok (.iload_n 3, 1) := by decide +kernel
theorem dX11_gang_174 : decode cX11_gang 174 = .ok (.ifCond .eq 11, 3) := by decide +kernel
theorem dX11_gang_177 : decode cX11_gang 177 = .ok (.aload_n 0, 1) := by decide +kernel
theorem dX11_gang_178 : decode cX11_gang 178 = .ok (.iload 4, 2) := by decide +kernel
theorem dX11_gang_180 : decode cX11_gang 180 = .ok (.iload 5, 2) := by decide +kernel
theorem dX11_gang_182 : decode cX11_gang 182 = .ok (.invokevirtual 116, 3) := by decide +kernel
theorem dX11_gang_185 : decode cX11_gang 185 = .ok (.iinc 4 1, 3) := by decide +kernel
theorem dX11_gang_188 : decode cX11_gang 188 = .ok (.goto (-92), 3) := by decide +kernel
theorem dX11_gang_191 : decode cX11_gang 191 = .ok (.iload_n 3, 1) := by decide +kernel
theorem dX11_gang_192 : decode cX11_gang 192 = .ok (.ifCond .ne 10, 3) := by decide +kernel
theorem dX11_gang_195 : decode cX11_gang 195 = .ok (.aload_n 0, 1) := by decide +kernel
theorem dX11_gang_196 : decode cX11_gang 196 = .ok (.invokevirtual 129, 3) := by decide +kernel
theorem dX11_gang_199 : decode cX11_gang 199 = .ok (.bipush (-3), 2) := by decide +kernel
theorem dX11_gang_201 : decode cX11_gang 201 = .ok (.ireturn, 1) := by decide +kernel
theorem dX11_gang_202 : decode cX11_gang 202 = .ok (.aload_n 0, 1) := by decide +kernel
theorem dX11_gang_203 : decode cX11_gang 203 = .ok (.invokevirtual 132, 3) := by decide +kernel
theorem dX11_gang_206 : decode cX11_gang 206 = .ok (.iload_n 2, 1) := by decide +kernel
theorem dX11_gang_207 : decode cX11_gang 207 = .ok (.ireturn, 1) := by decide +kernel
theorem dX11_keepSpare_0 : decode cX11_keepSpare 0 = .ok (.iconst 0, 1) := by decide +kernel
theorem dX11_keepSpare_1 : decode cX11_keepSpare 1 = .ok (.istore_n 1, 1) := by decide +kernel
theorem dX11_keepSpare_2 : decode cX11_keepSpare 2 = .ok (.iload_n 1, 1) := by decide +kernel
theorem dX11_keepSpare_3 : decode cX11_keepSpare 3 = .ok (.sipush 354, 3) := by decide +kernel
theorem dX11_keepSpare_6 : decode cX11_keepSpare 6 = .ok (.if_icmp .ge 21, 3) := by decide +kernel
theorem dX11_keepSpare_9 : decode cX11_keepSpare 9 = .ok (.aload_n 0, 1) := by decide +kernel
theorem dX11_keepSpare_10 : decode cX11_keepSpare 10 = .ok (.getfield 19, 3) := by decide +kernel
theorem dX11_keepSpare_13 : decode cX11_keepSpare 13 = .ok (.iload_n 1, 1) := by decide +kernel
theorem dX11_keepSpare_14 : decode cX11_keepSpare 14 = .ok (.aload_n 0, 1) := by decide +kernel
theorem dX11_keepSpare_15 : decode cX11_keepSpare 15 = .ok (.getfield 7, 3) := by decide +kernel
theorem dX11_keepSpare_18 : decode cX11_keepSpare 18 = .ok (.iload_n 1, 1) := by decide +kernel
theorem dX11_keepSpare_19 : decode cX11_keepSpare 19 = .ok (.iaload, 1) := by decide +kernel
theorem dX11_keepSpare_20 : decode cX11_keepSpare 20 = .ok (.iastore, 1) := by decide +kernel
theorem dX11_keepSpare_21 : decode cX11_keepSpare 21 = .ok (.iinc 1 1, 3) := by decide +kernel
theorem dX11_keepSpare_24 : decode cX11_keepSpare 24 = .ok (.goto (-22), 3) := by decide +kernel
theorem dX11_keepSpare_27 : decode cX11_keepSpare 27 = .ok (.return_, 1) := by decide +kernel
theorem dX11_backSpare_0 : decode cX11_backSpare 0 = .ok (.iconst 0, 1) := by decide +kernel
theorem dX11_backSpare_1 : decode cX11_backSpare 1 = .ok (.istore_n 1, 1) := by decide +kernel
theorem dX11_backSpare_2 : decode cX11_backSpare 2 = .ok (.iload_n 1, 1) := by decide +kernel
theorem dX11_backSpare_3 : decode cX11_backSpare 3 = .ok (.sipush 354, 3) := by decide +kernel
theorem dX11_backSpare_6 : decode cX11_backSpare 6 = .ok (.if_icmp .ge 21, 3) := by decide +kernel
theorem dX11_backSpare_9 : decode cX11_backSpare 9 = .ok (.aload_n 0, 1) := by decide +kernel
theorem dX11_backSpare_10 : decode cX11_backSpare 10 = .ok (.getfield 7, 3) := by decide +kernel
theorem dX11_backSpare_13 : decode cX11_backSpare 13 = .ok (.iload_n 1, 1) := by decide +kernel
theorem dX11_backSpare_14 : decode cX11_backSpare 14 = .ok (.aload_n 0, 1) := by decide +kernel
theorem dX11_backSpare_15 : decode cX11_backSpare 15 = .ok (.getfield 19, 3) := by decide +kernel
theorem dX11_backSpare_18 : decode cX11_backSpare 18 = .ok (.iload_n 1, 1) := by decide +kernel
theorem dX11_backSpare_19 : decode cX11_backSpare 19 = .ok (.iaload, 1) := by decide +kernel
theorem dX11_backSpare_20 : decode cX11_backSpare 20 = .ok (.iastore, 1) := by decide +kernel
theorem dX11_backSpare_21 : decode cX11_backSpare 21 = .ok (.iinc 1 1, 3) := by decide +kernel
theorem dX11_backSpare_24 : decode cX11_backSpare 24 = .ok (.goto (-22), 3) := by decide +kernel
theorem dX11_backSpare_27 : decode cX11_backSpare 27 = .ok (.return_, 1) := by decide +kernel
theorem dX11_swapSpare_0 : decode cX11_swapSpare 0 = .ok (.iconst 0, 1) := by decide +kernel
theorem dX11_swapSpare_1 : decode cX11_swapSpare 1 = .ok (.istore_n 1, 1) := by decide +kernel
theorem dX11_swapSpare_2 : decode cX11_swapSpare 2 = .ok (.iload_n 1, 1) := by decide +kernel
theorem dX11_swapSpare_3 : decode cX11_swapSpare 3 = .ok (.sipush 354, 3) := by decide +kernel
theorem dX11_swapSpare_6 : decode cX11_swapSpare 6 = .ok (.if_icmp .ge 35, 3) := by decide +kernel
theorem dX11_swapSpare_9 : decode cX11_swapSpare 9 = .ok (.aload_n 0, 1) := by decide +kernel
theorem dX11_swapSpare_10 : decode cX11_swapSpare 10 = .ok (.getfield 7, 3) := by decide +kernel
theorem dX11_swapSpare_13 : decode cX11_swapSpare 13 = .ok (.iload_n 1, 1) := by decide +kernel
theorem dX11_swapSpare_14 : decode cX11_swapSpare 14 = .ok (.iaload, 1) := by decide +kernel
theorem dX11_swapSpare_15 : decode cX11_swapSpare 15 = .ok (.istore_n 2, 1) := by decide +kernel
theorem dX11_swapSpare_16 : decode cX11_swapSpare 16 = .ok (.aload_n 0, 1) := by decide +kernel
theorem dX11_swapSpare_17 : decode cX11_swapSpare 17 = .ok (.getfield 7, 3) := by decide +kernel
theorem dX11_swapSpare_20 : decode cX11_swapSpare 20 = .ok (.iload_n 1, 1) := by decide +kernel
theorem dX11_swapSpare_21 : decode cX11_swapSpare 21 = .ok (.aload_n 0, 1) := by decide +kernel
theorem dX11_swapSpare_22 : decode cX11_swapSpare 22 = .ok (.getfield 19, 3) := by decide +kernel
theorem dX11_swapSpare_25 : decode cX11_swapSpare 25 = .ok (.iload_n 1, 1) := by decide +kernel
theorem dX11_swapSpare_26 : decode cX11_swapSpare 26 = .ok (.iaload, 1) := by decide +kernel
theorem dX11_swapSpare_27 : decode cX11_swapSpare 27 = .ok (.iastore, 1) := by decide +kernel
theorem dX11_swapSpare_28 : decode cX11_swapSpare 28 = .ok (.aload_n 0, 1) := by decide +kernel
theorem dX11_swapSpare_29 : decode cX11_swapSpare 29 = .ok (.getfield 19, 3) := by decide +kernel
theorem dX11_swapSpare_32 : decode cX11_swapSpare 32 = .ok (.iload_n 1, 1) := by decide +kernel
theorem dX11_swapSpare_33 : decode cX11_swapSpare 33 = .ok (.iload_n 2, 1) := by decide +kernel
theorem dX11_swapSpare_34 : decode cX11_swapSpare 34 = .ok (.iastore, 1) := by decide +kernel
theorem dX11_swapSpare_35 : decode cX11_swapSpare 35 = .ok (.iinc 1 1, 3) := by decide +kernel
theorem dX11_swapSpare_38 : decode cX11_swapSpare 38 = .ok (.goto (-36), 3) := by decide +kernel
theorem dX11_swapSpare_41 : decode cX11_swapSpare 41 = .ok (.aload_n 0, 1) := by decide +kernel
theorem dX11_swapSpare_42 : decode cX11_swapSpare 42 = .ok (.invokevirtual 61, 3) := by decide +kernel
theorem dX11_swapSpare_45 : decode cX11_swapSpare 45 = .ok (.aload_n 0, 1) := by decide +kernel
theorem dX11_swapSpare_46 : decode cX11_swapSpare 46 = .ok (.invokevirtual 129, 3) := by decide +kernel
theorem dX11_swapSpare_49 : decode cX11_swapSpare 49 = .ok (.return_, 1) := by decide +kernel
theorem dX11_end_0 : decode cX11_end 0 = .ok (.aload_n 0, 1) := by decide +kernel
theorem dX11_end_1 : decode cX11_end 1 = .ok (.iload_n 1, 1) := by decide +kernel
theorem dX11_end_2 : decode cX11_end 2 = .ok (.invokevirtual 91, 3) := by decide +kernel
theorem dX11_end_5 : decode cX11_end 5 = .ok (.ifCond .ne 5, 3) := by decide +kernel
theorem dX11_end_8 : decode cX11_end 8 = .ok (.iconst (-1), 1) := by decide +kernel
theorem dX11_end_9 : decode cX11_end 9 = .ok (.ireturn, 1) := by decide +kernel
theorem dX11_end_10 : decode cX11_end 10 = .ok (.aload_n 0, 1) := by decide +kernel
theorem dX11_end_11 : decode cX11_end 11 = .ok (.getfield 7, 3) := by decide +kernel
theorem dX11_end_14 : decode cX11_end 14 = .ok (.sipush 258, 3) := by decide +kernel
theorem dX11_end_17 : decode cX11_end 17 = .ok (.iload_n 1, 1) := by decide +kernel
theorem dX11_end_18 : decode cX11_end 18 = .ok (.iadd, 1) := by decide +kernel
theorem dX11_end_19 : decode cX11_end 19 = .ok (.iaload, 1) := by decide +kernel
theorem dX11_end_20 : decode cX11_end 20 = .ok (.iconst 2, 1) := by decide +kernel
theorem dX11_end_21 : decode cX11_end 21 = .ok (.if_icmp .ne 6, 3) := by decide +kernel
theorem dX11_end_24 : decode cX11_end 24 = .ok (.bipush (-2), 2) := by decide +kernel
theorem dX11_end_26 : decode cX11_end 26 = .ok (.ireturn, 1) := by decide +kernel
theorem dX11_end_27 : decode cX11_end 27 = .ok (.aload_n 0, 1) := by decide +kernel
theorem dX11_end_28 : decode cX11_end 28 = .ok (.invokevirtual 61, 3) := by decide +kernel
theorem dX11_end_31 : decode cX11_end 31 = .ok (.aload_n 0, 1) := by decide +kernel
theorem dX11_end_32 : decode cX11_end 32 = .ok (.getfield 7, 3) := by decide +kernel
theorem dX11_end_35 : decode cX11_end 35 = .ok (.sipush 258, 3) := by decide +kernel
theorem dX11_end_38 : decode cX11_end 38 = .ok (.iload_n 1, 1) := by decide +kernel
theorem dX11_end_39 : decode cX11_end 39 = .ok (.iadd, 1) := by decide +kernel
theorem dX11_end_40 : decode cX11_end 40 = .ok (.iconst 2, 1) := by decide +kernel
theorem dX11_end_41 : decode cX11_end 41 = .ok (.iastore, 1) := by decide +kernel
theorem dX11_end_42 : decode cX11_end 42 = .ok (.iconst 1, 1) := by decide +kernel
theorem dX11_end_43 : decode cX11_end 43 = .ok (.ireturn, 1) := by decide +kernel
theorem dX11_letFall_0 : decode cX11_letFall 0 = .ok (.iconst 0, 1) := by decide +kernel
theorem dX11_letFall_1 : decode cX11_letFall 1 = .ok (.istore_n 2, 1) := by decide +kernel
theorem dX11_letFall_2 : decode cX11_letFall 2 = .ok (.aload_n 0, 1) := by decide +kernel
theorem dX11_letFall_3 : decode cX11_letFall 3 = .ok (.getfield 7, 3) := by decide +kernel
theorem dX11_letFall_6 : decode cX11_letFall 6 = .ok (.bipush 56, 2) := by decide +kernel
theorem dX11_letFall_8 : decode cX11_letFall 8 = .ok (.iload_n 1, 1) := by decide +kernel
theorem dX11_letFall_9 : decode cX11_letFall 9 = .ok (.iadd, 1) := by decide +kernel
theorem dX11_letFall_10 : decode cX11_letFall 10 = .ok (.iconst 0, 1) := by decide +kernel
theorem dX11_letFall_11 : decode cX11_letFall 11 = .ok (.iastore, 1) := by decide +kernel
theorem dX11_letFall_12 : decode cX11_letFall 12 = .ok (.iconst 0, 1) := by decide +kernel
theorem dX11_letFall_13 : decode cX11_letFall 13 = .ok (.istore_n 3, 1) := by decide +kernel
theorem dX11_letFall_14 : decode cX11_letFall 14 = .ok (.iload_n 3, 1) := by decide +kernel
theorem dX11_letFall_15 : decode cX11_letFall 15 = .ok (.aload_n 0, 1) := by decide +kernel
theorem dX11_letFall_16 : decode cX11_letFall 16 = .ok (.getfield 7, 3) := by decide +kernel
theorem dX11_letFall_19 : decode cX11_letFall 19 = .ok (.iconst 1, 1) := by decide +kernel
theorem dX11_letFall_20 : decode cX11_letFall 20 = .ok (.iaload, 1) := by decide +kernel
theorem dX11_letFall_21 : decode cX11_letFall 21 = .ok (.if_icmp .ge 71, 3) := by decide +kernel
theorem dX11_letFall_24 : decode cX11_letFall 24 = .ok (.aload_n 0, 1) := by decide +kernel
theorem dX11_letFall_25 : decode cX11_letFall 25 = .ok (.iload_n 3, 1) := by decide +kernel
theorem dX11_letFall_26 : decode cX11_letFall 26 = .ok (.iload_n 1, 1) := by decide +kernel
theorem dX11_letFall_27 : decode cX11_letFall 27 = .ok (.invokevirtual 64, 3) := by decide +kernel
theorem dX11_letFall_30 : decode cX11_letFall 30 = .ok (.ifCond .eq 56, 3) := by decide +kernel
theorem dX11_letFall_33 : decode cX11_letFall 33 = .ok (.aload_n 0, 1) := by decide +kernel
theorem dX11_letFall_34 : decode cX11_letFall 34 = .ok (.getfield 7, 3) := by decide +kernel
theorem dX11_letFall_37 : decode cX11_letFall 37 = .ok (.bipush 66, 2) := by decide +kernel
theorem dX11_letFall_39 : decode cX11_letFall 39 = .ok (.iload_n 3, 1) := by decide +kernel
theorem dX11_letFall_40 : decode cX11_letFall 40 = .ok (.iadd, 1) := by decide +kernel
theorem dX11_letFall_41 : decode cX11_letFall 41 = .ok (.iaload, 1) := by decide +kernel
theorem dX11_letFall_42 : decode cX11_letFall 42 = .ok (.iconst 3, 1) := by decide +kernel
theorem dX11_letFall_43 : decode cX11_letFall 43 = .ok (.if_icmp .ne 7, 3) := by decide +kernel
theorem dX11_letFall_46 : decode cX11_letFall 46 = .ok (.iconst 1, 1) := by decide +kernel
theorem dX11_letFall_47 : decode cX11_letFall 47 = .ok (.goto 4, 3) := by decide +kernel
theorem dX11_letFall_50 : decode cX11_letFall 50 = .ok (.iconst 0, 1) := by decide +kernel
theorem dX11_letFall_51 : decode cX11_letFall 51 = .ok (.istore 4, 2) := by decide +kernel
theorem dX11_letFall_53 : decode cX11_letFall 53 = .ok (.aload_n 0, 1) := by decide +kernel
theorem dX11_letFall_54 : decode cX11_letFall 54 = .ok (.getfield 7, 3) := by decide +kernel
theorem dX11_letFall_57 : decode cX11_letFall 57 = .ok (.sipush 258, 3) := by decide +kernel
theorem dX11_letFall_60 : decode cX11_letFall 60 = .ok (.iload_n 3, 1) := by decide +kernel
theorem dX11_letFall_61 : decode cX11_letFall 61 = .ok (.iadd, 1) := by decide +kernel
theorem dX11_letFall_62 : decode cX11_letFall 62 = .ok (.iload 4, 2) := by decide +kernel
theorem dX11_letFall_64 : decode cX11_letFall 64 = .ok (.ifCond .eq 7, 3) := by decide +kernel
theorem dX11_letFall_67 : decode cX11_letFall 67 = .ok (.iconst 2, 1) := by decide +kernel
theorem dX11_letFall_68 : decode cX11_letFall 68 = .ok (.goto 4, 3) := by decide +kernel
theorem dX11_letFall_71 : decode cX11_letFall 71 = .ok (.iconst 0, 1) := by decide +kernel
theorem dX11_letFall_72 : decode cX11_letFall 72 = .ok (.iastore, 1) := by decide +kernel
theorem dX11_letFall_73 : decode cX11_letFall 73 = .ok (.iload_n 2, 1) := by decide +kernel
theorem dX11_letFall_74 : decode cX11_letFall 74 = .ok (.iload 4, 2) := by decide +kernel
theorem dX11_letFall_76 : decode cX11_letFall 76 = .ok (.ifCond .eq 7, 3) := by decide +kernel
theorem dX11_letFall_79 : decode cX11_letFall 79 = .ok (.iconst 0, 1) := by decide +kernel
theorem dX11_letFall_80 : decode cX11_letFall 80 = .ok (.goto 4, 3) := by decide +kernel
theorem dX11_letFall_83 : decode cX11_letFall 83 = .ok (.iconst 1, 1) := by decide +kernel
theorem dX11_letFall_84 : decode cX11_letFall 84 = .ok (.iadd, 1) := by decide +kernel
theorem dX11_letFall_85 : decode cX11_letFall 85 = .ok (.istore_n 2, 1) := by decide +kernel
theorem dX11_letFall_86 : decode cX11_letFall 86 = .ok (.iinc 3 1, 3) := by decide +kernel
theorem dX11_letFall_89 : decode cX11_letFall 89 = .ok (.goto (-75), 3) := by decide +kernel
theorem dX11_letFall_92 : decode cX11_letFall 92 = .ok (.iload_n 2, 1) := by decide +kernel
theorem dX11_letFall_93 : decode cX11_letFall 93 = .ok (.ireturn, 1) := by decide +kernel
theorem dX11_fall_0 : decode cX11_fall 0 = .ok (.aload_n 0, 1) := by decide +kernel
theorem dX11_fall_1 : decode cX11_fall 1 = .ok (.iload_n 1, 1) := by decide +kernel
theorem dX11_fall_2 : decode cX11_fall 2 = .ok (.invokevirtual 95, 3) := by decide +kernel
theorem dX11_fall_5 : decode cX11_fall 5 = .ok (.ifCond .ne 5, 3) := by decide +kernel
theorem dX11_fall_8 : decode cX11_fall 8 = .ok (.iconst (-1), 1) := by decide +kernel
theorem dX11_fall_9 : decode cX11_fall 9 = .ok (.ireturn, 1) := by decide +kernel
theorem dX11_fall_10 : decode cX11_fall 10 = .ok (.aload_n 0, 1) := by decide +kernel
theorem dX11_fall_11 : decode cX11_fall 11 = .ok (.getfield 7, 3) := by decide +kernel
theorem dX11_fall_14 : decode cX11_fall 14 = .ok (.bipush 56, 2) := by decide +kernel
theorem dX11_fall_16 : decode cX11_fall 16 = .ok (.iload_n 1, 1) := by decide +kernel
theorem dX11_fall_17 : decode cX11_fall 17 = .ok (.iadd, 1) := by decide +kernel
theorem dX11_fall_18 : decode cX11_fall 18 = .ok (.iaload, 1) := by decide +kernel
theorem dX11_fall_19 : decode cX11_fall 19 = .ok (.ifCond .ne 6, 3) := by decide +kernel
theorem dX11_fall_22 : decode cX11_fall 22 = .ok (.bipush (-2), 2) := by decide +kernel
theorem dX11_fall_24 : decode cX11_fall 24 = .ok (.ireturn, 1) := by decide +kernel
theorem dX11_fall_25 : decode cX11_fall 25 = .ok (.aload_n 0, 1) := by decide +kernel
theorem dX11_fall_26 : decode cX11_fall 26 = .ok (.invokevirtual 61, 3) := by decide +kernel
theorem dX11_fall_29 : decode cX11_fall 29 = .ok (.aload_n 0, 1) := by decide +kernel
theorem dX11_fall_30 : decode cX11_fall 30 = .ok (.iload_n 1, 1) := by decide +kernel
theorem dX11_fall_31 : decode cX11_fall 31 = .ok (.invokevirtual 135, 3) := by decide +kernel
theorem dX11_fall_34 : decode cX11_fall 34 = .ok (.ireturn, 1) := by decide +kernel
theorem dX11_rise_0 : decode cX11_rise 0 = .ok (.aload_n 0, 1) := by decide +kernel
theorem dX11_rise_1 : decode cX11_rise 1 = .ok (.iload_n 1, 1) := by decide +kernel
theorem dX11_rise_2 : decode cX11_rise 2 = .ok (.invokevirtual 95, 3) := by decide +kernel
theorem dX11_rise_5 : decode cX11_rise 5 = .ok (.ifCond .ne 5, 3) := by decide +kernel
theorem dX11_rise_8 : decode cX11_rise 8 = .ok (.iconst (-1), 1) := by decide +kernel
theorem dX11_rise_9 : decode cX11_rise 9 = .ok (.ireturn, 1) := by decide +kernel
theorem dX11_rise_10 : decode cX11_rise 10 = .ok (.aload_n 0, 1) := by decide +kernel
theorem dX11_rise_11 : decode cX11_rise 11 = .ok (.getfield 7, 3) := by decide +kernel
theorem dX11_rise_14 : decode cX11_rise 14 = .ok (.bipush 56, 2) := by decide +kernel
theorem dX11_rise_16 : decode cX11_rise 16 = .ok (.iload_n 1, 1) := by decide +kernel
theorem dX11_rise_17 : decode cX11_rise 17 = .ok (.iadd, 1) := by decide +kernel
theorem dX11_rise_18 : decode cX11_rise 18 = .ok (.iaload, 1) := by decide +kernel
theorem dX11_rise_19 : decode cX11_rise 19 = .ok (.iconst 1, 1) := by decide +kernel
theorem dX11_rise_20 : decode cX11_rise 20 = .ok (.if_icmp .ne 6, 3) := by decide +kernel
theorem dX11_rise_23 : decode cX11_rise 23 = .ok (.bipush (-2), 2) := by decide +kernel
theorem dX11_rise_25 : decode cX11_rise 25 = .ok (.ireturn, 1) := by decide +kernel
theorem dX11_rise_26 : decode cX11_rise 26 = .ok (.aload_n 0, 1) := by decide +kernel
theorem dX11_rise_27 : decode cX11_rise 27 = .ok (.invokevirtual 61, 3) := by decide +kernel
theorem dX11_rise_30 : decode cX11_rise 30 = .ok (.aload_n 0, 1) := by decide +kernel
theorem dX11_rise_31 : decode cX11_rise 31 = .ok (.getfield 7, 3) := by decide +kernel
theorem dX11_rise_34 : decode cX11_rise 34 = .ok (.bipush 56, 2) := by decide +kernel
theorem dX11_rise_36 : decode cX11_rise 36 = .ok (.iload_n 1, 1) := by decide +kernel
theorem dX11_rise_37 : decode cX11_rise 37 = .ok (.iadd, 1) := by decide +kernel
theorem dX11_rise_38 : decode cX11_rise 38 = .ok (.iconst 1, 1) := by decide +kernel
theorem dX11_rise_39 : decode cX11_rise 39 = .ok (.iastore, 1) := by decide +kernel
theorem dX11_rise_40 : decode cX11_rise 40 = .ok (.iconst 1, 1) := by decide +kernel
theorem dX11_rise_41 : decode cX11_rise 41 = .ok (.ireturn, 1) := by decide +kernel
theorem dX11_move_0 : decode cX11_move 0 = .ok (.aload_n 0, 1) := by decide +kernel
theorem dX11_move_1 : decode cX11_move 1 = .ok (.iload_n 1, 1) := by decide +kernel
theorem dX11_move_2 : decode cX11_move 2 = .ok (.invokevirtual 91, 3) := by decide +kernel
theorem dX11_move_5 : decode cX11_move 5 = .ok (.ifCond .eq 11, 3) := by decide +kernel
theorem dX11_move_8 : decode cX11_move 8 = .ok (.aload_n 0, 1) := by decide +kernel
theorem dX11_move_9 : decode cX11_move 9 = .ok (.iload_n 2, 1) := by decide +kernel
theorem dX11_move_10 : decode cX11_move 10 = .ok (.invokevirtual 95, 3) := by decide +kernel
theorem dX11_move_13 : decode cX11_move 13 = .ok (.ifCond .ne 5, 3) := by decide +kernel
theorem dX11_move_16 : decode cX11_move 16 = .ok (.iconst (-1), 1) := by decide +kernel
theorem dX11_move_17 : decode cX11_move 17 = .ok (.ireturn, 1) := by decide +kernel
theorem dX11_move_18 : decode cX11_move 18 = .ok (.aload_n 0, 1) := by decide +kernel
theorem dX11_move_19 : decode cX11_move 19 = .ok (.getfield 7, 3) := by decide +kernel
theorem dX11_move_22 : decode cX11_move 22 = .ok (.sipush 258, 3) := by decide +kernel
theorem dX11_move_25 : decode cX11_move 25 = .ok (.iload_n 1, 1) := by decide +kernel
theorem dX11_move_26 : decode cX11_move 26 = .ok (.iadd, 1) := by decide +kernel
theorem dX11_move_27 : decode cX11_move 27 = .ok (.iaload, 1) := by decide +kernel
theorem dX11_move_28 : decode cX11_move 28 = .ok (.iconst 1, 1) := by decide +kernel
theorem dX11_move_29 : decode cX11_move 29 = .ok (.if_icmp .ne 30, 3) := by decide +kernel
theorem dX11_move_32 : decode cX11_move 32 = .ok (.aload_n 0, 1) := by decide +kernel
theorem dX11_move_33 : decode cX11_move 33 = .ok (.getfield 7, 3) := by decide +kernel
theorem dX11_move_36 : decode cX11_move 36 = .ok (.bipush 66, 2) := by decide +kernel
theorem dX11_move_38 : decode cX11_move 38 = .ok (.iload_n 1, 1) := by decide +kernel
theorem dX11_move_39 : decode cX11_move 39 = .ok (.iadd, 1) := by decide +kernel
theorem dX11_move_40 : decode cX11_move 40 = .ok (.iaload, 1) := by decide +kernel
theorem dX11_move_41 : decode cX11_move 41 = .ok (.iconst 3, 1) := by decide +kernel
theorem dX11_move_42 : decode cX11_move 42 = .ok (.if_icmp .eq 17, 3) := by decide +kernel
theorem dX11_move_45 : decode cX11_move 45 = .ok (.aload_n 0, 1) := by decide +kernel
theorem dX11_move_46 : decode cX11_move 46 = .ok (.getfield 7, 3) := by decide +kernel
theorem dX11_move_49 : decode cX11_move 49 = .ok (.sipush 282, 3) := by decide +kernel
theorem dX11_move_52 : decode cX11_move 52 = .ok (.iload_n 1, 1) := by decide +kernel
theorem dX11_move_53 : decode cX11_move 53 = .ok (.iadd, 1) := by decide +kernel
theorem dX11_move_54 : decode cX11_move 54 = .ok (.iaload, 1) := by decide +kernel
theorem dX11_move_55 : decode cX11_move 55 = .ok (.iload_n 2, 1) := by decide +kernel
theorem dX11_move_56 : decode cX11_move 56 = .ok (.if_icmp .ne 6, 3) := by decide +kernel
theorem dX11_move_59 : decode cX11_move 59 = .ok (.bipush (-2), 2) := by decide +kernel
theorem dX11_move_61 : decode cX11_move 61 = .ok (.ireturn, 1) := by decide +kernel
theorem dX11_move_62 : decode cX11_move 62 = .ok (.aload_n 0, 1) := by decide +kernel
theorem dX11_move_63 : decode cX11_move 63 = .ok (.iload_n 1, 1) := by decide +kernel
theorem dX11_move_64 : decode cX11_move 64 = .ok (.iload_n 2, 1) := by decide +kernel
theorem dX11_move_65 : decode cX11_move 65 = .ok (.invokevirtual 98, 3) := by decide +kernel
theorem dX11_move_68 : decode cX11_move 68 = .ok (.ifCond .eq 6, 3) := by decide +kernel
theorem dX11_move_71 : decode cX11_move 71 = .ok (.bipush (-3), 2) := by decide +kernel
theorem dX11_move_73 : decode cX11_move 73 = .ok (.ireturn, 1) := by decide +kernel
theorem dX11_move_74 : decode cX11_move 74 = .ok (.aload_n 0, 1) := by decide +kernel
theorem dX11_move_75 : decode cX11_move 75 = .ok (.invokevirtual 61, 3) := by decide +kernel
theorem dX11_move_78 : decode cX11_move 78 = .ok (.aload_n 0, 1) := by decide +kernel
theorem dX11_move_79 : decode cX11_move 79 = .ok (.getfield 7, 3) := by decide +kernel
theorem dX11_move_82 : decode cX11_move 82 = .ok (.sipush 282, 3) := by decide +kernel
theorem dX11_move_85 : decode cX11_move 85 = .ok (.iload_n 1, 1) := by decide +kernel
theorem dX11_move_86 : decode cX11_move 86 = .ok (.iadd, 1) := by decide +kernel
theorem dX11_move_87 : decode cX11_move 87 = .ok (.iaload, 1) := by decide +kernel
theorem dX11_move_88 : decode cX11_move 88 = .ok (.istore_n 3, 1) := by decide +kernel
theorem dX11_move_89 : decode cX11_move 89 = .ok (.aload_n 0, 1) := by decide +kernel
theorem dX11_move_90 : decode cX11_move 90 = .ok (.iload_n 1, 1) := by decide +kernel
theorem dX11_move_91 : decode cX11_move 91 = .ok (.iload_n 2, 1) := by decide +kernel
theorem dX11_move_92 : decode cX11_move 92 = .ok (.invokevirtual 116, 3) := by decide +kernel
theorem dX11_move_95 : decode cX11_move 95 = .ok (.iload_n 3, 1) := by decide +kernel
theorem dX11_move_96 : decode cX11_move 96 = .ok (.ireturn, 1) := by decide +kernel
theorem dX11_forget_0 : decode cX11_forget 0 = .ok (.iconst 0, 1) := by decide +kernel
theorem dX11_forget_1 : decode cX11_forget 1 = .ok (.istore_n 1, 1) := by decide +kernel
theorem dX11_forget_2 : decode cX11_forget 2 = .ok (.iload_n 1, 1) := by decide +kernel
theorem dX11_forget_3 : decode cX11_forget 3 = .ok (.sipush 14641, 3) := by decide +kernel
theorem dX11_forget_6 : decode cX11_forget 6 = .ok (.if_icmp .ge 16, 3) := by decide +kernel
theorem dX11_forget_9 : decode cX11_forget 9 = .ok (.aload_n 0, 1) := by decide +kernel
theorem dX11_forget_10 : decode cX11_forget 10 = .ok (.getfield 25, 3) := by decide +kernel
theorem dX11_forget_13 : decode cX11_forget 13 = .ok (.iload_n 1, 1) := by decide +kernel
theorem dX11_forget_14 : decode cX11_forget 14 = .ok (.iconst 0, 1) := by decide +kernel
theorem dX11_forget_15 : decode cX11_forget 15 = .ok (.bastore, 1) := by decide +kernel
theorem dX11_forget_16 : decode cX11_forget 16 = .ok (.iinc 1 1, 3) := by decide +kernel
theorem dX11_forget_19 : decode cX11_forget 19 = .ok (.goto (-17), 3) := by decide +kernel
theorem dX11_forget_22 : decode cX11_forget 22 = .ok (.return_, 1) := by decide +kernel
theorem dX11_codeOf_0 : decode cX11_codeOf 0 = .ok (.iconst 0, 1) := by decide +kernel
theorem dX11_codeOf_1 : decode cX11_codeOf 1 = .ok (.istore_n 1, 1) := by decide +kernel
theorem dX11_codeOf_2 : decode cX11_codeOf 2 = .ok (.aload_n 0, 1) := by decide +kernel
theorem dX11_codeOf_3 : decode cX11_codeOf 3 = .ok (.getfield 138, 3) := by decide +kernel
theorem dX11_codeOf_6 : decode cX11_codeOf 6 = .ok (.iconst 1, 1) := by decide +kernel
theorem dX11_codeOf_7 : decode cX11_codeOf 7 = .ok (.isub, 1) := by decide +kernel
theorem dX11_codeOf_8 : decode cX11_codeOf 8 = .ok (.istore_n 2, 1) := by decide +kernel
theorem dX11_codeOf_9 : decode cX11_codeOf 9 = .ok (.iload_n 2, 1) := by decide +kernel
theorem dX11_codeOf_10 : decode cX11_codeOf 10 = .ok (.ifCond .lt 54, 3) := by decide +kernel
theorem dX11_codeOf_13 : decode cX11_codeOf 13 = .ok (.bipush 11, 2) := by decide +kernel
theorem dX11_codeOf_15 : decode cX11_codeOf 15 = .ok (.iload_n 1, 1) := by decide +kernel
theorem dX11_codeOf_16 : decode cX11_codeOf 16 = .ok (.imul, 1) := by decide +kernel
theorem dX11_codeOf_17 : decode cX11_codeOf 17 = .ok (.aload_n 0, 1) := by decide +kernel
theorem dX11_codeOf_18 : decode cX11_codeOf 18 = .ok (.getfield 7, 3) := by decide +kernel
theorem dX11_codeOf_21 : decode cX11_codeOf 21 = .ok (.sipush 258, 3) := by decide +kernel
theorem dX11_codeOf_24 : decode cX11_codeOf 24 = .ok (.aload_n 0, 1) := by decide +kernel
theorem dX11_codeOf_25 : decode cX11_codeOf 25 = .ok (.getfield 22, 3) := by decide +kernel
theorem dX11_codeOf_28 : decode cX11_codeOf 28 = .ok (.iload_n 2, 1) := by decide +kernel
theorem dX11_codeOf_29 : decode cX11_codeOf 29 = .ok (.iaload, 1) := by decide +kernel
theorem dX11_codeOf_30 : decode cX11_codeOf 30 = .ok (.iadd, 1) := by decide +kernel
theorem dX11_codeOf_31 : decode cX11_codeOf 31 = .ok (.iaload, 1) := by decide +kernel
theorem dX11_codeOf_32 : decode cX11_codeOf 32 = .ok (.iconst 1, 1) := by decide +kernel
theorem dX11_codeOf_33 : decode cX11_codeOf 33 = .ok (.if_icmp .ne 21, 3) := by decide +kernel
theorem dX11_codeOf_36 : decode cX11_codeOf 36 = .ok (.aload_n 0, 1) := by decide +kernel
theorem dX11_codeOf_37 : decode cX11_codeOf 37 = .ok (.getfield 7, 3) := by decide +kernel
theorem dX11_codeOf_40 : decode cX11_codeOf 40 = .ok (.sipush 282, 3) := by decide +kernel
theorem dX11_codeOf_43 : decode cX11_codeOf 43 = .ok (.aload_n 0, 1) := by decide +kernel
theorem dX11_codeOf_44 : decode cX11_codeOf 44 = .ok (.getfield 22, 3) := by decide +kernel
theorem dX11_codeOf_47 : decode cX11_codeOf 47 = .ok (.iload_n 2, 1) := by decide +kernel
theorem dX11_codeOf_48 : decode cX11_codeOf 48 = .ok (.iaload, 1) := by decide +kernel
theorem dX11_codeOf_49 : decode cX11_codeOf 49 = .ok (.iadd, 1) := by decide +kernel
theorem dX11_codeOf_50 : decode cX11_codeOf 50 = .ok (.iaload, 1) := by decide +kernel
theorem dX11_codeOf_51 : decode cX11_codeOf 51 = .ok (.goto 5, 3) := by decide +kernel
theorem dX11_codeOf_54 : decode cX11_codeOf 54 = .ok (.bipush 10, 2) := by decide +kernel
theorem dX11_codeOf_56 : decode cX11_codeOf 56 = .ok (.iadd, 1) := by decide +kernel
theorem dX11_codeOf_57 : decode cX11_codeOf 57 = .ok (.istore_n 1, 1) := by decide +kernel
theorem dX11_codeOf_58 : decode cX11_codeOf 58 = .ok (.iinc 2 (-1), 3) := by decide +kernel
theorem dX11_codeOf_61 : decode cX11_codeOf 61 = .ok (.goto (-52), 3) := by decide +kernel
theorem dX11_codeOf_64 : decode cX11_codeOf 64 = .ok (.iload_n 1, 1) := by decide +kernel
theorem dX11_codeOf_65 : decode cX11_codeOf 65 = .ok (.ireturn, 1) := by decide +kernel
theorem dX11_setFew_0 : decode cX11_setFew 0 = .ok (.iload_n 1, 1) := by decide +kernel
theorem dX11_setFew_1 : decode cX11_setFew 1 = .ok (.istore_n 2, 1) := by decide +kernel
theorem dX11_setFew_2 : decode cX11_setFew 2 = .ok (.iconst 0, 1) := by decide +kernel
theorem dX11_setFew_3 : decode cX11_setFew 3 = .ok (.istore_n 3, 1) := by decide +kernel
theorem dX11_setFew_4 : decode cX11_setFew 4 = .ok (.iload_n 3, 1) := by decide +kernel
theorem dX11_setFew_5 : decode cX11_setFew 5 = .ok (.aload_n 0, 1) := by decide +kernel
theorem dX11_setFew_6 : decode cX11_setFew 6 = .ok (.getfield 138, 3) := by decide +kernel
theorem dX11_setFew_9 : decode cX11_setFew 9 = .ok (.if_icmp .ge 89, 3) := by decide +kernel
theorem dX11_setFew_12 : decode cX11_setFew 12 = .ok (.aload_n 0, 1) := by decide +kernel
theorem dX11_setFew_13 : decode cX11_setFew 13 = .ok (.getfield 7, 3) := by decide +kernel
theorem dX11_setFew_16 : decode cX11_setFew 16 = .ok (.sipush 258, 3) := by decide +kernel
theorem dX11_setFew_19 : decode cX11_setFew 19 = .ok (.aload_n 0, 1) := by decide +kernel
theorem dX11_setFew_20 : decode cX11_setFew 20 = .ok (.getfield 22, 3) := by decide +kernel
theorem dX11_setFew_23 : decode cX11_setFew 23 = .ok (.iload_n 3, 1) := by decide +kernel
theorem dX11_setFew_24 : decode cX11_setFew 24 = .ok (.iaload, 1) := by decide +kernel
theorem dX11_setFew_25 : decode cX11_setFew 25 = .ok (.iadd, 1) := by decide +kernel
theorem dX11_setFew_26 : decode cX11_setFew 26 = .ok (.iload_n 2, 1) := by decide +kernel
theorem dX11_setFew_27 : decode cX11_setFew 27 = .ok (.bipush 11, 2) := by decide +kernel
theorem dX11_setFew_29 : decode cX11_setFew 29 = .ok (.irem, 1) := by decide +kernel
theorem dX11_setFew_30 : decode cX11_setFew 30 = .ok (.bipush 10, 2) := by decide +kernel
theorem dX11_setFew_32 : decode cX11_setFew 32 = .ok (.if_icmp .ne 7, 3) := by decide +kernel
theorem dX11_setFew_35 : decode cX11_setFew 35 = .ok (.iconst 0, 1) := by decide +kernel
theorem dX11_setFew_36 : decode cX11_setFew 36 = .ok (.goto 4, 3) := by decide +kernel
theorem dX11_setFew_39 : decode cX11_setFew 39 = .ok (.iconst 1, 1) := by decide +kernel
theorem dX11_setFew_40 : decode cX11_setFew 40 = .ok (.iastore, 1) := by decide +kernel
theorem dX11_setFew_41 : decode cX11_setFew 41 = .ok (.aload_n 0, 1) := by decide +kernel
theorem dX11_setFew_42 : decode cX11_setFew 42 = .ok (.getfield 7, 3) := by decide +kernel
theorem dX11_setFew_45 : decode cX11_setFew 45 = .ok (.sipush 282, 3) := by decide +kernel
theorem dX11_setFew_48 : decode cX11_setFew 48 = .ok (.aload_n 0, 1) := by decide +kernel
theorem dX11_setFew_49 : decode cX11_setFew 49 = .ok (.getfield 22, 3) := by decide +kernel
theorem dX11_setFew_52 : decode cX11_setFew 52 = .ok (.iload_n 3, 1) := by decide +kernel
theorem dX11_setFew_53 : decode cX11_setFew 53 = .ok (.iaload, 1) := by decide +kernel
theorem dX11_setFew_54 : decode cX11_setFew 54 = .ok (.iadd, 1) := by decide +kernel
theorem dX11_setFew_55 : decode cX11_setFew 55 = .ok (.iload_n 2, 1) := by decide +kernel
theorem dX11_setFew_56 : decode cX11_setFew 56 = .ok (.bipush 11, 2) := by decide +kernel
theorem dX11_setFew_58 : decode cX11_setFew 58 = .ok (.irem, 1) := by decide +kernel
theorem dX11_setFew_59 : decode cX11_setFew 59 = .ok (.bipush 10, 2) := by decide +kernel
theorem dX11_setFew_61 : decode cX11_setFew 61 = .ok (.if_icmp .ne 21, 3) := by decide +kernel
theorem dX11_setFew_64 : decode cX11_setFew 64 = .ok (.aload_n 0, 1) := by decide +kernel
theorem dX11_setFew_65 : decode cX11_setFew 65 = .ok (.getfield 7, 3) := by decide +kernel
theorem dX11_setFew_68 : decode cX11_setFew 68 = .ok (.sipush 282, 3) := by decide +kernel
theorem dX11_setFew_71 : decode cX11_setFew 71 = .ok (.aload_n 0, 1) := by decide +kernel
theorem dX11_setFew_72 : decode cX11_setFew 72 = .ok (.getfield 22, 3) := by decide +kernel
theorem dX11_setFew_75 : decode cX11_setFew 75 = .ok (.iload_n 3, 1) := by decide +kernel
theorem dX11_setFew_76 : decode cX11_setFew 76 = .ok (.iaload, 1) := by decide +kernel
theorem dX11_setFew_77 : decode cX11_setFew 77 = .ok (.iadd, 1) := by decide +kernel
theorem dX11_setFew_78 : decode cX11_setFew 78 = .ok (.iaload, 1) := by decide +kernel
theorem dX11_setFew_79 : decode cX11_setFew 79 = .ok (.goto 7, 3) := by decide +kernel
theorem dX11_setFew_82 : decode cX11_setFew 82 = .ok (.iload_n 2, 1) := by decide +kernel
theorem dX11_setFew_83 : decode cX11_setFew 83 = .ok (.bipush 11, 2) := by decide +kernel
theorem dX11_setFew_85 : decode cX11_setFew 85 = .ok (.irem, 1) := by decide +kernel
theorem dX11_setFew_86 : decode cX11_setFew 86 = .ok (.iastore, 1) := by decide +kernel
theorem dX11_setFew_87 : decode cX11_setFew 87 = .ok (.iload_n 2, 1) := by decide +kernel
theorem dX11_setFew_88 : decode cX11_setFew 88 = .ok (.bipush 11, 2) := by decide +kernel
theorem dX11_setFew_90 : decode cX11_setFew 90 = .ok (.idiv, 1) := by decide +kernel
theorem dX11_setFew_91 : decode cX11_setFew 91 = .ok (.istore_n 2, 1) := by decide +kernel
theorem dX11_setFew_92 : decode cX11_setFew 92 = .ok (.iinc 3 1, 3) := by decide +kernel
theorem dX11_setFew_95 : decode cX11_setFew 95 = .ok (.goto (-91), 3) := by decide +kernel
theorem dX11_setFew_98 : decode cX11_setFew 98 = .ok (.return_, 1) := by decide +kernel
theorem dX11_meet_0 : decode cX11_meet 0 = .ok (.aload_n 0, 1) := by decide +kernel
theorem dX11_meet_1 : decode cX11_meet 1 = .ok (.getfield 25, 3) := by decide +kernel
theorem dX11_meet_4 : decode cX11_meet 4 = .ok (.iload_n 1, 1) := by decide +kernel
theorem dX11_meet_5 : decode cX11_meet 5 = .ok (.baload, 1) := by decide +kernel
theorem dX11_meet_6 : decode cX11_meet 6 = .ok (.ifCond .ne 50, 3) := by decide +kernel
