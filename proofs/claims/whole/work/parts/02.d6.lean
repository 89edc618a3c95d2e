theorem dX11_meet_9 : decode cX11_meet 9 = .ok (.aload_n 0, 1) := by decide +kernel
theorem dX11_meet_10 : decode cX11_meet 10 = .ok (.getfield 25, 3) := by decide +kernel
theorem dX11_meet_13 : decode cX11_meet 13 = .ok (.iload_n 1, 1) := by decide +kernel
theorem dX11_meet_14 : decode cX11_meet 14 = .ok (.iconst 1, 1) := by decide +kernel
theorem dX11_meet_15 : decode cX11_meet 15 = .ok (.bastore, 1) := by decide +kernel
theorem dX11_meet_16 : decode cX11_meet 16 = .ok (.aload_n 0, 1) := by decide +kernel
theorem dX11_meet_17 : decode cX11_meet 17 = .ok (.getfield 29, 3) := by decide +kernel
theorem dX11_meet_20 : decode cX11_meet 20 = .ok (.aload_n 0, 1) := by decide +kernel
theorem dX11_meet_21 : decode cX11_meet 21 = .ok (.getfield 141, 3) := by decide +kernel
theorem dX11_meet_24 : decode cX11_meet 24 = .ok (.iload_n 1, 1) := by decide +kernel
theorem dX11_meet_25 : decode cX11_meet 25 = .ok (.iastore, 1) := by decide +kernel
theorem dX11_meet_26 : decode cX11_meet 26 = .ok (.aload_n 0, 1) := by decide +kernel
theorem dX11_meet_27 : decode cX11_meet 27 = .ok (.getfield 32, 3) := by decide +kernel
theorem dX11_meet_30 : decode cX11_meet 30 = .ok (.aload_n 0, 1) := by decide +kernel
theorem dX11_meet_31 : decode cX11_meet 31 = .ok (.getfield 141, 3) := by decide +kernel
theorem dX11_meet_34 : decode cX11_meet 34 = .ok (.iload_n 2, 1) := by decide +kernel
theorem dX11_meet_35 : decode cX11_meet 35 = .ok (.iastore, 1) := by decide +kernel
theorem dX11_meet_36 : decode cX11_meet 36 = .ok (.aload_n 0, 1) := by decide +kernel
theorem dX11_meet_37 : decode cX11_meet 37 = .ok (.getfield 35, 3) := by decide +kernel
theorem dX11_meet_40 : decode cX11_meet 40 = .ok (.aload_n 0, 1) := by decide +kernel
theorem dX11_meet_41 : decode cX11_meet 41 = .ok (.getfield 141, 3) := by decide +kernel
theorem dX11_meet_44 : decode cX11_meet 44 = .ok (.iload_n 3, 1) := by decide +kernel
theorem dX11_meet_45 : decode cX11_meet 45 = .ok (.iastore, 1) := by decide +kernel
theorem dX11_meet_46 : decode cX11_meet 46 = .ok (.aload_n 0, 1) := by decide +kernel
theorem dX11_meet_47 : decode cX11_meet 47 = .ok (.dup, 1) := by decide +kernel
theorem dX11_meet_48 : decode cX11_meet 48 = .ok (.getfield 141, 3) := by decide +kernel
theorem dX11_meet_51 : decode cX11_meet 51 = .ok (.iconst 1, 1) := by decide +kernel
theorem dX11_meet_52 : decode cX11_meet 52 = .ok (.iadd, 1) := by decide +kernel
theorem dX11_meet_53 : decode cX11_meet 53 = .ok (.putfield 141, 3) := by decide +kernel
theorem dX11_meet_56 : decode cX11_meet 56 = .ok (.return_, 1) := by decide +kernel
theorem dX11_canAll_0 : decode cX11_canAll 0 = .ok (.aload_n 0, 1) := by decide +kernel
theorem dX11_canAll_1 : decode cX11_canAll 1 = .ok (.invokevirtual 144, 3) := by decide +kernel
theorem dX11_canAll_4 : decode cX11_canAll 4 = .ok (.aload_n 0, 1) := by decide +kernel
theorem dX11_canAll_5 : decode cX11_canAll 5 = .ok (.iconst 0, 1) := by decide +kernel
theorem dX11_canAll_6 : decode cX11_canAll 6 = .ok (.putfield 141, 3) := by decide +kernel
theorem dX11_canAll_9 : decode cX11_canAll 9 = .ok (.aload_n 0, 1) := by decide +kernel
theorem dX11_canAll_10 : decode cX11_canAll 10 = .ok (.aload_n 0, 1) := by decide +kernel
theorem dX11_canAll_11 : decode cX11_canAll 11 = .ok (.invokevirtual 147, 3) := by decide +kernel
theorem dX11_canAll_14 : decode cX11_canAll 14 = .ok (.iconst (-1), 1) := by decide +kernel
theorem dX11_canAll_15 : decode cX11_canAll 15 = .ok (.iconst 0, 1) := by decide +kernel
theorem dX11_canAll_16 : decode cX11_canAll 16 = .ok (.invokevirtual 151, 3) := by decide +kernel
theorem dX11_canAll_19 : decode cX11_canAll 19 = .ok (.iconst 0, 1) := by decide +kernel
theorem dX11_canAll_20 : decode cX11_canAll 20 = .ok (.istore_n 1, 1) := by decide +kernel
theorem dX11_canAll_21 : decode cX11_canAll 21 = .ok (.iload_n 1, 1) := by decide +kernel
theorem dX11_canAll_22 : decode cX11_canAll 22 = .ok (.aload_n 0, 1) := by decide +kernel
theorem dX11_canAll_23 : decode cX11_canAll 23 = .ok (.getfield 141, 3) := by decide +kernel
theorem dX11_canAll_26 : decode cX11_canAll 26 = .ok (.if_icmp .ge 195, 3) := by decide +kernel
theorem dX11_canAll_29 : decode cX11_canAll 29 = .ok (.aload_n 0, 1) := by decide +kernel
theorem dX11_canAll_30 : decode cX11_canAll 30 = .ok (.aload_n 0, 1) := by decide +kernel
theorem dX11_canAll_31 : decode cX11_canAll 31 = .ok (.getfield 29, 3) := by decide +kernel
theorem dX11_canAll_34 : decode cX11_canAll 34 = .ok (.iload_n 1, 1) := by decide +kernel
theorem dX11_canAll_35 : decode cX11_canAll 35 = .ok (.iaload, 1) := by decide +kernel
theorem dX11_canAll_36 : decode cX11_canAll 36 = .ok (.invokevirtual 155, 3) := by decide +kernel
theorem dX11_canAll_39 : decode cX11_canAll 39 = .ok (.iconst 1, 1) := by decide +kernel
theorem dX11_canAll_40 : decode cX11_canAll 40 = .ok (.istore_n 2, 1) := by decide +kernel
theorem dX11_canAll_41 : decode cX11_canAll 41 = .ok (.iconst 0, 1) := by decide +kernel
theorem dX11_canAll_42 : decode cX11_canAll 42 = .ok (.istore_n 3, 1) := by decide +kernel
theorem dX11_canAll_43 : decode cX11_canAll 43 = .ok (.iload_n 3, 1) := by decide +kernel
theorem dX11_canAll_44 : decode cX11_canAll 44 = .ok (.aload_n 0, 1) := by decide +kernel
theorem dX11_canAll_45 : decode cX11_canAll 45 = .ok (.getfield 138, 3) := by decide +kernel
theorem dX11_canAll_48 : decode cX11_canAll 48 = .ok (.if_icmp .ge 161, 3) := by decide +kernel
theorem dX11_canAll_51 : decode cX11_canAll 51 = .ok (.aload_n 0, 1) := by decide +kernel
theorem dX11_canAll_52 : decode cX11_canAll 52 = .ok (.getfield 7, 3) := by decide +kernel
theorem dX11_canAll_55 : decode cX11_canAll 55 = .ok (.sipush 258, 3) := by decide +kernel
theorem dX11_canAll_58 : decode cX11_canAll 58 = .ok (.aload_n 0, 1) := by decide +kernel
theorem dX11_canAll_59 : decode cX11_canAll 59 = .ok (.getfield 22, 3) := by decide +kernel
theorem dX11_canAll_62 : decode cX11_canAll 62 = .ok (.iload_n 3, 1) := by decide +kernel
theorem dX11_canAll_63 : decode cX11_canAll 63 = .ok (.iaload, 1) := by decide +kernel
theorem dX11_canAll_64 : decode cX11_canAll 64 = .ok (.iadd, 1) := by decide +kernel
theorem dX11_canAll_65 : decode cX11_canAll 65 = .ok (.iaload, 1) := by decide +kernel
theorem dX11_canAll_66 : decode cX11_canAll 66 = .ok (.iconst 1, 1) := by decide +kernel
theorem dX11_canAll_67 : decode cX11_canAll 67 = .ok (.if_icmp .ne 6, 3) := by decide +kernel
theorem dX11_canAll_70 : decode cX11_canAll 70 = .ok (.goto 133, 3) := by decide +kernel
theorem dX11_canAll_73 : decode cX11_canAll 73 = .ok (.iconst 0, 1) := by decide +kernel
theorem dX11_canAll_74 : decode cX11_canAll 74 = .ok (.istore_n 2, 1) := by decide +kernel
theorem dX11_canAll_75 : decode cX11_canAll 75 = .ok (.iconst 0, 1) := by decide +kernel
theorem dX11_canAll_76 : decode cX11_canAll 76 = .ok (.istore 4, 2) := by decide +kernel
theorem dX11_canAll_78 : decode cX11_canAll 78 = .ok (.iload 4, 2) := by decide +kernel
theorem dX11_canAll_80 : decode cX11_canAll 80 = .ok (.aload_n 0, 1) := by decide +kernel
theorem dX11_canAll_81 : decode cX11_canAll 81 = .ok (.getfield 7, 3) := by decide +kernel
theorem dX11_canAll_84 : decode cX11_canAll 84 = .ok (.iconst 0, 1) := by decide +kernel
theorem dX11_canAll_85 : decode cX11_canAll 85 = .ok (.iaload, 1) := by decide +kernel
theorem dX11_canAll_86 : decode cX11_canAll 86 = .ok (.if_icmp .ge 117, 3) := by decide +kernel
theorem dX11_canAll_89 : decode cX11_canAll 89 = .ok (.aload_n 0, 1) := by decide +kernel
theorem dX11_canAll_90 : decode cX11_canAll 90 = .ok (.aload_n 0, 1) := by decide +kernel
theorem dX11_canAll_91 : decode cX11_canAll 91 = .ok (.getfield 22, 3) := by decide +kernel
theorem dX11_canAll_94 : decode cX11_canAll 94 = .ok (.iload_n 3, 1) := by decide +kernel
theorem dX11_canAll_95 : decode cX11_canAll 95 = .ok (.iaload, 1) := by decide +kernel
theorem dX11_canAll_96 : decode cX11_canAll 96 = .ok (.iload 4, 2) := by decide +kernel
theorem dX11_canAll_98 : decode cX11_canAll 98 = .ok (.invokevirtual 98, 3) := by decide +kernel
theorem dX11_canAll_101 : decode cX11_canAll 101 = .ok (.ifCond .ne 96, 3) := by decide +kernel
theorem dX11_canAll_104 : decode cX11_canAll 104 = .ok (.aload_n 0, 1) := by decide +kernel
theorem dX11_canAll_105 : decode cX11_canAll 105 = .ok (.getfield 7, 3) := by decide +kernel
theorem dX11_canAll_108 : decode cX11_canAll 108 = .ok (.sipush 282, 3) := by decide +kernel
theorem dX11_canAll_111 : decode cX11_canAll 111 = .ok (.aload_n 0, 1) := by decide +kernel
theorem dX11_canAll_112 : decode cX11_canAll 112 = .ok (.getfield 22, 3) := by decide +kernel
theorem dX11_canAll_115 : decode cX11_canAll 115 = .ok (.iload_n 3, 1) := by decide +kernel
theorem dX11_canAll_116 : decode cX11_canAll 116 = .ok (.iaload, 1) := by decide +kernel
theorem dX11_canAll_117 : decode cX11_canAll 117 = .ok (.iadd, 1) := by decide +kernel
theorem dX11_canAll_118 : decode cX11_canAll 118 = .ok (.iaload, 1) := by decide +kernel
theorem dX11_canAll_119 : decode cX11_canAll 119 = .ok (.istore 5, 2) := by decide +kernel
theorem dX11_canAll_121 : decode cX11_canAll 121 = .ok (.aload_n 0, 1) := by decide +kernel
theorem dX11_canAll_122 : decode cX11_canAll 122 = .ok (.getfield 7, 3) := by decide +kernel
theorem dX11_canAll_125 : decode cX11_canAll 125 = .ok (.sipush 258, 3) := by decide +kernel
theorem dX11_canAll_128 : decode cX11_canAll 128 = .ok (.aload_n 0, 1) := by decide +kernel
theorem dX11_canAll_129 : decode cX11_canAll 129 = .ok (.getfield 22, 3) := by decide +kernel
theorem dX11_canAll_132 : decode cX11_canAll 132 = .ok (.iload_n 3, 1) := by decide +kernel
theorem dX11_canAll_133 : decode cX11_canAll 133 = .ok (.iaload, 1) := by decide +kernel
theorem dX11_canAll_134 : decode cX11_canAll 134 = .ok (.iadd, 1) := by decide +kernel
theorem dX11_canAll_135 : decode cX11_canAll 135 = .ok (.iconst 1, 1) := by decide +kernel
theorem dX11_canAll_136 : decode cX11_canAll 136 = .ok (.iastore, 1) := by decide +kernel
theorem dX11_canAll_137 : decode cX11_canAll 137 = .ok (.aload_n 0, 1) := by decide +kernel
theorem dX11_canAll_138 : decode cX11_canAll 138 = .ok (.getfield 7, 3) := by decide +kernel
theorem dX11_canAll_141 : decode cX11_canAll 141 = .ok (.sipush 282, 3) := by decide +kernel
theorem dX11_canAll_144 : decode cX11_canAll 144 = .ok (.aload_n 0, 1) := by decide +kernel
theorem dX11_canAll_145 : decode cX11_canAll 145 = .ok (.getfield 22, 3) := by decide +kernel
theorem dX11_canAll_148 : decode cX11_canAll 148 = .ok (.iload_n 3, 1) := by decide +kernel
theorem dX11_canAll_149 : decode cX11_canAll 149 = .ok (.iaload, 1) := by decide +kernel
theorem dX11_canAll_150 : decode cX11_canAll 150 = .ok (.iadd, 1) := by decide +kernel
theorem dX11_canAll_151 : decode cX11_canAll 151 = .ok (.iload 4, 2) := by decide +kernel
theorem dX11_canAll_153 : decode cX11_canAll 153 = .ok (.iastore, 1) := by decide +kernel
theorem dX11_canAll_154 : decode cX11_canAll 154 = .ok (.aload_n 0, 1) := by decide +kernel
theorem dX11_canAll_155 : decode cX11_canAll 155 = .ok (.aload_n 0, 1) := by decide +kernel
theorem dX11_canAll_156 : decode cX11_canAll 156 = .ok (.invokevirtual 147, 3) := by decide +kernel
theorem dX11_canAll_159 : decode cX11_canAll 159 = .ok (.iload_n 1, 1) := by decide +kernel
theorem dX11_canAll_160 : decode cX11_canAll 160 = .ok (.iconst 0, 1) := by decide +kernel
theorem dX11_canAll_161 : decode cX11_canAll 161 = .ok (.invokevirtual 151, 3) := by decide +kernel
theorem dX11_canAll_164 : decode cX11_canAll 164 = .ok (.aload_n 0, 1) := by decide +kernel
theorem dX11_canAll_165 : decode cX11_canAll 165 = .ok (.getfield 7, 3) := by decide +kernel
theorem dX11_canAll_168 : decode cX11_canAll 168 = .ok (.sipush 258, 3) := by decide +kernel
theorem dX11_canAll_171 : decode cX11_canAll 171 = .ok (.aload_n 0, 1) := by decide +kernel
theorem dX11_canAll_172 : decode cX11_canAll 172 = .ok (.getfield 22, 3) := by decide +kernel
theorem dX11_canAll_175 : decode cX11_canAll 175 = .ok (.iload_n 3, 1) := by decide +kernel
theorem dX11_canAll_176 : decode cX11_canAll 176 = .ok (.iaload, 1) := by decide +kernel
theorem dX11_canAll_177 : decode cX11_canAll 177 = .ok (.iadd, 1) := by decide +kernel
theorem dX11_canAll_178 : decode cX11_canAll 178 = .ok (.iconst 0, 1) := by decide +kernel
theorem dX11_canAll_179 : decode cX11_canAll 179 = .ok (.iastore, 1) := by decide +kernel
theorem dX11_canAll_180 : decode cX11_canAll 180 = .ok (.aload_n 0, 1) := by decide +kernel
theorem dX11_canAll_181 : decode cX11_canAll 181 = .ok (.getfield 7, 3) := by decide +kernel
theorem dX11_canAll_184 : decode cX11_canAll 184 = .ok (.sipush 282, 3) := by decide +kernel
theorem dX11_canAll_187 : decode cX11_canAll 187 = .ok (.aload_n 0, 1) := by decide +kernel
theorem dX11_canAll_188 : decode cX11_canAll 188 = .ok (.getfield 22, 3) := by decide +kernel
theorem dX11_canAll_191 : decode cX11_canAll 191 = .ok (.iload_n 3, 1) := by decide +kernel
theorem dX11_canAll_192 : decode cX11_canAll 192 = .ok (.iaload, 1) := by decide +kernel
theorem dX11_canAll_193 : decode cX11_canAll 193 = .ok (.iadd, 1) := by decide +kernel
theorem dX11_canAll_194 : decode cX11_canAll 194 = .ok (.iload 5, 2) := by decide +kernel
theorem dX11_canAll_196 : decode cX11_canAll 196 = .ok (.iastore, 1) := by decide +kernel
theorem dX11_canAll_197 : decode cX11_canAll 197 = .ok (.iinc 4 1, 3) := by decide +kernel
theorem dX11_canAll_200 : decode cX11_canAll 200 = .ok (.goto (-122), 3) := by decide +kernel
theorem dX11_canAll_203 : decode cX11_canAll 203 = .ok (.iinc 3 1, 3) := by decide +kernel
theorem dX11_canAll_206 : decode cX11_canAll 206 = .ok (.goto (-163), 3) := by decide +kernel
theorem dX11_canAll_209 : decode cX11_canAll 209 = .ok (.iload_n 2, 1) := by decide +kernel
theorem dX11_canAll_210 : decode cX11_canAll 210 = .ok (.ifCond .eq 5, 3) := by decide +kernel
theorem dX11_canAll_213 : decode cX11_canAll 213 = .ok (.iconst 1, 1) := by decide +kernel
theorem dX11_canAll_214 : decode cX11_canAll 214 = .ok (.ireturn, 1) := by decide +kernel
theorem dX11_canAll_215 : decode cX11_canAll 215 = .ok (.iinc 1 1, 3) := by decide +kernel
theorem dX11_canAll_218 : decode cX11_canAll 218 = .ok (.goto (-197), 3) := by decide +kernel
theorem dX11_canAll_221 : decode cX11_canAll 221 = .ok (.iconst 0, 1) := by decide +kernel
theorem dX11_canAll_222 : decode cX11_canAll 222 = .ok (.ireturn, 1) := by decide +kernel
theorem dX11_firstUnsafe_0 : decode cX11_firstUnsafe 0 = .ok (.iconst 0, 1) := by decide +kernel
theorem dX11_firstUnsafe_1 : decode cX11_firstUnsafe 1 = .ok (.istore_n 1, 1) := by decide +kernel
theorem dX11_firstUnsafe_2 : decode cX11_firstUnsafe 2 = .ok (.iload_n 1, 1) := by decide +kernel
theorem dX11_firstUnsafe_3 : decode cX11_firstUnsafe 3 = .ok (.aload_n 0, 1) := by decide +kernel
theorem dX11_firstUnsafe_4 : decode cX11_firstUnsafe 4 = .ok (.getfield 7, 3) := by decide +kernel
theorem dX11_firstUnsafe_7 : decode cX11_firstUnsafe 7 = .ok (.iconst 0, 1) := by decide +kernel
theorem dX11_firstUnsafe_8 : decode cX11_firstUnsafe 8 = .ok (.iaload, 1) := by decide +kernel
theorem dX11_firstUnsafe_9 : decode cX11_firstUnsafe 9 = .ok (.if_icmp .ge 80, 3) := by decide +kernel
theorem dX11_firstUnsafe_12 : decode cX11_firstUnsafe 12 = .ok (.iconst 0, 1) := by decide +kernel
theorem dX11_firstUnsafe_13 : decode cX11_firstUnsafe 13 = .ok (.istore_n 2, 1) := by decide +kernel
theorem dX11_firstUnsafe_14 : decode cX11_firstUnsafe 14 = .ok (.iconst 0, 1) := by decide +kernel
theorem dX11_firstUnsafe_15 : decode cX11_firstUnsafe 15 = .ok (.istore_n 3, 1) := by decide +kernel
theorem dX11_firstUnsafe_16 : decode cX11_firstUnsafe 16 = .ok (.iload_n 3, 1) := by decide +kernel
theorem dX11_firstUnsafe_17 : decode cX11_firstUnsafe 17 = .ok (.aload_n 0, 1) := by decide +kernel
theorem dX11_firstUnsafe_18 : decode cX11_firstUnsafe 18 = .ok (.getfield 7, 3) := by decide +kernel
theorem dX11_firstUnsafe_21 : decode cX11_firstUnsafe 21 = .ok (.iconst 1, 1) := by decide +kernel
theorem dX11_firstUnsafe_22 : decode cX11_firstUnsafe 22 = .ok (.iaload, 1) := by decide +kernel
theorem dX11_firstUnsafe_23 : decode cX11_firstUnsafe 23 = .ok (.if_icmp .ge 52, 3) := by decide +kernel
theorem dX11_firstUnsafe_26 : decode cX11_firstUnsafe 26 = .ok (.iload_n 2, 1) := by decide +kernel
theorem dX11_firstUnsafe_27 : decode cX11_firstUnsafe 27 = .ok (.aload_n 0, 1) := by decide +kernel
theorem dX11_firstUnsafe_28 : decode cX11_firstUnsafe 28 = .ok (.getfield 7, 3) := by decide +kernel
theorem dX11_firstUnsafe_31 : decode cX11_firstUnsafe 31 = .ok (.bipush 56, 2) := by decide +kernel
theorem dX11_firstUnsafe_33 : decode cX11_firstUnsafe 33 = .ok (.iload_n 1, 1) := by decide +kernel
theorem dX11_firstUnsafe_34 : decode cX11_firstUnsafe 34 = .ok (.iadd, 1) := by decide +kernel
theorem dX11_firstUnsafe_35 : decode cX11_firstUnsafe 35 = .ok (.iaload, 1) := by decide +kernel
theorem dX11_firstUnsafe_36 : decode cX11_firstUnsafe 36 = .ok (.iconst 1, 1) := by decide +kernel
theorem dX11_firstUnsafe_37 : decode cX11_firstUnsafe 37 = .ok (.if_icmp .ne 29, 3) := by decide +kernel
theorem dX11_firstUnsafe_40 : decode cX11_firstUnsafe 40 = .ok (.aload_n 0, 1) := by decide +kernel
theorem dX11_firstUnsafe_41 : decode cX11_firstUnsafe 41 = .ok (.iload_n 3, 1) := by decide +kernel
theorem dX11_firstUnsafe_42 : decode cX11_firstUnsafe 42 = .ok (.iload_n 1, 1) := by decide +kernel
theorem dX11_firstUnsafe_43 : decode cX11_firstUnsafe 43 = .ok (.invokevirtual 64, 3) := by decide +kernel
theorem dX11_firstUnsafe_46 : decode cX11_firstUnsafe 46 = .ok (.ifCond .eq 20, 3) := by decide +kernel
theorem dX11_firstUnsafe_49 : decode cX11_firstUnsafe 49 = .ok (.aload_n 0, 1) := by decide +kernel
theorem dX11_firstUnsafe_50 : decode cX11_firstUnsafe 50 = .ok (.getfield 7, 3) := by decide +kernel
theorem dX11_firstUnsafe_53 : decode cX11_firstUnsafe 53 = .ok (.bipush 66, 2) := by decide +kernel
theorem dX11_firstUnsafe_55 : decode cX11_firstUnsafe 55 = .ok (.iload_n 3, 1) := by decide +kernel
theorem dX11_firstUnsafe_56 : decode cX11_firstUnsafe 56 = .ok (.iadd, 1) := by decide +kernel
theorem dX11_firstUnsafe_57 : decode cX11_firstUnsafe 57 = .ok (.iaload, 1) := by decide +kernel
theorem dX11_firstUnsafe_58 : decode cX11_firstUnsafe 58 = .ok (.iconst 3, 1) := by decide +kernel
theorem dX11_firstUnsafe_59 : decode cX11_firstUnsafe 59 = .ok (.if_icmp .eq 7, 3) := by decide +kernel
theorem dX11_firstUnsafe_62 : decode cX11_firstUnsafe 62 = .ok (.iconst 1, 1) := by decide +kernel
theorem dX11_firstUnsafe_63 : decode cX11_firstUnsafe 63 = .ok (.goto 4, 3) := by decide +kernel
theorem dX11_firstUnsafe_66 : decode cX11_firstUnsafe 66 = .ok (.iconst 0, 1) := by decide +kernel
theorem dX11_firstUnsafe_67 : decode cX11_firstUnsafe 67 = .ok (.iadd, 1) := by decide +kernel
theorem dX11_firstUnsafe_68 : decode cX11_firstUnsafe 68 = .ok (.istore_n 2, 1) := by decide +kernel
theorem dX11_firstUnsafe_69 : decode cX11_firstUnsafe 69 = .ok (.iinc 3 1, 3) := by decide +kernel
theorem dX11_firstUnsafe_72 : decode cX11_firstUnsafe 72 = .ok (.goto (-56), 3) := by decide +kernel
theorem dX11_firstUnsafe_75 : decode cX11_firstUnsafe 75 = .ok (.iload_n 2, 1) := by decide +kernel
theorem dX11_firstUnsafe_76 : decode cX11_firstUnsafe 76 = .ok (.iconst 4, 1) := by decide +kernel
theorem dX11_firstUnsafe_77 : decode cX11_firstUnsafe 77 = .ok (.if_icmp .le 6, 3) := by decide +kernel
theorem dX11_firstUnsafe_80 : decode cX11_firstUnsafe 80 = .ok (.bipush (-4), 2) := by decide +kernel
theorem dX11_firstUnsafe_82 : decode cX11_firstUnsafe 82 = .ok (.ireturn, 1) := by decide +kernel
theorem dX11_firstUnsafe_83 : decode cX11_firstUnsafe 83 = .ok (.iinc 1 1, 3) := by decide +kernel
theorem dX11_firstUnsafe_86 : decode cX11_firstUnsafe 86 = .ok (.goto (-84), 3) := by decide +kernel
theorem dX11_firstUnsafe_89 : decode cX11_firstUnsafe 89 = .ok (.iconst 0, 1) := by decide +kernel
theorem dX11_firstUnsafe_90 : decode cX11_firstUnsafe 90 = .ok (.istore_n 1, 1) := by decide +kernel
theorem dX11_firstUnsafe_91 : decode cX11_firstUnsafe 91 = .ok (.iload_n 1, 1) := by decide +kernel
theorem dX11_firstUnsafe_92 : decode cX11_firstUnsafe 92 = .ok (.aload_n 0, 1) := by decide +kernel
theorem dX11_firstUnsafe_93 : decode cX11_firstUnsafe 93 = .ok (.getfield 7, 3) := by decide +kernel
theorem dX11_firstUnsafe_96 : decode cX11_firstUnsafe 96 = .ok (.iconst 0, 1) := by decide +kernel
theorem dX11_firstUnsafe_97 : decode cX11_firstUnsafe 97 = .ok (.iaload, 1) := by decide +kernel
theorem dX11_firstUnsafe_98 : decode cX11_firstUnsafe 98 = .ok (.if_icmp .ge 114, 3) := by decide +kernel
theorem dX11_firstUnsafe_101 : decode cX11_firstUnsafe 101 = .ok (.aload_n 0, 1) := by decide +kernel
theorem dX11_firstUnsafe_102 : decode cX11_firstUnsafe 102 = .ok (.getfield 7, 3) := by decide +kernel
theorem dX11_firstUnsafe_105 : decode cX11_firstUnsafe 105 = .ok (.bipush 56, 2) := by decide +kernel
theorem dX11_firstUnsafe_107 : decode cX11_firstUnsafe 107 = .ok (.iload_n 1, 1) := by decide +kernel
theorem dX11_firstUnsafe_108 : decode cX11_firstUnsafe 108 = .ok (.iadd, 1) := by decide +kernel
theorem dX11_firstUnsafe_109 : decode cX11_firstUnsafe 109 = .ok (.iaload, 1) := by decide +kernel
theorem dX11_firstUnsafe_110 : decode cX11_firstUnsafe 110 = .ok (.ifCond .ne 6, 3) := by decide +kernel
theorem dX11_firstUnsafe_113 : decode cX11_firstUnsafe 113 = .ok (.goto 93, 3) := by decide +kernel
theorem dX11_firstUnsafe_116 : decode cX11_firstUnsafe 116 = .ok (.aload_n 0, 1) := by decide +kernel
theorem dX11_firstUnsafe_117 : decode cX11_firstUnsafe 117 = .ok (.iconst 0, 1) := by decide +kernel
theorem dX11_firstUnsafe_118 : decode cX11_firstUnsafe 118 = .ok (.putfield 138, 3) := by decide +kernel
theorem dX11_firstUnsafe_121 : decode cX11_firstUnsafe 121 = .ok (.iconst 0, 1) := by decide +kernel
theorem dX11_firstUnsafe_122 : decode cX11_firstUnsafe 122 = .ok (.istore_n 2, 1) := by decide +kernel
theorem dX11_firstUnsafe_123 : decode cX11_firstUnsafe 123 = .ok (.iload_n 2, 1) := by decide +kernel
theorem dX11_firstUnsafe_124 : decode cX11_firstUnsafe 124 = .ok (.aload_n 0, 1) := by decide +kernel
theorem dX11_firstUnsafe_125 : decode cX11_firstUnsafe 125 = .ok (.getfield 7, 3) := by decide +kernel
theorem dX11_firstUnsafe_128 : decode cX11_firstUnsafe 128 = .ok (.iconst 1, 1) := by decide +kernel
theorem dX11_firstUnsafe_129 : decode cX11_firstUnsafe 129 = .ok (.iaload, 1) := by decide +kernel
theorem dX11_firstUnsafe_130 : decode cX11_firstUnsafe 130 = .ok (.if_icmp .ge 51, 3) := by decide +kernel
theorem dX11_firstUnsafe_133 : decode cX11_firstUnsafe 133 = .ok (.aload_n 0, 1) := by decide +kernel
theorem dX11_firstUnsafe_134 : decode cX11_firstUnsafe 134 = .ok (.iload_n 2, 1) := by decide +kernel
theorem dX11_firstUnsafe_135 : decode cX11_firstUnsafe 135 = .ok (.iload_n 1, 1) := by decide +kernel
theorem dX11_firstUnsafe_136 : decode cX11_firstUnsafe 136 = .ok (.invokevirtual 64, 3) := by decide +kernel
theorem dX11_firstUnsafe_139 : decode cX11_firstUnsafe 139 = .ok (.ifCond .eq 36, 3) := by decide +kernel
theorem dX11_firstUnsafe_142 : decode cX11_firstUnsafe 142 = .ok (.aload_n 0, 1) := by decide +kernel
theorem dX11_firstUnsafe_143 : decode cX11_firstUnsafe 143 = .ok (.getfield 7, 3) := by decide +kernel
theorem dX11_firstUnsafe_146 : decode cX11_firstUnsafe 146 = .ok (.bipush 66, 2) := by decide +kernel
theorem dX11_firstUnsafe_148 : decode cX11_firstUnsafe 148 = .ok (.iload_n 2, 1) := by decide +kernel
theorem dX11_firstUnsafe_149 : decode cX11_firstUnsafe 149 = .ok (.iadd, 1) := by decide +kernel
theorem dX11_firstUnsafe_150 : decode cX11_firstUnsafe 150 = .ok (.iaload, 1) := by decide +kernel
theorem dX11_firstUnsafe_151 : decode cX11_firstUnsafe 151 = .ok (.iconst 3, 1) := by decide +kernel
theorem dX11_firstUnsafe_152 : decode cX11_firstUnsafe 152 = .ok (.if_icmp .eq 23, 3) := by decide +kernel
theorem dX11_firstUnsafe_155 : decode cX11_firstUnsafe 155 = .ok (.aload_n 0, 1) := by decide +kernel
theorem dX11_firstUnsafe_156 : decode cX11_firstUnsafe 156 = .ok (.getfield 22, 3) := by decide +kernel
theorem dX11_firstUnsafe_159 : decode cX11_firstUnsafe 159 = .ok (.aload_n 0, 1) := by decide +kernel
theorem dX11_firstUnsafe_160 : decode cX11_firstUnsafe 160 = .ok (.getfield 138, 3) := by decide +kernel
theorem dX11_firstUnsafe_163 : decode cX11_firstUnsafe 163 = .ok (.iload_n 2, 1) := by decide +kernel
theorem dX11_firstUnsafe_164 : decode cX11_firstUnsafe 164 = .ok (.iastore, 1) := by decide +kernel
theorem dX11_firstUnsafe_165 : decode cX11_firstUnsafe 165 = .ok (.aload_n 0, 1) := by decide +kernel
theorem dX11_firstUnsafe_166 : decode cX11_firstUnsafe 166 = .ok (.dup, 1) := by decide +kernel
theorem dX11_firstUnsafe_167 : decode cX11_firstUnsafe 167 = .ok (.getfield 138, 3) := by decide +kernel
theorem dX11_firstUnsafe_170 : decode cX11_firstUnsafe 170 = .ok (.iconst 1, 1) := by decide +kernel
theorem dX11_firstUnsafe_171 : decode cX11_firstUnsafe 171 = .ok (.iadd, 1) := by decide +kernel
theorem dX11_firstUnsafe_172 : decode cX11_firstUnsafe 172 = .ok (.putfield 138, 3) := by decide +kernel
theorem dX11_firstUnsafe_175 : decode cX11_firstUnsafe 175 = .ok (.iinc 2 1, 3) := by decide +kernel
theorem dX11_firstUnsafe_178 : decode cX11_firstUnsafe 178 = .ok (.goto (-55), 3) := by decide +kernel
theorem dX11_firstUnsafe_181 : decode cX11_firstUnsafe 181 = .ok (.aload_n 0, 1) := by decide +kernel
theorem dX11_firstUnsafe_182 : decode cX11_firstUnsafe 182 = .ok (.invokevirtual 126, 3) := by decide +kernel
theorem dX11_firstUnsafe_185 : decode cX11_firstUnsafe 185 = .ok (.aload_n 0, 1) := by decide +kernel
theorem dX11_firstUnsafe_186 : decode cX11_firstUnsafe 186 = .ok (.iload_n 1, 1) := by decide +kernel
theorem dX11_firstUnsafe_187 : decode cX11_firstUnsafe 187 = .ok (.invokevirtual 135, 3) := by decide +kernel
theorem dX11_firstUnsafe_190 : decode cX11_firstUnsafe 190 = .ok (.istore_n 2, 1) := by decide +kernel
theorem dX11_firstUnsafe_191 : decode cX11_firstUnsafe 191 = .ok (.aload_n 0, 1) := by decide +kernel
theorem dX11_firstUnsafe_192 : decode cX11_firstUnsafe 192 = .ok (.invokevirtual 159, 3) := by decide +kernel
theorem dX11_firstUnsafe_195 : decode cX11_firstUnsafe 195 = .ok (.istore_n 3, 1) := by decide +kernel
theorem dX11_firstUnsafe_196 : decode cX11_firstUnsafe 196 = .ok (.aload_n 0, 1) := by decide +kernel
theorem dX11_firstUnsafe_197 : decode cX11_firstUnsafe 197 = .ok (.invokevirtual 129, 3) := by decide +kernel
theorem dX11_firstUnsafe_200 : decode cX11_firstUnsafe 200 = .ok (.iload_n 3, 1) := by decide +kernel
theorem dX11_firstUnsafe_201 : decode cX11_firstUnsafe 201 = .ok (.ifCond .ne 5, 3) := by decide +kernel
theorem dX11_firstUnsafe_204 : decode cX11_firstUnsafe 204 = .ok (.iload_n 1, 1) := by decide +kernel
theorem dX11_firstUnsafe_205 : decode cX11_firstUnsafe 205 = .ok (.ireturn, 1) := by decide +kernel
theorem dX11_firstUnsafe_206 : decode cX11_firstUnsafe 206 = .ok (.iinc 1 1, 3) := by decide +kernel
theorem dX11_firstUnsafe_209 : decode cX11_firstUnsafe 209 = .ok (.goto (-118), 3) := by decide +kernel
theorem dX11_firstUnsafe_212 : decode cX11_firstUnsafe 212 = .ok (.bipush (-3), 2) := by decide +kernel
theorem dX11_firstUnsafe_214 : decode cX11_firstUnsafe 214 = .ok (.ireturn, 1) := by decide +kernel
theorem dX11_safe_0 : decode cX11_safe 0 = .ok (.aload_n 0, 1) := by decide +kernel
theorem dX11_safe_1 : decode cX11_safe 1 = .ok (.invokevirtual 163, 3) := by decide +kernel
theorem dX11_safe_4 : decode cX11_safe 4 = .ok (.istore_n 1, 1) := by decide +kernel
theorem dX11_safe_5 : decode cX11_safe 5 = .ok (.iload_n 1, 1) := by decide +kernel
theorem dX11_safe_6 : decode cX11_safe 6 = .ok (.bipush (-4), 2) := by decide +kernel
theorem dX11_safe_8 : decode cX11_safe 8 = .ok (.if_icmp .ne 8, 3) := by decide +kernel
theorem dX11_safe_11 : decode cX11_safe 11 = .ok (.bipush (-4), 2) := by decide +kernel
theorem dX11_safe_13 : decode cX11_safe 13 = .ok (.goto 14, 3) := by decide +kernel
theorem dX11_safe_16 : decode cX11_safe 16 = .ok (.iload_n 1, 1) := by decide +kernel
theorem dX11_safe_17 : decode cX11_safe 17 = .ok (.bipush (-3), 2) := by decide +kernel
theorem dX11_safe_19 : decode cX11_safe 19 = .ok (.if_icmp .ne 7, 3) := by decide +kernel
theorem dX11_safe_22 : decode cX11_safe 22 = .ok (.iconst 1, 1) := by decide +kernel
theorem dX11_safe_23 : decode cX11_safe 23 = .ok (.goto 4, 3) := by decide +kernel
theorem dX11_safe_26 : decode cX11_safe 26 = .ok (.iconst 0, 1) := by decide +kernel
theorem dX11_safe_27 : decode cX11_safe 27 = .ok (.ireturn, 1) := by decide +kernel
theorem dX11_worst_0 : decode cX11_worst 0 = .ok (.aload_n 0, 1) := by decide +kernel
theorem dX11_worst_1 : decode cX11_worst 1 = .ok (.invokevirtual 163, 3) := by decide +kernel
theorem dX11_worst_4 : decode cX11_worst 4 = .ok (.ireturn, 1) := by decide +kernel
theorem dX11_target_0 : decode cX11_target 0 = .ok (.aload_n 0, 1) := by decide +kernel
theorem dX11_target_1 : decode cX11_target 1 = .ok (.iload_n 1, 1) := by decide +kernel
theorem dX11_target_2 : decode cX11_target 2 = .ok (.invokevirtual 91, 3) := by decide +kernel
theorem dX11_target_5 : decode cX11_target 5 = .ok (.ifCond .eq 16, 3) := by decide +kernel
theorem dX11_target_8 : decode cX11_target 8 = .ok (.iload_n 2, 1) := by decide +kernel
theorem dX11_target_9 : decode cX11_target 9 = .ok (.iconst (-1), 1) := by decide +kernel
theorem dX11_target_10 : decode cX11_target 10 = .ok (.if_icmp .eq 13, 3) := by decide +kernel
theorem dX11_target_13 : decode cX11_target 13 = .ok (.aload_n 0, 1) := by decide +kernel
theorem dX11_target_14 : decode cX11_target 14 = .ok (.iload_n 2, 1) := by decide +kernel
theorem dX11_target_15 : decode cX11_target 15 = .ok (.invokevirtual 95, 3) := by decide +kernel
theorem dX11_target_18 : decode cX11_target 18 = .ok (.ifCond .ne 5, 3) := by decide +kernel
theorem dX11_target_21 : decode cX11_target 21 = .ok (.iconst (-1), 1) := by decide +kernel
theorem dX11_target_22 : decode cX11_target 22 = .ok (.ireturn, 1) := by decide +kernel
theorem dX11_target_23 : decode cX11_target 23 = .ok (.aload_n 0, 1) := by decide +kernel
theorem dX11_target_24 : decode cX11_target 24 = .ok (.invokevirtual 61, 3) := by decide +kernel
theorem dX11_target_27 : decode cX11_target 27 = .ok (.aload_n 0, 1) := by decide +kernel
theorem dX11_target_28 : decode cX11_target 28 = .ok (.getfield 7, 3) := by decide +kernel
theorem dX11_target_31 : decode cX11_target 31 = .ok (.sipush 330, 3) := by decide +kernel
theorem dX11_target_34 : decode cX11_target 34 = .ok (.iload_n 1, 1) := by decide +kernel
theorem dX11_target_35 : decode cX11_target 35 = .ok (.iadd, 1) := by decide +kernel
theorem dX11_target_36 : decode cX11_target 36 = .ok (.iload_n 2, 1) := by decide +kernel
theorem dX11_target_37 : decode cX11_target 37 = .ok (.iastore, 1) := by decide +kernel
theorem dX11_target_38 : decode cX11_target 38 = .ok (.aload_n 0, 1) := by decide +kernel
theorem dX11_target_39 : decode cX11_target 39 = .ok (.invokevirtual 166, 3) := by decide +kernel
theorem dX11_target_42 : decode cX11_target 42 = .ok (.ireturn, 1) := by decide +kernel
theorem dX11_targets_0 : decode cX11_targets 0 = .ok (.iconst 0, 1) := by decide +kernel
theorem dX11_targets_1 : decode cX11_targets 1 = .ok (.istore_n 1, 1) := by decide +kernel
theorem dX11_targets_2 : decode cX11_targets 2 = .ok (.iconst 0, 1) := by decide +kernel
theorem dX11_targets_3 : decode cX11_targets 3 = .ok (.istore_n 2, 1) := by decide +kernel
theorem dX11_targets_4 : decode cX11_targets 4 = .ok (.iload_n 2, 1) := by decide +kernel
theorem dX11_targets_5 : decode cX11_targets 5 = .ok (.aload_n 0, 1) := by decide +kernel
theorem dX11_targets_6 : decode cX11_targets 6 = .ok (.getfield 7, 3) := by decide +kernel
theorem dX11_targets_9 : decode cX11_targets 9 = .ok (.iconst 1, 1) := by decide +kernel
theorem dX11_targets_10 : decode cX11_targets 10 = .ok (.iaload, 1) := by decide +kernel
theorem dX11_targets_11 : decode cX11_targets 11 = .ok (.if_icmp .ge 30, 3) := by decide +kernel
theorem dX11_targets_14 : decode cX11_targets 14 = .ok (.iload_n 1, 1) := by decide +kernel
theorem dX11_targets_15 : decode cX11_targets 15 = .ok (.aload_n 0, 1) := by decide +kernel
theorem dX11_targets_16 : decode cX11_targets 16 = .ok (.getfield 7, 3) := by decide +kernel
theorem dX11_targets_19 : decode cX11_targets 19 = .ok (.sipush 330, 3) := by decide +kernel
theorem dX11_targets_22 : decode cX11_targets 22 = .ok (.iload_n 2, 1) := by decide +kernel
theorem dX11_targets_23 : decode cX11_targets 23 = .ok (.iadd, 1) := by decide +kernel
theorem dX11_targets_24 : decode cX11_targets 24 = .ok (.iaload, 1) := by decide +kernel
theorem dX11_targets_25 : decode cX11_targets 25 = .ok (.ifCond .lt 7, 3) := by decide +kernel
theorem dX11_targets_28 : decode cX11_targets 28 = .ok (.iconst 1, 1) := by decide +kernel
theorem dX11_targets_29 : decode cX11_targets 29 = .ok (.goto 4, 3) := by decide +kernel
theorem dX11_targets_32 : decode cX11_targets 32 = .ok (.iconst 0, 1) := by decide +kernel
theorem dX11_targets_33 : decode cX11_targets 33 = .ok (.iadd, 1) := by decide +kernel
theorem dX11_targets_34 : decode cX11_targets 34 = .ok (.istore_n 1, 1) := by decide +kernel
theorem dX11_targets_35 : decode cX11_targets 35 = .ok (.iinc 2 1, 3) := by decide +kernel
theorem dX11_targets_38 : decode cX11_targets 38 = .ok (.goto (-34), 3) := by decide +kernel
theorem dX11_targets_41 : decode cX11_targets 41 = .ok (.iload_n 1, 1) := by decide +kernel
theorem dX11_targets_42 : decode cX11_targets 42 = .ok (.ireturn, 1) := by decide +kernel
theorem dX11_areThere_0 : decode cX11_areThere 0 = .ok (.iconst 1, 1) := by decide +kernel
theorem dX11_areThere_1 : decode cX11_areThere 1 = .ok (.istore_n 1, 1) := by decide +kernel
theorem dX11_areThere_2 : decode cX11_areThere 2 = .ok (.iconst 0, 1) := by decide +kernel
theorem dX11_areThere_3 : decode cX11_areThere 3 = .ok (.istore_n 2, 1) := by decide +kernel
theorem dX11_areThere_4 : decode cX11_areThere 4 = .ok (.iload_n 2, 1) := by decide +kernel
theorem dX11_areThere_5 : decode cX11_areThere 5 = .ok (.aload_n 0, 1) := by decide +kernel
theorem dX11_areThere_6 : decode cX11_areThere 6 = .ok (.getfield 138, 3) := by decide +kernel
theorem dX11_areThere_9 : decode cX11_areThere 9 = .ok (.if_icmp .ge 52, 3) := by decide +kernel
theorem dX11_areThere_12 : decode cX11_areThere 12 = .ok (.iload_n 1, 1) := by decide +kernel
theorem dX11_areThere_13 : decode cX11_areThere 13 = .ok (.ifCond .eq 40, 3) := by decide +kernel
theorem dX11_areThere_16 : decode cX11_areThere 16 = .ok (.aload_n 0, 1) := by decide +kernel
theorem dX11_areThere_17 : decode cX11_areThere 17 = .ok (.getfield 7, 3) := by decide +kernel
theorem dX11_areThere_20 : decode cX11_areThere 20 = .ok (.sipush 282, 3) := by decide +kernel
theorem dX11_areThere_23 : decode cX11_areThere 23 = .ok (.aload_n 0, 1) := by decide +kernel
theorem dX11_areThere_24 : decode cX11_areThere 24 = .ok (.getfield 22, 3) := by decide +kernel
theorem dX11_areThere_27 : decode cX11_areThere 27 = .ok (.iload_n 2, 1) := by decide +kernel
theorem dX11_areThere_28 : decode cX11_areThere 28 = .ok (.iaload, 1) := by decide +kernel
theorem dX11_areThere_29 : decode cX11_areThere 29 = .ok (.iadd, 1) := by decide +kernel
theorem dX11_areThere_30 : decode cX11_areThere 30 = .ok (.iaload, 1) := by decide +kernel
theorem dX11_areThere_31 : decode cX11_areThere 31 = .ok (.aload_n 0, 1) := by decide +kernel
theorem dX11_areThere_32 : decode cX11_areThere 32 = .ok (.getfield 7, 3) := by decide +kernel
theorem dX11_areThere_35 : decode cX11_areThere 35 = .ok (.sipush 330, 3) := by decide +kernel
theorem dX11_areThere_38 : decode cX11_areThere 38 = .ok (.aload_n 0, 1) := by decide +kernel
theorem dX11_areThere_39 : decode cX11_areThere 39 = .ok (.getfield 22, 3) := by decide +kernel
theorem dX11_areThere_42 : decode cX11_areThere 42 = .ok (.iload_n 2, 1) := by decide +kernel
theorem dX11_areThere_43 : decode cX11_areThere 43 = .ok (.iaload, 1) := by decide +kernel
theorem dX11_areThere_44 : decode cX11_areThere 44 = .ok (.iadd, 1) := by decide +kernel
theorem dX11_areThere_45 : decode cX11_areThere 45 = .ok (.iaload, 1) := by decide +kernel
theorem dX11_areThere_46 : decode cX11_areThere 46 = .ok (.if_icmp .ne 7, 3) := by decide +kernel
theorem dX11_areThere_49 : decode cX11_areThere 49 = .ok (.iconst 1, 1) := by decide +kernel
theorem dX11_areThere_50 : decode cX11_areThere 50 = .ok (.goto 4, 3) := by decide +kernel
theorem dX11_areThere_53 : decode cX11_areThere 53 = .ok (.iconst 0, 1) := by decide +kernel
theorem dX11_areThere_54 : decode cX11_areThere 54 = .ok (.istore_n 1, 1) := by decide +kernel
theorem dX11_areThere_55 : decode cX11_areThere 55 = .ok (.iinc 2 1, 3) := by decide +kernel
theorem dX11_areThere_58 : decode cX11_areThere 58 = .ok (.goto (-54), 3) := by decide +kernel
theorem dX11_areThere_61 : decode cX11_areThere 61 = .ok (.iload_n 1, 1) := by decide +kernel
theorem dX11_areThere_62 : decode cX11_areThere 62 = .ok (.ireturn, 1) := by decide +kernel
theorem dX11_findPlan_0 : decode cX11_findPlan 0 = .ok (.aload_n 0, 1) := by decide +kernel
theorem dX11_findPlan_1 : decode cX11_findPlan 1 = .ok (.invokevirtual 144, 3) := by decide +kernel
theorem dX11_findPlan_4 : decode cX11_findPlan 4 = .ok (.aload_n 0, 1) := by decide +kernel
theorem dX11_findPlan_5 : decode cX11_findPlan 5 = .ok (.iconst 0, 1) := by decide +kernel
theorem dX11_findPlan_6 : decode cX11_findPlan 6 = .ok (.putfield 141, 3) := by decide +kernel
theorem dX11_findPlan_9 : decode cX11_findPlan 9 = .ok (.aload_n 0, 1) := by decide +kernel
theorem dX11_findPlan_10 : decode cX11_findPlan 10 = .ok (.aload_n 0, 1) := by decide +kernel
theorem dX11_findPlan_11 : decode cX11_findPlan 11 = .ok (.invokevirtual 147, 3) := by decide +kernel
theorem dX11_findPlan_14 : decode cX11_findPlan 14 = .ok (.iconst (-1), 1) := by decide +kernel
theorem dX11_findPlan_15 : decode cX11_findPlan 15 = .ok (.iconst 0, 1) := by decide +kernel
theorem dX11_findPlan_16 : decode cX11_findPlan 16 = .ok (.invokevirtual 151, 3) := by decide +kernel
theorem dX11_findPlan_19 : decode cX11_findPlan 19 = .ok (.iconst 1, 1) := by decide +kernel
theorem dX11_findPlan_20 : decode cX11_findPlan 20 = .ok (.istore_n 1, 1) := by decide +kernel
theorem dX11_findPlan_21 : decode cX11_findPlan 21 = .ok (.iconst 0, 1) := by decide +kernel
theorem dX11_findPlan_22 : decode cX11_findPlan 22 = .ok (.istore_n 2, 1) := by decide +kernel
theorem dX11_findPlan_23 : decode cX11_findPlan 23 = .ok (.iconst 0, 1) := by decide +kernel
theorem dX11_findPlan_24 : decode cX11_findPlan 24 = .ok (.istore_n 3, 1) := by decide +kernel
theorem dX11_findPlan_25 : decode cX11_findPlan 25 = .ok (.iload_n 3, 1) := by decide +kernel
theorem dX11_findPlan_26 : decode cX11_findPlan 26 = .ok (.aload_n 0, 1) := by decide +kernel
theorem dX11_findPlan_27 : decode cX11_findPlan 27 = .ok (.getfield 141, 3) := by decide +kernel
theorem dX11_findPlan_30 : decode cX11_findPlan 30 = .ok (.if_icmp .ge 184, 3) := by decide +kernel
theorem dX11_findPlan_33 : decode cX11_findPlan 33 = .ok (.iload_n 3, 1) := by decide +kernel
theorem dX11_findPlan_34 : decode cX11_findPlan 34 = .ok (.iload_n 1, 1) := by decide +kernel
theorem dX11_findPlan_35 : decode cX11_findPlan 35 = .ok (.if_icmp .ne 11, 3) := by decide +kernel
theorem dX11_findPlan_38 : decode cX11_findPlan 38 = .ok (.iinc 2 1, 3) := by decide +kernel
theorem dX11_findPlan_41 : decode cX11_findPlan 41 = .ok (.aload_n 0, 1) := by decide +kernel
theorem dX11_findPlan_42 : decode cX11_findPlan 42 = .ok (.getfield 141, 3) := by decide +kernel
theorem dX11_findPlan_45 : decode cX11_findPlan 45 = .ok (.istore_n 1, 1) := by decide +kernel
theorem dX11_findPlan_46 : decode cX11_findPlan 46 = .ok (.aload_n 0, 1) := by decide +kernel
theorem dX11_findPlan_47 : decode cX11_findPlan 47 = .ok (.aload_n 0, 1) := by decide +kernel
theorem dX11_findPlan_48 : decode cX11_findPlan 48 = .ok (.getfield 29, 3) := by decide +kernel
theorem dX11_findPlan_51 : decode cX11_findPlan 51 = .ok (.iload_n 3, 1) := by decide +kernel
theorem dX11_findPlan_52 : decode cX11_findPlan 52 = .ok (.iaload, 1) := by decide +kernel
theorem dX11_findPlan_53 : decode cX11_findPlan 53 = .ok (.invokevirtual 155, 3) := by decide +kernel
theorem dX11_findPlan_56 : decode cX11_findPlan 56 = .ok (.aload_n 0, 1) := by decide +kernel
theorem dX11_findPlan_57 : decode cX11_findPlan 57 = .ok (.invokevirtual 169, 3) := by decide +kernel
theorem dX11_findPlan_60 : decode cX11_findPlan 60 = .ok (.ifCond .eq 5, 3) := by decide +kernel
theorem dX11_findPlan_63 : decode cX11_findPlan 63 = .ok (.iload_n 3, 1) := by decide +kernel
theorem dX11_findPlan_64 : decode cX11_findPlan 64 = .ok (.ireturn, 1) := by decide +kernel
theorem dX11_findPlan_65 : decode cX11_findPlan 65 = .ok (.iconst 0, 1) := by decide +kernel
theorem dX11_findPlan_66 : decode cX11_findPlan 66 = .ok (.istore 4, 2) := by decide +kernel
theorem dX11_findPlan_68 : decode cX11_findPlan 68 = .ok (.iload 4, 2) := by decide +kernel
theorem dX11_findPlan_70 : decode cX11_findPlan 70 = .ok (.aload_n 0, 1) := by decide +kernel
theorem dX11_findPlan_71 : decode cX11_findPlan 71 = .ok (.getfield 138, 3) := by decide +kernel
theorem dX11_findPlan_74 : decode cX11_findPlan 74 = .ok (.if_icmp .ge 134, 3) := by decide +kernel
theorem dX11_findPlan_77 : decode cX11_findPlan 77 = .ok (.iload_n 2, 1) := by decide +kernel
theorem dX11_findPlan_78 : decode cX11_findPlan 78 = .ok (.bipush 8, 2) := by decide +kernel
theorem dX11_findPlan_80 : decode cX11_findPlan 80 = .ok (.if_icmp .ge 128, 3) := by decide +kernel
theorem dX11_findPlan_83 : decode cX11_findPlan 83 = .ok (.aload_n 0, 1) := by decide +kernel
theorem dX11_findPlan_84 : decode cX11_findPlan 84 = .ok (.getfield 7, 3) := by decide +kernel
theorem dX11_findPlan_87 : decode cX11_findPlan 87 = .ok (.sipush 282, 3) := by decide +kernel
theorem dX11_findPlan_90 : decode cX11_findPlan 90 = .ok (.aload_n 0, 1) := by decide +kernel
theorem dX11_findPlan_91 : decode cX11_findPlan 91 = .ok (.getfield 22, 3) := by decide +kernel
theorem dX11_findPlan_94 : decode cX11_findPlan 94 = .ok (.iload 4, 2) := by decide +kernel
theorem dX11_findPlan_96 : decode cX11_findPlan 96 = .ok (.iaload, 1) := by decide +kernel
theorem dX11_findPlan_97 : decode cX11_findPlan 97 = .ok (.iadd, 1) := by decide +kernel
theorem dX11_findPlan_98 : decode cX11_findPlan 98 = .ok (.iaload, 1) := by decide +kernel
theorem dX11_findPlan_99 : decode cX11_findPlan 99 = .ok (.istore 5, 2) := by decide +kernel
theorem dX11_findPlan_101 : decode cX11_findPlan 101 = .ok (.iconst 0, 1) := by decide +kernel
theorem dX11_findPlan_102 : decode cX11_findPlan 102 = .ok (.istore 6, 2) := by decide +kernel
theorem dX11_findPlan_104 : decode cX11_findPlan 104 = .ok (.iload 6, 2) := by decide +kernel
theorem dX11_findPlan_106 : decode cX11_findPlan 106 = .ok (.aload_n 0, 1) := by decide +kernel
theorem dX11_findPlan_107 : decode cX11_findPlan 107 = .ok (.getfield 7, 3) := by decide +kernel
theorem dX11_findPlan_110 : decode cX11_findPlan 110 = .ok (.iconst 0, 1) := by decide +kernel
theorem dX11_findPlan_111 : decode cX11_findPlan 111 = .ok (.iaload, 1) := by decide +kernel
theorem dX11_findPlan_112 : decode cX11_findPlan 112 = .ok (.if_icmp .ge 90, 3) := by decide +kernel
theorem dX11_findPlan_115 : decode cX11_findPlan 115 = .ok (.iload 6, 2) := by decide +kernel
theorem dX11_findPlan_117 : decode cX11_findPlan 117 = .ok (.iload 5, 2) := by decide +kernel
theorem dX11_findPlan_119 : decode cX11_findPlan 119 = .ok (.if_icmp .eq 77, 3) := by decide +kernel
theorem dX11_findPlan_122 : decode cX11_findPlan 122 = .ok (.aload_n 0, 1) := by decide +kernel
theorem dX11_findPlan_123 : decode cX11_findPlan 123 = .ok (.aload_n 0, 1) := by decide +kernel
theorem dX11_findPlan_124 : decode cX11_findPlan 124 = .ok (.getfield 22, 3) := by decide +kernel
theorem dX11_findPlan_127 : decode cX11_findPlan 127 = .ok (.iload 4, 2) := by decide +kernel
theorem dX11_findPlan_129 : decode cX11_findPlan 129 = .ok (.iaload, 1) := by decide +kernel
theorem dX11_findPlan_130 : decode cX11_findPlan 130 = .ok (.iload 6, 2) := by decide +kernel
theorem dX11_findPlan_132 : decode cX11_findPlan 132 = .ok (.invokevirtual 98, 3) := by decide +kernel
theorem dX11_findPlan_135 : decode cX11_findPlan 135 = .ok (.ifCond .ne 61, 3) := by decide +kernel
theorem dX11_findPlan_138 : decode cX11_findPlan 138 = .ok (.aload_n 0, 1) := by decide +kernel
theorem dX11_findPlan_139 : decode cX11_findPlan 139 = .ok (.getfield 7, 3) := by decide +kernel
theorem dX11_findPlan_142 : decode cX11_findPlan 142 = .ok (.sipush 282, 3) := by decide +kernel
theorem dX11_findPlan_145 : decode cX11_findPlan 145 = .ok (.aload_n 0, 1) := by decide +kernel
theorem dX11_findPlan_146 : decode cX11_findPlan 146 = .ok (.getfield 22, 3) := by decide +kernel
theorem dX11_findPlan_149 : decode cX11_findPlan 149 = .ok (.iload 4, 2) := by decide +kernel
theorem dX11_findPlan_151 : decode cX11_findPlan 151 = .ok (.iaload, 1) := by decide +kernel
theorem dX11_findPlan_152 : decode cX11_findPlan 152 = .ok (.iadd, 1) := by decide +kernel
theorem dX11_findPlan_153 : decode cX11_findPlan 153 = .ok (.iload 6, 2) := by decide +kernel
theorem dX11_findPlan_155 : decode cX11_findPlan 155 = .ok (.iastore, 1) := by decide +kernel
theorem dX11_findPlan_156 : decode cX11_findPlan 156 = .ok (.aload_n 0, 1) := by decide +kernel
theorem dX11_findPlan_157 : decode cX11_findPlan 157 = .ok (.aload_n 0, 1) := by decide +kernel
theorem dX11_findPlan_158 : decode cX11_findPlan 158 = .ok (.invokevirtual 147, 3) := by decide +kernel
theorem dX11_findPlan_161 : decode cX11_findPlan 161 = .ok (.iload_n 3, 1) := by decide +kernel
theorem dX11_findPlan_162 : decode cX11_findPlan 162 = .ok (.bipush 16, 2) := by decide +kernel
theorem dX11_findPlan_164 : decode cX11_findPlan 164 = .ok (.aload_n 0, 1) := by decide +kernel
theorem dX11_findPlan_165 : decode cX11_findPlan 165 = .ok (.getfield 22, 3) := by decide +kernel
theorem dX11_findPlan_168 : decode cX11_findPlan 168 = .ok (.iload 4, 2) := by decide +kernel
theorem dX11_findPlan_170 : decode cX11_findPlan 170 = .ok (.iaload, 1) := by decide +kernel
theorem dX11_findPlan_171 : decode cX11_findPlan 171 = .ok (.imul, 1) := by decide +kernel
theorem dX11_findPlan_172 : decode cX11_findPlan 172 = .ok (.iload 6, 2) := by decide +kernel
theorem dX11_findPlan_174 : decode cX11_findPlan 174 = .ok (.iadd, 1) := by decide +kernel
theorem dX11_findPlan_175 : decode cX11_findPlan 175 = .ok (.invokevirtual 151, 3) := by decide +kernel
theorem dX11_findPlan_178 : decode cX11_findPlan 178 = .ok (.aload_n 0, 1) := by decide +kernel
theorem dX11_findPlan_179 : decode cX11_findPlan 179 = .ok (.getfield 7, 3) := by decide +kernel
theorem dX11_findPlan_182 : decode cX11_findPlan 182 = .ok (.sipush 282, 3) := by decide +kernel
theorem dX11_findPlan_185 : decode cX11_findPlan 185 = .ok (.aload_n 0, 1) := by decide +kernel
theorem dX11_findPlan_186 : decode cX11_findPlan 186 = .ok (.getfield 22, 3) := by decide +kernel
theorem dX11_findPlan_189 : decode cX11_findPlan 189 = .ok (.iload 4, 2) := by decide +kernel
theorem dX11_findPlan_191 : decode cX11_findPlan 191 = .ok (.iaload, 1) := by decide +kernel
theorem dX11_findPlan_192 : decode cX11_findPlan 192 = .ok (.iadd, 1) := by decide +kernel
theorem dX11_findPlan_193 : decode cX11_findPlan 193 = .ok (.iload 5, 2) := by decide +kernel
theorem dX11_findPlan_195 : decode cX11_findPlan 195 = .ok (.iastore, 1) := by decide +kernel
theorem dX11_findPlan_196 : decode cX11_findPlan 196 = .ok (.iinc 6 1, 3) := by decide +kernel
theorem dX11_findPlan_199 : decode cX11_findPlan 199 = .ok (.goto (-95), 3) := by decide +kernel
theorem dX11_findPlan_202 : decode cX11_findPlan 202 = .ok (.iinc 4 1, 3) := by decide +kernel
theorem dX11_findPlan_205 : decode cX11_findPlan 205 = .ok (.goto (-137), 3) := by decide +kernel
theorem dX11_findPlan_208 : decode cX11_findPlan 208 = .ok (.iinc 3 1, 3) := by decide +kernel
theorem dX11_findPlan_211 : decode cX11_findPlan 211 = .ok (.goto (-186), 3) := by decide +kernel
theorem dX11_findPlan_214 : decode cX11_findPlan 214 = .ok (.iconst (-1), 1) := by decide +kernel
theorem dX11_findPlan_215 : decode cX11_findPlan 215 = .ok (.ireturn, 1) := by decide +kernel
theorem dX11_plan_0 : decode cX11_plan 0 = .ok (.aload_n 0, 1) := by decide +kernel
theorem dX11_plan_1 : decode cX11_plan 1 = .ok (.iconst 0, 1) := by decide +kernel
theorem dX11_plan_2 : decode cX11_plan 2 = .ok (.putfield 138, 3) := by decide +kernel
theorem dX11_plan_5 : decode cX11_plan 5 = .ok (.iconst 0, 1) := by decide +kernel
theorem dX11_plan_6 : decode cX11_plan 6 = .ok (.istore_n 1, 1) := by decide +kernel
theorem dX11_plan_7 : decode cX11_plan 7 = .ok (.iload_n 1, 1) := by decide +kernel
theorem dX11_plan_8 : decode cX11_plan 8 = .ok (.aload_n 0, 1) := by decide +kernel
theorem dX11_plan_9 : decode cX11_plan 9 = .ok (.getfield 7, 3) := by decide +kernel
theorem dX11_plan_12 : decode cX11_plan 12 = .ok (.iconst 1, 1) := by decide +kernel
theorem dX11_plan_13 : decode cX11_plan 13 = .ok (.iaload, 1) := by decide +kernel
theorem dX11_plan_14 : decode cX11_plan 14 = .ok (.if_icmp .ge 72, 3) := by decide +kernel
theorem dX11_plan_17 : decode cX11_plan 17 = .ok (.aload_n 0, 1) := by decide +kernel
theorem dX11_plan_18 : decode cX11_plan 18 = .ok (.getfield 7, 3) := by decide +kernel
theorem dX11_plan_21 : decode cX11_plan 21 = .ok (.sipush 330, 3) := by decide +kernel
theorem dX11_plan_24 : decode cX11_plan 24 = .ok (.iload_n 1, 1) := by decide +kernel
theorem dX11_plan_25 : decode cX11_plan 25 = .ok (.iadd, 1) := by decide +kernel
theorem dX11_plan_26 : decode cX11_plan 26 = .ok (.iaload, 1) := by decide +kernel
theorem dX11_plan_27 : decode cX11_plan 27 = .ok (.ifCond .lt 53, 3) := by decide +kernel
theorem dX11_plan_30 : decode cX11_plan 30 = .ok (.aload_n 0, 1) := by decide +kernel
theorem dX11_plan_31 : decode cX11_plan 31 = .ok (.getfield 7, 3) := by decide +kernel
theorem dX11_plan_34 : decode cX11_plan 34 = .ok (.sipush 258, 3) := by decide +kernel
theorem dX11_plan_37 : decode cX11_plan 37 = .ok (.iload_n 1, 1) := by decide +kernel
theorem dX11_plan_38 : decode cX11_plan 38 = .ok (.iadd, 1) := by decide +kernel
theorem dX11_plan_39 : decode cX11_plan 39 = .ok (.iaload, 1) := by decide +kernel
theorem dX11_plan_40 : decode cX11_plan 40 = .ok (.iconst 1, 1) := by decide +kernel
theorem dX11_plan_41 : decode cX11_plan 41 = .ok (.if_icmp .ne 16, 3) := by decide +kernel
theorem dX11_plan_44 : decode cX11_plan 44 = .ok (.aload_n 0, 1) := by decide +kernel
theorem dX11_plan_45 : decode cX11_plan 45 = .ok (.getfield 7, 3) := by decide +kernel
theorem dX11_plan_48 : decode cX11_plan 48 = .ok (.bipush 66, 2) := by decide +kernel
theorem dX11_plan_50 : decode cX11_plan 50 = .ok (.iload_n 1, 1) := by decide +kernel
theorem dX11_plan_51 : decode cX11_plan 51 = .ok (.iadd, 1) := by decide +kernel
theorem dX11_plan_52 : decode cX11_plan 52 = .ok (.iaload, 1) := by decide +kernel
theorem dX11_plan_53 : decode cX11_plan 53 = .ok (.iconst 3, 1) := by decide +kernel
theorem dX11_plan_54 : decode cX11_plan 54 = .ok (.if_icmp .ne 6, 3) := by decide +kernel
theorem dX11_plan_57 : decode cX11_plan 57 = .ok (.bipush (-2), 2) := by decide +kernel
theorem dX11_plan_59 : decode cX11_plan 59 = .ok (.ireturn, 1) := by decide +kernel
theorem dX11_plan_60 : decode cX11_plan 60 = .ok (.aload_n 0, 1) := by decide +kernel
theorem dX11_plan_61 : decode cX11_plan 61 = .ok (.getfield 22, 3) := by decide +kernel
theorem dX11_plan_64 : decode cX11_plan 64 = .ok (.aload_n 0, 1) := by decide +kernel
theorem dX11_plan_65 : decode cX11_plan 65 = .ok (.getfield 138, 3) := by decide +kernel
theorem dX11_plan_68 : decode cX11_plan 68 = .ok (.iload_n 1, 1) := by decide +kernel
theorem dX11_plan_69 : decode cX11_plan 69 = .ok (.iastore, 1) := by decide +kernel
theorem dX11_plan_70 : decode cX11_plan 70 = .ok (.aload_n 0, 1) := by decide +kernel
theorem dX11_plan_71 : decode cX11_plan 71 = .ok (.dup, 1) := by decide +kernel
theorem dX11_plan_72 : decode cX11_plan 72 = .ok (.getfield 138, 3) := by decide +kernel
theorem dX11_plan_75 : decode cX11_plan 75 = .ok (.iconst 1, 1) := by decide +kernel
theorem dX11_plan_76 : decode cX11_plan 76 = .ok (.iadd, 1) := by decide +kernel
theorem dX11_plan_77 : decode cX11_plan 77 = .ok (.putfield 138, 3) := by decide +kernel
theorem dX11_plan_80 : decode cX11_plan 80 = .ok (.iinc 1 1, 3) := by decide +kernel
theorem dX11_plan_83 : decode cX11_plan 83 = .ok (.goto (-76), 3) := by decide +kernel
theorem dX11_plan_86 : decode cX11_plan 86 = .ok (.aload_n 0, 1) := by decide +kernel
theorem dX11_plan_87 : decode cX11_plan 87 = .ok (.getfield 138, 3) := by decide +kernel
theorem dX11_plan_90 : decode cX11_plan 90 = .ok (.iconst 4, 1) := by decide +kernel
theorem dX11_plan_91 : decode cX11_plan 91 = .ok (.if_icmp .le 6, 3) := by decide +kernel
theorem dX11_plan_94 : decode cX11_plan 94 = .ok (.bipush (-4), 2) := by decide +kernel
theorem dX11_plan_96 : decode cX11_plan 96 = .ok (.ireturn, 1) := by decide +kernel
theorem dX11_plan_97 : decode cX11_plan 97 = .ok (.aload_n 0, 1) := by decide +kernel
theorem dX11_plan_98 : decode cX11_plan 98 = .ok (.invokevirtual 126, 3) := by decide +kernel
theorem dX11_plan_101 : decode cX11_plan 101 = .ok (.aload_n 0, 1) := by decide +kernel
theorem dX11_plan_102 : decode cX11_plan 102 = .ok (.invokevirtual 172, 3) := by decide +kernel
theorem dX11_plan_105 : decode cX11_plan 105 = .ok (.istore_n 1, 1) := by decide +kernel
theorem dX11_plan_106 : decode cX11_plan 106 = .ok (.aload_n 0, 1) := by decide +kernel
theorem dX11_plan_107 : decode cX11_plan 107 = .ok (.invokevirtual 129, 3) := by decide +kernel
theorem dX11_plan_110 : decode cX11_plan 110 = .ok (.iload_n 1, 1) := by decide +kernel
theorem dX11_plan_111 : decode cX11_plan 111 = .ok (.ifCond .ge 6, 3) := by decide +kernel
theorem dX11_plan_114 : decode cX11_plan 114 = .ok (.bipush (-3), 2) := by decide +kernel
theorem dX11_plan_116 : decode cX11_plan 116 = .ok (.ireturn, 1) := by decide +kernel
theorem dX11_plan_117 : decode cX11_plan 117 = .ok (.aload_n 0, 1) := by decide +kernel
theorem dX11_plan_118 : decode cX11_plan 118 = .ok (.iconst 0, 1) := by decide +kernel
theorem dX11_plan_119 : decode cX11_plan 119 = .ok (.putfield 175, 3) := by decide +kernel
theorem dX11_plan_122 : decode cX11_plan 122 = .ok (.iload_n 1, 1) := by decide +kernel
theorem dX11_plan_123 : decode cX11_plan 123 = .ok (.istore_n 2, 1) := by decide +kernel
theorem dX11_plan_124 : decode cX11_plan 124 = .ok (.aload_n 0, 1) := by decide +kernel
theorem dX11_plan_125 : decode cX11_plan 125 = .ok (.getfield 32, 3) := by decide +kernel
theorem dX11_plan_128 : decode cX11_plan 128 = .ok (.iload_n 2, 1) := by decide +kernel
theorem dX11_plan_129 : decode cX11_plan 129 = .ok (.iaload, 1) := by decide +kernel
theorem dX11_plan_130 : decode cX11_plan 130 = .ok (.ifCond .lt 23, 3) := by decide +kernel
theorem dX11_plan_133 : decode cX11_plan 133 = .ok (.aload_n 0, 1) := by decide +kernel
theorem dX11_plan_134 : decode cX11_plan 134 = .ok (.dup, 1) := by decide +kernel
theorem dX11_plan_135 : decode cX11_plan 135 = .ok (.getfield 175, 3) := by decide +kernel
theorem dX11_plan_138 : decode cX11_plan 138 = .ok (.iconst 1, 1) := by decide +kernel
theorem dX11_plan_139 : decode cX11_plan 139 = .ok (.iadd, 1) := by decide +kernel
theorem dX11_plan_140 : decode cX11_plan 140 = .ok (.putfield 175, 3) := by decide +kernel
theorem dX11_plan_143 : decode cX11_plan 143 = .ok (.aload_n 0, 1) := by decide +kernel
theorem dX11_plan_144 : decode cX11_plan 144 = .ok (.getfield 32, 3) := by decide +kernel
theorem dX11_plan_147 : decode cX11_plan 147 = .ok (.iload_n 2, 1) := by decide +kernel
theorem dX11_plan_148 : decode cX11_plan 148 = .ok (.iaload, 1) := by decide +kernel
theorem dX11_plan_149 : decode cX11_plan 149 = .ok (.istore_n 2, 1) := by decide +kernel
theorem dX11_plan_150 : decode cX11_plan 150 = .ok (.goto (-26), 3) := by decide +kernel
theorem dX11_plan_153 : decode cX11_plan 153 = .ok (.aload_n 0, 1) := by decide +kernel
theorem dX11_plan_154 : decode cX11_plan 154 = .ok (.getfield 175, 3) := by decide +kernel
theorem dX11_plan_157 : decode cX11_plan 157 = .ok (.istore_n 2, 1) := by decide +kernel
theorem dX11_plan_158 : decode cX11_plan 158 = .ok (.iload_n 1, 1) := by decide +kernel
theorem dX11_plan_159 : decode cX11_plan 159 = .ok (.istore_n 3, 1) := by decide +kernel
theorem dX11_plan_160 : decode cX11_plan 160 = .ok (.aload_n 0, 1) := by decide +kernel
theorem dX11_plan_161 : decode cX11_plan 161 = .ok (.getfield 32, 3) := by decide +kernel
theorem dX11_plan_164 : decode cX11_plan 164 = .ok (.iload_n 3, 1) := by decide +kernel
theorem dX11_plan_165 : decode cX11_plan 165 = .ok (.iaload, 1) := by decide +kernel
theorem dX11_plan_166 : decode cX11_plan 166 = .ok (.ifCond .lt 46, 3) := by decide +kernel
theorem dX11_plan_169 : decode cX11_plan 169 = .ok (.iinc 2 (-1), 3) := by decide +kernel
theorem dX11_plan_172 : decode cX11_plan 172 = .ok (.aload_n 0, 1) := by decide +kernel
theorem dX11_plan_173 : decode cX11_plan 173 = .ok (.getfield 38, 3) := by decide +kernel
theorem dX11_plan_176 : decode cX11_plan 176 = .ok (.iload_n 2, 1) := by decide +kernel
theorem dX11_plan_177 : decode cX11_plan 177 = .ok (.aload_n 0, 1) := by decide +kernel
theorem dX11_plan_178 : decode cX11_plan 178 = .ok (.getfield 35, 3) := by decide +kernel
theorem dX11_plan_181 : decode cX11_plan 181 = .ok (.iload_n 3, 1) := by decide +kernel
theorem dX11_plan_182 : decode cX11_plan 182 = .ok (.iaload, 1) := by decide +kernel
theorem dX11_plan_183 : decode cX11_plan 183 = .ok (.bipush 16, 2) := by decide +kernel
theorem dX11_plan_185 : decode cX11_plan 185 = .ok (.idiv, 1) := by decide +kernel
theorem dX11_plan_186 : decode cX11_plan 186 = .ok (.iastore, 1) := by decide +kernel
theorem dX11_plan_187 : decode cX11_plan 187 = .ok (.aload_n 0, 1) := by decide +kernel
theorem dX11_plan_188 : decode cX11_plan 188 = .ok (.getfield 41, 3) := by decide +kernel
theorem dX11_plan_191 : decode cX11_plan 191 = .ok (.iload_n 2, 1) := by decide +kernel
theorem dX11_plan_192 : decode cX11_plan 192 = .ok (.aload_n 0, 1) := by decide +kernel
theorem dX11_plan_193 : decode cX11_plan 193 = .ok (.getfield 35, 3) := by decide +kernel
theorem dX11_plan_196 : decode cX11_plan 196 = .ok (.iload_n 3, 1) := by decide +kernel
theorem dX11_plan_197 : decode cX11_plan 197 = .ok (.iaload, 1) := by decide +kernel
theorem dX11_plan_198 : decode cX11_plan 198 = .ok (.bipush 16, 2) := by decide +kernel
theorem dX11_plan_200 : decode cX11_plan 200 = .ok (.irem, 1) := by decide +kernel
theorem dX11_plan_201 : decode cX11_plan 201 = .ok (.iastore, 1) := by decide +kernel
theorem dX11_plan_202 : decode cX11_plan 202 = .ok (.aload_n 0, 1) := by decide +kernel
theorem dX11_plan_203 : decode cX11_plan 203 = .ok (.getfield 32, 3) := by decide +kernel
theorem dX11_plan_206 : decode cX11_plan 206 = .ok (.iload_n 3, 1) := by decide +kernel
theorem dX11_plan_207 : decode cX11_plan 207 = .ok (.iaload, 1) := by decide +kernel
theorem dX11_plan_208 : decode cX11_plan 208 = .ok (.istore_n 3, 1) := by decide +kernel
theorem dX11_plan_209 : decode cX11_plan 209 = .ok (.goto (-49), 3) := by decide +kernel
theorem dX11_plan_212 : decode cX11_plan 212 = .ok (.aload_n 0, 1) := by decide +kernel
theorem dX11_plan_213 : decode cX11_plan 213 = .ok (.getfield 175, 3) := by decide +kernel
theorem dX11_plan_216 : decode cX11_plan 216 = .ok (.ireturn, 1) := by decide +kernel
theorem dX11_step_0 : decode cX11_step 0 = .ok (.iload_n 1, 1) := by decide +kernel
theorem dX11_step_1 : decode cX11_step 1 = .ok (.iconst 0, 1) := by decide +kernel
theorem dX11_step_2 : decode cX11_step 2 = .ok (.aload_n 0, 1) := by decide +kernel
theorem dX11_step_3 : decode cX11_step 3 = .ok (.getfield 175, 3) := by decide +kernel
theorem dX11_step_6 : decode cX11_step 6 = .ok (.iconst 1, 1) := by decide +kernel
theorem dX11_step_7 : decode cX11_step 7 = .ok (.isub, 1) := by decide +kernel
theorem dX11_step_8 : decode cX11_step 8 = .ok (.invokestatic 50, 3) := by decide +kernel
theorem dX11_step_11 : decode cX11_step 11 = .ok (.ifCond .eq 34, 3) := by decide +kernel
theorem dX11_step_14 : decode cX11_step 14 = .ok (.iload_n 2, 1) := by decide +kernel
theorem dX11_step_15 : decode cX11_step 15 = .ok (.iconst 0, 1) := by decide +kernel
theorem dX11_step_16 : decode cX11_step 16 = .ok (.iconst 1, 1) := by decide +kernel
theorem dX11_step_17 : decode cX11_step 17 = .ok (.invokestatic 50, 3) := by decide +kernel
theorem dX11_step_20 : decode cX11_step 20 = .ok (.ifCond .eq 25, 3) := by decide +kernel
theorem dX11_step_23 : decode cX11_step 23 = .ok (.iload_n 2, 1) := by decide +kernel
theorem dX11_step_24 : decode cX11_step 24 = .ok (.ifCond .ne 12, 3) := by decide +kernel
theorem dX11_step_27 : decode cX11_step 27 = .ok (.aload_n 0, 1) := by decide +kernel
theorem dX11_step_28 : decode cX11_step 28 = .ok (.getfield 38, 3) := by decide +kernel
theorem dX11_step_31 : decode cX11_step 31 = .ok (.iload_n 1, 1) := by decide +kernel
theorem dX11_step_32 : decode cX11_step 32 = .ok (.iaload, 1) := by decide +kernel
theorem dX11_step_33 : decode cX11_step 33 = .ok (.goto 13, 3) := by decide +kernel
theorem dX11_step_36 : decode cX11_step 36 = .ok (.aload_n 0, 1) := by decide +kernel
theorem dX11_step_37 : decode cX11_step 37 = .ok (.getfield 41, 3) := by decide +kernel
theorem dX11_step_40 : decode cX11_step 40 = .ok (.iload_n 1, 1) := by decide +kernel
theorem dX11_step_41 : decode cX11_step 41 = .ok (.iaload, 1) := by decide +kernel
theorem dX11_step_42 : decode cX11_step 42 = .ok (.goto 4, 3) := by decide +kernel
theorem dX11_step_45 : decode cX11_step 45 = .ok (.iconst (-1), 1) := by decide +kernel
theorem dX11_step_46 : decode cX11_step 46 = .ok (.ireturn, 1) := by decide +kernel
theorem dX11_hostsOfFew_0 : decode cX11_hostsOfFew 0 = .ok (.iconst 0, 1) := by decide +kernel
theorem dX11_hostsOfFew_1 : decode cX11_hostsOfFew 1 = .ok (.istore_n 1, 1) := by decide +kernel
theorem dX11_hostsOfFew_2 : decode cX11_hostsOfFew 2 = .ok (.iconst 0, 1) := by decide +kernel
theorem dX11_hostsOfFew_3 : decode cX11_hostsOfFew 3 = .ok (.istore_n 2, 1) := by decide +kernel
theorem dX11_hostsOfFew_4 : decode cX11_hostsOfFew 4 = .ok (.iload_n 2, 1) := by decide +kernel
theorem dX11_hostsOfFew_5 : decode cX11_hostsOfFew 5 = .ok (.aload_n 0, 1) := by decide +kernel
theorem dX11_hostsOfFew_6 : decode cX11_hostsOfFew 6 = .ok (.getfield 138, 3) := by decide +kernel
theorem dX11_hostsOfFew_9 : decode cX11_hostsOfFew 9 = .ok (.if_icmp .ge 29, 3) := by decide +kernel
theorem dX11_hostsOfFew_12 : decode cX11_hostsOfFew 12 = .ok (.iload_n 1, 1) := by decide +kernel
theorem dX11_hostsOfFew_13 : decode cX11_hostsOfFew 13 = .ok (.iconst 1, 1) := by decide +kernel
theorem dX11_hostsOfFew_14 : decode cX11_hostsOfFew 14 = .ok (.aload_n 0, 1) := by decide +kernel
theorem dX11_hostsOfFew_15 : decode cX11_hostsOfFew 15 = .ok (.getfield 7, 3) := by decide +kernel
theorem dX11_hostsOfFew_18 : decode cX11_hostsOfFew 18 = .ok (.sipush 282, 3) := by decide +kernel
theorem dX11_hostsOfFew_21 : decode cX11_hostsOfFew 21 = .ok (.aload_n 0, 1) := by decide +kernel
theorem dX11_hostsOfFew_22 : decode cX11_hostsOfFew 22 = .ok (.getfield 22, 3) := by decide +kernel
theorem dX11_hostsOfFew_25 : decode cX11_hostsOfFew 25 = .ok (.iload_n 2, 1) := by decide +kernel
theorem dX11_hostsOfFew_26 : decode cX11_hostsOfFew 26 = .ok (.iaload, 1) := by decide +kernel
theorem dX11_hostsOfFew_27 : decode cX11_hostsOfFew 27 = .ok (.iadd, 1) := by decide +kernel
theorem dX11_hostsOfFew_28 : decode cX11_hostsOfFew 28 = .ok (.iaload, 1) := by decide +kernel
theorem dX11_hostsOfFew_29 : decode cX11_hostsOfFew 29 = .ok (.ishl, 1) := by decide +kernel
theorem dX11_hostsOfFew_30 : decode cX11_hostsOfFew 30 = .ok (.ior, 1) := by decide +kernel
theorem dX11_hostsOfFew_31 : decode cX11_hostsOfFew 31 = .ok (.istore_n 1, 1) := by decide +kernel
theorem dX11_hostsOfFew_32 : decode cX11_hostsOfFew 32 = .ok (.iinc 2 1, 3) := by decide +kernel
theorem dX11_hostsOfFew_35 : decode cX11_hostsOfFew 35 = .ok (.goto (-31), 3) := by decide +kernel
theorem dX11_hostsOfFew_38 : decode cX11_hostsOfFew 38 = .ok (.iconst 0, 1) := by decide +kernel
theorem dX11_hostsOfFew_39 : decode cX11_hostsOfFew 39 = .ok (.istore_n 2, 1) := by decide +kernel
theorem dX11_hostsOfFew_40 : decode cX11_hostsOfFew 40 = .ok (.iconst 0, 1) := by decide +kernel
theorem dX11_hostsOfFew_41 : decode cX11_hostsOfFew 41 = .ok (.istore_n 3, 1) := by decide +kernel
theorem dX11_hostsOfFew_42 : decode cX11_hostsOfFew 42 = .ok (.iload_n 3, 1) := by decide +kernel
theorem dX11_hostsOfFew_43 : decode cX11_hostsOfFew 43 = .ok (.bipush 10, 2) := by decide +kernel
theorem dX11_hostsOfFew_45 : decode cX11_hostsOfFew 45 = .ok (.if_icmp .ge 17, 3) := by decide +kernel
theorem dX11_hostsOfFew_48 : decode cX11_hostsOfFew 48 = .ok (.iload_n 2, 1) := by decide +kernel
theorem dX11_hostsOfFew_49 : decode cX11_hostsOfFew 49 = .ok (.iload_n 1, 1) := by decide +kernel
theorem dX11_hostsOfFew_50 : decode cX11_hostsOfFew 50 = .ok (.iload_n 3, 1) := by decide +kernel
theorem dX11_hostsOfFew_51 : decode cX11_hostsOfFew 51 = .ok (.ishr, 1) := by decide +kernel
theorem dX11_hostsOfFew_52 : decode cX11_hostsOfFew 52 = .ok (.iconst 1, 1) := by decide +kernel
theorem dX11_hostsOfFew_53 : decode cX11_hostsOfFew 53 = .ok (.iand, 1) := by decide +kernel
theorem dX11_hostsOfFew_54 : decode cX11_hostsOfFew 54 = .ok (.iadd, 1) := by decide +kernel
theorem dX11_hostsOfFew_55 : decode cX11_hostsOfFew 55 = .ok (.istore_n 2, 1) := by decide +kernel
theorem dX11_hostsOfFew_56 : decode cX11_hostsOfFew 56 = .ok (.iinc 3 1, 3) := by decide +kernel
theorem dX11_hostsOfFew_59 : decode cX11_hostsOfFew 59 = .ok (.goto (-17), 3) := by decide +kernel
theorem dX11_hostsOfFew_62 : decode cX11_hostsOfFew 62 = .ok (.iload_n 2, 1) := by decide +kernel
theorem dX11_hostsOfFew_63 : decode cX11_hostsOfFew 63 = .ok (.ireturn, 1) := by decide +kernel
theorem dX11_fewest_0 : decode cX11_fewest 0 = .ok (.aload_n 0, 1) := by decide +kernel
theorem dX11_fewest_1 : decode cX11_fewest 1 = .ok (.iconst 0, 1) := by decide +kernel
theorem dX11_fewest_2 : decode cX11_fewest 2 = .ok (.putfield 138, 3) := by decide +kernel
theorem dX11_fewest_5 : decode cX11_fewest 5 = .ok (.iconst 0, 1) := by decide +kernel
theorem dX11_fewest_6 : decode cX11_fewest 6 = .ok (.istore_n 1, 1) := by decide +kernel
theorem dX11_fewest_7 : decode cX11_fewest 7 = .ok (.iload_n 1, 1) := by decide +kernel
theorem dX11_fewest_8 : decode cX11_fewest 8 = .ok (.aload_n 0, 1) := by decide +kernel
theorem dX11_fewest_9 : decode cX11_fewest 9 = .ok (.getfield 7, 3) := by decide +kernel
theorem dX11_fewest_12 : decode cX11_fewest 12 = .ok (.iconst 1, 1) := by decide +kernel
theorem dX11_fewest_13 : decode cX11_fewest 13 = .ok (.iaload, 1) := by decide +kernel
theorem dX11_fewest_14 : decode cX11_fewest 14 = .ok (.if_icmp .ge 67, 3) := by decide +kernel
theorem dX11_fewest_17 : decode cX11_fewest 17 = .ok (.aload_n 0, 1) := by decide +kernel
theorem dX11_fewest_18 : decode cX11_fewest 18 = .ok (.getfield 7, 3) := by decide +kernel
theorem dX11_fewest_21 : decode cX11_fewest 21 = .ok (.sipush 258, 3) := by decide +kernel
theorem dX11_fewest_24 : decode cX11_fewest 24 = .ok (.iload_n 1, 1) := by decide +kernel
theorem dX11_fewest_25 : decode cX11_fewest 25 = .ok (.iadd, 1) := by decide +kernel
theorem dX11_fewest_26 : decode cX11_fewest 26 = .ok (.iaload, 1) := by decide +kernel
theorem dX11_fewest_27 : decode cX11_fewest 27 = .ok (.iconst 1, 1) := by decide +kernel
theorem dX11_fewest_28 : decode cX11_fewest 28 = .ok (.if_icmp .ne 47, 3) := by decide +kernel
theorem dX11_fewest_31 : decode cX11_fewest 31 = .ok (.aload_n 0, 1) := by decide +kernel
theorem dX11_fewest_32 : decode cX11_fewest 32 = .ok (.getfield 7, 3) := by decide +kernel
theorem dX11_fewest_35 : decode cX11_fewest 35 = .ok (.bipush 66, 2) := by decide +kernel
theorem dX11_fewest_37 : decode cX11_fewest 37 = .ok (.iload_n 1, 1) := by decide +kernel
theorem dX11_fewest_38 : decode cX11_fewest 38 = .ok (.iadd, 1) := by decide +kernel
theorem dX11_fewest_39 : decode cX11_fewest 39 = .ok (.iaload, 1) := by decide +kernel
theorem dX11_fewest_40 : decode cX11_fewest 40 = .ok (.iconst 3, 1) := by decide +kernel
theorem dX11_fewest_41 : decode cX11_fewest 41 = .ok (.if_icmp .eq 34, 3) := by decide +kernel
theorem dX11_fewest_44 : decode cX11_fewest 44 = .ok (.aload_n 0, 1) := by decide +kernel
theorem dX11_fewest_45 : decode cX11_fewest 45 = .ok (.getfield 138, 3) := by decide +kernel
theorem dX11_fewest_48 : decode cX11_fewest 48 = .ok (.iconst 5, 1) := by decide +kernel
theorem dX11_fewest_49 : decode cX11_fewest 49 = .ok (.if_icmp .ne 6, 3) := by decide +kernel
theorem dX11_fewest_52 : decode cX11_fewest 52 = .ok (.bipush (-4), 2) := by decide +kernel
theorem dX11_fewest_54 : decode cX11_fewest 54 = .ok (.ireturn, 1) := by decide +kernel
theorem dX11_fewest_55 : decode cX11_fewest 55 = .ok (.aload_n 0, 1) := by decide +kernel
theorem dX11_fewest_56 : decode cX11_fewest 56 = .ok (.getfield 22, 3) := by decide +kernel
theorem dX11_fewest_59 : decode cX11_fewest 59 = .ok (.aload_n 0, 1) := by decide +kernel
theorem dX11_fewest_60 : decode cX11_fewest 60 = .ok (.getfield 138, 3) := by decide +kernel
theorem dX11_fewest_63 : decode cX11_fewest 63 = .ok (.iload_n 1, 1) := by decide +kernel
theorem dX11_fewest_64 : decode cX11_fewest 64 = .ok (.iastore, 1) := by decide +kernel
theorem dX11_fewest_65 : decode cX11_fewest 65 = .ok (.aload_n 0, 1) := by decide +kernel
theorem dX11_fewest_66 : decode cX11_fewest 66 = .ok (.dup, 1) := by decide +kernel
theorem dX11_fewest_67 : decode cX11_fewest 67 = .ok (.getfield 138, 3) := by decide +kernel
theorem dX11_fewest_70 : decode cX11_fewest 70 = .ok (.iconst 1, 1) := by decide +kernel
theorem dX11_fewest_71 : decode cX11_fewest 71 = .ok (.iadd, 1) := by decide +kernel
theorem dX11_fewest_72 : decode cX11_fewest 72 = .ok (.putfield 138, 3) := by decide +kernel
theorem dX11_fewest_75 : decode cX11_fewest 75 = .ok (.iinc 1 1, 3) := by decide +kernel
theorem dX11_fewest_78 : decode cX11_fewest 78 = .ok (.goto (-71), 3) := by decide +kernel
theorem dX11_fewest_81 : decode cX11_fewest 81 = .ok (.aload_n 0, 1) := by decide +kernel
theorem dX11_fewest_82 : decode cX11_fewest 82 = .ok (.invokevirtual 126, 3) := by decide +kernel
theorem dX11_fewest_85 : decode cX11_fewest 85 = .ok (.iconst 0, 1) := by decide +kernel
theorem dX11_fewest_86 : decode cX11_fewest 86 = .ok (.istore_n 1, 1) := by decide +kernel
theorem dX11_fewest_87 : decode cX11_fewest 87 = .ok (.iload_n 1, 1) := by decide +kernel
theorem dX11_fewest_88 : decode cX11_fewest 88 = .ok (.aload_n 0, 1) := by decide +kernel
theorem dX11_fewest_89 : decode cX11_fewest 89 = .ok (.getfield 138, 3) := by decide +kernel
theorem dX11_fewest_92 : decode cX11_fewest 92 = .ok (.if_icmp .ge 25, 3) := by decide +kernel
theorem dX11_fewest_95 : decode cX11_fewest 95 = .ok (.aload_n 0, 1) := by decide +kernel
theorem dX11_fewest_96 : decode cX11_fewest 96 = .ok (.getfield 7, 3) := by decide +kernel
theorem dX11_fewest_99 : decode cX11_fewest 99 = .ok (.sipush 258, 3) := by decide +kernel
theorem dX11_fewest_102 : decode cX11_fewest 102 = .ok (.aload_n 0, 1) := by decide +kernel
theorem dX11_fewest_103 : decode cX11_fewest 103 = .ok (.getfield 22, 3) := by decide +kernel
theorem dX11_fewest_106 : decode cX11_fewest 106 = .ok (.iload_n 1, 1) := by decide +kernel
theorem dX11_fewest_107 : decode cX11_fewest 107 = .ok (.iaload, 1) := by decide +kernel
theorem dX11_fewest_108 : decode cX11_fewest 108 = .ok (.iadd, 1) := by decide +kernel
theorem dX11_fewest_109 : decode cX11_fewest 109 = .ok (.iconst 0, 1) := by decide +kernel
theorem dX11_fewest_110 : decode cX11_fewest 110 = .ok (.iastore, 1) := by decide +kernel
theorem dX11_fewest_111 : decode cX11_fewest 111 = .ok (.iinc 1 1, 3) := by decide +kernel
theorem dX11_fewest_114 : decode cX11_fewest 114 = .ok (.goto (-27), 3) := by decide +kernel
theorem dX11_fewest_117 : decode cX11_fewest 117 = .ok (.bipush (-3), 2) := by decide +kernel
theorem dX11_fewest_119 : decode cX11_fewest 119 = .ok (.istore_n 1, 1) := by decide +kernel
theorem dX11_fewest_120 : decode cX11_fewest 120 = .ok (.iconst 0, 1) := by decide +kernel
theorem dX11_fewest_121 : decode cX11_fewest 121 = .ok (.istore_n 2, 1) := by decide +kernel
theorem dX11_fewest_122 : decode cX11_fewest 122 = .ok (.aload_n 0, 1) := by decide +kernel
theorem dX11_fewest_123 : decode cX11_fewest 123 = .ok (.getfield 44, 3) := by decide +kernel
theorem dX11_fewest_126 : decode cX11_fewest 126 = .ok (.iconst 0, 1) := by decide +kernel
theorem dX11_fewest_127 : decode cX11_fewest 127 = .ok (.iconst (-1), 1) := by decide +kernel
theorem dX11_fewest_128 : decode cX11_fewest 128 = .ok (.iastore, 1) := by decide +kernel
theorem dX11_fewest_129 : decode cX11_fewest 129 = .ok (.iload_n 2, 1) := by decide +kernel
theorem dX11_fewest_130 : decode cX11_fewest 130 = .ok (.ifCond .lt 153, 3) := by decide +kernel
theorem dX11_fewest_133 : decode cX11_fewest 133 = .ok (.iload_n 2, 1) := by decide +kernel
theorem dX11_fewest_134 : decode cX11_fewest 134 = .ok (.aload_n 0, 1) := by decide +kernel
theorem dX11_fewest_135 : decode cX11_fewest 135 = .ok (.getfield 138, 3) := by decide +kernel
theorem dX11_fewest_138 : decode cX11_fewest 138 = .ok (.if_icmp .ne 29, 3) := by decide +kernel
theorem dX11_fewest_141 : decode cX11_fewest 141 = .ok (.aload_n 0, 1) := by decide +kernel
theorem dX11_fewest_142 : decode cX11_fewest 142 = .ok (.invokevirtual 178, 3) := by decide +kernel
theorem dX11_fewest_145 : decode cX11_fewest 145 = .ok (.istore_n 3, 1) := by decide +kernel
theorem dX11_fewest_146 : decode cX11_fewest 146 = .ok (.iload_n 1, 1) := by decide +kernel
theorem dX11_fewest_147 : decode cX11_fewest 147 = .ok (.ifCond .lt 8, 3) := by decide +kernel
theorem dX11_fewest_150 : decode cX11_fewest 150 = .ok (.iload_n 3, 1) := by decide +kernel
theorem dX11_fewest_151 : decode cX11_fewest 151 = .ok (.iload_n 1, 1) := by decide +kernel
theorem dX11_fewest_152 : decode cX11_fewest 152 = .ok (.if_icmp .ge 7, 3) := by decide +kernel
theorem dX11_fewest_155 : decode cX11_fewest 155 = .ok (.iload_n 3, 1) := by decide +kernel
theorem dX11_fewest_156 : decode cX11_fewest 156 = .ok (.goto 4, 3) := by decide +kernel
theorem dX11_fewest_159 : decode cX11_fewest 159 = .ok (.iload_n 1, 1) := by decide +kernel
theorem dX11_fewest_160 : decode cX11_fewest 160 = .ok (.istore_n 1, 1) := by decide +kernel
theorem dX11_fewest_161 : decode cX11_fewest 161 = .ok (.iinc 2 (-1), 3) := by decide +kernel
theorem dX11_fewest_164 : decode cX11_fewest 164 = .ok (.goto (-35), 3) := by decide +kernel
theorem dX11_fewest_167 : decode cX11_fewest 167 = .ok (.aload_n 0, 1) := by decide +kernel
theorem dX11_fewest_168 : decode cX11_fewest 168 = .ok (.getfield 22, 3) := by decide +kernel
theorem dX11_fewest_171 : decode cX11_fewest 171 = .ok (.iload_n 2, 1) := by decide +kernel
theorem dX11_fewest_172 : decode cX11_fewest 172 = .ok (.iaload, 1) := by decide +kernel
theorem dX11_fewest_173 : decode cX11_fewest 173 = .ok (.istore_n 3, 1) := by decide +kernel
theorem dX11_fewest_174 : decode cX11_fewest 174 = .ok (.aload_n 0, 1) := by decide +kernel
theorem dX11_fewest_175 : decode cX11_fewest 175 = .ok (.getfield 7, 3) := by decide +kernel
theorem dX11_fewest_178 : decode cX11_fewest 178 = .ok (.sipush 258, 3) := by decide +kernel
theorem dX11_fewest_181 : decode cX11_fewest 181 = .ok (.iload_n 3, 1) := by decide +kernel
theorem dX11_fewest_182 : decode cX11_fewest 182 = .ok (.iadd, 1) := by decide +kernel
theorem dX11_fewest_183 : decode cX11_fewest 183 = .ok (.iconst 0, 1) := by decide +kernel
theorem dX11_fewest_184 : decode cX11_fewest 184 = .ok (.iastore, 1) := by decide +kernel
theorem dX11_fewest_185 : decode cX11_fewest 185 = .ok (.aload_n 0, 1) := by decide +kernel
theorem dX11_fewest_186 : decode cX11_fewest 186 = .ok (.getfield 44, 3) := by decide +kernel
theorem dX11_fewest_189 : decode cX11_fewest 189 = .ok (.iload_n 2, 1) := by decide +kernel
theorem dX11_fewest_190 : decode cX11_fewest 190 = .ok (.iaload, 1) := by decide +kernel
theorem dX11_fewest_191 : decode cX11_fewest 191 = .ok (.iconst 1, 1) := by decide +kernel
theorem dX11_fewest_192 : decode cX11_fewest 192 = .ok (.iadd, 1) := by decide +kernel
theorem dX11_fewest_193 : decode cX11_fewest 193 = .ok (.istore 4, 2) := by decide +kernel
theorem dX11_fewest_195 : decode cX11_fewest 195 = .ok (.iload 4, 2) := by decide +kernel
theorem dX11_fewest_197 : decode cX11_fewest 197 = .ok (.aload_n 0, 1) := by decide +kernel
theorem dX11_fewest_198 : decode cX11_fewest 198 = .ok (.getfield 7, 3) := by decide +kernel
theorem dX11_fewest_201 : decode cX11_fewest 201 = .ok (.iconst 0, 1) := by decide +kernel
theorem dX11_fewest_202 : decode cX11_fewest 202 = .ok (.iaload, 1) := by decide +kernel
theorem dX11_fewest_203 : decode cX11_fewest 203 = .ok (.if_icmp .ge 19, 3) := by decide +kernel
theorem dX11_fewest_206 : decode cX11_fewest 206 = .ok (.aload_n 0, 1) := by decide +kernel
theorem dX11_fewest_207 : decode cX11_fewest 207 = .ok (.iload_n 3, 1) := by decide +kernel
theorem dX11_fewest_208 : decode cX11_fewest 208 = .ok (.iload 4, 2) := by decide +kernel
theorem dX11_fewest_210 : decode cX11_fewest 210 = .ok (.invokevirtual 98, 3) := by decide +kernel
theorem dX11_fewest_213 : decode cX11_fewest 213 = .ok (.ifCond .eq 9, 3) := by decide +kernel
theorem dX11_fewest_216 : decode cX11_fewest 216 = .ok (.iinc 4 1, 3) := by decide +kernel
theorem dX11_fewest_219 : decode cX11_fewest 219 = .ok (.goto (-24), 3) := by decide +kernel
theorem dX11_fewest_222 : decode cX11_fewest 222 = .ok (.aload_n 0, 1) := by decide +kernel
theorem dX11_fewest_223 : decode cX11_fewest 223 = .ok (.getfield 44, 3) := by decide +kernel
theorem dX11_fewest_226 : decode cX11_fewest 226 = .ok (.iload_n 2, 1) := by decide +kernel
theorem dX11_fewest_227 : decode cX11_fewest 227 = .ok (.iload 4, 2) := by decide +kernel
theorem dX11_fewest_229 : decode cX11_fewest 229 = .ok (.iastore, 1) := by decide +kernel
theorem dX11_fewest_230 : decode cX11_fewest 230 = .ok (.iload 4, 2) := by decide +kernel
theorem dX11_fewest_232 : decode cX11_fewest 232 = .ok (.aload_n 0, 1) := by decide +kernel
theorem dX11_fewest_233 : decode cX11_fewest 233 = .ok (.getfield 7, 3) := by decide +kernel
theorem dX11_fewest_236 : decode cX11_fewest 236 = .ok (.iconst 0, 1) := by decide +kernel
theorem dX11_fewest_237 : decode cX11_fewest 237 = .ok (.iaload, 1) := by decide +kernel
theorem dX11_fewest_238 : decode cX11_fewest 238 = .ok (.if_icmp .lt 9, 3) := by decide +kernel
theorem dX11_fewest_241 : decode cX11_fewest 241 = .ok (.iinc 2 (-1), 3) := by decide +kernel
theorem dX11_fewest_244 : decode cX11_fewest 244 = .ok (.goto 36, 3) := by decide +kernel
theorem dX11_fewest_247 : decode cX11_fewest 247 = .ok (.aload_n 0, 1) := by decide +kernel
theorem dX11_fewest_248 : decode cX11_fewest 248 = .ok (.getfield 7, 3) := by decide +kernel
theorem dX11_fewest_251 : decode cX11_fewest 251 = .ok (.sipush 258, 3) := by decide +kernel
theorem dX11_fewest_254 : decode cX11_fewest 254 = .ok (.iload_n 3, 1) := by decide +kernel
theorem dX11_fewest_255 : decode cX11_fewest 255 = .ok (.iadd, 1) := by decide +kernel
theorem dX11_fewest_256 : decode cX11_fewest 256 = .ok (.iconst 1, 1) := by decide +kernel
theorem dX11_fewest_257 : decode cX11_fewest 257 = .ok (.iastore, 1) := by decide +kernel
theorem dX11_fewest_258 : decode cX11_fewest 258 = .ok (.aload_n 0, 1) := by decide +kernel
theorem dX11_fewest_259 : decode cX11_fewest 259 = .ok (.getfield 7, 3) := by decide +kernel
theorem dX11_fewest_262 : decode cX11_fewest 262 = .ok (.sipush 282, 3) := by decide +kernel
theorem dX11_fewest_265 : decode cX11_fewest 265 = .ok (.iload_n 3, 1) := by decide +kernel
theorem dX11_fewest_266 : decode cX11_fewest 266 = .ok (.iadd, 1) := by decide +kernel
theorem dX11_fewest_267 : decode cX11_fewest 267 = .ok (.iload 4, 2) := by decide +kernel
theorem dX11_fewest_269 : decode cX11_fewest 269 = .ok (.iastore, 1) := by decide +kernel
theorem dX11_fewest_270 : decode cX11_fewest 270 = .ok (.iinc 2 1, 3) := by decide +kernel
theorem dX11_fewest_273 : decode cX11_fewest 273 = .ok (.aload_n 0, 1) := by decide +kernel
theorem dX11_fewest_274 : decode cX11_fewest 274 = .ok (.getfield 44, 3) := by decide +kernel
theorem dX11_fewest_277 : decode cX11_fewest 277 = .ok (.iload_n 2, 1) := by decide +kernel
theorem dX11_fewest_278 : decode cX11_fewest 278 = .ok (.iconst (-1), 1) := by decide +kernel
theorem dX11_fewest_279 : decode cX11_fewest 279 = .ok (.iastore, 1) := by decide +kernel
theorem dX11_fewest_280 : decode cX11_fewest 280 = .ok (.goto (-151), 3) := by decide +kernel
theorem dX11_fewest_283 : decode cX11_fewest 283 = .ok (.aload_n 0, 1) := by decide +kernel
theorem dX11_fewest_284 : decode cX11_fewest 284 = .ok (.invokevirtual 129, 3) := by decide +kernel
theorem dX11_fewest_287 : decode cX11_fewest 287 = .ok (.iload_n 1, 1) := by decide +kernel
theorem dX11_fewest_288 : decode cX11_fewest 288 = .ok (.ireturn, 1) := by decide +kernel
theorem dX11_fitsAny_0 : decode cX11_fitsAny 0 = .ok (.iconst 0, 1) := by decide +kernel
theorem dX11_fitsAny_1 : decode cX11_fitsAny 1 = .ok (.istore_n 2, 1) := by decide +kernel
theorem dX11_fitsAny_2 : decode cX11_fitsAny 2 = .ok (.iconst 0, 1) := by decide +kernel
theorem dX11_fitsAny_3 : decode cX11_fitsAny 3 = .ok (.istore_n 3, 1) := by decide +kernel
theorem dX11_fitsAny_4 : decode cX11_fitsAny 4 = .ok (.iload_n 3, 1) := by decide +kernel
theorem dX11_fitsAny_5 : decode cX11_fitsAny 5 = .ok (.aload_n 0, 1) := by decide +kernel
theorem dX11_fitsAny_6 : decode cX11_fitsAny 6 = .ok (.getfield 7, 3) := by decide +kernel
theorem dX11_fitsAny_9 : decode cX11_fitsAny 9 = .ok (.iconst 0, 1) := by decide +kernel
theorem dX11_fitsAny_10 : decode cX11_fitsAny 10 = .ok (.iaload, 1) := by decide +kernel
theorem dX11_fitsAny_11 : decode cX11_fitsAny 11 = .ok (.if_icmp .ge 28, 3) := by decide +kernel
theorem dX11_fitsAny_14 : decode cX11_fitsAny 14 = .ok (.iload_n 2, 1) := by decide +kernel
theorem dX11_fitsAny_15 : decode cX11_fitsAny 15 = .ok (.ifCond .ne 12, 3) := by decide +kernel
theorem dX11_fitsAny_18 : decode cX11_fitsAny 18 = .ok (.aload_n 0, 1) := by decide +kernel
theorem dX11_fitsAny_19 : decode cX11_fitsAny 19 = .ok (.iload_n 1, 1) := by decide +kernel
theorem dX11_fitsAny_20 : decode cX11_fitsAny 20 = .ok (.iload_n 3, 1) := by decide +kernel
theorem dX11_fitsAny_21 : decode cX11_fitsAny 21 = .ok (.invokevirtual 98, 3) := by decide +kernel
theorem dX11_fitsAny_24 : decode cX11_fitsAny 24 = .ok (.ifCond .ne 7, 3) := by decide +kernel
theorem dX11_fitsAny_27 : decode cX11_fitsAny 27 = .ok (.iconst 1, 1) := by decide +kernel
theorem dX11_fitsAny_28 : decode cX11_fitsAny 28 = .ok (.goto 4, 3) := by decide +kernel
theorem dX11_fitsAny_31 : decode cX11_fitsAny 31 = .ok (.iconst 0, 1) := by decide +kernel
theorem dX11_fitsAny_32 : decode cX11_fitsAny 32 = .ok (.istore_n 2, 1) := by decide +kernel
theorem dX11_fitsAny_33 : decode cX11_fitsAny 33 = .ok (.iinc 3 1, 3) := by decide +kernel
theorem dX11_fitsAny_36 : decode cX11_fitsAny 36 = .ok (.goto (-32), 3) := by decide +kernel
theorem dX11_fitsAny_39 : decode cX11_fitsAny 39 = .ok (.iload_n 2, 1) := by decide +kernel
theorem dX11_fitsAny_40 : decode cX11_fitsAny 40 = .ok (.ireturn, 1) := by decide +kernel
theorem dX11_tell_0 : decode cX11_tell 0 = .ok (.aload_n 0, 1) := by decide +kernel
theorem dX11_tell_1 : decode cX11_tell 1 = .ok (.getfield 47, 3) := by decide +kernel
theorem dX11_tell_4 : decode cX11_tell 4 = .ok (.iconst 0, 1) := by decide +kernel
theorem dX11_tell_5 : decode cX11_tell 5 = .ok (.iload_n 1, 1) := by decide +kernel
theorem dX11_tell_6 : decode cX11_tell 6 = .ok (.iastore, 1) := by decide +kernel
theorem dX11_tell_7 : decode cX11_tell 7 = .ok (.aload_n 0, 1) := by decide +kernel
theorem dX11_tell_8 : decode cX11_tell 8 = .ok (.getfield 47, 3) := by decide +kernel
theorem dX11_tell_11 : decode cX11_tell 11 = .ok (.iconst 1, 1) := by decide +kernel
theorem dX11_tell_12 : decode cX11_tell 12 = .ok (.iload_n 2, 1) := by decide +kernel
theorem dX11_tell_13 : decode cX11_tell 13 = .ok (.iastore, 1) := by decide +kernel
theorem dX11_tell_14 : decode cX11_tell 14 = .ok (.aload_n 0, 1) := by decide +kernel
theorem dX11_tell_15 : decode cX11_tell 15 = .ok (.getfield 47, 3) := by decide +kernel
theorem dX11_tell_18 : decode cX11_tell 18 = .ok (.iconst 2, 1) := by decide +kernel
theorem dX11_tell_19 : decode cX11_tell 19 = .ok (.iload_n 3, 1) := by decide +kernel
theorem dX11_tell_20 : decode cX11_tell 20 = .ok (.iastore, 1) := by decide +kernel
theorem dX11_tell_21 : decode cX11_tell 21 = .ok (.aload_n 0, 1) := by decide +kernel
theorem dX11_tell_22 : decode cX11_tell 22 = .ok (.getfield 47, 3) := by decide +kernel
theorem dX11_tell_25 : decode cX11_tell 25 = .ok (.iconst 3, 1) := by decide +kernel
theorem dX11_tell_26 : decode cX11_tell 26 = .ok (.iload 4, 2) := by decide +kernel
theorem dX11_tell_28 : decode cX11_tell 28 = .ok (.iastore, 1) := by decide +kernel
theorem dX11_tell_29 : decode cX11_tell 29 = .ok (.iconst 1, 1) := by decide +kernel
theorem dX11_tell_30 : decode cX11_tell 30 = .ok (.ireturn, 1) := by decide +kernel
theorem dX11_byTaint_0 : decode cX11_byTaint 0 = .ok (.aload_n 0, 1) := by decide +kernel
theorem dX11_byTaint_1 : decode cX11_byTaint 1 = .ok (.getfield 7, 3) := by decide +kernel
theorem dX11_byTaint_4 : decode cX11_byTaint 4 = .ok (.sipush 210, 3) := by decide +kernel
theorem dX11_byTaint_7 : decode cX11_byTaint 7 = .ok (.iload_n 1, 1) := by decide +kernel
theorem dX11_byTaint_8 : decode cX11_byTaint 8 = .ok (.iadd, 1) := by decide +kernel
theorem dX11_byTaint_9 : decode cX11_byTaint 9 = .ok (.iaload, 1) := by decide +kernel
theorem dX11_byTaint_10 : decode cX11_byTaint 10 = .ok (.istore_n 2, 1) := by decide +kernel
theorem dX11_byTaint_11 : decode cX11_byTaint 11 = .ok (.iconst 0, 1) := by decide +kernel
theorem dX11_byTaint_12 : decode cX11_byTaint 12 = .ok (.istore_n 3, 1) := by decide +kernel
theorem dX11_byTaint_13 : decode cX11_byTaint 13 = .ok (.iload_n 3, 1) := by decide +kernel
theorem dX11_byTaint_14 : decode cX11_byTaint 14 = .ok (.bipush 8, 2) := by decide +kernel
theorem dX11_byTaint_16 : decode cX11_byTaint 16 = .ok (.if_icmp .ge 87, 3) := by decide +kernel
theorem dX11_byTaint_19 : decode cX11_byTaint 19 = .ok (.iconst 0, 1) := by decide +kernel
theorem dX11_byTaint_20 : decode cX11_byTaint 20 = .ok (.istore 4, 2) := by decide +kernel
theorem dX11_byTaint_22 : decode cX11_byTaint 22 = .ok (.iload 4, 2) := by decide +kernel
theorem dX11_byTaint_24 : decode cX11_byTaint 24 = .ok (.aload_n 0, 1) := by decide +kernel
