theorem dX6_targets_6 : decode cX6_targets 6 = .ok (.getfield 42, 3) := by decide +kernel
theorem dX6_targets_9 : decode cX6_targets 9 = .ok (.if_icmp .ge 27, 3) := by decide +kernel
theorem dX6_targets_12 : decode cX6_targets 12 = .ok (.iload_n 1, 1) := by decide +kernel
theorem dX6_targets_13 : decode cX6_targets 13 = .ok (.aload_n 0, 1) := by decide +kernel
theorem dX6_targets_14 : decode cX6_targets 14 = .ok (.getfield 39, 3) := by decide +kernel
theorem dX6_targets_17 : decode cX6_targets 17 = .ok (.iload_n 2, 1) := by decide +kernel
theorem dX6_targets_18 : decode cX6_targets 18 = .ok (.iaload, 1) := by decide +kernel
theorem dX6_targets_19 : decode cX6_targets 19 = .ok (.iconst (-1), 1) := by decide +kernel
theorem dX6_targets_20 : decode cX6_targets 20 = .ok (.if_icmp .eq 7, 3) := by decide +kernel
theorem dX6_targets_23 : decode cX6_targets 23 = .ok (.iconst 1, 1) := by decide +kernel
theorem dX6_targets_24 : decode cX6_targets 24 = .ok (.goto 4, 3) := by decide +kernel
theorem dX6_targets_27 : decode cX6_targets 27 = .ok (.iconst 0, 1) := by decide +kernel
theorem dX6_targets_28 : decode cX6_targets 28 = .ok (.iadd, 1) := by decide +kernel
theorem dX6_targets_29 : decode cX6_targets 29 = .ok (.istore_n 1, 1) := by decide +kernel
theorem dX6_targets_30 : decode cX6_targets 30 = .ok (.iinc 2 1, 3) := by decide +kernel
theorem dX6_targets_33 : decode cX6_targets 33 = .ok (.goto (-29), 3) := by decide +kernel
theorem dX6_targets_36 : decode cX6_targets 36 = .ok (.iload_n 1, 1) := by decide +kernel
theorem dX6_targets_37 : decode cX6_targets 37 = .ok (.ireturn, 1) := by decide +kernel
theorem dX7_init_0 : decode cX7_init 0 = .ok (.aload_n 0, 1) := by decide +kernel
theorem dX7_init_1 : decode cX7_init 1 = .ok (.invokespecial 3, 3) := by decide +kernel
theorem dX7_init_4 : decode cX7_init 4 = .ok (.aload_n 0, 1) := by decide +kernel
theorem dX7_init_5 : decode cX7_init 5 = .ok (.bipush 30, 2) := by decide +kernel
theorem dX7_init_7 : decode cX7_init 7 = .ok (.bipush 112, 2) := by decide +kernel
theorem dX7_init_9 : decode cX7_init 9 = .ok (.multianewarray 11 2, 4) := by decide +kernel
theorem dX7_init_13 : decode cX7_init 13 = .ok (.putfield 13, 3) := by decide +kernel
theorem dX7_init_16 : decode cX7_init 16 = .ok (.aload_n 0, 1) := by decide +kernel
theorem dX7_init_17 : decode cX7_init 17 = .ok (.aload_n 1, 1) := by decide +kernel
theorem dX7_init_18 : decode cX7_init 18 = .ok (.putfield 16, 3) := by decide +kernel
theorem dX7_init_21 : decode cX7_init 21 = .ok (.aload_n 0, 1) := by decide +kernel
theorem dX7_init_22 : decode cX7_init 22 = .ok (.aload_n 2, 1) := by decide +kernel
theorem dX7_init_23 : decode cX7_init 23 = .ok (.putfield 20, 3) := by decide +kernel
theorem dX7_init_26 : decode cX7_init 26 = .ok (.aload_n 0, 1) := by decide +kernel
theorem dX7_init_27 : decode cX7_init 27 = .ok (.aload_n 3, 1) := by decide +kernel
theorem dX7_init_28 : decode cX7_init 28 = .ok (.putfield 24, 3) := by decide +kernel
theorem dX7_init_31 : decode cX7_init 31 = .ok (.return_, 1) := by decide +kernel
theorem dX7_keep_0 : decode cX7_keep 0 = .ok (.aload_n 0, 1) := by decide +kernel
theorem dX7_keep_1 : decode cX7_keep 1 = .ok (.getfield 13, 3) := by decide +kernel
theorem dX7_keep_4 : decode cX7_keep 4 = .ok (.aload_n 0, 1) := by decide +kernel
theorem dX7_keep_5 : decode cX7_keep 5 = .ok (.getfield 28, 3) := by decide +kernel
theorem dX7_keep_8 : decode cX7_keep 8 = .ok (.aaload, 1) := by decide +kernel
theorem dX7_keep_9 : decode cX7_keep 9 = .ok (.astore_n 1, 1) := by decide +kernel
theorem dX7_keep_10 : decode cX7_keep 10 = .ok (.aload_n 1, 1) := by decide +kernel
theorem dX7_keep_11 : decode cX7_keep 11 = .ok (.iconst 0, 1) := by decide +kernel
theorem dX7_keep_12 : decode cX7_keep 12 = .ok (.aload_n 0, 1) := by decide +kernel
theorem dX7_keep_13 : decode cX7_keep 13 = .ok (.getfield 16, 3) := by decide +kernel
theorem dX7_keep_16 : decode cX7_keep 16 = .ok (.getfield 32, 3) := by decide +kernel
theorem dX7_keep_19 : decode cX7_keep 19 = .ok (.iastore, 1) := by decide +kernel
theorem dX7_keep_20 : decode cX7_keep 20 = .ok (.aload_n 1, 1) := by decide +kernel
theorem dX7_keep_21 : decode cX7_keep 21 = .ok (.iconst 1, 1) := by decide +kernel
theorem dX7_keep_22 : decode cX7_keep 22 = .ok (.aload_n 0, 1) := by decide +kernel
theorem dX7_keep_23 : decode cX7_keep 23 = .ok (.getfield 20, 3) := by decide +kernel
theorem dX7_keep_26 : decode cX7_keep 26 = .ok (.getfield 37, 3) := by decide +kernel
theorem dX7_keep_29 : decode cX7_keep 29 = .ok (.iastore, 1) := by decide +kernel
theorem dX7_keep_30 : decode cX7_keep 30 = .ok (.aload_n 1, 1) := by decide +kernel
theorem dX7_keep_31 : decode cX7_keep 31 = .ok (.iconst 2, 1) := by decide +kernel
theorem dX7_keep_32 : decode cX7_keep 32 = .ok (.aload_n 0, 1) := by decide +kernel
theorem dX7_keep_33 : decode cX7_keep 33 = .ok (.getfield 20, 3) := by decide +kernel
theorem dX7_keep_36 : decode cX7_keep 36 = .ok (.getfield 40, 3) := by decide +kernel
theorem dX7_keep_39 : decode cX7_keep 39 = .ok (.iastore, 1) := by decide +kernel
theorem dX7_keep_40 : decode cX7_keep 40 = .ok (.iconst 3, 1) := by decide +kernel
theorem dX7_keep_41 : decode cX7_keep 41 = .ok (.istore_n 2, 1) := by decide +kernel
theorem dX7_keep_42 : decode cX7_keep 42 = .ok (.aload_n 0, 1) := by decide +kernel
theorem dX7_keep_43 : decode cX7_keep 43 = .ok (.getfield 24, 3) := by decide +kernel
theorem dX7_keep_46 : decode cX7_keep 46 = .ok (.iconst 0, 1) := by decide +kernel
theorem dX7_keep_47 : decode cX7_keep 47 = .ok (.aload_n 1, 1) := by decide +kernel
theorem dX7_keep_48 : decode cX7_keep 48 = .ok (.iload_n 2, 1) := by decide +kernel
theorem dX7_keep_49 : decode cX7_keep 49 = .ok (.iconst 3, 1) := by decide +kernel
theorem dX7_keep_50 : decode cX7_keep 50 = .ok (.invokestatic 43, 3) := by decide +kernel
theorem dX7_keep_53 : decode cX7_keep 53 = .ok (.iinc 2 3, 3) := by decide +kernel
theorem dX7_keep_56 : decode cX7_keep 56 = .ok (.iconst 0, 1) := by decide +kernel
theorem dX7_keep_57 : decode cX7_keep 57 = .ok (.istore_n 3, 1) := by decide +kernel
theorem dX7_keep_58 : decode cX7_keep 58 = .ok (.iload_n 3, 1) := by decide +kernel
theorem dX7_keep_59 : decode cX7_keep 59 = .ok (.bipush 10, 2) := by decide +kernel
theorem dX7_keep_61 : decode cX7_keep 61 = .ok (.if_icmp .ge 31, 3) := by decide +kernel
theorem dX7_keep_64 : decode cX7_keep 64 = .ok (.aload_n 1, 1) := by decide +kernel
theorem dX7_keep_65 : decode cX7_keep 65 = .ok (.iload_n 2, 1) := by decide +kernel
theorem dX7_keep_66 : decode cX7_keep 66 = .ok (.iload_n 3, 1) := by decide +kernel
theorem dX7_keep_67 : decode cX7_keep 67 = .ok (.iadd, 1) := by decide +kernel
theorem dX7_keep_68 : decode cX7_keep 68 = .ok (.aload_n 0, 1) := by decide +kernel
theorem dX7_keep_69 : decode cX7_keep 69 = .ok (.getfield 16, 3) := by decide +kernel
theorem dX7_keep_72 : decode cX7_keep 72 = .ok (.getfield 49, 3) := by decide +kernel
theorem dX7_keep_75 : decode cX7_keep 75 = .ok (.iload_n 3, 1) := by decide +kernel
theorem dX7_keep_76 : decode cX7_keep 76 = .ok (.baload, 1) := by decide +kernel
theorem dX7_keep_77 : decode cX7_keep 77 = .ok (.ifCond .eq 7, 3) := by decide +kernel
theorem dX7_keep_80 : decode cX7_keep 80 = .ok (.iconst 1, 1) := by decide +kernel
theorem dX7_keep_81 : decode cX7_keep 81 = .ok (.goto 4, 3) := by decide +kernel
theorem dX7_keep_84 : decode cX7_keep 84 = .ok (.iconst 0, 1) := by decide +kernel
theorem dX7_keep_85 : decode cX7_keep 85 = .ok (.iastore, 1) := by decide +kernel
theorem dX7_keep_86 : decode cX7_keep 86 = .ok (.iinc 3 1, 3) := by decide +kernel
theorem dX7_keep_89 : decode cX7_keep 89 = .ok (.goto (-31), 3) := by decide +kernel
theorem dX7_keep_92 : decode cX7_keep 92 = .ok (.iinc 2 10, 3) := by decide +kernel
theorem dX7_keep_95 : decode cX7_keep 95 = .ok (.aload_n 0, 1) := by decide +kernel
theorem dX7_keep_96 : decode cX7_keep 96 = .ok (.getfield 20, 3) := by decide +kernel
theorem dX7_keep_99 : decode cX7_keep 99 = .ok (.getfield 53, 3) := by decide +kernel
theorem dX7_keep_102 : decode cX7_keep 102 = .ok (.iconst 0, 1) := by decide +kernel
theorem dX7_keep_103 : decode cX7_keep 103 = .ok (.aload_n 1, 1) := by decide +kernel
theorem dX7_keep_104 : decode cX7_keep 104 = .ok (.iload_n 2, 1) := by decide +kernel
theorem dX7_keep_105 : decode cX7_keep 105 = .ok (.bipush 24, 2) := by decide +kernel
theorem dX7_keep_107 : decode cX7_keep 107 = .ok (.invokestatic 43, 3) := by decide +kernel
theorem dX7_keep_110 : decode cX7_keep 110 = .ok (.aload_n 0, 1) := by decide +kernel
theorem dX7_keep_111 : decode cX7_keep 111 = .ok (.getfield 20, 3) := by decide +kernel
theorem dX7_keep_114 : decode cX7_keep 114 = .ok (.getfield 56, 3) := by decide +kernel
theorem dX7_keep_117 : decode cX7_keep 117 = .ok (.iconst 0, 1) := by decide +kernel
theorem dX7_keep_118 : decode cX7_keep 118 = .ok (.aload_n 1, 1) := by decide +kernel
theorem dX7_keep_119 : decode cX7_keep 119 = .ok (.iload_n 2, 1) := by decide +kernel
theorem dX7_keep_120 : decode cX7_keep 120 = .ok (.bipush 24, 2) := by decide +kernel
theorem dX7_keep_122 : decode cX7_keep 122 = .ok (.iadd, 1) := by decide +kernel
theorem dX7_keep_123 : decode cX7_keep 123 = .ok (.bipush 24, 2) := by decide +kernel
theorem dX7_keep_125 : decode cX7_keep 125 = .ok (.invokestatic 43, 3) := by decide +kernel
theorem dX7_keep_128 : decode cX7_keep 128 = .ok (.aload_n 0, 1) := by decide +kernel
theorem dX7_keep_129 : decode cX7_keep 129 = .ok (.getfield 20, 3) := by decide +kernel
theorem dX7_keep_132 : decode cX7_keep 132 = .ok (.getfield 59, 3) := by decide +kernel
theorem dX7_keep_135 : decode cX7_keep 135 = .ok (.iconst 0, 1) := by decide +kernel
theorem dX7_keep_136 : decode cX7_keep 136 = .ok (.aload_n 1, 1) := by decide +kernel
theorem dX7_keep_137 : decode cX7_keep 137 = .ok (.iload_n 2, 1) := by decide +kernel
theorem dX7_keep_138 : decode cX7_keep 138 = .ok (.bipush 48, 2) := by decide +kernel
theorem dX7_keep_140 : decode cX7_keep 140 = .ok (.iadd, 1) := by decide +kernel
theorem dX7_keep_141 : decode cX7_keep 141 = .ok (.bipush 24, 2) := by decide +kernel
theorem dX7_keep_143 : decode cX7_keep 143 = .ok (.invokestatic 43, 3) := by decide +kernel
theorem dX7_keep_146 : decode cX7_keep 146 = .ok (.aload_n 0, 1) := by decide +kernel
theorem dX7_keep_147 : decode cX7_keep 147 = .ok (.getfield 20, 3) := by decide +kernel
theorem dX7_keep_150 : decode cX7_keep 150 = .ok (.getfield 62, 3) := by decide +kernel
theorem dX7_keep_153 : decode cX7_keep 153 = .ok (.iconst 0, 1) := by decide +kernel
theorem dX7_keep_154 : decode cX7_keep 154 = .ok (.aload_n 1, 1) := by decide +kernel
theorem dX7_keep_155 : decode cX7_keep 155 = .ok (.iload_n 2, 1) := by decide +kernel
theorem dX7_keep_156 : decode cX7_keep 156 = .ok (.bipush 72, 2) := by decide +kernel
theorem dX7_keep_158 : decode cX7_keep 158 = .ok (.iadd, 1) := by decide +kernel
theorem dX7_keep_159 : decode cX7_keep 159 = .ok (.bipush 24, 2) := by decide +kernel
theorem dX7_keep_161 : decode cX7_keep 161 = .ok (.invokestatic 43, 3) := by decide +kernel
theorem dX7_keep_164 : decode cX7_keep 164 = .ok (.aload_n 0, 1) := by decide +kernel
theorem dX7_keep_165 : decode cX7_keep 165 = .ok (.aload_n 0, 1) := by decide +kernel
theorem dX7_keep_166 : decode cX7_keep 166 = .ok (.getfield 28, 3) := by decide +kernel
theorem dX7_keep_169 : decode cX7_keep 169 = .ok (.bipush 29, 2) := by decide +kernel
theorem dX7_keep_171 : decode cX7_keep 171 = .ok (.if_icmp .ne 7, 3) := by decide +kernel
theorem dX7_keep_174 : decode cX7_keep 174 = .ok (.iconst 0, 1) := by decide +kernel
theorem dX7_keep_175 : decode cX7_keep 175 = .ok (.goto 9, 3) := by decide +kernel
theorem dX7_keep_178 : decode cX7_keep 178 = .ok (.aload_n 0, 1) := by decide +kernel
theorem dX7_keep_179 : decode cX7_keep 179 = .ok (.getfield 28, 3) := by decide +kernel
theorem dX7_keep_182 : decode cX7_keep 182 = .ok (.iconst 1, 1) := by decide +kernel
theorem dX7_keep_183 : decode cX7_keep 183 = .ok (.iadd, 1) := by decide +kernel
theorem dX7_keep_184 : decode cX7_keep 184 = .ok (.putfield 28, 3) := by decide +kernel
theorem dX7_keep_187 : decode cX7_keep 187 = .ok (.aload_n 0, 1) := by decide +kernel
theorem dX7_keep_188 : decode cX7_keep 188 = .ok (.aload_n 0, 1) := by decide +kernel
theorem dX7_keep_189 : decode cX7_keep 189 = .ok (.getfield 65, 3) := by decide +kernel
theorem dX7_keep_192 : decode cX7_keep 192 = .ok (.bipush 30, 2) := by decide +kernel
theorem dX7_keep_194 : decode cX7_keep 194 = .ok (.if_icmp .ne 10, 3) := by decide +kernel
theorem dX7_keep_197 : decode cX7_keep 197 = .ok (.aload_n 0, 1) := by decide +kernel
theorem dX7_keep_198 : decode cX7_keep 198 = .ok (.getfield 65, 3) := by decide +kernel
theorem dX7_keep_201 : decode cX7_keep 201 = .ok (.goto 9, 3) := by decide +kernel
theorem dX7_keep_204 : decode cX7_keep 204 = .ok (.aload_n 0, 1) := by decide +kernel
theorem dX7_keep_205 : decode cX7_keep 205 = .ok (.getfield 65, 3) := by decide +kernel
theorem dX7_keep_208 : decode cX7_keep 208 = .ok (.iconst 1, 1) := by decide +kernel
theorem dX7_keep_209 : decode cX7_keep 209 = .ok (.iadd, 1) := by decide +kernel
theorem dX7_keep_210 : decode cX7_keep 210 = .ok (.putfield 65, 3) := by decide +kernel
theorem dX7_keep_213 : decode cX7_keep 213 = .ok (.return_, 1) := by decide +kernel
theorem dX7_restore_0 : decode cX7_restore 0 = .ok (.aload_n 0, 1) := by decide +kernel
theorem dX7_restore_1 : decode cX7_restore 1 = .ok (.aload_n 0, 1) := by decide +kernel
theorem dX7_restore_2 : decode cX7_restore 2 = .ok (.getfield 28, 3) := by decide +kernel
theorem dX7_restore_5 : decode cX7_restore 5 = .ok (.ifCond .ne 8, 3) := by decide +kernel
theorem dX7_restore_8 : decode cX7_restore 8 = .ok (.bipush 29, 2) := by decide +kernel
theorem dX7_restore_10 : decode cX7_restore 10 = .ok (.goto 9, 3) := by decide +kernel
theorem dX7_restore_13 : decode cX7_restore 13 = .ok (.aload_n 0, 1) := by decide +kernel
theorem dX7_restore_14 : decode cX7_restore 14 = .ok (.getfield 28, 3) := by decide +kernel
theorem dX7_restore_17 : decode cX7_restore 17 = .ok (.iconst 1, 1) := by decide +kernel
theorem dX7_restore_18 : decode cX7_restore 18 = .ok (.isub, 1) := by decide +kernel
theorem dX7_restore_19 : decode cX7_restore 19 = .ok (.putfield 28, 3) := by decide +kernel
theorem dX7_restore_22 : decode cX7_restore 22 = .ok (.aload_n 0, 1) := by decide +kernel
theorem dX7_restore_23 : decode cX7_restore 23 = .ok (.dup, 1) := by decide +kernel
theorem dX7_restore_24 : decode cX7_restore 24 = .ok (.getfield 65, 3) := by decide +kernel
theorem dX7_restore_27 : decode cX7_restore 27 = .ok (.iconst 1, 1) := by decide +kernel
theorem dX7_restore_28 : decode cX7_restore 28 = .ok (.isub, 1) := by decide +kernel
theorem dX7_restore_29 : decode cX7_restore 29 = .ok (.putfield 65, 3) := by decide +kernel
theorem dX7_restore_32 : decode cX7_restore 32 = .ok (.aload_n 0, 1) := by decide +kernel
theorem dX7_restore_33 : decode cX7_restore 33 = .ok (.getfield 13, 3) := by decide +kernel
theorem dX7_restore_36 : decode cX7_restore 36 = .ok (.aload_n 0, 1) := by decide +kernel
theorem dX7_restore_37 : decode cX7_restore 37 = .ok (.getfield 28, 3) := by decide +kernel
theorem dX7_restore_40 : decode cX7_restore 40 = .ok (.aaload, 1) := by decide +kernel
theorem dX7_restore_41 : decode cX7_restore 41 = .ok (.astore_n 1, 1) := by decide +kernel
theorem dX7_restore_42 : decode cX7_restore 42 = .ok (.aload_n 0, 1) := by decide +kernel
theorem dX7_restore_43 : decode cX7_restore 43 = .ok (.getfield 16, 3) := by decide +kernel
theorem dX7_restore_46 : decode cX7_restore 46 = .ok (.aload_n 1, 1) := by decide +kernel
theorem dX7_restore_47 : decode cX7_restore 47 = .ok (.iconst 0, 1) := by decide +kernel
theorem dX7_restore_48 : decode cX7_restore 48 = .ok (.iaload, 1) := by decide +kernel
theorem dX7_restore_49 : decode cX7_restore 49 = .ok (.putfield 32, 3) := by decide +kernel
theorem dX7_restore_52 : decode cX7_restore 52 = .ok (.aload_n 0, 1) := by decide +kernel
theorem dX7_restore_53 : decode cX7_restore 53 = .ok (.getfield 20, 3) := by decide +kernel
theorem dX7_restore_56 : decode cX7_restore 56 = .ok (.aload_n 1, 1) := by decide +kernel
theorem dX7_restore_57 : decode cX7_restore 57 = .ok (.iconst 1, 1) := by decide +kernel
theorem dX7_restore_58 : decode cX7_restore 58 = .ok (.iaload, 1) := by decide +kernel
theorem dX7_restore_59 : decode cX7_restore 59 = .ok (.putfield 37, 3) := by decide +kernel
theorem dX7_restore_62 : decode cX7_restore 62 = .ok (.aload_n 0, 1) := by decide +kernel
theorem dX7_restore_63 : decode cX7_restore 63 = .ok (.getfield 20, 3) := by decide +kernel
theorem dX7_restore_66 : decode cX7_restore 66 = .ok (.aload_n 1, 1) := by decide +kernel
theorem dX7_restore_67 : decode cX7_restore 67 = .ok (.iconst 2, 1) := by decide +kernel
theorem dX7_restore_68 : decode cX7_restore 68 = .ok (.iaload, 1) := by decide +kernel
theorem dX7_restore_69 : decode cX7_restore 69 = .ok (.putfield 40, 3) := by decide +kernel
theorem dX7_restore_72 : decode cX7_restore 72 = .ok (.iconst 3, 1) := by decide +kernel
theorem dX7_restore_73 : decode cX7_restore 73 = .ok (.istore_n 2, 1) := by decide +kernel
theorem dX7_restore_74 : decode cX7_restore 74 = .ok (.aload_n 1, 1) := by decide +kernel
theorem dX7_restore_75 : decode cX7_restore 75 = .ok (.iload_n 2, 1) := by decide +kernel
theorem dX7_restore_76 : decode cX7_restore 76 = .ok (.aload_n 0, 1) := by decide +kernel
theorem dX7_restore_77 : decode cX7_restore 77 = .ok (.getfield 24, 3) := by decide +kernel
theorem dX7_restore_80 : decode cX7_restore 80 = .ok (.iconst 0, 1) := by decide +kernel
theorem dX7_restore_81 : decode cX7_restore 81 = .ok (.iconst 3, 1) := by decide +kernel
theorem dX7_restore_82 : decode cX7_restore 82 = .ok (.invokestatic 43, 3) := by decide +kernel
theorem dX7_restore_85 : decode cX7_restore 85 = .ok (.iinc 2 3, 3) := by decide +kernel
theorem dX7_restore_88 : decode cX7_restore 88 = .ok (.iconst 0, 1) := by decide +kernel
theorem dX7_restore_89 : decode cX7_restore 89 = .ok (.istore_n 3, 1) := by decide +kernel
theorem dX7_restore_90 : decode cX7_restore 90 = .ok (.iload_n 3, 1) := by decide +kernel
theorem dX7_restore_91 : decode cX7_restore 91 = .ok (.bipush 10, 2) := by decide +kernel
theorem dX7_restore_93 : decode cX7_restore 93 = .ok (.if_icmp .ge 32, 3) := by decide +kernel
theorem dX7_restore_96 : decode cX7_restore 96 = .ok (.aload_n 0, 1) := by decide +kernel
theorem dX7_restore_97 : decode cX7_restore 97 = .ok (.getfield 16, 3) := by decide +kernel
theorem dX7_restore_100 : decode cX7_restore 100 = .ok (.getfield 49, 3) := by decide +kernel
theorem dX7_restore_103 : decode cX7_restore 103 = .ok (.iload_n 3, 1) := by decide +kernel
theorem dX7_restore_104 : decode cX7_restore 104 = .ok (.aload_n 1, 1) := by decide +kernel
theorem dX7_restore_105 : decode cX7_restore 105 = .ok (.iload_n 2, 1) := by decide +kernel
theorem dX7_restore_106 : decode cX7_restore 106 = .ok (.iload_n 3, 1) := by decide +kernel
theorem dX7_restore_107 : decode cX7_restore 107 = .ok (.iadd, 1) := by decide +kernel
theorem dX7_restore_108 : decode cX7_restore 108 = .ok (.iaload, 1) := by decide +kernel
theorem dX7_restore_109 : decode cX7_restore 109 = .ok (.iconst 1, 1) := by decide +kernel
theorem dX7_restore_110 : decode cX7_restore 110 = .ok (.if_icmp .ne 7, 3) := by decide +kernel
theorem dX7_restore_113 : decode cX7_restore 113 = .ok (.iconst 1, 1) := by decide +kernel
theorem dX7_restore_114 : decode cX7_restore 114 = .ok (.goto 4, 3) := by decide +kernel
theorem dX7_restore_117 : decode cX7_restore 117 = .ok (.iconst 0, 1) := by decide +kernel
theorem dX7_restore_118 : decode cX7_restore 118 = .ok (.bastore, 1) := by decide +kernel
theorem dX7_restore_119 : decode cX7_restore 119 = .ok (.iinc 3 1, 3) := by decide +kernel
theorem dX7_restore_122 : decode cX7_restore 122 = .ok (.goto (-32), 3) := by decide +kernel
theorem dX7_restore_125 : decode cX7_restore 125 = .ok (.iinc 2 10, 3) := by decide +kernel
theorem dX7_restore_128 : decode cX7_restore 128 = .ok (.aload_n 1, 1) := by decide +kernel
theorem dX7_restore_129 : decode cX7_restore 129 = .ok (.iload_n 2, 1) := by decide +kernel
theorem dX7_restore_130 : decode cX7_restore 130 = .ok (.aload_n 0, 1) := by decide +kernel
theorem dX7_restore_131 : decode cX7_restore 131 = .ok (.getfield 20, 3) := by decide +kernel
theorem dX7_restore_134 : decode cX7_restore 134 = .ok (.getfield 53, 3) := by decide +kernel
theorem dX7_restore_137 : decode cX7_restore 137 = .ok (.iconst 0, 1) := by decide +kernel
theorem dX7_restore_138 : decode cX7_restore 138 = .ok (.bipush 24, 2) := by decide +kernel
theorem dX7_restore_140 : decode cX7_restore 140 = .ok (.invokestatic 43, 3) := by decide +kernel
theorem dX7_restore_143 : decode cX7_restore 143 = .ok (.aload_n 1, 1) := by decide +kernel
theorem dX7_restore_144 : decode cX7_restore 144 = .ok (.iload_n 2, 1) := by decide +kernel
theorem dX7_restore_145 : decode cX7_restore 145 = .ok (.bipush 24, 2) := by decide +kernel
theorem dX7_restore_147 : decode cX7_restore 147 = .ok (.iadd, 1) := by decide +kernel
theorem dX7_restore_148 : decode cX7_restore 148 = .ok (.aload_n 0, 1) := by decide +kernel
theorem dX7_restore_149 : decode cX7_restore 149 = .ok (.getfield 20, 3) := by decide +kernel
theorem dX7_restore_152 : decode cX7_restore 152 = .ok (.getfield 56, 3) := by decide +kernel
theorem dX7_restore_155 : decode cX7_restore 155 = .ok (.iconst 0, 1) := by decide +kernel
theorem dX7_restore_156 : decode cX7_restore 156 = .ok (.bipush 24, 2) := by decide +kernel
theorem dX7_restore_158 : decode cX7_restore 158 = .ok (.invokestatic 43, 3) := by decide +kernel
theorem dX7_restore_161 : decode cX7_restore 161 = .ok (.aload_n 1, 1) := by decide +kernel
theorem dX7_restore_162 : decode cX7_restore 162 = .ok (.iload_n 2, 1) := by decide +kernel
theorem dX7_restore_163 : decode cX7_restore 163 = .ok (.bipush 48, 2) := by decide +kernel
theorem dX7_restore_165 : decode cX7_restore 165 = .ok (.iadd, 1) := by decide +kernel
theorem dX7_restore_166 : decode cX7_restore 166 = .ok (.aload_n 0, 1) := by decide +kernel
theorem dX7_restore_167 : decode cX7_restore 167 = .ok (.getfield 20, 3) := by decide +kernel
theorem dX7_restore_170 : decode cX7_restore 170 = .ok (.getfield 59, 3) := by decide +kernel
theorem dX7_restore_173 : decode cX7_restore 173 = .ok (.iconst 0, 1) := by decide +kernel
theorem dX7_restore_174 : decode cX7_restore 174 = .ok (.bipush 24, 2) := by decide +kernel
theorem dX7_restore_176 : decode cX7_restore 176 = .ok (.invokestatic 43, 3) := by decide +kernel
theorem dX7_restore_179 : decode cX7_restore 179 = .ok (.aload_n 1, 1) := by decide +kernel
theorem dX7_restore_180 : decode cX7_restore 180 = .ok (.iload_n 2, 1) := by decide +kernel
theorem dX7_restore_181 : decode cX7_restore 181 = .ok (.bipush 72, 2) := by decide +kernel
theorem dX7_restore_183 : decode cX7_restore 183 = .ok (.iadd, 1) := by decide +kernel
theorem dX7_restore_184 : decode cX7_restore 184 = .ok (.aload_n 0, 1) := by decide +kernel
theorem dX7_restore_185 : decode cX7_restore 185 = .ok (.getfield 20, 3) := by decide +kernel
theorem dX7_restore_188 : decode cX7_restore 188 = .ok (.getfield 62, 3) := by decide +kernel
theorem dX7_restore_191 : decode cX7_restore 191 = .ok (.iconst 0, 1) := by decide +kernel
theorem dX7_restore_192 : decode cX7_restore 192 = .ok (.bipush 24, 2) := by decide +kernel
theorem dX7_restore_194 : decode cX7_restore 194 = .ok (.invokestatic 43, 3) := by decide +kernel
theorem dX7_restore_197 : decode cX7_restore 197 = .ok (.return_, 1) := by decide +kernel
theorem dX8_init_0 : decode cX8_init 0 = .ok (.aload_n 0, 1) := by decide +kernel
theorem dX8_init_1 : decode cX8_init 1 = .ok (.invokespecial 3, 3) := by decide +kernel
theorem dX8_init_4 : decode cX8_init 4 = .ok (.aload_n 0, 1) := by decide +kernel
theorem dX8_init_5 : decode cX8_init 5 = .ok (.bipush 8, 2) := by decide +kernel
theorem dX8_init_7 : decode cX8_init 7 = .ok (.newarray .int, 2) := by decide +kernel
theorem dX8_init_9 : decode cX8_init 9 = .ok (.putfield 9, 3) := by decide +kernel
theorem dX8_init_12 : decode cX8_init 12 = .ok (.aload_n 0, 1) := by decide +kernel
theorem dX8_init_13 : decode cX8_init 13 = .ok (.bipush 8, 2) := by decide +kernel
theorem dX8_init_15 : decode cX8_init 15 = .ok (.newarray .int, 2) := by decide +kernel
theorem dX8_init_17 : decode cX8_init 17 = .ok (.putfield 15, 3) := by decide +kernel
theorem dX8_init_20 : decode cX8_init 20 = .ok (.aload_n 0, 1) := by decide +kernel
theorem dX8_init_21 : decode cX8_init 21 = .ok (.aload_n 1, 1) := by decide +kernel
theorem dX8_init_22 : decode cX8_init 22 = .ok (.putfield 18, 3) := by decide +kernel
theorem dX8_init_25 : decode cX8_init 25 = .ok (.aload_n 0, 1) := by decide +kernel
theorem dX8_init_26 : decode cX8_init 26 = .ok (.aload_n 1, 1) := by decide +kernel
theorem dX8_init_27 : decode cX8_init 27 = .ok (.getfield 22, 3) := by decide +kernel
theorem dX8_init_30 : decode cX8_init 30 = .ok (.putfield 28, 3) := by decide +kernel
theorem dX8_init_33 : decode cX8_init 33 = .ok (.aload_n 0, 1) := by decide +kernel
theorem dX8_init_34 : decode cX8_init 34 = .ok (.aload_n 2, 1) := by decide +kernel
theorem dX8_init_35 : decode cX8_init 35 = .ok (.putfield 29, 3) := by decide +kernel
theorem dX8_init_38 : decode cX8_init 38 = .ok (.return_, 1) := by decide +kernel
theorem dX8_canMoveAll_0 : decode cX8_canMoveAll 0 = .ok (.iconst 0, 1) := by decide +kernel
theorem dX8_canMoveAll_1 : decode cX8_canMoveAll 1 = .ok (.istore_n 1, 1) := by decide +kernel
theorem dX8_canMoveAll_2 : decode cX8_canMoveAll 2 = .ok (.iload_n 1, 1) := by decide +kernel
theorem dX8_canMoveAll_3 : decode cX8_canMoveAll 3 = .ok (.aload_n 0, 1) := by decide +kernel
theorem dX8_canMoveAll_4 : decode cX8_canMoveAll 4 = .ok (.getfield 28, 3) := by decide +kernel
theorem dX8_canMoveAll_7 : decode cX8_canMoveAll 7 = .ok (.getfield 33, 3) := by decide +kernel
theorem dX8_canMoveAll_10 : decode cX8_canMoveAll 10 = .ok (.if_icmp .ge 35, 3) := by decide +kernel
theorem dX8_canMoveAll_13 : decode cX8_canMoveAll 13 = .ok (.aload_n 0, 1) := by decide +kernel
theorem dX8_canMoveAll_14 : decode cX8_canMoveAll 14 = .ok (.getfield 28, 3) := by decide +kernel
theorem dX8_canMoveAll_17 : decode cX8_canMoveAll 17 = .ok (.getfield 39, 3) := by decide +kernel
theorem dX8_canMoveAll_20 : decode cX8_canMoveAll 20 = .ok (.iload_n 1, 1) := by decide +kernel
theorem dX8_canMoveAll_21 : decode cX8_canMoveAll 21 = .ok (.iaload, 1) := by decide +kernel
theorem dX8_canMoveAll_22 : decode cX8_canMoveAll 22 = .ok (.iconst (-1), 1) := by decide +kernel
theorem dX8_canMoveAll_23 : decode cX8_canMoveAll 23 = .ok (.if_icmp .eq 16, 3) := by decide +kernel
theorem dX8_canMoveAll_26 : decode cX8_canMoveAll 26 = .ok (.aload_n 0, 1) := by decide +kernel
theorem dX8_canMoveAll_27 : decode cX8_canMoveAll 27 = .ok (.getfield 28, 3) := by decide +kernel
theorem dX8_canMoveAll_30 : decode cX8_canMoveAll 30 = .ok (.iload_n 1, 1) := by decide +kernel
theorem dX8_canMoveAll_31 : decode cX8_canMoveAll 31 = .ok (.invokevirtual 42, 3) := by decide +kernel
theorem dX8_canMoveAll_34 : decode cX8_canMoveAll 34 = .ok (.ifCond .ne 5, 3) := by decide +kernel
theorem dX8_canMoveAll_37 : decode cX8_canMoveAll 37 = .ok (.iconst 0, 1) := by decide +kernel
theorem dX8_canMoveAll_38 : decode cX8_canMoveAll 38 = .ok (.ireturn, 1) := by decide +kernel
theorem dX8_canMoveAll_39 : decode cX8_canMoveAll 39 = .ok (.iinc 1 1, 3) := by decide +kernel
theorem dX8_canMoveAll_42 : decode cX8_canMoveAll 42 = .ok (.goto (-40), 3) := by decide +kernel
theorem dX8_canMoveAll_45 : decode cX8_canMoveAll 45 = .ok (.iconst 1, 1) := by decide +kernel
theorem dX8_canMoveAll_46 : decode cX8_canMoveAll 46 = .ok (.ireturn, 1) := by decide +kernel
theorem dX8_find_0 : decode cX8_find 0 = .ok (.aload_n 0, 1) := by decide +kernel
theorem dX8_find_1 : decode cX8_find 1 = .ok (.getfield 29, 3) := by decide +kernel
theorem dX8_find_4 : decode cX8_find 4 = .ok (.iconst (-1), 1) := by decide +kernel
theorem dX8_find_5 : decode cX8_find 5 = .ok (.invokevirtual 46, 3) := by decide +kernel
theorem dX8_find_8 : decode cX8_find 8 = .ok (.iconst 0, 1) := by decide +kernel
theorem dX8_find_9 : decode cX8_find 9 = .ok (.istore_n 1, 1) := by decide +kernel
theorem dX8_find_10 : decode cX8_find 10 = .ok (.iload_n 1, 1) := by decide +kernel
theorem dX8_find_11 : decode cX8_find 11 = .ok (.aload_n 0, 1) := by decide +kernel
theorem dX8_find_12 : decode cX8_find 12 = .ok (.getfield 28, 3) := by decide +kernel
theorem dX8_find_15 : decode cX8_find 15 = .ok (.getfield 33, 3) := by decide +kernel
theorem dX8_find_18 : decode cX8_find 18 = .ok (.if_icmp .ge 39, 3) := by decide +kernel
theorem dX8_find_21 : decode cX8_find 21 = .ok (.aload_n 0, 1) := by decide +kernel
theorem dX8_find_22 : decode cX8_find 22 = .ok (.getfield 28, 3) := by decide +kernel
theorem dX8_find_25 : decode cX8_find 25 = .ok (.getfield 39, 3) := by decide +kernel
theorem dX8_find_28 : decode cX8_find 28 = .ok (.iload_n 1, 1) := by decide +kernel
theorem dX8_find_29 : decode cX8_find 29 = .ok (.iaload, 1) := by decide +kernel
theorem dX8_find_30 : decode cX8_find 30 = .ok (.iconst (-1), 1) := by decide +kernel
theorem dX8_find_31 : decode cX8_find 31 = .ok (.if_icmp .eq 20, 3) := by decide +kernel
theorem dX8_find_34 : decode cX8_find 34 = .ok (.aload_n 0, 1) := by decide +kernel
theorem dX8_find_35 : decode cX8_find 35 = .ok (.getfield 29, 3) := by decide +kernel
theorem dX8_find_38 : decode cX8_find 38 = .ok (.iload_n 1, 1) := by decide +kernel
theorem dX8_find_39 : decode cX8_find 39 = .ok (.aload_n 0, 1) := by decide +kernel
theorem dX8_find_40 : decode cX8_find 40 = .ok (.getfield 28, 3) := by decide +kernel
theorem dX8_find_43 : decode cX8_find 43 = .ok (.getfield 52, 3) := by decide +kernel
theorem dX8_find_46 : decode cX8_find 46 = .ok (.iload_n 1, 1) := by decide +kernel
theorem dX8_find_47 : decode cX8_find 47 = .ok (.iaload, 1) := by decide +kernel
theorem dX8_find_48 : decode cX8_find 48 = .ok (.invokevirtual 55, 3) := by decide +kernel
theorem dX8_find_51 : decode cX8_find 51 = .ok (.iinc 1 1, 3) := by decide +kernel
theorem dX8_find_54 : decode cX8_find 54 = .ok (.goto (-44), 3) := by decide +kernel
theorem dX8_find_57 : decode cX8_find 57 = .ok (.iconst 0, 1) := by decide +kernel
theorem dX8_find_58 : decode cX8_find 58 = .ok (.istore_n 1, 1) := by decide +kernel
theorem dX8_find_59 : decode cX8_find 59 = .ok (.iconst 0, 1) := by decide +kernel
theorem dX8_find_60 : decode cX8_find 60 = .ok (.istore_n 2, 1) := by decide +kernel
theorem dX8_find_61 : decode cX8_find 61 = .ok (.iload_n 2, 1) := by decide +kernel
theorem dX8_find_62 : decode cX8_find 62 = .ok (.aload_n 0, 1) := by decide +kernel
theorem dX8_find_63 : decode cX8_find 63 = .ok (.getfield 29, 3) := by decide +kernel
theorem dX8_find_66 : decode cX8_find 66 = .ok (.getfield 59, 3) := by decide +kernel
theorem dX8_find_69 : decode cX8_find 69 = .ok (.if_icmp .ge 35, 3) := by decide +kernel
theorem dX8_find_72 : decode cX8_find 72 = .ok (.iload_n 1, 1) := by decide +kernel
theorem dX8_find_73 : decode cX8_find 73 = .ok (.aload_n 0, 1) := by decide +kernel
theorem dX8_find_74 : decode cX8_find 74 = .ok (.getfield 28, 3) := by decide +kernel
theorem dX8_find_77 : decode cX8_find 77 = .ok (.getfield 39, 3) := by decide +kernel
theorem dX8_find_80 : decode cX8_find 80 = .ok (.aload_n 0, 1) := by decide +kernel
theorem dX8_find_81 : decode cX8_find 81 = .ok (.getfield 29, 3) := by decide +kernel
theorem dX8_find_84 : decode cX8_find 84 = .ok (.getfield 62, 3) := by decide +kernel
theorem dX8_find_87 : decode cX8_find 87 = .ok (.iload_n 2, 1) := by decide +kernel
theorem dX8_find_88 : decode cX8_find 88 = .ok (.iaload, 1) := by decide +kernel
theorem dX8_find_89 : decode cX8_find 89 = .ok (.iaload, 1) := by decide +kernel
theorem dX8_find_90 : decode cX8_find 90 = .ok (.getstatic 65, 3) := by decide +kernel
theorem dX8_find_93 : decode cX8_find 93 = .ok (.iload_n 2, 1) := by decide +kernel
theorem dX8_find_94 : decode cX8_find 94 = .ok (.iaload, 1) := by decide +kernel
theorem dX8_find_95 : decode cX8_find 95 = .ok (.imul, 1) := by decide +kernel
theorem dX8_find_96 : decode cX8_find 96 = .ok (.iadd, 1) := by decide +kernel
theorem dX8_find_97 : decode cX8_find 97 = .ok (.istore_n 1, 1) := by decide +kernel
theorem dX8_find_98 : decode cX8_find 98 = .ok (.iinc 2 1, 3) := by decide +kernel
theorem dX8_find_101 : decode cX8_find 101 = .ok (.goto (-40), 3) := by decide +kernel
theorem dX8_find_104 : decode cX8_find 104 = .ok (.aload_n 0, 1) := by decide +kernel
theorem dX8_find_105 : decode cX8_find 105 = .ok (.iload_n 1, 1) := by decide +kernel
theorem dX8_find_106 : decode cX8_find 106 = .ok (.invokevirtual 68, 3) := by decide +kernel
theorem dX8_find_109 : decode cX8_find 109 = .ok (.istore_n 2, 1) := by decide +kernel
theorem dX8_find_110 : decode cX8_find 110 = .ok (.aload_n 0, 1) := by decide +kernel
theorem dX8_find_111 : decode cX8_find 111 = .ok (.getfield 18, 3) := by decide +kernel
theorem dX8_find_114 : decode cX8_find 114 = .ok (.invokevirtual 72, 3) := by decide +kernel
theorem dX8_find_117 : decode cX8_find 117 = .ok (.iload_n 2, 1) := by decide +kernel
theorem dX8_find_118 : decode cX8_find 118 = .ok (.ifCond .lt 9, 3) := by decide +kernel
theorem dX8_find_121 : decode cX8_find 121 = .ok (.aload_n 0, 1) := by decide +kernel
theorem dX8_find_122 : decode cX8_find 122 = .ok (.iload_n 1, 1) := by decide +kernel
theorem dX8_find_123 : decode cX8_find 123 = .ok (.iload_n 2, 1) := by decide +kernel
theorem dX8_find_124 : decode cX8_find 124 = .ok (.invokevirtual 75, 3) := by decide +kernel
theorem dX8_find_127 : decode cX8_find 127 = .ok (.iload_n 2, 1) := by decide +kernel
theorem dX8_find_128 : decode cX8_find 128 = .ok (.ireturn, 1) := by decide +kernel
theorem dX8_movesTo_0 : decode cX8_movesTo 0 = .ok (.iload_n 1, 1) := by decide +kernel
theorem dX8_movesTo_1 : decode cX8_movesTo 1 = .ok (.sipush 10000, 3) := by decide +kernel
theorem dX8_movesTo_4 : decode cX8_movesTo 4 = .ok (.invokestatic 78, 3) := by decide +kernel
theorem dX8_movesTo_7 : decode cX8_movesTo 7 = .ok (.ifCond .ne 6, 3) := by decide +kernel
theorem dX8_movesTo_10 : decode cX8_movesTo 10 = .ok (.bipush (-3), 2) := by decide +kernel
theorem dX8_movesTo_12 : decode cX8_movesTo 12 = .ok (.ireturn, 1) := by decide +kernel
theorem dX8_movesTo_13 : decode cX8_movesTo 13 = .ok (.aload_n 0, 1) := by decide +kernel
theorem dX8_movesTo_14 : decode cX8_movesTo 14 = .ok (.getfield 29, 3) := by decide +kernel
theorem dX8_movesTo_17 : decode cX8_movesTo 17 = .ok (.aload_n 0, 1) := by decide +kernel
theorem dX8_movesTo_18 : decode cX8_movesTo 18 = .ok (.getfield 29, 3) := by decide +kernel
theorem dX8_movesTo_21 : decode cX8_movesTo 21 = .ok (.invokevirtual 82, 3) := by decide +kernel
theorem dX8_movesTo_24 : decode cX8_movesTo 24 = .ok (.invokevirtual 86, 3) := by decide +kernel
theorem dX8_movesTo_27 : decode cX8_movesTo 27 = .ok (.iconst 0, 1) := by decide +kernel
theorem dX8_movesTo_28 : decode cX8_movesTo 28 = .ok (.istore_n 2, 1) := by decide +kernel
theorem dX8_movesTo_29 : decode cX8_movesTo 29 = .ok (.iconst 0, 1) := by decide +kernel
theorem dX8_movesTo_30 : decode cX8_movesTo 30 = .ok (.istore_n 3, 1) := by decide +kernel
theorem dX8_movesTo_31 : decode cX8_movesTo 31 = .ok (.iload_n 3, 1) := by decide +kernel
theorem dX8_movesTo_32 : decode cX8_movesTo 32 = .ok (.bipush 8, 2) := by decide +kernel
theorem dX8_movesTo_34 : decode cX8_movesTo 34 = .ok (.if_icmp .ge 59, 3) := by decide +kernel
theorem dX8_movesTo_37 : decode cX8_movesTo 37 = .ok (.aload_n 0, 1) := by decide +kernel
theorem dX8_movesTo_38 : decode cX8_movesTo 38 = .ok (.getfield 29, 3) := by decide +kernel
theorem dX8_movesTo_41 : decode cX8_movesTo 41 = .ok (.iload_n 1, 1) := by decide +kernel
theorem dX8_movesTo_42 : decode cX8_movesTo 42 = .ok (.invokevirtual 89, 3) := by decide +kernel
theorem dX8_movesTo_45 : decode cX8_movesTo 45 = .ok (.ifCond .ne 5, 3) := by decide +kernel
theorem dX8_movesTo_48 : decode cX8_movesTo 48 = .ok (.iload_n 3, 1) := by decide +kernel
theorem dX8_movesTo_49 : decode cX8_movesTo 49 = .ok (.ireturn, 1) := by decide +kernel
theorem dX8_movesTo_50 : decode cX8_movesTo 50 = .ok (.aload_n 0, 1) := by decide +kernel
theorem dX8_movesTo_51 : decode cX8_movesTo 51 = .ok (.getfield 29, 3) := by decide +kernel
theorem dX8_movesTo_54 : decode cX8_movesTo 54 = .ok (.getfield 92, 3) := by decide +kernel
theorem dX8_movesTo_57 : decode cX8_movesTo 57 = .ok (.istore 4, 2) := by decide +kernel
theorem dX8_movesTo_59 : decode cX8_movesTo 59 = .ok (.iload_n 2, 1) := by decide +kernel
theorem dX8_movesTo_60 : decode cX8_movesTo 60 = .ok (.iload 4, 2) := by decide +kernel
theorem dX8_movesTo_62 : decode cX8_movesTo 62 = .ok (.if_icmp .ge 25, 3) := by decide +kernel
theorem dX8_movesTo_65 : decode cX8_movesTo 65 = .ok (.aload_n 0, 1) := by decide +kernel
theorem dX8_movesTo_66 : decode cX8_movesTo 66 = .ok (.getfield 29, 3) := by decide +kernel
theorem dX8_movesTo_69 : decode cX8_movesTo 69 = .ok (.aload_n 0, 1) := by decide +kernel
theorem dX8_movesTo_70 : decode cX8_movesTo 70 = .ok (.getfield 29, 3) := by decide +kernel
theorem dX8_movesTo_73 : decode cX8_movesTo 73 = .ok (.getfield 95, 3) := by decide +kernel
theorem dX8_movesTo_76 : decode cX8_movesTo 76 = .ok (.iload_n 2, 1) := by decide +kernel
theorem dX8_movesTo_77 : decode cX8_movesTo 77 = .ok (.iaload, 1) := by decide +kernel
theorem dX8_movesTo_78 : decode cX8_movesTo 78 = .ok (.invokevirtual 98, 3) := by decide +kernel
theorem dX8_movesTo_81 : decode cX8_movesTo 81 = .ok (.iinc 2 1, 3) := by decide +kernel
theorem dX8_movesTo_84 : decode cX8_movesTo 84 = .ok (.goto (-25), 3) := by decide +kernel
theorem dX8_movesTo_87 : decode cX8_movesTo 87 = .ok (.iinc 3 1, 3) := by decide +kernel
theorem dX8_movesTo_90 : decode cX8_movesTo 90 = .ok (.goto (-59), 3) := by decide +kernel
theorem dX8_movesTo_93 : decode cX8_movesTo 93 = .ok (.aload_n 0, 1) := by decide +kernel
theorem dX8_movesTo_94 : decode cX8_movesTo 94 = .ok (.getfield 29, 3) := by decide +kernel
theorem dX8_movesTo_97 : decode cX8_movesTo 97 = .ok (.iload_n 1, 1) := by decide +kernel
theorem dX8_movesTo_98 : decode cX8_movesTo 98 = .ok (.invokevirtual 89, 3) := by decide +kernel
theorem dX8_movesTo_101 : decode cX8_movesTo 101 = .ok (.ifCond .eq 8, 3) := by decide +kernel
theorem dX8_movesTo_104 : decode cX8_movesTo 104 = .ok (.bipush (-3), 2) := by decide +kernel
theorem dX8_movesTo_106 : decode cX8_movesTo 106 = .ok (.goto 5, 3) := by decide +kernel
theorem dX8_movesTo_109 : decode cX8_movesTo 109 = .ok (.bipush 8, 2) := by decide +kernel
theorem dX8_movesTo_111 : decode cX8_movesTo 111 = .ok (.ireturn, 1) := by decide +kernel
theorem dX8_noteSteps_0 : decode cX8_noteSteps 0 = .ok (.aload_n 0, 1) := by decide +kernel
theorem dX8_noteSteps_1 : decode cX8_noteSteps 1 = .ok (.iload_n 2, 1) := by decide +kernel
theorem dX8_noteSteps_2 : decode cX8_noteSteps 2 = .ok (.putfield 101, 3) := by decide +kernel
theorem dX8_noteSteps_5 : decode cX8_noteSteps 5 = .ok (.iload_n 1, 1) := by decide +kernel
theorem dX8_noteSteps_6 : decode cX8_noteSteps 6 = .ok (.istore_n 3, 1) := by decide +kernel
theorem dX8_noteSteps_7 : decode cX8_noteSteps 7 = .ok (.iload_n 2, 1) := by decide +kernel
theorem dX8_noteSteps_8 : decode cX8_noteSteps 8 = .ok (.iconst 1, 1) := by decide +kernel
theorem dX8_noteSteps_9 : decode cX8_noteSteps 9 = .ok (.isub, 1) := by decide +kernel
theorem dX8_noteSteps_10 : decode cX8_noteSteps 10 = .ok (.istore 4, 2) := by decide +kernel
theorem dX8_noteSteps_12 : decode cX8_noteSteps 12 = .ok (.iload 4, 2) := by decide +kernel
theorem dX8_noteSteps_14 : decode cX8_noteSteps 14 = .ok (.ifCond .lt 101, 3) := by decide +kernel
theorem dX8_noteSteps_17 : decode cX8_noteSteps 17 = .ok (.aload_n 0, 1) := by decide +kernel
theorem dX8_noteSteps_18 : decode cX8_noteSteps 18 = .ok (.getfield 29, 3) := by decide +kernel
theorem dX8_noteSteps_21 : decode cX8_noteSteps 21 = .ok (.iload_n 3, 1) := by decide +kernel
theorem dX8_noteSteps_22 : decode cX8_noteSteps 22 = .ok (.invokevirtual 104, 3) := by decide +kernel
theorem dX8_noteSteps_25 : decode cX8_noteSteps 25 = .ok (.istore 5, 2) := by decide +kernel
theorem dX8_noteSteps_27 : decode cX8_noteSteps 27 = .ok (.iconst 0, 1) := by decide +kernel
theorem dX8_noteSteps_28 : decode cX8_noteSteps 28 = .ok (.istore 6, 2) := by decide +kernel
theorem dX8_noteSteps_30 : decode cX8_noteSteps 30 = .ok (.iload 6, 2) := by decide +kernel
theorem dX8_noteSteps_32 : decode cX8_noteSteps 32 = .ok (.aload_n 0, 1) := by decide +kernel
theorem dX8_noteSteps_33 : decode cX8_noteSteps 33 = .ok (.getfield 29, 3) := by decide +kernel
theorem dX8_noteSteps_36 : decode cX8_noteSteps 36 = .ok (.getfield 59, 3) := by decide +kernel
theorem dX8_noteSteps_39 : decode cX8_noteSteps 39 = .ok (.if_icmp .ge 67, 3) := by decide +kernel
theorem dX8_noteSteps_42 : decode cX8_noteSteps 42 = .ok (.aload_n 0, 1) := by decide +kernel
theorem dX8_noteSteps_43 : decode cX8_noteSteps 43 = .ok (.getfield 29, 3) := by decide +kernel
theorem dX8_noteSteps_46 : decode cX8_noteSteps 46 = .ok (.iload 5, 2) := by decide +kernel
theorem dX8_noteSteps_48 : decode cX8_noteSteps 48 = .ok (.iload 6, 2) := by decide +kernel
theorem dX8_noteSteps_50 : decode cX8_noteSteps 50 = .ok (.invokevirtual 107, 3) := by decide +kernel
theorem dX8_noteSteps_53 : decode cX8_noteSteps 53 = .ok (.aload_n 0, 1) := by decide +kernel
theorem dX8_noteSteps_54 : decode cX8_noteSteps 54 = .ok (.getfield 29, 3) := by decide +kernel
theorem dX8_noteSteps_57 : decode cX8_noteSteps 57 = .ok (.iload_n 3, 1) := by decide +kernel
theorem dX8_noteSteps_58 : decode cX8_noteSteps 58 = .ok (.iload 6, 2) := by decide +kernel
theorem dX8_noteSteps_60 : decode cX8_noteSteps 60 = .ok (.invokevirtual 107, 3) := by decide +kernel
theorem dX8_noteSteps_63 : decode cX8_noteSteps 63 = .ok (.if_icmp .eq 37, 3) := by decide +kernel
theorem dX8_noteSteps_66 : decode cX8_noteSteps 66 = .ok (.aload_n 0, 1) := by decide +kernel
theorem dX8_noteSteps_67 : decode cX8_noteSteps 67 = .ok (.getfield 9, 3) := by decide +kernel
theorem dX8_noteSteps_70 : decode cX8_noteSteps 70 = .ok (.iload 4, 2) := by decide +kernel
theorem dX8_noteSteps_72 : decode cX8_noteSteps 72 = .ok (.aload_n 0, 1) := by decide +kernel
theorem dX8_noteSteps_73 : decode cX8_noteSteps 73 = .ok (.getfield 29, 3) := by decide +kernel
theorem dX8_noteSteps_76 : decode cX8_noteSteps 76 = .ok (.getfield 62, 3) := by decide +kernel
theorem dX8_noteSteps_79 : decode cX8_noteSteps 79 = .ok (.iload 6, 2) := by decide +kernel
theorem dX8_noteSteps_81 : decode cX8_noteSteps 81 = .ok (.iaload, 1) := by decide +kernel
theorem dX8_noteSteps_82 : decode cX8_noteSteps 82 = .ok (.iastore, 1) := by decide +kernel
theorem dX8_noteSteps_83 : decode cX8_noteSteps 83 = .ok (.aload_n 0, 1) := by decide +kernel
theorem dX8_noteSteps_84 : decode cX8_noteSteps 84 = .ok (.getfield 15, 3) := by decide +kernel
theorem dX8_noteSteps_87 : decode cX8_noteSteps 87 = .ok (.iload 4, 2) := by decide +kernel
theorem dX8_noteSteps_89 : decode cX8_noteSteps 89 = .ok (.aload_n 0, 1) := by decide +kernel
theorem dX8_noteSteps_90 : decode cX8_noteSteps 90 = .ok (.getfield 29, 3) := by decide +kernel
theorem dX8_noteSteps_93 : decode cX8_noteSteps 93 = .ok (.iload_n 3, 1) := by decide +kernel
theorem dX8_noteSteps_94 : decode cX8_noteSteps 94 = .ok (.iload 6, 2) := by decide +kernel
theorem dX8_noteSteps_96 : decode cX8_noteSteps 96 = .ok (.invokevirtual 107, 3) := by decide +kernel
theorem dX8_noteSteps_99 : decode cX8_noteSteps 99 = .ok (.iastore, 1) := by decide +kernel
theorem dX8_noteSteps_100 : decode cX8_noteSteps 100 = .ok (.iinc 6 1, 3) := by decide +kernel
theorem dX8_noteSteps_103 : decode cX8_noteSteps 103 = .ok (.goto (-73), 3) := by decide +kernel
theorem dX8_noteSteps_106 : decode cX8_noteSteps 106 = .ok (.iload 5, 2) := by decide +kernel
theorem dX8_noteSteps_108 : decode cX8_noteSteps 108 = .ok (.istore_n 3, 1) := by decide +kernel
theorem dX8_noteSteps_109 : decode cX8_noteSteps 109 = .ok (.iinc 4 (-1), 3) := by decide +kernel
theorem dX8_noteSteps_112 : decode cX8_noteSteps 112 = .ok (.goto (-100), 3) := by decide +kernel
theorem dX8_noteSteps_115 : decode cX8_noteSteps 115 = .ok (.return_, 1) := by decide +kernel
theorem dX9_init_0 : decode cX9_init 0 = .ok (.aload_n 0, 1) := by decide +kernel
theorem dX9_init_1 : decode cX9_init 1 = .ok (.invokespecial 3, 3) := by decide +kernel
theorem dX9_init_4 : decode cX9_init 4 = .ok (.aload_n 0, 1) := by decide +kernel
theorem dX9_init_5 : decode cX9_init 5 = .ok (.iconst 5, 1) := by decide +kernel
theorem dX9_init_6 : decode cX9_init 6 = .ok (.newarray .int, 2) := by decide +kernel
theorem dX9_init_8 : decode cX9_init 8 = .ok (.putfield 9, 3) := by decide +kernel
theorem dX9_init_11 : decode cX9_init 11 = .ok (.aload_n 0, 1) := by decide +kernel
theorem dX9_init_12 : decode cX9_init 12 = .ok (.aload_n 1, 1) := by decide +kernel
theorem dX9_init_13 : decode cX9_init 13 = .ok (.putfield 15, 3) := by decide +kernel
theorem dX9_init_16 : decode cX9_init 16 = .ok (.aload_n 0, 1) := by decide +kernel
theorem dX9_init_17 : decode cX9_init 17 = .ok (.aload_n 1, 1) := by decide +kernel
theorem dX9_init_18 : decode cX9_init 18 = .ok (.getfield 19, 3) := by decide +kernel
theorem dX9_init_21 : decode cX9_init 21 = .ok (.putfield 25, 3) := by decide +kernel
theorem dX9_init_24 : decode cX9_init 24 = .ok (.return_, 1) := by decide +kernel
theorem dX9_gather_0 : decode cX9_gather 0 = .ok (.iconst 0, 1) := by decide +kernel
theorem dX9_gather_1 : decode cX9_gather 1 = .ok (.istore_n 1, 1) := by decide +kernel
theorem dX9_gather_2 : decode cX9_gather 2 = .ok (.iconst 0, 1) := by decide +kernel
theorem dX9_gather_3 : decode cX9_gather 3 = .ok (.istore_n 2, 1) := by decide +kernel
theorem dX9_gather_4 : decode cX9_gather 4 = .ok (.iload_n 2, 1) := by decide +kernel
theorem dX9_gather_5 : decode cX9_gather 5 = .ok (.aload_n 0, 1) := by decide +kernel
theorem dX9_gather_6 : decode cX9_gather 6 = .ok (.getfield 25, 3) := by decide +kernel
theorem dX9_gather_9 : decode cX9_gather 9 = .ok (.getfield 26, 3) := by decide +kernel
theorem dX9_gather_12 : decode cX9_gather 12 = .ok (.if_icmp .ge 35, 3) := by decide +kernel
theorem dX9_gather_15 : decode cX9_gather 15 = .ok (.aload_n 0, 1) := by decide +kernel
theorem dX9_gather_16 : decode cX9_gather 16 = .ok (.getfield 25, 3) := by decide +kernel
theorem dX9_gather_19 : decode cX9_gather 19 = .ok (.iload_n 2, 1) := by decide +kernel
theorem dX9_gather_20 : decode cX9_gather 20 = .ok (.invokevirtual 32, 3) := by decide +kernel
theorem dX9_gather_23 : decode cX9_gather 23 = .ok (.ifCond .eq 18, 3) := by decide +kernel
theorem dX9_gather_26 : decode cX9_gather 26 = .ok (.iload_n 1, 1) := by decide +kernel
theorem dX9_gather_27 : decode cX9_gather 27 = .ok (.iconst 5, 1) := by decide +kernel
theorem dX9_gather_28 : decode cX9_gather 28 = .ok (.if_icmp .ge 10, 3) := by decide +kernel
theorem dX9_gather_31 : decode cX9_gather 31 = .ok (.aload_n 0, 1) := by decide +kernel
theorem dX9_gather_32 : decode cX9_gather 32 = .ok (.getfield 9, 3) := by decide +kernel
theorem dX9_gather_35 : decode cX9_gather 35 = .ok (.iload_n 1, 1) := by decide +kernel
theorem dX9_gather_36 : decode cX9_gather 36 = .ok (.iload_n 2, 1) := by decide +kernel
theorem dX9_gather_37 : decode cX9_gather 37 = .ok (.iastore, 1) := by decide +kernel
theorem dX9_gather_38 : decode cX9_gather 38 = .ok (.iinc 1 1, 3) := by decide +kernel
theorem dX9_gather_41 : decode cX9_gather 41 = .ok (.iinc 2 1, 3) := by decide +kernel
theorem dX9_gather_44 : decode cX9_gather 44 = .ok (.goto (-40), 3) := by decide +kernel
theorem dX9_gather_47 : decode cX9_gather 47 = .ok (.aload_n 0, 1) := by decide +kernel
theorem dX9_gather_48 : decode cX9_gather 48 = .ok (.iload_n 1, 1) := by decide +kernel
theorem dX9_gather_49 : decode cX9_gather 49 = .ok (.iconst 5, 1) := by decide +kernel
theorem dX9_gather_50 : decode cX9_gather 50 = .ok (.invokestatic 36, 3) := by decide +kernel
theorem dX9_gather_53 : decode cX9_gather 53 = .ok (.putfield 42, 3) := by decide +kernel
theorem dX9_gather_56 : decode cX9_gather 56 = .ok (.iload_n 1, 1) := by decide +kernel
theorem dX9_gather_57 : decode cX9_gather 57 = .ok (.ireturn, 1) := by decide +kernel
theorem dX9_fewestHosts_0 : decode cX9_fewestHosts 0 = .ok (.iconst 0, 1) := by decide +kernel
theorem dX9_fewestHosts_1 : decode cX9_fewestHosts 1 = .ok (.istore_n 1, 1) := by decide +kernel
theorem dX9_fewestHosts_2 : decode cX9_fewestHosts 2 = .ok (.iload_n 1, 1) := by decide +kernel
theorem dX9_fewestHosts_3 : decode cX9_fewestHosts 3 = .ok (.aload_n 0, 1) := by decide +kernel
theorem dX9_fewestHosts_4 : decode cX9_fewestHosts 4 = .ok (.getfield 42, 3) := by decide +kernel
theorem dX9_fewestHosts_7 : decode cX9_fewestHosts 7 = .ok (.if_icmp .ge 37, 3) := by decide +kernel
theorem dX9_fewestHosts_10 : decode cX9_fewestHosts 10 = .ok (.aload_n 0, 1) := by decide +kernel
theorem dX9_fewestHosts_11 : decode cX9_fewestHosts 11 = .ok (.getfield 15, 3) := by decide +kernel
theorem dX9_fewestHosts_14 : decode cX9_fewestHosts 14 = .ok (.aload_n 0, 1) := by decide +kernel
theorem dX9_fewestHosts_15 : decode cX9_fewestHosts 15 = .ok (.getfield 9, 3) := by decide +kernel
theorem dX9_fewestHosts_18 : decode cX9_fewestHosts 18 = .ok (.iload_n 1, 1) := by decide +kernel
theorem dX9_fewestHosts_19 : decode cX9_fewestHosts 19 = .ok (.iaload, 1) := by decide +kernel
theorem dX9_fewestHosts_20 : decode cX9_fewestHosts 20 = .ok (.aload_n 0, 1) := by decide +kernel
theorem dX9_fewestHosts_21 : decode cX9_fewestHosts 21 = .ok (.getfield 25, 3) := by decide +kernel
theorem dX9_fewestHosts_24 : decode cX9_fewestHosts 24 = .ok (.getfield 45, 3) := by decide +kernel
theorem dX9_fewestHosts_27 : decode cX9_fewestHosts 27 = .ok (.aload_n 0, 1) := by decide +kernel
theorem dX9_fewestHosts_28 : decode cX9_fewestHosts 28 = .ok (.getfield 9, 3) := by decide +kernel
theorem dX9_fewestHosts_31 : decode cX9_fewestHosts 31 = .ok (.iload_n 1, 1) := by decide +kernel
theorem dX9_fewestHosts_32 : decode cX9_fewestHosts 32 = .ok (.iaload, 1) := by decide +kernel
theorem dX9_fewestHosts_33 : decode cX9_fewestHosts 33 = .ok (.iaload, 1) := by decide +kernel
theorem dX9_fewestHosts_34 : decode cX9_fewestHosts 34 = .ok (.iconst (-1), 1) := by decide +kernel
theorem dX9_fewestHosts_35 : decode cX9_fewestHosts 35 = .ok (.invokevirtual 48, 3) := by decide +kernel
theorem dX9_fewestHosts_38 : decode cX9_fewestHosts 38 = .ok (.iinc 1 1, 3) := by decide +kernel
theorem dX9_fewestHosts_41 : decode cX9_fewestHosts 41 = .ok (.goto (-39), 3) := by decide +kernel
theorem dX9_fewestHosts_44 : decode cX9_fewestHosts 44 = .ok (.aload_n 0, 1) := by decide +kernel
theorem dX9_fewestHosts_45 : decode cX9_fewestHosts 45 = .ok (.bipush 11, 2) := by decide +kernel
theorem dX9_fewestHosts_47 : decode cX9_fewestHosts 47 = .ok (.putfield 52, 3) := by decide +kernel
theorem dX9_fewestHosts_50 : decode cX9_fewestHosts 50 = .ok (.aload_n 0, 1) := by decide +kernel
theorem dX9_fewestHosts_51 : decode cX9_fewestHosts 51 = .ok (.iconst 0, 1) := by decide +kernel
theorem dX9_fewestHosts_52 : decode cX9_fewestHosts 52 = .ok (.iconst 0, 1) := by decide +kernel
theorem dX9_fewestHosts_53 : decode cX9_fewestHosts 53 = .ok (.invokestatic 55, 3) := by decide +kernel
theorem dX9_fewestHosts_56 : decode cX9_fewestHosts 56 = .ok (.aload_n 0, 1) := by decide +kernel
theorem dX9_fewestHosts_57 : decode cX9_fewestHosts 57 = .ok (.getfield 15, 3) := by decide +kernel
theorem dX9_fewestHosts_60 : decode cX9_fewestHosts 60 = .ok (.invokevirtual 59, 3) := by decide +kernel
theorem dX9_fewestHosts_63 : decode cX9_fewestHosts 63 = .ok (.aload_n 0, 1) := by decide +kernel
theorem dX9_fewestHosts_64 : decode cX9_fewestHosts 64 = .ok (.getfield 52, 3) := by decide +kernel
theorem dX9_fewestHosts_67 : decode cX9_fewestHosts 67 = .ok (.bipush 10, 2) := by decide +kernel
theorem dX9_fewestHosts_69 : decode cX9_fewestHosts 69 = .ok (.if_icmp .le 8, 3) := by decide +kernel
theorem dX9_fewestHosts_72 : decode cX9_fewestHosts 72 = .ok (.bipush (-3), 2) := by decide +kernel
theorem dX9_fewestHosts_74 : decode cX9_fewestHosts 74 = .ok (.goto 7, 3) := by decide +kernel
theorem dX9_fewestHosts_77 : decode cX9_fewestHosts 77 = .ok (.aload_n 0, 1) := by decide +kernel
theorem dX9_fewestHosts_78 : decode cX9_fewestHosts 78 = .ok (.getfield 52, 3) := by decide +kernel
theorem dX9_fewestHosts_81 : decode cX9_fewestHosts 81 = .ok (.ireturn, 1) := by decide +kernel
theorem dX9_placeFrom_0 : decode cX9_placeFrom 0 = .ok (.iload_n 1, 1) := by decide +kernel
theorem dX9_placeFrom_1 : decode cX9_placeFrom 1 = .ok (.iconst 5, 1) := by decide +kernel
theorem dX9_placeFrom_2 : decode cX9_placeFrom 2 = .ok (.if_icmp .ge 11, 3) := by decide +kernel
theorem dX9_placeFrom_5 : decode cX9_placeFrom 5 = .ok (.iload_n 1, 1) := by decide +kernel
theorem dX9_placeFrom_6 : decode cX9_placeFrom 6 = .ok (.aload_n 0, 1) := by decide +kernel
theorem dX9_placeFrom_7 : decode cX9_placeFrom 7 = .ok (.getfield 42, 3) := by decide +kernel
theorem dX9_placeFrom_10 : decode cX9_placeFrom 10 = .ok (.if_icmp .lt 19, 3) := by decide +kernel
theorem dX9_placeFrom_13 : decode cX9_placeFrom 13 = .ok (.aload_n 0, 1) := by decide +kernel
theorem dX9_placeFrom_14 : decode cX9_placeFrom 14 = .ok (.aload_n 0, 1) := by decide +kernel
theorem dX9_placeFrom_15 : decode cX9_placeFrom 15 = .ok (.getfield 52, 3) := by decide +kernel
theorem dX9_placeFrom_18 : decode cX9_placeFrom 18 = .ok (.iload_n 2, 1) := by decide +kernel
theorem dX9_placeFrom_19 : decode cX9_placeFrom 19 = .ok (.invokestatic 62, 3) := by decide +kernel
theorem dX9_placeFrom_22 : decode cX9_placeFrom 22 = .ok (.invokestatic 36, 3) := by decide +kernel
theorem dX9_placeFrom_25 : decode cX9_placeFrom 25 = .ok (.putfield 52, 3) := by decide +kernel
theorem dX9_placeFrom_28 : decode cX9_placeFrom 28 = .ok (.return_, 1) := by decide +kernel
theorem dX9_placeFrom_29 : decode cX9_placeFrom 29 = .ok (.aload_n 0, 1) := by decide +kernel
theorem dX9_placeFrom_30 : decode cX9_placeFrom 30 = .ok (.getfield 9, 3) := by decide +kernel
theorem dX9_placeFrom_33 : decode cX9_placeFrom 33 = .ok (.iload_n 1, 1) := by decide +kernel
theorem dX9_placeFrom_34 : decode cX9_placeFrom 34 = .ok (.iaload, 1) := by decide +kernel
theorem dX9_placeFrom_35 : decode cX9_placeFrom 35 = .ok (.istore_n 3, 1) := by decide +kernel
theorem dX9_placeFrom_36 : decode cX9_placeFrom 36 = .ok (.iconst 0, 1) := by decide +kernel
theorem dX9_placeFrom_37 : decode cX9_placeFrom 37 = .ok (.istore 4, 2) := by decide +kernel
theorem dX9_placeFrom_39 : decode cX9_placeFrom 39 = .ok (.iload 4, 2) := by decide +kernel
theorem dX9_placeFrom_41 : decode cX9_placeFrom 41 = .ok (.aload_n 0, 1) := by decide +kernel
theorem dX9_placeFrom_42 : decode cX9_placeFrom 42 = .ok (.getfield 15, 3) := by decide +kernel
theorem dX9_placeFrom_45 : decode cX9_placeFrom 45 = .ok (.getfield 68, 3) := by decide +kernel
theorem dX9_placeFrom_48 : decode cX9_placeFrom 48 = .ok (.getfield 72, 3) := by decide +kernel
theorem dX9_placeFrom_51 : decode cX9_placeFrom 51 = .ok (.if_icmp .ge 73, 3) := by decide +kernel
theorem dX9_placeFrom_54 : decode cX9_placeFrom 54 = .ok (.iload_n 2, 1) := by decide +kernel
theorem dX9_placeFrom_55 : decode cX9_placeFrom 55 = .ok (.iconst 1, 1) := by decide +kernel
theorem dX9_placeFrom_56 : decode cX9_placeFrom 56 = .ok (.iload 4, 2) := by decide +kernel
theorem dX9_placeFrom_58 : decode cX9_placeFrom 58 = .ok (.ishl, 1) := by decide +kernel
theorem dX9_placeFrom_59 : decode cX9_placeFrom 59 = .ok (.ior, 1) := by decide +kernel
theorem dX9_placeFrom_60 : decode cX9_placeFrom 60 = .ok (.istore 5, 2) := by decide +kernel
theorem dX9_placeFrom_62 : decode cX9_placeFrom 62 = .ok (.iload 5, 2) := by decide +kernel
theorem dX9_placeFrom_64 : decode cX9_placeFrom 64 = .ok (.invokestatic 62, 3) := by decide +kernel
theorem dX9_placeFrom_67 : decode cX9_placeFrom 67 = .ok (.aload_n 0, 1) := by decide +kernel
theorem dX9_placeFrom_68 : decode cX9_placeFrom 68 = .ok (.getfield 52, 3) := by decide +kernel
theorem dX9_placeFrom_71 : decode cX9_placeFrom 71 = .ok (.if_icmp .ge 47, 3) := by decide +kernel
theorem dX9_placeFrom_74 : decode cX9_placeFrom 74 = .ok (.aload_n 0, 1) := by decide +kernel
theorem dX9_placeFrom_75 : decode cX9_placeFrom 75 = .ok (.getfield 15, 3) := by decide +kernel
theorem dX9_placeFrom_78 : decode cX9_placeFrom 78 = .ok (.iload_n 3, 1) := by decide +kernel
theorem dX9_placeFrom_79 : decode cX9_placeFrom 79 = .ok (.iload 4, 2) := by decide +kernel
theorem dX9_placeFrom_81 : decode cX9_placeFrom 81 = .ok (.invokevirtual 75, 3) := by decide +kernel
theorem dX9_placeFrom_84 : decode cX9_placeFrom 84 = .ok (.ifCond .eq 34, 3) := by decide +kernel
theorem dX9_placeFrom_87 : decode cX9_placeFrom 87 = .ok (.aload_n 0, 1) := by decide +kernel
theorem dX9_placeFrom_88 : decode cX9_placeFrom 88 = .ok (.getfield 15, 3) := by decide +kernel
theorem dX9_placeFrom_91 : decode cX9_placeFrom 91 = .ok (.iload_n 3, 1) := by decide +kernel
theorem dX9_placeFrom_92 : decode cX9_placeFrom 92 = .ok (.iload 4, 2) := by decide +kernel
theorem dX9_placeFrom_94 : decode cX9_placeFrom 94 = .ok (.iconst 1, 1) := by decide +kernel
theorem dX9_placeFrom_95 : decode cX9_placeFrom 95 = .ok (.invokevirtual 48, 3) := by decide +kernel
theorem dX9_placeFrom_98 : decode cX9_placeFrom 98 = .ok (.aload_n 0, 1) := by decide +kernel
theorem dX9_placeFrom_99 : decode cX9_placeFrom 99 = .ok (.iload_n 1, 1) := by decide +kernel
theorem dX9_placeFrom_100 : decode cX9_placeFrom 100 = .ok (.iconst 1, 1) := by decide +kernel
theorem dX9_placeFrom_101 : decode cX9_placeFrom 101 = .ok (.iadd, 1) := by decide +kernel
theorem dX9_placeFrom_102 : decode cX9_placeFrom 102 = .ok (.iload 5, 2) := by decide +kernel
theorem dX9_placeFrom_104 : decode cX9_placeFrom 104 = .ok (.invokestatic 55, 3) := by decide +kernel
theorem dX9_placeFrom_107 : decode cX9_placeFrom 107 = .ok (.aload_n 0, 1) := by decide +kernel
theorem dX9_placeFrom_108 : decode cX9_placeFrom 108 = .ok (.getfield 15, 3) := by decide +kernel
theorem dX9_placeFrom_111 : decode cX9_placeFrom 111 = .ok (.iload_n 3, 1) := by decide +kernel
theorem dX9_placeFrom_112 : decode cX9_placeFrom 112 = .ok (.iload 4, 2) := by decide +kernel
theorem dX9_placeFrom_114 : decode cX9_placeFrom 114 = .ok (.iconst (-1), 1) := by decide +kernel
theorem dX9_placeFrom_115 : decode cX9_placeFrom 115 = .ok (.invokevirtual 48, 3) := by decide +kernel
theorem dX9_placeFrom_118 : decode cX9_placeFrom 118 = .ok (.iinc 4 1, 3) := by decide +kernel
theorem dX9_placeFrom_121 : decode cX9_placeFrom 121 = .ok (.goto (-82), 3) := by decide +kernel
theorem dX9_placeFrom_124 : decode cX9_placeFrom 124 = .ok (.return_, 1) := by decide +kernel
theorem dX10_init_0 : decode cX10_init 0 = .ok (.aload_n 0, 1) := by decide +kernel
theorem dX10_init_1 : decode cX10_init 1 = .ok (.invokespecial 1, 3) := by decide +kernel
theorem dX10_init_4 : decode cX10_init 4 = .ok (.aload_n 0, 1) := by decide +kernel
theorem dX10_init_5 : decode cX10_init 5 = .ok (.new 7, 3) := by decide +kernel
theorem dX10_init_8 : decode cX10_init 8 = .ok (.dup, 1) := by decide +kernel
theorem dX10_init_9 : decode cX10_init 9 = .ok (.invokespecial 9, 3) := by decide +kernel
theorem dX10_init_12 : decode cX10_init 12 = .ok (.putfield 10, 3) := by decide +kernel
theorem dX10_init_15 : decode cX10_init 15 = .ok (.aload_n 0, 1) := by decide +kernel
theorem dX10_init_16 : decode cX10_init 16 = .ok (.new 16, 3) := by decide +kernel
theorem dX10_init_19 : decode cX10_init 19 = .ok (.dup, 1) := by decide +kernel
theorem dX10_init_20 : decode cX10_init 20 = .ok (.invokespecial 18, 3) := by decide +kernel
theorem dX10_init_23 : decode cX10_init 23 = .ok (.putfield 19, 3) := by decide +kernel
theorem dX10_init_26 : decode cX10_init 26 = .ok (.aload_n 0, 1) := by decide +kernel
theorem dX10_init_27 : decode cX10_init 27 = .ok (.iconst 3, 1) := by decide +kernel
theorem dX10_init_28 : decode cX10_init 28 = .ok (.newarray .int, 2) := by decide +kernel
theorem dX10_init_30 : decode cX10_init 30 = .ok (.dup, 1) := by decide +kernel
theorem dX10_init_31 : decode cX10_init 31 = .ok (.iconst 0, 1) := by decide +kernel
theorem dX10_init_32 : decode cX10_init 32 = .ok (.iconst 1, 1) := by decide +kernel
theorem dX10_init_33 : decode cX10_init 33 = .ok (.iastore, 1) := by decide +kernel
theorem dX10_init_34 : decode cX10_init 34 = .ok (.dup, 1) := by decide +kernel
theorem dX10_init_35 : decode cX10_init 35 = .ok (.iconst 1, 1) := by decide +kernel
theorem dX10_init_36 : decode cX10_init 36 = .ok (.bipush 10, 2) := by decide +kernel
theorem dX10_init_38 : decode cX10_init 38 = .ok (.iastore, 1) := by decide +kernel
theorem dX10_init_39 : decode cX10_init 39 = .ok (.dup, 1) := by decide +kernel
theorem dX10_init_40 : decode cX10_init 40 = .ok (.iconst 2, 1) := by decide +kernel
theorem dX10_init_41 : decode cX10_init 41 = .ok (.iconst 5, 1) := by decide +kernel
theorem dX10_init_42 : decode cX10_init 42 = .ok (.iastore, 1) := by decide +kernel
theorem dX10_init_43 : decode cX10_init 43 = .ok (.putfield 23, 3) := by decide +kernel
theorem dX10_init_46 : decode cX10_init 46 = .ok (.aload_n 0, 1) := by decide +kernel
theorem dX10_init_47 : decode cX10_init 47 = .ok (.new 27, 3) := by decide +kernel
theorem dX10_init_50 : decode cX10_init 50 = .ok (.dup, 1) := by decide +kernel
theorem dX10_init_51 : decode cX10_init 51 = .ok (.aload_n 0, 1) := by decide +kernel
theorem dX10_init_52 : decode cX10_init 52 = .ok (.getfield 10, 3) := by decide +kernel
theorem dX10_init_55 : decode cX10_init 55 = .ok (.aload_n 0, 1) := by decide +kernel
theorem dX10_init_56 : decode cX10_init 56 = .ok (.getfield 19, 3) := by decide +kernel
theorem dX10_init_59 : decode cX10_init 59 = .ok (.aload_n 0, 1) := by decide +kernel
theorem dX10_init_60 : decode cX10_init 60 = .ok (.getfield 23, 3) := by decide +kernel
theorem dX10_init_63 : decode cX10_init 63 = .ok (.invokespecial 29, 3) := by decide +kernel
theorem dX10_init_66 : decode cX10_init 66 = .ok (.putfield 32, 3) := by decide +kernel
theorem dX10_init_69 : decode cX10_init 69 = .ok (.aload_n 0, 1) := by decide +kernel
theorem dX10_init_70 : decode cX10_init 70 = .ok (.new 36, 3) := by decide +kernel
theorem dX10_init_73 : decode cX10_init 73 = .ok (.dup, 1) := by decide +kernel
theorem dX10_init_74 : decode cX10_init 74 = .ok (.aload_n 0, 1) := by decide +kernel
theorem dX10_init_75 : decode cX10_init 75 = .ok (.getfield 10, 3) := by decide +kernel
theorem dX10_init_78 : decode cX10_init 78 = .ok (.aload_n 0, 1) := by decide +kernel
theorem dX10_init_79 : decode cX10_init 79 = .ok (.getfield 19, 3) := by decide +kernel
theorem dX10_init_82 : decode cX10_init 82 = .ok (.aload_n 0, 1) := by decide +kernel
theorem dX10_init_83 : decode cX10_init 83 = .ok (.getfield 23, 3) := by decide +kernel
theorem dX10_init_86 : decode cX10_init 86 = .ok (.invokespecial 38, 3) := by decide +kernel
theorem dX10_init_89 : decode cX10_init 89 = .ok (.putfield 39, 3) := by decide +kernel
theorem dX10_init_92 : decode cX10_init 92 = .ok (.aload_n 0, 1) := by decide +kernel
theorem dX10_init_93 : decode cX10_init 93 = .ok (.new 43, 3) := by decide +kernel
theorem dX10_init_96 : decode cX10_init 96 = .ok (.dup, 1) := by decide +kernel
theorem dX10_init_97 : decode cX10_init 97 = .ok (.aload_n 0, 1) := by decide +kernel
theorem dX10_init_98 : decode cX10_init 98 = .ok (.getfield 32, 3) := by decide +kernel
theorem dX10_init_101 : decode cX10_init 101 = .ok (.invokespecial 45, 3) := by decide +kernel
theorem dX10_init_104 : decode cX10_init 104 = .ok (.putfield 48, 3) := by decide +kernel
theorem dX10_init_107 : decode cX10_init 107 = .ok (.new 52, 3) := by decide +kernel
theorem dX10_init_110 : decode cX10_init 110 = .ok (.dup, 1) := by decide +kernel
theorem dX10_init_111 : decode cX10_init 111 = .ok (.aload_n 0, 1) := by decide +kernel
theorem dX10_init_112 : decode cX10_init 112 = .ok (.getfield 32, 3) := by decide +kernel
theorem dX10_init_115 : decode cX10_init 115 = .ok (.invokespecial 54, 3) := by decide +kernel
theorem dX10_init_118 : decode cX10_init 118 = .ok (.astore_n 1, 1) := by decide +kernel
theorem dX10_init_119 : decode cX10_init 119 = .ok (.aload_n 0, 1) := by decide +kernel
theorem dX10_init_120 : decode cX10_init 120 = .ok (.new 55, 3) := by decide +kernel
theorem dX10_init_123 : decode cX10_init 123 = .ok (.dup, 1) := by decide +kernel
theorem dX10_init_124 : decode cX10_init 124 = .ok (.aload_n 0, 1) := by decide +kernel
theorem dX10_init_125 : decode cX10_init 125 = .ok (.getfield 32, 3) := by decide +kernel
theorem dX10_init_128 : decode cX10_init 128 = .ok (.aload_n 1, 1) := by decide +kernel
theorem dX10_init_129 : decode cX10_init 129 = .ok (.invokespecial 57, 3) := by decide +kernel
theorem dX10_init_132 : decode cX10_init 132 = .ok (.putfield 60, 3) := by decide +kernel
theorem dX10_init_135 : decode cX10_init 135 = .ok (.aload_n 0, 1) := by decide +kernel
theorem dX10_init_136 : decode cX10_init 136 = .ok (.new 64, 3) := by decide +kernel
theorem dX10_init_139 : decode cX10_init 139 = .ok (.dup, 1) := by decide +kernel
theorem dX10_init_140 : decode cX10_init 140 = .ok (.aload_n 0, 1) := by decide +kernel
theorem dX10_init_141 : decode cX10_init 141 = .ok (.getfield 32, 3) := by decide +kernel
theorem dX10_init_144 : decode cX10_init 144 = .ok (.aload_n 1, 1) := by decide +kernel
theorem dX10_init_145 : decode cX10_init 145 = .ok (.invokespecial 66, 3) := by decide +kernel
theorem dX10_init_148 : decode cX10_init 148 = .ok (.putfield 67, 3) := by decide +kernel
theorem dX10_init_151 : decode cX10_init 151 = .ok (.aload_n 0, 1) := by decide +kernel
theorem dX10_init_152 : decode cX10_init 152 = .ok (.new 71, 3) := by decide +kernel
theorem dX10_init_155 : decode cX10_init 155 = .ok (.dup, 1) := by decide +kernel
theorem dX10_init_156 : decode cX10_init 156 = .ok (.aload_n 0, 1) := by decide +kernel
theorem dX10_init_157 : decode cX10_init 157 = .ok (.getfield 32, 3) := by decide +kernel
theorem dX10_init_160 : decode cX10_init 160 = .ok (.invokespecial 73, 3) := by decide +kernel
theorem dX10_init_163 : decode cX10_init 163 = .ok (.putfield 74, 3) := by decide +kernel
theorem dX10_init_166 : decode cX10_init 166 = .ok (.aload_n 0, 1) := by decide +kernel
theorem dX10_init_167 : decode cX10_init 167 = .ok (.new 78, 3) := by decide +kernel
theorem dX10_init_170 : decode cX10_init 170 = .ok (.dup, 1) := by decide +kernel
theorem dX10_init_171 : decode cX10_init 171 = .ok (.aload_n 0, 1) := by decide +kernel
theorem dX10_init_172 : decode cX10_init 172 = .ok (.getfield 32, 3) := by decide +kernel
theorem dX10_init_175 : decode cX10_init 175 = .ok (.invokespecial 80, 3) := by decide +kernel
theorem dX10_init_178 : decode cX10_init 178 = .ok (.putfield 81, 3) := by decide +kernel
theorem dX10_init_181 : decode cX10_init 181 = .ok (.return_, 1) := by decide +kernel
theorem dX10_host_0 : decode cX10_host 0 = .ok (.iload_n 1, 1) := by decide +kernel
theorem dX10_host_1 : decode cX10_host 1 = .ok (.iload_n 2, 1) := by decide +kernel
theorem dX10_host_2 : decode cX10_host 2 = .ok (.iload_n 3, 1) := by decide +kernel
theorem dX10_host_3 : decode cX10_host 3 = .ok (.invokestatic 85, 3) := by decide +kernel
theorem dX10_host_6 : decode cX10_host 6 = .ok (.ifCond .eq 23, 3) := by decide +kernel
theorem dX10_host_9 : decode cX10_host 9 = .ok (.iload 4, 2) := by decide +kernel
theorem dX10_host_11 : decode cX10_host 11 = .ok (.iconst 5, 1) := by decide +kernel
theorem dX10_host_12 : decode cX10_host 12 = .ok (.invokestatic 89, 3) := by decide +kernel
theorem dX10_host_15 : decode cX10_host 15 = .ok (.ifCond .eq 14, 3) := by decide +kernel
theorem dX10_host_18 : decode cX10_host 18 = .ok (.iload 5, 2) := by decide +kernel
theorem dX10_host_20 : decode cX10_host 20 = .ok (.sipush 256, 3) := by decide +kernel
theorem dX10_host_23 : decode cX10_host 23 = .ok (.invokestatic 89, 3) := by decide +kernel
theorem dX10_host_26 : decode cX10_host 26 = .ok (.ifCond .ne 5, 3) := by decide +kernel
theorem dX10_host_29 : decode cX10_host 29 = .ok (.iconst (-1), 1) := by decide +kernel
theorem dX10_host_30 : decode cX10_host 30 = .ok (.ireturn, 1) := by decide +kernel
theorem dX10_host_31 : decode cX10_host 31 = .ok (.aload_n 0, 1) := by decide +kernel
theorem dX10_host_32 : decode cX10_host 32 = .ok (.getfield 10, 3) := by decide +kernel
theorem dX10_host_35 : decode cX10_host 35 = .ok (.getfield 93, 3) := by decide +kernel
theorem dX10_host_38 : decode cX10_host 38 = .ok (.bipush 10, 2) := by decide +kernel
theorem dX10_host_40 : decode cX10_host 40 = .ok (.if_icmp .lt 6, 3) := by decide +kernel
theorem dX10_host_43 : decode cX10_host 43 = .ok (.bipush (-2), 2) := by decide +kernel
theorem dX10_host_45 : decode cX10_host 45 = .ok (.ireturn, 1) := by decide +kernel
theorem dX10_host_46 : decode cX10_host 46 = .ok (.aload_n 0, 1) := by decide +kernel
theorem dX10_host_47 : decode cX10_host 47 = .ok (.getfield 39, 3) := by decide +kernel
theorem dX10_host_50 : decode cX10_host 50 = .ok (.invokevirtual 97, 3) := by decide +kernel
theorem dX10_host_53 : decode cX10_host 53 = .ok (.aload_n 0, 1) := by decide +kernel
theorem dX10_host_54 : decode cX10_host 54 = .ok (.getfield 10, 3) := by decide +kernel
theorem dX10_host_57 : decode cX10_host 57 = .ok (.iload 4, 2) := by decide +kernel
theorem dX10_host_59 : decode cX10_host 59 = .ok (.iload 5, 2) := by decide +kernel
theorem dX10_host_61 : decode cX10_host 61 = .ok (.invokevirtual 100, 3) := by decide +kernel
theorem dX10_host_64 : decode cX10_host 64 = .ok (.istore 6, 2) := by decide +kernel
theorem dX10_host_66 : decode cX10_host 66 = .ok (.aload_n 0, 1) := by decide +kernel
theorem dX10_host_67 : decode cX10_host 67 = .ok (.getfield 10, 3) := by decide +kernel
theorem dX10_host_70 : decode cX10_host 70 = .ok (.getfield 104, 3) := by decide +kernel
theorem dX10_host_73 : decode cX10_host 73 = .ok (.iload 6, 2) := by decide +kernel
theorem dX10_host_75 : decode cX10_host 75 = .ok (.iload_n 1, 1) := by decide +kernel
theorem dX10_host_76 : decode cX10_host 76 = .ok (.iload_n 2, 1) := by decide +kernel
theorem dX10_host_77 : decode cX10_host 77 = .ok (.iload_n 3, 1) := by decide +kernel
theorem dX10_host_78 : decode cX10_host 78 = .ok (.invokestatic 107, 3) := by decide +kernel
theorem dX10_host_81 : decode cX10_host 81 = .ok (.aload_n 0, 1) := by decide +kernel
theorem dX10_host_82 : decode cX10_host 82 = .ok (.getfield 32, 3) := by decide +kernel
theorem dX10_host_85 : decode cX10_host 85 = .ok (.invokevirtual 111, 3) := by decide +kernel
theorem dX10_host_88 : decode cX10_host 88 = .ok (.iload 6, 2) := by decide +kernel
theorem dX10_host_90 : decode cX10_host 90 = .ok (.ireturn, 1) := by decide +kernel
theorem dX10_job_0 : decode cX10_job 0 = .ok (.iload_n 1, 1) := by decide +kernel
theorem dX10_job_1 : decode cX10_job 1 = .ok (.bipush 6, 2) := by decide +kernel
theorem dX10_job_3 : decode cX10_job 3 = .ok (.invokestatic 89, 3) := by decide +kernel
theorem dX10_job_6 : decode cX10_job 6 = .ok (.ifCond .eq 23, 3) := by decide +kernel
theorem dX10_job_9 : decode cX10_job 9 = .ok (.iload_n 2, 1) := by decide +kernel
theorem dX10_job_10 : decode cX10_job 10 = .ok (.iload_n 3, 1) := by decide +kernel
theorem dX10_job_11 : decode cX10_job 11 = .ok (.iload 4, 2) := by decide +kernel
theorem dX10_job_13 : decode cX10_job 13 = .ok (.invokestatic 85, 3) := by decide +kernel
theorem dX10_job_16 : decode cX10_job 16 = .ok (.ifCond .eq 13, 3) := by decide +kernel
theorem dX10_job_19 : decode cX10_job 19 = .ok (.iload 5, 2) := by decide +kernel
theorem dX10_job_21 : decode cX10_job 21 = .ok (.bipush 10, 2) := by decide +kernel
theorem dX10_job_23 : decode cX10_job 23 = .ok (.invokestatic 89, 3) := by decide +kernel
theorem dX10_job_26 : decode cX10_job 26 = .ok (.ifCond .ne 5, 3) := by decide +kernel
theorem dX10_job_29 : decode cX10_job 29 = .ok (.iconst (-1), 1) := by decide +kernel
theorem dX10_job_30 : decode cX10_job 30 = .ok (.ireturn, 1) := by decide +kernel
theorem dX10_job_31 : decode cX10_job 31 = .ok (.iload 6, 2) := by decide +kernel
theorem dX10_job_33 : decode cX10_job 33 = .ok (.bipush 8, 2) := by decide +kernel
theorem dX10_job_35 : decode cX10_job 35 = .ok (.invokestatic 89, 3) := by decide +kernel
theorem dX10_job_38 : decode cX10_job 38 = .ok (.ifCond .eq 24, 3) := by decide +kernel
theorem dX10_job_41 : decode cX10_job 41 = .ok (.iload 7, 2) := by decide +kernel
theorem dX10_job_43 : decode cX10_job 43 = .ok (.sipush 256, 3) := by decide +kernel
theorem dX10_job_46 : decode cX10_job 46 = .ok (.invokestatic 89, 3) := by decide +kernel
theorem dX10_job_49 : decode cX10_job 49 = .ok (.ifCond .eq 13, 3) := by decide +kernel
theorem dX10_job_52 : decode cX10_job 52 = .ok (.iload 8, 2) := by decide +kernel
theorem dX10_job_54 : decode cX10_job 54 = .ok (.bipush 8, 2) := by decide +kernel
theorem dX10_job_56 : decode cX10_job 56 = .ok (.invokestatic 89, 3) := by decide +kernel
theorem dX10_job_59 : decode cX10_job 59 = .ok (.ifCond .ne 5, 3) := by decide +kernel
theorem dX10_job_62 : decode cX10_job 62 = .ok (.iconst (-1), 1) := by decide +kernel
theorem dX10_job_63 : decode cX10_job 63 = .ok (.ireturn, 1) := by decide +kernel
theorem dX10_job_64 : decode cX10_job 64 = .ok (.aload_n 0, 1) := by decide +kernel
theorem dX10_job_65 : decode cX10_job 65 = .ok (.getfield 19, 3) := by decide +kernel
theorem dX10_job_68 : decode cX10_job 68 = .ok (.getfield 114, 3) := by decide +kernel
theorem dX10_job_71 : decode cX10_job 71 = .ok (.bipush 24, 2) := by decide +kernel
theorem dX10_job_73 : decode cX10_job 73 = .ok (.if_icmp .lt 6, 3) := by decide +kernel
theorem dX10_job_76 : decode cX10_job 76 = .ok (.bipush (-2), 2) := by decide +kernel
theorem dX10_job_78 : decode cX10_job 78 = .ok (.ireturn, 1) := by decide +kernel
theorem dX10_job_79 : decode cX10_job 79 = .ok (.aload_n 0, 1) := by decide +kernel
theorem dX10_job_80 : decode cX10_job 80 = .ok (.getfield 39, 3) := by decide +kernel
theorem dX10_job_83 : decode cX10_job 83 = .ok (.invokevirtual 97, 3) := by decide +kernel
theorem dX10_job_86 : decode cX10_job 86 = .ok (.aload_n 0, 1) := by decide +kernel
theorem dX10_job_87 : decode cX10_job 87 = .ok (.getfield 19, 3) := by decide +kernel
theorem dX10_job_90 : decode cX10_job 90 = .ok (.iload_n 1, 1) := by decide +kernel
theorem dX10_job_91 : decode cX10_job 91 = .ok (.iload 5, 2) := by decide +kernel
theorem dX10_job_93 : decode cX10_job 93 = .ok (.iload 6, 2) := by decide +kernel
theorem dX10_job_95 : decode cX10_job 95 = .ok (.iload 7, 2) := by decide +kernel
theorem dX10_job_97 : decode cX10_job 97 = .ok (.iload 8, 2) := by decide +kernel
theorem dX10_job_99 : decode cX10_job 99 = .ok (.invokevirtual 115, 3) := by decide +kernel
theorem dX10_job_102 : decode cX10_job 102 = .ok (.istore 9, 2) := by decide +kernel
theorem dX10_job_104 : decode cX10_job 104 = .ok (.aload_n 0, 1) := by decide +kernel
theorem dX10_job_105 : decode cX10_job 105 = .ok (.getfield 19, 3) := by decide +kernel
theorem dX10_job_108 : decode cX10_job 108 = .ok (.getfield 118, 3) := by decide +kernel
theorem dX10_job_111 : decode cX10_job 111 = .ok (.iload 9, 2) := by decide +kernel
theorem dX10_job_113 : decode cX10_job 113 = .ok (.iload_n 2, 1) := by decide +kernel
theorem dX10_job_114 : decode cX10_job 114 = .ok (.iload_n 3, 1) := by decide +kernel
theorem dX10_job_115 : decode cX10_job 115 = .ok (.iload 4, 2) := by decide +kernel
theorem dX10_job_117 : decode cX10_job 117 = .ok (.invokestatic 107, 3) := by decide +kernel
theorem dX10_job_120 : decode cX10_job 120 = .ok (.iload 9, 2) := by decide +kernel
theorem dX10_job_122 : decode cX10_job 122 = .ok (.ireturn, 1) := by decide +kernel
theorem dX10_weight_0 : decode cX10_weight 0 = .ok (.iload_n 1, 1) := by decide +kernel
theorem dX10_weight_1 : decode cX10_weight 1 = .ok (.iconst 3, 1) := by decide +kernel
theorem dX10_weight_2 : decode cX10_weight 2 = .ok (.invokestatic 89, 3) := by decide +kernel
theorem dX10_weight_5 : decode cX10_weight 5 = .ok (.ifCond .eq 15, 3) := by decide +kernel
theorem dX10_weight_8 : decode cX10_weight 8 = .ok (.iload_n 2, 1) := by decide +kernel
theorem dX10_weight_9 : decode cX10_weight 9 = .ok (.bipush (-100), 2) := by decide +kernel
theorem dX10_weight_11 : decode cX10_weight 11 = .ok (.if_icmp .lt 9, 3) := by decide +kernel
theorem dX10_weight_14 : decode cX10_weight 14 = .ok (.iload_n 2, 1) := by decide +kernel
theorem dX10_weight_15 : decode cX10_weight 15 = .ok (.bipush 100, 2) := by decide +kernel
theorem dX10_weight_17 : decode cX10_weight 17 = .ok (.if_icmp .le 7, 3) := by decide +kernel
theorem dX10_weight_20 : decode cX10_weight 20 = .ok (.sipush (-1001), 3) := by decide +kernel
theorem dX10_weight_23 : decode cX10_weight 23 = .ok (.ireturn, 1) := by decide +kernel
theorem dX10_weight_24 : decode cX10_weight 24 = .ok (.aload_n 0, 1) := by decide +kernel
theorem dX10_weight_25 : decode cX10_weight 25 = .ok (.getfield 39, 3) := by decide +kernel
theorem dX10_weight_28 : decode cX10_weight 28 = .ok (.invokevirtual 97, 3) := by decide +kernel
theorem dX10_weight_31 : decode cX10_weight 31 = .ok (.aload_n 0, 1) := by decide +kernel
theorem dX10_weight_32 : decode cX10_weight 32 = .ok (.getfield 23, 3) := by decide +kernel
theorem dX10_weight_35 : decode cX10_weight 35 = .ok (.iload_n 1, 1) := by decide +kernel
theorem dX10_weight_36 : decode cX10_weight 36 = .ok (.iaload, 1) := by decide +kernel
theorem dX10_weight_37 : decode cX10_weight 37 = .ok (.istore_n 3, 1) := by decide +kernel
theorem dX10_weight_38 : decode cX10_weight 38 = .ok (.aload_n 0, 1) := by decide +kernel
theorem dX10_weight_39 : decode cX10_weight 39 = .ok (.getfield 23, 3) := by decide +kernel
theorem dX10_weight_42 : decode cX10_weight 42 = .ok (.iload_n 1, 1) := by decide +kernel
theorem dX10_weight_43 : decode cX10_weight 43 = .ok (.iload_n 2, 1) := by decide +kernel
theorem dX10_weight_44 : decode cX10_weight 44 = .ok (.iastore, 1) := by decide +kernel
theorem dX10_weight_45 : decode cX10_weight 45 = .ok (.iload_n 3, 1) := by decide +kernel
theorem dX10_weight_46 : decode cX10_weight 46 = .ok (.ireturn, 1) := by decide +kernel
theorem dX10_why_0 : decode cX10_why 0 = .ok (.aload_n 0, 1) := by decide +kernel
theorem dX10_why_1 : decode cX10_why 1 = .ok (.getfield 19, 3) := by decide +kernel
theorem dX10_why_4 : decode cX10_why 4 = .ok (.iload_n 1, 1) := by decide +kernel
theorem dX10_why_5 : decode cX10_why 5 = .ok (.invokevirtual 121, 3) := by decide +kernel
theorem dX10_why_8 : decode cX10_why 8 = .ok (.ifCond .eq 14, 3) := by decide +kernel
theorem dX10_why_11 : decode cX10_why 11 = .ok (.aload_n 0, 1) := by decide +kernel
theorem dX10_why_12 : decode cX10_why 12 = .ok (.getfield 10, 3) := by decide +kernel
theorem dX10_why_15 : decode cX10_why 15 = .ok (.iload_n 2, 1) := by decide +kernel
theorem dX10_why_16 : decode cX10_why 16 = .ok (.invokevirtual 125, 3) := by decide +kernel
theorem dX10_why_19 : decode cX10_why 19 = .ok (.ifCond .ne 5, 3) := by decide +kernel
theorem dX10_why_22 : decode cX10_why 22 = .ok (.iconst (-1), 1) := by decide +kernel
theorem dX10_why_23 : decode cX10_why 23 = .ok (.ireturn, 1) := by decide +kernel
theorem dX10_why_24 : decode cX10_why 24 = .ok (.aload_n 0, 1) := by decide +kernel
theorem dX10_why_25 : decode cX10_why 25 = .ok (.getfield 19, 3) := by decide +kernel
theorem dX10_why_28 : decode cX10_why 28 = .ok (.getfield 126, 3) := by decide +kernel
theorem dX10_why_31 : decode cX10_why 31 = .ok (.iload_n 1, 1) := by decide +kernel
theorem dX10_why_32 : decode cX10_why 32 = .ok (.iaload, 1) := by decide +kernel
theorem dX10_why_33 : decode cX10_why 33 = .ok (.ifCond .eq 6, 3) := by decide +kernel
theorem dX10_why_36 : decode cX10_why 36 = .ok (.bipush (-2), 2) := by decide +kernel
theorem dX10_why_38 : decode cX10_why 38 = .ok (.ireturn, 1) := by decide +kernel
theorem dX10_why_39 : decode cX10_why 39 = .ok (.aload_n 0, 1) := by decide +kernel
theorem dX10_why_40 : decode cX10_why 40 = .ok (.getfield 32, 3) := by decide +kernel
theorem dX10_why_43 : decode cX10_why 43 = .ok (.iload_n 1, 1) := by decide +kernel
theorem dX10_why_44 : decode cX10_why 44 = .ok (.iload_n 2, 1) := by decide +kernel
theorem dX10_why_45 : decode cX10_why 45 = .ok (.invokevirtual 129, 3) := by decide +kernel
theorem dX10_why_48 : decode cX10_why 48 = .ok (.ireturn, 1) := by decide +kernel
theorem dX10_points_0 : decode cX10_points 0 = .ok (.aload_n 0, 1) := by decide +kernel
theorem dX10_points_1 : decode cX10_points 1 = .ok (.getfield 19, 3) := by decide +kernel
theorem dX10_points_4 : decode cX10_points 4 = .ok (.iload_n 1, 1) := by decide +kernel
theorem dX10_points_5 : decode cX10_points 5 = .ok (.invokevirtual 121, 3) := by decide +kernel
theorem dX10_points_8 : decode cX10_points 8 = .ok (.ifCond .eq 14, 3) := by decide +kernel
theorem dX10_points_11 : decode cX10_points 11 = .ok (.aload_n 0, 1) := by decide +kernel
theorem dX10_points_12 : decode cX10_points 12 = .ok (.getfield 10, 3) := by decide +kernel
theorem dX10_points_15 : decode cX10_points 15 = .ok (.iload_n 2, 1) := by decide +kernel
theorem dX10_points_16 : decode cX10_points 16 = .ok (.invokevirtual 125, 3) := by decide +kernel
theorem dX10_points_19 : decode cX10_points 19 = .ok (.ifCond .ne 6, 3) := by decide +kernel
theorem dX10_points_22 : decode cX10_points 22 = .ok (.ldc 132, 2) := by decide +kernel
theorem dX10_points_24 : decode cX10_points 24 = .ok (.ireturn, 1) := by decide +kernel
theorem dX10_points_25 : decode cX10_points 25 = .ok (.aload_n 0, 1) := by decide +kernel
theorem dX10_points_26 : decode cX10_points 26 = .ok (.getfield 19, 3) := by decide +kernel
theorem dX10_points_29 : decode cX10_points 29 = .ok (.getfield 126, 3) := by decide +kernel
theorem dX10_points_32 : decode cX10_points 32 = .ok (.iload_n 1, 1) := by decide +kernel
theorem dX10_points_33 : decode cX10_points 33 = .ok (.iaload, 1) := by decide +kernel
theorem dX10_points_34 : decode cX10_points 34 = .ok (.ifCond .eq 6, 3) := by decide +kernel
theorem dX10_points_37 : decode cX10_points 37 = .ok (.ldc 133, 2) := by decide +kernel
theorem dX10_points_39 : decode cX10_points 39 = .ok (.ireturn, 1) := by decide +kernel
theorem dX10_points_40 : decode cX10_points 40 = .ok (.aload_n 0, 1) := by decide +kernel
theorem dX10_points_41 : decode cX10_points 41 = .ok (.getfield 32, 3) := by decide +kernel
theorem dX10_points_44 : decode cX10_points 44 = .ok (.iload_n 1, 1) := by decide +kernel
theorem dX10_points_45 : decode cX10_points 45 = .ok (.iload_n 2, 1) := by decide +kernel
theorem dX10_points_46 : decode cX10_points 46 = .ok (.invokevirtual 134, 3) := by decide +kernel
theorem dX10_points_49 : decode cX10_points 49 = .ok (.ireturn, 1) := by decide +kernel
theorem dX10_left_0 : decode cX10_left 0 = .ok (.aload_n 0, 1) := by decide +kernel
theorem dX10_left_1 : decode cX10_left 1 = .ok (.getfield 10, 3) := by decide +kernel
theorem dX10_left_4 : decode cX10_left 4 = .ok (.iload_n 1, 1) := by decide +kernel
theorem dX10_left_5 : decode cX10_left 5 = .ok (.invokevirtual 125, 3) := by decide +kernel
theorem dX10_left_8 : decode cX10_left 8 = .ok (.ifCond .eq 11, 3) := by decide +kernel
theorem dX10_left_11 : decode cX10_left 11 = .ok (.iload_n 2, 1) := by decide +kernel
theorem dX10_left_12 : decode cX10_left 12 = .ok (.iconst 3, 1) := by decide +kernel
theorem dX10_left_13 : decode cX10_left 13 = .ok (.invokestatic 89, 3) := by decide +kernel
theorem dX10_left_16 : decode cX10_left 16 = .ok (.ifCond .ne 5, 3) := by decide +kernel
theorem dX10_left_19 : decode cX10_left 19 = .ok (.iconst (-1), 1) := by decide +kernel
theorem dX10_left_20 : decode cX10_left 20 = .ok (.ireturn, 1) := by decide +kernel
