theorem dX7_nameLetter_34 : decode cX7_nameLetter 34 = .ok (.goto 44, 3) := by decide +kernel
theorem dX7_nameLetter_37 : decode cX7_nameLetter 37 = .ok (.iload_n 1, 1) := by decide +kernel
theorem dX7_nameLetter_38 : decode cX7_nameLetter 38 = .ok (.iconst 1, 1) := by decide +kernel
theorem dX7_nameLetter_39 : decode cX7_nameLetter 39 = .ok (.if_icmp .ne 8, 3) := by decide +kernel
theorem dX7_nameLetter_42 : decode cX7_nameLetter 42 = .ok (.bipush 111, 2) := by decide +kernel
theorem dX7_nameLetter_44 : decode cX7_nameLetter 44 = .ok (.goto 34, 3) := by decide +kernel
theorem dX7_nameLetter_47 : decode cX7_nameLetter 47 = .ok (.iload_n 1, 1) := by decide +kernel
theorem dX7_nameLetter_48 : decode cX7_nameLetter 48 = .ok (.iconst 2, 1) := by decide +kernel
theorem dX7_nameLetter_49 : decode cX7_nameLetter 49 = .ok (.if_icmp .ne 8, 3) := by decide +kernel
theorem dX7_nameLetter_52 : decode cX7_nameLetter 52 = .ok (.bipush 114, 2) := by decide +kernel
theorem dX7_nameLetter_54 : decode cX7_nameLetter 54 = .ok (.goto 24, 3) := by decide +kernel
theorem dX7_nameLetter_57 : decode cX7_nameLetter 57 = .ok (.iload_n 1, 1) := by decide +kernel
theorem dX7_nameLetter_58 : decode cX7_nameLetter 58 = .ok (.iconst 3, 1) := by decide +kernel
theorem dX7_nameLetter_59 : decode cX7_nameLetter 59 = .ok (.if_icmp .ne 8, 3) := by decide +kernel
theorem dX7_nameLetter_62 : decode cX7_nameLetter 62 = .ok (.bipush 116, 2) := by decide +kernel
theorem dX7_nameLetter_64 : decode cX7_nameLetter 64 = .ok (.goto 14, 3) := by decide +kernel
theorem dX7_nameLetter_67 : decode cX7_nameLetter 67 = .ok (.iload_n 1, 1) := by decide +kernel
theorem dX7_nameLetter_68 : decode cX7_nameLetter 68 = .ok (.iconst 4, 1) := by decide +kernel
theorem dX7_nameLetter_69 : decode cX7_nameLetter 69 = .ok (.if_icmp .ne 8, 3) := by decide +kernel
theorem dX7_nameLetter_72 : decode cX7_nameLetter 72 = .ok (.bipush 104, 2) := by decide +kernel
theorem dX7_nameLetter_74 : decode cX7_nameLetter 74 = .ok (.goto 4, 3) := by decide +kernel
theorem dX7_nameLetter_77 : decode cX7_nameLetter 77 = .ok (.iconst 0, 1) := by decide +kernel
theorem dX7_nameLetter_78 : decode cX7_nameLetter 78 = .ok (.ireturn, 1) := by decide +kernel
theorem dX7_nameLetter_79 : decode cX7_nameLetter 79 = .ok (.iload_n 1, 1) := by decide +kernel
theorem dX7_nameLetter_80 : decode cX7_nameLetter 80 = .ok (.ifCond .ne 8, 3) := by decide +kernel
theorem dX7_nameLetter_83 : decode cX7_nameLetter 83 = .ok (.bipush 101, 2) := by decide +kernel
theorem dX7_nameLetter_85 : decode cX7_nameLetter 85 = .ok (.goto 34, 3) := by decide +kernel
theorem dX7_nameLetter_88 : decode cX7_nameLetter 88 = .ok (.iload_n 1, 1) := by decide +kernel
theorem dX7_nameLetter_89 : decode cX7_nameLetter 89 = .ok (.iconst 1, 1) := by decide +kernel
theorem dX7_nameLetter_90 : decode cX7_nameLetter 90 = .ok (.if_icmp .ne 8, 3) := by decide +kernel
theorem dX7_nameLetter_93 : decode cX7_nameLetter 93 = .ok (.bipush 97, 2) := by decide +kernel
theorem dX7_nameLetter_95 : decode cX7_nameLetter 95 = .ok (.goto 24, 3) := by decide +kernel
theorem dX7_nameLetter_98 : decode cX7_nameLetter 98 = .ok (.iload_n 1, 1) := by decide +kernel
theorem dX7_nameLetter_99 : decode cX7_nameLetter 99 = .ok (.iconst 2, 1) := by decide +kernel
theorem dX7_nameLetter_100 : decode cX7_nameLetter 100 = .ok (.if_icmp .ne 8, 3) := by decide +kernel
theorem dX7_nameLetter_103 : decode cX7_nameLetter 103 = .ok (.bipush 115, 2) := by decide +kernel
theorem dX7_nameLetter_105 : decode cX7_nameLetter 105 = .ok (.goto 14, 3) := by decide +kernel
theorem dX7_nameLetter_108 : decode cX7_nameLetter 108 = .ok (.iload_n 1, 1) := by decide +kernel
theorem dX7_nameLetter_109 : decode cX7_nameLetter 109 = .ok (.iconst 3, 1) := by decide +kernel
theorem dX7_nameLetter_110 : decode cX7_nameLetter 110 = .ok (.if_icmp .ne 8, 3) := by decide +kernel
theorem dX7_nameLetter_113 : decode cX7_nameLetter 113 = .ok (.bipush 116, 2) := by decide +kernel
theorem dX7_nameLetter_115 : decode cX7_nameLetter 115 = .ok (.goto 4, 3) := by decide +kernel
theorem dX7_nameLetter_118 : decode cX7_nameLetter 118 = .ok (.iconst 0, 1) := by decide +kernel
theorem dX7_nameLetter_119 : decode cX7_nameLetter 119 = .ok (.ireturn, 1) := by decide +kernel
theorem dX7_nameLetter_120 : decode cX7_nameLetter 120 = .ok (.iload_n 1, 1) := by decide +kernel
theorem dX7_nameLetter_121 : decode cX7_nameLetter 121 = .ok (.ifCond .ne 8, 3) := by decide +kernel
theorem dX7_nameLetter_124 : decode cX7_nameLetter 124 = .ok (.bipush 115, 2) := by decide +kernel
theorem dX7_nameLetter_126 : decode cX7_nameLetter 126 = .ok (.goto 44, 3) := by decide +kernel
theorem dX7_nameLetter_129 : decode cX7_nameLetter 129 = .ok (.iload_n 1, 1) := by decide +kernel
theorem dX7_nameLetter_130 : decode cX7_nameLetter 130 = .ok (.iconst 1, 1) := by decide +kernel
theorem dX7_nameLetter_131 : decode cX7_nameLetter 131 = .ok (.if_icmp .ne 8, 3) := by decide +kernel
theorem dX7_nameLetter_134 : decode cX7_nameLetter 134 = .ok (.bipush 111, 2) := by decide +kernel
theorem dX7_nameLetter_136 : decode cX7_nameLetter 136 = .ok (.goto 34, 3) := by decide +kernel
theorem dX7_nameLetter_139 : decode cX7_nameLetter 139 = .ok (.iload_n 1, 1) := by decide +kernel
theorem dX7_nameLetter_140 : decode cX7_nameLetter 140 = .ok (.iconst 2, 1) := by decide +kernel
theorem dX7_nameLetter_141 : decode cX7_nameLetter 141 = .ok (.if_icmp .ne 8, 3) := by decide +kernel
theorem dX7_nameLetter_144 : decode cX7_nameLetter 144 = .ok (.bipush 117, 2) := by decide +kernel
theorem dX7_nameLetter_146 : decode cX7_nameLetter 146 = .ok (.goto 24, 3) := by decide +kernel
theorem dX7_nameLetter_149 : decode cX7_nameLetter 149 = .ok (.iload_n 1, 1) := by decide +kernel
theorem dX7_nameLetter_150 : decode cX7_nameLetter 150 = .ok (.iconst 3, 1) := by decide +kernel
theorem dX7_nameLetter_151 : decode cX7_nameLetter 151 = .ok (.if_icmp .ne 8, 3) := by decide +kernel
theorem dX7_nameLetter_154 : decode cX7_nameLetter 154 = .ok (.bipush 116, 2) := by decide +kernel
theorem dX7_nameLetter_156 : decode cX7_nameLetter 156 = .ok (.goto 14, 3) := by decide +kernel
theorem dX7_nameLetter_159 : decode cX7_nameLetter 159 = .ok (.iload_n 1, 1) := by decide +kernel
theorem dX7_nameLetter_160 : decode cX7_nameLetter 160 = .ok (.iconst 4, 1) := by decide +kernel
theorem dX7_nameLetter_161 : decode cX7_nameLetter 161 = .ok (.if_icmp .ne 8, 3) := by decide +kernel
theorem dX7_nameLetter_164 : decode cX7_nameLetter 164 = .ok (.bipush 104, 2) := by decide +kernel
theorem dX7_nameLetter_166 : decode cX7_nameLetter 166 = .ok (.goto 4, 3) := by decide +kernel
theorem dX7_nameLetter_169 : decode cX7_nameLetter 169 = .ok (.iconst 0, 1) := by decide +kernel
theorem dX7_nameLetter_170 : decode cX7_nameLetter 170 = .ok (.ireturn, 1) := by decide +kernel
theorem dX7_nameLetter_171 : decode cX7_nameLetter 171 = .ok (.iload_n 1, 1) := by decide +kernel
theorem dX7_nameLetter_172 : decode cX7_nameLetter 172 = .ok (.ifCond .ne 8, 3) := by decide +kernel
theorem dX7_nameLetter_175 : decode cX7_nameLetter 175 = .ok (.bipush 119, 2) := by decide +kernel
theorem dX7_nameLetter_177 : decode cX7_nameLetter 177 = .ok (.goto 34, 3) := by decide +kernel
theorem dX7_nameLetter_180 : decode cX7_nameLetter 180 = .ok (.iload_n 1, 1) := by decide +kernel
theorem dX7_nameLetter_181 : decode cX7_nameLetter 181 = .ok (.iconst 1, 1) := by decide +kernel
theorem dX7_nameLetter_182 : decode cX7_nameLetter 182 = .ok (.if_icmp .ne 8, 3) := by decide +kernel
theorem dX7_nameLetter_185 : decode cX7_nameLetter 185 = .ok (.bipush 101, 2) := by decide +kernel
theorem dX7_nameLetter_187 : decode cX7_nameLetter 187 = .ok (.goto 24, 3) := by decide +kernel
theorem dX7_nameLetter_190 : decode cX7_nameLetter 190 = .ok (.iload_n 1, 1) := by decide +kernel
theorem dX7_nameLetter_191 : decode cX7_nameLetter 191 = .ok (.iconst 2, 1) := by decide +kernel
theorem dX7_nameLetter_192 : decode cX7_nameLetter 192 = .ok (.if_icmp .ne 8, 3) := by decide +kernel
theorem dX7_nameLetter_195 : decode cX7_nameLetter 195 = .ok (.bipush 115, 2) := by decide +kernel
theorem dX7_nameLetter_197 : decode cX7_nameLetter 197 = .ok (.goto 14, 3) := by decide +kernel
theorem dX7_nameLetter_200 : decode cX7_nameLetter 200 = .ok (.iload_n 1, 1) := by decide +kernel
theorem dX7_nameLetter_201 : decode cX7_nameLetter 201 = .ok (.iconst 3, 1) := by decide +kernel
theorem dX7_nameLetter_202 : decode cX7_nameLetter 202 = .ok (.if_icmp .ne 8, 3) := by decide +kernel
theorem dX7_nameLetter_205 : decode cX7_nameLetter 205 = .ok (.bipush 116, 2) := by decide +kernel
theorem dX7_nameLetter_207 : decode cX7_nameLetter 207 = .ok (.goto 4, 3) := by decide +kernel
theorem dX7_nameLetter_210 : decode cX7_nameLetter 210 = .ok (.iconst 0, 1) := by decide +kernel
theorem dX7_nameLetter_211 : decode cX7_nameLetter 211 = .ok (.ireturn, 1) := by decide +kernel
theorem dX7_isName_0 : decode cX7_isName 0 = .ok (.iconst 1, 1) := by decide +kernel
theorem dX7_isName_1 : decode cX7_isName 1 = .ok (.istore_n 2, 1) := by decide +kernel
theorem dX7_isName_2 : decode cX7_isName 2 = .ok (.iconst 0, 1) := by decide +kernel
theorem dX7_isName_3 : decode cX7_isName 3 = .ok (.istore_n 3, 1) := by decide +kernel
theorem dX7_isName_4 : decode cX7_isName 4 = .ok (.iload_n 3, 1) := by decide +kernel
theorem dX7_isName_5 : decode cX7_isName 5 = .ok (.bipush 6, 2) := by decide +kernel
theorem dX7_isName_7 : decode cX7_isName 7 = .ok (.if_icmp .ge 45, 3) := by decide +kernel
theorem dX7_isName_10 : decode cX7_isName 10 = .ok (.iload_n 2, 1) := by decide +kernel
theorem dX7_isName_11 : decode cX7_isName 11 = .ok (.ifCond .eq 33, 3) := by decide +kernel
theorem dX7_isName_14 : decode cX7_isName 14 = .ok (.iload_n 3, 1) := by decide +kernel
theorem dX7_isName_15 : decode cX7_isName 15 = .ok (.aload_n 0, 1) := by decide +kernel
theorem dX7_isName_16 : decode cX7_isName 16 = .ok (.getfield 69, 3) := by decide +kernel
theorem dX7_isName_19 : decode cX7_isName 19 = .ok (.if_icmp .ge 12, 3) := by decide +kernel
theorem dX7_isName_22 : decode cX7_isName 22 = .ok (.aload_n 0, 1) := by decide +kernel
theorem dX7_isName_23 : decode cX7_isName 23 = .ok (.getfield 7, 3) := by decide +kernel
theorem dX7_isName_26 : decode cX7_isName 26 = .ok (.iload_n 3, 1) := by decide +kernel
theorem dX7_isName_27 : decode cX7_isName 27 = .ok (.iaload, 1) := by decide +kernel
theorem dX7_isName_28 : decode cX7_isName 28 = .ok (.goto 4, 3) := by decide +kernel
theorem dX7_isName_31 : decode cX7_isName 31 = .ok (.iconst 0, 1) := by decide +kernel
theorem dX7_isName_32 : decode cX7_isName 32 = .ok (.iload_n 1, 1) := by decide +kernel
theorem dX7_isName_33 : decode cX7_isName 33 = .ok (.iload_n 3, 1) := by decide +kernel
theorem dX7_isName_34 : decode cX7_isName 34 = .ok (.invokestatic 83, 3) := by decide +kernel
theorem dX7_isName_37 : decode cX7_isName 37 = .ok (.if_icmp .ne 7, 3) := by decide +kernel
theorem dX7_isName_40 : decode cX7_isName 40 = .ok (.iconst 1, 1) := by decide +kernel
theorem dX7_isName_41 : decode cX7_isName 41 = .ok (.goto 4, 3) := by decide +kernel
theorem dX7_isName_44 : decode cX7_isName 44 = .ok (.iconst 0, 1) := by decide +kernel
theorem dX7_isName_45 : decode cX7_isName 45 = .ok (.istore_n 2, 1) := by decide +kernel
theorem dX7_isName_46 : decode cX7_isName 46 = .ok (.iinc 3 1, 3) := by decide +kernel
theorem dX7_isName_49 : decode cX7_isName 49 = .ok (.goto (-45), 3) := by decide +kernel
theorem dX7_isName_52 : decode cX7_isName 52 = .ok (.iload_n 2, 1) := by decide +kernel
theorem dX7_isName_53 : decode cX7_isName 53 = .ok (.ifCond .eq 16, 3) := by decide +kernel
theorem dX7_isName_56 : decode cX7_isName 56 = .ok (.aload_n 0, 1) := by decide +kernel
theorem dX7_isName_57 : decode cX7_isName 57 = .ok (.getfield 69, 3) := by decide +kernel
theorem dX7_isName_60 : decode cX7_isName 60 = .ok (.bipush 6, 2) := by decide +kernel
theorem dX7_isName_62 : decode cX7_isName 62 = .ok (.if_icmp .ge 7, 3) := by decide +kernel
theorem dX7_isName_65 : decode cX7_isName 65 = .ok (.iconst 1, 1) := by decide +kernel
theorem dX7_isName_66 : decode cX7_isName 66 = .ok (.goto 4, 3) := by decide +kernel
theorem dX7_isName_69 : decode cX7_isName 69 = .ok (.iconst 0, 1) := by decide +kernel
theorem dX7_isName_70 : decode cX7_isName 70 = .ok (.ireturn, 1) := by decide +kernel
theorem dX7_tells_0 : decode cX7_tells 0 = .ok (.aload_n 0, 1) := by decide +kernel
theorem dX7_tells_1 : decode cX7_tells 1 = .ok (.getfield 13, 3) := by decide +kernel
theorem dX7_tells_4 : decode cX7_tells 4 = .ok (.iload_n 1, 1) := by decide +kernel
theorem dX7_tells_5 : decode cX7_tells 5 = .ok (.iaload, 1) := by decide +kernel
theorem dX7_tells_6 : decode cX7_tells 6 = .ok (.istore_n 3, 1) := by decide +kernel
theorem dX7_tells_7 : decode cX7_tells 7 = .ok (.iload_n 3, 1) := by decide +kernel
theorem dX7_tells_8 : decode cX7_tells 8 = .ok (.iload_n 2, 1) := by decide +kernel
theorem dX7_tells_9 : decode cX7_tells 9 = .ok (.if_icmp .ne 6, 3) := by decide +kernel
theorem dX7_tells_12 : decode cX7_tells 12 = .ok (.bipush (-2), 2) := by decide +kernel
theorem dX7_tells_14 : decode cX7_tells 14 = .ok (.ireturn, 1) := by decide +kernel
theorem dX7_tells_15 : decode cX7_tells 15 = .ok (.aload_n 0, 1) := by decide +kernel
theorem dX7_tells_16 : decode cX7_tells 16 = .ok (.invokevirtual 86, 3) := by decide +kernel
theorem dX7_tells_19 : decode cX7_tells 19 = .ok (.aload_n 0, 1) := by decide +kernel
theorem dX7_tells_20 : decode cX7_tells 20 = .ok (.getfield 13, 3) := by decide +kernel
theorem dX7_tells_23 : decode cX7_tells 23 = .ok (.iload_n 1, 1) := by decide +kernel
theorem dX7_tells_24 : decode cX7_tells 24 = .ok (.iload_n 2, 1) := by decide +kernel
theorem dX7_tells_25 : decode cX7_tells 25 = .ok (.iastore, 1) := by decide +kernel
theorem dX7_tells_26 : decode cX7_tells 26 = .ok (.iload_n 3, 1) := by decide +kernel
theorem dX7_tells_27 : decode cX7_tells 27 = .ok (.ireturn, 1) := by decide +kernel
theorem dX7_speak_0 : decode cX7_speak 0 = .ok (.iconst 0, 1) := by decide +kernel
theorem dX7_speak_1 : decode cX7_speak 1 = .ok (.istore_n 1, 1) := by decide +kernel
theorem dX7_speak_2 : decode cX7_speak 2 = .ok (.iload_n 1, 1) := by decide +kernel
theorem dX7_speak_3 : decode cX7_speak 3 = .ok (.iconst 4, 1) := by decide +kernel
theorem dX7_speak_4 : decode cX7_speak 4 = .ok (.if_icmp .ge 36, 3) := by decide +kernel
theorem dX7_speak_7 : decode cX7_speak 7 = .ok (.aload_n 0, 1) := by decide +kernel
theorem dX7_speak_8 : decode cX7_speak 8 = .ok (.iload_n 1, 1) := by decide +kernel
theorem dX7_speak_9 : decode cX7_speak 9 = .ok (.invokevirtual 89, 3) := by decide +kernel
theorem dX7_speak_12 : decode cX7_speak 12 = .ok (.ifCond .eq 22, 3) := by decide +kernel
theorem dX7_speak_15 : decode cX7_speak 15 = .ok (.aload_n 0, 1) := by decide +kernel
theorem dX7_speak_16 : decode cX7_speak 16 = .ok (.bipush 121, 2) := by decide +kernel
theorem dX7_speak_18 : decode cX7_speak 18 = .ok (.iload_n 1, 1) := by decide +kernel
theorem dX7_speak_19 : decode cX7_speak 19 = .ok (.invokevirtual 92, 3) := by decide +kernel
theorem dX7_speak_22 : decode cX7_speak 22 = .ok (.bipush (-2), 2) := by decide +kernel
theorem dX7_speak_24 : decode cX7_speak 24 = .ok (.if_icmp .ne 8, 3) := by decide +kernel
theorem dX7_speak_27 : decode cX7_speak 27 = .ok (.bipush (-2), 2) := by decide +kernel
theorem dX7_speak_29 : decode cX7_speak 29 = .ok (.goto 4, 3) := by decide +kernel
theorem dX7_speak_32 : decode cX7_speak 32 = .ok (.iload_n 1, 1) := by decide +kernel
theorem dX7_speak_33 : decode cX7_speak 33 = .ok (.ireturn, 1) := by decide +kernel
theorem dX7_speak_34 : decode cX7_speak 34 = .ok (.iinc 1 1, 3) := by decide +kernel
theorem dX7_speak_37 : decode cX7_speak 37 = .ok (.goto (-35), 3) := by decide +kernel
theorem dX7_speak_40 : decode cX7_speak 40 = .ok (.bipush (-4), 2) := by decide +kernel
theorem dX7_speak_42 : decode cX7_speak 42 = .ok (.ireturn, 1) := by decide +kernel
theorem dX7_rule_0 : decode cX7_rule 0 = .ok (.iload_n 1, 1) := by decide +kernel
theorem dX7_rule_1 : decode cX7_rule 1 = .ok (.i2l, 1) := by decide +kernel
theorem dX7_rule_2 : decode cX7_rule 2 = .ok (.lconst 0, 1) := by decide +kernel
theorem dX7_rule_3 : decode cX7_rule 3 = .ok (.ldc2_w 95, 3) := by decide +kernel
theorem dX7_rule_6 : decode cX7_rule 6 = .ok (.invokestatic 50, 3) := by decide +kernel
theorem dX7_rule_9 : decode cX7_rule 9 = .ok (.ifCond .eq 13, 3) := by decide +kernel
theorem dX7_rule_12 : decode cX7_rule 12 = .ok (.aload_n 0, 1) := by decide +kernel
theorem dX7_rule_13 : decode cX7_rule 13 = .ok (.bipush 122, 2) := by decide +kernel
theorem dX7_rule_15 : decode cX7_rule 15 = .ok (.iload_n 1, 1) := by decide +kernel
theorem dX7_rule_16 : decode cX7_rule 16 = .ok (.invokevirtual 92, 3) := by decide +kernel
theorem dX7_rule_19 : decode cX7_rule 19 = .ok (.goto 4, 3) := by decide +kernel
theorem dX7_rule_22 : decode cX7_rule 22 = .ok (.iconst (-1), 1) := by decide +kernel
theorem dX7_rule_23 : decode cX7_rule 23 = .ok (.ireturn, 1) := by decide +kernel
theorem dX7_weigh_0 : decode cX7_weigh 0 = .ok (.iload_n 1, 1) := by decide +kernel
theorem dX7_weigh_1 : decode cX7_weigh 1 = .ok (.i2l, 1) := by decide +kernel
theorem dX7_weigh_2 : decode cX7_weigh 2 = .ok (.lconst 0, 1) := by decide +kernel
theorem dX7_weigh_3 : decode cX7_weigh 3 = .ok (.ldc2_w 95, 3) := by decide +kernel
theorem dX7_weigh_6 : decode cX7_weigh 6 = .ok (.invokestatic 50, 3) := by decide +kernel
theorem dX7_weigh_9 : decode cX7_weigh 9 = .ok (.ifCond .eq 27, 3) := by decide +kernel
theorem dX7_weigh_12 : decode cX7_weigh 12 = .ok (.iload_n 2, 1) := by decide +kernel
theorem dX7_weigh_13 : decode cX7_weigh 13 = .ok (.i2l, 1) := by decide +kernel
theorem dX7_weigh_14 : decode cX7_weigh 14 = .ok (.lconst 1, 1) := by decide +kernel
theorem dX7_weigh_15 : decode cX7_weigh 15 = .ok (.ldc2_w 97, 3) := by decide +kernel
theorem dX7_weigh_18 : decode cX7_weigh 18 = .ok (.invokestatic 50, 3) := by decide +kernel
theorem dX7_weigh_21 : decode cX7_weigh 21 = .ok (.ifCond .eq 15, 3) := by decide +kernel
theorem dX7_weigh_24 : decode cX7_weigh 24 = .ok (.aload_n 0, 1) := by decide +kernel
theorem dX7_weigh_25 : decode cX7_weigh 25 = .ok (.bipush 123, 2) := by decide +kernel
theorem dX7_weigh_27 : decode cX7_weigh 27 = .ok (.iload_n 1, 1) := by decide +kernel
theorem dX7_weigh_28 : decode cX7_weigh 28 = .ok (.iadd, 1) := by decide +kernel
theorem dX7_weigh_29 : decode cX7_weigh 29 = .ok (.iload_n 2, 1) := by decide +kernel
theorem dX7_weigh_30 : decode cX7_weigh 30 = .ok (.invokevirtual 92, 3) := by decide +kernel
theorem dX7_weigh_33 : decode cX7_weigh 33 = .ok (.goto 4, 3) := by decide +kernel
theorem dX7_weigh_36 : decode cX7_weigh 36 = .ok (.iconst (-1), 1) := by decide +kernel
theorem dX7_weigh_37 : decode cX7_weigh 37 = .ok (.ireturn, 1) := by decide +kernel
theorem dX7_put_0 : decode cX7_put 0 = .ok (.aload_n 0, 1) := by decide +kernel
theorem dX7_put_1 : decode cX7_put 1 = .ok (.getfield 13, 3) := by decide +kernel
theorem dX7_put_4 : decode cX7_put 4 = .ok (.bipush 120, 2) := by decide +kernel
theorem dX7_put_6 : decode cX7_put 6 = .ok (.iaload, 1) := by decide +kernel
theorem dX7_put_7 : decode cX7_put 7 = .ok (.istore_n 3, 1) := by decide +kernel
theorem dX7_put_8 : decode cX7_put 8 = .ok (.iload_n 1, 1) := by decide +kernel
theorem dX7_put_9 : decode cX7_put 9 = .ok (.i2l, 1) := by decide +kernel
theorem dX7_put_10 : decode cX7_put 10 = .ok (.lconst 0, 1) := by decide +kernel
theorem dX7_put_11 : decode cX7_put 11 = .ok (.iload_n 3, 1) := by decide +kernel
theorem dX7_put_12 : decode cX7_put 12 = .ok (.i2l, 1) := by decide +kernel
theorem dX7_put_13 : decode cX7_put 13 = .ok (.invokestatic 50, 3) := by decide +kernel
theorem dX7_put_16 : decode cX7_put 16 = .ok (.ifCond .eq 10, 3) := by decide +kernel
theorem dX7_put_19 : decode cX7_put 19 = .ok (.iload_n 2, 1) := by decide +kernel
theorem dX7_put_20 : decode cX7_put 20 = .ok (.invokestatic 73, 3) := by decide +kernel
theorem dX7_put_23 : decode cX7_put 23 = .ok (.ifCond .ne 5, 3) := by decide +kernel
theorem dX7_put_26 : decode cX7_put 26 = .ok (.iconst (-1), 1) := by decide +kernel
theorem dX7_put_27 : decode cX7_put 27 = .ok (.ireturn, 1) := by decide +kernel
theorem dX7_put_28 : decode cX7_put 28 = .ok (.iload_n 3, 1) := by decide +kernel
theorem dX7_put_29 : decode cX7_put 29 = .ok (.bipush 120, 2) := by decide +kernel
theorem dX7_put_31 : decode cX7_put 31 = .ok (.if_icmp .ne 6, 3) := by decide +kernel
theorem dX7_put_34 : decode cX7_put 34 = .ok (.bipush (-3), 2) := by decide +kernel
theorem dX7_put_36 : decode cX7_put 36 = .ok (.ireturn, 1) := by decide +kernel
theorem dX7_put_37 : decode cX7_put 37 = .ok (.aload_n 0, 1) := by decide +kernel
theorem dX7_put_38 : decode cX7_put 38 = .ok (.invokevirtual 86, 3) := by decide +kernel
theorem dX7_put_41 : decode cX7_put 41 = .ok (.iload_n 3, 1) := by decide +kernel
theorem dX7_put_42 : decode cX7_put 42 = .ok (.istore 4, 2) := by decide +kernel
theorem dX7_put_44 : decode cX7_put 44 = .ok (.iload 4, 2) := by decide +kernel
theorem dX7_put_46 : decode cX7_put 46 = .ok (.iload_n 1, 1) := by decide +kernel
theorem dX7_put_47 : decode cX7_put 47 = .ok (.if_icmp .le 25, 3) := by decide +kernel
theorem dX7_put_50 : decode cX7_put 50 = .ok (.aload_n 0, 1) := by decide +kernel
theorem dX7_put_51 : decode cX7_put 51 = .ok (.getfield 13, 3) := by decide +kernel
theorem dX7_put_54 : decode cX7_put 54 = .ok (.iload 4, 2) := by decide +kernel
theorem dX7_put_56 : decode cX7_put 56 = .ok (.aload_n 0, 1) := by decide +kernel
theorem dX7_put_57 : decode cX7_put 57 = .ok (.getfield 13, 3) := by decide +kernel
theorem dX7_put_60 : decode cX7_put 60 = .ok (.iload 4, 2) := by decide +kernel
theorem dX7_put_62 : decode cX7_put 62 = .ok (.iconst 1, 1) := by decide +kernel
theorem dX7_put_63 : decode cX7_put 63 = .ok (.isub, 1) := by decide +kernel
theorem dX7_put_64 : decode cX7_put 64 = .ok (.iaload, 1) := by decide +kernel
theorem dX7_put_65 : decode cX7_put 65 = .ok (.iastore, 1) := by decide +kernel
theorem dX7_put_66 : decode cX7_put 66 = .ok (.iinc 4 (-1), 3) := by decide +kernel
theorem dX7_put_69 : decode cX7_put 69 = .ok (.goto (-25), 3) := by decide +kernel
theorem dX7_put_72 : decode cX7_put 72 = .ok (.aload_n 0, 1) := by decide +kernel
theorem dX7_put_73 : decode cX7_put 73 = .ok (.getfield 13, 3) := by decide +kernel
theorem dX7_put_76 : decode cX7_put 76 = .ok (.iload_n 1, 1) := by decide +kernel
theorem dX7_put_77 : decode cX7_put 77 = .ok (.iload_n 2, 1) := by decide +kernel
theorem dX7_put_78 : decode cX7_put 78 = .ok (.iastore, 1) := by decide +kernel
theorem dX7_put_79 : decode cX7_put 79 = .ok (.aload_n 0, 1) := by decide +kernel
theorem dX7_put_80 : decode cX7_put 80 = .ok (.getfield 13, 3) := by decide +kernel
theorem dX7_put_83 : decode cX7_put 83 = .ok (.bipush 120, 2) := by decide +kernel
theorem dX7_put_85 : decode cX7_put 85 = .ok (.iload_n 3, 1) := by decide +kernel
theorem dX7_put_86 : decode cX7_put 86 = .ok (.iconst 1, 1) := by decide +kernel
theorem dX7_put_87 : decode cX7_put 87 = .ok (.iadd, 1) := by decide +kernel
theorem dX7_put_88 : decode cX7_put 88 = .ok (.iastore, 1) := by decide +kernel
theorem dX7_put_89 : decode cX7_put 89 = .ok (.iload_n 3, 1) := by decide +kernel
theorem dX7_put_90 : decode cX7_put 90 = .ok (.iconst 1, 1) := by decide +kernel
theorem dX7_put_91 : decode cX7_put 91 = .ok (.iadd, 1) := by decide +kernel
theorem dX7_put_92 : decode cX7_put 92 = .ok (.ireturn, 1) := by decide +kernel
theorem dX7_isPlace_0 : decode cX7_isPlace 0 = .ok (.iload_n 1, 1) := by decide +kernel
theorem dX7_isPlace_1 : decode cX7_isPlace 1 = .ok (.i2l, 1) := by decide +kernel
theorem dX7_isPlace_2 : decode cX7_isPlace 2 = .ok (.lconst 0, 1) := by decide +kernel
theorem dX7_isPlace_3 : decode cX7_isPlace 3 = .ok (.aload_n 0, 1) := by decide +kernel
theorem dX7_isPlace_4 : decode cX7_isPlace 4 = .ok (.getfield 13, 3) := by decide +kernel
theorem dX7_isPlace_7 : decode cX7_isPlace 7 = .ok (.bipush 120, 2) := by decide +kernel
theorem dX7_isPlace_9 : decode cX7_isPlace 9 = .ok (.iaload, 1) := by decide +kernel
theorem dX7_isPlace_10 : decode cX7_isPlace 10 = .ok (.iconst 1, 1) := by decide +kernel
theorem dX7_isPlace_11 : decode cX7_isPlace 11 = .ok (.isub, 1) := by decide +kernel
theorem dX7_isPlace_12 : decode cX7_isPlace 12 = .ok (.i2l, 1) := by decide +kernel
theorem dX7_isPlace_13 : decode cX7_isPlace 13 = .ok (.invokestatic 50, 3) := by decide +kernel
theorem dX7_isPlace_16 : decode cX7_isPlace 16 = .ok (.ireturn, 1) := by decide +kernel
theorem dX7_take_0 : decode cX7_take 0 = .ok (.aload_n 0, 1) := by decide +kernel
theorem dX7_take_1 : decode cX7_take 1 = .ok (.iload_n 1, 1) := by decide +kernel
theorem dX7_take_2 : decode cX7_take 2 = .ok (.invokevirtual 99, 3) := by decide +kernel
theorem dX7_take_5 : decode cX7_take 5 = .ok (.ifCond .ne 5, 3) := by decide +kernel
theorem dX7_take_8 : decode cX7_take 8 = .ok (.iconst (-1), 1) := by decide +kernel
theorem dX7_take_9 : decode cX7_take 9 = .ok (.ireturn, 1) := by decide +kernel
theorem dX7_take_10 : decode cX7_take 10 = .ok (.aload_n 0, 1) := by decide +kernel
theorem dX7_take_11 : decode cX7_take 11 = .ok (.invokevirtual 86, 3) := by decide +kernel
theorem dX7_take_14 : decode cX7_take 14 = .ok (.aload_n 0, 1) := by decide +kernel
theorem dX7_take_15 : decode cX7_take 15 = .ok (.getfield 13, 3) := by decide +kernel
theorem dX7_take_18 : decode cX7_take 18 = .ok (.iload_n 1, 1) := by decide +kernel
theorem dX7_take_19 : decode cX7_take 19 = .ok (.iaload, 1) := by decide +kernel
theorem dX7_take_20 : decode cX7_take 20 = .ok (.istore_n 2, 1) := by decide +kernel
theorem dX7_take_21 : decode cX7_take 21 = .ok (.aload_n 0, 1) := by decide +kernel
theorem dX7_take_22 : decode cX7_take 22 = .ok (.getfield 13, 3) := by decide +kernel
theorem dX7_take_25 : decode cX7_take 25 = .ok (.bipush 120, 2) := by decide +kernel
theorem dX7_take_27 : decode cX7_take 27 = .ok (.dup2, 1) := by decide +kernel
theorem dX7_take_28 : decode cX7_take 28 = .ok (.iaload, 1) := by decide +kernel
theorem dX7_take_29 : decode cX7_take 29 = .ok (.iconst 1, 1) := by decide +kernel
theorem dX7_take_30 : decode cX7_take 30 = .ok (.isub, 1) := by decide +kernel
theorem dX7_take_31 : decode cX7_take 31 = .ok (.iastore, 1) := by decide +kernel
theorem dX7_take_32 : decode cX7_take 32 = .ok (.iload_n 1, 1) := by decide +kernel
theorem dX7_take_33 : decode cX7_take 33 = .ok (.istore_n 3, 1) := by decide +kernel
theorem dX7_take_34 : decode cX7_take 34 = .ok (.iload_n 3, 1) := by decide +kernel
theorem dX7_take_35 : decode cX7_take 35 = .ok (.aload_n 0, 1) := by decide +kernel
theorem dX7_take_36 : decode cX7_take 36 = .ok (.getfield 13, 3) := by decide +kernel
theorem dX7_take_39 : decode cX7_take 39 = .ok (.bipush 120, 2) := by decide +kernel
theorem dX7_take_41 : decode cX7_take 41 = .ok (.iaload, 1) := by decide +kernel
theorem dX7_take_42 : decode cX7_take 42 = .ok (.if_icmp .ge 23, 3) := by decide +kernel
theorem dX7_take_45 : decode cX7_take 45 = .ok (.aload_n 0, 1) := by decide +kernel
theorem dX7_take_46 : decode cX7_take 46 = .ok (.getfield 13, 3) := by decide +kernel
theorem dX7_take_49 : decode cX7_take 49 = .ok (.iload_n 3, 1) := by decide +kernel
theorem dX7_take_50 : decode cX7_take 50 = .ok (.aload_n 0, 1) := by decide +kernel
theorem dX7_take_51 : decode cX7_take 51 = .ok (.getfield 13, 3) := by decide +kernel
theorem dX7_take_54 : decode cX7_take 54 = .ok (.iload_n 3, 1) := by decide +kernel
theorem dX7_take_55 : decode cX7_take 55 = .ok (.iconst 1, 1) := by decide +kernel
theorem dX7_take_56 : decode cX7_take 56 = .ok (.iadd, 1) := by decide +kernel
theorem dX7_take_57 : decode cX7_take 57 = .ok (.iaload, 1) := by decide +kernel
theorem dX7_take_58 : decode cX7_take 58 = .ok (.iastore, 1) := by decide +kernel
theorem dX7_take_59 : decode cX7_take 59 = .ok (.iinc 3 1, 3) := by decide +kernel
theorem dX7_take_62 : decode cX7_take 62 = .ok (.goto (-28), 3) := by decide +kernel
theorem dX7_take_65 : decode cX7_take 65 = .ok (.iload_n 2, 1) := by decide +kernel
theorem dX7_take_66 : decode cX7_take 66 = .ok (.ireturn, 1) := by decide +kernel
theorem dX7_alter_0 : decode cX7_alter 0 = .ok (.aload_n 0, 1) := by decide +kernel
theorem dX7_alter_1 : decode cX7_alter 1 = .ok (.iload_n 1, 1) := by decide +kernel
theorem dX7_alter_2 : decode cX7_alter 2 = .ok (.invokevirtual 99, 3) := by decide +kernel
theorem dX7_alter_5 : decode cX7_alter 5 = .ok (.ifCond .eq 19, 3) := by decide +kernel
theorem dX7_alter_8 : decode cX7_alter 8 = .ok (.iload_n 2, 1) := by decide +kernel
theorem dX7_alter_9 : decode cX7_alter 9 = .ok (.invokestatic 73, 3) := by decide +kernel
theorem dX7_alter_12 : decode cX7_alter 12 = .ok (.ifCond .eq 12, 3) := by decide +kernel
theorem dX7_alter_15 : decode cX7_alter 15 = .ok (.aload_n 0, 1) := by decide +kernel
theorem dX7_alter_16 : decode cX7_alter 16 = .ok (.iload_n 1, 1) := by decide +kernel
theorem dX7_alter_17 : decode cX7_alter 17 = .ok (.iload_n 2, 1) := by decide +kernel
theorem dX7_alter_18 : decode cX7_alter 18 = .ok (.invokevirtual 92, 3) := by decide +kernel
theorem dX7_alter_21 : decode cX7_alter 21 = .ok (.goto 4, 3) := by decide +kernel
theorem dX7_alter_24 : decode cX7_alter 24 = .ok (.iconst (-1), 1) := by decide +kernel
theorem dX7_alter_25 : decode cX7_alter 25 = .ok (.ireturn, 1) := by decide +kernel
theorem dX7_wrong1_0 : decode cX7_wrong1 0 = .ok (.aload_n 0, 1) := by decide +kernel
theorem dX7_wrong1_1 : decode cX7_wrong1 1 = .ok (.getfield 28, 3) := by decide +kernel
theorem dX7_wrong1_4 : decode cX7_wrong1 4 = .ok (.aload_n 0, 1) := by decide +kernel
theorem dX7_wrong1_5 : decode cX7_wrong1 5 = .ok (.getfield 102, 3) := by decide +kernel
theorem dX7_wrong1_8 : decode cX7_wrong1 8 = .ok (.iload_n 1, 1) := by decide +kernel
theorem dX7_wrong1_9 : decode cX7_wrong1 9 = .ok (.iastore, 1) := by decide +kernel
theorem dX7_wrong1_10 : decode cX7_wrong1 10 = .ok (.aload_n 0, 1) := by decide +kernel
theorem dX7_wrong1_11 : decode cX7_wrong1 11 = .ok (.getfield 31, 3) := by decide +kernel
theorem dX7_wrong1_14 : decode cX7_wrong1 14 = .ok (.aload_n 0, 1) := by decide +kernel
theorem dX7_wrong1_15 : decode cX7_wrong1 15 = .ok (.getfield 102, 3) := by decide +kernel
theorem dX7_wrong1_18 : decode cX7_wrong1 18 = .ok (.iload_n 2, 1) := by decide +kernel
theorem dX7_wrong1_19 : decode cX7_wrong1 19 = .ok (.iastore, 1) := by decide +kernel
theorem dX7_wrong1_20 : decode cX7_wrong1 20 = .ok (.aload_n 0, 1) := by decide +kernel
theorem dX7_wrong1_21 : decode cX7_wrong1 21 = .ok (.dup, 1) := by decide +kernel
theorem dX7_wrong1_22 : decode cX7_wrong1 22 = .ok (.getfield 102, 3) := by decide +kernel
theorem dX7_wrong1_25 : decode cX7_wrong1 25 = .ok (.iconst 1, 1) := by decide +kernel
theorem dX7_wrong1_26 : decode cX7_wrong1 26 = .ok (.iadd, 1) := by decide +kernel
theorem dX7_wrong1_27 : decode cX7_wrong1 27 = .ok (.putfield 102, 3) := by decide +kernel
theorem dX7_wrong1_30 : decode cX7_wrong1 30 = .ok (.return_, 1) := by decide +kernel
theorem dX7_opened_0 : decode cX7_opened 0 = .ok (.iload_n 1, 1) := by decide +kernel
theorem dX7_opened_1 : decode cX7_opened 1 = .ok (.iconst 1, 1) := by decide +kernel
theorem dX7_opened_2 : decode cX7_opened 2 = .ok (.isub, 1) := by decide +kernel
theorem dX7_opened_3 : decode cX7_opened 3 = .ok (.istore_n 2, 1) := by decide +kernel
theorem dX7_opened_4 : decode cX7_opened 4 = .ok (.aload_n 0, 1) := by decide +kernel
theorem dX7_opened_5 : decode cX7_opened 5 = .ok (.getfield 19, 3) := by decide +kernel
theorem dX7_opened_8 : decode cX7_opened 8 = .ok (.iload_n 2, 1) := by decide +kernel
theorem dX7_opened_9 : decode cX7_opened 9 = .ok (.iaload, 1) := by decide +kernel
theorem dX7_opened_10 : decode cX7_opened 10 = .ok (.iconst 3, 1) := by decide +kernel
theorem dX7_opened_11 : decode cX7_opened 11 = .ok (.if_icmp .ne 14, 3) := by decide +kernel
theorem dX7_opened_14 : decode cX7_opened 14 = .ok (.aload_n 0, 1) := by decide +kernel
theorem dX7_opened_15 : decode cX7_opened 15 = .ok (.getfield 25, 3) := by decide +kernel
theorem dX7_opened_18 : decode cX7_opened 18 = .ok (.iload_n 2, 1) := by decide +kernel
theorem dX7_opened_19 : decode cX7_opened 19 = .ok (.iaload, 1) := by decide +kernel
theorem dX7_opened_20 : decode cX7_opened 20 = .ok (.bipush (-4), 2) := by decide +kernel
theorem dX7_opened_22 : decode cX7_opened 22 = .ok (.if_icmp .eq 9, 3) := by decide +kernel
theorem dX7_opened_25 : decode cX7_opened 25 = .ok (.iinc 2 (-1), 3) := by decide +kernel
theorem dX7_opened_28 : decode cX7_opened 28 = .ok (.goto (-24), 3) := by decide +kernel
theorem dX7_opened_31 : decode cX7_opened 31 = .ok (.iload_n 2, 1) := by decide +kernel
theorem dX7_opened_32 : decode cX7_opened 32 = .ok (.ireturn, 1) := by decide +kernel
theorem dX7_read_0 : decode cX7_read 0 = .ok (.aload_n 0, 1) := by decide +kernel
theorem dX7_read_1 : decode cX7_read 1 = .ok (.getfield 13, 3) := by decide +kernel
theorem dX7_read_4 : decode cX7_read 4 = .ok (.bipush 121, 2) := by decide +kernel
theorem dX7_read_6 : decode cX7_read 6 = .ok (.iaload, 1) := by decide +kernel
theorem dX7_read_7 : decode cX7_read 7 = .ok (.istore_n 1, 1) := by decide +kernel
theorem dX7_read_8 : decode cX7_read 8 = .ok (.iconst 0, 1) := by decide +kernel
theorem dX7_read_9 : decode cX7_read 9 = .ok (.istore_n 2, 1) := by decide +kernel
theorem dX7_read_10 : decode cX7_read 10 = .ok (.iconst 0, 1) := by decide +kernel
theorem dX7_read_11 : decode cX7_read 11 = .ok (.istore_n 3, 1) := by decide +kernel
theorem dX7_read_12 : decode cX7_read 12 = .ok (.aload_n 0, 1) := by decide +kernel
theorem dX7_read_13 : decode cX7_read 13 = .ok (.iconst 0, 1) := by decide +kernel
theorem dX7_read_14 : decode cX7_read 14 = .ok (.putfield 102, 3) := by decide +kernel
theorem dX7_read_17 : decode cX7_read 17 = .ok (.aload_n 0, 1) := by decide +kernel
theorem dX7_read_18 : decode cX7_read 18 = .ok (.iconst 0, 1) := by decide +kernel
theorem dX7_read_19 : decode cX7_read 19 = .ok (.putfield 105, 3) := by decide +kernel
theorem dX7_read_22 : decode cX7_read 22 = .ok (.iconst 0, 1) := by decide +kernel
theorem dX7_read_23 : decode cX7_read 23 = .ok (.istore 4, 2) := by decide +kernel
theorem dX7_read_25 : decode cX7_read 25 = .ok (.iload 4, 2) := by decide +kernel
theorem dX7_read_27 : decode cX7_read 27 = .ok (.aload_n 0, 1) := by decide +kernel
theorem dX7_read_28 : decode cX7_read 28 = .ok (.getfield 13, 3) := by decide +kernel
theorem dX7_read_31 : decode cX7_read 31 = .ok (.bipush 120, 2) := by decide +kernel
theorem dX7_read_33 : decode cX7_read 33 = .ok (.iaload, 1) := by decide +kernel
theorem dX7_read_34 : decode cX7_read 34 = .ok (.if_icmp .ge 340, 3) := by decide +kernel
theorem dX7_read_37 : decode cX7_read 37 = .ok (.aload_n 0, 1) := by decide +kernel
theorem dX7_read_38 : decode cX7_read 38 = .ok (.getfield 13, 3) := by decide +kernel
theorem dX7_read_41 : decode cX7_read 41 = .ok (.iload 4, 2) := by decide +kernel
theorem dX7_read_43 : decode cX7_read 43 = .ok (.iaload, 1) := by decide +kernel
theorem dX7_read_44 : decode cX7_read 44 = .ok (.istore 5, 2) := by decide +kernel
theorem dX7_read_46 : decode cX7_read 46 = .ok (.aload_n 0, 1) := by decide +kernel
theorem dX7_read_47 : decode cX7_read 47 = .ok (.getfield 25, 3) := by decide +kernel
theorem dX7_read_50 : decode cX7_read 50 = .ok (.iload 4, 2) := by decide +kernel
theorem dX7_read_52 : decode cX7_read 52 = .ok (.bipush (-4), 2) := by decide +kernel
theorem dX7_read_54 : decode cX7_read 54 = .ok (.iastore, 1) := by decide +kernel
theorem dX7_read_55 : decode cX7_read 55 = .ok (.iload_n 3, 1) := by decide +kernel
theorem dX7_read_56 : decode cX7_read 56 = .ok (.ifCond .le 25, 3) := by decide +kernel
theorem dX7_read_59 : decode cX7_read 59 = .ok (.iload 5, 2) := by decide +kernel
theorem dX7_read_61 : decode cX7_read 61 = .ok (.iload_n 1, 1) := by decide +kernel
theorem dX7_read_62 : decode cX7_read 62 = .ok (.aload_n 0, 1) := by decide +kernel
theorem dX7_read_63 : decode cX7_read 63 = .ok (.getfield 13, 3) := by decide +kernel
theorem dX7_read_66 : decode cX7_read 66 = .ok (.bipush 122, 2) := by decide +kernel
theorem dX7_read_68 : decode cX7_read 68 = .ok (.iaload, 1) := by decide +kernel
theorem dX7_read_69 : decode cX7_read 69 = .ok (.iload_n 2, 1) := by decide +kernel
theorem dX7_read_70 : decode cX7_read 70 = .ok (.iload_n 3, 1) := by decide +kernel
theorem dX7_read_71 : decode cX7_read 71 = .ok (.invokestatic 108, 3) := by decide +kernel
theorem dX7_read_74 : decode cX7_read 74 = .ok (.if_icmp .ne 7, 3) := by decide +kernel
theorem dX7_read_77 : decode cX7_read 77 = .ok (.iconst 1, 1) := by decide +kernel
theorem dX7_read_78 : decode cX7_read 78 = .ok (.goto 4, 3) := by decide +kernel
theorem dX7_read_81 : decode cX7_read 81 = .ok (.iconst 0, 1) := by decide +kernel
theorem dX7_read_82 : decode cX7_read 82 = .ok (.istore 6, 2) := by decide +kernel
theorem dX7_read_84 : decode cX7_read 84 = .ok (.iload_n 3, 1) := by decide +kernel
theorem dX7_read_85 : decode cX7_read 85 = .ok (.ifCond .le 17, 3) := by decide +kernel
theorem dX7_read_88 : decode cX7_read 88 = .ok (.iload 6, 2) := by decide +kernel
theorem dX7_read_90 : decode cX7_read 90 = .ok (.ifCond .ne 12, 3) := by decide +kernel
theorem dX7_read_93 : decode cX7_read 93 = .ok (.aload_n 0, 1) := by decide +kernel
theorem dX7_read_94 : decode cX7_read 94 = .ok (.iload 4, 2) := by decide +kernel
theorem dX7_read_96 : decode cX7_read 96 = .ok (.iconst 3, 1) := by decide +kernel
theorem dX7_read_97 : decode cX7_read 97 = .ok (.invokevirtual 112, 3) := by decide +kernel
theorem dX7_read_100 : decode cX7_read 100 = .ok (.iconst 0, 1) := by decide +kernel
theorem dX7_read_101 : decode cX7_read 101 = .ok (.istore_n 3, 1) := by decide +kernel
theorem dX7_read_102 : decode cX7_read 102 = .ok (.iload 6, 2) := by decide +kernel
theorem dX7_read_104 : decode cX7_read 104 = .ok (.ifCond .eq 17, 3) := by decide +kernel
theorem dX7_read_107 : decode cX7_read 107 = .ok (.aload_n 0, 1) := by decide +kernel
theorem dX7_read_108 : decode cX7_read 108 = .ok (.getfield 19, 3) := by decide +kernel
theorem dX7_read_111 : decode cX7_read 111 = .ok (.iload 4, 2) := by decide +kernel
theorem dX7_read_113 : decode cX7_read 113 = .ok (.iconst 5, 1) := by decide +kernel
theorem dX7_read_114 : decode cX7_read 114 = .ok (.iastore, 1) := by decide +kernel
theorem dX7_read_115 : decode cX7_read 115 = .ok (.iinc 3 (-1), 3) := by decide +kernel
theorem dX7_read_118 : decode cX7_read 118 = .ok (.goto 242, 3) := by decide +kernel
theorem dX7_read_121 : decode cX7_read 121 = .ok (.iload 5, 2) := by decide +kernel
theorem dX7_read_123 : decode cX7_read 123 = .ok (.i2l, 1) := by decide +kernel
theorem dX7_read_124 : decode cX7_read 124 = .ok (.ldc2_w 46, 3) := by decide +kernel
theorem dX7_read_127 : decode cX7_read 127 = .ok (.ldc2_w 48, 3) := by decide +kernel
theorem dX7_read_130 : decode cX7_read 130 = .ok (.invokestatic 50, 3) := by decide +kernel
theorem dX7_read_133 : decode cX7_read 133 = .ok (.ifCond .ne 10, 3) := by decide +kernel
theorem dX7_read_136 : decode cX7_read 136 = .ok (.iload 5, 2) := by decide +kernel
theorem dX7_read_138 : decode cX7_read 138 = .ok (.bipush 32, 2) := by decide +kernel
theorem dX7_read_140 : decode cX7_read 140 = .ok (.if_icmp .ne 25, 3) := by decide +kernel
theorem dX7_read_143 : decode cX7_read 143 = .ok (.aload_n 0, 1) := by decide +kernel
theorem dX7_read_144 : decode cX7_read 144 = .ok (.getfield 19, 3) := by decide +kernel
theorem dX7_read_147 : decode cX7_read 147 = .ok (.iload 4, 2) := by decide +kernel
theorem dX7_read_149 : decode cX7_read 149 = .ok (.iload 5, 2) := by decide +kernel
theorem dX7_read_151 : decode cX7_read 151 = .ok (.bipush 32, 2) := by decide +kernel
theorem dX7_read_153 : decode cX7_read 153 = .ok (.if_icmp .ne 7, 3) := by decide +kernel
theorem dX7_read_156 : decode cX7_read 156 = .ok (.iconst 1, 1) := by decide +kernel
theorem dX7_read_157 : decode cX7_read 157 = .ok (.goto 4, 3) := by decide +kernel
theorem dX7_read_160 : decode cX7_read 160 = .ok (.iconst 0, 1) := by decide +kernel
theorem dX7_read_161 : decode cX7_read 161 = .ok (.iastore, 1) := by decide +kernel
theorem dX7_read_162 : decode cX7_read 162 = .ok (.goto 198, 3) := by decide +kernel
theorem dX7_read_165 : decode cX7_read 165 = .ok (.iload 5, 2) := by decide +kernel
theorem dX7_read_167 : decode cX7_read 167 = .ok (.bipush 124, 2) := by decide +kernel
theorem dX7_read_169 : decode cX7_read 169 = .ok (.if_icmp .ne 26, 3) := by decide +kernel
theorem dX7_read_172 : decode cX7_read 172 = .ok (.aload_n 0, 1) := by decide +kernel
theorem dX7_read_173 : decode cX7_read 173 = .ok (.getfield 19, 3) := by decide +kernel
theorem dX7_read_176 : decode cX7_read 176 = .ok (.iload 4, 2) := by decide +kernel
theorem dX7_read_178 : decode cX7_read 178 = .ok (.iconst 2, 1) := by decide +kernel
theorem dX7_read_179 : decode cX7_read 179 = .ok (.iastore, 1) := by decide +kernel
theorem dX7_read_180 : decode cX7_read 180 = .ok (.aload_n 0, 1) := by decide +kernel
theorem dX7_read_181 : decode cX7_read 181 = .ok (.getfield 13, 3) := by decide +kernel
theorem dX7_read_184 : decode cX7_read 184 = .ok (.bipush 122, 2) := by decide +kernel
theorem dX7_read_186 : decode cX7_read 186 = .ok (.iaload, 1) := by decide +kernel
theorem dX7_read_187 : decode cX7_read 187 = .ok (.iload_n 2, 1) := by decide +kernel
theorem dX7_read_188 : decode cX7_read 188 = .ok (.invokestatic 116, 3) := by decide +kernel
theorem dX7_read_191 : decode cX7_read 191 = .ok (.istore_n 3, 1) := by decide +kernel
theorem dX7_read_192 : decode cX7_read 192 = .ok (.goto 168, 3) := by decide +kernel
theorem dX7_read_195 : decode cX7_read 195 = .ok (.iload_n 2, 1) := by decide +kernel
theorem dX7_read_196 : decode cX7_read 196 = .ok (.ifCond .le 53, 3) := by decide +kernel
theorem dX7_read_199 : decode cX7_read 199 = .ok (.iload 5, 2) := by decide +kernel
theorem dX7_read_201 : decode cX7_read 201 = .ok (.iload_n 1, 1) := by decide +kernel
theorem dX7_read_202 : decode cX7_read 202 = .ok (.iload_n 2, 1) := by decide +kernel
theorem dX7_read_203 : decode cX7_read 203 = .ok (.invokestatic 119, 3) := by decide +kernel
theorem dX7_read_206 : decode cX7_read 206 = .ok (.if_icmp .ne 43, 3) := by decide +kernel
theorem dX7_read_209 : decode cX7_read 209 = .ok (.aload_n 0, 1) := by decide +kernel
theorem dX7_read_210 : decode cX7_read 210 = .ok (.iload 4, 2) := by decide +kernel
theorem dX7_read_212 : decode cX7_read 212 = .ok (.invokevirtual 122, 3) := by decide +kernel
theorem dX7_read_215 : decode cX7_read 215 = .ok (.istore 7, 2) := by decide +kernel
theorem dX7_read_217 : decode cX7_read 217 = .ok (.aload_n 0, 1) := by decide +kernel
theorem dX7_read_218 : decode cX7_read 218 = .ok (.getfield 25, 3) := by decide +kernel
theorem dX7_read_221 : decode cX7_read 221 = .ok (.iload 4, 2) := by decide +kernel
theorem dX7_read_223 : decode cX7_read 223 = .ok (.iload 7, 2) := by decide +kernel
theorem dX7_read_225 : decode cX7_read 225 = .ok (.iastore, 1) := by decide +kernel
theorem dX7_read_226 : decode cX7_read 226 = .ok (.aload_n 0, 1) := by decide +kernel
theorem dX7_read_227 : decode cX7_read 227 = .ok (.getfield 25, 3) := by decide +kernel
theorem dX7_read_230 : decode cX7_read 230 = .ok (.iload 7, 2) := by decide +kernel
theorem dX7_read_232 : decode cX7_read 232 = .ok (.iload 4, 2) := by decide +kernel
theorem dX7_read_234 : decode cX7_read 234 = .ok (.iastore, 1) := by decide +kernel
theorem dX7_read_235 : decode cX7_read 235 = .ok (.aload_n 0, 1) := by decide +kernel
theorem dX7_read_236 : decode cX7_read 236 = .ok (.getfield 19, 3) := by decide +kernel
theorem dX7_read_239 : decode cX7_read 239 = .ok (.iload 4, 2) := by decide +kernel
theorem dX7_read_241 : decode cX7_read 241 = .ok (.iconst 4, 1) := by decide +kernel
theorem dX7_read_242 : decode cX7_read 242 = .ok (.iastore, 1) := by decide +kernel
theorem dX7_read_243 : decode cX7_read 243 = .ok (.iinc 2 (-1), 3) := by decide +kernel
theorem dX7_read_246 : decode cX7_read 246 = .ok (.goto 114, 3) := by decide +kernel
theorem dX7_read_249 : decode cX7_read 249 = .ok (.iload_n 2, 1) := by decide +kernel
theorem dX7_read_250 : decode cX7_read 250 = .ok (.bipush 6, 2) := by decide +kernel
theorem dX7_read_252 : decode cX7_read 252 = .ok (.if_icmp .ge 48, 3) := by decide +kernel
theorem dX7_read_255 : decode cX7_read 255 = .ok (.iload 5, 2) := by decide +kernel
theorem dX7_read_257 : decode cX7_read 257 = .ok (.iload_n 1, 1) := by decide +kernel
theorem dX7_read_258 : decode cX7_read 258 = .ok (.iload_n 2, 1) := by decide +kernel
theorem dX7_read_259 : decode cX7_read 259 = .ok (.invokestatic 62, 3) := by decide +kernel
theorem dX7_read_262 : decode cX7_read 262 = .ok (.if_icmp .ne 38, 3) := by decide +kernel
theorem dX7_read_265 : decode cX7_read 265 = .ok (.aload_n 0, 1) := by decide +kernel
theorem dX7_read_266 : decode cX7_read 266 = .ok (.getfield 19, 3) := by decide +kernel
theorem dX7_read_269 : decode cX7_read 269 = .ok (.iload 4, 2) := by decide +kernel
theorem dX7_read_271 : decode cX7_read 271 = .ok (.iconst 3, 1) := by decide +kernel
theorem dX7_read_272 : decode cX7_read 272 = .ok (.iastore, 1) := by decide +kernel
theorem dX7_read_273 : decode cX7_read 273 = .ok (.aload_n 0, 1) := by decide +kernel
theorem dX7_read_274 : decode cX7_read 274 = .ok (.getfield 34, 3) := by decide +kernel
theorem dX7_read_277 : decode cX7_read 277 = .ok (.aload_n 0, 1) := by decide +kernel
theorem dX7_read_278 : decode cX7_read 278 = .ok (.getfield 105, 3) := by decide +kernel
theorem dX7_read_281 : decode cX7_read 281 = .ok (.iload 4, 2) := by decide +kernel
theorem dX7_read_283 : decode cX7_read 283 = .ok (.iastore, 1) := by decide +kernel
theorem dX7_read_284 : decode cX7_read 284 = .ok (.aload_n 0, 1) := by decide +kernel
theorem dX7_read_285 : decode cX7_read 285 = .ok (.dup, 1) := by decide +kernel
theorem dX7_read_286 : decode cX7_read 286 = .ok (.getfield 105, 3) := by decide +kernel
theorem dX7_read_289 : decode cX7_read 289 = .ok (.iconst 1, 1) := by decide +kernel
theorem dX7_read_290 : decode cX7_read 290 = .ok (.iadd, 1) := by decide +kernel
theorem dX7_read_291 : decode cX7_read 291 = .ok (.putfield 105, 3) := by decide +kernel
theorem dX7_read_294 : decode cX7_read 294 = .ok (.iinc 2 1, 3) := by decide +kernel
theorem dX7_read_297 : decode cX7_read 297 = .ok (.goto 63, 3) := by decide +kernel
theorem dX7_read_300 : decode cX7_read 300 = .ok (.aload_n 0, 1) := by decide +kernel
theorem dX7_read_301 : decode cX7_read 301 = .ok (.getfield 19, 3) := by decide +kernel
theorem dX7_read_304 : decode cX7_read 304 = .ok (.iload 4, 2) := by decide +kernel
theorem dX7_read_306 : decode cX7_read 306 = .ok (.bipush 6, 2) := by decide +kernel
theorem dX7_read_308 : decode cX7_read 308 = .ok (.iastore, 1) := by decide +kernel
theorem dX7_read_309 : decode cX7_read 309 = .ok (.aload_n 0, 1) := by decide +kernel
theorem dX7_read_310 : decode cX7_read 310 = .ok (.iload 4, 2) := by decide +kernel
theorem dX7_read_312 : decode cX7_read 312 = .ok (.iload 5, 2) := by decide +kernel
theorem dX7_read_314 : decode cX7_read 314 = .ok (.iload_n 1, 1) := by decide +kernel
theorem dX7_read_315 : decode cX7_read 315 = .ok (.iconst 0, 1) := by decide +kernel
theorem dX7_read_316 : decode cX7_read 316 = .ok (.invokestatic 58, 3) := by decide +kernel
theorem dX7_read_319 : decode cX7_read 319 = .ok (.if_icmp .eq 33, 3) := by decide +kernel
theorem dX7_read_322 : decode cX7_read 322 = .ok (.iload 5, 2) := by decide +kernel
theorem dX7_read_324 : decode cX7_read 324 = .ok (.iload_n 1, 1) := by decide +kernel
theorem dX7_read_325 : decode cX7_read 325 = .ok (.iconst 1, 1) := by decide +kernel
theorem dX7_read_326 : decode cX7_read 326 = .ok (.invokestatic 58, 3) := by decide +kernel
theorem dX7_read_329 : decode cX7_read 329 = .ok (.if_icmp .eq 23, 3) := by decide +kernel
theorem dX7_read_332 : decode cX7_read 332 = .ok (.iload 5, 2) := by decide +kernel
theorem dX7_read_334 : decode cX7_read 334 = .ok (.iload_n 1, 1) := by decide +kernel
theorem dX7_read_335 : decode cX7_read 335 = .ok (.iconst 2, 1) := by decide +kernel
theorem dX7_read_336 : decode cX7_read 336 = .ok (.invokestatic 58, 3) := by decide +kernel
theorem dX7_read_339 : decode cX7_read 339 = .ok (.if_icmp .eq 13, 3) := by decide +kernel
theorem dX7_read_342 : decode cX7_read 342 = .ok (.iload 5, 2) := by decide +kernel
theorem dX7_read_344 : decode cX7_read 344 = .ok (.iload_n 1, 1) := by decide +kernel
theorem dX7_read_345 : decode cX7_read 345 = .ok (.iconst 3, 1) := by decide +kernel
theorem dX7_read_346 : decode cX7_read 346 = .ok (.invokestatic 58, 3) := by decide +kernel
theorem dX7_read_349 : decode cX7_read 349 = .ok (.if_icmp .ne 7, 3) := by decide +kernel
theorem dX7_read_352 : decode cX7_read 352 = .ok (.iconst 1, 1) := by decide +kernel
theorem dX7_read_353 : decode cX7_read 353 = .ok (.goto 4, 3) := by decide +kernel
theorem dX7_read_356 : decode cX7_read 356 = .ok (.iconst 2, 1) := by decide +kernel
theorem dX7_read_357 : decode cX7_read 357 = .ok (.invokevirtual 112, 3) := by decide +kernel
theorem dX7_read_360 : decode cX7_read 360 = .ok (.aload_n 0, 1) := by decide +kernel
theorem dX7_read_361 : decode cX7_read 361 = .ok (.getfield 22, 3) := by decide +kernel
theorem dX7_read_364 : decode cX7_read 364 = .ok (.iload 4, 2) := by decide +kernel
theorem dX7_read_366 : decode cX7_read 366 = .ok (.iload_n 2, 1) := by decide +kernel
theorem dX7_read_367 : decode cX7_read 367 = .ok (.iastore, 1) := by decide +kernel
theorem dX7_read_368 : decode cX7_read 368 = .ok (.iinc 4 1, 3) := by decide +kernel
theorem dX7_read_371 : decode cX7_read 371 = .ok (.goto (-346), 3) := by decide +kernel
theorem dX7_read_374 : decode cX7_read 374 = .ok (.iload_n 3, 1) := by decide +kernel
theorem dX7_read_375 : decode cX7_read 375 = .ok (.ifCond .le 15, 3) := by decide +kernel
theorem dX7_read_378 : decode cX7_read 378 = .ok (.aload_n 0, 1) := by decide +kernel
theorem dX7_read_379 : decode cX7_read 379 = .ok (.aload_n 0, 1) := by decide +kernel
theorem dX7_read_380 : decode cX7_read 380 = .ok (.getfield 13, 3) := by decide +kernel
theorem dX7_read_383 : decode cX7_read 383 = .ok (.bipush 120, 2) := by decide +kernel
theorem dX7_read_385 : decode cX7_read 385 = .ok (.iaload, 1) := by decide +kernel
theorem dX7_read_386 : decode cX7_read 386 = .ok (.iconst 3, 1) := by decide +kernel
theorem dX7_read_387 : decode cX7_read 387 = .ok (.invokevirtual 112, 3) := by decide +kernel
theorem dX7_read_390 : decode cX7_read 390 = .ok (.iload_n 2, 1) := by decide +kernel
theorem dX7_read_391 : decode cX7_read 391 = .ok (.ifCond .le 15, 3) := by decide +kernel
theorem dX7_read_394 : decode cX7_read 394 = .ok (.aload_n 0, 1) := by decide +kernel
theorem dX7_read_395 : decode cX7_read 395 = .ok (.aload_n 0, 1) := by decide +kernel
theorem dX7_read_396 : decode cX7_read 396 = .ok (.getfield 13, 3) := by decide +kernel
theorem dX7_read_399 : decode cX7_read 399 = .ok (.bipush 120, 2) := by decide +kernel
theorem dX7_read_401 : decode cX7_read 401 = .ok (.iaload, 1) := by decide +kernel
theorem dX7_read_402 : decode cX7_read 402 = .ok (.iconst 4, 1) := by decide +kernel
theorem dX7_read_403 : decode cX7_read 403 = .ok (.invokevirtual 112, 3) := by decide +kernel
theorem dX7_read_406 : decode cX7_read 406 = .ok (.return_, 1) := by decide +kernel
theorem dX7_sign_0 : decode cX7_sign 0 = .ok (.aload_n 0, 1) := by decide +kernel
theorem dX7_sign_1 : decode cX7_sign 1 = .ok (.iload_n 1, 1) := by decide +kernel
theorem dX7_sign_2 : decode cX7_sign 2 = .ok (.invokevirtual 99, 3) := by decide +kernel
theorem dX7_sign_5 : decode cX7_sign 5 = .ok (.ifCond .eq 12, 3) := by decide +kernel
theorem dX7_sign_8 : decode cX7_sign 8 = .ok (.aload_n 0, 1) := by decide +kernel
theorem dX7_sign_9 : decode cX7_sign 9 = .ok (.getfield 13, 3) := by decide +kernel
theorem dX7_sign_12 : decode cX7_sign 12 = .ok (.iload_n 1, 1) := by decide +kernel
theorem dX7_sign_13 : decode cX7_sign 13 = .ok (.iaload, 1) := by decide +kernel
theorem dX7_sign_14 : decode cX7_sign 14 = .ok (.goto 4, 3) := by decide +kernel
theorem dX7_sign_17 : decode cX7_sign 17 = .ok (.iconst (-1), 1) := by decide +kernel
theorem dX7_sign_18 : decode cX7_sign 18 = .ok (.ireturn, 1) := by decide +kernel
theorem dX7_kind_0 : decode cX7_kind 0 = .ok (.aload_n 0, 1) := by decide +kernel
theorem dX7_kind_1 : decode cX7_kind 1 = .ok (.iload_n 1, 1) := by decide +kernel
theorem dX7_kind_2 : decode cX7_kind 2 = .ok (.invokevirtual 99, 3) := by decide +kernel
theorem dX7_kind_5 : decode cX7_kind 5 = .ok (.ifCond .ne 5, 3) := by decide +kernel
theorem dX7_kind_8 : decode cX7_kind 8 = .ok (.iconst (-1), 1) := by decide +kernel
theorem dX7_kind_9 : decode cX7_kind 9 = .ok (.ireturn, 1) := by decide +kernel
theorem dX7_kind_10 : decode cX7_kind 10 = .ok (.aload_n 0, 1) := by decide +kernel
theorem dX7_kind_11 : decode cX7_kind 11 = .ok (.invokevirtual 126, 3) := by decide +kernel
theorem dX7_kind_14 : decode cX7_kind 14 = .ok (.aload_n 0, 1) := by decide +kernel
theorem dX7_kind_15 : decode cX7_kind 15 = .ok (.getfield 19, 3) := by decide +kernel
theorem dX7_kind_18 : decode cX7_kind 18 = .ok (.iload_n 1, 1) := by decide +kernel
theorem dX7_kind_19 : decode cX7_kind 19 = .ok (.iaload, 1) := by decide +kernel
theorem dX7_kind_20 : decode cX7_kind 20 = .ok (.ireturn, 1) := by decide +kernel
theorem dX7_depth_0 : decode cX7_depth 0 = .ok (.aload_n 0, 1) := by decide +kernel
theorem dX7_depth_1 : decode cX7_depth 1 = .ok (.iload_n 1, 1) := by decide +kernel
theorem dX7_depth_2 : decode cX7_depth 2 = .ok (.invokevirtual 99, 3) := by decide +kernel
theorem dX7_depth_5 : decode cX7_depth 5 = .ok (.ifCond .ne 5, 3) := by decide +kernel
theorem dX7_depth_8 : decode cX7_depth 8 = .ok (.iconst (-1), 1) := by decide +kernel
theorem dX7_depth_9 : decode cX7_depth 9 = .ok (.ireturn, 1) := by decide +kernel
theorem dX7_depth_10 : decode cX7_depth 10 = .ok (.aload_n 0, 1) := by decide +kernel
theorem dX7_depth_11 : decode cX7_depth 11 = .ok (.invokevirtual 126, 3) := by decide +kernel
theorem dX7_depth_14 : decode cX7_depth 14 = .ok (.aload_n 0, 1) := by decide +kernel
theorem dX7_depth_15 : decode cX7_depth 15 = .ok (.getfield 22, 3) := by decide +kernel
theorem dX7_depth_18 : decode cX7_depth 18 = .ok (.iload_n 1, 1) := by decide +kernel
theorem dX7_depth_19 : decode cX7_depth 19 = .ok (.iaload, 1) := by decide +kernel
theorem dX7_depth_20 : decode cX7_depth 20 = .ok (.ireturn, 1) := by decide +kernel
theorem dX7_partner_0 : decode cX7_partner 0 = .ok (.aload_n 0, 1) := by decide +kernel
theorem dX7_partner_1 : decode cX7_partner 1 = .ok (.iload_n 1, 1) := by decide +kernel
theorem dX7_partner_2 : decode cX7_partner 2 = .ok (.invokevirtual 99, 3) := by decide +kernel
theorem dX7_partner_5 : decode cX7_partner 5 = .ok (.ifCond .ne 5, 3) := by decide +kernel
theorem dX7_partner_8 : decode cX7_partner 8 = .ok (.iconst (-1), 1) := by decide +kernel
theorem dX7_partner_9 : decode cX7_partner 9 = .ok (.ireturn, 1) := by decide +kernel
theorem dX7_partner_10 : decode cX7_partner 10 = .ok (.aload_n 0, 1) := by decide +kernel
theorem dX7_partner_11 : decode cX7_partner 11 = .ok (.invokevirtual 126, 3) := by decide +kernel
theorem dX7_partner_14 : decode cX7_partner 14 = .ok (.aload_n 0, 1) := by decide +kernel
theorem dX7_partner_15 : decode cX7_partner 15 = .ok (.getfield 19, 3) := by decide +kernel
theorem dX7_partner_18 : decode cX7_partner 18 = .ok (.iload_n 1, 1) := by decide +kernel
theorem dX7_partner_19 : decode cX7_partner 19 = .ok (.iaload, 1) := by decide +kernel
theorem dX7_partner_20 : decode cX7_partner 20 = .ok (.iconst 3, 1) := by decide +kernel
theorem dX7_partner_21 : decode cX7_partner 21 = .ok (.if_icmp .eq 13, 3) := by decide +kernel
theorem dX7_partner_24 : decode cX7_partner 24 = .ok (.aload_n 0, 1) := by decide +kernel
theorem dX7_partner_25 : decode cX7_partner 25 = .ok (.getfield 19, 3) := by decide +kernel
theorem dX7_partner_28 : decode cX7_partner 28 = .ok (.iload_n 1, 1) := by decide +kernel
theorem dX7_partner_29 : decode cX7_partner 29 = .ok (.iaload, 1) := by decide +kernel
theorem dX7_partner_30 : decode cX7_partner 30 = .ok (.iconst 4, 1) := by decide +kernel
theorem dX7_partner_31 : decode cX7_partner 31 = .ok (.if_icmp .ne 12, 3) := by decide +kernel
theorem dX7_partner_34 : decode cX7_partner 34 = .ok (.aload_n 0, 1) := by decide +kernel
theorem dX7_partner_35 : decode cX7_partner 35 = .ok (.getfield 25, 3) := by decide +kernel
theorem dX7_partner_38 : decode cX7_partner 38 = .ok (.iload_n 1, 1) := by decide +kernel
theorem dX7_partner_39 : decode cX7_partner 39 = .ok (.iaload, 1) := by decide +kernel
theorem dX7_partner_40 : decode cX7_partner 40 = .ok (.goto 5, 3) := by decide +kernel
theorem dX7_partner_43 : decode cX7_partner 43 = .ok (.bipush (-2), 2) := by decide +kernel
theorem dX7_partner_45 : decode cX7_partner 45 = .ok (.ireturn, 1) := by decide +kernel
theorem dX7_wrong_0 : decode cX7_wrong 0 = .ok (.iload_n 1, 1) := by decide +kernel
theorem dX7_wrong_1 : decode cX7_wrong 1 = .ok (.iconst (-1), 1) := by decide +kernel
theorem dX7_wrong_2 : decode cX7_wrong 2 = .ok (.if_icmp .lt 13, 3) := by decide +kernel
theorem dX7_wrong_5 : decode cX7_wrong 5 = .ok (.iload_n 2, 1) := by decide +kernel
theorem dX7_wrong_6 : decode cX7_wrong 6 = .ok (.i2l, 1) := by decide +kernel
theorem dX7_wrong_7 : decode cX7_wrong 7 = .ok (.lconst 0, 1) := by decide +kernel
theorem dX7_wrong_8 : decode cX7_wrong 8 = .ok (.lconst 1, 1) := by decide +kernel
theorem dX7_wrong_9 : decode cX7_wrong 9 = .ok (.invokestatic 50, 3) := by decide +kernel
theorem dX7_wrong_12 : decode cX7_wrong 12 = .ok (.ifCond .ne 5, 3) := by decide +kernel
theorem dX7_wrong_15 : decode cX7_wrong 15 = .ok (.iconst (-1), 1) := by decide +kernel
theorem dX7_wrong_16 : decode cX7_wrong 16 = .ok (.ireturn, 1) := by decide +kernel
theorem dX7_wrong_17 : decode cX7_wrong 17 = .ok (.aload_n 0, 1) := by decide +kernel
theorem dX7_wrong_18 : decode cX7_wrong 18 = .ok (.invokevirtual 126, 3) := by decide +kernel
theorem dX7_wrong_21 : decode cX7_wrong 21 = .ok (.iload_n 1, 1) := by decide +kernel
theorem dX7_wrong_22 : decode cX7_wrong 22 = .ok (.ifCond .ge 10, 3) := by decide +kernel
theorem dX7_wrong_25 : decode cX7_wrong 25 = .ok (.aload_n 0, 1) := by decide +kernel
theorem dX7_wrong_26 : decode cX7_wrong 26 = .ok (.getfield 102, 3) := by decide +kernel
theorem dX7_wrong_29 : decode cX7_wrong 29 = .ok (.goto 35, 3) := by decide +kernel
theorem dX7_wrong_32 : decode cX7_wrong 32 = .ok (.iload_n 1, 1) := by decide +kernel
theorem dX7_wrong_33 : decode cX7_wrong 33 = .ok (.aload_n 0, 1) := by decide +kernel
theorem dX7_wrong_34 : decode cX7_wrong 34 = .ok (.getfield 102, 3) := by decide +kernel
theorem dX7_wrong_37 : decode cX7_wrong 37 = .ok (.if_icmp .lt 8, 3) := by decide +kernel
theorem dX7_wrong_40 : decode cX7_wrong 40 = .ok (.bipush (-4), 2) := by decide +kernel
theorem dX7_wrong_42 : decode cX7_wrong 42 = .ok (.goto 22, 3) := by decide +kernel
theorem dX7_wrong_45 : decode cX7_wrong 45 = .ok (.iload_n 2, 1) := by decide +kernel
theorem dX7_wrong_46 : decode cX7_wrong 46 = .ok (.ifCond .ne 12, 3) := by decide +kernel
theorem dX7_wrong_49 : decode cX7_wrong 49 = .ok (.aload_n 0, 1) := by decide +kernel
theorem dX7_wrong_50 : decode cX7_wrong 50 = .ok (.getfield 28, 3) := by decide +kernel
theorem dX7_wrong_53 : decode cX7_wrong 53 = .ok (.iload_n 1, 1) := by decide +kernel
theorem dX7_wrong_54 : decode cX7_wrong 54 = .ok (.iaload, 1) := by decide +kernel
theorem dX7_wrong_55 : decode cX7_wrong 55 = .ok (.goto 9, 3) := by decide +kernel
theorem dX7_wrong_58 : decode cX7_wrong 58 = .ok (.aload_n 0, 1) := by decide +kernel
theorem dX7_wrong_59 : decode cX7_wrong 59 = .ok (.getfield 31, 3) := by decide +kernel
theorem dX7_wrong_62 : decode cX7_wrong 62 = .ok (.iload_n 1, 1) := by decide +kernel
theorem dX7_wrong_63 : decode cX7_wrong 63 = .ok (.iaload, 1) := by decide +kernel
theorem dX7_wrong_64 : decode cX7_wrong 64 = .ok (.ireturn, 1) := by decide +kernel
theorem dX7_quote_0 : decode cX7_quote 0 = .ok (.iload_n 1, 1) := by decide +kernel
theorem dX7_quote_1 : decode cX7_quote 1 = .ok (.iconst (-1), 1) := by decide +kernel
theorem dX7_quote_2 : decode cX7_quote 2 = .ok (.if_icmp .lt 15, 3) := by decide +kernel
theorem dX7_quote_5 : decode cX7_quote 5 = .ok (.iload_n 2, 1) := by decide +kernel
theorem dX7_quote_6 : decode cX7_quote 6 = .ok (.i2l, 1) := by decide +kernel
theorem dX7_quote_7 : decode cX7_quote 7 = .ok (.lconst 0, 1) := by decide +kernel
theorem dX7_quote_8 : decode cX7_quote 8 = .ok (.ldc2_w 129, 3) := by decide +kernel
theorem dX7_quote_11 : decode cX7_quote 11 = .ok (.invokestatic 50, 3) := by decide +kernel
theorem dX7_quote_14 : decode cX7_quote 14 = .ok (.ifCond .ne 5, 3) := by decide +kernel
theorem dX7_quote_17 : decode cX7_quote 17 = .ok (.iconst (-1), 1) := by decide +kernel
theorem dX7_quote_18 : decode cX7_quote 18 = .ok (.ireturn, 1) := by decide +kernel
theorem dX7_quote_19 : decode cX7_quote 19 = .ok (.aload_n 0, 1) := by decide +kernel
theorem dX7_quote_20 : decode cX7_quote 20 = .ok (.invokevirtual 126, 3) := by decide +kernel
theorem dX7_quote_23 : decode cX7_quote 23 = .ok (.iload_n 1, 1) := by decide +kernel
theorem dX7_quote_24 : decode cX7_quote 24 = .ok (.ifCond .lt 11, 3) := by decide +kernel
theorem dX7_quote_27 : decode cX7_quote 27 = .ok (.iload_n 1, 1) := by decide +kernel
theorem dX7_quote_28 : decode cX7_quote 28 = .ok (.aload_n 0, 1) := by decide +kernel
theorem dX7_quote_29 : decode cX7_quote 29 = .ok (.getfield 105, 3) := by decide +kernel
theorem dX7_quote_32 : decode cX7_quote 32 = .ok (.if_icmp .lt 17, 3) := by decide +kernel
theorem dX7_quote_35 : decode cX7_quote 35 = .ok (.iload_n 1, 1) := by decide +kernel
theorem dX7_quote_36 : decode cX7_quote 36 = .ok (.ifCond .ge 10, 3) := by decide +kernel
theorem dX7_quote_39 : decode cX7_quote 39 = .ok (.aload_n 0, 1) := by decide +kernel
theorem dX7_quote_40 : decode cX7_quote 40 = .ok (.getfield 105, 3) := by decide +kernel
theorem dX7_quote_43 : decode cX7_quote 43 = .ok (.goto 5, 3) := by decide +kernel
theorem dX7_quote_46 : decode cX7_quote 46 = .ok (.bipush (-4), 2) := by decide +kernel
theorem dX7_quote_48 : decode cX7_quote 48 = .ok (.ireturn, 1) := by decide +kernel
theorem dX7_quote_49 : decode cX7_quote 49 = .ok (.aload_n 0, 1) := by decide +kernel
theorem dX7_quote_50 : decode cX7_quote 50 = .ok (.getfield 34, 3) := by decide +kernel
theorem dX7_quote_53 : decode cX7_quote 53 = .ok (.iload_n 1, 1) := by decide +kernel
theorem dX7_quote_54 : decode cX7_quote 54 = .ok (.iaload, 1) := by decide +kernel
theorem dX7_quote_55 : decode cX7_quote 55 = .ok (.istore_n 3, 1) := by decide +kernel
theorem dX7_quote_56 : decode cX7_quote 56 = .ok (.aload_n 0, 1) := by decide +kernel
theorem dX7_quote_57 : decode cX7_quote 57 = .ok (.getfield 25, 3) := by decide +kernel
theorem dX7_quote_60 : decode cX7_quote 60 = .ok (.iload_n 3, 1) := by decide +kernel
theorem dX7_quote_61 : decode cX7_quote 61 = .ok (.iaload, 1) := by decide +kernel
theorem dX7_quote_62 : decode cX7_quote 62 = .ok (.bipush (-4), 2) := by decide +kernel
theorem dX7_quote_64 : decode cX7_quote 64 = .ok (.if_icmp .ne 13, 3) := by decide +kernel
theorem dX7_quote_67 : decode cX7_quote 67 = .ok (.aload_n 0, 1) := by decide +kernel
theorem dX7_quote_68 : decode cX7_quote 68 = .ok (.getfield 13, 3) := by decide +kernel
theorem dX7_quote_71 : decode cX7_quote 71 = .ok (.bipush 120, 2) := by decide +kernel
theorem dX7_quote_73 : decode cX7_quote 73 = .ok (.iaload, 1) := by decide +kernel
theorem dX7_quote_74 : decode cX7_quote 74 = .ok (.goto 9, 3) := by decide +kernel
theorem dX7_quote_77 : decode cX7_quote 77 = .ok (.aload_n 0, 1) := by decide +kernel
theorem dX7_quote_78 : decode cX7_quote 78 = .ok (.getfield 25, 3) := by decide +kernel
theorem dX7_quote_81 : decode cX7_quote 81 = .ok (.iload_n 3, 1) := by decide +kernel
theorem dX7_quote_82 : decode cX7_quote 82 = .ok (.iaload, 1) := by decide +kernel
theorem dX7_quote_83 : decode cX7_quote 83 = .ok (.istore 4, 2) := by decide +kernel
theorem dX7_quote_85 : decode cX7_quote 85 = .ok (.iconst 0, 1) := by decide +kernel
theorem dX7_quote_86 : decode cX7_quote 86 = .ok (.istore 5, 2) := by decide +kernel
theorem dX7_quote_88 : decode cX7_quote 88 = .ok (.iload_n 3, 1) := by decide +kernel
theorem dX7_quote_89 : decode cX7_quote 89 = .ok (.iconst 1, 1) := by decide +kernel
theorem dX7_quote_90 : decode cX7_quote 90 = .ok (.iadd, 1) := by decide +kernel
theorem dX7_quote_91 : decode cX7_quote 91 = .ok (.istore 6, 2) := by decide +kernel
theorem dX7_quote_93 : decode cX7_quote 93 = .ok (.iload 6, 2) := by decide +kernel
theorem dX7_quote_95 : decode cX7_quote 95 = .ok (.iload 4, 2) := by decide +kernel
theorem dX7_quote_97 : decode cX7_quote 97 = .ok (.if_icmp .ge 128, 3) := by decide +kernel
theorem dX7_quote_100 : decode cX7_quote 100 = .ok (.iload_n 2, 1) := by decide +kernel
theorem dX7_quote_101 : decode cX7_quote 101 = .ok (.iconst 3, 1) := by decide +kernel
theorem dX7_quote_102 : decode cX7_quote 102 = .ok (.if_icmp .ne 21, 3) := by decide +kernel
theorem dX7_quote_105 : decode cX7_quote 105 = .ok (.aload_n 0, 1) := by decide +kernel
theorem dX7_quote_106 : decode cX7_quote 106 = .ok (.getfield 19, 3) := by decide +kernel
theorem dX7_quote_109 : decode cX7_quote 109 = .ok (.iload 6, 2) := by decide +kernel
theorem dX7_quote_111 : decode cX7_quote 111 = .ok (.iaload, 1) := by decide +kernel
theorem dX7_quote_112 : decode cX7_quote 112 = .ok (.ifCond .ne 7, 3) := by decide +kernel
theorem dX7_quote_115 : decode cX7_quote 115 = .ok (.iconst 1, 1) := by decide +kernel
theorem dX7_quote_116 : decode cX7_quote 116 = .ok (.goto 86, 3) := by decide +kernel
theorem dX7_quote_119 : decode cX7_quote 119 = .ok (.iconst 0, 1) := by decide +kernel
theorem dX7_quote_120 : decode cX7_quote 120 = .ok (.goto 82, 3) := by decide +kernel
theorem dX7_quote_123 : decode cX7_quote 123 = .ok (.iload_n 2, 1) := by decide +kernel
theorem dX7_quote_124 : decode cX7_quote 124 = .ok (.iconst 4, 1) := by decide +kernel
theorem dX7_quote_125 : decode cX7_quote 125 = .ok (.if_icmp .ne 37, 3) := by decide +kernel
theorem dX7_quote_128 : decode cX7_quote 128 = .ok (.aload_n 0, 1) := by decide +kernel
theorem dX7_quote_129 : decode cX7_quote 129 = .ok (.getfield 19, 3) := by decide +kernel
theorem dX7_quote_132 : decode cX7_quote 132 = .ok (.iload 6, 2) := by decide +kernel
theorem dX7_quote_134 : decode cX7_quote 134 = .ok (.iaload, 1) := by decide +kernel
theorem dX7_quote_135 : decode cX7_quote 135 = .ok (.ifCond .ne 23, 3) := by decide +kernel
theorem dX7_quote_138 : decode cX7_quote 138 = .ok (.aload_n 0, 1) := by decide +kernel
theorem dX7_quote_139 : decode cX7_quote 139 = .ok (.getfield 22, 3) := by decide +kernel
theorem dX7_quote_142 : decode cX7_quote 142 = .ok (.iload 6, 2) := by decide +kernel
theorem dX7_quote_144 : decode cX7_quote 144 = .ok (.iaload, 1) := by decide +kernel
theorem dX7_quote_145 : decode cX7_quote 145 = .ok (.aload_n 0, 1) := by decide +kernel
theorem dX7_quote_146 : decode cX7_quote 146 = .ok (.getfield 22, 3) := by decide +kernel
theorem dX7_quote_149 : decode cX7_quote 149 = .ok (.iload_n 3, 1) := by decide +kernel
theorem dX7_quote_150 : decode cX7_quote 150 = .ok (.iaload, 1) := by decide +kernel
theorem dX7_quote_151 : decode cX7_quote 151 = .ok (.if_icmp .ne 7, 3) := by decide +kernel
theorem dX7_quote_154 : decode cX7_quote 154 = .ok (.iconst 1, 1) := by decide +kernel
theorem dX7_quote_155 : decode cX7_quote 155 = .ok (.goto 47, 3) := by decide +kernel
theorem dX7_quote_158 : decode cX7_quote 158 = .ok (.iconst 0, 1) := by decide +kernel
theorem dX7_quote_159 : decode cX7_quote 159 = .ok (.goto 43, 3) := by decide +kernel
theorem dX7_quote_162 : decode cX7_quote 162 = .ok (.iload_n 2, 1) := by decide +kernel
theorem dX7_quote_163 : decode cX7_quote 163 = .ok (.iconst 5, 1) := by decide +kernel
theorem dX7_quote_164 : decode cX7_quote 164 = .ok (.if_icmp .ne 22, 3) := by decide +kernel
theorem dX7_quote_167 : decode cX7_quote 167 = .ok (.aload_n 0, 1) := by decide +kernel
theorem dX7_quote_168 : decode cX7_quote 168 = .ok (.getfield 19, 3) := by decide +kernel
theorem dX7_quote_171 : decode cX7_quote 171 = .ok (.iload 6, 2) := by decide +kernel
theorem dX7_quote_173 : decode cX7_quote 173 = .ok (.iaload, 1) := by decide +kernel
theorem dX7_quote_174 : decode cX7_quote 174 = .ok (.iconst 2, 1) := by decide +kernel
theorem dX7_quote_175 : decode cX7_quote 175 = .ok (.if_icmp .ne 7, 3) := by decide +kernel
theorem dX7_quote_178 : decode cX7_quote 178 = .ok (.iconst 1, 1) := by decide +kernel
theorem dX7_quote_179 : decode cX7_quote 179 = .ok (.goto 23, 3) := by decide +kernel
theorem dX7_quote_182 : decode cX7_quote 182 = .ok (.iconst 0, 1) := by decide +kernel
theorem dX7_quote_183 : decode cX7_quote 183 = .ok (.goto 19, 3) := by decide +kernel
theorem dX7_quote_186 : decode cX7_quote 186 = .ok (.aload_n 0, 1) := by decide +kernel
theorem dX7_quote_187 : decode cX7_quote 187 = .ok (.getfield 19, 3) := by decide +kernel
theorem dX7_quote_190 : decode cX7_quote 190 = .ok (.iload 6, 2) := by decide +kernel
theorem dX7_quote_192 : decode cX7_quote 192 = .ok (.iaload, 1) := by decide +kernel
theorem dX7_quote_193 : decode cX7_quote 193 = .ok (.iconst 3, 1) := by decide +kernel
theorem dX7_quote_194 : decode cX7_quote 194 = .ok (.if_icmp .ne 7, 3) := by decide +kernel
theorem dX7_quote_197 : decode cX7_quote 197 = .ok (.iconst 1, 1) := by decide +kernel
theorem dX7_quote_198 : decode cX7_quote 198 = .ok (.goto 4, 3) := by decide +kernel
theorem dX7_quote_201 : decode cX7_quote 201 = .ok (.iconst 0, 1) := by decide +kernel
theorem dX7_quote_202 : decode cX7_quote 202 = .ok (.istore 7, 2) := by decide +kernel
theorem dX7_quote_204 : decode cX7_quote 204 = .ok (.iload 5, 2) := by decide +kernel
theorem dX7_quote_206 : decode cX7_quote 206 = .ok (.iload 7, 2) := by decide +kernel
theorem dX7_quote_208 : decode cX7_quote 208 = .ok (.ifCond .eq 7, 3) := by decide +kernel
theorem dX7_quote_211 : decode cX7_quote 211 = .ok (.iconst 1, 1) := by decide +kernel
theorem dX7_quote_212 : decode cX7_quote 212 = .ok (.goto 4, 3) := by decide +kernel
theorem dX7_quote_215 : decode cX7_quote 215 = .ok (.iconst 0, 1) := by decide +kernel
theorem dX7_quote_216 : decode cX7_quote 216 = .ok (.iadd, 1) := by decide +kernel
theorem dX7_quote_217 : decode cX7_quote 217 = .ok (.istore 5, 2) := by decide +kernel
theorem dX7_quote_219 : decode cX7_quote 219 = .ok (.iinc 6 1, 3) := by decide +kernel
theorem dX7_quote_222 : decode cX7_quote 222 = .ok (.goto (-129), 3) := by decide +kernel
theorem dX7_quote_225 : decode cX7_quote 225 = .ok (.iload_n 2, 1) := by decide +kernel
theorem dX7_quote_226 : decode cX7_quote 226 = .ok (.ifCond .ne 7, 3) := by decide +kernel
theorem dX7_quote_229 : decode cX7_quote 229 = .ok (.iload_n 3, 1) := by decide +kernel
theorem dX7_quote_230 : decode cX7_quote 230 = .ok (.goto 33, 3) := by decide +kernel
theorem dX7_quote_233 : decode cX7_quote 233 = .ok (.iload_n 2, 1) := by decide +kernel
theorem dX7_quote_234 : decode cX7_quote 234 = .ok (.iconst 1, 1) := by decide +kernel
theorem dX7_quote_235 : decode cX7_quote 235 = .ok (.if_icmp .ne 12, 3) := by decide +kernel
theorem dX7_quote_238 : decode cX7_quote 238 = .ok (.aload_n 0, 1) := by decide +kernel
theorem dX7_quote_239 : decode cX7_quote 239 = .ok (.getfield 25, 3) := by decide +kernel
theorem dX7_quote_242 : decode cX7_quote 242 = .ok (.iload_n 3, 1) := by decide +kernel
theorem dX7_quote_243 : decode cX7_quote 243 = .ok (.iaload, 1) := by decide +kernel
theorem dX7_quote_244 : decode cX7_quote 244 = .ok (.goto 19, 3) := by decide +kernel
theorem dX7_quote_247 : decode cX7_quote 247 = .ok (.iload_n 2, 1) := by decide +kernel
theorem dX7_quote_248 : decode cX7_quote 248 = .ok (.iconst 2, 1) := by decide +kernel
theorem dX7_quote_249 : decode cX7_quote 249 = .ok (.if_icmp .ne 12, 3) := by decide +kernel
theorem dX7_quote_252 : decode cX7_quote 252 = .ok (.aload_n 0, 1) := by decide +kernel
theorem dX7_quote_253 : decode cX7_quote 253 = .ok (.getfield 22, 3) := by decide +kernel
theorem dX7_quote_256 : decode cX7_quote 256 = .ok (.iload_n 3, 1) := by decide +kernel
theorem dX7_quote_257 : decode cX7_quote 257 = .ok (.iaload, 1) := by decide +kernel
theorem dX7_quote_258 : decode cX7_quote 258 = .ok (.goto 5, 3) := by decide +kernel
theorem dX7_quote_261 : decode cX7_quote 261 = .ok (.iload 5, 2) := by decide +kernel
theorem dX7_quote_263 : decode cX7_quote 263 = .ok (.ireturn, 1) := by decide +kernel
theorem dX7_said_0 : decode cX7_said 0 = .ok (.iload_n 1, 1) := by decide +kernel
theorem dX7_said_1 : decode cX7_said 1 = .ok (.i2l, 1) := by decide +kernel
theorem dX7_said_2 : decode cX7_said 2 = .ok (.lconst 0, 1) := by decide +kernel
theorem dX7_said_3 : decode cX7_said 3 = .ok (.ldc2_w 129, 3) := by decide +kernel
theorem dX7_said_6 : decode cX7_said 6 = .ok (.invokestatic 50, 3) := by decide +kernel
theorem dX7_said_9 : decode cX7_said 9 = .ok (.ifCond .ne 5, 3) := by decide +kernel
theorem dX7_said_12 : decode cX7_said 12 = .ok (.iconst (-1), 1) := by decide +kernel
theorem dX7_said_13 : decode cX7_said 13 = .ok (.ireturn, 1) := by decide +kernel
theorem dX7_said_14 : decode cX7_said 14 = .ok (.aload_n 0, 1) := by decide +kernel
theorem dX7_said_15 : decode cX7_said 15 = .ok (.invokevirtual 126, 3) := by decide +kernel
theorem dX7_said_18 : decode cX7_said 18 = .ok (.iconst 0, 1) := by decide +kernel
theorem dX7_said_19 : decode cX7_said 19 = .ok (.istore_n 2, 1) := by decide +kernel
theorem dX7_said_20 : decode cX7_said 20 = .ok (.iconst 0, 1) := by decide +kernel
theorem dX7_said_21 : decode cX7_said 21 = .ok (.istore_n 3, 1) := by decide +kernel
theorem dX7_said_22 : decode cX7_said 22 = .ok (.iload_n 3, 1) := by decide +kernel
theorem dX7_said_23 : decode cX7_said 23 = .ok (.aload_n 0, 1) := by decide +kernel
theorem dX7_said_24 : decode cX7_said 24 = .ok (.getfield 13, 3) := by decide +kernel
theorem dX7_said_27 : decode cX7_said 27 = .ok (.bipush 120, 2) := by decide +kernel
theorem dX7_said_29 : decode cX7_said 29 = .ok (.iaload, 1) := by decide +kernel
theorem dX7_said_30 : decode cX7_said 30 = .ok (.if_icmp .ge 36, 3) := by decide +kernel
theorem dX7_said_33 : decode cX7_said 33 = .ok (.iload_n 2, 1) := by decide +kernel
theorem dX7_said_34 : decode cX7_said 34 = .ok (.aload_n 0, 1) := by decide +kernel
theorem dX7_said_35 : decode cX7_said 35 = .ok (.getfield 19, 3) := by decide +kernel
theorem dX7_said_38 : decode cX7_said 38 = .ok (.iload_n 3, 1) := by decide +kernel
theorem dX7_said_39 : decode cX7_said 39 = .ok (.iaload, 1) := by decide +kernel
theorem dX7_said_40 : decode cX7_said 40 = .ok (.ifCond .ne 17, 3) := by decide +kernel
theorem dX7_said_43 : decode cX7_said 43 = .ok (.aload_n 0, 1) := by decide +kernel
theorem dX7_said_44 : decode cX7_said 44 = .ok (.getfield 22, 3) := by decide +kernel
theorem dX7_said_47 : decode cX7_said 47 = .ok (.iload_n 3, 1) := by decide +kernel
theorem dX7_said_48 : decode cX7_said 48 = .ok (.iaload, 1) := by decide +kernel
theorem dX7_said_49 : decode cX7_said 49 = .ok (.iload_n 1, 1) := by decide +kernel
theorem dX7_said_50 : decode cX7_said 50 = .ok (.if_icmp .ne 7, 3) := by decide +kernel
theorem dX7_said_53 : decode cX7_said 53 = .ok (.iconst 1, 1) := by decide +kernel
theorem dX7_said_54 : decode cX7_said 54 = .ok (.goto 4, 3) := by decide +kernel
theorem dX7_said_57 : decode cX7_said 57 = .ok (.iconst 0, 1) := by decide +kernel
theorem dX7_said_58 : decode cX7_said 58 = .ok (.iadd, 1) := by decide +kernel
theorem dX7_said_59 : decode cX7_said 59 = .ok (.istore_n 2, 1) := by decide +kernel
theorem dX7_said_60 : decode cX7_said 60 = .ok (.iinc 3 1, 3) := by decide +kernel
theorem dX7_said_63 : decode cX7_said 63 = .ok (.goto (-41), 3) := by decide +kernel
theorem dX7_said_66 : decode cX7_said 66 = .ok (.iload_n 2, 1) := by decide +kernel
theorem dX7_said_67 : decode cX7_said 67 = .ok (.ireturn, 1) := by decide +kernel
theorem dX7_paragraph_0 : decode cX7_paragraph 0 = .ok (.iload_n 1, 1) := by decide +kernel
theorem dX7_paragraph_1 : decode cX7_paragraph 1 = .ok (.iconst (-1), 1) := by decide +kernel
theorem dX7_paragraph_2 : decode cX7_paragraph 2 = .ok (.if_icmp .lt 15, 3) := by decide +kernel
theorem dX7_paragraph_5 : decode cX7_paragraph 5 = .ok (.iload_n 2, 1) := by decide +kernel
theorem dX7_paragraph_6 : decode cX7_paragraph 6 = .ok (.i2l, 1) := by decide +kernel
theorem dX7_paragraph_7 : decode cX7_paragraph 7 = .ok (.lconst 0, 1) := by decide +kernel
theorem dX7_paragraph_8 : decode cX7_paragraph 8 = .ok (.ldc2_w 95, 3) := by decide +kernel
theorem dX7_paragraph_11 : decode cX7_paragraph 11 = .ok (.invokestatic 50, 3) := by decide +kernel
theorem dX7_paragraph_14 : decode cX7_paragraph 14 = .ok (.ifCond .ne 5, 3) := by decide +kernel
theorem dX7_paragraph_17 : decode cX7_paragraph 17 = .ok (.iconst (-1), 1) := by decide +kernel
theorem dX7_paragraph_18 : decode cX7_paragraph 18 = .ok (.ireturn, 1) := by decide +kernel
theorem dX7_paragraph_19 : decode cX7_paragraph 19 = .ok (.aload_n 0, 1) := by decide +kernel
theorem dX7_paragraph_20 : decode cX7_paragraph 20 = .ok (.invokevirtual 126, 3) := by decide +kernel
theorem dX7_paragraph_23 : decode cX7_paragraph 23 = .ok (.iconst 0, 1) := by decide +kernel
theorem dX7_paragraph_24 : decode cX7_paragraph 24 = .ok (.istore_n 3, 1) := by decide +kernel
theorem dX7_paragraph_25 : decode cX7_paragraph 25 = .ok (.iconst 0, 1) := by decide +kernel
theorem dX7_paragraph_26 : decode cX7_paragraph 26 = .ok (.istore 4, 2) := by decide +kernel
theorem dX7_paragraph_28 : decode cX7_paragraph 28 = .ok (.iconst 0, 1) := by decide +kernel
theorem dX7_paragraph_29 : decode cX7_paragraph 29 = .ok (.istore 5, 2) := by decide +kernel
theorem dX7_paragraph_31 : decode cX7_paragraph 31 = .ok (.iconst 0, 1) := by decide +kernel
theorem dX7_paragraph_32 : decode cX7_paragraph 32 = .ok (.istore 6, 2) := by decide +kernel
theorem dX7_paragraph_34 : decode cX7_paragraph 34 = .ok (.iload 6, 2) := by decide +kernel
theorem dX7_paragraph_36 : decode cX7_paragraph 36 = .ok (.aload_n 0, 1) := by decide +kernel
theorem dX7_paragraph_37 : decode cX7_paragraph 37 = .ok (.getfield 13, 3) := by decide +kernel
theorem dX7_paragraph_40 : decode cX7_paragraph 40 = .ok (.bipush 120, 2) := by decide +kernel
theorem dX7_paragraph_42 : decode cX7_paragraph 42 = .ok (.iaload, 1) := by decide +kernel
theorem dX7_paragraph_43 : decode cX7_paragraph 43 = .ok (.if_icmp .ge 91, 3) := by decide +kernel
theorem dX7_paragraph_46 : decode cX7_paragraph 46 = .ok (.aload_n 0, 1) := by decide +kernel
theorem dX7_paragraph_47 : decode cX7_paragraph 47 = .ok (.getfield 19, 3) := by decide +kernel
theorem dX7_paragraph_50 : decode cX7_paragraph 50 = .ok (.iload 6, 2) := by decide +kernel
theorem dX7_paragraph_52 : decode cX7_paragraph 52 = .ok (.iaload, 1) := by decide +kernel
theorem dX7_paragraph_53 : decode cX7_paragraph 53 = .ok (.iconst 2, 1) := by decide +kernel
theorem dX7_paragraph_54 : decode cX7_paragraph 54 = .ok (.if_icmp .ne 28, 3) := by decide +kernel
theorem dX7_paragraph_57 : decode cX7_paragraph 57 = .ok (.iinc 3 1, 3) := by decide +kernel
theorem dX7_paragraph_60 : decode cX7_paragraph 60 = .ok (.iload_n 3, 1) := by decide +kernel
theorem dX7_paragraph_61 : decode cX7_paragraph 61 = .ok (.iload_n 1, 1) := by decide +kernel
theorem dX7_paragraph_62 : decode cX7_paragraph 62 = .ok (.if_icmp .ne 13, 3) := by decide +kernel
theorem dX7_paragraph_65 : decode cX7_paragraph 65 = .ok (.aload_n 0, 1) := by decide +kernel
theorem dX7_paragraph_66 : decode cX7_paragraph 66 = .ok (.getfield 22, 3) := by decide +kernel
theorem dX7_paragraph_69 : decode cX7_paragraph 69 = .ok (.iload 6, 2) := by decide +kernel
theorem dX7_paragraph_71 : decode cX7_paragraph 71 = .ok (.iaload, 1) := by decide +kernel
theorem dX7_paragraph_72 : decode cX7_paragraph 72 = .ok (.goto 5, 3) := by decide +kernel
theorem dX7_paragraph_75 : decode cX7_paragraph 75 = .ok (.iload 4, 2) := by decide +kernel
theorem dX7_paragraph_77 : decode cX7_paragraph 77 = .ok (.istore 4, 2) := by decide +kernel
theorem dX7_paragraph_79 : decode cX7_paragraph 79 = .ok (.goto 49, 3) := by decide +kernel
theorem dX7_paragraph_82 : decode cX7_paragraph 82 = .ok (.iload_n 3, 1) := by decide +kernel
theorem dX7_paragraph_83 : decode cX7_paragraph 83 = .ok (.iload_n 1, 1) := by decide +kernel
theorem dX7_paragraph_84 : decode cX7_paragraph 84 = .ok (.if_icmp .ne 44, 3) := by decide +kernel
theorem dX7_paragraph_87 : decode cX7_paragraph 87 = .ok (.iload 5, 2) := by decide +kernel
theorem dX7_paragraph_89 : decode cX7_paragraph 89 = .ok (.iload_n 2, 1) := by decide +kernel
theorem dX7_paragraph_90 : decode cX7_paragraph 90 = .ok (.iconst 1, 1) := by decide +kernel
theorem dX7_paragraph_91 : decode cX7_paragraph 91 = .ok (.if_icmp .ne 13, 3) := by decide +kernel
theorem dX7_paragraph_94 : decode cX7_paragraph 94 = .ok (.aload_n 0, 1) := by decide +kernel
theorem dX7_paragraph_95 : decode cX7_paragraph 95 = .ok (.getfield 19, 3) := by decide +kernel
theorem dX7_paragraph_98 : decode cX7_paragraph 98 = .ok (.iload 6, 2) := by decide +kernel
theorem dX7_paragraph_100 : decode cX7_paragraph 100 = .ok (.iaload, 1) := by decide +kernel
theorem dX7_paragraph_101 : decode cX7_paragraph 101 = .ok (.ifCond .eq 19, 3) := by decide +kernel
theorem dX7_paragraph_104 : decode cX7_paragraph 104 = .ok (.iload_n 2, 1) := by decide +kernel
theorem dX7_paragraph_105 : decode cX7_paragraph 105 = .ok (.iconst 2, 1) := by decide +kernel
theorem dX7_paragraph_106 : decode cX7_paragraph 106 = .ok (.if_icmp .ne 18, 3) := by decide +kernel
theorem dX7_paragraph_109 : decode cX7_paragraph 109 = .ok (.aload_n 0, 1) := by decide +kernel
theorem dX7_paragraph_110 : decode cX7_paragraph 110 = .ok (.getfield 19, 3) := by decide +kernel
theorem dX7_paragraph_113 : decode cX7_paragraph 113 = .ok (.iload 6, 2) := by decide +kernel
theorem dX7_paragraph_115 : decode cX7_paragraph 115 = .ok (.iaload, 1) := by decide +kernel
theorem dX7_paragraph_116 : decode cX7_paragraph 116 = .ok (.iconst 5, 1) := by decide +kernel
theorem dX7_paragraph_117 : decode cX7_paragraph 117 = .ok (.if_icmp .ne 7, 3) := by decide +kernel
theorem dX7_paragraph_120 : decode cX7_paragraph 120 = .ok (.iconst 1, 1) := by decide +kernel
theorem dX7_paragraph_121 : decode cX7_paragraph 121 = .ok (.goto 4, 3) := by decide +kernel
theorem dX7_paragraph_124 : decode cX7_paragraph 124 = .ok (.iconst 0, 1) := by decide +kernel
theorem dX7_paragraph_125 : decode cX7_paragraph 125 = .ok (.iadd, 1) := by decide +kernel
theorem dX7_paragraph_126 : decode cX7_paragraph 126 = .ok (.istore 5, 2) := by decide +kernel
theorem dX7_paragraph_128 : decode cX7_paragraph 128 = .ok (.iinc 6 1, 3) := by decide +kernel
theorem dX7_paragraph_131 : decode cX7_paragraph 131 = .ok (.goto (-97), 3) := by decide +kernel
theorem dX7_paragraph_134 : decode cX7_paragraph 134 = .ok (.iload_n 1, 1) := by decide +kernel
theorem dX7_paragraph_135 : decode cX7_paragraph 135 = .ok (.ifCond .ge 9, 3) := by decide +kernel
theorem dX7_paragraph_138 : decode cX7_paragraph 138 = .ok (.iload_n 3, 1) := by decide +kernel
theorem dX7_paragraph_139 : decode cX7_paragraph 139 = .ok (.iconst 1, 1) := by decide +kernel
theorem dX7_paragraph_140 : decode cX7_paragraph 140 = .ok (.iadd, 1) := by decide +kernel
theorem dX7_paragraph_141 : decode cX7_paragraph 141 = .ok (.goto 24, 3) := by decide +kernel
theorem dX7_paragraph_144 : decode cX7_paragraph 144 = .ok (.iload_n 1, 1) := by decide +kernel
theorem dX7_paragraph_145 : decode cX7_paragraph 145 = .ok (.iload_n 3, 1) := by decide +kernel
theorem dX7_paragraph_146 : decode cX7_paragraph 146 = .ok (.if_icmp .le 8, 3) := by decide +kernel
theorem dX7_paragraph_149 : decode cX7_paragraph 149 = .ok (.bipush (-4), 2) := by decide +kernel
theorem dX7_paragraph_151 : decode cX7_paragraph 151 = .ok (.goto 14, 3) := by decide +kernel
theorem dX7_paragraph_154 : decode cX7_paragraph 154 = .ok (.iload_n 2, 1) := by decide +kernel
theorem dX7_paragraph_155 : decode cX7_paragraph 155 = .ok (.ifCond .ne 8, 3) := by decide +kernel
theorem dX7_paragraph_158 : decode cX7_paragraph 158 = .ok (.iload 4, 2) := by decide +kernel
theorem dX7_paragraph_160 : decode cX7_paragraph 160 = .ok (.goto 5, 3) := by decide +kernel
theorem dX7_paragraph_163 : decode cX7_paragraph 163 = .ok (.iload 5, 2) := by decide +kernel
theorem dX7_paragraph_165 : decode cX7_paragraph 165 = .ok (.ireturn, 1) := by decide +kernel
theorem dX7_at_0 : decode cX7_at 0 = .ok (.bipush 49, 2) := by decide +kernel
theorem dX7_at_2 : decode cX7_at 2 = .ok (.iload_n 0, 1) := by decide +kernel
theorem dX7_at_3 : decode cX7_at 3 = .ok (.imul, 1) := by decide +kernel
theorem dX7_at_4 : decode cX7_at 4 = .ok (.bipush 7, 2) := by decide +kernel
theorem dX7_at_6 : decode cX7_at 6 = .ok (.iload_n 1, 1) := by decide +kernel
theorem dX7_at_7 : decode cX7_at 7 = .ok (.imul, 1) := by decide +kernel
theorem dX7_at_8 : decode cX7_at 8 = .ok (.iadd, 1) := by decide +kernel
theorem dX7_at_9 : decode cX7_at 9 = .ok (.iload_n 2, 1) := by decide +kernel
theorem dX7_at_10 : decode cX7_at 10 = .ok (.iadd, 1) := by decide +kernel
theorem dX7_at_11 : decode cX7_at 11 = .ok (.ireturn, 1) := by decide +kernel
theorem dX7_stays_0 : decode cX7_stays 0 = .ok (.aload_n 0, 1) := by decide +kernel
theorem dX7_stays_1 : decode cX7_stays 1 = .ok (.getfield 13, 3) := by decide +kernel
theorem dX7_stays_4 : decode cX7_stays 4 = .ok (.iload_n 1, 1) := by decide +kernel
theorem dX7_stays_5 : decode cX7_stays 5 = .ok (.iaload, 1) := by decide +kernel
theorem dX7_stays_6 : decode cX7_stays 6 = .ok (.istore 6, 2) := by decide +kernel
theorem dX7_stays_8 : decode cX7_stays 8 = .ok (.iload_n 3, 1) := by decide +kernel
theorem dX7_stays_9 : decode cX7_stays 9 = .ok (.ifCond .le 38, 3) := by decide +kernel
theorem dX7_stays_12 : decode cX7_stays 12 = .ok (.iload 6, 2) := by decide +kernel
theorem dX7_stays_14 : decode cX7_stays 14 = .ok (.iload 4, 2) := by decide +kernel
theorem dX7_stays_16 : decode cX7_stays 16 = .ok (.iload 5, 2) := by decide +kernel
theorem dX7_stays_18 : decode cX7_stays 18 = .ok (.iload_n 2, 1) := by decide +kernel
theorem dX7_stays_19 : decode cX7_stays 19 = .ok (.iload_n 3, 1) := by decide +kernel
theorem dX7_stays_20 : decode cX7_stays 20 = .ok (.invokestatic 108, 3) := by decide +kernel
theorem dX7_stays_23 : decode cX7_stays 23 = .ok (.if_icmp .ne 21, 3) := by decide +kernel
theorem dX7_stays_26 : decode cX7_stays 26 = .ok (.aload_n 0, 1) := by decide +kernel
theorem dX7_stays_27 : decode cX7_stays 27 = .ok (.getfield 37, 3) := by decide +kernel
theorem dX7_stays_30 : decode cX7_stays 30 = .ok (.iload_n 1, 1) := by decide +kernel
theorem dX7_stays_31 : decode cX7_stays 31 = .ok (.iconst 1, 1) := by decide +kernel
theorem dX7_stays_32 : decode cX7_stays 32 = .ok (.iadd, 1) := by decide +kernel
theorem dX7_stays_33 : decode cX7_stays 33 = .ok (.iload_n 2, 1) := by decide +kernel
theorem dX7_stays_34 : decode cX7_stays 34 = .ok (.iload_n 3, 1) := by decide +kernel
theorem dX7_stays_35 : decode cX7_stays 35 = .ok (.iconst 1, 1) := by decide +kernel
theorem dX7_stays_36 : decode cX7_stays 36 = .ok (.isub, 1) := by decide +kernel
theorem dX7_stays_37 : decode cX7_stays 37 = .ok (.invokestatic 131, 3) := by decide +kernel
theorem dX7_stays_40 : decode cX7_stays 40 = .ok (.iaload, 1) := by decide +kernel
theorem dX7_stays_41 : decode cX7_stays 41 = .ok (.goto 5, 3) := by decide +kernel
theorem dX7_stays_44 : decode cX7_stays 44 = .ok (.ldc 135, 2) := by decide +kernel
theorem dX7_stays_46 : decode cX7_stays 46 = .ok (.ireturn, 1) := by decide +kernel
theorem dX7_stays_47 : decode cX7_stays 47 = .ok (.iload 6, 2) := by decide +kernel
theorem dX7_stays_49 : decode cX7_stays 49 = .ok (.invokestatic 54, 3) := by decide +kernel
theorem dX7_stays_52 : decode cX7_stays 52 = .ok (.ifCond .ne 33, 3) := by decide +kernel
theorem dX7_stays_55 : decode cX7_stays 55 = .ok (.aload_n 0, 1) := by decide +kernel
theorem dX7_stays_56 : decode cX7_stays 56 = .ok (.getfield 37, 3) := by decide +kernel
theorem dX7_stays_59 : decode cX7_stays 59 = .ok (.iload_n 1, 1) := by decide +kernel
theorem dX7_stays_60 : decode cX7_stays 60 = .ok (.iconst 1, 1) := by decide +kernel
theorem dX7_stays_61 : decode cX7_stays 61 = .ok (.iadd, 1) := by decide +kernel
theorem dX7_stays_62 : decode cX7_stays 62 = .ok (.iload_n 2, 1) := by decide +kernel
theorem dX7_stays_63 : decode cX7_stays 63 = .ok (.iload 6, 2) := by decide +kernel
theorem dX7_stays_65 : decode cX7_stays 65 = .ok (.bipush 124, 2) := by decide +kernel
theorem dX7_stays_67 : decode cX7_stays 67 = .ok (.if_icmp .ne 12, 3) := by decide +kernel
theorem dX7_stays_70 : decode cX7_stays 70 = .ok (.iload 5, 2) := by decide +kernel
theorem dX7_stays_72 : decode cX7_stays 72 = .ok (.iload_n 2, 1) := by decide +kernel
theorem dX7_stays_73 : decode cX7_stays 73 = .ok (.invokestatic 116, 3) := by decide +kernel
theorem dX7_stays_76 : decode cX7_stays 76 = .ok (.goto 4, 3) := by decide +kernel
theorem dX7_stays_79 : decode cX7_stays 79 = .ok (.iconst 0, 1) := by decide +kernel
theorem dX7_stays_80 : decode cX7_stays 80 = .ok (.invokestatic 131, 3) := by decide +kernel
theorem dX7_stays_83 : decode cX7_stays 83 = .ok (.iaload, 1) := by decide +kernel
theorem dX7_stays_84 : decode cX7_stays 84 = .ok (.ireturn, 1) := by decide +kernel
theorem dX7_stays_85 : decode cX7_stays 85 = .ok (.iload_n 2, 1) := by decide +kernel
theorem dX7_stays_86 : decode cX7_stays 86 = .ok (.ifCond .le 30, 3) := by decide +kernel
theorem dX7_stays_89 : decode cX7_stays 89 = .ok (.iload 6, 2) := by decide +kernel
theorem dX7_stays_91 : decode cX7_stays 91 = .ok (.iload 4, 2) := by decide +kernel
theorem dX7_stays_93 : decode cX7_stays 93 = .ok (.iload_n 2, 1) := by decide +kernel
theorem dX7_stays_94 : decode cX7_stays 94 = .ok (.invokestatic 119, 3) := by decide +kernel
theorem dX7_stays_97 : decode cX7_stays 97 = .ok (.if_icmp .ne 19, 3) := by decide +kernel
theorem dX7_stays_100 : decode cX7_stays 100 = .ok (.aload_n 0, 1) := by decide +kernel
theorem dX7_stays_101 : decode cX7_stays 101 = .ok (.getfield 37, 3) := by decide +kernel
theorem dX7_stays_104 : decode cX7_stays 104 = .ok (.iload_n 1, 1) := by decide +kernel
theorem dX7_stays_105 : decode cX7_stays 105 = .ok (.iconst 1, 1) := by decide +kernel
theorem dX7_stays_106 : decode cX7_stays 106 = .ok (.iadd, 1) := by decide +kernel
theorem dX7_stays_107 : decode cX7_stays 107 = .ok (.iload_n 2, 1) := by decide +kernel
theorem dX7_stays_108 : decode cX7_stays 108 = .ok (.iconst 1, 1) := by decide +kernel
theorem dX7_stays_109 : decode cX7_stays 109 = .ok (.isub, 1) := by decide +kernel
theorem dX7_stays_110 : decode cX7_stays 110 = .ok (.iconst 0, 1) := by decide +kernel
theorem dX7_stays_111 : decode cX7_stays 111 = .ok (.invokestatic 131, 3) := by decide +kernel
theorem dX7_stays_114 : decode cX7_stays 114 = .ok (.iaload, 1) := by decide +kernel
theorem dX7_stays_115 : decode cX7_stays 115 = .ok (.ireturn, 1) := by decide +kernel
theorem dX7_stays_116 : decode cX7_stays 116 = .ok (.iload_n 2, 1) := by decide +kernel
theorem dX7_stays_117 : decode cX7_stays 117 = .ok (.bipush 6, 2) := by decide +kernel
theorem dX7_stays_119 : decode cX7_stays 119 = .ok (.if_icmp .ge 32, 3) := by decide +kernel
theorem dX7_stays_122 : decode cX7_stays 122 = .ok (.iload 6, 2) := by decide +kernel
theorem dX7_stays_124 : decode cX7_stays 124 = .ok (.iload 4, 2) := by decide +kernel
theorem dX7_stays_126 : decode cX7_stays 126 = .ok (.iload_n 2, 1) := by decide +kernel
theorem dX7_stays_127 : decode cX7_stays 127 = .ok (.invokestatic 62, 3) := by decide +kernel
theorem dX7_stays_130 : decode cX7_stays 130 = .ok (.if_icmp .ne 21, 3) := by decide +kernel
theorem dX7_stays_133 : decode cX7_stays 133 = .ok (.aload_n 0, 1) := by decide +kernel
theorem dX7_stays_134 : decode cX7_stays 134 = .ok (.getfield 37, 3) := by decide +kernel
theorem dX7_stays_137 : decode cX7_stays 137 = .ok (.iload_n 1, 1) := by decide +kernel
theorem dX7_stays_138 : decode cX7_stays 138 = .ok (.iconst 1, 1) := by decide +kernel
theorem dX7_stays_139 : decode cX7_stays 139 = .ok (.iadd, 1) := by decide +kernel
theorem dX7_stays_140 : decode cX7_stays 140 = .ok (.iload_n 2, 1) := by decide +kernel
theorem dX7_stays_141 : decode cX7_stays 141 = .ok (.iconst 1, 1) := by decide +kernel
theorem dX7_stays_142 : decode cX7_stays 142 = .ok (.iadd, 1) := by decide +kernel
theorem dX7_stays_143 : decode cX7_stays 143 = .ok (.iconst 0, 1) := by decide +kernel
theorem dX7_stays_144 : decode cX7_stays 144 = .ok (.invokestatic 131, 3) := by decide +kernel
theorem dX7_stays_147 : decode cX7_stays 147 = .ok (.iaload, 1) := by decide +kernel
theorem dX7_stays_148 : decode cX7_stays 148 = .ok (.goto 5, 3) := by decide +kernel
theorem dX7_stays_151 : decode cX7_stays 151 = .ok (.ldc 135, 2) := by decide +kernel
theorem dX7_stays_153 : decode cX7_stays 153 = .ok (.ireturn, 1) := by decide +kernel
theorem dX7_becomes_0 : decode cX7_becomes 0 = .ok (.aload_n 0, 1) := by decide +kernel
theorem dX7_becomes_1 : decode cX7_becomes 1 = .ok (.getfield 13, 3) := by decide +kernel
theorem dX7_becomes_4 : decode cX7_becomes 4 = .ok (.iload_n 1, 1) := by decide +kernel
theorem dX7_becomes_5 : decode cX7_becomes 5 = .ok (.iaload, 1) := by decide +kernel
theorem dX7_becomes_6 : decode cX7_becomes 6 = .ok (.invokestatic 54, 3) := by decide +kernel
theorem dX7_becomes_9 : decode cX7_becomes 9 = .ok (.ifCond .eq 44, 3) := by decide +kernel
theorem dX7_becomes_12 : decode cX7_becomes 12 = .ok (.iload 4, 2) := by decide +kernel
theorem dX7_becomes_14 : decode cX7_becomes 14 = .ok (.ifCond .ne 7, 3) := by decide +kernel
theorem dX7_becomes_17 : decode cX7_becomes 17 = .ok (.iconst 1, 1) := by decide +kernel
theorem dX7_becomes_18 : decode cX7_becomes 18 = .ok (.goto 4, 3) := by decide +kernel
theorem dX7_becomes_21 : decode cX7_becomes 21 = .ok (.iconst 0, 1) := by decide +kernel
theorem dX7_becomes_22 : decode cX7_becomes 22 = .ok (.iload_n 3, 1) := by decide +kernel
theorem dX7_becomes_23 : decode cX7_becomes 23 = .ok (.ifCond .le 7, 3) := by decide +kernel
theorem dX7_becomes_26 : decode cX7_becomes 26 = .ok (.iconst 1, 1) := by decide +kernel
theorem dX7_becomes_27 : decode cX7_becomes 27 = .ok (.goto 4, 3) := by decide +kernel
theorem dX7_becomes_30 : decode cX7_becomes 30 = .ok (.iconst 0, 1) := by decide +kernel
theorem dX7_becomes_31 : decode cX7_becomes 31 = .ok (.if_icmp .ne 22, 3) := by decide +kernel
theorem dX7_becomes_34 : decode cX7_becomes 34 = .ok (.iload_n 2, 1) := by decide +kernel
theorem dX7_becomes_35 : decode cX7_becomes 35 = .ok (.iload 4, 2) := by decide +kernel
theorem dX7_becomes_37 : decode cX7_becomes 37 = .ok (.iadd, 1) := by decide +kernel
theorem dX7_becomes_38 : decode cX7_becomes 38 = .ok (.i2l, 1) := by decide +kernel
theorem dX7_becomes_39 : decode cX7_becomes 39 = .ok (.lconst 0, 1) := by decide +kernel
theorem dX7_becomes_40 : decode cX7_becomes 40 = .ok (.ldc2_w 129, 3) := by decide +kernel
theorem dX7_becomes_43 : decode cX7_becomes 43 = .ok (.invokestatic 50, 3) := by decide +kernel
theorem dX7_becomes_46 : decode cX7_becomes 46 = .ok (.ifCond .eq 7, 3) := by decide +kernel
theorem dX7_becomes_49 : decode cX7_becomes 49 = .ok (.iconst 1, 1) := by decide +kernel
theorem dX7_becomes_50 : decode cX7_becomes 50 = .ok (.goto 4, 3) := by decide +kernel
theorem dX7_becomes_53 : decode cX7_becomes 53 = .ok (.iconst 0, 1) := by decide +kernel
theorem dX7_becomes_54 : decode cX7_becomes 54 = .ok (.istore 5, 2) := by decide +kernel
theorem dX7_becomes_56 : decode cX7_becomes 56 = .ok (.iload 5, 2) := by decide +kernel
theorem dX7_becomes_58 : decode cX7_becomes 58 = .ok (.ifCond .eq 41, 3) := by decide +kernel
theorem dX7_becomes_61 : decode cX7_becomes 61 = .ok (.aload_n 0, 1) := by decide +kernel
theorem dX7_becomes_62 : decode cX7_becomes 62 = .ok (.getfield 13, 3) := by decide +kernel
theorem dX7_becomes_65 : decode cX7_becomes 65 = .ok (.bipush 125, 2) := by decide +kernel
theorem dX7_becomes_67 : decode cX7_becomes 67 = .ok (.iaload, 1) := by decide +kernel
theorem dX7_becomes_68 : decode cX7_becomes 68 = .ok (.aload_n 0, 1) := by decide +kernel
theorem dX7_becomes_69 : decode cX7_becomes 69 = .ok (.getfield 37, 3) := by decide +kernel
theorem dX7_becomes_72 : decode cX7_becomes 72 = .ok (.iload_n 1, 1) := by decide +kernel
theorem dX7_becomes_73 : decode cX7_becomes 73 = .ok (.iconst 1, 1) := by decide +kernel
theorem dX7_becomes_74 : decode cX7_becomes 74 = .ok (.iadd, 1) := by decide +kernel
theorem dX7_becomes_75 : decode cX7_becomes 75 = .ok (.iload_n 2, 1) := by decide +kernel
theorem dX7_becomes_76 : decode cX7_becomes 76 = .ok (.iload 4, 2) := by decide +kernel
theorem dX7_becomes_78 : decode cX7_becomes 78 = .ok (.iadd, 1) := by decide +kernel
theorem dX7_becomes_79 : decode cX7_becomes 79 = .ok (.iload 4, 2) := by decide +kernel
theorem dX7_becomes_81 : decode cX7_becomes 81 = .ok (.ifCond .ne 9, 3) := by decide +kernel
theorem dX7_becomes_84 : decode cX7_becomes 84 = .ok (.iload_n 3, 1) := by decide +kernel
theorem dX7_becomes_85 : decode cX7_becomes 85 = .ok (.iconst 1, 1) := by decide +kernel
theorem dX7_becomes_86 : decode cX7_becomes 86 = .ok (.isub, 1) := by decide +kernel
theorem dX7_becomes_87 : decode cX7_becomes 87 = .ok (.goto 4, 3) := by decide +kernel
theorem dX7_becomes_90 : decode cX7_becomes 90 = .ok (.iconst 0, 1) := by decide +kernel
theorem dX7_becomes_91 : decode cX7_becomes 91 = .ok (.invokestatic 131, 3) := by decide +kernel
theorem dX7_becomes_94 : decode cX7_becomes 94 = .ok (.iaload, 1) := by decide +kernel
theorem dX7_becomes_95 : decode cX7_becomes 95 = .ok (.iadd, 1) := by decide +kernel
theorem dX7_becomes_96 : decode cX7_becomes 96 = .ok (.goto 5, 3) := by decide +kernel
theorem dX7_becomes_99 : decode cX7_becomes 99 = .ok (.ldc 135, 2) := by decide +kernel
theorem dX7_becomes_101 : decode cX7_becomes 101 = .ok (.ireturn, 1) := by decide +kernel
theorem dX7_taken_0 : decode cX7_taken 0 = .ok (.aload_n 0, 1) := by decide +kernel
theorem dX7_taken_1 : decode cX7_taken 1 = .ok (.getfield 13, 3) := by decide +kernel
theorem dX7_taken_4 : decode cX7_taken 4 = .ok (.iload_n 1, 1) := by decide +kernel
theorem dX7_taken_5 : decode cX7_taken 5 = .ok (.iaload, 1) := by decide +kernel
theorem dX7_taken_6 : decode cX7_taken 6 = .ok (.invokestatic 54, 3) := by decide +kernel
theorem dX7_taken_9 : decode cX7_taken 9 = .ok (.ifCond .eq 27, 3) := by decide +kernel
theorem dX7_taken_12 : decode cX7_taken 12 = .ok (.aload_n 0, 1) := by decide +kernel
theorem dX7_taken_13 : decode cX7_taken 13 = .ok (.getfield 13, 3) := by decide +kernel
theorem dX7_taken_16 : decode cX7_taken 16 = .ok (.bipush 124, 2) := by decide +kernel
theorem dX7_taken_18 : decode cX7_taken 18 = .ok (.iaload, 1) := by decide +kernel
theorem dX7_taken_19 : decode cX7_taken 19 = .ok (.aload_n 0, 1) := by decide +kernel
theorem dX7_taken_20 : decode cX7_taken 20 = .ok (.getfield 37, 3) := by decide +kernel
theorem dX7_taken_23 : decode cX7_taken 23 = .ok (.iload_n 1, 1) := by decide +kernel
theorem dX7_taken_24 : decode cX7_taken 24 = .ok (.iconst 1, 1) := by decide +kernel
theorem dX7_taken_25 : decode cX7_taken 25 = .ok (.iadd, 1) := by decide +kernel
theorem dX7_taken_26 : decode cX7_taken 26 = .ok (.iload_n 2, 1) := by decide +kernel
theorem dX7_taken_27 : decode cX7_taken 27 = .ok (.iload_n 3, 1) := by decide +kernel
theorem dX7_taken_28 : decode cX7_taken 28 = .ok (.invokestatic 131, 3) := by decide +kernel
theorem dX7_taken_31 : decode cX7_taken 31 = .ok (.iaload, 1) := by decide +kernel
theorem dX7_taken_32 : decode cX7_taken 32 = .ok (.iadd, 1) := by decide +kernel
theorem dX7_taken_33 : decode cX7_taken 33 = .ok (.goto 5, 3) := by decide +kernel
theorem dX7_taken_36 : decode cX7_taken 36 = .ok (.ldc 135, 2) := by decide +kernel
theorem dX7_taken_38 : decode cX7_taken 38 = .ok (.ireturn, 1) := by decide +kernel
theorem dX7_min_0 : decode cX7_min 0 = .ok (.iload_n 0, 1) := by decide +kernel
theorem dX7_min_1 : decode cX7_min 1 = .ok (.iload_n 1, 1) := by decide +kernel
theorem dX7_min_2 : decode cX7_min 2 = .ok (.if_icmp .ge 7, 3) := by decide +kernel
theorem dX7_min_5 : decode cX7_min 5 = .ok (.iload_n 0, 1) := by decide +kernel
theorem dX7_min_6 : decode cX7_min 6 = .ok (.goto 4, 3) := by decide +kernel
theorem dX7_min_9 : decode cX7_min 9 = .ok (.iload_n 1, 1) := by decide +kernel
theorem dX7_min_10 : decode cX7_min 10 = .ok (.ireturn, 1) := by decide +kernel
theorem dX7_findLeast_0 : decode cX7_findLeast 0 = .ok (.aload_n 0, 1) := by decide +kernel
theorem dX7_findLeast_1 : decode cX7_findLeast 1 = .ok (.getfield 13, 3) := by decide +kernel
theorem dX7_findLeast_4 : decode cX7_findLeast 4 = .ok (.bipush 120, 2) := by decide +kernel
theorem dX7_findLeast_6 : decode cX7_findLeast 6 = .ok (.iaload, 1) := by decide +kernel
theorem dX7_findLeast_7 : decode cX7_findLeast 7 = .ok (.istore_n 3, 1) := by decide +kernel
theorem dX7_findLeast_8 : decode cX7_findLeast 8 = .ok (.aload_n 0, 1) := by decide +kernel
theorem dX7_findLeast_9 : decode cX7_findLeast 9 = .ok (.getfield 13, 3) := by decide +kernel
theorem dX7_findLeast_12 : decode cX7_findLeast 12 = .ok (.bipush 123, 2) := by decide +kernel
theorem dX7_findLeast_14 : decode cX7_findLeast 14 = .ok (.iaload, 1) := by decide +kernel
theorem dX7_findLeast_15 : decode cX7_findLeast 15 = .ok (.istore 4, 2) := by decide +kernel
theorem dX7_findLeast_17 : decode cX7_findLeast 17 = .ok (.iload_n 3, 1) := by decide +kernel
theorem dX7_findLeast_18 : decode cX7_findLeast 18 = .ok (.istore 5, 2) := by decide +kernel
theorem dX7_findLeast_20 : decode cX7_findLeast 20 = .ok (.iload 5, 2) := by decide +kernel
theorem dX7_findLeast_22 : decode cX7_findLeast 22 = .ok (.ifCond .lt 361, 3) := by decide +kernel
theorem dX7_findLeast_25 : decode cX7_findLeast 25 = .ok (.iconst 0, 1) := by decide +kernel
theorem dX7_findLeast_26 : decode cX7_findLeast 26 = .ok (.istore 6, 2) := by decide +kernel
theorem dX7_findLeast_28 : decode cX7_findLeast 28 = .ok (.iload 6, 2) := by decide +kernel
theorem dX7_findLeast_30 : decode cX7_findLeast 30 = .ok (.bipush 6, 2) := by decide +kernel
theorem dX7_findLeast_32 : decode cX7_findLeast 32 = .ok (.if_icmp .gt 95, 3) := by decide +kernel
theorem dX7_findLeast_35 : decode cX7_findLeast 35 = .ok (.iload 5, 2) := by decide +kernel
theorem dX7_findLeast_37 : decode cX7_findLeast 37 = .ok (.iload_n 3, 1) := by decide +kernel
theorem dX7_findLeast_38 : decode cX7_findLeast 38 = .ok (.if_icmp .ne 17, 3) := by decide +kernel
theorem dX7_findLeast_41 : decode cX7_findLeast 41 = .ok (.iload 6, 2) := by decide +kernel
theorem dX7_findLeast_43 : decode cX7_findLeast 43 = .ok (.ifCond .ne 7, 3) := by decide +kernel
theorem dX7_findLeast_46 : decode cX7_findLeast 46 = .ok (.iconst 0, 1) := by decide +kernel
theorem dX7_findLeast_47 : decode cX7_findLeast 47 = .ok (.goto 57, 3) := by decide +kernel
theorem dX7_findLeast_50 : decode cX7_findLeast 50 = .ok (.ldc 135, 2) := by decide +kernel
theorem dX7_findLeast_52 : decode cX7_findLeast 52 = .ok (.goto 52, 3) := by decide +kernel
theorem dX7_findLeast_55 : decode cX7_findLeast 55 = .ok (.aload_n 0, 1) := by decide +kernel
theorem dX7_findLeast_56 : decode cX7_findLeast 56 = .ok (.iload 5, 2) := by decide +kernel
theorem dX7_findLeast_58 : decode cX7_findLeast 58 = .ok (.iload 6, 2) := by decide +kernel
theorem dX7_findLeast_60 : decode cX7_findLeast 60 = .ok (.iconst 0, 1) := by decide +kernel
theorem dX7_findLeast_61 : decode cX7_findLeast 61 = .ok (.iload_n 1, 1) := by decide +kernel
theorem dX7_findLeast_62 : decode cX7_findLeast 62 = .ok (.iload_n 2, 1) := by decide +kernel
theorem dX7_findLeast_63 : decode cX7_findLeast 63 = .ok (.invokevirtual 136, 3) := by decide +kernel
theorem dX7_findLeast_66 : decode cX7_findLeast 66 = .ok (.aload_n 0, 1) := by decide +kernel
theorem dX7_findLeast_67 : decode cX7_findLeast 67 = .ok (.iload 5, 2) := by decide +kernel
theorem dX7_findLeast_69 : decode cX7_findLeast 69 = .ok (.iload 6, 2) := by decide +kernel
theorem dX7_findLeast_71 : decode cX7_findLeast 71 = .ok (.iconst 0, 1) := by decide +kernel
theorem dX7_findLeast_72 : decode cX7_findLeast 72 = .ok (.invokevirtual 140, 3) := by decide +kernel
theorem dX7_findLeast_75 : decode cX7_findLeast 75 = .ok (.invokestatic 143, 3) := by decide +kernel
theorem dX7_findLeast_78 : decode cX7_findLeast 78 = .ok (.aload_n 0, 1) := by decide +kernel
theorem dX7_findLeast_79 : decode cX7_findLeast 79 = .ok (.iload 5, 2) := by decide +kernel
theorem dX7_findLeast_81 : decode cX7_findLeast 81 = .ok (.iload 6, 2) := by decide +kernel
theorem dX7_findLeast_83 : decode cX7_findLeast 83 = .ok (.iconst 0, 1) := by decide +kernel
theorem dX7_findLeast_84 : decode cX7_findLeast 84 = .ok (.iconst 1, 1) := by decide +kernel
theorem dX7_findLeast_85 : decode cX7_findLeast 85 = .ok (.invokevirtual 146, 3) := by decide +kernel
theorem dX7_findLeast_88 : decode cX7_findLeast 88 = .ok (.aload_n 0, 1) := by decide +kernel
theorem dX7_findLeast_89 : decode cX7_findLeast 89 = .ok (.iload 5, 2) := by decide +kernel
theorem dX7_findLeast_91 : decode cX7_findLeast 91 = .ok (.iload 6, 2) := by decide +kernel
theorem dX7_findLeast_93 : decode cX7_findLeast 93 = .ok (.iconst 0, 1) := by decide +kernel
theorem dX7_findLeast_94 : decode cX7_findLeast 94 = .ok (.iconst (-1), 1) := by decide +kernel
theorem dX7_findLeast_95 : decode cX7_findLeast 95 = .ok (.invokevirtual 146, 3) := by decide +kernel
