/-! Decode rows. By program (wip/whole/names.py). -/
theorem d_Law_feed_0 : decode c_Law_feed 0 = .ok (.aload 6, 2) := by decide +kernel
theorem d_Law_feed_2 : decode c_Law_feed 2 = .ok (.iconst 0, 1) := by decide +kernel
theorem d_Law_feed_3 : decode c_Law_feed 3 = .ok (.aload_n 0, 1) := by decide +kernel
theorem d_Law_feed_4 : decode c_Law_feed 4 = .ok (.iload_n 1, 1) := by decide +kernel
theorem d_Law_feed_5 : decode c_Law_feed 5 = .ok (.iload_n 2, 1) := by decide +kernel
theorem d_Law_feed_6 : decode c_Law_feed 6 = .ok (.iload_n 3, 1) := by decide +kernel
theorem d_Law_feed_7 : decode c_Law_feed 7 = .ok (.iload 4, 2) := by decide +kernel
theorem d_Law_feed_9 : decode c_Law_feed 9 = .ok (.iload 5, 2) := by decide +kernel
theorem d_Law_feed_11 : decode c_Law_feed 11 = .ok (.invokevirtual 7, 3) := by decide +kernel
theorem d_Law_feed_14 : decode c_Law_feed 14 = .ok (.i2l, 1) := by decide +kernel
theorem d_Law_feed_15 : decode c_Law_feed 15 = .ok (.lastore, 1) := by decide +kernel
theorem d_Law_feed_16 : decode c_Law_feed 16 = .ok (.goto 7, 3) := by decide +kernel
theorem d_Law_feed_19 : decode c_Law_feed 19 = .ok (.astore 7, 2) := by decide +kernel
theorem d_Law_feed_21 : decode c_Law_feed 21 = .ok (.iconst 1, 1) := by decide +kernel
theorem d_Law_feed_22 : decode c_Law_feed 22 = .ok (.ireturn, 1) := by decide +kernel
theorem d_Law_feed_23 : decode c_Law_feed 23 = .ok (.iconst 0, 1) := by decide +kernel
theorem d_Law_feed_24 : decode c_Law_feed 24 = .ok (.ireturn, 1) := by decide +kernel
theorem d_Law_end_0 : decode c_Law_end 0 = .ok (.aload_n 2, 1) := by decide +kernel
theorem d_Law_end_1 : decode c_Law_end 1 = .ok (.iconst 0, 1) := by decide +kernel
theorem d_Law_end_2 : decode c_Law_end 2 = .ok (.aload_n 0, 1) := by decide +kernel
theorem d_Law_end_3 : decode c_Law_end 3 = .ok (.iload_n 1, 1) := by decide +kernel
theorem d_Law_end_4 : decode c_Law_end 4 = .ok (.invokevirtual 15, 3) := by decide +kernel
theorem d_Law_end_7 : decode c_Law_end 7 = .ok (.i2l, 1) := by decide +kernel
theorem d_Law_end_8 : decode c_Law_end 8 = .ok (.lastore, 1) := by decide +kernel
theorem d_Law_end_9 : decode c_Law_end 9 = .ok (.goto 6, 3) := by decide +kernel
theorem d_Law_end_12 : decode c_Law_end 12 = .ok (.astore_n 3, 1) := by decide +kernel
theorem d_Law_end_13 : decode c_Law_end 13 = .ok (.iconst 1, 1) := by decide +kernel
theorem d_Law_end_14 : decode c_Law_end 14 = .ok (.ireturn, 1) := by decide +kernel
theorem d_Law_end_15 : decode c_Law_end 15 = .ok (.iconst 0, 1) := by decide +kernel
theorem d_Law_end_16 : decode c_Law_end 16 = .ok (.ireturn, 1) := by decide +kernel
theorem d_Law_zone_0 : decode c_Law_zone 0 = .ok (.aload_n 0, 1) := by decide +kernel
theorem d_Law_zone_1 : decode c_Law_zone 1 = .ok (.iload_n 1, 1) := by decide +kernel
theorem d_Law_zone_2 : decode c_Law_zone 2 = .ok (.invokevirtual 21, 3) := by decide +kernel
theorem d_Law_zone_5 : decode c_Law_zone 5 = .ok (.goto 9, 3) := by decide +kernel
theorem d_Law_zone_8 : decode c_Law_zone 8 = .ok (.astore_n 2, 1) := by decide +kernel
theorem d_Law_zone_9 : decode c_Law_zone 9 = .ok (.iconst 1, 1) := by decide +kernel
theorem d_Law_zone_10 : decode c_Law_zone 10 = .ok (.ireturn, 1) := by decide +kernel
theorem d_Law_zone_11 : decode c_Law_zone 11 = .ok (.astore_n 2, 1) := by decide +kernel
theorem d_Law_zone_12 : decode c_Law_zone 12 = .ok (.iconst 2, 1) := by decide +kernel
theorem d_Law_zone_13 : decode c_Law_zone 13 = .ok (.ireturn, 1) := by decide +kernel
theorem d_Law_zone_14 : decode c_Law_zone 14 = .ok (.iconst 0, 1) := by decide +kernel
theorem d_Law_zone_15 : decode c_Law_zone 15 = .ok (.ireturn, 1) := by decide +kernel
theorem d_Law_local_0 : decode c_Law_local 0 = .ok (.aload 4, 2) := by decide +kernel
theorem d_Law_local_2 : decode c_Law_local 2 = .ok (.iconst 0, 1) := by decide +kernel
theorem d_Law_local_3 : decode c_Law_local 3 = .ok (.aload_n 0, 1) := by decide +kernel
theorem d_Law_local_4 : decode c_Law_local 4 = .ok (.iload_n 1, 1) := by decide +kernel
theorem d_Law_local_5 : decode c_Law_local 5 = .ok (.lload_n 2, 1) := by decide +kernel
theorem d_Law_local_6 : decode c_Law_local 6 = .ok (.invokevirtual 27, 3) := by decide +kernel
theorem d_Law_local_9 : decode c_Law_local 9 = .ok (.lastore, 1) := by decide +kernel
theorem d_Law_local_10 : decode c_Law_local 10 = .ok (.goto 7, 3) := by decide +kernel
theorem d_Law_local_13 : decode c_Law_local 13 = .ok (.astore 5, 2) := by decide +kernel
theorem d_Law_local_15 : decode c_Law_local 15 = .ok (.iconst 1, 1) := by decide +kernel
theorem d_Law_local_16 : decode c_Law_local 16 = .ok (.ireturn, 1) := by decide +kernel
theorem d_Law_local_17 : decode c_Law_local 17 = .ok (.iconst 0, 1) := by decide +kernel
theorem d_Law_local_18 : decode c_Law_local 18 = .ok (.ireturn, 1) := by decide +kernel
theorem d_Law_many_0 : decode c_Law_many 0 = .ok (.aload 4, 2) := by decide +kernel
theorem d_Law_many_2 : decode c_Law_many 2 = .ok (.iconst 0, 1) := by decide +kernel
theorem d_Law_many_3 : decode c_Law_many 3 = .ok (.aload_n 0, 1) := by decide +kernel
theorem d_Law_many_4 : decode c_Law_many 4 = .ok (.iload_n 1, 1) := by decide +kernel
theorem d_Law_many_5 : decode c_Law_many 5 = .ok (.lload_n 2, 1) := by decide +kernel
theorem d_Law_many_6 : decode c_Law_many 6 = .ok (.invokevirtual 31, 3) := by decide +kernel
theorem d_Law_many_9 : decode c_Law_many 9 = .ok (.i2l, 1) := by decide +kernel
theorem d_Law_many_10 : decode c_Law_many 10 = .ok (.lastore, 1) := by decide +kernel
theorem d_Law_many_11 : decode c_Law_many 11 = .ok (.goto 7, 3) := by decide +kernel
theorem d_Law_many_14 : decode c_Law_many 14 = .ok (.astore 5, 2) := by decide +kernel
theorem d_Law_many_16 : decode c_Law_many 16 = .ok (.iconst 1, 1) := by decide +kernel
theorem d_Law_many_17 : decode c_Law_many 17 = .ok (.ireturn, 1) := by decide +kernel
theorem d_Law_many_18 : decode c_Law_many 18 = .ok (.iconst 0, 1) := by decide +kernel
theorem d_Law_many_19 : decode c_Law_many 19 = .ok (.ireturn, 1) := by decide +kernel
theorem d_Law_universal_0 : decode c_Law_universal 0 = .ok (.aload 5, 2) := by decide +kernel
theorem d_Law_universal_2 : decode c_Law_universal 2 = .ok (.iconst 0, 1) := by decide +kernel
theorem d_Law_universal_3 : decode c_Law_universal 3 = .ok (.aload_n 0, 1) := by decide +kernel
theorem d_Law_universal_4 : decode c_Law_universal 4 = .ok (.iload_n 1, 1) := by decide +kernel
theorem d_Law_universal_5 : decode c_Law_universal 5 = .ok (.lload_n 2, 1) := by decide +kernel
theorem d_Law_universal_6 : decode c_Law_universal 6 = .ok (.iload 4, 2) := by decide +kernel
theorem d_Law_universal_8 : decode c_Law_universal 8 = .ok (.invokevirtual 35, 3) := by decide +kernel
theorem d_Law_universal_11 : decode c_Law_universal 11 = .ok (.lastore, 1) := by decide +kernel
theorem d_Law_universal_12 : decode c_Law_universal 12 = .ok (.goto 11, 3) := by decide +kernel
theorem d_Law_universal_15 : decode c_Law_universal 15 = .ok (.astore 6, 2) := by decide +kernel
theorem d_Law_universal_17 : decode c_Law_universal 17 = .ok (.iconst 1, 1) := by decide +kernel
theorem d_Law_universal_18 : decode c_Law_universal 18 = .ok (.ireturn, 1) := by decide +kernel
theorem d_Law_universal_19 : decode c_Law_universal 19 = .ok (.astore 6, 2) := by decide +kernel
theorem d_Law_universal_21 : decode c_Law_universal 21 = .ok (.iconst 2, 1) := by decide +kernel
theorem d_Law_universal_22 : decode c_Law_universal 22 = .ok (.ireturn, 1) := by decide +kernel
theorem d_Law_universal_23 : decode c_Law_universal 23 = .ok (.iconst 0, 1) := by decide +kernel
theorem d_Law_universal_24 : decode c_Law_universal 24 = .ok (.ireturn, 1) := by decide +kernel
theorem d_Law_change_0 : decode c_Law_change 0 = .ok (.aload 5, 2) := by decide +kernel
theorem d_Law_change_2 : decode c_Law_change 2 = .ok (.iconst 0, 1) := by decide +kernel
theorem d_Law_change_3 : decode c_Law_change 3 = .ok (.aload_n 0, 1) := by decide +kernel
theorem d_Law_change_4 : decode c_Law_change 4 = .ok (.iload_n 1, 1) := by decide +kernel
theorem d_Law_change_5 : decode c_Law_change 5 = .ok (.lload_n 2, 1) := by decide +kernel
theorem d_Law_change_6 : decode c_Law_change 6 = .ok (.iload 4, 2) := by decide +kernel
theorem d_Law_change_8 : decode c_Law_change 8 = .ok (.invokevirtual 41, 3) := by decide +kernel
theorem d_Law_change_11 : decode c_Law_change 11 = .ok (.lastore, 1) := by decide +kernel
theorem d_Law_change_12 : decode c_Law_change 12 = .ok (.goto 7, 3) := by decide +kernel
theorem d_Law_change_15 : decode c_Law_change 15 = .ok (.astore 6, 2) := by decide +kernel
theorem d_Law_change_17 : decode c_Law_change 17 = .ok (.iconst 1, 1) := by decide +kernel
theorem d_Law_change_18 : decode c_Law_change 18 = .ok (.ireturn, 1) := by decide +kernel
theorem d_Law_change_19 : decode c_Law_change 19 = .ok (.iconst 0, 1) := by decide +kernel
theorem d_Law_change_20 : decode c_Law_change 20 = .ok (.ireturn, 1) := by decide +kernel
theorem d_Law_field_0 : decode c_Law_field 0 = .ok (.aload 5, 2) := by decide +kernel
theorem d_Law_field_2 : decode c_Law_field 2 = .ok (.iconst 0, 1) := by decide +kernel
theorem d_Law_field_3 : decode c_Law_field 3 = .ok (.aload_n 0, 1) := by decide +kernel
theorem d_Law_field_4 : decode c_Law_field 4 = .ok (.iload_n 1, 1) := by decide +kernel
theorem d_Law_field_5 : decode c_Law_field 5 = .ok (.lload_n 2, 1) := by decide +kernel
theorem d_Law_field_6 : decode c_Law_field 6 = .ok (.iload 4, 2) := by decide +kernel
theorem d_Law_field_8 : decode c_Law_field 8 = .ok (.invokevirtual 44, 3) := by decide +kernel
theorem d_Law_field_11 : decode c_Law_field 11 = .ok (.i2l, 1) := by decide +kernel
theorem d_Law_field_12 : decode c_Law_field 12 = .ok (.lastore, 1) := by decide +kernel
theorem d_Law_field_13 : decode c_Law_field 13 = .ok (.goto 7, 3) := by decide +kernel
theorem d_Law_field_16 : decode c_Law_field 16 = .ok (.astore 6, 2) := by decide +kernel
theorem d_Law_field_18 : decode c_Law_field 18 = .ok (.iconst 1, 1) := by decide +kernel
theorem d_Law_field_19 : decode c_Law_field 19 = .ok (.ireturn, 1) := by decide +kernel
theorem d_Law_field_20 : decode c_Law_field 20 = .ok (.iconst 0, 1) := by decide +kernel
theorem d_Law_field_21 : decode c_Law_field 21 = .ok (.ireturn, 1) := by decide +kernel
theorem d_Law_law_0 : decode c_Law_law 0 = .ok (.new 8, 3) := by decide +kernel
theorem d_Law_law_3 : decode c_Law_law 3 = .ok (.dup, 1) := by decide +kernel
theorem d_Law_law_4 : decode c_Law_law 4 = .ok (.invokespecial 48, 3) := by decide +kernel
theorem d_Law_law_7 : decode c_Law_law 7 = .ok (.astore_n 1, 1) := by decide +kernel
theorem d_Law_law_8 : decode c_Law_law 8 = .ok (.new 49, 3) := by decide +kernel
theorem d_Law_law_11 : decode c_Law_law 11 = .ok (.dup, 1) := by decide +kernel
theorem d_Law_law_12 : decode c_Law_law 12 = .ok (.invokespecial 51, 3) := by decide +kernel
theorem d_Law_law_15 : decode c_Law_law 15 = .ok (.astore_n 2, 1) := by decide +kernel
theorem d_Law_law_16 : decode c_Law_law 16 = .ok (.iconst 1, 1) := by decide +kernel
theorem d_Law_law_17 : decode c_Law_law 17 = .ok (.newarray .long, 2) := by decide +kernel
theorem d_Law_law_19 : decode c_Law_law 19 = .ok (.astore_n 3, 1) := by decide +kernel
theorem d_Law_law_20 : decode c_Law_law 20 = .ok (.iconst 0, 1) := by decide +kernel
theorem d_Law_law_21 : decode c_Law_law 21 = .ok (.istore 4, 2) := by decide +kernel
theorem d_Law_law_23 : decode c_Law_law 23 = .ok (.iload 4, 2) := by decide +kernel
theorem d_Law_law_25 : decode c_Law_law 25 = .ok (.aload_n 0, 1) := by decide +kernel
theorem d_Law_law_26 : decode c_Law_law 26 = .ok (.arraylength, 1) := by decide +kernel
theorem d_Law_law_27 : decode c_Law_law 27 = .ok (.bipush 6, 2) := by decide +kernel
theorem d_Law_law_29 : decode c_Law_law 29 = .ok (.isub, 1) := by decide +kernel
theorem d_Law_law_30 : decode c_Law_law 30 = .ok (.if_icmp .gt 842, 3) := by decide +kernel
theorem d_Law_law_33 : decode c_Law_law 33 = .ok (.aload_n 0, 1) := by decide +kernel
theorem d_Law_law_34 : decode c_Law_law 34 = .ok (.iload 4, 2) := by decide +kernel
theorem d_Law_law_36 : decode c_Law_law 36 = .ok (.iaload, 1) := by decide +kernel
theorem d_Law_law_37 : decode c_Law_law 37 = .ok (.bipush 15, 2) := by decide +kernel
theorem d_Law_law_39 : decode c_Law_law 39 = .ok (.iand, 1) := by decide +kernel
theorem d_Law_law_40 : decode c_Law_law 40 = .ok (.tableswitch 826 0 8 #[52, 156, 212, 248, 347, 447, 574, 701, 813], 52) := by decide +kernel
theorem d_Law_law_92 : decode c_Law_law 92 = .ok (.aload_n 1, 1) := by decide +kernel
theorem d_Law_law_93 : decode c_Law_law 93 = .ok (.aload_n 0, 1) := by decide +kernel
theorem d_Law_law_94 : decode c_Law_law 94 = .ok (.iload 4, 2) := by decide +kernel
theorem d_Law_law_96 : decode c_Law_law 96 = .ok (.iconst 1, 1) := by decide +kernel
theorem d_Law_law_97 : decode c_Law_law 97 = .ok (.iadd, 1) := by decide +kernel
theorem d_Law_law_98 : decode c_Law_law 98 = .ok (.iaload, 1) := by decide +kernel
theorem d_Law_law_99 : decode c_Law_law 99 = .ok (.aload_n 0, 1) := by decide +kernel
theorem d_Law_law_100 : decode c_Law_law 100 = .ok (.iload 4, 2) := by decide +kernel
theorem d_Law_law_102 : decode c_Law_law 102 = .ok (.iconst 2, 1) := by decide +kernel
theorem d_Law_law_103 : decode c_Law_law 103 = .ok (.iadd, 1) := by decide +kernel
theorem d_Law_law_104 : decode c_Law_law 104 = .ok (.iaload, 1) := by decide +kernel
theorem d_Law_law_105 : decode c_Law_law 105 = .ok (.aload_n 0, 1) := by decide +kernel
theorem d_Law_law_106 : decode c_Law_law 106 = .ok (.iload 4, 2) := by decide +kernel
theorem d_Law_law_108 : decode c_Law_law 108 = .ok (.iconst 3, 1) := by decide +kernel
theorem d_Law_law_109 : decode c_Law_law 109 = .ok (.iadd, 1) := by decide +kernel
theorem d_Law_law_110 : decode c_Law_law 110 = .ok (.iaload, 1) := by decide +kernel
theorem d_Law_law_111 : decode c_Law_law 111 = .ok (.aload_n 0, 1) := by decide +kernel
theorem d_Law_law_112 : decode c_Law_law 112 = .ok (.iload 4, 2) := by decide +kernel
theorem d_Law_law_114 : decode c_Law_law 114 = .ok (.iconst 4, 1) := by decide +kernel
theorem d_Law_law_115 : decode c_Law_law 115 = .ok (.iadd, 1) := by decide +kernel
theorem d_Law_law_116 : decode c_Law_law 116 = .ok (.iaload, 1) := by decide +kernel
theorem d_Law_law_117 : decode c_Law_law 117 = .ok (.aload_n 0, 1) := by decide +kernel
theorem d_Law_law_118 : decode c_Law_law 118 = .ok (.iload 4, 2) := by decide +kernel
theorem d_Law_law_120 : decode c_Law_law 120 = .ok (.iconst 5, 1) := by decide +kernel
theorem d_Law_law_121 : decode c_Law_law 121 = .ok (.iadd, 1) := by decide +kernel
theorem d_Law_law_122 : decode c_Law_law 122 = .ok (.iaload, 1) := by decide +kernel
theorem d_Law_law_123 : decode c_Law_law 123 = .ok (.aload_n 3, 1) := by decide +kernel
theorem d_Law_law_124 : decode c_Law_law 124 = .ok (.invokestatic 52, 3) := by decide +kernel
theorem d_Law_law_127 : decode c_Law_law 127 = .ok (.istore 5, 2) := by decide +kernel
theorem d_Law_law_129 : decode c_Law_law 129 = .ok (.aload_n 2, 1) := by decide +kernel
theorem d_Law_law_130 : decode c_Law_law 130 = .ok (.aload_n 0, 1) := by decide +kernel
theorem d_Law_law_131 : decode c_Law_law 131 = .ok (.iload 4, 2) := by decide +kernel
theorem d_Law_law_133 : decode c_Law_law 133 = .ok (.iconst 1, 1) := by decide +kernel
theorem d_Law_law_134 : decode c_Law_law 134 = .ok (.iadd, 1) := by decide +kernel
theorem d_Law_law_135 : decode c_Law_law 135 = .ok (.iaload, 1) := by decide +kernel
theorem d_Law_law_136 : decode c_Law_law 136 = .ok (.aload_n 0, 1) := by decide +kernel
theorem d_Law_law_137 : decode c_Law_law 137 = .ok (.iload 4, 2) := by decide +kernel
theorem d_Law_law_139 : decode c_Law_law 139 = .ok (.iconst 2, 1) := by decide +kernel
theorem d_Law_law_140 : decode c_Law_law 140 = .ok (.iadd, 1) := by decide +kernel
theorem d_Law_law_141 : decode c_Law_law 141 = .ok (.iaload, 1) := by decide +kernel
theorem d_Law_law_142 : decode c_Law_law 142 = .ok (.aload_n 0, 1) := by decide +kernel
theorem d_Law_law_143 : decode c_Law_law 143 = .ok (.iload 4, 2) := by decide +kernel
theorem d_Law_law_145 : decode c_Law_law 145 = .ok (.iconst 3, 1) := by decide +kernel
theorem d_Law_law_146 : decode c_Law_law 146 = .ok (.iadd, 1) := by decide +kernel
theorem d_Law_law_147 : decode c_Law_law 147 = .ok (.iaload, 1) := by decide +kernel
theorem d_Law_law_148 : decode c_Law_law 148 = .ok (.aload_n 0, 1) := by decide +kernel
theorem d_Law_law_149 : decode c_Law_law 149 = .ok (.iload 4, 2) := by decide +kernel
theorem d_Law_law_151 : decode c_Law_law 151 = .ok (.iconst 4, 1) := by decide +kernel
theorem d_Law_law_152 : decode c_Law_law 152 = .ok (.iadd, 1) := by decide +kernel
theorem d_Law_law_153 : decode c_Law_law 153 = .ok (.iaload, 1) := by decide +kernel
theorem d_Law_law_154 : decode c_Law_law 154 = .ok (.aload_n 0, 1) := by decide +kernel
theorem d_Law_law_155 : decode c_Law_law 155 = .ok (.iload 4, 2) := by decide +kernel
theorem d_Law_law_157 : decode c_Law_law 157 = .ok (.iconst 5, 1) := by decide +kernel
theorem d_Law_law_158 : decode c_Law_law 158 = .ok (.iadd, 1) := by decide +kernel
theorem d_Law_law_159 : decode c_Law_law 159 = .ok (.iaload, 1) := by decide +kernel
theorem d_Law_law_160 : decode c_Law_law 160 = .ok (.invokevirtual 57, 3) := by decide +kernel
theorem d_Law_law_163 : decode c_Law_law 163 = .ok (.istore 6, 2) := by decide +kernel
theorem d_Law_law_165 : decode c_Law_law 165 = .ok (.aload_n 2, 1) := by decide +kernel
theorem d_Law_law_166 : decode c_Law_law 166 = .ok (.invokevirtual 58, 3) := by decide +kernel
theorem d_Law_law_169 : decode c_Law_law 169 = .ok (.iload 5, 2) := by decide +kernel
theorem d_Law_law_171 : decode c_Law_law 171 = .ok (.if_icmp .eq 5, 3) := by decide +kernel
theorem d_Law_law_174 : decode c_Law_law 174 = .ok (.iconst 0, 1) := by decide +kernel
theorem d_Law_law_175 : decode c_Law_law 175 = .ok (.ireturn, 1) := by decide +kernel
theorem d_Law_law_176 : decode c_Law_law 176 = .ok (.iload 5, 2) := by decide +kernel
theorem d_Law_law_178 : decode c_Law_law 178 = .ok (.ifCond .ne 15, 3) := by decide +kernel
theorem d_Law_law_181 : decode c_Law_law 181 = .ok (.aload_n 3, 1) := by decide +kernel
theorem d_Law_law_182 : decode c_Law_law 182 = .ok (.iconst 0, 1) := by decide +kernel
theorem d_Law_law_183 : decode c_Law_law 183 = .ok (.laload, 1) := by decide +kernel
theorem d_Law_law_184 : decode c_Law_law 184 = .ok (.iload 6, 2) := by decide +kernel
theorem d_Law_law_186 : decode c_Law_law 186 = .ok (.i2l, 1) := by decide +kernel
theorem d_Law_law_187 : decode c_Law_law 187 = .ok (.lcmp, 1) := by decide +kernel
theorem d_Law_law_188 : decode c_Law_law 188 = .ok (.ifCond .eq 5, 3) := by decide +kernel
theorem d_Law_law_191 : decode c_Law_law 191 = .ok (.iconst 0, 1) := by decide +kernel
theorem d_Law_law_192 : decode c_Law_law 192 = .ok (.ireturn, 1) := by decide +kernel
theorem d_Law_law_193 : decode c_Law_law 193 = .ok (.goto 673, 3) := by decide +kernel
theorem d_Law_law_196 : decode c_Law_law 196 = .ok (.aload_n 1, 1) := by decide +kernel
theorem d_Law_law_197 : decode c_Law_law 197 = .ok (.aload_n 0, 1) := by decide +kernel
theorem d_Law_law_198 : decode c_Law_law 198 = .ok (.iload 4, 2) := by decide +kernel
theorem d_Law_law_200 : decode c_Law_law 200 = .ok (.iconst 1, 1) := by decide +kernel
theorem d_Law_law_201 : decode c_Law_law 201 = .ok (.iadd, 1) := by decide +kernel
theorem d_Law_law_202 : decode c_Law_law 202 = .ok (.iaload, 1) := by decide +kernel
theorem d_Law_law_203 : decode c_Law_law 203 = .ok (.aload_n 3, 1) := by decide +kernel
theorem d_Law_law_204 : decode c_Law_law 204 = .ok (.invokestatic 62, 3) := by decide +kernel
theorem d_Law_law_207 : decode c_Law_law 207 = .ok (.istore 5, 2) := by decide +kernel
theorem d_Law_law_209 : decode c_Law_law 209 = .ok (.aload_n 2, 1) := by decide +kernel
theorem d_Law_law_210 : decode c_Law_law 210 = .ok (.aload_n 0, 1) := by decide +kernel
theorem d_Law_law_211 : decode c_Law_law 211 = .ok (.iload 4, 2) := by decide +kernel
theorem d_Law_law_213 : decode c_Law_law 213 = .ok (.iconst 1, 1) := by decide +kernel
theorem d_Law_law_214 : decode c_Law_law 214 = .ok (.iadd, 1) := by decide +kernel
theorem d_Law_law_215 : decode c_Law_law 215 = .ok (.iaload, 1) := by decide +kernel
theorem d_Law_law_216 : decode c_Law_law 216 = .ok (.invokevirtual 65, 3) := by decide +kernel
theorem d_Law_law_219 : decode c_Law_law 219 = .ok (.istore 6, 2) := by decide +kernel
theorem d_Law_law_221 : decode c_Law_law 221 = .ok (.aload_n 2, 1) := by decide +kernel
theorem d_Law_law_222 : decode c_Law_law 222 = .ok (.invokevirtual 58, 3) := by decide +kernel
theorem d_Law_law_225 : decode c_Law_law 225 = .ok (.iload 5, 2) := by decide +kernel
theorem d_Law_law_227 : decode c_Law_law 227 = .ok (.if_icmp .eq 5, 3) := by decide +kernel
theorem d_Law_law_230 : decode c_Law_law 230 = .ok (.iconst 0, 1) := by decide +kernel
theorem d_Law_law_231 : decode c_Law_law 231 = .ok (.ireturn, 1) := by decide +kernel
theorem d_Law_law_232 : decode c_Law_law 232 = .ok (.iload 5, 2) := by decide +kernel
theorem d_Law_law_234 : decode c_Law_law 234 = .ok (.ifCond .ne 15, 3) := by decide +kernel
theorem d_Law_law_237 : decode c_Law_law 237 = .ok (.aload_n 3, 1) := by decide +kernel
theorem d_Law_law_238 : decode c_Law_law 238 = .ok (.iconst 0, 1) := by decide +kernel
theorem d_Law_law_239 : decode c_Law_law 239 = .ok (.laload, 1) := by decide +kernel
theorem d_Law_law_240 : decode c_Law_law 240 = .ok (.iload 6, 2) := by decide +kernel
theorem d_Law_law_242 : decode c_Law_law 242 = .ok (.i2l, 1) := by decide +kernel
theorem d_Law_law_243 : decode c_Law_law 243 = .ok (.lcmp, 1) := by decide +kernel
theorem d_Law_law_244 : decode c_Law_law 244 = .ok (.ifCond .eq 5, 3) := by decide +kernel
theorem d_Law_law_247 : decode c_Law_law 247 = .ok (.iconst 0, 1) := by decide +kernel
theorem d_Law_law_248 : decode c_Law_law 248 = .ok (.ireturn, 1) := by decide +kernel
theorem d_Law_law_249 : decode c_Law_law 249 = .ok (.goto 617, 3) := by decide +kernel
theorem d_Law_law_252 : decode c_Law_law 252 = .ok (.aload_n 1, 1) := by decide +kernel
theorem d_Law_law_253 : decode c_Law_law 253 = .ok (.aload_n 0, 1) := by decide +kernel
theorem d_Law_law_254 : decode c_Law_law 254 = .ok (.iload 4, 2) := by decide +kernel
theorem d_Law_law_256 : decode c_Law_law 256 = .ok (.iconst 1, 1) := by decide +kernel
theorem d_Law_law_257 : decode c_Law_law 257 = .ok (.iadd, 1) := by decide +kernel
theorem d_Law_law_258 : decode c_Law_law 258 = .ok (.iaload, 1) := by decide +kernel
theorem d_Law_law_259 : decode c_Law_law 259 = .ok (.invokestatic 66, 3) := by decide +kernel
theorem d_Law_law_262 : decode c_Law_law 262 = .ok (.istore 5, 2) := by decide +kernel
theorem d_Law_law_264 : decode c_Law_law 264 = .ok (.aload_n 2, 1) := by decide +kernel
theorem d_Law_law_265 : decode c_Law_law 265 = .ok (.aload_n 0, 1) := by decide +kernel
theorem d_Law_law_266 : decode c_Law_law 266 = .ok (.iload 4, 2) := by decide +kernel
theorem d_Law_law_268 : decode c_Law_law 268 = .ok (.iconst 1, 1) := by decide +kernel
theorem d_Law_law_269 : decode c_Law_law 269 = .ok (.iadd, 1) := by decide +kernel
theorem d_Law_law_270 : decode c_Law_law 270 = .ok (.iaload, 1) := by decide +kernel
theorem d_Law_law_271 : decode c_Law_law 271 = .ok (.invokevirtual 69, 3) := by decide +kernel
theorem d_Law_law_274 : decode c_Law_law 274 = .ok (.aload_n 2, 1) := by decide +kernel
theorem d_Law_law_275 : decode c_Law_law 275 = .ok (.invokevirtual 58, 3) := by decide +kernel
theorem d_Law_law_278 : decode c_Law_law 278 = .ok (.iload 5, 2) := by decide +kernel
theorem d_Law_law_280 : decode c_Law_law 280 = .ok (.if_icmp .eq 5, 3) := by decide +kernel
theorem d_Law_law_283 : decode c_Law_law 283 = .ok (.iconst 0, 1) := by decide +kernel
theorem d_Law_law_284 : decode c_Law_law 284 = .ok (.ireturn, 1) := by decide +kernel
theorem d_Law_law_285 : decode c_Law_law 285 = .ok (.goto 581, 3) := by decide +kernel
theorem d_Law_law_288 : decode c_Law_law 288 = .ok (.aload_n 1, 1) := by decide +kernel
theorem d_Law_law_289 : decode c_Law_law 289 = .ok (.aload_n 0, 1) := by decide +kernel
theorem d_Law_law_290 : decode c_Law_law 290 = .ok (.iload 4, 2) := by decide +kernel
theorem d_Law_law_292 : decode c_Law_law 292 = .ok (.iconst 1, 1) := by decide +kernel
theorem d_Law_law_293 : decode c_Law_law 293 = .ok (.iadd, 1) := by decide +kernel
theorem d_Law_law_294 : decode c_Law_law 294 = .ok (.iaload, 1) := by decide +kernel
theorem d_Law_law_295 : decode c_Law_law 295 = .ok (.aload_n 0, 1) := by decide +kernel
theorem d_Law_law_296 : decode c_Law_law 296 = .ok (.iload 4, 2) := by decide +kernel
theorem d_Law_law_298 : decode c_Law_law 298 = .ok (.iconst 2, 1) := by decide +kernel
theorem d_Law_law_299 : decode c_Law_law 299 = .ok (.iadd, 1) := by decide +kernel
theorem d_Law_law_300 : decode c_Law_law 300 = .ok (.iaload, 1) := by decide +kernel
theorem d_Law_law_301 : decode c_Law_law 301 = .ok (.i2l, 1) := by decide +kernel
theorem d_Law_law_302 : decode c_Law_law 302 = .ok (.bipush 32, 2) := by decide +kernel
theorem d_Law_law_304 : decode c_Law_law 304 = .ok (.lshl, 1) := by decide +kernel
theorem d_Law_law_305 : decode c_Law_law 305 = .ok (.aload_n 0, 1) := by decide +kernel
theorem d_Law_law_306 : decode c_Law_law 306 = .ok (.iload 4, 2) := by decide +kernel
theorem d_Law_law_308 : decode c_Law_law 308 = .ok (.iconst 3, 1) := by decide +kernel
theorem d_Law_law_309 : decode c_Law_law 309 = .ok (.iadd, 1) := by decide +kernel
theorem d_Law_law_310 : decode c_Law_law 310 = .ok (.iaload, 1) := by decide +kernel
theorem d_Law_law_311 : decode c_Law_law 311 = .ok (.i2l, 1) := by decide +kernel
theorem d_Law_law_312 : decode c_Law_law 312 = .ok (.ldc2_w 70, 3) := by decide +kernel
theorem d_Law_law_315 : decode c_Law_law 315 = .ok (.land, 1) := by decide +kernel
theorem d_Law_law_316 : decode c_Law_law 316 = .ok (.lor, 1) := by decide +kernel
theorem d_Law_law_317 : decode c_Law_law 317 = .ok (.aload_n 3, 1) := by decide +kernel
theorem d_Law_law_318 : decode c_Law_law 318 = .ok (.invokestatic 72, 3) := by decide +kernel
theorem d_Law_law_321 : decode c_Law_law 321 = .ok (.istore 5, 2) := by decide +kernel
theorem d_Law_law_323 : decode c_Law_law 323 = .ok (.aload_n 2, 1) := by decide +kernel
theorem d_Law_law_324 : decode c_Law_law 324 = .ok (.aload_n 0, 1) := by decide +kernel
theorem d_Law_law_325 : decode c_Law_law 325 = .ok (.iload 4, 2) := by decide +kernel
theorem d_Law_law_327 : decode c_Law_law 327 = .ok (.iconst 1, 1) := by decide +kernel
theorem d_Law_law_328 : decode c_Law_law 328 = .ok (.iadd, 1) := by decide +kernel
theorem d_Law_law_329 : decode c_Law_law 329 = .ok (.iaload, 1) := by decide +kernel
theorem d_Law_law_330 : decode c_Law_law 330 = .ok (.aload_n 0, 1) := by decide +kernel
theorem d_Law_law_331 : decode c_Law_law 331 = .ok (.iload 4, 2) := by decide +kernel
theorem d_Law_law_333 : decode c_Law_law 333 = .ok (.iconst 2, 1) := by decide +kernel
theorem d_Law_law_334 : decode c_Law_law 334 = .ok (.iadd, 1) := by decide +kernel
theorem d_Law_law_335 : decode c_Law_law 335 = .ok (.iaload, 1) := by decide +kernel
theorem d_Law_law_336 : decode c_Law_law 336 = .ok (.i2l, 1) := by decide +kernel
theorem d_Law_law_337 : decode c_Law_law 337 = .ok (.bipush 32, 2) := by decide +kernel
theorem d_Law_law_339 : decode c_Law_law 339 = .ok (.lshl, 1) := by decide +kernel
theorem d_Law_law_340 : decode c_Law_law 340 = .ok (.aload_n 0, 1) := by decide +kernel
theorem d_Law_law_341 : decode c_Law_law 341 = .ok (.iload 4, 2) := by decide +kernel
theorem d_Law_law_343 : decode c_Law_law 343 = .ok (.iconst 3, 1) := by decide +kernel
theorem d_Law_law_344 : decode c_Law_law 344 = .ok (.iadd, 1) := by decide +kernel
theorem d_Law_law_345 : decode c_Law_law 345 = .ok (.iaload, 1) := by decide +kernel
theorem d_Law_law_346 : decode c_Law_law 346 = .ok (.i2l, 1) := by decide +kernel
theorem d_Law_law_347 : decode c_Law_law 347 = .ok (.ldc2_w 70, 3) := by decide +kernel
theorem d_Law_law_350 : decode c_Law_law 350 = .ok (.land, 1) := by decide +kernel
theorem d_Law_law_351 : decode c_Law_law 351 = .ok (.lor, 1) := by decide +kernel
theorem d_Law_law_352 : decode c_Law_law 352 = .ok (.invokevirtual 75, 3) := by decide +kernel
theorem d_Law_law_355 : decode c_Law_law 355 = .ok (.lstore 6, 2) := by decide +kernel
theorem d_Law_law_357 : decode c_Law_law 357 = .ok (.aload_n 2, 1) := by decide +kernel
theorem d_Law_law_358 : decode c_Law_law 358 = .ok (.invokevirtual 58, 3) := by decide +kernel
theorem d_Law_law_361 : decode c_Law_law 361 = .ok (.iload 5, 2) := by decide +kernel
theorem d_Law_law_363 : decode c_Law_law 363 = .ok (.if_icmp .eq 5, 3) := by decide +kernel
theorem d_Law_law_366 : decode c_Law_law 366 = .ok (.iconst 0, 1) := by decide +kernel
theorem d_Law_law_367 : decode c_Law_law 367 = .ok (.ireturn, 1) := by decide +kernel
theorem d_Law_law_368 : decode c_Law_law 368 = .ok (.iload 5, 2) := by decide +kernel
theorem d_Law_law_370 : decode c_Law_law 370 = .ok (.ifCond .ne 14, 3) := by decide +kernel
theorem d_Law_law_373 : decode c_Law_law 373 = .ok (.aload_n 3, 1) := by decide +kernel
theorem d_Law_law_374 : decode c_Law_law 374 = .ok (.iconst 0, 1) := by decide +kernel
theorem d_Law_law_375 : decode c_Law_law 375 = .ok (.laload, 1) := by decide +kernel
theorem d_Law_law_376 : decode c_Law_law 376 = .ok (.lload 6, 2) := by decide +kernel
theorem d_Law_law_378 : decode c_Law_law 378 = .ok (.lcmp, 1) := by decide +kernel
theorem d_Law_law_379 : decode c_Law_law 379 = .ok (.ifCond .eq 5, 3) := by decide +kernel
theorem d_Law_law_382 : decode c_Law_law 382 = .ok (.iconst 0, 1) := by decide +kernel
theorem d_Law_law_383 : decode c_Law_law 383 = .ok (.ireturn, 1) := by decide +kernel
theorem d_Law_law_384 : decode c_Law_law 384 = .ok (.goto 482, 3) := by decide +kernel
theorem d_Law_law_387 : decode c_Law_law 387 = .ok (.aload_n 1, 1) := by decide +kernel
theorem d_Law_law_388 : decode c_Law_law 388 = .ok (.aload_n 0, 1) := by decide +kernel
theorem d_Law_law_389 : decode c_Law_law 389 = .ok (.iload 4, 2) := by decide +kernel
theorem d_Law_law_391 : decode c_Law_law 391 = .ok (.iconst 1, 1) := by decide +kernel
theorem d_Law_law_392 : decode c_Law_law 392 = .ok (.iadd, 1) := by decide +kernel
theorem d_Law_law_393 : decode c_Law_law 393 = .ok (.iaload, 1) := by decide +kernel
theorem d_Law_law_394 : decode c_Law_law 394 = .ok (.aload_n 0, 1) := by decide +kernel
theorem d_Law_law_395 : decode c_Law_law 395 = .ok (.iload 4, 2) := by decide +kernel
theorem d_Law_law_397 : decode c_Law_law 397 = .ok (.iconst 2, 1) := by decide +kernel
theorem d_Law_law_398 : decode c_Law_law 398 = .ok (.iadd, 1) := by decide +kernel
theorem d_Law_law_399 : decode c_Law_law 399 = .ok (.iaload, 1) := by decide +kernel
theorem d_Law_law_400 : decode c_Law_law 400 = .ok (.i2l, 1) := by decide +kernel
theorem d_Law_law_401 : decode c_Law_law 401 = .ok (.bipush 32, 2) := by decide +kernel
theorem d_Law_law_403 : decode c_Law_law 403 = .ok (.lshl, 1) := by decide +kernel
theorem d_Law_law_404 : decode c_Law_law 404 = .ok (.aload_n 0, 1) := by decide +kernel
theorem d_Law_law_405 : decode c_Law_law 405 = .ok (.iload 4, 2) := by decide +kernel
theorem d_Law_law_407 : decode c_Law_law 407 = .ok (.iconst 3, 1) := by decide +kernel
theorem d_Law_law_408 : decode c_Law_law 408 = .ok (.iadd, 1) := by decide +kernel
theorem d_Law_law_409 : decode c_Law_law 409 = .ok (.iaload, 1) := by decide +kernel
theorem d_Law_law_410 : decode c_Law_law 410 = .ok (.i2l, 1) := by decide +kernel
theorem d_Law_law_411 : decode c_Law_law 411 = .ok (.ldc2_w 70, 3) := by decide +kernel
theorem d_Law_law_414 : decode c_Law_law 414 = .ok (.land, 1) := by decide +kernel
theorem d_Law_law_415 : decode c_Law_law 415 = .ok (.lor, 1) := by decide +kernel
theorem d_Law_law_416 : decode c_Law_law 416 = .ok (.aload_n 3, 1) := by decide +kernel
theorem d_Law_law_417 : decode c_Law_law 417 = .ok (.invokestatic 76, 3) := by decide +kernel
theorem d_Law_law_420 : decode c_Law_law 420 = .ok (.istore 5, 2) := by decide +kernel
theorem d_Law_law_422 : decode c_Law_law 422 = .ok (.aload_n 2, 1) := by decide +kernel
theorem d_Law_law_423 : decode c_Law_law 423 = .ok (.aload_n 0, 1) := by decide +kernel
theorem d_Law_law_424 : decode c_Law_law 424 = .ok (.iload 4, 2) := by decide +kernel
theorem d_Law_law_426 : decode c_Law_law 426 = .ok (.iconst 1, 1) := by decide +kernel
theorem d_Law_law_427 : decode c_Law_law 427 = .ok (.iadd, 1) := by decide +kernel
theorem d_Law_law_428 : decode c_Law_law 428 = .ok (.iaload, 1) := by decide +kernel
theorem d_Law_law_429 : decode c_Law_law 429 = .ok (.aload_n 0, 1) := by decide +kernel
theorem d_Law_law_430 : decode c_Law_law 430 = .ok (.iload 4, 2) := by decide +kernel
theorem d_Law_law_432 : decode c_Law_law 432 = .ok (.iconst 2, 1) := by decide +kernel
theorem d_Law_law_433 : decode c_Law_law 433 = .ok (.iadd, 1) := by decide +kernel
theorem d_Law_law_434 : decode c_Law_law 434 = .ok (.iaload, 1) := by decide +kernel
theorem d_Law_law_435 : decode c_Law_law 435 = .ok (.i2l, 1) := by decide +kernel
theorem d_Law_law_436 : decode c_Law_law 436 = .ok (.bipush 32, 2) := by decide +kernel
theorem d_Law_law_438 : decode c_Law_law 438 = .ok (.lshl, 1) := by decide +kernel
theorem d_Law_law_439 : decode c_Law_law 439 = .ok (.aload_n 0, 1) := by decide +kernel
theorem d_Law_law_440 : decode c_Law_law 440 = .ok (.iload 4, 2) := by decide +kernel
theorem d_Law_law_442 : decode c_Law_law 442 = .ok (.iconst 3, 1) := by decide +kernel
theorem d_Law_law_443 : decode c_Law_law 443 = .ok (.iadd, 1) := by decide +kernel
theorem d_Law_law_444 : decode c_Law_law 444 = .ok (.iaload, 1) := by decide +kernel
theorem d_Law_law_445 : decode c_Law_law 445 = .ok (.i2l, 1) := by decide +kernel
theorem d_Law_law_446 : decode c_Law_law 446 = .ok (.ldc2_w 70, 3) := by decide +kernel
theorem d_Law_law_449 : decode c_Law_law 449 = .ok (.land, 1) := by decide +kernel
theorem d_Law_law_450 : decode c_Law_law 450 = .ok (.lor, 1) := by decide +kernel
theorem d_Law_law_451 : decode c_Law_law 451 = .ok (.invokevirtual 78, 3) := by decide +kernel
theorem d_Law_law_454 : decode c_Law_law 454 = .ok (.istore 6, 2) := by decide +kernel
theorem d_Law_law_456 : decode c_Law_law 456 = .ok (.aload_n 2, 1) := by decide +kernel
theorem d_Law_law_457 : decode c_Law_law 457 = .ok (.invokevirtual 58, 3) := by decide +kernel
theorem d_Law_law_460 : decode c_Law_law 460 = .ok (.iload 5, 2) := by decide +kernel
theorem d_Law_law_462 : decode c_Law_law 462 = .ok (.if_icmp .eq 5, 3) := by decide +kernel
theorem d_Law_law_465 : decode c_Law_law 465 = .ok (.iconst 0, 1) := by decide +kernel
theorem d_Law_law_466 : decode c_Law_law 466 = .ok (.ireturn, 1) := by decide +kernel
theorem d_Law_law_467 : decode c_Law_law 467 = .ok (.iload 5, 2) := by decide +kernel
theorem d_Law_law_469 : decode c_Law_law 469 = .ok (.ifCond .ne 15, 3) := by decide +kernel
theorem d_Law_law_472 : decode c_Law_law 472 = .ok (.aload_n 3, 1) := by decide +kernel
theorem d_Law_law_473 : decode c_Law_law 473 = .ok (.iconst 0, 1) := by decide +kernel
theorem d_Law_law_474 : decode c_Law_law 474 = .ok (.laload, 1) := by decide +kernel
theorem d_Law_law_475 : decode c_Law_law 475 = .ok (.iload 6, 2) := by decide +kernel
theorem d_Law_law_477 : decode c_Law_law 477 = .ok (.i2l, 1) := by decide +kernel
theorem d_Law_law_478 : decode c_Law_law 478 = .ok (.lcmp, 1) := by decide +kernel
theorem d_Law_law_479 : decode c_Law_law 479 = .ok (.ifCond .eq 5, 3) := by decide +kernel
theorem d_Law_law_482 : decode c_Law_law 482 = .ok (.iconst 0, 1) := by decide +kernel
theorem d_Law_law_483 : decode c_Law_law 483 = .ok (.ireturn, 1) := by decide +kernel
theorem d_Law_law_484 : decode c_Law_law 484 = .ok (.goto 382, 3) := by decide +kernel
theorem d_Law_law_487 : decode c_Law_law 487 = .ok (.aload_n 1, 1) := by decide +kernel
theorem d_Law_law_488 : decode c_Law_law 488 = .ok (.aload_n 0, 1) := by decide +kernel
theorem d_Law_law_489 : decode c_Law_law 489 = .ok (.iload 4, 2) := by decide +kernel
theorem d_Law_law_491 : decode c_Law_law 491 = .ok (.iconst 1, 1) := by decide +kernel
theorem d_Law_law_492 : decode c_Law_law 492 = .ok (.iadd, 1) := by decide +kernel
theorem d_Law_law_493 : decode c_Law_law 493 = .ok (.iaload, 1) := by decide +kernel
theorem d_Law_law_494 : decode c_Law_law 494 = .ok (.aload_n 0, 1) := by decide +kernel
theorem d_Law_law_495 : decode c_Law_law 495 = .ok (.iload 4, 2) := by decide +kernel
theorem d_Law_law_497 : decode c_Law_law 497 = .ok (.iconst 2, 1) := by decide +kernel
theorem d_Law_law_498 : decode c_Law_law 498 = .ok (.iadd, 1) := by decide +kernel
theorem d_Law_law_499 : decode c_Law_law 499 = .ok (.iaload, 1) := by decide +kernel
theorem d_Law_law_500 : decode c_Law_law 500 = .ok (.i2l, 1) := by decide +kernel
theorem d_Law_law_501 : decode c_Law_law 501 = .ok (.bipush 32, 2) := by decide +kernel
theorem d_Law_law_503 : decode c_Law_law 503 = .ok (.lshl, 1) := by decide +kernel
theorem d_Law_law_504 : decode c_Law_law 504 = .ok (.aload_n 0, 1) := by decide +kernel
theorem d_Law_law_505 : decode c_Law_law 505 = .ok (.iload 4, 2) := by decide +kernel
theorem d_Law_law_507 : decode c_Law_law 507 = .ok (.iconst 3, 1) := by decide +kernel
theorem d_Law_law_508 : decode c_Law_law 508 = .ok (.iadd, 1) := by decide +kernel
theorem d_Law_law_509 : decode c_Law_law 509 = .ok (.iaload, 1) := by decide +kernel
theorem d_Law_law_510 : decode c_Law_law 510 = .ok (.i2l, 1) := by decide +kernel
theorem d_Law_law_511 : decode c_Law_law 511 = .ok (.ldc2_w 70, 3) := by decide +kernel
theorem d_Law_law_514 : decode c_Law_law 514 = .ok (.land, 1) := by decide +kernel
theorem d_Law_law_515 : decode c_Law_law 515 = .ok (.lor, 1) := by decide +kernel
theorem d_Law_law_516 : decode c_Law_law 516 = .ok (.aload_n 0, 1) := by decide +kernel
theorem d_Law_law_517 : decode c_Law_law 517 = .ok (.iload 4, 2) := by decide +kernel
theorem d_Law_law_519 : decode c_Law_law 519 = .ok (.iconst 4, 1) := by decide +kernel
theorem d_Law_law_520 : decode c_Law_law 520 = .ok (.iadd, 1) := by decide +kernel
theorem d_Law_law_521 : decode c_Law_law 521 = .ok (.iaload, 1) := by decide +kernel
theorem d_Law_law_522 : decode c_Law_law 522 = .ok (.ifCond .eq 7, 3) := by decide +kernel
theorem d_Law_law_525 : decode c_Law_law 525 = .ok (.iconst 1, 1) := by decide +kernel
theorem d_Law_law_526 : decode c_Law_law 526 = .ok (.goto 4, 3) := by decide +kernel
theorem d_Law_law_529 : decode c_Law_law 529 = .ok (.iconst 0, 1) := by decide +kernel
theorem d_Law_law_530 : decode c_Law_law 530 = .ok (.aload_n 3, 1) := by decide +kernel
theorem d_Law_law_531 : decode c_Law_law 531 = .ok (.invokestatic 79, 3) := by decide +kernel
theorem d_Law_law_534 : decode c_Law_law 534 = .ok (.istore 5, 2) := by decide +kernel
theorem d_Law_law_536 : decode c_Law_law 536 = .ok (.aload_n 2, 1) := by decide +kernel
theorem d_Law_law_537 : decode c_Law_law 537 = .ok (.aload_n 0, 1) := by decide +kernel
theorem d_Law_law_538 : decode c_Law_law 538 = .ok (.iload 4, 2) := by decide +kernel
theorem d_Law_law_540 : decode c_Law_law 540 = .ok (.iconst 1, 1) := by decide +kernel
theorem d_Law_law_541 : decode c_Law_law 541 = .ok (.iadd, 1) := by decide +kernel
theorem d_Law_law_542 : decode c_Law_law 542 = .ok (.iaload, 1) := by decide +kernel
theorem d_Law_law_543 : decode c_Law_law 543 = .ok (.aload_n 0, 1) := by decide +kernel
theorem d_Law_law_544 : decode c_Law_law 544 = .ok (.iload 4, 2) := by decide +kernel
theorem d_Law_law_546 : decode c_Law_law 546 = .ok (.iconst 2, 1) := by decide +kernel
theorem d_Law_law_547 : decode c_Law_law 547 = .ok (.iadd, 1) := by decide +kernel
theorem d_Law_law_548 : decode c_Law_law 548 = .ok (.iaload, 1) := by decide +kernel
theorem d_Law_law_549 : decode c_Law_law 549 = .ok (.i2l, 1) := by decide +kernel
theorem d_Law_law_550 : decode c_Law_law 550 = .ok (.bipush 32, 2) := by decide +kernel
theorem d_Law_law_552 : decode c_Law_law 552 = .ok (.lshl, 1) := by decide +kernel
theorem d_Law_law_553 : decode c_Law_law 553 = .ok (.aload_n 0, 1) := by decide +kernel
theorem d_Law_law_554 : decode c_Law_law 554 = .ok (.iload 4, 2) := by decide +kernel
theorem d_Law_law_556 : decode c_Law_law 556 = .ok (.iconst 3, 1) := by decide +kernel
theorem d_Law_law_557 : decode c_Law_law 557 = .ok (.iadd, 1) := by decide +kernel
theorem d_Law_law_558 : decode c_Law_law 558 = .ok (.iaload, 1) := by decide +kernel
theorem d_Law_law_559 : decode c_Law_law 559 = .ok (.i2l, 1) := by decide +kernel
theorem d_Law_law_560 : decode c_Law_law 560 = .ok (.ldc2_w 70, 3) := by decide +kernel
theorem d_Law_law_563 : decode c_Law_law 563 = .ok (.land, 1) := by decide +kernel
theorem d_Law_law_564 : decode c_Law_law 564 = .ok (.lor, 1) := by decide +kernel
theorem d_Law_law_565 : decode c_Law_law 565 = .ok (.aload_n 0, 1) := by decide +kernel
theorem d_Law_law_566 : decode c_Law_law 566 = .ok (.iload 4, 2) := by decide +kernel
theorem d_Law_law_568 : decode c_Law_law 568 = .ok (.iconst 4, 1) := by decide +kernel
theorem d_Law_law_569 : decode c_Law_law 569 = .ok (.iadd, 1) := by decide +kernel
theorem d_Law_law_570 : decode c_Law_law 570 = .ok (.iaload, 1) := by decide +kernel
theorem d_Law_law_571 : decode c_Law_law 571 = .ok (.ifCond .eq 7, 3) := by decide +kernel
theorem d_Law_law_574 : decode c_Law_law 574 = .ok (.iconst 1, 1) := by decide +kernel
theorem d_Law_law_575 : decode c_Law_law 575 = .ok (.goto 4, 3) := by decide +kernel
theorem d_Law_law_578 : decode c_Law_law 578 = .ok (.iconst 0, 1) := by decide +kernel
theorem d_Law_law_579 : decode c_Law_law 579 = .ok (.invokevirtual 82, 3) := by decide +kernel
theorem d_Law_law_582 : decode c_Law_law 582 = .ok (.lstore 6, 2) := by decide +kernel
theorem d_Law_law_584 : decode c_Law_law 584 = .ok (.aload_n 2, 1) := by decide +kernel
theorem d_Law_law_585 : decode c_Law_law 585 = .ok (.invokevirtual 58, 3) := by decide +kernel
theorem d_Law_law_588 : decode c_Law_law 588 = .ok (.iload 5, 2) := by decide +kernel
theorem d_Law_law_590 : decode c_Law_law 590 = .ok (.if_icmp .eq 5, 3) := by decide +kernel
theorem d_Law_law_593 : decode c_Law_law 593 = .ok (.iconst 0, 1) := by decide +kernel
theorem d_Law_law_594 : decode c_Law_law 594 = .ok (.ireturn, 1) := by decide +kernel
theorem d_Law_law_595 : decode c_Law_law 595 = .ok (.iload 5, 2) := by decide +kernel
theorem d_Law_law_597 : decode c_Law_law 597 = .ok (.ifCond .ne 14, 3) := by decide +kernel
theorem d_Law_law_600 : decode c_Law_law 600 = .ok (.aload_n 3, 1) := by decide +kernel
theorem d_Law_law_601 : decode c_Law_law 601 = .ok (.iconst 0, 1) := by decide +kernel
theorem d_Law_law_602 : decode c_Law_law 602 = .ok (.laload, 1) := by decide +kernel
theorem d_Law_law_603 : decode c_Law_law 603 = .ok (.lload 6, 2) := by decide +kernel
theorem d_Law_law_605 : decode c_Law_law 605 = .ok (.lcmp, 1) := by decide +kernel
theorem d_Law_law_606 : decode c_Law_law 606 = .ok (.ifCond .eq 5, 3) := by decide +kernel
theorem d_Law_law_609 : decode c_Law_law 609 = .ok (.iconst 0, 1) := by decide +kernel
theorem d_Law_law_610 : decode c_Law_law 610 = .ok (.ireturn, 1) := by decide +kernel
theorem d_Law_law_611 : decode c_Law_law 611 = .ok (.goto 255, 3) := by decide +kernel
theorem d_Law_law_614 : decode c_Law_law 614 = .ok (.aload_n 1, 1) := by decide +kernel
theorem d_Law_law_615 : decode c_Law_law 615 = .ok (.aload_n 0, 1) := by decide +kernel
theorem d_Law_law_616 : decode c_Law_law 616 = .ok (.iload 4, 2) := by decide +kernel
theorem d_Law_law_618 : decode c_Law_law 618 = .ok (.iconst 1, 1) := by decide +kernel
theorem d_Law_law_619 : decode c_Law_law 619 = .ok (.iadd, 1) := by decide +kernel
theorem d_Law_law_620 : decode c_Law_law 620 = .ok (.iaload, 1) := by decide +kernel
theorem d_Law_law_621 : decode c_Law_law 621 = .ok (.aload_n 0, 1) := by decide +kernel
theorem d_Law_law_622 : decode c_Law_law 622 = .ok (.iload 4, 2) := by decide +kernel
theorem d_Law_law_624 : decode c_Law_law 624 = .ok (.iconst 2, 1) := by decide +kernel
theorem d_Law_law_625 : decode c_Law_law 625 = .ok (.iadd, 1) := by decide +kernel
theorem d_Law_law_626 : decode c_Law_law 626 = .ok (.iaload, 1) := by decide +kernel
theorem d_Law_law_627 : decode c_Law_law 627 = .ok (.i2l, 1) := by decide +kernel
theorem d_Law_law_628 : decode c_Law_law 628 = .ok (.bipush 32, 2) := by decide +kernel
theorem d_Law_law_630 : decode c_Law_law 630 = .ok (.lshl, 1) := by decide +kernel
theorem d_Law_law_631 : decode c_Law_law 631 = .ok (.aload_n 0, 1) := by decide +kernel
theorem d_Law_law_632 : decode c_Law_law 632 = .ok (.iload 4, 2) := by decide +kernel
theorem d_Law_law_634 : decode c_Law_law 634 = .ok (.iconst 3, 1) := by decide +kernel
theorem d_Law_law_635 : decode c_Law_law 635 = .ok (.iadd, 1) := by decide +kernel
theorem d_Law_law_636 : decode c_Law_law 636 = .ok (.iaload, 1) := by decide +kernel
theorem d_Law_law_637 : decode c_Law_law 637 = .ok (.i2l, 1) := by decide +kernel
theorem d_Law_law_638 : decode c_Law_law 638 = .ok (.ldc2_w 70, 3) := by decide +kernel
theorem d_Law_law_641 : decode c_Law_law 641 = .ok (.land, 1) := by decide +kernel
theorem d_Law_law_642 : decode c_Law_law 642 = .ok (.lor, 1) := by decide +kernel
theorem d_Law_law_643 : decode c_Law_law 643 = .ok (.aload_n 0, 1) := by decide +kernel
theorem d_Law_law_644 : decode c_Law_law 644 = .ok (.iload 4, 2) := by decide +kernel
theorem d_Law_law_646 : decode c_Law_law 646 = .ok (.iconst 4, 1) := by decide +kernel
theorem d_Law_law_647 : decode c_Law_law 647 = .ok (.iadd, 1) := by decide +kernel
theorem d_Law_law_648 : decode c_Law_law 648 = .ok (.iaload, 1) := by decide +kernel
theorem d_Law_law_649 : decode c_Law_law 649 = .ok (.ifCond .eq 7, 3) := by decide +kernel
theorem d_Law_law_652 : decode c_Law_law 652 = .ok (.iconst 1, 1) := by decide +kernel
theorem d_Law_law_653 : decode c_Law_law 653 = .ok (.goto 4, 3) := by decide +kernel
theorem d_Law_law_656 : decode c_Law_law 656 = .ok (.iconst 0, 1) := by decide +kernel
theorem d_Law_law_657 : decode c_Law_law 657 = .ok (.aload_n 3, 1) := by decide +kernel
theorem d_Law_law_658 : decode c_Law_law 658 = .ok (.invokestatic 83, 3) := by decide +kernel
theorem d_Law_law_661 : decode c_Law_law 661 = .ok (.istore 5, 2) := by decide +kernel
theorem d_Law_law_663 : decode c_Law_law 663 = .ok (.aload_n 2, 1) := by decide +kernel
theorem d_Law_law_664 : decode c_Law_law 664 = .ok (.aload_n 0, 1) := by decide +kernel
theorem d_Law_law_665 : decode c_Law_law 665 = .ok (.iload 4, 2) := by decide +kernel
theorem d_Law_law_667 : decode c_Law_law 667 = .ok (.iconst 1, 1) := by decide +kernel
theorem d_Law_law_668 : decode c_Law_law 668 = .ok (.iadd, 1) := by decide +kernel
theorem d_Law_law_669 : decode c_Law_law 669 = .ok (.iaload, 1) := by decide +kernel
theorem d_Law_law_670 : decode c_Law_law 670 = .ok (.aload_n 0, 1) := by decide +kernel
theorem d_Law_law_671 : decode c_Law_law 671 = .ok (.iload 4, 2) := by decide +kernel
theorem d_Law_law_673 : decode c_Law_law 673 = .ok (.iconst 2, 1) := by decide +kernel
theorem d_Law_law_674 : decode c_Law_law 674 = .ok (.iadd, 1) := by decide +kernel
theorem d_Law_law_675 : decode c_Law_law 675 = .ok (.iaload, 1) := by decide +kernel
theorem d_Law_law_676 : decode c_Law_law 676 = .ok (.i2l, 1) := by decide +kernel
theorem d_Law_law_677 : decode c_Law_law 677 = .ok (.bipush 32, 2) := by decide +kernel
theorem d_Law_law_679 : decode c_Law_law 679 = .ok (.lshl, 1) := by decide +kernel
theorem d_Law_law_680 : decode c_Law_law 680 = .ok (.aload_n 0, 1) := by decide +kernel
theorem d_Law_law_681 : decode c_Law_law 681 = .ok (.iload 4, 2) := by decide +kernel
theorem d_Law_law_683 : decode c_Law_law 683 = .ok (.iconst 3, 1) := by decide +kernel
theorem d_Law_law_684 : decode c_Law_law 684 = .ok (.iadd, 1) := by decide +kernel
theorem d_Law_law_685 : decode c_Law_law 685 = .ok (.iaload, 1) := by decide +kernel
theorem d_Law_law_686 : decode c_Law_law 686 = .ok (.i2l, 1) := by decide +kernel
theorem d_Law_law_687 : decode c_Law_law 687 = .ok (.ldc2_w 70, 3) := by decide +kernel
theorem d_Law_law_690 : decode c_Law_law 690 = .ok (.land, 1) := by decide +kernel
theorem d_Law_law_691 : decode c_Law_law 691 = .ok (.lor, 1) := by decide +kernel
theorem d_Law_law_692 : decode c_Law_law 692 = .ok (.aload_n 0, 1) := by decide +kernel
theorem d_Law_law_693 : decode c_Law_law 693 = .ok (.iload 4, 2) := by decide +kernel
theorem d_Law_law_695 : decode c_Law_law 695 = .ok (.iconst 4, 1) := by decide +kernel
theorem d_Law_law_696 : decode c_Law_law 696 = .ok (.iadd, 1) := by decide +kernel
theorem d_Law_law_697 : decode c_Law_law 697 = .ok (.iaload, 1) := by decide +kernel
theorem d_Law_law_698 : decode c_Law_law 698 = .ok (.ifCond .eq 7, 3) := by decide +kernel
theorem d_Law_law_701 : decode c_Law_law 701 = .ok (.iconst 1, 1) := by decide +kernel
theorem d_Law_law_702 : decode c_Law_law 702 = .ok (.goto 4, 3) := by decide +kernel
theorem d_Law_law_705 : decode c_Law_law 705 = .ok (.iconst 0, 1) := by decide +kernel
theorem d_Law_law_706 : decode c_Law_law 706 = .ok (.invokevirtual 85, 3) := by decide +kernel
theorem d_Law_law_709 : decode c_Law_law 709 = .ok (.lstore 6, 2) := by decide +kernel
theorem d_Law_law_711 : decode c_Law_law 711 = .ok (.aload_n 2, 1) := by decide +kernel
theorem d_Law_law_712 : decode c_Law_law 712 = .ok (.invokevirtual 58, 3) := by decide +kernel
theorem d_Law_law_715 : decode c_Law_law 715 = .ok (.iload 5, 2) := by decide +kernel
theorem d_Law_law_717 : decode c_Law_law 717 = .ok (.if_icmp .eq 5, 3) := by decide +kernel
theorem d_Law_law_720 : decode c_Law_law 720 = .ok (.iconst 0, 1) := by decide +kernel
theorem d_Law_law_721 : decode c_Law_law 721 = .ok (.ireturn, 1) := by decide +kernel
theorem d_Law_law_722 : decode c_Law_law 722 = .ok (.iload 5, 2) := by decide +kernel
theorem d_Law_law_724 : decode c_Law_law 724 = .ok (.ifCond .ne 14, 3) := by decide +kernel
theorem d_Law_law_727 : decode c_Law_law 727 = .ok (.aload_n 3, 1) := by decide +kernel
theorem d_Law_law_728 : decode c_Law_law 728 = .ok (.iconst 0, 1) := by decide +kernel
theorem d_Law_law_729 : decode c_Law_law 729 = .ok (.laload, 1) := by decide +kernel
theorem d_Law_law_730 : decode c_Law_law 730 = .ok (.lload 6, 2) := by decide +kernel
theorem d_Law_law_732 : decode c_Law_law 732 = .ok (.lcmp, 1) := by decide +kernel
theorem d_Law_law_733 : decode c_Law_law 733 = .ok (.ifCond .eq 5, 3) := by decide +kernel
theorem d_Law_law_736 : decode c_Law_law 736 = .ok (.iconst 0, 1) := by decide +kernel
theorem d_Law_law_737 : decode c_Law_law 737 = .ok (.ireturn, 1) := by decide +kernel
theorem d_Law_law_738 : decode c_Law_law 738 = .ok (.goto 128, 3) := by decide +kernel
theorem d_Law_law_741 : decode c_Law_law 741 = .ok (.aload_n 1, 1) := by decide +kernel
theorem d_Law_law_742 : decode c_Law_law 742 = .ok (.aload_n 0, 1) := by decide +kernel
theorem d_Law_law_743 : decode c_Law_law 743 = .ok (.iload 4, 2) := by decide +kernel
theorem d_Law_law_745 : decode c_Law_law 745 = .ok (.iconst 1, 1) := by decide +kernel
theorem d_Law_law_746 : decode c_Law_law 746 = .ok (.iadd, 1) := by decide +kernel
theorem d_Law_law_747 : decode c_Law_law 747 = .ok (.iaload, 1) := by decide +kernel
theorem d_Law_law_748 : decode c_Law_law 748 = .ok (.aload_n 0, 1) := by decide +kernel
theorem d_Law_law_749 : decode c_Law_law 749 = .ok (.iload 4, 2) := by decide +kernel
theorem d_Law_law_751 : decode c_Law_law 751 = .ok (.iconst 2, 1) := by decide +kernel
theorem d_Law_law_752 : decode c_Law_law 752 = .ok (.iadd, 1) := by decide +kernel
theorem d_Law_law_753 : decode c_Law_law 753 = .ok (.iaload, 1) := by decide +kernel
theorem d_Law_law_754 : decode c_Law_law 754 = .ok (.i2l, 1) := by decide +kernel
theorem d_Law_law_755 : decode c_Law_law 755 = .ok (.bipush 32, 2) := by decide +kernel
theorem d_Law_law_757 : decode c_Law_law 757 = .ok (.lshl, 1) := by decide +kernel
theorem d_Law_law_758 : decode c_Law_law 758 = .ok (.aload_n 0, 1) := by decide +kernel
theorem d_Law_law_759 : decode c_Law_law 759 = .ok (.iload 4, 2) := by decide +kernel
theorem d_Law_law_761 : decode c_Law_law 761 = .ok (.iconst 3, 1) := by decide +kernel
theorem d_Law_law_762 : decode c_Law_law 762 = .ok (.iadd, 1) := by decide +kernel
theorem d_Law_law_763 : decode c_Law_law 763 = .ok (.iaload, 1) := by decide +kernel
theorem d_Law_law_764 : decode c_Law_law 764 = .ok (.i2l, 1) := by decide +kernel
theorem d_Law_law_765 : decode c_Law_law 765 = .ok (.ldc2_w 70, 3) := by decide +kernel
theorem d_Law_law_768 : decode c_Law_law 768 = .ok (.land, 1) := by decide +kernel
theorem d_Law_law_769 : decode c_Law_law 769 = .ok (.lor, 1) := by decide +kernel
theorem d_Law_law_770 : decode c_Law_law 770 = .ok (.aload_n 0, 1) := by decide +kernel
theorem d_Law_law_771 : decode c_Law_law 771 = .ok (.iload 4, 2) := by decide +kernel
theorem d_Law_law_773 : decode c_Law_law 773 = .ok (.iconst 4, 1) := by decide +kernel
theorem d_Law_law_774 : decode c_Law_law 774 = .ok (.iadd, 1) := by decide +kernel
theorem d_Law_law_775 : decode c_Law_law 775 = .ok (.iaload, 1) := by decide +kernel
theorem d_Law_law_776 : decode c_Law_law 776 = .ok (.aload_n 3, 1) := by decide +kernel
theorem d_Law_law_777 : decode c_Law_law 777 = .ok (.invokestatic 86, 3) := by decide +kernel
theorem d_Law_law_780 : decode c_Law_law 780 = .ok (.istore 5, 2) := by decide +kernel
theorem d_Law_law_782 : decode c_Law_law 782 = .ok (.aload_n 2, 1) := by decide +kernel
theorem d_Law_law_783 : decode c_Law_law 783 = .ok (.aload_n 0, 1) := by decide +kernel
theorem d_Law_law_784 : decode c_Law_law 784 = .ok (.iload 4, 2) := by decide +kernel
theorem d_Law_law_786 : decode c_Law_law 786 = .ok (.iconst 1, 1) := by decide +kernel
theorem d_Law_law_787 : decode c_Law_law 787 = .ok (.iadd, 1) := by decide +kernel
theorem d_Law_law_788 : decode c_Law_law 788 = .ok (.iaload, 1) := by decide +kernel
theorem d_Law_law_789 : decode c_Law_law 789 = .ok (.aload_n 0, 1) := by decide +kernel
theorem d_Law_law_790 : decode c_Law_law 790 = .ok (.iload 4, 2) := by decide +kernel
theorem d_Law_law_792 : decode c_Law_law 792 = .ok (.iconst 2, 1) := by decide +kernel
theorem d_Law_law_793 : decode c_Law_law 793 = .ok (.iadd, 1) := by decide +kernel
theorem d_Law_law_794 : decode c_Law_law 794 = .ok (.iaload, 1) := by decide +kernel
theorem d_Law_law_795 : decode c_Law_law 795 = .ok (.i2l, 1) := by decide +kernel
theorem d_Law_law_796 : decode c_Law_law 796 = .ok (.bipush 32, 2) := by decide +kernel
theorem d_Law_law_798 : decode c_Law_law 798 = .ok (.lshl, 1) := by decide +kernel
theorem d_Law_law_799 : decode c_Law_law 799 = .ok (.aload_n 0, 1) := by decide +kernel
theorem d_Law_law_800 : decode c_Law_law 800 = .ok (.iload 4, 2) := by decide +kernel
theorem d_Law_law_802 : decode c_Law_law 802 = .ok (.iconst 3, 1) := by decide +kernel
theorem d_Law_law_803 : decode c_Law_law 803 = .ok (.iadd, 1) := by decide +kernel
theorem d_Law_law_804 : decode c_Law_law 804 = .ok (.iaload, 1) := by decide +kernel
theorem d_Law_law_805 : decode c_Law_law 805 = .ok (.i2l, 1) := by decide +kernel
theorem d_Law_law_806 : decode c_Law_law 806 = .ok (.ldc2_w 70, 3) := by decide +kernel
theorem d_Law_law_809 : decode c_Law_law 809 = .ok (.land, 1) := by decide +kernel
theorem d_Law_law_810 : decode c_Law_law 810 = .ok (.lor, 1) := by decide +kernel
theorem d_Law_law_811 : decode c_Law_law 811 = .ok (.aload_n 0, 1) := by decide +kernel
theorem d_Law_law_812 : decode c_Law_law 812 = .ok (.iload 4, 2) := by decide +kernel
theorem d_Law_law_814 : decode c_Law_law 814 = .ok (.iconst 4, 1) := by decide +kernel
theorem d_Law_law_815 : decode c_Law_law 815 = .ok (.iadd, 1) := by decide +kernel
theorem d_Law_law_816 : decode c_Law_law 816 = .ok (.iaload, 1) := by decide +kernel
theorem d_Law_law_817 : decode c_Law_law 817 = .ok (.invokevirtual 89, 3) := by decide +kernel
theorem d_Law_law_820 : decode c_Law_law 820 = .ok (.istore 6, 2) := by decide +kernel
theorem d_Law_law_822 : decode c_Law_law 822 = .ok (.aload_n 2, 1) := by decide +kernel
theorem d_Law_law_823 : decode c_Law_law 823 = .ok (.invokevirtual 58, 3) := by decide +kernel
theorem d_Law_law_826 : decode c_Law_law 826 = .ok (.iload 5, 2) := by decide +kernel
theorem d_Law_law_828 : decode c_Law_law 828 = .ok (.if_icmp .eq 5, 3) := by decide +kernel
theorem d_Law_law_831 : decode c_Law_law 831 = .ok (.iconst 0, 1) := by decide +kernel
theorem d_Law_law_832 : decode c_Law_law 832 = .ok (.ireturn, 1) := by decide +kernel
theorem d_Law_law_833 : decode c_Law_law 833 = .ok (.iload 5, 2) := by decide +kernel
theorem d_Law_law_835 : decode c_Law_law 835 = .ok (.ifCond .ne 15, 3) := by decide +kernel
theorem d_Law_law_838 : decode c_Law_law 838 = .ok (.aload_n 3, 1) := by decide +kernel
theorem d_Law_law_839 : decode c_Law_law 839 = .ok (.iconst 0, 1) := by decide +kernel
theorem d_Law_law_840 : decode c_Law_law 840 = .ok (.laload, 1) := by decide +kernel
theorem d_Law_law_841 : decode c_Law_law 841 = .ok (.iload 6, 2) := by decide +kernel
theorem d_Law_law_843 : decode c_Law_law 843 = .ok (.i2l, 1) := by decide +kernel
theorem d_Law_law_844 : decode c_Law_law 844 = .ok (.lcmp, 1) := by decide +kernel
theorem d_Law_law_845 : decode c_Law_law 845 = .ok (.ifCond .eq 5, 3) := by decide +kernel
theorem d_Law_law_848 : decode c_Law_law 848 = .ok (.iconst 0, 1) := by decide +kernel
theorem d_Law_law_849 : decode c_Law_law 849 = .ok (.ireturn, 1) := by decide +kernel
theorem d_Law_law_850 : decode c_Law_law 850 = .ok (.goto 16, 3) := by decide +kernel
theorem d_Law_law_853 : decode c_Law_law 853 = .ok (.aload_n 1, 1) := by decide +kernel
theorem d_Law_law_854 : decode c_Law_law 854 = .ok (.invokevirtual 90, 3) := by decide +kernel
theorem d_Law_law_857 : decode c_Law_law 857 = .ok (.aload_n 2, 1) := by decide +kernel
theorem d_Law_law_858 : decode c_Law_law 858 = .ok (.invokevirtual 93, 3) := by decide +kernel
theorem d_Law_law_861 : decode c_Law_law 861 = .ok (.if_icmp .eq 5, 3) := by decide +kernel
theorem d_Law_law_864 : decode c_Law_law 864 = .ok (.iconst 0, 1) := by decide +kernel
theorem d_Law_law_865 : decode c_Law_law 865 = .ok (.ireturn, 1) := by decide +kernel
theorem d_Law_law_866 : decode c_Law_law 866 = .ok (.iinc 4 6, 3) := by decide +kernel
theorem d_Law_law_869 : decode c_Law_law 869 = .ok (.goto (-846), 3) := by decide +kernel
theorem d_Law_law_872 : decode c_Law_law 872 = .ok (.iconst 1, 1) := by decide +kernel
theorem d_Law_law_873 : decode c_Law_law 873 = .ok (.ireturn, 1) := by decide +kernel
