/-! Decode rows. By program (wip/whole/names.py). -/
theorem d_Ref_init_0 : decode c_Ref_init 0 = .ok (.aload_n 0, 1) := by decide +kernel
theorem d_Ref_init_1 : decode c_Ref_init 1 = .ok (.invokespecial 1, 3) := by decide +kernel
theorem d_Ref_init_4 : decode c_Ref_init 4 = .ok (.aload_n 0, 1) := by decide +kernel
theorem d_Ref_init_5 : decode c_Ref_init 5 = .ok (.sipush 400, 3) := by decide +kernel
theorem d_Ref_init_8 : decode c_Ref_init 8 = .ok (.newarray .byte, 2) := by decide +kernel
theorem d_Ref_init_10 : decode c_Ref_init 10 = .ok (.putfield 7, 3) := by decide +kernel
theorem d_Ref_init_13 : decode c_Ref_init 13 = .ok (.aload_n 0, 1) := by decide +kernel
theorem d_Ref_init_14 : decode c_Ref_init 14 = .ok (.iconst (-1), 1) := by decide +kernel
theorem d_Ref_init_15 : decode c_Ref_init 15 = .ok (.putfield 13, 3) := by decide +kernel
theorem d_Ref_init_18 : decode c_Ref_init 18 = .ok (.aload_n 0, 1) := by decide +kernel
theorem d_Ref_init_19 : decode c_Ref_init 19 = .ok (.bipush 8, 2) := by decide +kernel
theorem d_Ref_init_21 : decode c_Ref_init 21 = .ok (.newarray .int, 2) := by decide +kernel
theorem d_Ref_init_23 : decode c_Ref_init 23 = .ok (.putfield 17, 3) := by decide +kernel
theorem d_Ref_init_26 : decode c_Ref_init 26 = .ok (.aload_n 0, 1) := by decide +kernel
theorem d_Ref_init_27 : decode c_Ref_init 27 = .ok (.bipush 8, 2) := by decide +kernel
theorem d_Ref_init_29 : decode c_Ref_init 29 = .ok (.newarray .int, 2) := by decide +kernel
theorem d_Ref_init_31 : decode c_Ref_init 31 = .ok (.putfield 21, 3) := by decide +kernel
theorem d_Ref_init_34 : decode c_Ref_init 34 = .ok (.aload_n 0, 1) := by decide +kernel
theorem d_Ref_init_35 : decode c_Ref_init 35 = .ok (.bipush 8, 2) := by decide +kernel
theorem d_Ref_init_37 : decode c_Ref_init 37 = .ok (.sipush 660, 3) := by decide +kernel
theorem d_Ref_init_40 : decode c_Ref_init 40 = .ok (.multianewarray 24 2, 4) := by decide +kernel
theorem d_Ref_init_44 : decode c_Ref_init 44 = .ok (.putfield 26, 3) := by decide +kernel
theorem d_Ref_init_47 : decode c_Ref_init 47 = .ok (.aload_n 0, 1) := by decide +kernel
theorem d_Ref_init_48 : decode c_Ref_init 48 = .ok (.bipush 8, 2) := by decide +kernel
theorem d_Ref_init_50 : decode c_Ref_init 50 = .ok (.sipush 660, 3) := by decide +kernel
theorem d_Ref_init_53 : decode c_Ref_init 53 = .ok (.multianewarray 29 2, 4) := by decide +kernel
theorem d_Ref_init_57 : decode c_Ref_init 57 = .ok (.putfield 31, 3) := by decide +kernel
theorem d_Ref_init_60 : decode c_Ref_init 60 = .ok (.aload_n 0, 1) := by decide +kernel
theorem d_Ref_init_61 : decode c_Ref_init 61 = .ok (.bipush 8, 2) := by decide +kernel
theorem d_Ref_init_63 : decode c_Ref_init 63 = .ok (.newarray .int, 2) := by decide +kernel
theorem d_Ref_init_65 : decode c_Ref_init 65 = .ok (.putfield 34, 3) := by decide +kernel
theorem d_Ref_init_68 : decode c_Ref_init 68 = .ok (.aload_n 0, 1) := by decide +kernel
theorem d_Ref_init_69 : decode c_Ref_init 69 = .ok (.bipush 8, 2) := by decide +kernel
theorem d_Ref_init_71 : decode c_Ref_init 71 = .ok (.newarray .int, 2) := by decide +kernel
theorem d_Ref_init_73 : decode c_Ref_init 73 = .ok (.putfield 37, 3) := by decide +kernel
theorem d_Ref_init_76 : decode c_Ref_init 76 = .ok (.aload_n 0, 1) := by decide +kernel
theorem d_Ref_init_77 : decode c_Ref_init 77 = .ok (.iconst 2, 1) := by decide +kernel
theorem d_Ref_init_78 : decode c_Ref_init 78 = .ok (.newarray .long, 2) := by decide +kernel
theorem d_Ref_init_80 : decode c_Ref_init 80 = .ok (.putfield 40, 3) := by decide +kernel
theorem d_Ref_init_83 : decode c_Ref_init 83 = .ok (.return_, 1) := by decide +kernel
theorem d_Ref_thrown_0 : decode c_Ref_thrown 0 = .ok (.aload_n 0, 1) := by decide +kernel
theorem d_Ref_thrown_1 : decode c_Ref_thrown 1 = .ok (.getfield 44, 3) := by decide +kernel
theorem d_Ref_thrown_4 : decode c_Ref_thrown 4 = .ok (.ireturn, 1) := by decide +kernel
theorem d_Ref_zone_0 : decode c_Ref_zone 0 = .ok (.aload_n 0, 1) := by decide +kernel
theorem d_Ref_zone_1 : decode c_Ref_zone 1 = .ok (.iconst 0, 1) := by decide +kernel
theorem d_Ref_zone_2 : decode c_Ref_zone 2 = .ok (.putfield 44, 3) := by decide +kernel
theorem d_Ref_zone_5 : decode c_Ref_zone 5 = .ok (.iload_n 1, 1) := by decide +kernel
theorem d_Ref_zone_6 : decode c_Ref_zone 6 = .ok (.ifCond .lt 9, 3) := by decide +kernel
theorem d_Ref_zone_9 : decode c_Ref_zone 9 = .ok (.iload_n 1, 1) := by decide +kernel
theorem d_Ref_zone_10 : decode c_Ref_zone 10 = .ok (.bipush 7, 2) := by decide +kernel
theorem d_Ref_zone_12 : decode c_Ref_zone 12 = .ok (.if_icmp .le 11, 3) := by decide +kernel
theorem d_Ref_zone_15 : decode c_Ref_zone 15 = .ok (.aload_n 0, 1) := by decide +kernel
theorem d_Ref_zone_16 : decode c_Ref_zone 16 = .ok (.iconst 1, 1) := by decide +kernel
theorem d_Ref_zone_17 : decode c_Ref_zone 17 = .ok (.putfield 44, 3) := by decide +kernel
theorem d_Ref_zone_20 : decode c_Ref_zone 20 = .ok (.goto 27, 3) := by decide +kernel
theorem d_Ref_zone_23 : decode c_Ref_zone 23 = .ok (.aload_n 0, 1) := by decide +kernel
theorem d_Ref_zone_24 : decode c_Ref_zone 24 = .ok (.iconst (-1), 1) := by decide +kernel
theorem d_Ref_zone_25 : decode c_Ref_zone 25 = .ok (.putfield 13, 3) := by decide +kernel
theorem d_Ref_zone_28 : decode c_Ref_zone 28 = .ok (.aload_n 0, 1) := by decide +kernel
theorem d_Ref_zone_29 : decode c_Ref_zone 29 = .ok (.iload_n 1, 1) := by decide +kernel
theorem d_Ref_zone_30 : decode c_Ref_zone 30 = .ok (.invokevirtual 109, 3) := by decide +kernel
theorem d_Ref_zone_33 : decode c_Ref_zone 33 = .ok (.goto 9, 3) := by decide +kernel
theorem d_Ref_zone_36 : decode c_Ref_zone 36 = .ok (.astore_n 2, 1) := by decide +kernel
theorem d_Ref_zone_37 : decode c_Ref_zone 37 = .ok (.aload_n 0, 1) := by decide +kernel
theorem d_Ref_zone_38 : decode c_Ref_zone 38 = .ok (.iconst 2, 1) := by decide +kernel
theorem d_Ref_zone_39 : decode c_Ref_zone 39 = .ok (.putfield 44, 3) := by decide +kernel
theorem d_Ref_zone_42 : decode c_Ref_zone 42 = .ok (.aload_n 0, 1) := by decide +kernel
theorem d_Ref_zone_43 : decode c_Ref_zone 43 = .ok (.iconst 0, 1) := by decide +kernel
theorem d_Ref_zone_44 : decode c_Ref_zone 44 = .ok (.putfield 81, 3) := by decide +kernel
theorem d_Ref_zone_47 : decode c_Ref_zone 47 = .ok (.return_, 1) := by decide +kernel
theorem d_Ref_readZone_0 : decode c_Ref_readZone 0 = .ok (.aload_n 0, 1) := by decide +kernel
theorem d_Ref_readZone_1 : decode c_Ref_readZone 1 = .ok (.iconst 0, 1) := by decide +kernel
theorem d_Ref_readZone_2 : decode c_Ref_readZone 2 = .ok (.putfield 78, 3) := by decide +kernel
theorem d_Ref_readZone_5 : decode c_Ref_readZone 5 = .ok (.aload_n 0, 1) := by decide +kernel
theorem d_Ref_readZone_6 : decode c_Ref_readZone 6 = .ok (.invokevirtual 84, 3) := by decide +kernel
theorem d_Ref_readZone_9 : decode c_Ref_readZone 9 = .ok (.bipush 43, 2) := by decide +kernel
theorem d_Ref_readZone_11 : decode c_Ref_readZone 11 = .ok (.if_icmp .eq 17, 3) := by decide +kernel
theorem d_Ref_readZone_14 : decode c_Ref_readZone 14 = .ok (.aload_n 0, 1) := by decide +kernel
theorem d_Ref_readZone_15 : decode c_Ref_readZone 15 = .ok (.invokevirtual 84, 3) := by decide +kernel
theorem d_Ref_readZone_18 : decode c_Ref_readZone 18 = .ok (.bipush 45, 2) := by decide +kernel
theorem d_Ref_readZone_20 : decode c_Ref_readZone 20 = .ok (.if_icmp .eq 8, 3) := by decide +kernel
theorem d_Ref_readZone_23 : decode c_Ref_readZone 23 = .ok (.aload_n 0, 1) := by decide +kernel
theorem d_Ref_readZone_24 : decode c_Ref_readZone 24 = .ok (.iconst 0, 1) := by decide +kernel
theorem d_Ref_readZone_25 : decode c_Ref_readZone 25 = .ok (.invokevirtual 88, 3) := by decide +kernel
theorem d_Ref_readZone_28 : decode c_Ref_readZone 28 = .ok (.aload_n 0, 1) := by decide +kernel
theorem d_Ref_readZone_29 : decode c_Ref_readZone 29 = .ok (.invokevirtual 84, 3) := by decide +kernel
theorem d_Ref_readZone_32 : decode c_Ref_readZone 32 = .ok (.bipush 45, 2) := by decide +kernel
theorem d_Ref_readZone_34 : decode c_Ref_readZone 34 = .ok (.if_icmp .ne 7, 3) := by decide +kernel
theorem d_Ref_readZone_37 : decode c_Ref_readZone 37 = .ok (.iconst 1, 1) := by decide +kernel
theorem d_Ref_readZone_38 : decode c_Ref_readZone 38 = .ok (.goto 4, 3) := by decide +kernel
theorem d_Ref_readZone_41 : decode c_Ref_readZone 41 = .ok (.iconst 0, 1) := by decide +kernel
theorem d_Ref_readZone_42 : decode c_Ref_readZone 42 = .ok (.istore_n 2, 1) := by decide +kernel
theorem d_Ref_readZone_43 : decode c_Ref_readZone 43 = .ok (.aload_n 0, 1) := by decide +kernel
theorem d_Ref_readZone_44 : decode c_Ref_readZone 44 = .ok (.dup, 1) := by decide +kernel
theorem d_Ref_readZone_45 : decode c_Ref_readZone 45 = .ok (.getfield 78, 3) := by decide +kernel
theorem d_Ref_readZone_48 : decode c_Ref_readZone 48 = .ok (.iconst 1, 1) := by decide +kernel
theorem d_Ref_readZone_49 : decode c_Ref_readZone 49 = .ok (.iadd, 1) := by decide +kernel
theorem d_Ref_readZone_50 : decode c_Ref_readZone 50 = .ok (.putfield 78, 3) := by decide +kernel
theorem d_Ref_readZone_53 : decode c_Ref_readZone 53 = .ok (.aload_n 0, 1) := by decide +kernel
theorem d_Ref_readZone_54 : decode c_Ref_readZone 54 = .ok (.iconst 0, 1) := by decide +kernel
theorem d_Ref_readZone_55 : decode c_Ref_readZone 55 = .ok (.sipush 840, 3) := by decide +kernel
theorem d_Ref_readZone_58 : decode c_Ref_readZone 58 = .ok (.invokevirtual 102, 3) := by decide +kernel
theorem d_Ref_readZone_61 : decode c_Ref_readZone 61 = .ok (.istore_n 3, 1) := by decide +kernel
theorem d_Ref_readZone_62 : decode c_Ref_readZone 62 = .ok (.iload_n 2, 1) := by decide +kernel
theorem d_Ref_readZone_63 : decode c_Ref_readZone 63 = .ok (.ifCond .eq 6, 3) := by decide +kernel
theorem d_Ref_readZone_66 : decode c_Ref_readZone 66 = .ok (.iload_n 3, 1) := by decide +kernel
theorem d_Ref_readZone_67 : decode c_Ref_readZone 67 = .ok (.ineg, 1) := by decide +kernel
theorem d_Ref_readZone_68 : decode c_Ref_readZone 68 = .ok (.istore_n 3, 1) := by decide +kernel
theorem d_Ref_readZone_69 : decode c_Ref_readZone 69 = .ok (.iconst 0, 1) := by decide +kernel
theorem d_Ref_readZone_70 : decode c_Ref_readZone 70 = .ok (.istore 4, 2) := by decide +kernel
theorem d_Ref_readZone_72 : decode c_Ref_readZone 72 = .ok (.aload_n 0, 1) := by decide +kernel
theorem d_Ref_readZone_73 : decode c_Ref_readZone 73 = .ok (.getfield 78, 3) := by decide +kernel
theorem d_Ref_readZone_76 : decode c_Ref_readZone 76 = .ok (.aload_n 0, 1) := by decide +kernel
theorem d_Ref_readZone_77 : decode c_Ref_readZone 77 = .ok (.getfield 81, 3) := by decide +kernel
theorem d_Ref_readZone_80 : decode c_Ref_readZone 80 = .ok (.if_icmp .ge 53, 3) := by decide +kernel
theorem d_Ref_readZone_83 : decode c_Ref_readZone 83 = .ok (.aload_n 0, 1) := by decide +kernel
theorem d_Ref_readZone_84 : decode c_Ref_readZone 84 = .ok (.invokevirtual 112, 3) := by decide +kernel
theorem d_Ref_readZone_87 : decode c_Ref_readZone 87 = .ok (.aload_n 0, 1) := by decide +kernel
theorem d_Ref_readZone_88 : decode c_Ref_readZone 88 = .ok (.iconst 1, 1) := by decide +kernel
theorem d_Ref_readZone_89 : decode c_Ref_readZone 89 = .ok (.bipush 120, 2) := by decide +kernel
theorem d_Ref_readZone_91 : decode c_Ref_readZone 91 = .ok (.invokevirtual 102, 3) := by decide +kernel
theorem d_Ref_readZone_94 : decode c_Ref_readZone 94 = .ok (.istore 4, 2) := by decide +kernel
theorem d_Ref_readZone_96 : decode c_Ref_readZone 96 = .ok (.aload_n 0, 1) := by decide +kernel
theorem d_Ref_readZone_97 : decode c_Ref_readZone 97 = .ok (.invokevirtual 112, 3) := by decide +kernel
theorem d_Ref_readZone_100 : decode c_Ref_readZone 100 = .ok (.aload_n 0, 1) := by decide +kernel
theorem d_Ref_readZone_101 : decode c_Ref_readZone 101 = .ok (.iconst 0, 1) := by decide +kernel
theorem d_Ref_readZone_102 : decode c_Ref_readZone 102 = .ok (.invokevirtual 115, 3) := by decide +kernel
theorem d_Ref_readZone_105 : decode c_Ref_readZone 105 = .ok (.aload_n 0, 1) := by decide +kernel
theorem d_Ref_readZone_106 : decode c_Ref_readZone 106 = .ok (.invokevirtual 112, 3) := by decide +kernel
theorem d_Ref_readZone_109 : decode c_Ref_readZone 109 = .ok (.aload_n 0, 1) := by decide +kernel
theorem d_Ref_readZone_110 : decode c_Ref_readZone 110 = .ok (.iconst 4, 1) := by decide +kernel
theorem d_Ref_readZone_111 : decode c_Ref_readZone 111 = .ok (.invokevirtual 115, 3) := by decide +kernel
theorem d_Ref_readZone_114 : decode c_Ref_readZone 114 = .ok (.aload_n 0, 1) := by decide +kernel
theorem d_Ref_readZone_115 : decode c_Ref_readZone 115 = .ok (.getfield 78, 3) := by decide +kernel
theorem d_Ref_readZone_118 : decode c_Ref_readZone 118 = .ok (.aload_n 0, 1) := by decide +kernel
theorem d_Ref_readZone_119 : decode c_Ref_readZone 119 = .ok (.getfield 81, 3) := by decide +kernel
theorem d_Ref_readZone_122 : decode c_Ref_readZone 122 = .ok (.if_icmp .ge 11, 3) := by decide +kernel
theorem d_Ref_readZone_125 : decode c_Ref_readZone 125 = .ok (.aload_n 0, 1) := by decide +kernel
theorem d_Ref_readZone_126 : decode c_Ref_readZone 126 = .ok (.aload_n 0, 1) := by decide +kernel
theorem d_Ref_readZone_127 : decode c_Ref_readZone 127 = .ok (.getfield 78, 3) := by decide +kernel
theorem d_Ref_readZone_130 : decode c_Ref_readZone 130 = .ok (.invokevirtual 88, 3) := by decide +kernel
theorem d_Ref_readZone_133 : decode c_Ref_readZone 133 = .ok (.aload_n 0, 1) := by decide +kernel
theorem d_Ref_readZone_134 : decode c_Ref_readZone 134 = .ok (.getfield 17, 3) := by decide +kernel
theorem d_Ref_readZone_137 : decode c_Ref_readZone 137 = .ok (.iload_n 1, 1) := by decide +kernel
theorem d_Ref_readZone_138 : decode c_Ref_readZone 138 = .ok (.iload_n 3, 1) := by decide +kernel
theorem d_Ref_readZone_139 : decode c_Ref_readZone 139 = .ok (.iastore, 1) := by decide +kernel
theorem d_Ref_readZone_140 : decode c_Ref_readZone 140 = .ok (.aload_n 0, 1) := by decide +kernel
theorem d_Ref_readZone_141 : decode c_Ref_readZone 141 = .ok (.getfield 21, 3) := by decide +kernel
theorem d_Ref_readZone_144 : decode c_Ref_readZone 144 = .ok (.iload_n 1, 1) := by decide +kernel
theorem d_Ref_readZone_145 : decode c_Ref_readZone 145 = .ok (.iload 4, 2) := by decide +kernel
theorem d_Ref_readZone_147 : decode c_Ref_readZone 147 = .ok (.iastore, 1) := by decide +kernel
theorem d_Ref_readZone_148 : decode c_Ref_readZone 148 = .ok (.aload_n 0, 1) := by decide +kernel
theorem d_Ref_readZone_149 : decode c_Ref_readZone 149 = .ok (.getfield 34, 3) := by decide +kernel
theorem d_Ref_readZone_152 : decode c_Ref_readZone 152 = .ok (.iload_n 1, 1) := by decide +kernel
theorem d_Ref_readZone_153 : decode c_Ref_readZone 153 = .ok (.iconst 0, 1) := by decide +kernel
theorem d_Ref_readZone_154 : decode c_Ref_readZone 154 = .ok (.iastore, 1) := by decide +kernel
theorem d_Ref_readZone_155 : decode c_Ref_readZone 155 = .ok (.iload 4, 2) := by decide +kernel
theorem d_Ref_readZone_157 : decode c_Ref_readZone 157 = .ok (.ifCond .ne 4, 3) := by decide +kernel
theorem d_Ref_readZone_160 : decode c_Ref_readZone 160 = .ok (.return_, 1) := by decide +kernel
theorem d_Ref_readZone_161 : decode c_Ref_readZone 161 = .ok (.sipush 1970, 3) := by decide +kernel
theorem d_Ref_readZone_164 : decode c_Ref_readZone 164 = .ok (.istore 5, 2) := by decide +kernel
theorem d_Ref_readZone_166 : decode c_Ref_readZone 166 = .ok (.iload 5, 2) := by decide +kernel
theorem d_Ref_readZone_168 : decode c_Ref_readZone 168 = .ok (.sipush 2299, 3) := by decide +kernel
theorem d_Ref_readZone_171 : decode c_Ref_readZone 171 = .ok (.if_icmp .gt 77, 3) := by decide +kernel
theorem d_Ref_readZone_174 : decode c_Ref_readZone 174 = .ok (.aload_n 0, 1) := by decide +kernel
theorem d_Ref_readZone_175 : decode c_Ref_readZone 175 = .ok (.iload_n 1, 1) := by decide +kernel
theorem d_Ref_readZone_176 : decode c_Ref_readZone 176 = .ok (.aload_n 0, 1) := by decide +kernel
theorem d_Ref_readZone_177 : decode c_Ref_readZone 177 = .ok (.iconst 0, 1) := by decide +kernel
theorem d_Ref_readZone_178 : decode c_Ref_readZone 178 = .ok (.iload 5, 2) := by decide +kernel
theorem d_Ref_readZone_180 : decode c_Ref_readZone 180 = .ok (.invokevirtual 117, 3) := by decide +kernel
theorem d_Ref_readZone_183 : decode c_Ref_readZone 183 = .ok (.i2l, 1) := by decide +kernel
theorem d_Ref_readZone_184 : decode c_Ref_readZone 184 = .ok (.ldc2_w 120, 3) := by decide +kernel
theorem d_Ref_readZone_187 : decode c_Ref_readZone 187 = .ok (.lmul, 1) := by decide +kernel
theorem d_Ref_readZone_188 : decode c_Ref_readZone 188 = .ok (.ldc2_w 122, 3) := by decide +kernel
theorem d_Ref_readZone_191 : decode c_Ref_readZone 191 = .ok (.aload_n 0, 1) := by decide +kernel
theorem d_Ref_readZone_192 : decode c_Ref_readZone 192 = .ok (.getfield 37, 3) := by decide +kernel
theorem d_Ref_readZone_195 : decode c_Ref_readZone 195 = .ok (.iconst 3, 1) := by decide +kernel
theorem d_Ref_readZone_196 : decode c_Ref_readZone 196 = .ok (.iaload, 1) := by decide +kernel
theorem d_Ref_readZone_197 : decode c_Ref_readZone 197 = .ok (.iload_n 3, 1) := by decide +kernel
theorem d_Ref_readZone_198 : decode c_Ref_readZone 198 = .ok (.isub, 1) := by decide +kernel
theorem d_Ref_readZone_199 : decode c_Ref_readZone 199 = .ok (.i2l, 1) := by decide +kernel
theorem d_Ref_readZone_200 : decode c_Ref_readZone 200 = .ok (.lmul, 1) := by decide +kernel
theorem d_Ref_readZone_201 : decode c_Ref_readZone 201 = .ok (.ladd, 1) := by decide +kernel
theorem d_Ref_readZone_202 : decode c_Ref_readZone 202 = .ok (.iconst 1, 1) := by decide +kernel
theorem d_Ref_readZone_203 : decode c_Ref_readZone 203 = .ok (.invokevirtual 124, 3) := by decide +kernel
theorem d_Ref_readZone_206 : decode c_Ref_readZone 206 = .ok (.aload_n 0, 1) := by decide +kernel
theorem d_Ref_readZone_207 : decode c_Ref_readZone 207 = .ok (.iload_n 1, 1) := by decide +kernel
theorem d_Ref_readZone_208 : decode c_Ref_readZone 208 = .ok (.aload_n 0, 1) := by decide +kernel
theorem d_Ref_readZone_209 : decode c_Ref_readZone 209 = .ok (.iconst 4, 1) := by decide +kernel
theorem d_Ref_readZone_210 : decode c_Ref_readZone 210 = .ok (.iload 5, 2) := by decide +kernel
theorem d_Ref_readZone_212 : decode c_Ref_readZone 212 = .ok (.invokevirtual 117, 3) := by decide +kernel
theorem d_Ref_readZone_215 : decode c_Ref_readZone 215 = .ok (.i2l, 1) := by decide +kernel
theorem d_Ref_readZone_216 : decode c_Ref_readZone 216 = .ok (.ldc2_w 120, 3) := by decide +kernel
theorem d_Ref_readZone_219 : decode c_Ref_readZone 219 = .ok (.lmul, 1) := by decide +kernel
theorem d_Ref_readZone_220 : decode c_Ref_readZone 220 = .ok (.ldc2_w 122, 3) := by decide +kernel
theorem d_Ref_readZone_223 : decode c_Ref_readZone 223 = .ok (.aload_n 0, 1) := by decide +kernel
theorem d_Ref_readZone_224 : decode c_Ref_readZone 224 = .ok (.getfield 37, 3) := by decide +kernel
theorem d_Ref_readZone_227 : decode c_Ref_readZone 227 = .ok (.bipush 7, 2) := by decide +kernel
theorem d_Ref_readZone_229 : decode c_Ref_readZone 229 = .ok (.iaload, 1) := by decide +kernel
theorem d_Ref_readZone_230 : decode c_Ref_readZone 230 = .ok (.iload_n 3, 1) := by decide +kernel
theorem d_Ref_readZone_231 : decode c_Ref_readZone 231 = .ok (.isub, 1) := by decide +kernel
theorem d_Ref_readZone_232 : decode c_Ref_readZone 232 = .ok (.iload 4, 2) := by decide +kernel
theorem d_Ref_readZone_234 : decode c_Ref_readZone 234 = .ok (.isub, 1) := by decide +kernel
theorem d_Ref_readZone_235 : decode c_Ref_readZone 235 = .ok (.i2l, 1) := by decide +kernel
theorem d_Ref_readZone_236 : decode c_Ref_readZone 236 = .ok (.lmul, 1) := by decide +kernel
theorem d_Ref_readZone_237 : decode c_Ref_readZone 237 = .ok (.ladd, 1) := by decide +kernel
theorem d_Ref_readZone_238 : decode c_Ref_readZone 238 = .ok (.iconst 0, 1) := by decide +kernel
theorem d_Ref_readZone_239 : decode c_Ref_readZone 239 = .ok (.invokevirtual 124, 3) := by decide +kernel
theorem d_Ref_readZone_242 : decode c_Ref_readZone 242 = .ok (.iinc 5 1, 3) := by decide +kernel
theorem d_Ref_readZone_245 : decode c_Ref_readZone 245 = .ok (.goto (-79), 3) := by decide +kernel
theorem d_Ref_readZone_248 : decode c_Ref_readZone 248 = .ok (.return_, 1) := by decide +kernel
theorem d_Ref_peek_0 : decode c_Ref_peek 0 = .ok (.aload_n 0, 1) := by decide +kernel
theorem d_Ref_peek_1 : decode c_Ref_peek 1 = .ok (.getfield 78, 3) := by decide +kernel
theorem d_Ref_peek_4 : decode c_Ref_peek 4 = .ok (.aload_n 0, 1) := by decide +kernel
theorem d_Ref_peek_5 : decode c_Ref_peek 5 = .ok (.getfield 81, 3) := by decide +kernel
theorem d_Ref_peek_8 : decode c_Ref_peek 8 = .ok (.if_icmp .ge 19, 3) := by decide +kernel
theorem d_Ref_peek_11 : decode c_Ref_peek 11 = .ok (.aload_n 0, 1) := by decide +kernel
theorem d_Ref_peek_12 : decode c_Ref_peek 12 = .ok (.getfield 7, 3) := by decide +kernel
theorem d_Ref_peek_15 : decode c_Ref_peek 15 = .ok (.aload_n 0, 1) := by decide +kernel
theorem d_Ref_peek_16 : decode c_Ref_peek 16 = .ok (.getfield 78, 3) := by decide +kernel
theorem d_Ref_peek_19 : decode c_Ref_peek 19 = .ok (.baload, 1) := by decide +kernel
theorem d_Ref_peek_20 : decode c_Ref_peek 20 = .ok (.sipush 255, 3) := by decide +kernel
theorem d_Ref_peek_23 : decode c_Ref_peek 23 = .ok (.iand, 1) := by decide +kernel
theorem d_Ref_peek_24 : decode c_Ref_peek 24 = .ok (.goto 4, 3) := by decide +kernel
theorem d_Ref_peek_27 : decode c_Ref_peek 27 = .ok (.iconst (-1), 1) := by decide +kernel
theorem d_Ref_peek_28 : decode c_Ref_peek 28 = .ok (.ireturn, 1) := by decide +kernel
theorem d_Ref_bad_0 : decode c_Ref_bad 0 = .ok (.aload_n 0, 1) := by decide +kernel
theorem d_Ref_bad_1 : decode c_Ref_bad 1 = .ok (.iload_n 1, 1) := by decide +kernel
theorem d_Ref_bad_2 : decode c_Ref_bad 2 = .ok (.putfield 13, 3) := by decide +kernel
theorem d_Ref_bad_5 : decode c_Ref_bad 5 = .ok (.new 75, 3) := by decide +kernel
theorem d_Ref_bad_8 : decode c_Ref_bad 8 = .ok (.dup, 1) := by decide +kernel
theorem d_Ref_bad_9 : decode c_Ref_bad 9 = .ok (.invokespecial 77, 3) := by decide +kernel
theorem d_Ref_bad_12 : decode c_Ref_bad 12 = .ok (.athrow, 1) := by decide +kernel
theorem d_Ref_ranged_0 : decode c_Ref_ranged 0 = .ok (.aload_n 0, 1) := by decide +kernel
theorem d_Ref_ranged_1 : decode c_Ref_ranged 1 = .ok (.getfield 78, 3) := by decide +kernel
theorem d_Ref_ranged_4 : decode c_Ref_ranged 4 = .ok (.istore_n 3, 1) := by decide +kernel
theorem d_Ref_ranged_5 : decode c_Ref_ranged 5 = .ok (.aload_n 0, 1) := by decide +kernel
theorem d_Ref_ranged_6 : decode c_Ref_ranged 6 = .ok (.invokevirtual 84, 3) := by decide +kernel
theorem d_Ref_ranged_9 : decode c_Ref_ranged 9 = .ok (.invokestatic 92, 3) := by decide +kernel
theorem d_Ref_ranged_12 : decode c_Ref_ranged 12 = .ok (.ifCond .ne 11, 3) := by decide +kernel
theorem d_Ref_ranged_15 : decode c_Ref_ranged 15 = .ok (.aload_n 0, 1) := by decide +kernel
theorem d_Ref_ranged_16 : decode c_Ref_ranged 16 = .ok (.aload_n 0, 1) := by decide +kernel
theorem d_Ref_ranged_17 : decode c_Ref_ranged 17 = .ok (.getfield 78, 3) := by decide +kernel
theorem d_Ref_ranged_20 : decode c_Ref_ranged 20 = .ok (.invokevirtual 88, 3) := by decide +kernel
theorem d_Ref_ranged_23 : decode c_Ref_ranged 23 = .ok (.iconst 0, 1) := by decide +kernel
theorem d_Ref_ranged_24 : decode c_Ref_ranged 24 = .ok (.istore 4, 2) := by decide +kernel
theorem d_Ref_ranged_26 : decode c_Ref_ranged 26 = .ok (.aload_n 0, 1) := by decide +kernel
theorem d_Ref_ranged_27 : decode c_Ref_ranged 27 = .ok (.invokevirtual 84, 3) := by decide +kernel
theorem d_Ref_ranged_30 : decode c_Ref_ranged 30 = .ok (.bipush 48, 2) := by decide +kernel
theorem d_Ref_ranged_32 : decode c_Ref_ranged 32 = .ok (.if_icmp .ne 16, 3) := by decide +kernel
theorem d_Ref_ranged_35 : decode c_Ref_ranged 35 = .ok (.aload_n 0, 1) := by decide +kernel
theorem d_Ref_ranged_36 : decode c_Ref_ranged 36 = .ok (.dup, 1) := by decide +kernel
theorem d_Ref_ranged_37 : decode c_Ref_ranged 37 = .ok (.getfield 78, 3) := by decide +kernel
theorem d_Ref_ranged_40 : decode c_Ref_ranged 40 = .ok (.iconst 1, 1) := by decide +kernel
theorem d_Ref_ranged_41 : decode c_Ref_ranged 41 = .ok (.iadd, 1) := by decide +kernel
theorem d_Ref_ranged_42 : decode c_Ref_ranged 42 = .ok (.putfield 78, 3) := by decide +kernel
theorem d_Ref_ranged_45 : decode c_Ref_ranged 45 = .ok (.goto 46, 3) := by decide +kernel
theorem d_Ref_ranged_48 : decode c_Ref_ranged 48 = .ok (.aload_n 0, 1) := by decide +kernel
theorem d_Ref_ranged_49 : decode c_Ref_ranged 49 = .ok (.invokevirtual 84, 3) := by decide +kernel
theorem d_Ref_ranged_52 : decode c_Ref_ranged 52 = .ok (.invokestatic 92, 3) := by decide +kernel
theorem d_Ref_ranged_55 : decode c_Ref_ranged 55 = .ok (.ifCond .eq 36, 3) := by decide +kernel
theorem d_Ref_ranged_58 : decode c_Ref_ranged 58 = .ok (.bipush 10, 2) := by decide +kernel
theorem d_Ref_ranged_60 : decode c_Ref_ranged 60 = .ok (.iload 4, 2) := by decide +kernel
theorem d_Ref_ranged_62 : decode c_Ref_ranged 62 = .ok (.imul, 1) := by decide +kernel
theorem d_Ref_ranged_63 : decode c_Ref_ranged 63 = .ok (.aload_n 0, 1) := by decide +kernel
theorem d_Ref_ranged_64 : decode c_Ref_ranged 64 = .ok (.invokevirtual 84, 3) := by decide +kernel
theorem d_Ref_ranged_67 : decode c_Ref_ranged 67 = .ok (.iadd, 1) := by decide +kernel
theorem d_Ref_ranged_68 : decode c_Ref_ranged 68 = .ok (.bipush 48, 2) := by decide +kernel
theorem d_Ref_ranged_70 : decode c_Ref_ranged 70 = .ok (.isub, 1) := by decide +kernel
theorem d_Ref_ranged_71 : decode c_Ref_ranged 71 = .ok (.ldc 95, 2) := by decide +kernel
theorem d_Ref_ranged_73 : decode c_Ref_ranged 73 = .ok (.invokestatic 96, 3) := by decide +kernel
theorem d_Ref_ranged_76 : decode c_Ref_ranged 76 = .ok (.istore 4, 2) := by decide +kernel
theorem d_Ref_ranged_78 : decode c_Ref_ranged 78 = .ok (.aload_n 0, 1) := by decide +kernel
theorem d_Ref_ranged_79 : decode c_Ref_ranged 79 = .ok (.dup, 1) := by decide +kernel
theorem d_Ref_ranged_80 : decode c_Ref_ranged 80 = .ok (.getfield 78, 3) := by decide +kernel
theorem d_Ref_ranged_83 : decode c_Ref_ranged 83 = .ok (.iconst 1, 1) := by decide +kernel
theorem d_Ref_ranged_84 : decode c_Ref_ranged 84 = .ok (.iadd, 1) := by decide +kernel
theorem d_Ref_ranged_85 : decode c_Ref_ranged 85 = .ok (.putfield 78, 3) := by decide +kernel
theorem d_Ref_ranged_88 : decode c_Ref_ranged 88 = .ok (.goto (-40), 3) := by decide +kernel
theorem d_Ref_ranged_91 : decode c_Ref_ranged 91 = .ok (.iload 4, 2) := by decide +kernel
theorem d_Ref_ranged_93 : decode c_Ref_ranged 93 = .ok (.iload_n 1, 1) := by decide +kernel
theorem d_Ref_ranged_94 : decode c_Ref_ranged 94 = .ok (.if_icmp .lt 9, 3) := by decide +kernel
theorem d_Ref_ranged_97 : decode c_Ref_ranged 97 = .ok (.iload 4, 2) := by decide +kernel
theorem d_Ref_ranged_99 : decode c_Ref_ranged 99 = .ok (.iload_n 2, 1) := by decide +kernel
theorem d_Ref_ranged_100 : decode c_Ref_ranged 100 = .ok (.if_icmp .le 8, 3) := by decide +kernel
theorem d_Ref_ranged_103 : decode c_Ref_ranged 103 = .ok (.aload_n 0, 1) := by decide +kernel
theorem d_Ref_ranged_104 : decode c_Ref_ranged 104 = .ok (.iload_n 3, 1) := by decide +kernel
theorem d_Ref_ranged_105 : decode c_Ref_ranged 105 = .ok (.invokevirtual 88, 3) := by decide +kernel
theorem d_Ref_ranged_108 : decode c_Ref_ranged 108 = .ok (.iload 4, 2) := by decide +kernel
theorem d_Ref_ranged_110 : decode c_Ref_ranged 110 = .ok (.ireturn, 1) := by decide +kernel
theorem d_Ref_digit_0 : decode c_Ref_digit 0 = .ok (.iload_n 0, 1) := by decide +kernel
theorem d_Ref_digit_1 : decode c_Ref_digit 1 = .ok (.bipush 48, 2) := by decide +kernel
theorem d_Ref_digit_3 : decode c_Ref_digit 3 = .ok (.if_icmp .lt 13, 3) := by decide +kernel
theorem d_Ref_digit_6 : decode c_Ref_digit 6 = .ok (.iload_n 0, 1) := by decide +kernel
theorem d_Ref_digit_7 : decode c_Ref_digit 7 = .ok (.bipush 57, 2) := by decide +kernel
theorem d_Ref_digit_9 : decode c_Ref_digit 9 = .ok (.if_icmp .gt 7, 3) := by decide +kernel
theorem d_Ref_digit_12 : decode c_Ref_digit 12 = .ok (.iconst 1, 1) := by decide +kernel
theorem d_Ref_digit_13 : decode c_Ref_digit 13 = .ok (.goto 4, 3) := by decide +kernel
theorem d_Ref_digit_16 : decode c_Ref_digit 16 = .ok (.iconst 0, 1) := by decide +kernel
theorem d_Ref_digit_17 : decode c_Ref_digit 17 = .ok (.ireturn, 1) := by decide +kernel
theorem d_Ref_blanks_0 : decode c_Ref_blanks 0 = .ok (.aload_n 0, 1) := by decide +kernel
theorem d_Ref_blanks_1 : decode c_Ref_blanks 1 = .ok (.invokevirtual 84, 3) := by decide +kernel
theorem d_Ref_blanks_4 : decode c_Ref_blanks 4 = .ok (.bipush 32, 2) := by decide +kernel
theorem d_Ref_blanks_6 : decode c_Ref_blanks 6 = .ok (.if_icmp .eq 11, 3) := by decide +kernel
theorem d_Ref_blanks_9 : decode c_Ref_blanks 9 = .ok (.aload_n 0, 1) := by decide +kernel
theorem d_Ref_blanks_10 : decode c_Ref_blanks 10 = .ok (.aload_n 0, 1) := by decide +kernel
theorem d_Ref_blanks_11 : decode c_Ref_blanks 11 = .ok (.getfield 78, 3) := by decide +kernel
theorem d_Ref_blanks_14 : decode c_Ref_blanks 14 = .ok (.invokevirtual 88, 3) := by decide +kernel
theorem d_Ref_blanks_17 : decode c_Ref_blanks 17 = .ok (.aload_n 0, 1) := by decide +kernel
theorem d_Ref_blanks_18 : decode c_Ref_blanks 18 = .ok (.invokevirtual 84, 3) := by decide +kernel
theorem d_Ref_blanks_21 : decode c_Ref_blanks 21 = .ok (.bipush 32, 2) := by decide +kernel
theorem d_Ref_blanks_23 : decode c_Ref_blanks 23 = .ok (.if_icmp .ne 16, 3) := by decide +kernel
theorem d_Ref_blanks_26 : decode c_Ref_blanks 26 = .ok (.aload_n 0, 1) := by decide +kernel
theorem d_Ref_blanks_27 : decode c_Ref_blanks 27 = .ok (.dup, 1) := by decide +kernel
theorem d_Ref_blanks_28 : decode c_Ref_blanks 28 = .ok (.getfield 78, 3) := by decide +kernel
theorem d_Ref_blanks_31 : decode c_Ref_blanks 31 = .ok (.iconst 1, 1) := by decide +kernel
theorem d_Ref_blanks_32 : decode c_Ref_blanks 32 = .ok (.iadd, 1) := by decide +kernel
theorem d_Ref_blanks_33 : decode c_Ref_blanks 33 = .ok (.putfield 78, 3) := by decide +kernel
theorem d_Ref_blanks_36 : decode c_Ref_blanks 36 = .ok (.goto (-19), 3) := by decide +kernel
theorem d_Ref_blanks_39 : decode c_Ref_blanks 39 = .ok (.return_, 1) := by decide +kernel
theorem d_Ref_rule_0 : decode c_Ref_rule 0 = .ok (.aload_n 0, 1) := by decide +kernel
theorem d_Ref_rule_1 : decode c_Ref_rule 1 = .ok (.bipush 77, 2) := by decide +kernel
theorem d_Ref_rule_3 : decode c_Ref_rule 3 = .ok (.invokevirtual 99, 3) := by decide +kernel
theorem d_Ref_rule_6 : decode c_Ref_rule 6 = .ok (.aload_n 0, 1) := by decide +kernel
theorem d_Ref_rule_7 : decode c_Ref_rule 7 = .ok (.getfield 37, 3) := by decide +kernel
theorem d_Ref_rule_10 : decode c_Ref_rule 10 = .ok (.iload_n 1, 1) := by decide +kernel
theorem d_Ref_rule_11 : decode c_Ref_rule 11 = .ok (.aload_n 0, 1) := by decide +kernel
theorem d_Ref_rule_12 : decode c_Ref_rule 12 = .ok (.iconst 1, 1) := by decide +kernel
theorem d_Ref_rule_13 : decode c_Ref_rule 13 = .ok (.bipush 12, 2) := by decide +kernel
theorem d_Ref_rule_15 : decode c_Ref_rule 15 = .ok (.invokevirtual 102, 3) := by decide +kernel
theorem d_Ref_rule_18 : decode c_Ref_rule 18 = .ok (.iastore, 1) := by decide +kernel
theorem d_Ref_rule_19 : decode c_Ref_rule 19 = .ok (.aload_n 0, 1) := by decide +kernel
theorem d_Ref_rule_20 : decode c_Ref_rule 20 = .ok (.bipush 46, 2) := by decide +kernel
theorem d_Ref_rule_22 : decode c_Ref_rule 22 = .ok (.invokevirtual 99, 3) := by decide +kernel
theorem d_Ref_rule_25 : decode c_Ref_rule 25 = .ok (.aload_n 0, 1) := by decide +kernel
theorem d_Ref_rule_26 : decode c_Ref_rule 26 = .ok (.getfield 37, 3) := by decide +kernel
theorem d_Ref_rule_29 : decode c_Ref_rule 29 = .ok (.iload_n 1, 1) := by decide +kernel
theorem d_Ref_rule_30 : decode c_Ref_rule 30 = .ok (.iconst 1, 1) := by decide +kernel
theorem d_Ref_rule_31 : decode c_Ref_rule 31 = .ok (.iadd, 1) := by decide +kernel
theorem d_Ref_rule_32 : decode c_Ref_rule 32 = .ok (.aload_n 0, 1) := by decide +kernel
theorem d_Ref_rule_33 : decode c_Ref_rule 33 = .ok (.iconst 1, 1) := by decide +kernel
theorem d_Ref_rule_34 : decode c_Ref_rule 34 = .ok (.iconst 5, 1) := by decide +kernel
theorem d_Ref_rule_35 : decode c_Ref_rule 35 = .ok (.invokevirtual 102, 3) := by decide +kernel
theorem d_Ref_rule_38 : decode c_Ref_rule 38 = .ok (.iastore, 1) := by decide +kernel
theorem d_Ref_rule_39 : decode c_Ref_rule 39 = .ok (.aload_n 0, 1) := by decide +kernel
theorem d_Ref_rule_40 : decode c_Ref_rule 40 = .ok (.bipush 46, 2) := by decide +kernel
theorem d_Ref_rule_42 : decode c_Ref_rule 42 = .ok (.invokevirtual 99, 3) := by decide +kernel
theorem d_Ref_rule_45 : decode c_Ref_rule 45 = .ok (.aload_n 0, 1) := by decide +kernel
theorem d_Ref_rule_46 : decode c_Ref_rule 46 = .ok (.getfield 37, 3) := by decide +kernel
theorem d_Ref_rule_49 : decode c_Ref_rule 49 = .ok (.iload_n 1, 1) := by decide +kernel
theorem d_Ref_rule_50 : decode c_Ref_rule 50 = .ok (.iconst 2, 1) := by decide +kernel
theorem d_Ref_rule_51 : decode c_Ref_rule 51 = .ok (.iadd, 1) := by decide +kernel
theorem d_Ref_rule_52 : decode c_Ref_rule 52 = .ok (.aload_n 0, 1) := by decide +kernel
theorem d_Ref_rule_53 : decode c_Ref_rule 53 = .ok (.iconst 0, 1) := by decide +kernel
theorem d_Ref_rule_54 : decode c_Ref_rule 54 = .ok (.bipush 6, 2) := by decide +kernel
theorem d_Ref_rule_56 : decode c_Ref_rule 56 = .ok (.invokevirtual 102, 3) := by decide +kernel
theorem d_Ref_rule_59 : decode c_Ref_rule 59 = .ok (.iastore, 1) := by decide +kernel
theorem d_Ref_rule_60 : decode c_Ref_rule 60 = .ok (.aload_n 0, 1) := by decide +kernel
theorem d_Ref_rule_61 : decode c_Ref_rule 61 = .ok (.bipush 47, 2) := by decide +kernel
theorem d_Ref_rule_63 : decode c_Ref_rule 63 = .ok (.invokevirtual 99, 3) := by decide +kernel
theorem d_Ref_rule_66 : decode c_Ref_rule 66 = .ok (.aload_n 0, 1) := by decide +kernel
theorem d_Ref_rule_67 : decode c_Ref_rule 67 = .ok (.getfield 37, 3) := by decide +kernel
theorem d_Ref_rule_70 : decode c_Ref_rule 70 = .ok (.iload_n 1, 1) := by decide +kernel
theorem d_Ref_rule_71 : decode c_Ref_rule 71 = .ok (.iconst 3, 1) := by decide +kernel
theorem d_Ref_rule_72 : decode c_Ref_rule 72 = .ok (.iadd, 1) := by decide +kernel
theorem d_Ref_rule_73 : decode c_Ref_rule 73 = .ok (.aload_n 0, 1) := by decide +kernel
theorem d_Ref_rule_74 : decode c_Ref_rule 74 = .ok (.iconst 0, 1) := by decide +kernel
theorem d_Ref_rule_75 : decode c_Ref_rule 75 = .ok (.sipush 1439, 3) := by decide +kernel
theorem d_Ref_rule_78 : decode c_Ref_rule 78 = .ok (.invokevirtual 102, 3) := by decide +kernel
theorem d_Ref_rule_81 : decode c_Ref_rule 81 = .ok (.iastore, 1) := by decide +kernel
theorem d_Ref_rule_82 : decode c_Ref_rule 82 = .ok (.return_, 1) := by decide +kernel
theorem d_Ref_expect_0 : decode c_Ref_expect 0 = .ok (.aload_n 0, 1) := by decide +kernel
theorem d_Ref_expect_1 : decode c_Ref_expect 1 = .ok (.invokevirtual 84, 3) := by decide +kernel
theorem d_Ref_expect_4 : decode c_Ref_expect 4 = .ok (.iload_n 1, 1) := by decide +kernel
theorem d_Ref_expect_5 : decode c_Ref_expect 5 = .ok (.if_icmp .eq 11, 3) := by decide +kernel
theorem d_Ref_expect_8 : decode c_Ref_expect 8 = .ok (.aload_n 0, 1) := by decide +kernel
theorem d_Ref_expect_9 : decode c_Ref_expect 9 = .ok (.aload_n 0, 1) := by decide +kernel
theorem d_Ref_expect_10 : decode c_Ref_expect 10 = .ok (.getfield 78, 3) := by decide +kernel
theorem d_Ref_expect_13 : decode c_Ref_expect 13 = .ok (.invokevirtual 88, 3) := by decide +kernel
theorem d_Ref_expect_16 : decode c_Ref_expect 16 = .ok (.aload_n 0, 1) := by decide +kernel
theorem d_Ref_expect_17 : decode c_Ref_expect 17 = .ok (.dup, 1) := by decide +kernel
theorem d_Ref_expect_18 : decode c_Ref_expect 18 = .ok (.getfield 78, 3) := by decide +kernel
theorem d_Ref_expect_21 : decode c_Ref_expect 21 = .ok (.iconst 1, 1) := by decide +kernel
theorem d_Ref_expect_22 : decode c_Ref_expect 22 = .ok (.iadd, 1) := by decide +kernel
theorem d_Ref_expect_23 : decode c_Ref_expect 23 = .ok (.putfield 78, 3) := by decide +kernel
theorem d_Ref_expect_26 : decode c_Ref_expect 26 = .ok (.return_, 1) := by decide +kernel
theorem d_Ref_ruleDay_0 : decode c_Ref_ruleDay 0 = .ok (.iload_n 2, 1) := by decide +kernel
theorem d_Ref_ruleDay_1 : decode c_Ref_ruleDay 1 = .ok (.aload_n 0, 1) := by decide +kernel
theorem d_Ref_ruleDay_2 : decode c_Ref_ruleDay 2 = .ok (.getfield 37, 3) := by decide +kernel
theorem d_Ref_ruleDay_5 : decode c_Ref_ruleDay 5 = .ok (.iload_n 1, 1) := by decide +kernel
theorem d_Ref_ruleDay_6 : decode c_Ref_ruleDay 6 = .ok (.iaload, 1) := by decide +kernel
theorem d_Ref_ruleDay_7 : decode c_Ref_ruleDay 7 = .ok (.invokestatic 63, 3) := by decide +kernel
theorem d_Ref_ruleDay_10 : decode c_Ref_ruleDay 10 = .ok (.istore_n 3, 1) := by decide +kernel
theorem d_Ref_ruleDay_11 : decode c_Ref_ruleDay 11 = .ok (.iload_n 3, 1) := by decide +kernel
theorem d_Ref_ruleDay_12 : decode c_Ref_ruleDay 12 = .ok (.aload_n 0, 1) := by decide +kernel
theorem d_Ref_ruleDay_13 : decode c_Ref_ruleDay 13 = .ok (.getfield 37, 3) := by decide +kernel
theorem d_Ref_ruleDay_16 : decode c_Ref_ruleDay 16 = .ok (.iload_n 1, 1) := by decide +kernel
theorem d_Ref_ruleDay_17 : decode c_Ref_ruleDay 17 = .ok (.iconst 2, 1) := by decide +kernel
theorem d_Ref_ruleDay_18 : decode c_Ref_ruleDay 18 = .ok (.iadd, 1) := by decide +kernel
theorem d_Ref_ruleDay_19 : decode c_Ref_ruleDay 19 = .ok (.iaload, 1) := by decide +kernel
theorem d_Ref_ruleDay_20 : decode c_Ref_ruleDay 20 = .ok (.iconst 1, 1) := by decide +kernel
theorem d_Ref_ruleDay_21 : decode c_Ref_ruleDay 21 = .ok (.iadd, 1) := by decide +kernel
theorem d_Ref_ruleDay_22 : decode c_Ref_ruleDay 22 = .ok (.iload_n 3, 1) := by decide +kernel
theorem d_Ref_ruleDay_23 : decode c_Ref_ruleDay 23 = .ok (.invokestatic 105, 3) := by decide +kernel
theorem d_Ref_ruleDay_26 : decode c_Ref_ruleDay 26 = .ok (.isub, 1) := by decide +kernel
theorem d_Ref_ruleDay_27 : decode c_Ref_ruleDay 27 = .ok (.bipush 7, 2) := by decide +kernel
theorem d_Ref_ruleDay_29 : decode c_Ref_ruleDay 29 = .ok (.invokestatic 72, 3) := by decide +kernel
theorem d_Ref_ruleDay_32 : decode c_Ref_ruleDay 32 = .ok (.iadd, 1) := by decide +kernel
theorem d_Ref_ruleDay_33 : decode c_Ref_ruleDay 33 = .ok (.bipush 7, 2) := by decide +kernel
theorem d_Ref_ruleDay_35 : decode c_Ref_ruleDay 35 = .ok (.aload_n 0, 1) := by decide +kernel
theorem d_Ref_ruleDay_36 : decode c_Ref_ruleDay 36 = .ok (.getfield 37, 3) := by decide +kernel
theorem d_Ref_ruleDay_39 : decode c_Ref_ruleDay 39 = .ok (.iload_n 1, 1) := by decide +kernel
theorem d_Ref_ruleDay_40 : decode c_Ref_ruleDay 40 = .ok (.iconst 1, 1) := by decide +kernel
theorem d_Ref_ruleDay_41 : decode c_Ref_ruleDay 41 = .ok (.iadd, 1) := by decide +kernel
theorem d_Ref_ruleDay_42 : decode c_Ref_ruleDay 42 = .ok (.iaload, 1) := by decide +kernel
theorem d_Ref_ruleDay_43 : decode c_Ref_ruleDay 43 = .ok (.iconst 1, 1) := by decide +kernel
theorem d_Ref_ruleDay_44 : decode c_Ref_ruleDay 44 = .ok (.isub, 1) := by decide +kernel
theorem d_Ref_ruleDay_45 : decode c_Ref_ruleDay 45 = .ok (.imul, 1) := by decide +kernel
theorem d_Ref_ruleDay_46 : decode c_Ref_ruleDay 46 = .ok (.iadd, 1) := by decide +kernel
theorem d_Ref_ruleDay_47 : decode c_Ref_ruleDay 47 = .ok (.istore 4, 2) := by decide +kernel
theorem d_Ref_ruleDay_49 : decode c_Ref_ruleDay 49 = .ok (.iload 4, 2) := by decide +kernel
theorem d_Ref_ruleDay_51 : decode c_Ref_ruleDay 51 = .ok (.iload_n 3, 1) := by decide +kernel
theorem d_Ref_ruleDay_52 : decode c_Ref_ruleDay 52 = .ok (.iload_n 2, 1) := by decide +kernel
theorem d_Ref_ruleDay_53 : decode c_Ref_ruleDay 53 = .ok (.aload_n 0, 1) := by decide +kernel
theorem d_Ref_ruleDay_54 : decode c_Ref_ruleDay 54 = .ok (.getfield 37, 3) := by decide +kernel
theorem d_Ref_ruleDay_57 : decode c_Ref_ruleDay 57 = .ok (.iload_n 1, 1) := by decide +kernel
theorem d_Ref_ruleDay_58 : decode c_Ref_ruleDay 58 = .ok (.iaload, 1) := by decide +kernel
theorem d_Ref_ruleDay_59 : decode c_Ref_ruleDay 59 = .ok (.invokestatic 51, 3) := by decide +kernel
theorem d_Ref_ruleDay_62 : decode c_Ref_ruleDay 62 = .ok (.iadd, 1) := by decide +kernel
theorem d_Ref_ruleDay_63 : decode c_Ref_ruleDay 63 = .ok (.if_icmp .lt 11, 3) := by decide +kernel
theorem d_Ref_ruleDay_66 : decode c_Ref_ruleDay 66 = .ok (.iload 4, 2) := by decide +kernel
theorem d_Ref_ruleDay_68 : decode c_Ref_ruleDay 68 = .ok (.bipush 7, 2) := by decide +kernel
theorem d_Ref_ruleDay_70 : decode c_Ref_ruleDay 70 = .ok (.isub, 1) := by decide +kernel
theorem d_Ref_ruleDay_71 : decode c_Ref_ruleDay 71 = .ok (.goto 5, 3) := by decide +kernel
theorem d_Ref_ruleDay_74 : decode c_Ref_ruleDay 74 = .ok (.iload 4, 2) := by decide +kernel
theorem d_Ref_ruleDay_76 : decode c_Ref_ruleDay 76 = .ok (.ireturn, 1) := by decide +kernel
theorem d_Ref_number_0 : decode c_Ref_number 0 = .ok (.iload_n 0, 1) := by decide +kernel
theorem d_Ref_number_1 : decode c_Ref_number 1 = .ok (.iconst 1, 1) := by decide +kernel
theorem d_Ref_number_2 : decode c_Ref_number 2 = .ok (.isub, 1) := by decide +kernel
theorem d_Ref_number_3 : decode c_Ref_number 3 = .ok (.istore_n 2, 1) := by decide +kernel
theorem d_Ref_number_4 : decode c_Ref_number 4 = .ok (.sipush 365, 3) := by decide +kernel
theorem d_Ref_number_7 : decode c_Ref_number 7 = .ok (.iload_n 0, 1) := by decide +kernel
theorem d_Ref_number_8 : decode c_Ref_number 8 = .ok (.sipush 1970, 3) := by decide +kernel
theorem d_Ref_number_11 : decode c_Ref_number 11 = .ok (.isub, 1) := by decide +kernel
theorem d_Ref_number_12 : decode c_Ref_number 12 = .ok (.imul, 1) := by decide +kernel
theorem d_Ref_number_13 : decode c_Ref_number 13 = .ok (.iload_n 2, 1) := by decide +kernel
theorem d_Ref_number_14 : decode c_Ref_number 14 = .ok (.iconst 4, 1) := by decide +kernel
theorem d_Ref_number_15 : decode c_Ref_number 15 = .ok (.idiv, 1) := by decide +kernel
theorem d_Ref_number_16 : decode c_Ref_number 16 = .ok (.iadd, 1) := by decide +kernel
theorem d_Ref_number_17 : decode c_Ref_number 17 = .ok (.iload_n 2, 1) := by decide +kernel
theorem d_Ref_number_18 : decode c_Ref_number 18 = .ok (.bipush 100, 2) := by decide +kernel
theorem d_Ref_number_20 : decode c_Ref_number 20 = .ok (.idiv, 1) := by decide +kernel
theorem d_Ref_number_21 : decode c_Ref_number 21 = .ok (.isub, 1) := by decide +kernel
theorem d_Ref_number_22 : decode c_Ref_number 22 = .ok (.iload_n 2, 1) := by decide +kernel
theorem d_Ref_number_23 : decode c_Ref_number 23 = .ok (.sipush 400, 3) := by decide +kernel
theorem d_Ref_number_26 : decode c_Ref_number 26 = .ok (.idiv, 1) := by decide +kernel
theorem d_Ref_number_27 : decode c_Ref_number 27 = .ok (.iadd, 1) := by decide +kernel
theorem d_Ref_number_28 : decode c_Ref_number 28 = .ok (.sipush 477, 3) := by decide +kernel
theorem d_Ref_number_31 : decode c_Ref_number 31 = .ok (.isub, 1) := by decide +kernel
theorem d_Ref_number_32 : decode c_Ref_number 32 = .ok (.istore_n 3, 1) := by decide +kernel
theorem d_Ref_number_33 : decode c_Ref_number 33 = .ok (.iconst 1, 1) := by decide +kernel
theorem d_Ref_number_34 : decode c_Ref_number 34 = .ok (.istore 4, 2) := by decide +kernel
theorem d_Ref_number_36 : decode c_Ref_number 36 = .ok (.iload 4, 2) := by decide +kernel
theorem d_Ref_number_38 : decode c_Ref_number 38 = .ok (.iload_n 1, 1) := by decide +kernel
theorem d_Ref_number_39 : decode c_Ref_number 39 = .ok (.if_icmp .ge 18, 3) := by decide +kernel
theorem d_Ref_number_42 : decode c_Ref_number 42 = .ok (.iload_n 3, 1) := by decide +kernel
theorem d_Ref_number_43 : decode c_Ref_number 43 = .ok (.iload_n 0, 1) := by decide +kernel
theorem d_Ref_number_44 : decode c_Ref_number 44 = .ok (.iload 4, 2) := by decide +kernel
theorem d_Ref_number_46 : decode c_Ref_number 46 = .ok (.invokestatic 51, 3) := by decide +kernel
theorem d_Ref_number_49 : decode c_Ref_number 49 = .ok (.iadd, 1) := by decide +kernel
theorem d_Ref_number_50 : decode c_Ref_number 50 = .ok (.istore_n 3, 1) := by decide +kernel
theorem d_Ref_number_51 : decode c_Ref_number 51 = .ok (.iinc 4 1, 3) := by decide +kernel
theorem d_Ref_number_54 : decode c_Ref_number 54 = .ok (.goto (-18), 3) := by decide +kernel
theorem d_Ref_number_57 : decode c_Ref_number 57 = .ok (.iload_n 3, 1) := by decide +kernel
theorem d_Ref_number_58 : decode c_Ref_number 58 = .ok (.ireturn, 1) := by decide +kernel
theorem d_Ref_length_0 : decode c_Ref_length 0 = .ok (.iload_n 1, 1) := by decide +kernel
theorem d_Ref_length_1 : decode c_Ref_length 1 = .ok (.iconst 2, 1) := by decide +kernel
theorem d_Ref_length_2 : decode c_Ref_length 2 = .ok (.if_icmp .ne 20, 3) := by decide +kernel
theorem d_Ref_length_5 : decode c_Ref_length 5 = .ok (.iload_n 0, 1) := by decide +kernel
theorem d_Ref_length_6 : decode c_Ref_length 6 = .ok (.invokestatic 47, 3) := by decide +kernel
theorem d_Ref_length_9 : decode c_Ref_length 9 = .ok (.ifCond .eq 8, 3) := by decide +kernel
theorem d_Ref_length_12 : decode c_Ref_length 12 = .ok (.bipush 29, 2) := by decide +kernel
theorem d_Ref_length_14 : decode c_Ref_length 14 = .ok (.goto 38, 3) := by decide +kernel
theorem d_Ref_length_17 : decode c_Ref_length 17 = .ok (.bipush 28, 2) := by decide +kernel
theorem d_Ref_length_19 : decode c_Ref_length 19 = .ok (.goto 33, 3) := by decide +kernel
theorem d_Ref_length_22 : decode c_Ref_length 22 = .ok (.iload_n 1, 1) := by decide +kernel
theorem d_Ref_length_23 : decode c_Ref_length 23 = .ok (.iconst 4, 1) := by decide +kernel
theorem d_Ref_length_24 : decode c_Ref_length 24 = .ok (.if_icmp .eq 21, 3) := by decide +kernel
theorem d_Ref_length_27 : decode c_Ref_length 27 = .ok (.iload_n 1, 1) := by decide +kernel
theorem d_Ref_length_28 : decode c_Ref_length 28 = .ok (.bipush 6, 2) := by decide +kernel
theorem d_Ref_length_30 : decode c_Ref_length 30 = .ok (.if_icmp .eq 15, 3) := by decide +kernel
theorem d_Ref_length_33 : decode c_Ref_length 33 = .ok (.iload_n 1, 1) := by decide +kernel
theorem d_Ref_length_34 : decode c_Ref_length 34 = .ok (.bipush 9, 2) := by decide +kernel
theorem d_Ref_length_36 : decode c_Ref_length 36 = .ok (.if_icmp .eq 9, 3) := by decide +kernel
theorem d_Ref_length_39 : decode c_Ref_length 39 = .ok (.iload_n 1, 1) := by decide +kernel
theorem d_Ref_length_40 : decode c_Ref_length 40 = .ok (.bipush 11, 2) := by decide +kernel
theorem d_Ref_length_42 : decode c_Ref_length 42 = .ok (.if_icmp .ne 8, 3) := by decide +kernel
theorem d_Ref_length_45 : decode c_Ref_length 45 = .ok (.bipush 30, 2) := by decide +kernel
theorem d_Ref_length_47 : decode c_Ref_length 47 = .ok (.goto 5, 3) := by decide +kernel
theorem d_Ref_length_50 : decode c_Ref_length 50 = .ok (.bipush 31, 2) := by decide +kernel
theorem d_Ref_length_52 : decode c_Ref_length 52 = .ok (.ireturn, 1) := by decide +kernel
theorem d_Ref_leap_0 : decode c_Ref_leap 0 = .ok (.iload_n 0, 1) := by decide +kernel
theorem d_Ref_leap_1 : decode c_Ref_leap 1 = .ok (.iconst 4, 1) := by decide +kernel
theorem d_Ref_leap_2 : decode c_Ref_leap 2 = .ok (.irem, 1) := by decide +kernel
theorem d_Ref_leap_3 : decode c_Ref_leap 3 = .ok (.ifCond .ne 10, 3) := by decide +kernel
theorem d_Ref_leap_6 : decode c_Ref_leap 6 = .ok (.iload_n 0, 1) := by decide +kernel
theorem d_Ref_leap_7 : decode c_Ref_leap 7 = .ok (.bipush 100, 2) := by decide +kernel
theorem d_Ref_leap_9 : decode c_Ref_leap 9 = .ok (.irem, 1) := by decide +kernel
theorem d_Ref_leap_10 : decode c_Ref_leap 10 = .ok (.ifCond .ne 11, 3) := by decide +kernel
theorem d_Ref_leap_13 : decode c_Ref_leap 13 = .ok (.iload_n 0, 1) := by decide +kernel
theorem d_Ref_leap_14 : decode c_Ref_leap 14 = .ok (.sipush 400, 3) := by decide +kernel
theorem d_Ref_leap_17 : decode c_Ref_leap 17 = .ok (.irem, 1) := by decide +kernel
theorem d_Ref_leap_18 : decode c_Ref_leap 18 = .ok (.ifCond .ne 7, 3) := by decide +kernel
theorem d_Ref_leap_21 : decode c_Ref_leap 21 = .ok (.iconst 1, 1) := by decide +kernel
theorem d_Ref_leap_22 : decode c_Ref_leap 22 = .ok (.goto 4, 3) := by decide +kernel
theorem d_Ref_leap_25 : decode c_Ref_leap 25 = .ok (.iconst 0, 1) := by decide +kernel
theorem d_Ref_leap_26 : decode c_Ref_leap 26 = .ok (.ireturn, 1) := by decide +kernel
theorem d_Ref_weekday_0 : decode c_Ref_weekday 0 = .ok (.iload_n 0, 1) := by decide +kernel
theorem d_Ref_weekday_1 : decode c_Ref_weekday 1 = .ok (.iconst 4, 1) := by decide +kernel
theorem d_Ref_weekday_2 : decode c_Ref_weekday 2 = .ok (.iadd, 1) := by decide +kernel
theorem d_Ref_weekday_3 : decode c_Ref_weekday 3 = .ok (.bipush 7, 2) := by decide +kernel
theorem d_Ref_weekday_5 : decode c_Ref_weekday 5 = .ok (.invokestatic 72, 3) := by decide +kernel
theorem d_Ref_weekday_8 : decode c_Ref_weekday 8 = .ok (.iconst 1, 1) := by decide +kernel
theorem d_Ref_weekday_9 : decode c_Ref_weekday 9 = .ok (.iadd, 1) := by decide +kernel
theorem d_Ref_weekday_10 : decode c_Ref_weekday 10 = .ok (.ireturn, 1) := by decide +kernel
theorem d_Ref_event_0 : decode c_Ref_event 0 = .ok (.aload_n 0, 1) := by decide +kernel
theorem d_Ref_event_1 : decode c_Ref_event 1 = .ok (.getfield 34, 3) := by decide +kernel
theorem d_Ref_event_4 : decode c_Ref_event 4 = .ok (.iload_n 1, 1) := by decide +kernel
theorem d_Ref_event_5 : decode c_Ref_event 5 = .ok (.iaload, 1) := by decide +kernel
theorem d_Ref_event_6 : decode c_Ref_event 6 = .ok (.istore 5, 2) := by decide +kernel
theorem d_Ref_event_8 : decode c_Ref_event 8 = .ok (.iload 5, 2) := by decide +kernel
theorem d_Ref_event_10 : decode c_Ref_event 10 = .ok (.ifCond .le 100, 3) := by decide +kernel
theorem d_Ref_event_13 : decode c_Ref_event 13 = .ok (.aload_n 0, 1) := by decide +kernel
theorem d_Ref_event_14 : decode c_Ref_event 14 = .ok (.getfield 26, 3) := by decide +kernel
theorem d_Ref_event_17 : decode c_Ref_event 17 = .ok (.iload_n 1, 1) := by decide +kernel
theorem d_Ref_event_18 : decode c_Ref_event 18 = .ok (.aaload, 1) := by decide +kernel
theorem d_Ref_event_19 : decode c_Ref_event 19 = .ok (.iload 5, 2) := by decide +kernel
theorem d_Ref_event_21 : decode c_Ref_event 21 = .ok (.iconst 1, 1) := by decide +kernel
theorem d_Ref_event_22 : decode c_Ref_event 22 = .ok (.isub, 1) := by decide +kernel
theorem d_Ref_event_23 : decode c_Ref_event 23 = .ok (.laload, 1) := by decide +kernel
theorem d_Ref_event_24 : decode c_Ref_event 24 = .ok (.lload_n 2, 1) := by decide +kernel
theorem d_Ref_event_25 : decode c_Ref_event 25 = .ok (.lcmp, 1) := by decide +kernel
theorem d_Ref_event_26 : decode c_Ref_event 26 = .ok (.ifCond .gt 38, 3) := by decide +kernel
theorem d_Ref_event_29 : decode c_Ref_event 29 = .ok (.aload_n 0, 1) := by decide +kernel
theorem d_Ref_event_30 : decode c_Ref_event 30 = .ok (.getfield 26, 3) := by decide +kernel
theorem d_Ref_event_33 : decode c_Ref_event 33 = .ok (.iload_n 1, 1) := by decide +kernel
theorem d_Ref_event_34 : decode c_Ref_event 34 = .ok (.aaload, 1) := by decide +kernel
theorem d_Ref_event_35 : decode c_Ref_event 35 = .ok (.iload 5, 2) := by decide +kernel
theorem d_Ref_event_37 : decode c_Ref_event 37 = .ok (.iconst 1, 1) := by decide +kernel
theorem d_Ref_event_38 : decode c_Ref_event 38 = .ok (.isub, 1) := by decide +kernel
theorem d_Ref_event_39 : decode c_Ref_event 39 = .ok (.laload, 1) := by decide +kernel
theorem d_Ref_event_40 : decode c_Ref_event 40 = .ok (.lload_n 2, 1) := by decide +kernel
theorem d_Ref_event_41 : decode c_Ref_event 41 = .ok (.lcmp, 1) := by decide +kernel
theorem d_Ref_event_42 : decode c_Ref_event 42 = .ok (.ifCond .ne 68, 3) := by decide +kernel
theorem d_Ref_event_45 : decode c_Ref_event 45 = .ok (.iload 4, 2) := by decide +kernel
theorem d_Ref_event_47 : decode c_Ref_event 47 = .ok (.ifCond .eq 63, 3) := by decide +kernel
theorem d_Ref_event_50 : decode c_Ref_event 50 = .ok (.aload_n 0, 1) := by decide +kernel
theorem d_Ref_event_51 : decode c_Ref_event 51 = .ok (.getfield 31, 3) := by decide +kernel
theorem d_Ref_event_54 : decode c_Ref_event 54 = .ok (.iload_n 1, 1) := by decide +kernel
theorem d_Ref_event_55 : decode c_Ref_event 55 = .ok (.aaload, 1) := by decide +kernel
theorem d_Ref_event_56 : decode c_Ref_event 56 = .ok (.iload 5, 2) := by decide +kernel
theorem d_Ref_event_58 : decode c_Ref_event 58 = .ok (.iconst 1, 1) := by decide +kernel
theorem d_Ref_event_59 : decode c_Ref_event 59 = .ok (.isub, 1) := by decide +kernel
theorem d_Ref_event_60 : decode c_Ref_event 60 = .ok (.baload, 1) := by decide +kernel
theorem d_Ref_event_61 : decode c_Ref_event 61 = .ok (.ifCond .ne 49, 3) := by decide +kernel
theorem d_Ref_event_64 : decode c_Ref_event 64 = .ok (.aload_n 0, 1) := by decide +kernel
theorem d_Ref_event_65 : decode c_Ref_event 65 = .ok (.getfield 26, 3) := by decide +kernel
theorem d_Ref_event_68 : decode c_Ref_event 68 = .ok (.iload_n 1, 1) := by decide +kernel
theorem d_Ref_event_69 : decode c_Ref_event 69 = .ok (.aaload, 1) := by decide +kernel
theorem d_Ref_event_70 : decode c_Ref_event 70 = .ok (.iload 5, 2) := by decide +kernel
theorem d_Ref_event_72 : decode c_Ref_event 72 = .ok (.aload_n 0, 1) := by decide +kernel
theorem d_Ref_event_73 : decode c_Ref_event 73 = .ok (.getfield 26, 3) := by decide +kernel
theorem d_Ref_event_76 : decode c_Ref_event 76 = .ok (.iload_n 1, 1) := by decide +kernel
theorem d_Ref_event_77 : decode c_Ref_event 77 = .ok (.aaload, 1) := by decide +kernel
theorem d_Ref_event_78 : decode c_Ref_event 78 = .ok (.iload 5, 2) := by decide +kernel
theorem d_Ref_event_80 : decode c_Ref_event 80 = .ok (.iconst 1, 1) := by decide +kernel
theorem d_Ref_event_81 : decode c_Ref_event 81 = .ok (.isub, 1) := by decide +kernel
theorem d_Ref_event_82 : decode c_Ref_event 82 = .ok (.laload, 1) := by decide +kernel
theorem d_Ref_event_83 : decode c_Ref_event 83 = .ok (.lastore, 1) := by decide +kernel
theorem d_Ref_event_84 : decode c_Ref_event 84 = .ok (.aload_n 0, 1) := by decide +kernel
theorem d_Ref_event_85 : decode c_Ref_event 85 = .ok (.getfield 31, 3) := by decide +kernel
theorem d_Ref_event_88 : decode c_Ref_event 88 = .ok (.iload_n 1, 1) := by decide +kernel
theorem d_Ref_event_89 : decode c_Ref_event 89 = .ok (.aaload, 1) := by decide +kernel
theorem d_Ref_event_90 : decode c_Ref_event 90 = .ok (.iload 5, 2) := by decide +kernel
theorem d_Ref_event_92 : decode c_Ref_event 92 = .ok (.aload_n 0, 1) := by decide +kernel
theorem d_Ref_event_93 : decode c_Ref_event 93 = .ok (.getfield 31, 3) := by decide +kernel
theorem d_Ref_event_96 : decode c_Ref_event 96 = .ok (.iload_n 1, 1) := by decide +kernel
theorem d_Ref_event_97 : decode c_Ref_event 97 = .ok (.aaload, 1) := by decide +kernel
theorem d_Ref_event_98 : decode c_Ref_event 98 = .ok (.iload 5, 2) := by decide +kernel
theorem d_Ref_event_100 : decode c_Ref_event 100 = .ok (.iconst 1, 1) := by decide +kernel
theorem d_Ref_event_101 : decode c_Ref_event 101 = .ok (.isub, 1) := by decide +kernel
theorem d_Ref_event_102 : decode c_Ref_event 102 = .ok (.baload, 1) := by decide +kernel
theorem d_Ref_event_103 : decode c_Ref_event 103 = .ok (.bastore, 1) := by decide +kernel
theorem d_Ref_event_104 : decode c_Ref_event 104 = .ok (.iinc 5 (-1), 3) := by decide +kernel
theorem d_Ref_event_107 : decode c_Ref_event 107 = .ok (.goto (-99), 3) := by decide +kernel
theorem d_Ref_event_110 : decode c_Ref_event 110 = .ok (.aload_n 0, 1) := by decide +kernel
theorem d_Ref_event_111 : decode c_Ref_event 111 = .ok (.getfield 26, 3) := by decide +kernel
theorem d_Ref_event_114 : decode c_Ref_event 114 = .ok (.iload_n 1, 1) := by decide +kernel
theorem d_Ref_event_115 : decode c_Ref_event 115 = .ok (.aaload, 1) := by decide +kernel
theorem d_Ref_event_116 : decode c_Ref_event 116 = .ok (.iload 5, 2) := by decide +kernel
theorem d_Ref_event_118 : decode c_Ref_event 118 = .ok (.lload_n 2, 1) := by decide +kernel
theorem d_Ref_event_119 : decode c_Ref_event 119 = .ok (.lastore, 1) := by decide +kernel
theorem d_Ref_event_120 : decode c_Ref_event 120 = .ok (.aload_n 0, 1) := by decide +kernel
theorem d_Ref_event_121 : decode c_Ref_event 121 = .ok (.getfield 31, 3) := by decide +kernel
theorem d_Ref_event_124 : decode c_Ref_event 124 = .ok (.iload_n 1, 1) := by decide +kernel
theorem d_Ref_event_125 : decode c_Ref_event 125 = .ok (.aaload, 1) := by decide +kernel
theorem d_Ref_event_126 : decode c_Ref_event 126 = .ok (.iload 5, 2) := by decide +kernel
theorem d_Ref_event_128 : decode c_Ref_event 128 = .ok (.iload 4, 2) := by decide +kernel
theorem d_Ref_event_130 : decode c_Ref_event 130 = .ok (.bastore, 1) := by decide +kernel
theorem d_Ref_event_131 : decode c_Ref_event 131 = .ok (.aload_n 0, 1) := by decide +kernel
theorem d_Ref_event_132 : decode c_Ref_event 132 = .ok (.getfield 34, 3) := by decide +kernel
theorem d_Ref_event_135 : decode c_Ref_event 135 = .ok (.iload_n 1, 1) := by decide +kernel
theorem d_Ref_event_136 : decode c_Ref_event 136 = .ok (.dup2, 1) := by decide +kernel
theorem d_Ref_event_137 : decode c_Ref_event 137 = .ok (.iaload, 1) := by decide +kernel
theorem d_Ref_event_138 : decode c_Ref_event 138 = .ok (.iconst 1, 1) := by decide +kernel
theorem d_Ref_event_139 : decode c_Ref_event 139 = .ok (.iadd, 1) := by decide +kernel
theorem d_Ref_event_140 : decode c_Ref_event 140 = .ok (.iastore, 1) := by decide +kernel
theorem d_Ref_event_141 : decode c_Ref_event 141 = .ok (.return_, 1) := by decide +kernel
theorem d_Ref_local_0 : decode c_Ref_local 0 = .ok (.aload_n 0, 1) := by decide +kernel
theorem d_Ref_local_1 : decode c_Ref_local 1 = .ok (.iconst 0, 1) := by decide +kernel
theorem d_Ref_local_2 : decode c_Ref_local 2 = .ok (.putfield 44, 3) := by decide +kernel
theorem d_Ref_local_5 : decode c_Ref_local 5 = .ok (.aload_n 0, 1) := by decide +kernel
theorem d_Ref_local_6 : decode c_Ref_local 6 = .ok (.iload_n 1, 1) := by decide +kernel
theorem d_Ref_local_7 : decode c_Ref_local 7 = .ok (.lload_n 2, 1) := by decide +kernel
theorem d_Ref_local_8 : decode c_Ref_local 8 = .ok (.invokevirtual 137, 3) := by decide +kernel
theorem d_Ref_local_11 : decode c_Ref_local 11 = .ok (.ifCond .eq 12, 3) := by decide +kernel
theorem d_Ref_local_14 : decode c_Ref_local 14 = .ok (.aload_n 0, 1) := by decide +kernel
theorem d_Ref_local_15 : decode c_Ref_local 15 = .ok (.iconst 1, 1) := by decide +kernel
theorem d_Ref_local_16 : decode c_Ref_local 16 = .ok (.invokevirtual 141, 3) := by decide +kernel
theorem d_Ref_local_19 : decode c_Ref_local 19 = .ok (.i2l, 1) := by decide +kernel
theorem d_Ref_local_20 : decode c_Ref_local 20 = .ok (.goto 9, 3) := by decide +kernel
theorem d_Ref_local_23 : decode c_Ref_local 23 = .ok (.aload_n 0, 1) := by decide +kernel
theorem d_Ref_local_24 : decode c_Ref_local 24 = .ok (.iload_n 1, 1) := by decide +kernel
theorem d_Ref_local_25 : decode c_Ref_local 25 = .ok (.lload_n 2, 1) := by decide +kernel
theorem d_Ref_local_26 : decode c_Ref_local 26 = .ok (.invokevirtual 144, 3) := by decide +kernel
theorem d_Ref_local_29 : decode c_Ref_local 29 = .ok (.lreturn, 1) := by decide +kernel
theorem d_Ref_out_0 : decode c_Ref_out 0 = .ok (.iload_n 1, 1) := by decide +kernel
theorem d_Ref_out_1 : decode c_Ref_out 1 = .ok (.ifCond .lt 23, 3) := by decide +kernel
theorem d_Ref_out_4 : decode c_Ref_out 4 = .ok (.iload_n 1, 1) := by decide +kernel
theorem d_Ref_out_5 : decode c_Ref_out 5 = .ok (.bipush 7, 2) := by decide +kernel
theorem d_Ref_out_7 : decode c_Ref_out 7 = .ok (.if_icmp .gt 17, 3) := by decide +kernel
theorem d_Ref_out_10 : decode c_Ref_out 10 = .ok (.lload_n 2, 1) := by decide +kernel
theorem d_Ref_out_11 : decode c_Ref_out 11 = .ok (.lconst 0, 1) := by decide +kernel
theorem d_Ref_out_12 : decode c_Ref_out 12 = .ok (.lcmp, 1) := by decide +kernel
theorem d_Ref_out_13 : decode c_Ref_out 13 = .ok (.ifCond .lt 11, 3) := by decide +kernel
theorem d_Ref_out_16 : decode c_Ref_out 16 = .ok (.lload_n 2, 1) := by decide +kernel
theorem d_Ref_out_17 : decode c_Ref_out 17 = .ok (.ldc2_w 135, 3) := by decide +kernel
theorem d_Ref_out_20 : decode c_Ref_out 20 = .ok (.lcmp, 1) := by decide +kernel
theorem d_Ref_out_21 : decode c_Ref_out 21 = .ok (.ifCond .le 7, 3) := by decide +kernel
theorem d_Ref_out_24 : decode c_Ref_out 24 = .ok (.iconst 1, 1) := by decide +kernel
theorem d_Ref_out_25 : decode c_Ref_out 25 = .ok (.goto 4, 3) := by decide +kernel
theorem d_Ref_out_28 : decode c_Ref_out 28 = .ok (.iconst 0, 1) := by decide +kernel
theorem d_Ref_out_29 : decode c_Ref_out 29 = .ok (.ireturn, 1) := by decide +kernel
theorem d_Ref_fail_0 : decode c_Ref_fail 0 = .ok (.aload_n 0, 1) := by decide +kernel
theorem d_Ref_fail_1 : decode c_Ref_fail 1 = .ok (.iload_n 1, 1) := by decide +kernel
theorem d_Ref_fail_2 : decode c_Ref_fail 2 = .ok (.putfield 44, 3) := by decide +kernel
theorem d_Ref_fail_5 : decode c_Ref_fail 5 = .ok (.iconst 0, 1) := by decide +kernel
theorem d_Ref_fail_6 : decode c_Ref_fail 6 = .ok (.ireturn, 1) := by decide +kernel
theorem d_Ref_localAt_0 : decode c_Ref_localAt 0 = .ok (.lload_n 2, 1) := by decide +kernel
theorem d_Ref_localAt_1 : decode c_Ref_localAt 1 = .ok (.ldc2_w 122, 3) := by decide +kernel
theorem d_Ref_localAt_4 : decode c_Ref_localAt 4 = .ok (.aload_n 0, 1) := by decide +kernel
theorem d_Ref_localAt_5 : decode c_Ref_localAt 5 = .ok (.iload_n 1, 1) := by decide +kernel
theorem d_Ref_localAt_6 : decode c_Ref_localAt 6 = .ok (.aload_n 0, 1) := by decide +kernel
theorem d_Ref_localAt_7 : decode c_Ref_localAt 7 = .ok (.iload_n 1, 1) := by decide +kernel
theorem d_Ref_localAt_8 : decode c_Ref_localAt 8 = .ok (.lload_n 2, 1) := by decide +kernel
theorem d_Ref_localAt_9 : decode c_Ref_localAt 9 = .ok (.invokevirtual 128, 3) := by decide +kernel
theorem d_Ref_localAt_12 : decode c_Ref_localAt 12 = .ok (.invokevirtual 132, 3) := by decide +kernel
theorem d_Ref_localAt_15 : decode c_Ref_localAt 15 = .ok (.i2l, 1) := by decide +kernel
theorem d_Ref_localAt_16 : decode c_Ref_localAt 16 = .ok (.lmul, 1) := by decide +kernel
theorem d_Ref_localAt_17 : decode c_Ref_localAt 17 = .ok (.ladd, 1) := by decide +kernel
theorem d_Ref_localAt_18 : decode c_Ref_localAt 18 = .ok (.lreturn, 1) := by decide +kernel
theorem d_Ref_passed_0 : decode c_Ref_passed 0 = .ok (.iconst 0, 1) := by decide +kernel
theorem d_Ref_passed_1 : decode c_Ref_passed 1 = .ok (.istore 4, 2) := by decide +kernel
theorem d_Ref_passed_3 : decode c_Ref_passed 3 = .ok (.aload_n 0, 1) := by decide +kernel
theorem d_Ref_passed_4 : decode c_Ref_passed 4 = .ok (.getfield 34, 3) := by decide +kernel
theorem d_Ref_passed_7 : decode c_Ref_passed 7 = .ok (.iload_n 1, 1) := by decide +kernel
theorem d_Ref_passed_8 : decode c_Ref_passed 8 = .ok (.iaload, 1) := by decide +kernel
theorem d_Ref_passed_9 : decode c_Ref_passed 9 = .ok (.istore 5, 2) := by decide +kernel
theorem d_Ref_passed_11 : decode c_Ref_passed 11 = .ok (.iload 4, 2) := by decide +kernel
theorem d_Ref_passed_13 : decode c_Ref_passed 13 = .ok (.iload 5, 2) := by decide +kernel
theorem d_Ref_passed_15 : decode c_Ref_passed 15 = .ok (.if_icmp .ge 42, 3) := by decide +kernel
theorem d_Ref_passed_18 : decode c_Ref_passed 18 = .ok (.iload 4, 2) := by decide +kernel
theorem d_Ref_passed_20 : decode c_Ref_passed 20 = .ok (.iload 5, 2) := by decide +kernel
theorem d_Ref_passed_22 : decode c_Ref_passed 22 = .ok (.iadd, 1) := by decide +kernel
theorem d_Ref_passed_23 : decode c_Ref_passed 23 = .ok (.iconst 2, 1) := by decide +kernel
theorem d_Ref_passed_24 : decode c_Ref_passed 24 = .ok (.idiv, 1) := by decide +kernel
theorem d_Ref_passed_25 : decode c_Ref_passed 25 = .ok (.istore 6, 2) := by decide +kernel
theorem d_Ref_passed_27 : decode c_Ref_passed 27 = .ok (.aload_n 0, 1) := by decide +kernel
theorem d_Ref_passed_28 : decode c_Ref_passed 28 = .ok (.getfield 26, 3) := by decide +kernel
theorem d_Ref_passed_31 : decode c_Ref_passed 31 = .ok (.iload_n 1, 1) := by decide +kernel
theorem d_Ref_passed_32 : decode c_Ref_passed 32 = .ok (.aaload, 1) := by decide +kernel
theorem d_Ref_passed_33 : decode c_Ref_passed 33 = .ok (.iload 6, 2) := by decide +kernel
theorem d_Ref_passed_35 : decode c_Ref_passed 35 = .ok (.laload, 1) := by decide +kernel
theorem d_Ref_passed_36 : decode c_Ref_passed 36 = .ok (.lload_n 2, 1) := by decide +kernel
theorem d_Ref_passed_37 : decode c_Ref_passed 37 = .ok (.lcmp, 1) := by decide +kernel
theorem d_Ref_passed_38 : decode c_Ref_passed 38 = .ok (.ifCond .gt 12, 3) := by decide +kernel
theorem d_Ref_passed_41 : decode c_Ref_passed 41 = .ok (.iload 6, 2) := by decide +kernel
theorem d_Ref_passed_43 : decode c_Ref_passed 43 = .ok (.iconst 1, 1) := by decide +kernel
theorem d_Ref_passed_44 : decode c_Ref_passed 44 = .ok (.iadd, 1) := by decide +kernel
theorem d_Ref_passed_45 : decode c_Ref_passed 45 = .ok (.istore 4, 2) := by decide +kernel
theorem d_Ref_passed_47 : decode c_Ref_passed 47 = .ok (.goto 7, 3) := by decide +kernel
theorem d_Ref_passed_50 : decode c_Ref_passed 50 = .ok (.iload 6, 2) := by decide +kernel
theorem d_Ref_passed_52 : decode c_Ref_passed 52 = .ok (.istore 5, 2) := by decide +kernel
theorem d_Ref_passed_54 : decode c_Ref_passed 54 = .ok (.goto (-43), 3) := by decide +kernel
theorem d_Ref_passed_57 : decode c_Ref_passed 57 = .ok (.iload 4, 2) := by decide +kernel
theorem d_Ref_passed_59 : decode c_Ref_passed 59 = .ok (.ireturn, 1) := by decide +kernel
theorem d_Ref_minutes_0 : decode c_Ref_minutes 0 = .ok (.aload_n 0, 1) := by decide +kernel
theorem d_Ref_minutes_1 : decode c_Ref_minutes 1 = .ok (.getfield 17, 3) := by decide +kernel
theorem d_Ref_minutes_4 : decode c_Ref_minutes 4 = .ok (.iload_n 1, 1) := by decide +kernel
theorem d_Ref_minutes_5 : decode c_Ref_minutes 5 = .ok (.iaload, 1) := by decide +kernel
theorem d_Ref_minutes_6 : decode c_Ref_minutes 6 = .ok (.iload_n 2, 1) := by decide +kernel
theorem d_Ref_minutes_7 : decode c_Ref_minutes 7 = .ok (.ifCond .le 25, 3) := by decide +kernel
theorem d_Ref_minutes_10 : decode c_Ref_minutes 10 = .ok (.aload_n 0, 1) := by decide +kernel
theorem d_Ref_minutes_11 : decode c_Ref_minutes 11 = .ok (.getfield 31, 3) := by decide +kernel
theorem d_Ref_minutes_14 : decode c_Ref_minutes 14 = .ok (.iload_n 1, 1) := by decide +kernel
theorem d_Ref_minutes_15 : decode c_Ref_minutes 15 = .ok (.aaload, 1) := by decide +kernel
theorem d_Ref_minutes_16 : decode c_Ref_minutes 16 = .ok (.iload_n 2, 1) := by decide +kernel
theorem d_Ref_minutes_17 : decode c_Ref_minutes 17 = .ok (.iconst 1, 1) := by decide +kernel
theorem d_Ref_minutes_18 : decode c_Ref_minutes 18 = .ok (.isub, 1) := by decide +kernel
theorem d_Ref_minutes_19 : decode c_Ref_minutes 19 = .ok (.baload, 1) := by decide +kernel
theorem d_Ref_minutes_20 : decode c_Ref_minutes 20 = .ok (.ifCond .eq 12, 3) := by decide +kernel
theorem d_Ref_minutes_23 : decode c_Ref_minutes 23 = .ok (.aload_n 0, 1) := by decide +kernel
theorem d_Ref_minutes_24 : decode c_Ref_minutes 24 = .ok (.getfield 21, 3) := by decide +kernel
theorem d_Ref_minutes_27 : decode c_Ref_minutes 27 = .ok (.iload_n 1, 1) := by decide +kernel
theorem d_Ref_minutes_28 : decode c_Ref_minutes 28 = .ok (.iaload, 1) := by decide +kernel
theorem d_Ref_minutes_29 : decode c_Ref_minutes 29 = .ok (.goto 4, 3) := by decide +kernel
theorem d_Ref_minutes_32 : decode c_Ref_minutes 32 = .ok (.iconst 0, 1) := by decide +kernel
theorem d_Ref_minutes_33 : decode c_Ref_minutes 33 = .ok (.iadd, 1) := by decide +kernel
theorem d_Ref_minutes_34 : decode c_Ref_minutes 34 = .ok (.ireturn, 1) := by decide +kernel
theorem d_Ref_many_0 : decode c_Ref_many 0 = .ok (.aload_n 0, 1) := by decide +kernel
theorem d_Ref_many_1 : decode c_Ref_many 1 = .ok (.iconst 0, 1) := by decide +kernel
theorem d_Ref_many_2 : decode c_Ref_many 2 = .ok (.putfield 44, 3) := by decide +kernel
theorem d_Ref_many_5 : decode c_Ref_many 5 = .ok (.aload_n 0, 1) := by decide +kernel
theorem d_Ref_many_6 : decode c_Ref_many 6 = .ok (.iload_n 1, 1) := by decide +kernel
theorem d_Ref_many_7 : decode c_Ref_many 7 = .ok (.lload_n 2, 1) := by decide +kernel
theorem d_Ref_many_8 : decode c_Ref_many 8 = .ok (.invokevirtual 137, 3) := by decide +kernel
theorem d_Ref_many_11 : decode c_Ref_many 11 = .ok (.ifCond .eq 11, 3) := by decide +kernel
theorem d_Ref_many_14 : decode c_Ref_many 14 = .ok (.aload_n 0, 1) := by decide +kernel
theorem d_Ref_many_15 : decode c_Ref_many 15 = .ok (.iconst 1, 1) := by decide +kernel
theorem d_Ref_many_16 : decode c_Ref_many 16 = .ok (.invokevirtual 141, 3) := by decide +kernel
theorem d_Ref_many_19 : decode c_Ref_many 19 = .ok (.goto 9, 3) := by decide +kernel
theorem d_Ref_many_22 : decode c_Ref_many 22 = .ok (.aload_n 0, 1) := by decide +kernel
theorem d_Ref_many_23 : decode c_Ref_many 23 = .ok (.iload_n 1, 1) := by decide +kernel
theorem d_Ref_many_24 : decode c_Ref_many 24 = .ok (.lload_n 2, 1) := by decide +kernel
theorem d_Ref_many_25 : decode c_Ref_many 25 = .ok (.invokevirtual 148, 3) := by decide +kernel
theorem d_Ref_many_28 : decode c_Ref_many 28 = .ok (.ireturn, 1) := by decide +kernel
theorem d_Ref_find_0 : decode c_Ref_find 0 = .ok (.iconst 0, 1) := by decide +kernel
theorem d_Ref_find_1 : decode c_Ref_find 1 = .ok (.istore 4, 2) := by decide +kernel
theorem d_Ref_find_3 : decode c_Ref_find 3 = .ok (.lload_n 2, 1) := by decide +kernel
theorem d_Ref_find_4 : decode c_Ref_find 4 = .ok (.ldc2_w 122, 3) := by decide +kernel
theorem d_Ref_find_7 : decode c_Ref_find 7 = .ok (.aload_n 0, 1) := by decide +kernel
theorem d_Ref_find_8 : decode c_Ref_find 8 = .ok (.getfield 17, 3) := by decide +kernel
theorem d_Ref_find_11 : decode c_Ref_find 11 = .ok (.iload_n 1, 1) := by decide +kernel
theorem d_Ref_find_12 : decode c_Ref_find 12 = .ok (.iaload, 1) := by decide +kernel
theorem d_Ref_find_13 : decode c_Ref_find 13 = .ok (.aload_n 0, 1) := by decide +kernel
theorem d_Ref_find_14 : decode c_Ref_find 14 = .ok (.getfield 21, 3) := by decide +kernel
theorem d_Ref_find_17 : decode c_Ref_find 17 = .ok (.iload_n 1, 1) := by decide +kernel
theorem d_Ref_find_18 : decode c_Ref_find 18 = .ok (.iaload, 1) := by decide +kernel
theorem d_Ref_find_19 : decode c_Ref_find 19 = .ok (.iadd, 1) := by decide +kernel
theorem d_Ref_find_20 : decode c_Ref_find 20 = .ok (.i2l, 1) := by decide +kernel
theorem d_Ref_find_21 : decode c_Ref_find 21 = .ok (.lmul, 1) := by decide +kernel
theorem d_Ref_find_22 : decode c_Ref_find 22 = .ok (.lsub, 1) := by decide +kernel
theorem d_Ref_find_23 : decode c_Ref_find 23 = .ok (.lstore 5, 2) := by decide +kernel
theorem d_Ref_find_25 : decode c_Ref_find 25 = .ok (.lload_n 2, 1) := by decide +kernel
theorem d_Ref_find_26 : decode c_Ref_find 26 = .ok (.ldc2_w 122, 3) := by decide +kernel
theorem d_Ref_find_29 : decode c_Ref_find 29 = .ok (.aload_n 0, 1) := by decide +kernel
theorem d_Ref_find_30 : decode c_Ref_find 30 = .ok (.getfield 17, 3) := by decide +kernel
theorem d_Ref_find_33 : decode c_Ref_find 33 = .ok (.iload_n 1, 1) := by decide +kernel
theorem d_Ref_find_34 : decode c_Ref_find 34 = .ok (.iaload, 1) := by decide +kernel
theorem d_Ref_find_35 : decode c_Ref_find 35 = .ok (.i2l, 1) := by decide +kernel
theorem d_Ref_find_36 : decode c_Ref_find 36 = .ok (.lmul, 1) := by decide +kernel
theorem d_Ref_find_37 : decode c_Ref_find 37 = .ok (.lsub, 1) := by decide +kernel
theorem d_Ref_find_38 : decode c_Ref_find 38 = .ok (.lstore 7, 2) := by decide +kernel
theorem d_Ref_find_40 : decode c_Ref_find 40 = .ok (.aload_n 0, 1) := by decide +kernel
theorem d_Ref_find_41 : decode c_Ref_find 41 = .ok (.iload_n 1, 1) := by decide +kernel
theorem d_Ref_find_42 : decode c_Ref_find 42 = .ok (.lload 5, 2) := by decide +kernel
theorem d_Ref_find_44 : decode c_Ref_find 44 = .ok (.invokevirtual 144, 3) := by decide +kernel
theorem d_Ref_find_47 : decode c_Ref_find 47 = .ok (.lload_n 2, 1) := by decide +kernel
theorem d_Ref_find_48 : decode c_Ref_find 48 = .ok (.lcmp, 1) := by decide +kernel
theorem d_Ref_find_49 : decode c_Ref_find 49 = .ok (.ifCond .ne 15, 3) := by decide +kernel
theorem d_Ref_find_52 : decode c_Ref_find 52 = .ok (.aload_n 0, 1) := by decide +kernel
theorem d_Ref_find_53 : decode c_Ref_find 53 = .ok (.getfield 40, 3) := by decide +kernel
theorem d_Ref_find_56 : decode c_Ref_find 56 = .ok (.iload 4, 2) := by decide +kernel
theorem d_Ref_find_58 : decode c_Ref_find 58 = .ok (.lload 5, 2) := by decide +kernel
theorem d_Ref_find_60 : decode c_Ref_find 60 = .ok (.lastore, 1) := by decide +kernel
theorem d_Ref_find_61 : decode c_Ref_find 61 = .ok (.iinc 4 1, 3) := by decide +kernel
theorem d_Ref_find_64 : decode c_Ref_find 64 = .ok (.lload 7, 2) := by decide +kernel
theorem d_Ref_find_66 : decode c_Ref_find 66 = .ok (.lload 5, 2) := by decide +kernel
theorem d_Ref_find_68 : decode c_Ref_find 68 = .ok (.lcmp, 1) := by decide +kernel
theorem d_Ref_find_69 : decode c_Ref_find 69 = .ok (.ifCond .eq 27, 3) := by decide +kernel
theorem d_Ref_find_72 : decode c_Ref_find 72 = .ok (.aload_n 0, 1) := by decide +kernel
theorem d_Ref_find_73 : decode c_Ref_find 73 = .ok (.iload_n 1, 1) := by decide +kernel
theorem d_Ref_find_74 : decode c_Ref_find 74 = .ok (.lload 7, 2) := by decide +kernel
theorem d_Ref_find_76 : decode c_Ref_find 76 = .ok (.invokevirtual 144, 3) := by decide +kernel
theorem d_Ref_find_79 : decode c_Ref_find 79 = .ok (.lload_n 2, 1) := by decide +kernel
theorem d_Ref_find_80 : decode c_Ref_find 80 = .ok (.lcmp, 1) := by decide +kernel
theorem d_Ref_find_81 : decode c_Ref_find 81 = .ok (.ifCond .ne 15, 3) := by decide +kernel
theorem d_Ref_find_84 : decode c_Ref_find 84 = .ok (.aload_n 0, 1) := by decide +kernel
theorem d_Ref_find_85 : decode c_Ref_find 85 = .ok (.getfield 40, 3) := by decide +kernel
theorem d_Ref_find_88 : decode c_Ref_find 88 = .ok (.iload 4, 2) := by decide +kernel
theorem d_Ref_find_90 : decode c_Ref_find 90 = .ok (.lload 7, 2) := by decide +kernel
theorem d_Ref_find_92 : decode c_Ref_find 92 = .ok (.lastore, 1) := by decide +kernel
theorem d_Ref_find_93 : decode c_Ref_find 93 = .ok (.iinc 4 1, 3) := by decide +kernel
theorem d_Ref_find_96 : decode c_Ref_find 96 = .ok (.iload 4, 2) := by decide +kernel
theorem d_Ref_find_98 : decode c_Ref_find 98 = .ok (.ireturn, 1) := by decide +kernel
theorem d_Ref_universal_0 : decode c_Ref_universal 0 = .ok (.aload_n 0, 1) := by decide +kernel
theorem d_Ref_universal_1 : decode c_Ref_universal 1 = .ok (.iconst 0, 1) := by decide +kernel
theorem d_Ref_universal_2 : decode c_Ref_universal 2 = .ok (.putfield 44, 3) := by decide +kernel
theorem d_Ref_universal_5 : decode c_Ref_universal 5 = .ok (.aload_n 0, 1) := by decide +kernel
theorem d_Ref_universal_6 : decode c_Ref_universal 6 = .ok (.iload_n 1, 1) := by decide +kernel
theorem d_Ref_universal_7 : decode c_Ref_universal 7 = .ok (.lload_n 2, 1) := by decide +kernel
theorem d_Ref_universal_8 : decode c_Ref_universal 8 = .ok (.invokevirtual 137, 3) := by decide +kernel
theorem d_Ref_universal_11 : decode c_Ref_universal 11 = .ok (.ifCond .eq 10, 3) := by decide +kernel
theorem d_Ref_universal_14 : decode c_Ref_universal 14 = .ok (.aload_n 0, 1) := by decide +kernel
theorem d_Ref_universal_15 : decode c_Ref_universal 15 = .ok (.iconst 1, 1) := by decide +kernel
theorem d_Ref_universal_16 : decode c_Ref_universal 16 = .ok (.invokevirtual 141, 3) := by decide +kernel
theorem d_Ref_universal_19 : decode c_Ref_universal 19 = .ok (.i2l, 1) := by decide +kernel
theorem d_Ref_universal_20 : decode c_Ref_universal 20 = .ok (.lreturn, 1) := by decide +kernel
theorem d_Ref_universal_21 : decode c_Ref_universal 21 = .ok (.aload_n 0, 1) := by decide +kernel
theorem d_Ref_universal_22 : decode c_Ref_universal 22 = .ok (.iload_n 1, 1) := by decide +kernel
theorem d_Ref_universal_23 : decode c_Ref_universal 23 = .ok (.lload_n 2, 1) := by decide +kernel
theorem d_Ref_universal_24 : decode c_Ref_universal 24 = .ok (.invokevirtual 148, 3) := by decide +kernel
theorem d_Ref_universal_27 : decode c_Ref_universal 27 = .ok (.istore 5, 2) := by decide +kernel
theorem d_Ref_universal_29 : decode c_Ref_universal 29 = .ok (.iload 5, 2) := by decide +kernel
theorem d_Ref_universal_31 : decode c_Ref_universal 31 = .ok (.ifCond .ne 12, 3) := by decide +kernel
theorem d_Ref_universal_34 : decode c_Ref_universal 34 = .ok (.aload_n 0, 1) := by decide +kernel
theorem d_Ref_universal_35 : decode c_Ref_universal 35 = .ok (.iconst 2, 1) := by decide +kernel
theorem d_Ref_universal_36 : decode c_Ref_universal 36 = .ok (.invokevirtual 141, 3) := by decide +kernel
theorem d_Ref_universal_39 : decode c_Ref_universal 39 = .ok (.i2l, 1) := by decide +kernel
theorem d_Ref_universal_40 : decode c_Ref_universal 40 = .ok (.goto 21, 3) := by decide +kernel
theorem d_Ref_universal_43 : decode c_Ref_universal 43 = .ok (.aload_n 0, 1) := by decide +kernel
theorem d_Ref_universal_44 : decode c_Ref_universal 44 = .ok (.getfield 40, 3) := by decide +kernel
theorem d_Ref_universal_47 : decode c_Ref_universal 47 = .ok (.iload 4, 2) := by decide +kernel
theorem d_Ref_universal_49 : decode c_Ref_universal 49 = .ok (.ifCond .eq 10, 3) := by decide +kernel
theorem d_Ref_universal_52 : decode c_Ref_universal 52 = .ok (.iload 5, 2) := by decide +kernel
theorem d_Ref_universal_54 : decode c_Ref_universal 54 = .ok (.iconst 1, 1) := by decide +kernel
theorem d_Ref_universal_55 : decode c_Ref_universal 55 = .ok (.isub, 1) := by decide +kernel
theorem d_Ref_universal_56 : decode c_Ref_universal 56 = .ok (.goto 4, 3) := by decide +kernel
theorem d_Ref_universal_59 : decode c_Ref_universal 59 = .ok (.iconst 0, 1) := by decide +kernel
theorem d_Ref_universal_60 : decode c_Ref_universal 60 = .ok (.laload, 1) := by decide +kernel
theorem d_Ref_universal_61 : decode c_Ref_universal 61 = .ok (.lreturn, 1) := by decide +kernel
theorem d_Ref_change_0 : decode c_Ref_change 0 = .ok (.aload_n 0, 1) := by decide +kernel
theorem d_Ref_change_1 : decode c_Ref_change 1 = .ok (.iconst 0, 1) := by decide +kernel
theorem d_Ref_change_2 : decode c_Ref_change 2 = .ok (.putfield 44, 3) := by decide +kernel
theorem d_Ref_change_5 : decode c_Ref_change 5 = .ok (.aload_n 0, 1) := by decide +kernel
theorem d_Ref_change_6 : decode c_Ref_change 6 = .ok (.iload_n 1, 1) := by decide +kernel
theorem d_Ref_change_7 : decode c_Ref_change 7 = .ok (.lload_n 2, 1) := by decide +kernel
theorem d_Ref_change_8 : decode c_Ref_change 8 = .ok (.invokevirtual 137, 3) := by decide +kernel
theorem d_Ref_change_11 : decode c_Ref_change 11 = .ok (.ifCond .eq 10, 3) := by decide +kernel
theorem d_Ref_change_14 : decode c_Ref_change 14 = .ok (.aload_n 0, 1) := by decide +kernel
theorem d_Ref_change_15 : decode c_Ref_change 15 = .ok (.iconst 1, 1) := by decide +kernel
theorem d_Ref_change_16 : decode c_Ref_change 16 = .ok (.invokevirtual 141, 3) := by decide +kernel
theorem d_Ref_change_19 : decode c_Ref_change 19 = .ok (.i2l, 1) := by decide +kernel
theorem d_Ref_change_20 : decode c_Ref_change 20 = .ok (.lreturn, 1) := by decide +kernel
theorem d_Ref_change_21 : decode c_Ref_change 21 = .ok (.aload_n 0, 1) := by decide +kernel
theorem d_Ref_change_22 : decode c_Ref_change 22 = .ok (.iload_n 1, 1) := by decide +kernel
theorem d_Ref_change_23 : decode c_Ref_change 23 = .ok (.lload_n 2, 1) := by decide +kernel
theorem d_Ref_change_24 : decode c_Ref_change 24 = .ok (.invokevirtual 128, 3) := by decide +kernel
theorem d_Ref_change_27 : decode c_Ref_change 27 = .ok (.istore 5, 2) := by decide +kernel
theorem d_Ref_change_29 : decode c_Ref_change 29 = .ok (.iload 4, 2) := by decide +kernel
theorem d_Ref_change_31 : decode c_Ref_change 31 = .ok (.ifCond .eq 42, 3) := by decide +kernel
theorem d_Ref_change_34 : decode c_Ref_change 34 = .ok (.iload 5, 2) := by decide +kernel
theorem d_Ref_change_36 : decode c_Ref_change 36 = .ok (.ifCond .eq 19, 3) := by decide +kernel
theorem d_Ref_change_39 : decode c_Ref_change 39 = .ok (.aload_n 0, 1) := by decide +kernel
theorem d_Ref_change_40 : decode c_Ref_change 40 = .ok (.getfield 26, 3) := by decide +kernel
theorem d_Ref_change_43 : decode c_Ref_change 43 = .ok (.iload_n 1, 1) := by decide +kernel
theorem d_Ref_change_44 : decode c_Ref_change 44 = .ok (.aaload, 1) := by decide +kernel
theorem d_Ref_change_45 : decode c_Ref_change 45 = .ok (.iload 5, 2) := by decide +kernel
theorem d_Ref_change_47 : decode c_Ref_change 47 = .ok (.iconst 1, 1) := by decide +kernel
theorem d_Ref_change_48 : decode c_Ref_change 48 = .ok (.isub, 1) := by decide +kernel
theorem d_Ref_change_49 : decode c_Ref_change 49 = .ok (.laload, 1) := by decide +kernel
theorem d_Ref_change_50 : decode c_Ref_change 50 = .ok (.lconst 0, 1) := by decide +kernel
theorem d_Ref_change_51 : decode c_Ref_change 51 = .ok (.lcmp, 1) := by decide +kernel
theorem d_Ref_change_52 : decode c_Ref_change 52 = .ok (.ifCond .ge 9, 3) := by decide +kernel
theorem d_Ref_change_55 : decode c_Ref_change 55 = .ok (.ldc2_w 151, 3) := by decide +kernel
theorem d_Ref_change_58 : decode c_Ref_change 58 = .ok (.goto 14, 3) := by decide +kernel
theorem d_Ref_change_61 : decode c_Ref_change 61 = .ok (.aload_n 0, 1) := by decide +kernel
theorem d_Ref_change_62 : decode c_Ref_change 62 = .ok (.getfield 26, 3) := by decide +kernel
theorem d_Ref_change_65 : decode c_Ref_change 65 = .ok (.iload_n 1, 1) := by decide +kernel
theorem d_Ref_change_66 : decode c_Ref_change 66 = .ok (.aaload, 1) := by decide +kernel
theorem d_Ref_change_67 : decode c_Ref_change 67 = .ok (.iload 5, 2) := by decide +kernel
theorem d_Ref_change_69 : decode c_Ref_change 69 = .ok (.iconst 1, 1) := by decide +kernel
theorem d_Ref_change_70 : decode c_Ref_change 70 = .ok (.isub, 1) := by decide +kernel
theorem d_Ref_change_71 : decode c_Ref_change 71 = .ok (.laload, 1) := by decide +kernel
theorem d_Ref_change_72 : decode c_Ref_change 72 = .ok (.lreturn, 1) := by decide +kernel
theorem d_Ref_change_73 : decode c_Ref_change 73 = .ok (.iload 5, 2) := by decide +kernel
theorem d_Ref_change_75 : decode c_Ref_change 75 = .ok (.aload_n 0, 1) := by decide +kernel
theorem d_Ref_change_76 : decode c_Ref_change 76 = .ok (.getfield 34, 3) := by decide +kernel
theorem d_Ref_change_79 : decode c_Ref_change 79 = .ok (.iload_n 1, 1) := by decide +kernel
theorem d_Ref_change_80 : decode c_Ref_change 80 = .ok (.iaload, 1) := by decide +kernel
theorem d_Ref_change_81 : decode c_Ref_change 81 = .ok (.if_icmp .ne 9, 3) := by decide +kernel
theorem d_Ref_change_84 : decode c_Ref_change 84 = .ok (.ldc2_w 151, 3) := by decide +kernel
theorem d_Ref_change_87 : decode c_Ref_change 87 = .ok (.goto 12, 3) := by decide +kernel
theorem d_Ref_change_90 : decode c_Ref_change 90 = .ok (.aload_n 0, 1) := by decide +kernel
theorem d_Ref_change_91 : decode c_Ref_change 91 = .ok (.getfield 26, 3) := by decide +kernel
theorem d_Ref_change_94 : decode c_Ref_change 94 = .ok (.iload_n 1, 1) := by decide +kernel
theorem d_Ref_change_95 : decode c_Ref_change 95 = .ok (.aaload, 1) := by decide +kernel
theorem d_Ref_change_96 : decode c_Ref_change 96 = .ok (.iload 5, 2) := by decide +kernel
theorem d_Ref_change_98 : decode c_Ref_change 98 = .ok (.laload, 1) := by decide +kernel
theorem d_Ref_change_99 : decode c_Ref_change 99 = .ok (.lreturn, 1) := by decide +kernel
theorem d_Ref_field_0 : decode c_Ref_field 0 = .ok (.aload_n 0, 1) := by decide +kernel
theorem d_Ref_field_1 : decode c_Ref_field 1 = .ok (.iconst 0, 1) := by decide +kernel
theorem d_Ref_field_2 : decode c_Ref_field 2 = .ok (.putfield 44, 3) := by decide +kernel
theorem d_Ref_field_5 : decode c_Ref_field 5 = .ok (.aload_n 0, 1) := by decide +kernel
theorem d_Ref_field_6 : decode c_Ref_field 6 = .ok (.iload_n 1, 1) := by decide +kernel
theorem d_Ref_field_7 : decode c_Ref_field 7 = .ok (.lload_n 2, 1) := by decide +kernel
theorem d_Ref_field_8 : decode c_Ref_field 8 = .ok (.invokevirtual 137, 3) := by decide +kernel
theorem d_Ref_field_11 : decode c_Ref_field 11 = .ok (.ifCond .ne 15, 3) := by decide +kernel
theorem d_Ref_field_14 : decode c_Ref_field 14 = .ok (.iload 4, 2) := by decide +kernel
theorem d_Ref_field_16 : decode c_Ref_field 16 = .ok (.ifCond .lt 10, 3) := by decide +kernel
theorem d_Ref_field_19 : decode c_Ref_field 19 = .ok (.iload 4, 2) := by decide +kernel
theorem d_Ref_field_21 : decode c_Ref_field 21 = .ok (.bipush 8, 2) := by decide +kernel
theorem d_Ref_field_23 : decode c_Ref_field 23 = .ok (.if_icmp .le 9, 3) := by decide +kernel
theorem d_Ref_field_26 : decode c_Ref_field 26 = .ok (.aload_n 0, 1) := by decide +kernel
theorem d_Ref_field_27 : decode c_Ref_field 27 = .ok (.iconst 1, 1) := by decide +kernel
theorem d_Ref_field_28 : decode c_Ref_field 28 = .ok (.invokevirtual 141, 3) := by decide +kernel
theorem d_Ref_field_31 : decode c_Ref_field 31 = .ok (.ireturn, 1) := by decide +kernel
theorem d_Ref_field_32 : decode c_Ref_field 32 = .ok (.aload_n 0, 1) := by decide +kernel
theorem d_Ref_field_33 : decode c_Ref_field 33 = .ok (.iload_n 1, 1) := by decide +kernel
theorem d_Ref_field_34 : decode c_Ref_field 34 = .ok (.lload_n 2, 1) := by decide +kernel
theorem d_Ref_field_35 : decode c_Ref_field 35 = .ok (.invokevirtual 128, 3) := by decide +kernel
theorem d_Ref_field_38 : decode c_Ref_field 38 = .ok (.istore 5, 2) := by decide +kernel
theorem d_Ref_field_40 : decode c_Ref_field 40 = .ok (.lload_n 2, 1) := by decide +kernel
theorem d_Ref_field_41 : decode c_Ref_field 41 = .ok (.ldc2_w 153, 3) := by decide +kernel
theorem d_Ref_field_44 : decode c_Ref_field 44 = .ok (.invokestatic 155, 3) := by decide +kernel
theorem d_Ref_field_47 : decode c_Ref_field 47 = .ok (.ldc2_w 158, 3) := by decide +kernel
theorem d_Ref_field_50 : decode c_Ref_field 50 = .ok (.aload_n 0, 1) := by decide +kernel
theorem d_Ref_field_51 : decode c_Ref_field 51 = .ok (.iload_n 1, 1) := by decide +kernel
theorem d_Ref_field_52 : decode c_Ref_field 52 = .ok (.iload 5, 2) := by decide +kernel
theorem d_Ref_field_54 : decode c_Ref_field 54 = .ok (.invokevirtual 132, 3) := by decide +kernel
theorem d_Ref_field_57 : decode c_Ref_field 57 = .ok (.i2l, 1) := by decide +kernel
theorem d_Ref_field_58 : decode c_Ref_field 58 = .ok (.lmul, 1) := by decide +kernel
theorem d_Ref_field_59 : decode c_Ref_field 59 = .ok (.ladd, 1) := by decide +kernel
theorem d_Ref_field_60 : decode c_Ref_field 60 = .ok (.lstore 6, 2) := by decide +kernel
theorem d_Ref_field_62 : decode c_Ref_field 62 = .ok (.lload 6, 2) := by decide +kernel
theorem d_Ref_field_64 : decode c_Ref_field 64 = .ok (.ldc2_w 160, 3) := by decide +kernel
theorem d_Ref_field_67 : decode c_Ref_field 67 = .ok (.invokestatic 155, 3) := by decide +kernel
theorem d_Ref_field_70 : decode c_Ref_field 70 = .ok (.l2i, 1) := by decide +kernel
theorem d_Ref_field_71 : decode c_Ref_field 71 = .ok (.istore 8, 2) := by decide +kernel
theorem d_Ref_field_73 : decode c_Ref_field 73 = .ok (.lload 6, 2) := by decide +kernel
theorem d_Ref_field_75 : decode c_Ref_field 75 = .ok (.ldc2_w 160, 3) := by decide +kernel
theorem d_Ref_field_78 : decode c_Ref_field 78 = .ok (.invokestatic 162, 3) := by decide +kernel
theorem d_Ref_field_81 : decode c_Ref_field 81 = .ok (.l2i, 1) := by decide +kernel
theorem d_Ref_field_82 : decode c_Ref_field 82 = .ok (.istore 9, 2) := by decide +kernel
theorem d_Ref_field_84 : decode c_Ref_field 84 = .ok (.aload_n 0, 1) := by decide +kernel
theorem d_Ref_field_85 : decode c_Ref_field 85 = .ok (.iload 8, 2) := by decide +kernel
theorem d_Ref_field_87 : decode c_Ref_field 87 = .ok (.invokevirtual 164, 3) := by decide +kernel
theorem d_Ref_field_90 : decode c_Ref_field 90 = .ok (.iload 4, 2) := by decide +kernel
theorem d_Ref_field_92 : decode c_Ref_field 92 = .ok (.tableswitch 99 0 7 #[48, 54, 63, 70, 75, 80, 85, 91], 48) := by decide +kernel
theorem d_Ref_field_140 : decode c_Ref_field 140 = .ok (.iload 9, 2) := by decide +kernel
theorem d_Ref_field_142 : decode c_Ref_field 142 = .ok (.bipush 60, 2) := by decide +kernel
theorem d_Ref_field_144 : decode c_Ref_field 144 = .ok (.irem, 1) := by decide +kernel
theorem d_Ref_field_145 : decode c_Ref_field 145 = .ok (.ireturn, 1) := by decide +kernel
theorem d_Ref_field_146 : decode c_Ref_field 146 = .ok (.iload 9, 2) := by decide +kernel
theorem d_Ref_field_148 : decode c_Ref_field 148 = .ok (.bipush 60, 2) := by decide +kernel
theorem d_Ref_field_150 : decode c_Ref_field 150 = .ok (.idiv, 1) := by decide +kernel
theorem d_Ref_field_151 : decode c_Ref_field 151 = .ok (.bipush 60, 2) := by decide +kernel
theorem d_Ref_field_153 : decode c_Ref_field 153 = .ok (.irem, 1) := by decide +kernel
theorem d_Ref_field_154 : decode c_Ref_field 154 = .ok (.ireturn, 1) := by decide +kernel
theorem d_Ref_field_155 : decode c_Ref_field 155 = .ok (.iload 9, 2) := by decide +kernel
theorem d_Ref_field_157 : decode c_Ref_field 157 = .ok (.sipush 3600, 3) := by decide +kernel
theorem d_Ref_field_160 : decode c_Ref_field 160 = .ok (.idiv, 1) := by decide +kernel
theorem d_Ref_field_161 : decode c_Ref_field 161 = .ok (.ireturn, 1) := by decide +kernel
theorem d_Ref_field_162 : decode c_Ref_field 162 = .ok (.aload_n 0, 1) := by decide +kernel
theorem d_Ref_field_163 : decode c_Ref_field 163 = .ok (.getfield 69, 3) := by decide +kernel
theorem d_Ref_field_166 : decode c_Ref_field 166 = .ok (.ireturn, 1) := by decide +kernel
theorem d_Ref_field_167 : decode c_Ref_field 167 = .ok (.aload_n 0, 1) := by decide +kernel
theorem d_Ref_field_168 : decode c_Ref_field 168 = .ok (.getfield 66, 3) := by decide +kernel
theorem d_Ref_field_171 : decode c_Ref_field 171 = .ok (.ireturn, 1) := by decide +kernel
theorem d_Ref_field_172 : decode c_Ref_field 172 = .ok (.aload_n 0, 1) := by decide +kernel
theorem d_Ref_field_173 : decode c_Ref_field 173 = .ok (.getfield 60, 3) := by decide +kernel
theorem d_Ref_field_176 : decode c_Ref_field 176 = .ok (.ireturn, 1) := by decide +kernel
theorem d_Ref_field_177 : decode c_Ref_field 177 = .ok (.iload 8, 2) := by decide +kernel
theorem d_Ref_field_179 : decode c_Ref_field 179 = .ok (.invokestatic 105, 3) := by decide +kernel
theorem d_Ref_field_182 : decode c_Ref_field 182 = .ok (.ireturn, 1) := by decide +kernel
theorem d_Ref_field_183 : decode c_Ref_field 183 = .ok (.aload_n 0, 1) := by decide +kernel
theorem d_Ref_field_184 : decode c_Ref_field 184 = .ok (.iload_n 1, 1) := by decide +kernel
theorem d_Ref_field_185 : decode c_Ref_field 185 = .ok (.iload 5, 2) := by decide +kernel
theorem d_Ref_field_187 : decode c_Ref_field 187 = .ok (.invokevirtual 132, 3) := by decide +kernel
theorem d_Ref_field_190 : decode c_Ref_field 190 = .ok (.ireturn, 1) := by decide +kernel
theorem d_Ref_field_191 : decode c_Ref_field 191 = .ok (.aload_n 0, 1) := by decide +kernel
theorem d_Ref_field_192 : decode c_Ref_field 192 = .ok (.iload_n 1, 1) := by decide +kernel
theorem d_Ref_field_193 : decode c_Ref_field 193 = .ok (.iload 5, 2) := by decide +kernel
theorem d_Ref_field_195 : decode c_Ref_field 195 = .ok (.invokevirtual 167, 3) := by decide +kernel
theorem d_Ref_field_198 : decode c_Ref_field 198 = .ok (.ifCond .eq 7, 3) := by decide +kernel
theorem d_Ref_field_201 : decode c_Ref_field 201 = .ok (.iconst 1, 1) := by decide +kernel
theorem d_Ref_field_202 : decode c_Ref_field 202 = .ok (.goto 4, 3) := by decide +kernel
theorem d_Ref_field_205 : decode c_Ref_field 205 = .ok (.iconst 0, 1) := by decide +kernel
theorem d_Ref_field_206 : decode c_Ref_field 206 = .ok (.ireturn, 1) := by decide +kernel
theorem d_Ref_date_0 : decode c_Ref_date 0 = .ok (.aload_n 0, 1) := by decide +kernel
theorem d_Ref_date_1 : decode c_Ref_date 1 = .ok (.sipush 1970, 3) := by decide +kernel
theorem d_Ref_date_4 : decode c_Ref_date 4 = .ok (.iload_n 1, 1) := by decide +kernel
theorem d_Ref_date_5 : decode c_Ref_date 5 = .ok (.sipush 365, 3) := by decide +kernel
theorem d_Ref_date_8 : decode c_Ref_date 8 = .ok (.invokestatic 55, 3) := by decide +kernel
theorem d_Ref_date_11 : decode c_Ref_date 11 = .ok (.iadd, 1) := by decide +kernel
theorem d_Ref_date_12 : decode c_Ref_date 12 = .ok (.putfield 60, 3) := by decide +kernel
theorem d_Ref_date_15 : decode c_Ref_date 15 = .ok (.aload_n 0, 1) := by decide +kernel
theorem d_Ref_date_16 : decode c_Ref_date 16 = .ok (.getfield 60, 3) := by decide +kernel
theorem d_Ref_date_19 : decode c_Ref_date 19 = .ok (.iconst 1, 1) := by decide +kernel
theorem d_Ref_date_20 : decode c_Ref_date 20 = .ok (.invokestatic 63, 3) := by decide +kernel
theorem d_Ref_date_23 : decode c_Ref_date 23 = .ok (.iload_n 1, 1) := by decide +kernel
theorem d_Ref_date_24 : decode c_Ref_date 24 = .ok (.if_icmp .le 16, 3) := by decide +kernel
theorem d_Ref_date_27 : decode c_Ref_date 27 = .ok (.aload_n 0, 1) := by decide +kernel
theorem d_Ref_date_28 : decode c_Ref_date 28 = .ok (.dup, 1) := by decide +kernel
theorem d_Ref_date_29 : decode c_Ref_date 29 = .ok (.getfield 60, 3) := by decide +kernel
theorem d_Ref_date_32 : decode c_Ref_date 32 = .ok (.iconst 1, 1) := by decide +kernel
theorem d_Ref_date_33 : decode c_Ref_date 33 = .ok (.isub, 1) := by decide +kernel
theorem d_Ref_date_34 : decode c_Ref_date 34 = .ok (.putfield 60, 3) := by decide +kernel
theorem d_Ref_date_37 : decode c_Ref_date 37 = .ok (.goto (-22), 3) := by decide +kernel
theorem d_Ref_date_40 : decode c_Ref_date 40 = .ok (.iload_n 1, 1) := by decide +kernel
theorem d_Ref_date_41 : decode c_Ref_date 41 = .ok (.aload_n 0, 1) := by decide +kernel
theorem d_Ref_date_42 : decode c_Ref_date 42 = .ok (.getfield 60, 3) := by decide +kernel
theorem d_Ref_date_45 : decode c_Ref_date 45 = .ok (.iconst 1, 1) := by decide +kernel
theorem d_Ref_date_46 : decode c_Ref_date 46 = .ok (.invokestatic 63, 3) := by decide +kernel
theorem d_Ref_date_49 : decode c_Ref_date 49 = .ok (.isub, 1) := by decide +kernel
theorem d_Ref_date_50 : decode c_Ref_date 50 = .ok (.istore_n 2, 1) := by decide +kernel
theorem d_Ref_date_51 : decode c_Ref_date 51 = .ok (.aload_n 0, 1) := by decide +kernel
theorem d_Ref_date_52 : decode c_Ref_date 52 = .ok (.iconst 1, 1) := by decide +kernel
theorem d_Ref_date_53 : decode c_Ref_date 53 = .ok (.putfield 66, 3) := by decide +kernel
theorem d_Ref_date_56 : decode c_Ref_date 56 = .ok (.iload_n 2, 1) := by decide +kernel
theorem d_Ref_date_57 : decode c_Ref_date 57 = .ok (.aload_n 0, 1) := by decide +kernel
theorem d_Ref_date_58 : decode c_Ref_date 58 = .ok (.getfield 60, 3) := by decide +kernel
theorem d_Ref_date_61 : decode c_Ref_date 61 = .ok (.aload_n 0, 1) := by decide +kernel
theorem d_Ref_date_62 : decode c_Ref_date 62 = .ok (.getfield 66, 3) := by decide +kernel
theorem d_Ref_date_65 : decode c_Ref_date 65 = .ok (.invokestatic 51, 3) := by decide +kernel
theorem d_Ref_date_68 : decode c_Ref_date 68 = .ok (.if_icmp .lt 30, 3) := by decide +kernel
theorem d_Ref_date_71 : decode c_Ref_date 71 = .ok (.iload_n 2, 1) := by decide +kernel
theorem d_Ref_date_72 : decode c_Ref_date 72 = .ok (.aload_n 0, 1) := by decide +kernel
theorem d_Ref_date_73 : decode c_Ref_date 73 = .ok (.getfield 60, 3) := by decide +kernel
theorem d_Ref_date_76 : decode c_Ref_date 76 = .ok (.aload_n 0, 1) := by decide +kernel
theorem d_Ref_date_77 : decode c_Ref_date 77 = .ok (.getfield 66, 3) := by decide +kernel
theorem d_Ref_date_80 : decode c_Ref_date 80 = .ok (.invokestatic 51, 3) := by decide +kernel
theorem d_Ref_date_83 : decode c_Ref_date 83 = .ok (.isub, 1) := by decide +kernel
theorem d_Ref_date_84 : decode c_Ref_date 84 = .ok (.istore_n 2, 1) := by decide +kernel
theorem d_Ref_date_85 : decode c_Ref_date 85 = .ok (.aload_n 0, 1) := by decide +kernel
theorem d_Ref_date_86 : decode c_Ref_date 86 = .ok (.dup, 1) := by decide +kernel
theorem d_Ref_date_87 : decode c_Ref_date 87 = .ok (.getfield 66, 3) := by decide +kernel
theorem d_Ref_date_90 : decode c_Ref_date 90 = .ok (.iconst 1, 1) := by decide +kernel
theorem d_Ref_date_91 : decode c_Ref_date 91 = .ok (.iadd, 1) := by decide +kernel
theorem d_Ref_date_92 : decode c_Ref_date 92 = .ok (.putfield 66, 3) := by decide +kernel
theorem d_Ref_date_95 : decode c_Ref_date 95 = .ok (.goto (-39), 3) := by decide +kernel
theorem d_Ref_date_98 : decode c_Ref_date 98 = .ok (.aload_n 0, 1) := by decide +kernel
theorem d_Ref_date_99 : decode c_Ref_date 99 = .ok (.iload_n 2, 1) := by decide +kernel
theorem d_Ref_date_100 : decode c_Ref_date 100 = .ok (.iconst 1, 1) := by decide +kernel
theorem d_Ref_date_101 : decode c_Ref_date 101 = .ok (.iadd, 1) := by decide +kernel
theorem d_Ref_date_102 : decode c_Ref_date 102 = .ok (.putfield 69, 3) := by decide +kernel
theorem d_Ref_date_105 : decode c_Ref_date 105 = .ok (.return_, 1) := by decide +kernel
theorem d_Ref_summer_0 : decode c_Ref_summer 0 = .ok (.iload_n 2, 1) := by decide +kernel
theorem d_Ref_summer_1 : decode c_Ref_summer 1 = .ok (.ifCond .le 20, 3) := by decide +kernel
theorem d_Ref_summer_4 : decode c_Ref_summer 4 = .ok (.aload_n 0, 1) := by decide +kernel
theorem d_Ref_summer_5 : decode c_Ref_summer 5 = .ok (.getfield 31, 3) := by decide +kernel
theorem d_Ref_summer_8 : decode c_Ref_summer 8 = .ok (.iload_n 1, 1) := by decide +kernel
theorem d_Ref_summer_9 : decode c_Ref_summer 9 = .ok (.aaload, 1) := by decide +kernel
theorem d_Ref_summer_10 : decode c_Ref_summer 10 = .ok (.iload_n 2, 1) := by decide +kernel
theorem d_Ref_summer_11 : decode c_Ref_summer 11 = .ok (.iconst 1, 1) := by decide +kernel
theorem d_Ref_summer_12 : decode c_Ref_summer 12 = .ok (.isub, 1) := by decide +kernel
theorem d_Ref_summer_13 : decode c_Ref_summer 13 = .ok (.baload, 1) := by decide +kernel
theorem d_Ref_summer_14 : decode c_Ref_summer 14 = .ok (.ifCond .eq 7, 3) := by decide +kernel
theorem d_Ref_summer_17 : decode c_Ref_summer 17 = .ok (.iconst 1, 1) := by decide +kernel
theorem d_Ref_summer_18 : decode c_Ref_summer 18 = .ok (.goto 4, 3) := by decide +kernel
theorem d_Ref_summer_21 : decode c_Ref_summer 21 = .ok (.iconst 0, 1) := by decide +kernel
theorem d_Ref_summer_22 : decode c_Ref_summer 22 = .ok (.ireturn, 1) := by decide +kernel
theorem d_Ref_place_0 : decode c_Ref_place 0 = .ok (.aload_n 0, 1) := by decide +kernel
theorem d_Ref_place_1 : decode c_Ref_place 1 = .ok (.iconst 0, 1) := by decide +kernel
theorem d_Ref_place_2 : decode c_Ref_place 2 = .ok (.putfield 44, 3) := by decide +kernel
theorem d_Ref_place_5 : decode c_Ref_place 5 = .ok (.aload_n 0, 1) := by decide +kernel
theorem d_Ref_place_6 : decode c_Ref_place 6 = .ok (.getfield 13, 3) := by decide +kernel
theorem d_Ref_place_9 : decode c_Ref_place 9 = .ok (.ireturn, 1) := by decide +kernel
theorem d_Ref_feed_0 : decode c_Ref_feed 0 = .ok (.aload_n 0, 1) := by decide +kernel
theorem d_Ref_feed_1 : decode c_Ref_feed 1 = .ok (.iconst 0, 1) := by decide +kernel
theorem d_Ref_feed_2 : decode c_Ref_feed 2 = .ok (.putfield 44, 3) := by decide +kernel
theorem d_Ref_feed_5 : decode c_Ref_feed 5 = .ok (.aload_n 0, 1) := by decide +kernel
theorem d_Ref_feed_6 : decode c_Ref_feed 6 = .ok (.getfield 81, 3) := by decide +kernel
theorem d_Ref_feed_9 : decode c_Ref_feed 9 = .ok (.bipush 20, 2) := by decide +kernel
theorem d_Ref_feed_11 : decode c_Ref_feed 11 = .ok (.iadd, 1) := by decide +kernel
theorem d_Ref_feed_12 : decode c_Ref_feed 12 = .ok (.sipush 400, 3) := by decide +kernel
theorem d_Ref_feed_15 : decode c_Ref_feed 15 = .ok (.if_icmp .le 9, 3) := by decide +kernel
theorem d_Ref_feed_18 : decode c_Ref_feed 18 = .ok (.aload_n 0, 1) := by decide +kernel
theorem d_Ref_feed_19 : decode c_Ref_feed 19 = .ok (.iconst 1, 1) := by decide +kernel
theorem d_Ref_feed_20 : decode c_Ref_feed 20 = .ok (.invokevirtual 141, 3) := by decide +kernel
theorem d_Ref_feed_23 : decode c_Ref_feed 23 = .ok (.ireturn, 1) := by decide +kernel
theorem d_Ref_feed_24 : decode c_Ref_feed 24 = .ok (.iconst 0, 1) := by decide +kernel
theorem d_Ref_feed_25 : decode c_Ref_feed 25 = .ok (.istore 6, 2) := by decide +kernel
theorem d_Ref_feed_27 : decode c_Ref_feed 27 = .ok (.iload 6, 2) := by decide +kernel
theorem d_Ref_feed_29 : decode c_Ref_feed 29 = .ok (.bipush 20, 2) := by decide +kernel
theorem d_Ref_feed_31 : decode c_Ref_feed 31 = .ok (.if_icmp .ge 90, 3) := by decide +kernel
theorem d_Ref_feed_34 : decode c_Ref_feed 34 = .ok (.iload 6, 2) := by decide +kernel
theorem d_Ref_feed_36 : decode c_Ref_feed 36 = .ok (.iconst 4, 1) := by decide +kernel
theorem d_Ref_feed_37 : decode c_Ref_feed 37 = .ok (.if_icmp .ge 7, 3) := by decide +kernel
theorem d_Ref_feed_40 : decode c_Ref_feed 40 = .ok (.iload_n 1, 1) := by decide +kernel
theorem d_Ref_feed_41 : decode c_Ref_feed 41 = .ok (.goto 39, 3) := by decide +kernel
theorem d_Ref_feed_44 : decode c_Ref_feed 44 = .ok (.iload 6, 2) := by decide +kernel
theorem d_Ref_feed_46 : decode c_Ref_feed 46 = .ok (.bipush 8, 2) := by decide +kernel
theorem d_Ref_feed_48 : decode c_Ref_feed 48 = .ok (.if_icmp .ge 7, 3) := by decide +kernel
theorem d_Ref_feed_51 : decode c_Ref_feed 51 = .ok (.iload_n 2, 1) := by decide +kernel
theorem d_Ref_feed_52 : decode c_Ref_feed 52 = .ok (.goto 28, 3) := by decide +kernel
theorem d_Ref_feed_55 : decode c_Ref_feed 55 = .ok (.iload 6, 2) := by decide +kernel
theorem d_Ref_feed_57 : decode c_Ref_feed 57 = .ok (.bipush 12, 2) := by decide +kernel
theorem d_Ref_feed_59 : decode c_Ref_feed 59 = .ok (.if_icmp .ge 7, 3) := by decide +kernel
theorem d_Ref_feed_62 : decode c_Ref_feed 62 = .ok (.iload_n 3, 1) := by decide +kernel
theorem d_Ref_feed_63 : decode c_Ref_feed 63 = .ok (.goto 17, 3) := by decide +kernel
theorem d_Ref_feed_66 : decode c_Ref_feed 66 = .ok (.iload 6, 2) := by decide +kernel
theorem d_Ref_feed_68 : decode c_Ref_feed 68 = .ok (.bipush 16, 2) := by decide +kernel
theorem d_Ref_feed_70 : decode c_Ref_feed 70 = .ok (.if_icmp .ge 8, 3) := by decide +kernel
theorem d_Ref_feed_73 : decode c_Ref_feed 73 = .ok (.iload 4, 2) := by decide +kernel
theorem d_Ref_feed_75 : decode c_Ref_feed 75 = .ok (.goto 5, 3) := by decide +kernel
theorem d_Ref_feed_78 : decode c_Ref_feed 78 = .ok (.iload 5, 2) := by decide +kernel
theorem d_Ref_feed_80 : decode c_Ref_feed 80 = .ok (.istore 7, 2) := by decide +kernel
theorem d_Ref_feed_82 : decode c_Ref_feed 82 = .ok (.aload_n 0, 1) := by decide +kernel
theorem d_Ref_feed_83 : decode c_Ref_feed 83 = .ok (.getfield 7, 3) := by decide +kernel
theorem d_Ref_feed_86 : decode c_Ref_feed 86 = .ok (.aload_n 0, 1) := by decide +kernel
theorem d_Ref_feed_87 : decode c_Ref_feed 87 = .ok (.getfield 81, 3) := by decide +kernel
theorem d_Ref_feed_90 : decode c_Ref_feed 90 = .ok (.iload 7, 2) := by decide +kernel
theorem d_Ref_feed_92 : decode c_Ref_feed 92 = .ok (.bipush 24, 2) := by decide +kernel
theorem d_Ref_feed_94 : decode c_Ref_feed 94 = .ok (.bipush 8, 2) := by decide +kernel
theorem d_Ref_feed_96 : decode c_Ref_feed 96 = .ok (.iload 6, 2) := by decide +kernel
theorem d_Ref_feed_98 : decode c_Ref_feed 98 = .ok (.iconst 4, 1) := by decide +kernel
theorem d_Ref_feed_99 : decode c_Ref_feed 99 = .ok (.irem, 1) := by decide +kernel
theorem d_Ref_feed_100 : decode c_Ref_feed 100 = .ok (.imul, 1) := by decide +kernel
theorem d_Ref_feed_101 : decode c_Ref_feed 101 = .ok (.isub, 1) := by decide +kernel
theorem d_Ref_feed_102 : decode c_Ref_feed 102 = .ok (.ishr, 1) := by decide +kernel
theorem d_Ref_feed_103 : decode c_Ref_feed 103 = .ok (.i2b, 1) := by decide +kernel
theorem d_Ref_feed_104 : decode c_Ref_feed 104 = .ok (.bastore, 1) := by decide +kernel
theorem d_Ref_feed_105 : decode c_Ref_feed 105 = .ok (.aload_n 0, 1) := by decide +kernel
theorem d_Ref_feed_106 : decode c_Ref_feed 106 = .ok (.dup, 1) := by decide +kernel
theorem d_Ref_feed_107 : decode c_Ref_feed 107 = .ok (.getfield 81, 3) := by decide +kernel
theorem d_Ref_feed_110 : decode c_Ref_feed 110 = .ok (.iconst 1, 1) := by decide +kernel
theorem d_Ref_feed_111 : decode c_Ref_feed 111 = .ok (.iadd, 1) := by decide +kernel
theorem d_Ref_feed_112 : decode c_Ref_feed 112 = .ok (.putfield 81, 3) := by decide +kernel
theorem d_Ref_feed_115 : decode c_Ref_feed 115 = .ok (.iinc 6 1, 3) := by decide +kernel
theorem d_Ref_feed_118 : decode c_Ref_feed 118 = .ok (.goto (-91), 3) := by decide +kernel
theorem d_Ref_feed_121 : decode c_Ref_feed 121 = .ok (.aload_n 0, 1) := by decide +kernel
theorem d_Ref_feed_122 : decode c_Ref_feed 122 = .ok (.getfield 81, 3) := by decide +kernel
theorem d_Ref_feed_125 : decode c_Ref_feed 125 = .ok (.ireturn, 1) := by decide +kernel
theorem d_Ref_end_0 : decode c_Ref_end 0 = .ok (.aload_n 0, 1) := by decide +kernel
theorem d_Ref_end_1 : decode c_Ref_end 1 = .ok (.iconst 0, 1) := by decide +kernel
theorem d_Ref_end_2 : decode c_Ref_end 2 = .ok (.putfield 44, 3) := by decide +kernel
theorem d_Ref_end_5 : decode c_Ref_end 5 = .ok (.iload_n 1, 1) := by decide +kernel
theorem d_Ref_end_6 : decode c_Ref_end 6 = .ok (.ifCond .lt 11, 3) := by decide +kernel
theorem d_Ref_end_9 : decode c_Ref_end 9 = .ok (.iload_n 1, 1) := by decide +kernel
theorem d_Ref_end_10 : decode c_Ref_end 10 = .ok (.aload_n 0, 1) := by decide +kernel
theorem d_Ref_end_11 : decode c_Ref_end 11 = .ok (.getfield 81, 3) := by decide +kernel
theorem d_Ref_end_14 : decode c_Ref_end 14 = .ok (.if_icmp .le 9, 3) := by decide +kernel
theorem d_Ref_end_17 : decode c_Ref_end 17 = .ok (.aload_n 0, 1) := by decide +kernel
theorem d_Ref_end_18 : decode c_Ref_end 18 = .ok (.iconst 1, 1) := by decide +kernel
theorem d_Ref_end_19 : decode c_Ref_end 19 = .ok (.invokevirtual 141, 3) := by decide +kernel
theorem d_Ref_end_22 : decode c_Ref_end 22 = .ok (.ireturn, 1) := by decide +kernel
theorem d_Ref_end_23 : decode c_Ref_end 23 = .ok (.aload_n 0, 1) := by decide +kernel
theorem d_Ref_end_24 : decode c_Ref_end 24 = .ok (.iload_n 1, 1) := by decide +kernel
theorem d_Ref_end_25 : decode c_Ref_end 25 = .ok (.putfield 81, 3) := by decide +kernel
theorem d_Ref_end_28 : decode c_Ref_end 28 = .ok (.iload_n 1, 1) := by decide +kernel
theorem d_Ref_end_29 : decode c_Ref_end 29 = .ok (.ireturn, 1) := by decide +kernel
