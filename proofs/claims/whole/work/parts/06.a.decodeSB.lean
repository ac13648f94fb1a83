theorem d_SB_init_0 : decode b_SB_init 0 = .ok (.aload_n 0, 1) := by decide +kernel
theorem d_SB_init_1 : decode b_SB_init 1 = .ok (.invokespecial 1, 3) := by decide +kernel
theorem d_SB_init_4 : decode b_SB_init 4 = .ok (.aload_n 0, 1) := by decide +kernel
theorem d_SB_init_5 : decode b_SB_init 5 = .ok (.new 7, 3) := by decide +kernel
theorem d_SB_init_8 : decode b_SB_init 8 = .ok (.dup, 1) := by decide +kernel
theorem d_SB_init_9 : decode b_SB_init 9 = .ok (.invokespecial 9, 3) := by decide +kernel
theorem d_SB_init_12 : decode b_SB_init 12 = .ok (.putfield 10, 3) := by decide +kernel
theorem d_SB_init_15 : decode b_SB_init 15 = .ok (.aload_n 0, 1) := by decide +kernel
theorem d_SB_init_16 : decode b_SB_init 16 = .ok (.new 16, 3) := by decide +kernel
theorem d_SB_init_19 : decode b_SB_init 19 = .ok (.dup, 1) := by decide +kernel
theorem d_SB_init_20 : decode b_SB_init 20 = .ok (.aload_n 0, 1) := by decide +kernel
theorem d_SB_init_21 : decode b_SB_init 21 = .ok (.getfield 10, 3) := by decide +kernel
theorem d_SB_init_24 : decode b_SB_init 24 = .ok (.invokespecial 18, 3) := by decide +kernel
theorem d_SB_init_27 : decode b_SB_init 27 = .ok (.putfield 21, 3) := by decide +kernel
theorem d_SB_init_30 : decode b_SB_init 30 = .ok (.aload_n 0, 1) := by decide +kernel
theorem d_SB_init_31 : decode b_SB_init 31 = .ok (.new 25, 3) := by decide +kernel
theorem d_SB_init_34 : decode b_SB_init 34 = .ok (.dup, 1) := by decide +kernel
theorem d_SB_init_35 : decode b_SB_init 35 = .ok (.invokespecial 27, 3) := by decide +kernel
theorem d_SB_init_38 : decode b_SB_init 38 = .ok (.putfield 28, 3) := by decide +kernel
theorem d_SB_init_41 : decode b_SB_init 41 = .ok (.aload_n 0, 1) := by decide +kernel
theorem d_SB_init_42 : decode b_SB_init 42 = .ok (.new 25, 3) := by decide +kernel
theorem d_SB_init_45 : decode b_SB_init 45 = .ok (.dup, 1) := by decide +kernel
theorem d_SB_init_46 : decode b_SB_init 46 = .ok (.invokespecial 27, 3) := by decide +kernel
theorem d_SB_init_49 : decode b_SB_init 49 = .ok (.putfield 32, 3) := by decide +kernel
theorem d_SB_init_52 : decode b_SB_init 52 = .ok (.aload_n 0, 1) := by decide +kernel
theorem d_SB_init_53 : decode b_SB_init 53 = .ok (.new 35, 3) := by decide +kernel
theorem d_SB_init_56 : decode b_SB_init 56 = .ok (.dup, 1) := by decide +kernel
theorem d_SB_init_57 : decode b_SB_init 57 = .ok (.invokespecial 37, 3) := by decide +kernel
theorem d_SB_init_60 : decode b_SB_init 60 = .ok (.putfield 38, 3) := by decide +kernel
theorem d_SB_init_63 : decode b_SB_init 63 = .ok (.aload_n 0, 1) := by decide +kernel
theorem d_SB_init_64 : decode b_SB_init 64 = .ok (.bipush 10, 2) := by decide +kernel
theorem d_SB_init_66 : decode b_SB_init 66 = .ok (.anewarray 42, 3) := by decide +kernel
theorem d_SB_init_69 : decode b_SB_init 69 = .ok (.putfield 44, 3) := by decide +kernel
theorem d_SB_init_72 : decode b_SB_init 72 = .ok (.aload_n 0, 1) := by decide +kernel
theorem d_SB_init_73 : decode b_SB_init 73 = .ok (.new 48, 3) := by decide +kernel
theorem d_SB_init_76 : decode b_SB_init 76 = .ok (.dup, 1) := by decide +kernel
theorem d_SB_init_77 : decode b_SB_init 77 = .ok (.invokespecial 50, 3) := by decide +kernel
theorem d_SB_init_80 : decode b_SB_init 80 = .ok (.putfield 51, 3) := by decide +kernel
theorem d_SB_init_83 : decode b_SB_init 83 = .ok (.aload_n 0, 1) := by decide +kernel
theorem d_SB_init_84 : decode b_SB_init 84 = .ok (.bipush 8, 2) := by decide +kernel
theorem d_SB_init_86 : decode b_SB_init 86 = .ok (.anewarray 55, 3) := by decide +kernel
theorem d_SB_init_89 : decode b_SB_init 89 = .ok (.putfield 57, 3) := by decide +kernel
theorem d_SB_init_92 : decode b_SB_init 92 = .ok (.aload_n 0, 1) := by decide +kernel
theorem d_SB_init_93 : decode b_SB_init 93 = .ok (.new 61, 3) := by decide +kernel
theorem d_SB_init_96 : decode b_SB_init 96 = .ok (.dup, 1) := by decide +kernel
theorem d_SB_init_97 : decode b_SB_init 97 = .ok (.aload_n 0, 1) := by decide +kernel
theorem d_SB_init_98 : decode b_SB_init 98 = .ok (.getfield 44, 3) := by decide +kernel
theorem d_SB_init_101 : decode b_SB_init 101 = .ok (.aload_n 0, 1) := by decide +kernel
theorem d_SB_init_102 : decode b_SB_init 102 = .ok (.getfield 51, 3) := by decide +kernel
theorem d_SB_init_105 : decode b_SB_init 105 = .ok (.invokespecial 63, 3) := by decide +kernel
theorem d_SB_init_108 : decode b_SB_init 108 = .ok (.putfield 66, 3) := by decide +kernel
theorem d_SB_init_111 : decode b_SB_init 111 = .ok (.aload_n 0, 1) := by decide +kernel
theorem d_SB_init_112 : decode b_SB_init 112 = .ok (.new 70, 3) := by decide +kernel
theorem d_SB_init_115 : decode b_SB_init 115 = .ok (.dup, 1) := by decide +kernel
theorem d_SB_init_116 : decode b_SB_init 116 = .ok (.aload_n 0, 1) := by decide +kernel
theorem d_SB_init_117 : decode b_SB_init 117 = .ok (.getfield 44, 3) := by decide +kernel
theorem d_SB_init_120 : decode b_SB_init 120 = .ok (.aload_n 0, 1) := by decide +kernel
theorem d_SB_init_121 : decode b_SB_init 121 = .ok (.getfield 38, 3) := by decide +kernel
theorem d_SB_init_124 : decode b_SB_init 124 = .ok (.invokespecial 72, 3) := by decide +kernel
theorem d_SB_init_127 : decode b_SB_init 127 = .ok (.putfield 75, 3) := by decide +kernel
theorem d_SB_init_130 : decode b_SB_init 130 = .ok (.aload_n 0, 1) := by decide +kernel
theorem d_SB_init_131 : decode b_SB_init 131 = .ok (.new 79, 3) := by decide +kernel
theorem d_SB_init_134 : decode b_SB_init 134 = .ok (.dup, 1) := by decide +kernel
theorem d_SB_init_135 : decode b_SB_init 135 = .ok (.aload_n 0, 1) := by decide +kernel
theorem d_SB_init_136 : decode b_SB_init 136 = .ok (.getfield 44, 3) := by decide +kernel
theorem d_SB_init_139 : decode b_SB_init 139 = .ok (.aload_n 0, 1) := by decide +kernel
theorem d_SB_init_140 : decode b_SB_init 140 = .ok (.getfield 51, 3) := by decide +kernel
theorem d_SB_init_143 : decode b_SB_init 143 = .ok (.invokespecial 81, 3) := by decide +kernel
theorem d_SB_init_146 : decode b_SB_init 146 = .ok (.putfield 82, 3) := by decide +kernel
theorem d_SB_init_149 : decode b_SB_init 149 = .ok (.iconst 0, 1) := by decide +kernel
theorem d_SB_init_150 : decode b_SB_init 150 = .ok (.istore_n 1, 1) := by decide +kernel
theorem d_SB_init_151 : decode b_SB_init 151 = .ok (.iload_n 1, 1) := by decide +kernel
theorem d_SB_init_152 : decode b_SB_init 152 = .ok (.bipush 10, 2) := by decide +kernel
theorem d_SB_init_154 : decode b_SB_init 154 = .ok (.if_icmp .ge 22, 3) := by decide +kernel
theorem d_SB_init_157 : decode b_SB_init 157 = .ok (.aload_n 0, 1) := by decide +kernel
theorem d_SB_init_158 : decode b_SB_init 158 = .ok (.getfield 44, 3) := by decide +kernel
theorem d_SB_init_161 : decode b_SB_init 161 = .ok (.iload_n 1, 1) := by decide +kernel
theorem d_SB_init_162 : decode b_SB_init 162 = .ok (.new 42, 3) := by decide +kernel
theorem d_SB_init_165 : decode b_SB_init 165 = .ok (.dup, 1) := by decide +kernel
theorem d_SB_init_166 : decode b_SB_init 166 = .ok (.invokespecial 86, 3) := by decide +kernel
theorem d_SB_init_169 : decode b_SB_init 169 = .ok (.aastore, 1) := by decide +kernel
theorem d_SB_init_170 : decode b_SB_init 170 = .ok (.iinc 1 1, 3) := by decide +kernel
theorem d_SB_init_173 : decode b_SB_init 173 = .ok (.goto (-22), 3) := by decide +kernel
theorem d_SB_init_176 : decode b_SB_init 176 = .ok (.iconst 0, 1) := by decide +kernel
theorem d_SB_init_177 : decode b_SB_init 177 = .ok (.istore_n 1, 1) := by decide +kernel
theorem d_SB_init_178 : decode b_SB_init 178 = .ok (.iload_n 1, 1) := by decide +kernel
theorem d_SB_init_179 : decode b_SB_init 179 = .ok (.bipush 8, 2) := by decide +kernel
theorem d_SB_init_181 : decode b_SB_init 181 = .ok (.if_icmp .ge 22, 3) := by decide +kernel
theorem d_SB_init_184 : decode b_SB_init 184 = .ok (.aload_n 0, 1) := by decide +kernel
theorem d_SB_init_185 : decode b_SB_init 185 = .ok (.getfield 57, 3) := by decide +kernel
theorem d_SB_init_188 : decode b_SB_init 188 = .ok (.iload_n 1, 1) := by decide +kernel
theorem d_SB_init_189 : decode b_SB_init 189 = .ok (.new 55, 3) := by decide +kernel
theorem d_SB_init_192 : decode b_SB_init 192 = .ok (.dup, 1) := by decide +kernel
theorem d_SB_init_193 : decode b_SB_init 193 = .ok (.invokespecial 87, 3) := by decide +kernel
theorem d_SB_init_196 : decode b_SB_init 196 = .ok (.aastore, 1) := by decide +kernel
theorem d_SB_init_197 : decode b_SB_init 197 = .ok (.iinc 1 1, 3) := by decide +kernel
theorem d_SB_init_200 : decode b_SB_init 200 = .ok (.goto (-22), 3) := by decide +kernel
theorem d_SB_init_203 : decode b_SB_init 203 = .ok (.return_, 1) := by decide +kernel
theorem d_SB_unit_0 : decode b_SB_unit 0 = .ok (.iload_n 1, 1) := by decide +kernel
theorem d_SB_unit_1 : decode b_SB_unit 1 = .ok (.invokestatic 88, 3) := by decide +kernel
theorem d_SB_unit_4 : decode b_SB_unit 4 = .ok (.ifCond .eq 18, 3) := by decide +kernel
theorem d_SB_unit_7 : decode b_SB_unit 7 = .ok (.aload_n 0, 1) := by decide +kernel
theorem d_SB_unit_8 : decode b_SB_unit 8 = .ok (.getfield 10, 3) := by decide +kernel
theorem d_SB_unit_11 : decode b_SB_unit 11 = .ok (.iload_n 1, 1) := by decide +kernel
theorem d_SB_unit_12 : decode b_SB_unit 12 = .ok (.invokevirtual 92, 3) := by decide +kernel
theorem d_SB_unit_15 : decode b_SB_unit 15 = .ok (.ifCond .eq 7, 3) := by decide +kernel
theorem d_SB_unit_18 : decode b_SB_unit 18 = .ok (.iconst 1, 1) := by decide +kernel
theorem d_SB_unit_19 : decode b_SB_unit 19 = .ok (.goto 4, 3) := by decide +kernel
theorem d_SB_unit_22 : decode b_SB_unit 22 = .ok (.iconst 0, 1) := by decide +kernel
theorem d_SB_unit_23 : decode b_SB_unit 23 = .ok (.ireturn, 1) := by decide +kernel
theorem d_SB_rules_0 : decode b_SB_rules 0 = .ok (.aload_n 0, 1) := by decide +kernel
theorem d_SB_rules_1 : decode b_SB_rules 1 = .ok (.getfield 21, 3) := by decide +kernel
theorem d_SB_rules_4 : decode b_SB_rules 4 = .ok (.aload_n 0, 1) := by decide +kernel
theorem d_SB_rules_5 : decode b_SB_rules 5 = .ok (.getfield 32, 3) := by decide +kernel
theorem d_SB_rules_8 : decode b_SB_rules 8 = .ok (.invokevirtual 95, 3) := by decide +kernel
theorem d_SB_rules_11 : decode b_SB_rules 11 = .ok (.istore_n 1, 1) := by decide +kernel
theorem d_SB_rules_12 : decode b_SB_rules 12 = .ok (.aload_n 0, 1) := by decide +kernel
theorem d_SB_rules_13 : decode b_SB_rules 13 = .ok (.getfield 10, 3) := by decide +kernel
theorem d_SB_rules_16 : decode b_SB_rules 16 = .ok (.invokevirtual 99, 3) := by decide +kernel
theorem d_SB_rules_19 : decode b_SB_rules 19 = .ok (.iload_n 1, 1) := by decide +kernel
theorem d_SB_rules_20 : decode b_SB_rules 20 = .ok (.ifCond .le 21, 3) := by decide +kernel
theorem d_SB_rules_23 : decode b_SB_rules 23 = .ok (.aload_n 0, 1) := by decide +kernel
theorem d_SB_rules_24 : decode b_SB_rules 24 = .ok (.getfield 28, 3) := by decide +kernel
theorem d_SB_rules_27 : decode b_SB_rules 27 = .ok (.astore_n 2, 1) := by decide +kernel
theorem d_SB_rules_28 : decode b_SB_rules 28 = .ok (.aload_n 0, 1) := by decide +kernel
theorem d_SB_rules_29 : decode b_SB_rules 29 = .ok (.aload_n 0, 1) := by decide +kernel
theorem d_SB_rules_30 : decode b_SB_rules 30 = .ok (.getfield 32, 3) := by decide +kernel
theorem d_SB_rules_33 : decode b_SB_rules 33 = .ok (.putfield 28, 3) := by decide +kernel
theorem d_SB_rules_36 : decode b_SB_rules 36 = .ok (.aload_n 0, 1) := by decide +kernel
theorem d_SB_rules_37 : decode b_SB_rules 37 = .ok (.aload_n 2, 1) := by decide +kernel
theorem d_SB_rules_38 : decode b_SB_rules 38 = .ok (.putfield 32, 3) := by decide +kernel
theorem d_SB_rules_41 : decode b_SB_rules 41 = .ok (.iload_n 1, 1) := by decide +kernel
theorem d_SB_rules_42 : decode b_SB_rules 42 = .ok (.ireturn, 1) := by decide +kernel
theorem d_SB_name_0 : decode b_SB_name 0 = .ok (.aload_n 0, 1) := by decide +kernel
theorem d_SB_name_1 : decode b_SB_name 1 = .ok (.getfield 10, 3) := by decide +kernel
theorem d_SB_name_4 : decode b_SB_name 4 = .ok (.getfield 102, 3) := by decide +kernel
theorem d_SB_name_7 : decode b_SB_name 7 = .ok (.iconst 1, 1) := by decide +kernel
theorem d_SB_name_8 : decode b_SB_name 8 = .ok (.if_icmp .lt 28, 3) := by decide +kernel
theorem d_SB_name_11 : decode b_SB_name 11 = .ok (.aload_n 0, 1) := by decide +kernel
theorem d_SB_name_12 : decode b_SB_name 12 = .ok (.getfield 10, 3) := by decide +kernel
theorem d_SB_name_15 : decode b_SB_name 15 = .ok (.getfield 102, 3) := by decide +kernel
theorem d_SB_name_18 : decode b_SB_name 18 = .ok (.bipush 12, 2) := by decide +kernel
theorem d_SB_name_20 : decode b_SB_name 20 = .ok (.if_icmp .gt 16, 3) := by decide +kernel
theorem d_SB_name_23 : decode b_SB_name 23 = .ok (.aload_n 0, 1) := by decide +kernel
theorem d_SB_name_24 : decode b_SB_name 24 = .ok (.getfield 106, 3) := by decide +kernel
theorem d_SB_name_27 : decode b_SB_name 27 = .ok (.bipush 10, 2) := by decide +kernel
theorem d_SB_name_29 : decode b_SB_name 29 = .ok (.if_icmp .ge 7, 3) := by decide +kernel
theorem d_SB_name_32 : decode b_SB_name 32 = .ok (.iconst 1, 1) := by decide +kernel
theorem d_SB_name_33 : decode b_SB_name 33 = .ok (.goto 4, 3) := by decide +kernel
theorem d_SB_name_36 : decode b_SB_name 36 = .ok (.iconst 0, 1) := by decide +kernel
theorem d_SB_name_37 : decode b_SB_name 37 = .ok (.istore_n 1, 1) := by decide +kernel
theorem d_SB_name_38 : decode b_SB_name 38 = .ok (.iconst (-1), 1) := by decide +kernel
theorem d_SB_name_39 : decode b_SB_name 39 = .ok (.istore_n 2, 1) := by decide +kernel
theorem d_SB_name_40 : decode b_SB_name 40 = .ok (.iload_n 1, 1) := by decide +kernel
theorem d_SB_name_41 : decode b_SB_name 41 = .ok (.ifCond .eq 31, 3) := by decide +kernel
theorem d_SB_name_44 : decode b_SB_name 44 = .ok (.aload_n 0, 1) := by decide +kernel
theorem d_SB_name_45 : decode b_SB_name 45 = .ok (.getfield 106, 3) := by decide +kernel
theorem d_SB_name_48 : decode b_SB_name 48 = .ok (.istore_n 2, 1) := by decide +kernel
theorem d_SB_name_49 : decode b_SB_name 49 = .ok (.aload_n 0, 1) := by decide +kernel
theorem d_SB_name_50 : decode b_SB_name 50 = .ok (.getfield 44, 3) := by decide +kernel
theorem d_SB_name_53 : decode b_SB_name 53 = .ok (.iload_n 2, 1) := by decide +kernel
theorem d_SB_name_54 : decode b_SB_name 54 = .ok (.aaload, 1) := by decide +kernel
theorem d_SB_name_55 : decode b_SB_name 55 = .ok (.aload_n 0, 1) := by decide +kernel
theorem d_SB_name_56 : decode b_SB_name 56 = .ok (.getfield 10, 3) := by decide +kernel
theorem d_SB_name_59 : decode b_SB_name 59 = .ok (.invokevirtual 109, 3) := by decide +kernel
theorem d_SB_name_62 : decode b_SB_name 62 = .ok (.aload_n 0, 1) := by decide +kernel
theorem d_SB_name_63 : decode b_SB_name 63 = .ok (.dup, 1) := by decide +kernel
theorem d_SB_name_64 : decode b_SB_name 64 = .ok (.getfield 106, 3) := by decide +kernel
theorem d_SB_name_67 : decode b_SB_name 67 = .ok (.iconst 1, 1) := by decide +kernel
theorem d_SB_name_68 : decode b_SB_name 68 = .ok (.iadd, 1) := by decide +kernel
theorem d_SB_name_69 : decode b_SB_name 69 = .ok (.putfield 106, 3) := by decide +kernel
theorem d_SB_name_72 : decode b_SB_name 72 = .ok (.aload_n 0, 1) := by decide +kernel
theorem d_SB_name_73 : decode b_SB_name 73 = .ok (.getfield 10, 3) := by decide +kernel
theorem d_SB_name_76 : decode b_SB_name 76 = .ok (.invokevirtual 99, 3) := by decide +kernel
theorem d_SB_name_79 : decode b_SB_name 79 = .ok (.iload_n 2, 1) := by decide +kernel
theorem d_SB_name_80 : decode b_SB_name 80 = .ok (.ireturn, 1) := by decide +kernel
theorem d_SB_glyph_0 : decode b_SB_glyph 0 = .ok (.iload_n 1, 1) := by decide +kernel
theorem d_SB_glyph_1 : decode b_SB_glyph 1 = .ok (.invokestatic 88, 3) := by decide +kernel
theorem d_SB_glyph_4 : decode b_SB_glyph 4 = .ok (.ifCond .eq 13, 3) := by decide +kernel
theorem d_SB_glyph_7 : decode b_SB_glyph 7 = .ok (.iload_n 2, 1) := by decide +kernel
theorem d_SB_glyph_8 : decode b_SB_glyph 8 = .ok (.iconst 0, 1) := by decide +kernel
theorem d_SB_glyph_9 : decode b_SB_glyph 9 = .ok (.bipush 64, 2) := by decide +kernel
theorem d_SB_glyph_11 : decode b_SB_glyph 11 = .ok (.invokestatic 112, 3) := by decide +kernel
theorem d_SB_glyph_14 : decode b_SB_glyph 14 = .ok (.ifCond .ne 5, 3) := by decide +kernel
theorem d_SB_glyph_17 : decode b_SB_glyph 17 = .ok (.iconst 0, 1) := by decide +kernel
theorem d_SB_glyph_18 : decode b_SB_glyph 18 = .ok (.ireturn, 1) := by decide +kernel
theorem d_SB_glyph_19 : decode b_SB_glyph 19 = .ok (.aload_n 0, 1) := by decide +kernel
theorem d_SB_glyph_20 : decode b_SB_glyph 20 = .ok (.getfield 38, 3) := by decide +kernel
theorem d_SB_glyph_23 : decode b_SB_glyph 23 = .ok (.iload_n 1, 1) := by decide +kernel
theorem d_SB_glyph_24 : decode b_SB_glyph 24 = .ok (.iload_n 2, 1) := by decide +kernel
theorem d_SB_glyph_25 : decode b_SB_glyph 25 = .ok (.invokevirtual 116, 3) := by decide +kernel
theorem d_SB_glyph_28 : decode b_SB_glyph 28 = .ok (.iconst 1, 1) := by decide +kernel
theorem d_SB_glyph_29 : decode b_SB_glyph 29 = .ok (.ireturn, 1) := by decide +kernel
theorem d_SB_kern_0 : decode b_SB_kern 0 = .ok (.iload_n 1, 1) := by decide +kernel
theorem d_SB_kern_1 : decode b_SB_kern 1 = .ok (.invokestatic 88, 3) := by decide +kernel
theorem d_SB_kern_4 : decode b_SB_kern 4 = .ok (.ifCond .eq 38, 3) := by decide +kernel
theorem d_SB_kern_7 : decode b_SB_kern 7 = .ok (.iload_n 2, 1) := by decide +kernel
theorem d_SB_kern_8 : decode b_SB_kern 8 = .ok (.invokestatic 88, 3) := by decide +kernel
theorem d_SB_kern_11 : decode b_SB_kern 11 = .ok (.ifCond .eq 31, 3) := by decide +kernel
theorem d_SB_kern_14 : decode b_SB_kern 14 = .ok (.iload_n 3, 1) := by decide +kernel
theorem d_SB_kern_15 : decode b_SB_kern 15 = .ok (.bipush (-16), 2) := by decide +kernel
theorem d_SB_kern_17 : decode b_SB_kern 17 = .ok (.bipush 16, 2) := by decide +kernel
theorem d_SB_kern_19 : decode b_SB_kern 19 = .ok (.invokestatic 112, 3) := by decide +kernel
theorem d_SB_kern_22 : decode b_SB_kern 22 = .ok (.ifCond .eq 20, 3) := by decide +kernel
theorem d_SB_kern_25 : decode b_SB_kern 25 = .ok (.aload_n 0, 1) := by decide +kernel
theorem d_SB_kern_26 : decode b_SB_kern 26 = .ok (.getfield 38, 3) := by decide +kernel
theorem d_SB_kern_29 : decode b_SB_kern 29 = .ok (.iload_n 1, 1) := by decide +kernel
theorem d_SB_kern_30 : decode b_SB_kern 30 = .ok (.iload_n 2, 1) := by decide +kernel
theorem d_SB_kern_31 : decode b_SB_kern 31 = .ok (.iload_n 3, 1) := by decide +kernel
theorem d_SB_kern_32 : decode b_SB_kern 32 = .ok (.invokevirtual 120, 3) := by decide +kernel
theorem d_SB_kern_35 : decode b_SB_kern 35 = .ok (.ifCond .eq 7, 3) := by decide +kernel
theorem d_SB_kern_38 : decode b_SB_kern 38 = .ok (.iconst 1, 1) := by decide +kernel
theorem d_SB_kern_39 : decode b_SB_kern 39 = .ok (.goto 4, 3) := by decide +kernel
theorem d_SB_kern_42 : decode b_SB_kern 42 = .ok (.iconst 0, 1) := by decide +kernel
theorem d_SB_kern_43 : decode b_SB_kern 43 = .ok (.ireturn, 1) := by decide +kernel
theorem d_SB_height_0 : decode b_SB_height 0 = .ok (.iload_n 1, 1) := by decide +kernel
theorem d_SB_height_1 : decode b_SB_height 1 = .ok (.invokestatic 123, 3) := by decide +kernel
theorem d_SB_height_4 : decode b_SB_height 4 = .ok (.ifCond .eq 14, 3) := by decide +kernel
theorem d_SB_height_7 : decode b_SB_height 7 = .ok (.aload_n 0, 1) := by decide +kernel
theorem d_SB_height_8 : decode b_SB_height 8 = .ok (.getfield 28, 3) := by decide +kernel
theorem d_SB_height_11 : decode b_SB_height 11 = .ok (.iload_n 1, 1) := by decide +kernel
theorem d_SB_height_12 : decode b_SB_height 12 = .ok (.invokevirtual 126, 3) := by decide +kernel
theorem d_SB_height_15 : decode b_SB_height 15 = .ok (.goto 4, 3) := by decide +kernel
theorem d_SB_height_18 : decode b_SB_height 18 = .ok (.iconst (-1), 1) := by decide +kernel
theorem d_SB_height_19 : decode b_SB_height 19 = .ok (.ireturn, 1) := by decide +kernel
theorem d_SB_width_0 : decode b_SB_width 0 = .ok (.aload_n 0, 1) := by decide +kernel
theorem d_SB_width_1 : decode b_SB_width 1 = .ok (.iload_n 1, 1) := by decide +kernel
theorem d_SB_width_2 : decode b_SB_width 2 = .ok (.invokevirtual 130, 3) := by decide +kernel
theorem d_SB_width_5 : decode b_SB_width 5 = .ok (.ifCond .eq 10, 3) := by decide +kernel
theorem d_SB_width_8 : decode b_SB_width 8 = .ok (.iload_n 2, 1) := by decide +kernel
theorem d_SB_width_9 : decode b_SB_width 9 = .ok (.invokestatic 123, 3) := by decide +kernel
theorem d_SB_width_12 : decode b_SB_width 12 = .ok (.ifCond .ne 5, 3) := by decide +kernel
theorem d_SB_width_15 : decode b_SB_width 15 = .ok (.iconst (-1), 1) := by decide +kernel
theorem d_SB_width_16 : decode b_SB_width 16 = .ok (.ireturn, 1) := by decide +kernel
theorem d_SB_width_17 : decode b_SB_width 17 = .ok (.aload_n 0, 1) := by decide +kernel
theorem d_SB_width_18 : decode b_SB_width 18 = .ok (.getfield 38, 3) := by decide +kernel
theorem d_SB_width_21 : decode b_SB_width 21 = .ok (.aload_n 0, 1) := by decide +kernel
theorem d_SB_width_22 : decode b_SB_width 22 = .ok (.getfield 44, 3) := by decide +kernel
theorem d_SB_width_25 : decode b_SB_width 25 = .ok (.iload_n 1, 1) := by decide +kernel
theorem d_SB_width_26 : decode b_SB_width 26 = .ok (.aaload, 1) := by decide +kernel
theorem d_SB_width_27 : decode b_SB_width 27 = .ok (.invokevirtual 133, 3) := by decide +kernel
theorem d_SB_width_30 : decode b_SB_width 30 = .ok (.aload_n 0, 1) := by decide +kernel
theorem d_SB_width_31 : decode b_SB_width 31 = .ok (.getfield 28, 3) := by decide +kernel
theorem d_SB_width_34 : decode b_SB_width 34 = .ok (.iload_n 2, 1) := by decide +kernel
theorem d_SB_width_35 : decode b_SB_width 35 = .ok (.invokevirtual 126, 3) := by decide +kernel
theorem d_SB_width_38 : decode b_SB_width 38 = .ok (.imul, 1) := by decide +kernel
theorem d_SB_width_39 : decode b_SB_width 39 = .ok (.ireturn, 1) := by decide +kernel
theorem d_SB_way_0 : decode b_SB_way 0 = .ok (.iload_n 1, 1) := by decide +kernel
theorem d_SB_way_1 : decode b_SB_way 1 = .ok (.invokestatic 137, 3) := by decide +kernel
theorem d_SB_way_4 : decode b_SB_way 4 = .ok (.ifCond .eq 20, 3) := by decide +kernel
theorem d_SB_way_7 : decode b_SB_way 7 = .ok (.iload_n 2, 1) := by decide +kernel
theorem d_SB_way_8 : decode b_SB_way 8 = .ok (.invokestatic 137, 3) := by decide +kernel
theorem d_SB_way_11 : decode b_SB_way 11 = .ok (.ifCond .eq 13, 3) := by decide +kernel
theorem d_SB_way_14 : decode b_SB_way 14 = .ok (.iload_n 3, 1) := by decide +kernel
theorem d_SB_way_15 : decode b_SB_way 15 = .ok (.iconst 1, 1) := by decide +kernel
theorem d_SB_way_16 : decode b_SB_way 16 = .ok (.ldc 140, 2) := by decide +kernel
theorem d_SB_way_18 : decode b_SB_way 18 = .ok (.invokestatic 112, 3) := by decide +kernel
theorem d_SB_way_21 : decode b_SB_way 21 = .ok (.ifCond .ne 5, 3) := by decide +kernel
theorem d_SB_way_24 : decode b_SB_way 24 = .ok (.iconst (-1), 1) := by decide +kernel
theorem d_SB_way_25 : decode b_SB_way 25 = .ok (.ireturn, 1) := by decide +kernel
theorem d_SB_way_26 : decode b_SB_way 26 = .ok (.aload_n 0, 1) := by decide +kernel
theorem d_SB_way_27 : decode b_SB_way 27 = .ok (.getfield 51, 3) := by decide +kernel
theorem d_SB_way_30 : decode b_SB_way 30 = .ok (.iload_n 1, 1) := by decide +kernel
theorem d_SB_way_31 : decode b_SB_way 31 = .ok (.iload_n 2, 1) := by decide +kernel
theorem d_SB_way_32 : decode b_SB_way 32 = .ok (.iload_n 3, 1) := by decide +kernel
theorem d_SB_way_33 : decode b_SB_way 33 = .ok (.invokevirtual 141, 3) := by decide +kernel
theorem d_SB_way_36 : decode b_SB_way 36 = .ok (.ireturn, 1) := by decide +kernel
theorem d_SB_goal_0 : decode b_SB_goal 0 = .ok (.aload_n 0, 1) := by decide +kernel
theorem d_SB_goal_1 : decode b_SB_goal 1 = .ok (.iload_n 1, 1) := by decide +kernel
theorem d_SB_goal_2 : decode b_SB_goal 2 = .ok (.invokevirtual 130, 3) := by decide +kernel
theorem d_SB_goal_5 : decode b_SB_goal 5 = .ok (.ifCond .eq 15, 3) := by decide +kernel
theorem d_SB_goal_8 : decode b_SB_goal 8 = .ok (.iload_n 2, 1) := by decide +kernel
theorem d_SB_goal_9 : decode b_SB_goal 9 = .ok (.iconst (-1), 1) := by decide +kernel
theorem d_SB_goal_10 : decode b_SB_goal 10 = .ok (.if_icmp .eq 12, 3) := by decide +kernel
theorem d_SB_goal_13 : decode b_SB_goal 13 = .ok (.iload_n 2, 1) := by decide +kernel
theorem d_SB_goal_14 : decode b_SB_goal 14 = .ok (.invokestatic 137, 3) := by decide +kernel
theorem d_SB_goal_17 : decode b_SB_goal 17 = .ok (.ifCond .ne 5, 3) := by decide +kernel
theorem d_SB_goal_20 : decode b_SB_goal 20 = .ok (.iconst 0, 1) := by decide +kernel
theorem d_SB_goal_21 : decode b_SB_goal 21 = .ok (.ireturn, 1) := by decide +kernel
theorem d_SB_goal_22 : decode b_SB_goal 22 = .ok (.aload_n 0, 1) := by decide +kernel
theorem d_SB_goal_23 : decode b_SB_goal 23 = .ok (.getfield 44, 3) := by decide +kernel
theorem d_SB_goal_26 : decode b_SB_goal 26 = .ok (.iload_n 1, 1) := by decide +kernel
theorem d_SB_goal_27 : decode b_SB_goal 27 = .ok (.aaload, 1) := by decide +kernel
theorem d_SB_goal_28 : decode b_SB_goal 28 = .ok (.iload_n 2, 1) := by decide +kernel
theorem d_SB_goal_29 : decode b_SB_goal 29 = .ok (.putfield 145, 3) := by decide +kernel
theorem d_SB_goal_32 : decode b_SB_goal 32 = .ok (.iconst 1, 1) := by decide +kernel
theorem d_SB_goal_33 : decode b_SB_goal 33 = .ok (.ireturn, 1) := by decide +kernel
theorem d_SB_board_0 : decode b_SB_board 0 = .ok (.aload_n 0, 1) := by decide +kernel
theorem d_SB_board_1 : decode b_SB_board 1 = .ok (.getfield 51, 3) := by decide +kernel
theorem d_SB_board_4 : decode b_SB_board 4 = .ok (.iload_n 1, 1) := by decide +kernel
theorem d_SB_board_5 : decode b_SB_board 5 = .ok (.invokevirtual 148, 3) := by decide +kernel
theorem d_SB_board_8 : decode b_SB_board 8 = .ok (.ifCond .eq 12, 3) := by decide +kernel
theorem d_SB_board_11 : decode b_SB_board 11 = .ok (.aload_n 0, 1) := by decide +kernel
theorem d_SB_board_12 : decode b_SB_board 12 = .ok (.getfield 151, 3) := by decide +kernel
theorem d_SB_board_15 : decode b_SB_board 15 = .ok (.bipush 8, 2) := by decide +kernel
theorem d_SB_board_17 : decode b_SB_board 17 = .ok (.if_icmp .lt 5, 3) := by decide +kernel
theorem d_SB_board_20 : decode b_SB_board 20 = .ok (.iconst (-1), 1) := by decide +kernel
theorem d_SB_board_21 : decode b_SB_board 21 = .ok (.ireturn, 1) := by decide +kernel
theorem d_SB_board_22 : decode b_SB_board 22 = .ok (.aload_n 0, 1) := by decide +kernel
theorem d_SB_board_23 : decode b_SB_board 23 = .ok (.getfield 151, 3) := by decide +kernel
theorem d_SB_board_26 : decode b_SB_board 26 = .ok (.istore_n 2, 1) := by decide +kernel
theorem d_SB_board_27 : decode b_SB_board 27 = .ok (.aload_n 0, 1) := by decide +kernel
theorem d_SB_board_28 : decode b_SB_board 28 = .ok (.getfield 57, 3) := by decide +kernel
theorem d_SB_board_31 : decode b_SB_board 31 = .ok (.iload_n 2, 1) := by decide +kernel
theorem d_SB_board_32 : decode b_SB_board 32 = .ok (.aaload, 1) := by decide +kernel
theorem d_SB_board_33 : decode b_SB_board 33 = .ok (.iload_n 1, 1) := by decide +kernel
theorem d_SB_board_34 : decode b_SB_board 34 = .ok (.putfield 154, 3) := by decide +kernel
theorem d_SB_board_37 : decode b_SB_board 37 = .ok (.aload_n 0, 1) := by decide +kernel
theorem d_SB_board_38 : decode b_SB_board 38 = .ok (.dup, 1) := by decide +kernel
theorem d_SB_board_39 : decode b_SB_board 39 = .ok (.getfield 151, 3) := by decide +kernel
theorem d_SB_board_42 : decode b_SB_board 42 = .ok (.iconst 1, 1) := by decide +kernel
theorem d_SB_board_43 : decode b_SB_board 43 = .ok (.iadd, 1) := by decide +kernel
theorem d_SB_board_44 : decode b_SB_board 44 = .ok (.putfield 151, 3) := by decide +kernel
theorem d_SB_board_47 : decode b_SB_board 47 = .ok (.iload_n 2, 1) := by decide +kernel
theorem d_SB_board_48 : decode b_SB_board 48 = .ok (.ireturn, 1) := by decide +kernel
theorem d_SB_on_0 : decode b_SB_on 0 = .ok (.aload_n 0, 1) := by decide +kernel
theorem d_SB_on_1 : decode b_SB_on 1 = .ok (.iload_n 1, 1) := by decide +kernel
theorem d_SB_on_2 : decode b_SB_on 2 = .ok (.invokevirtual 157, 3) := by decide +kernel
theorem d_SB_on_5 : decode b_SB_on 5 = .ok (.ifCond .eq 20, 3) := by decide +kernel
theorem d_SB_on_8 : decode b_SB_on 8 = .ok (.aload_n 0, 1) := by decide +kernel
theorem d_SB_on_9 : decode b_SB_on 9 = .ok (.iload_n 2, 1) := by decide +kernel
theorem d_SB_on_10 : decode b_SB_on 10 = .ok (.invokevirtual 130, 3) := by decide +kernel
theorem d_SB_on_13 : decode b_SB_on 13 = .ok (.ifCond .eq 12, 3) := by decide +kernel
theorem d_SB_on_16 : decode b_SB_on 16 = .ok (.iload_n 3, 1) := by decide +kernel
theorem d_SB_on_17 : decode b_SB_on 17 = .ok (.iconst 0, 1) := by decide +kernel
theorem d_SB_on_18 : decode b_SB_on 18 = .ok (.iconst 2, 1) := by decide +kernel
theorem d_SB_on_19 : decode b_SB_on 19 = .ok (.invokestatic 112, 3) := by decide +kernel
theorem d_SB_on_22 : decode b_SB_on 22 = .ok (.ifCond .ne 5, 3) := by decide +kernel
theorem d_SB_on_25 : decode b_SB_on 25 = .ok (.iconst 0, 1) := by decide +kernel
theorem d_SB_on_26 : decode b_SB_on 26 = .ok (.ireturn, 1) := by decide +kernel
theorem d_SB_on_27 : decode b_SB_on 27 = .ok (.aload_n 0, 1) := by decide +kernel
theorem d_SB_on_28 : decode b_SB_on 28 = .ok (.getfield 57, 3) := by decide +kernel
theorem d_SB_on_31 : decode b_SB_on 31 = .ok (.iload_n 1, 1) := by decide +kernel
theorem d_SB_on_32 : decode b_SB_on 32 = .ok (.aaload, 1) := by decide +kernel
theorem d_SB_on_33 : decode b_SB_on 33 = .ok (.iload_n 2, 1) := by decide +kernel
theorem d_SB_on_34 : decode b_SB_on 34 = .ok (.iload_n 3, 1) := by decide +kernel
theorem d_SB_on_35 : decode b_SB_on 35 = .ok (.invokevirtual 160, 3) := by decide +kernel
theorem d_SB_on_38 : decode b_SB_on 38 = .ok (.ifCond .ne 5, 3) := by decide +kernel
theorem d_SB_on_41 : decode b_SB_on 41 = .ok (.iconst 0, 1) := by decide +kernel
theorem d_SB_on_42 : decode b_SB_on 42 = .ok (.ireturn, 1) := by decide +kernel
theorem d_SB_on_43 : decode b_SB_on 43 = .ok (.aload_n 0, 1) := by decide +kernel
theorem d_SB_on_44 : decode b_SB_on 44 = .ok (.getfield 51, 3) := by decide +kernel
theorem d_SB_on_47 : decode b_SB_on 47 = .ok (.aload_n 0, 1) := by decide +kernel
theorem d_SB_on_48 : decode b_SB_on 48 = .ok (.getfield 57, 3) := by decide +kernel
theorem d_SB_on_51 : decode b_SB_on 51 = .ok (.iload_n 1, 1) := by decide +kernel
theorem d_SB_on_52 : decode b_SB_on 52 = .ok (.aaload, 1) := by decide +kernel
theorem d_SB_on_53 : decode b_SB_on 53 = .ok (.getfield 154, 3) := by decide +kernel
theorem d_SB_on_56 : decode b_SB_on 56 = .ok (.iload_n 2, 1) := by decide +kernel
theorem d_SB_on_57 : decode b_SB_on 57 = .ok (.invokevirtual 164, 3) := by decide +kernel
theorem d_SB_on_60 : decode b_SB_on 60 = .ok (.iconst 1, 1) := by decide +kernel
theorem d_SB_on_61 : decode b_SB_on 61 = .ok (.ireturn, 1) := by decide +kernel
theorem d_SB_wide_0 : decode b_SB_wide 0 = .ok (.aload_n 0, 1) := by decide +kernel
theorem d_SB_wide_1 : decode b_SB_wide 1 = .ok (.iload_n 1, 1) := by decide +kernel
theorem d_SB_wide_2 : decode b_SB_wide 2 = .ok (.invokevirtual 157, 3) := by decide +kernel
theorem d_SB_wide_5 : decode b_SB_wide 5 = .ok (.ifCond .eq 14, 3) := by decide +kernel
theorem d_SB_wide_8 : decode b_SB_wide 8 = .ok (.iload_n 2, 1) := by decide +kernel
theorem d_SB_wide_9 : decode b_SB_wide 9 = .ok (.iconst 0, 1) := by decide +kernel
theorem d_SB_wide_10 : decode b_SB_wide 10 = .ok (.sipush 10000, 3) := by decide +kernel
theorem d_SB_wide_13 : decode b_SB_wide 13 = .ok (.invokestatic 112, 3) := by decide +kernel
theorem d_SB_wide_16 : decode b_SB_wide 16 = .ok (.ifCond .ne 5, 3) := by decide +kernel
theorem d_SB_wide_19 : decode b_SB_wide 19 = .ok (.iconst 0, 1) := by decide +kernel
theorem d_SB_wide_20 : decode b_SB_wide 20 = .ok (.ireturn, 1) := by decide +kernel
theorem d_SB_wide_21 : decode b_SB_wide 21 = .ok (.aload_n 0, 1) := by decide +kernel
theorem d_SB_wide_22 : decode b_SB_wide 22 = .ok (.getfield 57, 3) := by decide +kernel
theorem d_SB_wide_25 : decode b_SB_wide 25 = .ok (.iload_n 1, 1) := by decide +kernel
theorem d_SB_wide_26 : decode b_SB_wide 26 = .ok (.aaload, 1) := by decide +kernel
theorem d_SB_wide_27 : decode b_SB_wide 27 = .ok (.iload_n 2, 1) := by decide +kernel
theorem d_SB_wide_28 : decode b_SB_wide 28 = .ok (.putfield 167, 3) := by decide +kernel
theorem d_SB_wide_31 : decode b_SB_wide 31 = .ok (.iconst 1, 1) := by decide +kernel
theorem d_SB_wide_32 : decode b_SB_wide 32 = .ok (.ireturn, 1) := by decide +kernel
theorem d_SB_row_0 : decode b_SB_row 0 = .ok (.aload_n 0, 1) := by decide +kernel
theorem d_SB_row_1 : decode b_SB_row 1 = .ok (.iload_n 1, 1) := by decide +kernel
theorem d_SB_row_2 : decode b_SB_row 2 = .ok (.iload_n 2, 1) := by decide +kernel
theorem d_SB_row_3 : decode b_SB_row 3 = .ok (.invokevirtual 170, 3) := by decide +kernel
theorem d_SB_row_6 : decode b_SB_row 6 = .ok (.ifCond .ne 5, 3) := by decide +kernel
theorem d_SB_row_9 : decode b_SB_row 9 = .ok (.iconst (-1), 1) := by decide +kernel
theorem d_SB_row_10 : decode b_SB_row 10 = .ok (.ireturn, 1) := by decide +kernel
theorem d_SB_row_11 : decode b_SB_row 11 = .ok (.aload_n 0, 1) := by decide +kernel
theorem d_SB_row_12 : decode b_SB_row 12 = .ok (.getfield 66, 3) := by decide +kernel
theorem d_SB_row_15 : decode b_SB_row 15 = .ok (.aload_n 0, 1) := by decide +kernel
theorem d_SB_row_16 : decode b_SB_row 16 = .ok (.getfield 57, 3) := by decide +kernel
theorem d_SB_row_19 : decode b_SB_row 19 = .ok (.iload_n 1, 1) := by decide +kernel
theorem d_SB_row_20 : decode b_SB_row 20 = .ok (.aaload, 1) := by decide +kernel
theorem d_SB_row_21 : decode b_SB_row 21 = .ok (.aload_n 0, 1) := by decide +kernel
theorem d_SB_row_22 : decode b_SB_row 22 = .ok (.getfield 28, 3) := by decide +kernel
theorem d_SB_row_25 : decode b_SB_row 25 = .ok (.getfield 173, 3) := by decide +kernel
theorem d_SB_row_28 : decode b_SB_row 28 = .ok (.invokevirtual 176, 3) := by decide +kernel
theorem d_SB_row_31 : decode b_SB_row 31 = .ok (.aload_n 0, 1) := by decide +kernel
theorem d_SB_row_32 : decode b_SB_row 32 = .ok (.getfield 57, 3) := by decide +kernel
theorem d_SB_row_35 : decode b_SB_row 35 = .ok (.iload_n 1, 1) := by decide +kernel
theorem d_SB_row_36 : decode b_SB_row 36 = .ok (.aaload, 1) := by decide +kernel
theorem d_SB_row_37 : decode b_SB_row 37 = .ok (.getfield 180, 3) := by decide +kernel
theorem d_SB_row_40 : decode b_SB_row 40 = .ok (.aload_n 0, 1) := by decide +kernel
theorem d_SB_row_41 : decode b_SB_row 41 = .ok (.getfield 66, 3) := by decide +kernel
theorem d_SB_row_44 : decode b_SB_row 44 = .ok (.iload_n 2, 1) := by decide +kernel
theorem d_SB_row_45 : decode b_SB_row 45 = .ok (.invokevirtual 184, 3) := by decide +kernel
theorem d_SB_row_48 : decode b_SB_row 48 = .ok (.iaload, 1) := by decide +kernel
theorem d_SB_row_49 : decode b_SB_row 49 = .ok (.ireturn, 1) := by decide +kernel
theorem d_SB_distance_0 : decode b_SB_distance 0 = .ok (.aload_n 0, 1) := by decide +kernel
theorem d_SB_distance_1 : decode b_SB_distance 1 = .ok (.iload_n 1, 1) := by decide +kernel
theorem d_SB_distance_2 : decode b_SB_distance 2 = .ok (.iload_n 2, 1) := by decide +kernel
theorem d_SB_distance_3 : decode b_SB_distance 3 = .ok (.invokevirtual 170, 3) := by decide +kernel
theorem d_SB_distance_6 : decode b_SB_distance 6 = .ok (.ifCond .ne 5, 3) := by decide +kernel
theorem d_SB_distance_9 : decode b_SB_distance 9 = .ok (.iconst (-1), 1) := by decide +kernel
theorem d_SB_distance_10 : decode b_SB_distance 10 = .ok (.ireturn, 1) := by decide +kernel
theorem d_SB_distance_11 : decode b_SB_distance 11 = .ok (.aload_n 0, 1) := by decide +kernel
theorem d_SB_distance_12 : decode b_SB_distance 12 = .ok (.getfield 66, 3) := by decide +kernel
theorem d_SB_distance_15 : decode b_SB_distance 15 = .ok (.aload_n 0, 1) := by decide +kernel
theorem d_SB_distance_16 : decode b_SB_distance 16 = .ok (.getfield 57, 3) := by decide +kernel
theorem d_SB_distance_19 : decode b_SB_distance 19 = .ok (.iload_n 1, 1) := by decide +kernel
theorem d_SB_distance_20 : decode b_SB_distance 20 = .ok (.aaload, 1) := by decide +kernel
theorem d_SB_distance_21 : decode b_SB_distance 21 = .ok (.aload_n 0, 1) := by decide +kernel
theorem d_SB_distance_22 : decode b_SB_distance 22 = .ok (.getfield 28, 3) := by decide +kernel
theorem d_SB_distance_25 : decode b_SB_distance 25 = .ok (.getfield 173, 3) := by decide +kernel
theorem d_SB_distance_28 : decode b_SB_distance 28 = .ok (.invokevirtual 176, 3) := by decide +kernel
theorem d_SB_distance_31 : decode b_SB_distance 31 = .ok (.aload_n 0, 1) := by decide +kernel
theorem d_SB_distance_32 : decode b_SB_distance 32 = .ok (.getfield 66, 3) := by decide +kernel
theorem d_SB_distance_35 : decode b_SB_distance 35 = .ok (.iload_n 2, 1) := by decide +kernel
theorem d_SB_distance_36 : decode b_SB_distance 36 = .ok (.invokevirtual 187, 3) := by decide +kernel
theorem d_SB_distance_39 : decode b_SB_distance 39 = .ok (.ireturn, 1) := by decide +kernel
theorem d_SB_size_0 : decode b_SB_size 0 = .ok (.aload_n 0, 1) := by decide +kernel
theorem d_SB_size_1 : decode b_SB_size 1 = .ok (.iload_n 1, 1) := by decide +kernel
theorem d_SB_size_2 : decode b_SB_size 2 = .ok (.invokevirtual 157, 3) := by decide +kernel
theorem d_SB_size_5 : decode b_SB_size 5 = .ok (.ifCond .eq 10, 3) := by decide +kernel
theorem d_SB_size_8 : decode b_SB_size 8 = .ok (.iload_n 3, 1) := by decide +kernel
theorem d_SB_size_9 : decode b_SB_size 9 = .ok (.invokestatic 123, 3) := by decide +kernel
theorem d_SB_size_12 : decode b_SB_size 12 = .ok (.ifCond .ne 5, 3) := by decide +kernel
theorem d_SB_size_15 : decode b_SB_size 15 = .ok (.iconst (-1), 1) := by decide +kernel
theorem d_SB_size_16 : decode b_SB_size 16 = .ok (.ireturn, 1) := by decide +kernel
theorem d_SB_size_17 : decode b_SB_size 17 = .ok (.aload_n 0, 1) := by decide +kernel
theorem d_SB_size_18 : decode b_SB_size 18 = .ok (.getfield 75, 3) := by decide +kernel
theorem d_SB_size_21 : decode b_SB_size 21 = .ok (.aload_n 0, 1) := by decide +kernel
theorem d_SB_size_22 : decode b_SB_size 22 = .ok (.getfield 57, 3) := by decide +kernel
theorem d_SB_size_25 : decode b_SB_size 25 = .ok (.iload_n 1, 1) := by decide +kernel
theorem d_SB_size_26 : decode b_SB_size 26 = .ok (.aaload, 1) := by decide +kernel
theorem d_SB_size_27 : decode b_SB_size 27 = .ok (.aload_n 0, 1) := by decide +kernel
theorem d_SB_size_28 : decode b_SB_size 28 = .ok (.getfield 28, 3) := by decide +kernel
theorem d_SB_size_31 : decode b_SB_size 31 = .ok (.iload_n 3, 1) := by decide +kernel
theorem d_SB_size_32 : decode b_SB_size 32 = .ok (.invokevirtual 190, 3) := by decide +kernel
theorem d_SB_size_35 : decode b_SB_size 35 = .ok (.iload_n 2, 1) := by decide +kernel
theorem d_SB_size_36 : decode b_SB_size 36 = .ok (.lookupswitch 44 #[(0, 28), (1, 36)], 28) := by decide +kernel
theorem d_SB_size_64 : decode b_SB_size 64 = .ok (.aload_n 0, 1) := by decide +kernel
theorem d_SB_size_65 : decode b_SB_size 65 = .ok (.getfield 75, 3) := by decide +kernel
theorem d_SB_size_68 : decode b_SB_size 68 = .ok (.getfield 194, 3) := by decide +kernel
theorem d_SB_size_71 : decode b_SB_size 71 = .ok (.ireturn, 1) := by decide +kernel
theorem d_SB_size_72 : decode b_SB_size 72 = .ok (.aload_n 0, 1) := by decide +kernel
theorem d_SB_size_73 : decode b_SB_size 73 = .ok (.getfield 75, 3) := by decide +kernel
theorem d_SB_size_76 : decode b_SB_size 76 = .ok (.invokevirtual 197, 3) := by decide +kernel
theorem d_SB_size_79 : decode b_SB_size 79 = .ok (.ireturn, 1) := by decide +kernel
theorem d_SB_size_80 : decode b_SB_size 80 = .ok (.iconst (-1), 1) := by decide +kernel
theorem d_SB_size_81 : decode b_SB_size 81 = .ok (.ireturn, 1) := by decide +kernel
theorem d_SB_drawn_0 : decode b_SB_drawn 0 = .ok (.aload_n 0, 1) := by decide +kernel
theorem d_SB_drawn_1 : decode b_SB_drawn 1 = .ok (.iload_n 1, 1) := by decide +kernel
theorem d_SB_drawn_2 : decode b_SB_drawn 2 = .ok (.invokevirtual 157, 3) := by decide +kernel
theorem d_SB_drawn_5 : decode b_SB_drawn 5 = .ok (.ifCond .eq 14, 3) := by decide +kernel
theorem d_SB_drawn_8 : decode b_SB_drawn 8 = .ok (.iload_n 2, 1) := by decide +kernel
theorem d_SB_drawn_9 : decode b_SB_drawn 9 = .ok (.invokestatic 123, 3) := by decide +kernel
theorem d_SB_drawn_12 : decode b_SB_drawn 12 = .ok (.ifCond .eq 7, 3) := by decide +kernel
theorem d_SB_drawn_15 : decode b_SB_drawn 15 = .ok (.iload_n 3, 1) := by decide +kernel
theorem d_SB_drawn_16 : decode b_SB_drawn 16 = .ok (.ifCond .ge 5, 3) := by decide +kernel
theorem d_SB_drawn_19 : decode b_SB_drawn 19 = .ok (.iconst (-1), 1) := by decide +kernel
theorem d_SB_drawn_20 : decode b_SB_drawn 20 = .ok (.ireturn, 1) := by decide +kernel
theorem d_SB_drawn_21 : decode b_SB_drawn 21 = .ok (.aload_n 0, 1) := by decide +kernel
theorem d_SB_drawn_22 : decode b_SB_drawn 22 = .ok (.getfield 57, 3) := by decide +kernel
theorem d_SB_drawn_25 : decode b_SB_drawn 25 = .ok (.iload_n 1, 1) := by decide +kernel
theorem d_SB_drawn_26 : decode b_SB_drawn 26 = .ok (.aaload, 1) := by decide +kernel
theorem d_SB_drawn_27 : decode b_SB_drawn 27 = .ok (.astore 5, 2) := by decide +kernel
theorem d_SB_drawn_29 : decode b_SB_drawn 29 = .ok (.aload_n 0, 1) := by decide +kernel
theorem d_SB_drawn_30 : decode b_SB_drawn 30 = .ok (.getfield 66, 3) := by decide +kernel
theorem d_SB_drawn_33 : decode b_SB_drawn 33 = .ok (.aload 5, 2) := by decide +kernel
theorem d_SB_drawn_35 : decode b_SB_drawn 35 = .ok (.aload_n 0, 1) := by decide +kernel
theorem d_SB_drawn_36 : decode b_SB_drawn 36 = .ok (.getfield 28, 3) := by decide +kernel
theorem d_SB_drawn_39 : decode b_SB_drawn 39 = .ok (.getfield 173, 3) := by decide +kernel
theorem d_SB_drawn_42 : decode b_SB_drawn 42 = .ok (.invokevirtual 176, 3) := by decide +kernel
theorem d_SB_drawn_45 : decode b_SB_drawn 45 = .ok (.aload_n 0, 1) := by decide +kernel
theorem d_SB_drawn_46 : decode b_SB_drawn 46 = .ok (.getfield 75, 3) := by decide +kernel
theorem d_SB_drawn_49 : decode b_SB_drawn 49 = .ok (.aload 5, 2) := by decide +kernel
theorem d_SB_drawn_51 : decode b_SB_drawn 51 = .ok (.aload_n 0, 1) := by decide +kernel
theorem d_SB_drawn_52 : decode b_SB_drawn 52 = .ok (.getfield 28, 3) := by decide +kernel
theorem d_SB_drawn_55 : decode b_SB_drawn 55 = .ok (.iload_n 2, 1) := by decide +kernel
theorem d_SB_drawn_56 : decode b_SB_drawn 56 = .ok (.invokevirtual 190, 3) := by decide +kernel
theorem d_SB_drawn_59 : decode b_SB_drawn 59 = .ok (.iload_n 3, 1) := by decide +kernel
theorem d_SB_drawn_60 : decode b_SB_drawn 60 = .ok (.istore 6, 2) := by decide +kernel
theorem d_SB_drawn_62 : decode b_SB_drawn 62 = .ok (.iconst 0, 1) := by decide +kernel
theorem d_SB_drawn_63 : decode b_SB_drawn 63 = .ok (.istore 7, 2) := by decide +kernel
theorem d_SB_drawn_65 : decode b_SB_drawn 65 = .ok (.iload 7, 2) := by decide +kernel
theorem d_SB_drawn_67 : decode b_SB_drawn 67 = .ok (.aload 5, 2) := by decide +kernel
theorem d_SB_drawn_69 : decode b_SB_drawn 69 = .ok (.getfield 201, 3) := by decide +kernel
theorem d_SB_drawn_72 : decode b_SB_drawn 72 = .ok (.if_icmp .ge 70, 3) := by decide +kernel
theorem d_SB_drawn_75 : decode b_SB_drawn 75 = .ok (.aload_n 0, 1) := by decide +kernel
theorem d_SB_drawn_76 : decode b_SB_drawn 76 = .ok (.getfield 66, 3) := by decide +kernel
theorem d_SB_drawn_79 : decode b_SB_drawn 79 = .ok (.iload 7, 2) := by decide +kernel
theorem d_SB_drawn_81 : decode b_SB_drawn 81 = .ok (.invokevirtual 184, 3) := by decide +kernel
theorem d_SB_drawn_84 : decode b_SB_drawn 84 = .ok (.istore 8, 2) := by decide +kernel
theorem d_SB_drawn_86 : decode b_SB_drawn 86 = .ok (.iconst 1, 1) := by decide +kernel
theorem d_SB_drawn_87 : decode b_SB_drawn 87 = .ok (.aload_n 0, 1) := by decide +kernel
theorem d_SB_drawn_88 : decode b_SB_drawn 88 = .ok (.getfield 44, 3) := by decide +kernel
theorem d_SB_drawn_91 : decode b_SB_drawn 91 = .ok (.aload 5, 2) := by decide +kernel
theorem d_SB_drawn_93 : decode b_SB_drawn 93 = .ok (.getfield 180, 3) := by decide +kernel
theorem d_SB_drawn_96 : decode b_SB_drawn 96 = .ok (.iload 8, 2) := by decide +kernel
theorem d_SB_drawn_98 : decode b_SB_drawn 98 = .ok (.iaload, 1) := by decide +kernel
theorem d_SB_drawn_99 : decode b_SB_drawn 99 = .ok (.aaload, 1) := by decide +kernel
theorem d_SB_drawn_100 : decode b_SB_drawn 100 = .ok (.getfield 204, 3) := by decide +kernel
theorem d_SB_drawn_103 : decode b_SB_drawn 103 = .ok (.iadd, 1) := by decide +kernel
theorem d_SB_drawn_104 : decode b_SB_drawn 104 = .ok (.istore 9, 2) := by decide +kernel
theorem d_SB_drawn_106 : decode b_SB_drawn 106 = .ok (.iload 6, 2) := by decide +kernel
theorem d_SB_drawn_108 : decode b_SB_drawn 108 = .ok (.iload 9, 2) := by decide +kernel
theorem d_SB_drawn_110 : decode b_SB_drawn 110 = .ok (.if_icmp .ge 19, 3) := by decide +kernel
theorem d_SB_drawn_113 : decode b_SB_drawn 113 = .ok (.aload_n 0, 1) := by decide +kernel
theorem d_SB_drawn_114 : decode b_SB_drawn 114 = .ok (.getfield 75, 3) := by decide +kernel
theorem d_SB_drawn_117 : decode b_SB_drawn 117 = .ok (.iload 8, 2) := by decide +kernel
theorem d_SB_drawn_119 : decode b_SB_drawn 119 = .ok (.iload 7, 2) := by decide +kernel
theorem d_SB_drawn_121 : decode b_SB_drawn 121 = .ok (.iload 6, 2) := by decide +kernel
theorem d_SB_drawn_123 : decode b_SB_drawn 123 = .ok (.iload 4, 2) := by decide +kernel
theorem d_SB_drawn_125 : decode b_SB_drawn 125 = .ok (.invokevirtual 205, 3) := by decide +kernel
theorem d_SB_drawn_128 : decode b_SB_drawn 128 = .ok (.ireturn, 1) := by decide +kernel
theorem d_SB_drawn_129 : decode b_SB_drawn 129 = .ok (.iload 6, 2) := by decide +kernel
theorem d_SB_drawn_131 : decode b_SB_drawn 131 = .ok (.iload 9, 2) := by decide +kernel
theorem d_SB_drawn_133 : decode b_SB_drawn 133 = .ok (.isub, 1) := by decide +kernel
theorem d_SB_drawn_134 : decode b_SB_drawn 134 = .ok (.istore 6, 2) := by decide +kernel
theorem d_SB_drawn_136 : decode b_SB_drawn 136 = .ok (.iinc 7 1, 3) := by decide +kernel
theorem d_SB_drawn_139 : decode b_SB_drawn 139 = .ok (.goto (-74), 3) := by decide +kernel
theorem d_SB_drawn_142 : decode b_SB_drawn 142 = .ok (.iconst (-1), 1) := by decide +kernel
theorem d_SB_drawn_143 : decode b_SB_drawn 143 = .ok (.ireturn, 1) := by decide +kernel
theorem d_SB_shows_0 : decode b_SB_shows 0 = .ok (.aload_n 0, 1) := by decide +kernel
theorem d_SB_shows_1 : decode b_SB_shows 1 = .ok (.getfield 51, 3) := by decide +kernel
theorem d_SB_shows_4 : decode b_SB_shows 4 = .ok (.iload_n 1, 1) := by decide +kernel
theorem d_SB_shows_5 : decode b_SB_shows 5 = .ok (.invokevirtual 148, 3) := by decide +kernel
theorem d_SB_shows_8 : decode b_SB_shows 8 = .ok (.ifCond .eq 27, 3) := by decide +kernel
theorem d_SB_shows_11 : decode b_SB_shows 11 = .ok (.aload_n 0, 1) := by decide +kernel
theorem d_SB_shows_12 : decode b_SB_shows 12 = .ok (.iload_n 2, 1) := by decide +kernel
theorem d_SB_shows_13 : decode b_SB_shows 13 = .ok (.invokevirtual 130, 3) := by decide +kernel
theorem d_SB_shows_16 : decode b_SB_shows 16 = .ok (.ifCond .eq 19, 3) := by decide +kernel
theorem d_SB_shows_19 : decode b_SB_shows 19 = .ok (.aload_n 0, 1) := by decide +kernel
theorem d_SB_shows_20 : decode b_SB_shows 20 = .ok (.getfield 51, 3) := by decide +kernel
theorem d_SB_shows_23 : decode b_SB_shows 23 = .ok (.iload_n 1, 1) := by decide +kernel
theorem d_SB_shows_24 : decode b_SB_shows 24 = .ok (.iload_n 2, 1) := by decide +kernel
theorem d_SB_shows_25 : decode b_SB_shows 25 = .ok (.invokevirtual 209, 3) := by decide +kernel
theorem d_SB_shows_28 : decode b_SB_shows 28 = .ok (.ifCond .eq 7, 3) := by decide +kernel
theorem d_SB_shows_31 : decode b_SB_shows 31 = .ok (.iconst 1, 1) := by decide +kernel
theorem d_SB_shows_32 : decode b_SB_shows 32 = .ok (.goto 4, 3) := by decide +kernel
theorem d_SB_shows_35 : decode b_SB_shows 35 = .ok (.iconst 0, 1) := by decide +kernel
theorem d_SB_shows_36 : decode b_SB_shows 36 = .ok (.ireturn, 1) := by decide +kernel
theorem d_SB_breaks_0 : decode b_SB_breaks 0 = .ok (.aload_n 0, 1) := by decide +kernel
theorem d_SB_breaks_1 : decode b_SB_breaks 1 = .ok (.getfield 82, 3) := by decide +kernel
theorem d_SB_breaks_4 : decode b_SB_breaks 4 = .ok (.aload_n 0, 1) := by decide +kernel
theorem d_SB_breaks_5 : decode b_SB_breaks 5 = .ok (.getfield 106, 3) := by decide +kernel
theorem d_SB_breaks_8 : decode b_SB_breaks 8 = .ok (.invokevirtual 212, 3) := by decide +kernel
theorem d_SB_breaks_11 : decode b_SB_breaks 11 = .ok (.aload_n 0, 1) := by decide +kernel
theorem d_SB_breaks_12 : decode b_SB_breaks 12 = .ok (.getfield 82, 3) := by decide +kernel
theorem d_SB_breaks_15 : decode b_SB_breaks 15 = .ok (.iload_n 1, 1) := by decide +kernel
theorem d_SB_breaks_16 : decode b_SB_breaks 16 = .ok (.iload_n 2, 1) := by decide +kernel
theorem d_SB_breaks_17 : decode b_SB_breaks 17 = .ok (.invokevirtual 216, 3) := by decide +kernel
theorem d_SB_breaks_20 : decode b_SB_breaks 20 = .ok (.ireturn, 1) := by decide +kernel
theorem d_SB_count_0 : decode b_SB_count 0 = .ok (.iload_n 1, 1) := by decide +kernel
theorem d_SB_count_1 : decode b_SB_count 1 = .ok (.tableswitch 92 0 5 #[39, 44, 52, 57, 65, 84], 39) := by decide +kernel
theorem d_SB_count_40 : decode b_SB_count 40 = .ok (.aload_n 0, 1) := by decide +kernel
theorem d_SB_count_41 : decode b_SB_count 41 = .ok (.getfield 106, 3) := by decide +kernel
theorem d_SB_count_44 : decode b_SB_count 44 = .ok (.ireturn, 1) := by decide +kernel
theorem d_SB_count_45 : decode b_SB_count 45 = .ok (.aload_n 0, 1) := by decide +kernel
theorem d_SB_count_46 : decode b_SB_count 46 = .ok (.getfield 51, 3) := by decide +kernel
theorem d_SB_count_49 : decode b_SB_count 49 = .ok (.getfield 220, 3) := by decide +kernel
theorem d_SB_count_52 : decode b_SB_count 52 = .ok (.ireturn, 1) := by decide +kernel
theorem d_SB_count_53 : decode b_SB_count 53 = .ok (.aload_n 0, 1) := by decide +kernel
theorem d_SB_count_54 : decode b_SB_count 54 = .ok (.getfield 151, 3) := by decide +kernel
theorem d_SB_count_57 : decode b_SB_count 57 = .ok (.ireturn, 1) := by decide +kernel
theorem d_SB_count_58 : decode b_SB_count 58 = .ok (.aload_n 0, 1) := by decide +kernel
theorem d_SB_count_59 : decode b_SB_count 59 = .ok (.getfield 38, 3) := by decide +kernel
theorem d_SB_count_62 : decode b_SB_count 62 = .ok (.getfield 223, 3) := by decide +kernel
theorem d_SB_count_65 : decode b_SB_count 65 = .ok (.ireturn, 1) := by decide +kernel
theorem d_SB_count_66 : decode b_SB_count 66 = .ok (.aload_n 0, 1) := by decide +kernel
theorem d_SB_count_67 : decode b_SB_count 67 = .ok (.getfield 82, 3) := by decide +kernel
theorem d_SB_count_70 : decode b_SB_count 70 = .ok (.aload_n 0, 1) := by decide +kernel
theorem d_SB_count_71 : decode b_SB_count 71 = .ok (.getfield 106, 3) := by decide +kernel
theorem d_SB_count_74 : decode b_SB_count 74 = .ok (.invokevirtual 212, 3) := by decide +kernel
theorem d_SB_count_77 : decode b_SB_count 77 = .ok (.aload_n 0, 1) := by decide +kernel
theorem d_SB_count_78 : decode b_SB_count 78 = .ok (.getfield 82, 3) := by decide +kernel
theorem d_SB_count_81 : decode b_SB_count 81 = .ok (.getfield 226, 3) := by decide +kernel
theorem d_SB_count_84 : decode b_SB_count 84 = .ok (.ireturn, 1) := by decide +kernel
theorem d_SB_count_85 : decode b_SB_count 85 = .ok (.aload_n 0, 1) := by decide +kernel
theorem d_SB_count_86 : decode b_SB_count 86 = .ok (.getfield 10, 3) := by decide +kernel
theorem d_SB_count_89 : decode b_SB_count 89 = .ok (.getfield 102, 3) := by decide +kernel
theorem d_SB_count_92 : decode b_SB_count 92 = .ok (.ireturn, 1) := by decide +kernel
theorem d_SB_count_93 : decode b_SB_count 93 = .ok (.iconst (-1), 1) := by decide +kernel
theorem d_SB_count_94 : decode b_SB_count 94 = .ok (.ireturn, 1) := by decide +kernel
theorem d_SB_isWithin_0 : decode b_SB_isWithin 0 = .ok (.iload_n 0, 1) := by decide +kernel
theorem d_SB_isWithin_1 : decode b_SB_isWithin 1 = .ok (.iload_n 1, 1) := by decide +kernel
theorem d_SB_isWithin_2 : decode b_SB_isWithin 2 = .ok (.if_icmp .lt 12, 3) := by decide +kernel
theorem d_SB_isWithin_5 : decode b_SB_isWithin 5 = .ok (.iload_n 0, 1) := by decide +kernel
theorem d_SB_isWithin_6 : decode b_SB_isWithin 6 = .ok (.iload_n 2, 1) := by decide +kernel
theorem d_SB_isWithin_7 : decode b_SB_isWithin 7 = .ok (.if_icmp .gt 7, 3) := by decide +kernel
theorem d_SB_isWithin_10 : decode b_SB_isWithin 10 = .ok (.iconst 1, 1) := by decide +kernel
theorem d_SB_isWithin_11 : decode b_SB_isWithin 11 = .ok (.goto 4, 3) := by decide +kernel
theorem d_SB_isWithin_14 : decode b_SB_isWithin 14 = .ok (.iconst 0, 1) := by decide +kernel
theorem d_SB_isWithin_15 : decode b_SB_isWithin 15 = .ok (.ireturn, 1) := by decide +kernel
theorem d_SB_isLetter_0 : decode b_SB_isLetter 0 = .ok (.iload_n 0, 1) := by decide +kernel
theorem d_SB_isLetter_1 : decode b_SB_isLetter 1 = .ok (.bipush 32, 2) := by decide +kernel
theorem d_SB_isLetter_3 : decode b_SB_isLetter 3 = .ok (.bipush 126, 2) := by decide +kernel
theorem d_SB_isLetter_5 : decode b_SB_isLetter 5 = .ok (.invokestatic 112, 3) := by decide +kernel
theorem d_SB_isLetter_8 : decode b_SB_isLetter 8 = .ok (.ireturn, 1) := by decide +kernel
theorem d_SB_isSpeed_0 : decode b_SB_isSpeed 0 = .ok (.iload_n 0, 1) := by decide +kernel
theorem d_SB_isSpeed_1 : decode b_SB_isSpeed 1 = .ok (.iconst 1, 1) := by decide +kernel
theorem d_SB_isSpeed_2 : decode b_SB_isSpeed 2 = .ok (.sipush 999, 3) := by decide +kernel
theorem d_SB_isSpeed_5 : decode b_SB_isSpeed 5 = .ok (.invokestatic 112, 3) := by decide +kernel
theorem d_SB_isSpeed_8 : decode b_SB_isSpeed 8 = .ok (.ireturn, 1) := by decide +kernel
theorem d_SB_isNode_0 : decode b_SB_isNode 0 = .ok (.iload_n 0, 1) := by decide +kernel
theorem d_SB_isNode_1 : decode b_SB_isNode 1 = .ok (.iconst 0, 1) := by decide +kernel
theorem d_SB_isNode_2 : decode b_SB_isNode 2 = .ok (.bipush 9, 2) := by decide +kernel
theorem d_SB_isNode_4 : decode b_SB_isNode 4 = .ok (.invokestatic 112, 3) := by decide +kernel
theorem d_SB_isNode_7 : decode b_SB_isNode 7 = .ok (.ireturn, 1) := by decide +kernel
theorem d_SB_isName_0 : decode b_SB_isName 0 = .ok (.iload_n 1, 1) := by decide +kernel
theorem d_SB_isName_1 : decode b_SB_isName 1 = .ok (.iconst 0, 1) := by decide +kernel
theorem d_SB_isName_2 : decode b_SB_isName 2 = .ok (.aload_n 0, 1) := by decide +kernel
theorem d_SB_isName_3 : decode b_SB_isName 3 = .ok (.getfield 106, 3) := by decide +kernel
theorem d_SB_isName_6 : decode b_SB_isName 6 = .ok (.iconst 1, 1) := by decide +kernel
theorem d_SB_isName_7 : decode b_SB_isName 7 = .ok (.isub, 1) := by decide +kernel
theorem d_SB_isName_8 : decode b_SB_isName 8 = .ok (.invokestatic 112, 3) := by decide +kernel
theorem d_SB_isName_11 : decode b_SB_isName 11 = .ok (.ireturn, 1) := by decide +kernel
theorem d_SB_isBoard_0 : decode b_SB_isBoard 0 = .ok (.iload_n 1, 1) := by decide +kernel
theorem d_SB_isBoard_1 : decode b_SB_isBoard 1 = .ok (.iconst 0, 1) := by decide +kernel
theorem d_SB_isBoard_2 : decode b_SB_isBoard 2 = .ok (.aload_n 0, 1) := by decide +kernel
theorem d_SB_isBoard_3 : decode b_SB_isBoard 3 = .ok (.getfield 151, 3) := by decide +kernel
theorem d_SB_isBoard_6 : decode b_SB_isBoard 6 = .ok (.iconst 1, 1) := by decide +kernel
theorem d_SB_isBoard_7 : decode b_SB_isBoard 7 = .ok (.isub, 1) := by decide +kernel
theorem d_SB_isBoard_8 : decode b_SB_isBoard 8 = .ok (.invokestatic 112, 3) := by decide +kernel
theorem d_SB_isBoard_11 : decode b_SB_isBoard 11 = .ok (.ireturn, 1) := by decide +kernel
theorem d_SB_isLine_0 : decode b_SB_isLine 0 = .ok (.aload_n 0, 1) := by decide +kernel
theorem d_SB_isLine_1 : decode b_SB_isLine 1 = .ok (.iload_n 1, 1) := by decide +kernel
theorem d_SB_isLine_2 : decode b_SB_isLine 2 = .ok (.invokevirtual 157, 3) := by decide +kernel
theorem d_SB_isLine_5 : decode b_SB_isLine 5 = .ok (.ifCond .eq 26, 3) := by decide +kernel
theorem d_SB_isLine_8 : decode b_SB_isLine 8 = .ok (.iload_n 2, 1) := by decide +kernel
theorem d_SB_isLine_9 : decode b_SB_isLine 9 = .ok (.iconst 0, 1) := by decide +kernel
theorem d_SB_isLine_10 : decode b_SB_isLine 10 = .ok (.aload_n 0, 1) := by decide +kernel
theorem d_SB_isLine_11 : decode b_SB_isLine 11 = .ok (.getfield 57, 3) := by decide +kernel
theorem d_SB_isLine_14 : decode b_SB_isLine 14 = .ok (.iload_n 1, 1) := by decide +kernel
theorem d_SB_isLine_15 : decode b_SB_isLine 15 = .ok (.aaload, 1) := by decide +kernel
theorem d_SB_isLine_16 : decode b_SB_isLine 16 = .ok (.getfield 201, 3) := by decide +kernel
theorem d_SB_isLine_19 : decode b_SB_isLine 19 = .ok (.iconst 1, 1) := by decide +kernel
theorem d_SB_isLine_20 : decode b_SB_isLine 20 = .ok (.isub, 1) := by decide +kernel
theorem d_SB_isLine_21 : decode b_SB_isLine 21 = .ok (.invokestatic 112, 3) := by decide +kernel
theorem d_SB_isLine_24 : decode b_SB_isLine 24 = .ok (.ifCond .eq 7, 3) := by decide +kernel
theorem d_SB_isLine_27 : decode b_SB_isLine 27 = .ok (.iconst 1, 1) := by decide +kernel
theorem d_SB_isLine_28 : decode b_SB_isLine 28 = .ok (.goto 4, 3) := by decide +kernel
theorem d_SB_isLine_31 : decode b_SB_isLine 31 = .ok (.iconst 0, 1) := by decide +kernel
theorem d_SB_isLine_32 : decode b_SB_isLine 32 = .ok (.ireturn, 1) := by decide +kernel
