theorem d_MO_init_0 : decode b_MO_init 0 = .ok (.aload_n 0, 1) := by decide +kernel
theorem d_MO_init_1 : decode b_MO_init 1 = .ok (.invokespecial 1, 3) := by decide +kernel
theorem d_MO_init_4 : decode b_MO_init 4 = .ok (.aload_n 0, 1) := by decide +kernel
theorem d_MO_init_5 : decode b_MO_init 5 = .ok (.bipush 100, 2) := by decide +kernel
theorem d_MO_init_7 : decode b_MO_init 7 = .ok (.newarray .int, 2) := by decide +kernel
theorem d_MO_init_9 : decode b_MO_init 9 = .ok (.putfield 7, 3) := by decide +kernel
theorem d_MO_init_12 : decode b_MO_init 12 = .ok (.aload_n 0, 1) := by decide +kernel
theorem d_MO_init_13 : decode b_MO_init 13 = .ok (.iconst 1, 1) := by decide +kernel
theorem d_MO_init_14 : decode b_MO_init 14 = .ok (.putfield 13, 3) := by decide +kernel
theorem d_MO_init_17 : decode b_MO_init 17 = .ok (.aload_n 0, 1) := by decide +kernel
theorem d_MO_init_18 : decode b_MO_init 18 = .ok (.bipush 6, 2) := by decide +kernel
theorem d_MO_init_20 : decode b_MO_init 20 = .ok (.newarray .int, 2) := by decide +kernel
theorem d_MO_init_22 : decode b_MO_init 22 = .ok (.putfield 17, 3) := by decide +kernel
theorem d_MO_init_25 : decode b_MO_init 25 = .ok (.aload_n 0, 1) := by decide +kernel
theorem d_MO_init_26 : decode b_MO_init 26 = .ok (.bipush 6, 2) := by decide +kernel
theorem d_MO_init_28 : decode b_MO_init 28 = .ok (.newarray .int, 2) := by decide +kernel
theorem d_MO_init_30 : decode b_MO_init 30 = .ok (.putfield 20, 3) := by decide +kernel
theorem d_MO_init_33 : decode b_MO_init 33 = .ok (.aload_n 0, 1) := by decide +kernel
theorem d_MO_init_34 : decode b_MO_init 34 = .ok (.bipush 116, 2) := by decide +kernel
theorem d_MO_init_36 : decode b_MO_init 36 = .ok (.putfield 23, 3) := by decide +kernel
theorem d_MO_init_39 : decode b_MO_init 39 = .ok (.aload_n 0, 1) := by decide +kernel
theorem d_MO_init_40 : decode b_MO_init 40 = .ok (.bipush 6, 2) := by decide +kernel
theorem d_MO_init_42 : decode b_MO_init 42 = .ok (.newarray .int, 2) := by decide +kernel
theorem d_MO_init_44 : decode b_MO_init 44 = .ok (.putfield 26, 3) := by decide +kernel
theorem d_MO_init_47 : decode b_MO_init 47 = .ok (.aload_n 0, 1) := by decide +kernel
theorem d_MO_init_48 : decode b_MO_init 48 = .ok (.bipush 6, 2) := by decide +kernel
theorem d_MO_init_50 : decode b_MO_init 50 = .ok (.newarray .int, 2) := by decide +kernel
theorem d_MO_init_52 : decode b_MO_init 52 = .ok (.putfield 29, 3) := by decide +kernel
theorem d_MO_init_55 : decode b_MO_init 55 = .ok (.aload_n 0, 1) := by decide +kernel
theorem d_MO_init_56 : decode b_MO_init 56 = .ok (.sipush 128, 3) := by decide +kernel
theorem d_MO_init_59 : decode b_MO_init 59 = .ok (.newarray .int, 2) := by decide +kernel
theorem d_MO_init_61 : decode b_MO_init 61 = .ok (.putfield 32, 3) := by decide +kernel
theorem d_MO_init_64 : decode b_MO_init 64 = .ok (.aload_n 0, 1) := by decide +kernel
theorem d_MO_init_65 : decode b_MO_init 65 = .ok (.bipush 60, 2) := by decide +kernel
theorem d_MO_init_67 : decode b_MO_init 67 = .ok (.newarray .int, 2) := by decide +kernel
theorem d_MO_init_69 : decode b_MO_init 69 = .ok (.putfield 35, 3) := by decide +kernel
theorem d_MO_init_72 : decode b_MO_init 72 = .ok (.aload_n 0, 1) := by decide +kernel
theorem d_MO_init_73 : decode b_MO_init 73 = .ok (.bipush 60, 2) := by decide +kernel
theorem d_MO_init_75 : decode b_MO_init 75 = .ok (.newarray .int, 2) := by decide +kernel
theorem d_MO_init_77 : decode b_MO_init 77 = .ok (.putfield 38, 3) := by decide +kernel
theorem d_MO_init_80 : decode b_MO_init 80 = .ok (.aload_n 0, 1) := by decide +kernel
theorem d_MO_init_81 : decode b_MO_init 81 = .ok (.bipush 60, 2) := by decide +kernel
theorem d_MO_init_83 : decode b_MO_init 83 = .ok (.newarray .int, 2) := by decide +kernel
theorem d_MO_init_85 : decode b_MO_init 85 = .ok (.putfield 41, 3) := by decide +kernel
theorem d_MO_init_88 : decode b_MO_init 88 = .ok (.aload_n 0, 1) := by decide +kernel
theorem d_MO_init_89 : decode b_MO_init 89 = .ok (.bipush 10, 2) := by decide +kernel
theorem d_MO_init_91 : decode b_MO_init 91 = .ok (.newarray .int, 2) := by decide +kernel
theorem d_MO_init_93 : decode b_MO_init 93 = .ok (.putfield 44, 3) := by decide +kernel
theorem d_MO_init_96 : decode b_MO_init 96 = .ok (.aload_n 0, 1) := by decide +kernel
theorem d_MO_init_97 : decode b_MO_init 97 = .ok (.bipush 120, 2) := by decide +kernel
theorem d_MO_init_99 : decode b_MO_init 99 = .ok (.newarray .int, 2) := by decide +kernel
theorem d_MO_init_101 : decode b_MO_init 101 = .ok (.putfield 47, 3) := by decide +kernel
theorem d_MO_init_104 : decode b_MO_init 104 = .ok (.aload_n 0, 1) := by decide +kernel
theorem d_MO_init_105 : decode b_MO_init 105 = .ok (.bipush 10, 2) := by decide +kernel
theorem d_MO_init_107 : decode b_MO_init 107 = .ok (.newarray .int, 2) := by decide +kernel
theorem d_MO_init_109 : decode b_MO_init 109 = .ok (.putfield 50, 3) := by decide +kernel
theorem d_MO_init_112 : decode b_MO_init 112 = .ok (.aload_n 0, 1) := by decide +kernel
theorem d_MO_init_113 : decode b_MO_init 113 = .ok (.bipush 24, 2) := by decide +kernel
theorem d_MO_init_115 : decode b_MO_init 115 = .ok (.newarray .int, 2) := by decide +kernel
theorem d_MO_init_117 : decode b_MO_init 117 = .ok (.putfield 53, 3) := by decide +kernel
theorem d_MO_init_120 : decode b_MO_init 120 = .ok (.aload_n 0, 1) := by decide +kernel
theorem d_MO_init_121 : decode b_MO_init 121 = .ok (.bipush 24, 2) := by decide +kernel
theorem d_MO_init_123 : decode b_MO_init 123 = .ok (.newarray .int, 2) := by decide +kernel
theorem d_MO_init_125 : decode b_MO_init 125 = .ok (.putfield 56, 3) := by decide +kernel
theorem d_MO_init_128 : decode b_MO_init 128 = .ok (.aload_n 0, 1) := by decide +kernel
theorem d_MO_init_129 : decode b_MO_init 129 = .ok (.bipush 24, 2) := by decide +kernel
theorem d_MO_init_131 : decode b_MO_init 131 = .ok (.newarray .int, 2) := by decide +kernel
theorem d_MO_init_133 : decode b_MO_init 133 = .ok (.putfield 59, 3) := by decide +kernel
theorem d_MO_init_136 : decode b_MO_init 136 = .ok (.aload_n 0, 1) := by decide +kernel
theorem d_MO_init_137 : decode b_MO_init 137 = .ok (.bipush 8, 2) := by decide +kernel
theorem d_MO_init_139 : decode b_MO_init 139 = .ok (.newarray .int, 2) := by decide +kernel
theorem d_MO_init_141 : decode b_MO_init 141 = .ok (.putfield 62, 3) := by decide +kernel
theorem d_MO_init_144 : decode b_MO_init 144 = .ok (.aload_n 0, 1) := by decide +kernel
theorem d_MO_init_145 : decode b_MO_init 145 = .ok (.bipush 8, 2) := by decide +kernel
theorem d_MO_init_147 : decode b_MO_init 147 = .ok (.newarray .int, 2) := by decide +kernel
theorem d_MO_init_149 : decode b_MO_init 149 = .ok (.putfield 65, 3) := by decide +kernel
theorem d_MO_init_152 : decode b_MO_init 152 = .ok (.aload_n 0, 1) := by decide +kernel
theorem d_MO_init_153 : decode b_MO_init 153 = .ok (.bipush 40, 2) := by decide +kernel
theorem d_MO_init_155 : decode b_MO_init 155 = .ok (.newarray .int, 2) := by decide +kernel
theorem d_MO_init_157 : decode b_MO_init 157 = .ok (.putfield 68, 3) := by decide +kernel
theorem d_MO_init_160 : decode b_MO_init 160 = .ok (.aload_n 0, 1) := by decide +kernel
theorem d_MO_init_161 : decode b_MO_init 161 = .ok (.bipush 40, 2) := by decide +kernel
theorem d_MO_init_163 : decode b_MO_init 163 = .ok (.newarray .int, 2) := by decide +kernel
theorem d_MO_init_165 : decode b_MO_init 165 = .ok (.putfield 71, 3) := by decide +kernel
theorem d_MO_init_168 : decode b_MO_init 168 = .ok (.aload_n 0, 1) := by decide +kernel
theorem d_MO_init_169 : decode b_MO_init 169 = .ok (.bipush 8, 2) := by decide +kernel
theorem d_MO_init_171 : decode b_MO_init 171 = .ok (.newarray .int, 2) := by decide +kernel
theorem d_MO_init_173 : decode b_MO_init 173 = .ok (.putfield 74, 3) := by decide +kernel
theorem d_MO_init_176 : decode b_MO_init 176 = .ok (.aload_n 0, 1) := by decide +kernel
theorem d_MO_init_177 : decode b_MO_init 177 = .ok (.bipush 10, 2) := by decide +kernel
theorem d_MO_init_179 : decode b_MO_init 179 = .ok (.newarray .int, 2) := by decide +kernel
theorem d_MO_init_181 : decode b_MO_init 181 = .ok (.putfield 77, 3) := by decide +kernel
theorem d_MO_init_184 : decode b_MO_init 184 = .ok (.aload_n 0, 1) := by decide +kernel
theorem d_MO_init_185 : decode b_MO_init 185 = .ok (.iconst 5, 1) := by decide +kernel
theorem d_MO_init_186 : decode b_MO_init 186 = .ok (.newarray .int, 2) := by decide +kernel
theorem d_MO_init_188 : decode b_MO_init 188 = .ok (.putfield 80, 3) := by decide +kernel
theorem d_MO_init_191 : decode b_MO_init 191 = .ok (.aload_n 0, 1) := by decide +kernel
theorem d_MO_init_192 : decode b_MO_init 192 = .ok (.iconst 5, 1) := by decide +kernel
theorem d_MO_init_193 : decode b_MO_init 193 = .ok (.newarray .int, 2) := by decide +kernel
theorem d_MO_init_195 : decode b_MO_init 195 = .ok (.putfield 83, 3) := by decide +kernel
theorem d_MO_init_198 : decode b_MO_init 198 = .ok (.aload_n 0, 1) := by decide +kernel
theorem d_MO_init_199 : decode b_MO_init 199 = .ok (.getfield 17, 3) := by decide +kernel
theorem d_MO_init_202 : decode b_MO_init 202 = .ok (.iconst 0, 1) := by decide +kernel
theorem d_MO_init_203 : decode b_MO_init 203 = .ok (.bipush 50, 2) := by decide +kernel
theorem d_MO_init_205 : decode b_MO_init 205 = .ok (.iastore, 1) := by decide +kernel
theorem d_MO_init_206 : decode b_MO_init 206 = .ok (.aload_n 0, 1) := by decide +kernel
theorem d_MO_init_207 : decode b_MO_init 207 = .ok (.getfield 20, 3) := by decide +kernel
theorem d_MO_init_210 : decode b_MO_init 210 = .ok (.iconst 0, 1) := by decide +kernel
theorem d_MO_init_211 : decode b_MO_init 211 = .ok (.bipush 100, 2) := by decide +kernel
theorem d_MO_init_213 : decode b_MO_init 213 = .ok (.iastore, 1) := by decide +kernel
theorem d_MO_init_214 : decode b_MO_init 214 = .ok (.iconst 0, 1) := by decide +kernel
theorem d_MO_init_215 : decode b_MO_init 215 = .ok (.istore_n 1, 1) := by decide +kernel
theorem d_MO_init_216 : decode b_MO_init 216 = .ok (.iload_n 1, 1) := by decide +kernel
theorem d_MO_init_217 : decode b_MO_init 217 = .ok (.sipush 128, 3) := by decide +kernel
theorem d_MO_init_220 : decode b_MO_init 220 = .ok (.if_icmp .ge 17, 3) := by decide +kernel
theorem d_MO_init_223 : decode b_MO_init 223 = .ok (.aload_n 0, 1) := by decide +kernel
theorem d_MO_init_224 : decode b_MO_init 224 = .ok (.getfield 32, 3) := by decide +kernel
theorem d_MO_init_227 : decode b_MO_init 227 = .ok (.iload_n 1, 1) := by decide +kernel
theorem d_MO_init_228 : decode b_MO_init 228 = .ok (.bipush 8, 2) := by decide +kernel
theorem d_MO_init_230 : decode b_MO_init 230 = .ok (.iastore, 1) := by decide +kernel
theorem d_MO_init_231 : decode b_MO_init 231 = .ok (.iinc 1 1, 3) := by decide +kernel
theorem d_MO_init_234 : decode b_MO_init 234 = .ok (.goto (-18), 3) := by decide +kernel
theorem d_MO_init_237 : decode b_MO_init 237 = .ok (.return_, 1) := by decide +kernel
theorem d_MO_isSign_0 : decode b_MO_isSign 0 = .ok (.iload_n 0, 1) := by decide +kernel
theorem d_MO_isSign_1 : decode b_MO_isSign 1 = .ok (.bipush 32, 2) := by decide +kernel
theorem d_MO_isSign_3 : decode b_MO_isSign 3 = .ok (.if_icmp .lt 13, 3) := by decide +kernel
theorem d_MO_isSign_6 : decode b_MO_isSign 6 = .ok (.iload_n 0, 1) := by decide +kernel
theorem d_MO_isSign_7 : decode b_MO_isSign 7 = .ok (.bipush 126, 2) := by decide +kernel
theorem d_MO_isSign_9 : decode b_MO_isSign 9 = .ok (.if_icmp .gt 7, 3) := by decide +kernel
theorem d_MO_isSign_12 : decode b_MO_isSign 12 = .ok (.iconst 1, 1) := by decide +kernel
theorem d_MO_isSign_13 : decode b_MO_isSign 13 = .ok (.goto 4, 3) := by decide +kernel
theorem d_MO_isSign_16 : decode b_MO_isSign 16 = .ok (.iconst 0, 1) := by decide +kernel
theorem d_MO_isSign_17 : decode b_MO_isSign 17 = .ok (.ireturn, 1) := by decide +kernel
theorem d_MO_unit_0 : decode b_MO_unit 0 = .ok (.iload_n 1, 1) := by decide +kernel
theorem d_MO_unit_1 : decode b_MO_unit 1 = .ok (.invokestatic 86, 3) := by decide +kernel
theorem d_MO_unit_4 : decode b_MO_unit 4 = .ok (.ifCond .eq 12, 3) := by decide +kernel
theorem d_MO_unit_7 : decode b_MO_unit 7 = .ok (.aload_n 0, 1) := by decide +kernel
theorem d_MO_unit_8 : decode b_MO_unit 8 = .ok (.getfield 90, 3) := by decide +kernel
theorem d_MO_unit_11 : decode b_MO_unit 11 = .ok (.bipush 100, 2) := by decide +kernel
theorem d_MO_unit_13 : decode b_MO_unit 13 = .ok (.if_icmp .ne 5, 3) := by decide +kernel
theorem d_MO_unit_16 : decode b_MO_unit 16 = .ok (.iconst 0, 1) := by decide +kernel
theorem d_MO_unit_17 : decode b_MO_unit 17 = .ok (.ireturn, 1) := by decide +kernel
theorem d_MO_unit_18 : decode b_MO_unit 18 = .ok (.aload_n 0, 1) := by decide +kernel
theorem d_MO_unit_19 : decode b_MO_unit 19 = .ok (.getfield 7, 3) := by decide +kernel
theorem d_MO_unit_22 : decode b_MO_unit 22 = .ok (.aload_n 0, 1) := by decide +kernel
theorem d_MO_unit_23 : decode b_MO_unit 23 = .ok (.getfield 90, 3) := by decide +kernel
theorem d_MO_unit_26 : decode b_MO_unit 26 = .ok (.iload_n 1, 1) := by decide +kernel
theorem d_MO_unit_27 : decode b_MO_unit 27 = .ok (.iastore, 1) := by decide +kernel
theorem d_MO_unit_28 : decode b_MO_unit 28 = .ok (.aload_n 0, 1) := by decide +kernel
theorem d_MO_unit_29 : decode b_MO_unit 29 = .ok (.dup, 1) := by decide +kernel
theorem d_MO_unit_30 : decode b_MO_unit 30 = .ok (.getfield 90, 3) := by decide +kernel
theorem d_MO_unit_33 : decode b_MO_unit 33 = .ok (.iconst 1, 1) := by decide +kernel
theorem d_MO_unit_34 : decode b_MO_unit 34 = .ok (.iadd, 1) := by decide +kernel
theorem d_MO_unit_35 : decode b_MO_unit 35 = .ok (.putfield 90, 3) := by decide +kernel
theorem d_MO_unit_38 : decode b_MO_unit 38 = .ok (.iconst 1, 1) := by decide +kernel
theorem d_MO_unit_39 : decode b_MO_unit 39 = .ok (.ireturn, 1) := by decide +kernel
theorem d_MO_look_0 : decode b_MO_look 0 = .ok (.aload_n 0, 1) := by decide +kernel
theorem d_MO_look_1 : decode b_MO_look 1 = .ok (.getfield 93, 3) := by decide +kernel
theorem d_MO_look_4 : decode b_MO_look 4 = .ok (.aload_n 0, 1) := by decide +kernel
theorem d_MO_look_5 : decode b_MO_look 5 = .ok (.getfield 90, 3) := by decide +kernel
theorem d_MO_look_8 : decode b_MO_look 8 = .ok (.if_icmp .ge 30, 3) := by decide +kernel
theorem d_MO_look_11 : decode b_MO_look 11 = .ok (.aload_n 0, 1) := by decide +kernel
theorem d_MO_look_12 : decode b_MO_look 12 = .ok (.getfield 7, 3) := by decide +kernel
theorem d_MO_look_15 : decode b_MO_look 15 = .ok (.aload_n 0, 1) := by decide +kernel
theorem d_MO_look_16 : decode b_MO_look 16 = .ok (.getfield 93, 3) := by decide +kernel
theorem d_MO_look_19 : decode b_MO_look 19 = .ok (.iaload, 1) := by decide +kernel
theorem d_MO_look_20 : decode b_MO_look 20 = .ok (.bipush 32, 2) := by decide +kernel
theorem d_MO_look_22 : decode b_MO_look 22 = .ok (.if_icmp .ne 16, 3) := by decide +kernel
theorem d_MO_look_25 : decode b_MO_look 25 = .ok (.aload_n 0, 1) := by decide +kernel
theorem d_MO_look_26 : decode b_MO_look 26 = .ok (.dup, 1) := by decide +kernel
theorem d_MO_look_27 : decode b_MO_look 27 = .ok (.getfield 93, 3) := by decide +kernel
theorem d_MO_look_30 : decode b_MO_look 30 = .ok (.iconst 1, 1) := by decide +kernel
theorem d_MO_look_31 : decode b_MO_look 31 = .ok (.iadd, 1) := by decide +kernel
theorem d_MO_look_32 : decode b_MO_look 32 = .ok (.putfield 93, 3) := by decide +kernel
theorem d_MO_look_35 : decode b_MO_look 35 = .ok (.goto (-35), 3) := by decide +kernel
theorem d_MO_look_38 : decode b_MO_look 38 = .ok (.aload_n 0, 1) := by decide +kernel
theorem d_MO_look_39 : decode b_MO_look 39 = .ok (.getfield 93, 3) := by decide +kernel
theorem d_MO_look_42 : decode b_MO_look 42 = .ok (.aload_n 0, 1) := by decide +kernel
theorem d_MO_look_43 : decode b_MO_look 43 = .ok (.getfield 90, 3) := by decide +kernel
theorem d_MO_look_46 : decode b_MO_look 46 = .ok (.if_icmp .ge 15, 3) := by decide +kernel
theorem d_MO_look_49 : decode b_MO_look 49 = .ok (.aload_n 0, 1) := by decide +kernel
theorem d_MO_look_50 : decode b_MO_look 50 = .ok (.getfield 7, 3) := by decide +kernel
theorem d_MO_look_53 : decode b_MO_look 53 = .ok (.aload_n 0, 1) := by decide +kernel
theorem d_MO_look_54 : decode b_MO_look 54 = .ok (.getfield 93, 3) := by decide +kernel
theorem d_MO_look_57 : decode b_MO_look 57 = .ok (.iaload, 1) := by decide +kernel
theorem d_MO_look_58 : decode b_MO_look 58 = .ok (.goto 4, 3) := by decide +kernel
theorem d_MO_look_61 : decode b_MO_look 61 = .ok (.iconst 0, 1) := by decide +kernel
theorem d_MO_look_62 : decode b_MO_look 62 = .ok (.ireturn, 1) := by decide +kernel
theorem d_MO_number_0 : decode b_MO_number 0 = .ok (.aload_n 0, 1) := by decide +kernel
theorem d_MO_number_1 : decode b_MO_number 1 = .ok (.invokevirtual 96, 3) := by decide +kernel
theorem d_MO_number_4 : decode b_MO_number 4 = .ok (.istore_n 2, 1) := by decide +kernel
theorem d_MO_number_5 : decode b_MO_number 5 = .ok (.aload_n 0, 1) := by decide +kernel
theorem d_MO_number_6 : decode b_MO_number 6 = .ok (.getfield 93, 3) := by decide +kernel
theorem d_MO_number_9 : decode b_MO_number 9 = .ok (.istore_n 3, 1) := by decide +kernel
theorem d_MO_number_10 : decode b_MO_number 10 = .ok (.iconst 0, 1) := by decide +kernel
theorem d_MO_number_11 : decode b_MO_number 11 = .ok (.istore 4, 2) := by decide +kernel
theorem d_MO_number_13 : decode b_MO_number 13 = .ok (.iconst 0, 1) := by decide +kernel
theorem d_MO_number_14 : decode b_MO_number 14 = .ok (.istore 5, 2) := by decide +kernel
theorem d_MO_number_16 : decode b_MO_number 16 = .ok (.aload_n 0, 1) := by decide +kernel
theorem d_MO_number_17 : decode b_MO_number 17 = .ok (.getfield 93, 3) := by decide +kernel
theorem d_MO_number_20 : decode b_MO_number 20 = .ok (.aload_n 0, 1) := by decide +kernel
theorem d_MO_number_21 : decode b_MO_number 21 = .ok (.getfield 90, 3) := by decide +kernel
theorem d_MO_number_24 : decode b_MO_number 24 = .ok (.if_icmp .ge 78, 3) := by decide +kernel
theorem d_MO_number_27 : decode b_MO_number 27 = .ok (.aload_n 0, 1) := by decide +kernel
theorem d_MO_number_28 : decode b_MO_number 28 = .ok (.getfield 7, 3) := by decide +kernel
theorem d_MO_number_31 : decode b_MO_number 31 = .ok (.aload_n 0, 1) := by decide +kernel
theorem d_MO_number_32 : decode b_MO_number 32 = .ok (.getfield 93, 3) := by decide +kernel
theorem d_MO_number_35 : decode b_MO_number 35 = .ok (.iaload, 1) := by decide +kernel
theorem d_MO_number_36 : decode b_MO_number 36 = .ok (.bipush 48, 2) := by decide +kernel
theorem d_MO_number_38 : decode b_MO_number 38 = .ok (.if_icmp .lt 64, 3) := by decide +kernel
theorem d_MO_number_41 : decode b_MO_number 41 = .ok (.aload_n 0, 1) := by decide +kernel
theorem d_MO_number_42 : decode b_MO_number 42 = .ok (.getfield 7, 3) := by decide +kernel
theorem d_MO_number_45 : decode b_MO_number 45 = .ok (.aload_n 0, 1) := by decide +kernel
theorem d_MO_number_46 : decode b_MO_number 46 = .ok (.getfield 93, 3) := by decide +kernel
theorem d_MO_number_49 : decode b_MO_number 49 = .ok (.iaload, 1) := by decide +kernel
theorem d_MO_number_50 : decode b_MO_number 50 = .ok (.bipush 57, 2) := by decide +kernel
theorem d_MO_number_52 : decode b_MO_number 52 = .ok (.if_icmp .gt 50, 3) := by decide +kernel
theorem d_MO_number_55 : decode b_MO_number 55 = .ok (.iload 4, 2) := by decide +kernel
theorem d_MO_number_57 : decode b_MO_number 57 = .ok (.iconst 4, 1) := by decide +kernel
theorem d_MO_number_58 : decode b_MO_number 58 = .ok (.if_icmp .ge 24, 3) := by decide +kernel
theorem d_MO_number_61 : decode b_MO_number 61 = .ok (.bipush 10, 2) := by decide +kernel
theorem d_MO_number_63 : decode b_MO_number 63 = .ok (.iload 5, 2) := by decide +kernel
theorem d_MO_number_65 : decode b_MO_number 65 = .ok (.imul, 1) := by decide +kernel
theorem d_MO_number_66 : decode b_MO_number 66 = .ok (.aload_n 0, 1) := by decide +kernel
theorem d_MO_number_67 : decode b_MO_number 67 = .ok (.getfield 7, 3) := by decide +kernel
theorem d_MO_number_70 : decode b_MO_number 70 = .ok (.aload_n 0, 1) := by decide +kernel
theorem d_MO_number_71 : decode b_MO_number 71 = .ok (.getfield 93, 3) := by decide +kernel
theorem d_MO_number_74 : decode b_MO_number 74 = .ok (.iaload, 1) := by decide +kernel
theorem d_MO_number_75 : decode b_MO_number 75 = .ok (.iadd, 1) := by decide +kernel
theorem d_MO_number_76 : decode b_MO_number 76 = .ok (.bipush 48, 2) := by decide +kernel
theorem d_MO_number_78 : decode b_MO_number 78 = .ok (.isub, 1) := by decide +kernel
theorem d_MO_number_79 : decode b_MO_number 79 = .ok (.goto 5, 3) := by decide +kernel
theorem d_MO_number_82 : decode b_MO_number 82 = .ok (.iload 5, 2) := by decide +kernel
theorem d_MO_number_84 : decode b_MO_number 84 = .ok (.istore 5, 2) := by decide +kernel
theorem d_MO_number_86 : decode b_MO_number 86 = .ok (.iinc 4 1, 3) := by decide +kernel
theorem d_MO_number_89 : decode b_MO_number 89 = .ok (.aload_n 0, 1) := by decide +kernel
theorem d_MO_number_90 : decode b_MO_number 90 = .ok (.dup, 1) := by decide +kernel
theorem d_MO_number_91 : decode b_MO_number 91 = .ok (.getfield 93, 3) := by decide +kernel
theorem d_MO_number_94 : decode b_MO_number 94 = .ok (.iconst 1, 1) := by decide +kernel
theorem d_MO_number_95 : decode b_MO_number 95 = .ok (.iadd, 1) := by decide +kernel
theorem d_MO_number_96 : decode b_MO_number 96 = .ok (.putfield 93, 3) := by decide +kernel
theorem d_MO_number_99 : decode b_MO_number 99 = .ok (.goto (-83), 3) := by decide +kernel
theorem d_MO_number_102 : decode b_MO_number 102 = .ok (.iload 4, 2) := by decide +kernel
theorem d_MO_number_104 : decode b_MO_number 104 = .ok (.ifCond .eq 32, 3) := by decide +kernel
theorem d_MO_number_107 : decode b_MO_number 107 = .ok (.iload 4, 2) := by decide +kernel
theorem d_MO_number_109 : decode b_MO_number 109 = .ok (.iconst 3, 1) := by decide +kernel
theorem d_MO_number_110 : decode b_MO_number 110 = .ok (.if_icmp .gt 26, 3) := by decide +kernel
theorem d_MO_number_113 : decode b_MO_number 113 = .ok (.iload 4, 2) := by decide +kernel
theorem d_MO_number_115 : decode b_MO_number 115 = .ok (.iconst 1, 1) := by decide +kernel
theorem d_MO_number_116 : decode b_MO_number 116 = .ok (.if_icmp .le 14, 3) := by decide +kernel
theorem d_MO_number_119 : decode b_MO_number 119 = .ok (.aload_n 0, 1) := by decide +kernel
theorem d_MO_number_120 : decode b_MO_number 120 = .ok (.getfield 7, 3) := by decide +kernel
theorem d_MO_number_123 : decode b_MO_number 123 = .ok (.iload_n 3, 1) := by decide +kernel
theorem d_MO_number_124 : decode b_MO_number 124 = .ok (.iaload, 1) := by decide +kernel
theorem d_MO_number_125 : decode b_MO_number 125 = .ok (.bipush 48, 2) := by decide +kernel
theorem d_MO_number_127 : decode b_MO_number 127 = .ok (.if_icmp .eq 9, 3) := by decide +kernel
theorem d_MO_number_130 : decode b_MO_number 130 = .ok (.iload 5, 2) := by decide +kernel
theorem d_MO_number_132 : decode b_MO_number 132 = .ok (.iload_n 1, 1) := by decide +kernel
theorem d_MO_number_133 : decode b_MO_number 133 = .ok (.if_icmp .ge 13, 3) := by decide +kernel
theorem d_MO_number_136 : decode b_MO_number 136 = .ok (.aload_n 0, 1) := by decide +kernel
theorem d_MO_number_137 : decode b_MO_number 137 = .ok (.iload_n 3, 1) := by decide +kernel
theorem d_MO_number_138 : decode b_MO_number 138 = .ok (.putfield 93, 3) := by decide +kernel
theorem d_MO_number_141 : decode b_MO_number 141 = .ok (.aload_n 0, 1) := by decide +kernel
theorem d_MO_number_142 : decode b_MO_number 142 = .ok (.iconst 1, 1) := by decide +kernel
theorem d_MO_number_143 : decode b_MO_number 143 = .ok (.putfield 100, 3) := by decide +kernel
theorem d_MO_number_146 : decode b_MO_number 146 = .ok (.iload 5, 2) := by decide +kernel
theorem d_MO_number_148 : decode b_MO_number 148 = .ok (.ireturn, 1) := by decide +kernel
theorem d_MO_readHeights_0 : decode b_MO_readHeights 0 = .ok (.aload_n 0, 1) := by decide +kernel
theorem d_MO_readHeights_1 : decode b_MO_readHeights 1 = .ok (.iconst 0, 1) := by decide +kernel
theorem d_MO_readHeights_2 : decode b_MO_readHeights 2 = .ok (.putfield 104, 3) := by decide +kernel
theorem d_MO_readHeights_5 : decode b_MO_readHeights 5 = .ok (.iconst 1, 1) := by decide +kernel
theorem d_MO_readHeights_6 : decode b_MO_readHeights 6 = .ok (.istore_n 1, 1) := by decide +kernel
theorem d_MO_readHeights_7 : decode b_MO_readHeights 7 = .ok (.iload_n 1, 1) := by decide +kernel
theorem d_MO_readHeights_8 : decode b_MO_readHeights 8 = .ok (.ifCond .eq 167, 3) := by decide +kernel
theorem d_MO_readHeights_11 : decode b_MO_readHeights 11 = .ok (.aload_n 0, 1) := by decide +kernel
theorem d_MO_readHeights_12 : decode b_MO_readHeights 12 = .ok (.getfield 100, 3) := by decide +kernel
theorem d_MO_readHeights_15 : decode b_MO_readHeights 15 = .ok (.ifCond .ne 160, 3) := by decide +kernel
theorem d_MO_readHeights_18 : decode b_MO_readHeights 18 = .ok (.aload_n 0, 1) := by decide +kernel
theorem d_MO_readHeights_19 : decode b_MO_readHeights 19 = .ok (.invokevirtual 96, 3) := by decide +kernel
theorem d_MO_readHeights_22 : decode b_MO_readHeights 22 = .ok (.istore_n 2, 1) := by decide +kernel
theorem d_MO_readHeights_23 : decode b_MO_readHeights 23 = .ok (.aload_n 0, 1) := by decide +kernel
theorem d_MO_readHeights_24 : decode b_MO_readHeights 24 = .ok (.getfield 93, 3) := by decide +kernel
theorem d_MO_readHeights_27 : decode b_MO_readHeights 27 = .ok (.istore_n 3, 1) := by decide +kernel
theorem d_MO_readHeights_28 : decode b_MO_readHeights 28 = .ok (.aload_n 0, 1) := by decide +kernel
theorem d_MO_readHeights_29 : decode b_MO_readHeights 29 = .ok (.getfield 104, 3) := by decide +kernel
theorem d_MO_readHeights_32 : decode b_MO_readHeights 32 = .ok (.iconst 5, 1) := by decide +kernel
theorem d_MO_readHeights_33 : decode b_MO_readHeights 33 = .ok (.if_icmp .ne 9, 3) := by decide +kernel
theorem d_MO_readHeights_36 : decode b_MO_readHeights 36 = .ok (.aload_n 0, 1) := by decide +kernel
theorem d_MO_readHeights_37 : decode b_MO_readHeights 37 = .ok (.iconst 1, 1) := by decide +kernel
theorem d_MO_readHeights_38 : decode b_MO_readHeights 38 = .ok (.putfield 100, 3) := by decide +kernel
theorem d_MO_readHeights_41 : decode b_MO_readHeights 41 = .ok (.return_, 1) := by decide +kernel
theorem d_MO_readHeights_42 : decode b_MO_readHeights 42 = .ok (.aload_n 0, 1) := by decide +kernel
theorem d_MO_readHeights_43 : decode b_MO_readHeights 43 = .ok (.iconst 1, 1) := by decide +kernel
theorem d_MO_readHeights_44 : decode b_MO_readHeights 44 = .ok (.invokevirtual 107, 3) := by decide +kernel
theorem d_MO_readHeights_47 : decode b_MO_readHeights 47 = .ok (.istore 4, 2) := by decide +kernel
theorem d_MO_readHeights_49 : decode b_MO_readHeights 49 = .ok (.aload_n 0, 1) := by decide +kernel
theorem d_MO_readHeights_50 : decode b_MO_readHeights 50 = .ok (.getfield 100, 3) := by decide +kernel
theorem d_MO_readHeights_53 : decode b_MO_readHeights 53 = .ok (.ifCond .ne 36, 3) := by decide +kernel
theorem d_MO_readHeights_56 : decode b_MO_readHeights 56 = .ok (.aload_n 0, 1) := by decide +kernel
theorem d_MO_readHeights_57 : decode b_MO_readHeights 57 = .ok (.getfield 104, 3) := by decide +kernel
theorem d_MO_readHeights_60 : decode b_MO_readHeights 60 = .ok (.ifCond .le 29, 3) := by decide +kernel
theorem d_MO_readHeights_63 : decode b_MO_readHeights 63 = .ok (.iload 4, 2) := by decide +kernel
theorem d_MO_readHeights_65 : decode b_MO_readHeights 65 = .ok (.aload_n 0, 1) := by decide +kernel
theorem d_MO_readHeights_66 : decode b_MO_readHeights 66 = .ok (.getfield 26, 3) := by decide +kernel
theorem d_MO_readHeights_69 : decode b_MO_readHeights 69 = .ok (.aload_n 0, 1) := by decide +kernel
theorem d_MO_readHeights_70 : decode b_MO_readHeights 70 = .ok (.getfield 104, 3) := by decide +kernel
theorem d_MO_readHeights_73 : decode b_MO_readHeights 73 = .ok (.iconst 1, 1) := by decide +kernel
theorem d_MO_readHeights_74 : decode b_MO_readHeights 74 = .ok (.isub, 1) := by decide +kernel
theorem d_MO_readHeights_75 : decode b_MO_readHeights 75 = .ok (.iaload, 1) := by decide +kernel
theorem d_MO_readHeights_76 : decode b_MO_readHeights 76 = .ok (.if_icmp .gt 13, 3) := by decide +kernel
theorem d_MO_readHeights_79 : decode b_MO_readHeights 79 = .ok (.aload_n 0, 1) := by decide +kernel
theorem d_MO_readHeights_80 : decode b_MO_readHeights 80 = .ok (.iload_n 3, 1) := by decide +kernel
theorem d_MO_readHeights_81 : decode b_MO_readHeights 81 = .ok (.putfield 93, 3) := by decide +kernel
theorem d_MO_readHeights_84 : decode b_MO_readHeights 84 = .ok (.aload_n 0, 1) := by decide +kernel
theorem d_MO_readHeights_85 : decode b_MO_readHeights 85 = .ok (.iconst 1, 1) := by decide +kernel
theorem d_MO_readHeights_86 : decode b_MO_readHeights 86 = .ok (.putfield 100, 3) := by decide +kernel
theorem d_MO_readHeights_89 : decode b_MO_readHeights 89 = .ok (.aload_n 0, 1) := by decide +kernel
theorem d_MO_readHeights_90 : decode b_MO_readHeights 90 = .ok (.getfield 100, 3) := by decide +kernel
theorem d_MO_readHeights_93 : decode b_MO_readHeights 93 = .ok (.ifCond .eq 4, 3) := by decide +kernel
theorem d_MO_readHeights_96 : decode b_MO_readHeights 96 = .ok (.return_, 1) := by decide +kernel
theorem d_MO_readHeights_97 : decode b_MO_readHeights 97 = .ok (.aload_n 0, 1) := by decide +kernel
theorem d_MO_readHeights_98 : decode b_MO_readHeights 98 = .ok (.getfield 26, 3) := by decide +kernel
theorem d_MO_readHeights_101 : decode b_MO_readHeights 101 = .ok (.aload_n 0, 1) := by decide +kernel
theorem d_MO_readHeights_102 : decode b_MO_readHeights 102 = .ok (.getfield 104, 3) := by decide +kernel
theorem d_MO_readHeights_105 : decode b_MO_readHeights 105 = .ok (.iload 4, 2) := by decide +kernel
theorem d_MO_readHeights_107 : decode b_MO_readHeights 107 = .ok (.iastore, 1) := by decide +kernel
theorem d_MO_readHeights_108 : decode b_MO_readHeights 108 = .ok (.aload_n 0, 1) := by decide +kernel
theorem d_MO_readHeights_109 : decode b_MO_readHeights 109 = .ok (.getfield 29, 3) := by decide +kernel
theorem d_MO_readHeights_112 : decode b_MO_readHeights 112 = .ok (.aload_n 0, 1) := by decide +kernel
theorem d_MO_readHeights_113 : decode b_MO_readHeights 113 = .ok (.getfield 104, 3) := by decide +kernel
theorem d_MO_readHeights_116 : decode b_MO_readHeights 116 = .ok (.aload_n 0, 1) := by decide +kernel
theorem d_MO_readHeights_117 : decode b_MO_readHeights 117 = .ok (.iconst 1, 1) := by decide +kernel
theorem d_MO_readHeights_118 : decode b_MO_readHeights 118 = .ok (.invokevirtual 107, 3) := by decide +kernel
theorem d_MO_readHeights_121 : decode b_MO_readHeights 121 = .ok (.iastore, 1) := by decide +kernel
theorem d_MO_readHeights_122 : decode b_MO_readHeights 122 = .ok (.aload_n 0, 1) := by decide +kernel
theorem d_MO_readHeights_123 : decode b_MO_readHeights 123 = .ok (.dup, 1) := by decide +kernel
theorem d_MO_readHeights_124 : decode b_MO_readHeights 124 = .ok (.getfield 104, 3) := by decide +kernel
theorem d_MO_readHeights_127 : decode b_MO_readHeights 127 = .ok (.iconst 1, 1) := by decide +kernel
theorem d_MO_readHeights_128 : decode b_MO_readHeights 128 = .ok (.iadd, 1) := by decide +kernel
theorem d_MO_readHeights_129 : decode b_MO_readHeights 129 = .ok (.putfield 104, 3) := by decide +kernel
theorem d_MO_readHeights_132 : decode b_MO_readHeights 132 = .ok (.aload_n 0, 1) := by decide +kernel
theorem d_MO_readHeights_133 : decode b_MO_readHeights 133 = .ok (.getfield 100, 3) := by decide +kernel
theorem d_MO_readHeights_136 : decode b_MO_readHeights 136 = .ok (.ifCond .ne 16, 3) := by decide +kernel
theorem d_MO_readHeights_139 : decode b_MO_readHeights 139 = .ok (.aload_n 0, 1) := by decide +kernel
theorem d_MO_readHeights_140 : decode b_MO_readHeights 140 = .ok (.invokevirtual 96, 3) := by decide +kernel
theorem d_MO_readHeights_143 : decode b_MO_readHeights 143 = .ok (.bipush 44, 2) := by decide +kernel
theorem d_MO_readHeights_145 : decode b_MO_readHeights 145 = .ok (.if_icmp .ne 7, 3) := by decide +kernel
theorem d_MO_readHeights_148 : decode b_MO_readHeights 148 = .ok (.iconst 1, 1) := by decide +kernel
theorem d_MO_readHeights_149 : decode b_MO_readHeights 149 = .ok (.goto 4, 3) := by decide +kernel
theorem d_MO_readHeights_152 : decode b_MO_readHeights 152 = .ok (.iconst 0, 1) := by decide +kernel
theorem d_MO_readHeights_153 : decode b_MO_readHeights 153 = .ok (.istore_n 1, 1) := by decide +kernel
theorem d_MO_readHeights_154 : decode b_MO_readHeights 154 = .ok (.aload_n 0, 1) := by decide +kernel
theorem d_MO_readHeights_155 : decode b_MO_readHeights 155 = .ok (.dup, 1) := by decide +kernel
theorem d_MO_readHeights_156 : decode b_MO_readHeights 156 = .ok (.getfield 93, 3) := by decide +kernel
theorem d_MO_readHeights_159 : decode b_MO_readHeights 159 = .ok (.iload_n 1, 1) := by decide +kernel
theorem d_MO_readHeights_160 : decode b_MO_readHeights 160 = .ok (.ifCond .eq 7, 3) := by decide +kernel
theorem d_MO_readHeights_163 : decode b_MO_readHeights 163 = .ok (.iconst 1, 1) := by decide +kernel
theorem d_MO_readHeights_164 : decode b_MO_readHeights 164 = .ok (.goto 4, 3) := by decide +kernel
theorem d_MO_readHeights_167 : decode b_MO_readHeights 167 = .ok (.iconst 0, 1) := by decide +kernel
theorem d_MO_readHeights_168 : decode b_MO_readHeights 168 = .ok (.iadd, 1) := by decide +kernel
theorem d_MO_readHeights_169 : decode b_MO_readHeights 169 = .ok (.putfield 93, 3) := by decide +kernel
theorem d_MO_readHeights_172 : decode b_MO_readHeights 172 = .ok (.goto (-165), 3) := by decide +kernel
theorem d_MO_readHeights_175 : decode b_MO_readHeights 175 = .ok (.return_, 1) := by decide +kernel
theorem d_MO_readRule_0 : decode b_MO_readRule 0 = .ok (.aload_n 0, 1) := by decide +kernel
theorem d_MO_readRule_1 : decode b_MO_readRule 1 = .ok (.dup, 1) := by decide +kernel
theorem d_MO_readRule_2 : decode b_MO_readRule 2 = .ok (.getfield 93, 3) := by decide +kernel
theorem d_MO_readRule_5 : decode b_MO_readRule 5 = .ok (.iconst 1, 1) := by decide +kernel
theorem d_MO_readRule_6 : decode b_MO_readRule 6 = .ok (.iadd, 1) := by decide +kernel
theorem d_MO_readRule_7 : decode b_MO_readRule 7 = .ok (.putfield 93, 3) := by decide +kernel
theorem d_MO_readRule_10 : decode b_MO_readRule 10 = .ok (.iload_n 1, 1) := by decide +kernel
theorem d_MO_readRule_11 : decode b_MO_readRule 11 = .ok (.bipush 104, 2) := by decide +kernel
theorem d_MO_readRule_13 : decode b_MO_readRule 13 = .ok (.if_icmp .ne 10, 3) := by decide +kernel
theorem d_MO_readRule_16 : decode b_MO_readRule 16 = .ok (.aload_n 0, 1) := by decide +kernel
theorem d_MO_readRule_17 : decode b_MO_readRule 17 = .ok (.invokevirtual 111, 3) := by decide +kernel
theorem d_MO_readRule_20 : decode b_MO_readRule 20 = .ok (.goto 115, 3) := by decide +kernel
theorem d_MO_readRule_23 : decode b_MO_readRule 23 = .ok (.iload_n 1, 1) := by decide +kernel
theorem d_MO_readRule_24 : decode b_MO_readRule 24 = .ok (.bipush 109, 2) := by decide +kernel
theorem d_MO_readRule_26 : decode b_MO_readRule 26 = .ok (.if_icmp .ne 35, 3) := by decide +kernel
theorem d_MO_readRule_29 : decode b_MO_readRule 29 = .ok (.aload_n 0, 1) := by decide +kernel
theorem d_MO_readRule_30 : decode b_MO_readRule 30 = .ok (.aload_n 0, 1) := by decide +kernel
theorem d_MO_readRule_31 : decode b_MO_readRule 31 = .ok (.iconst 0, 1) := by decide +kernel
theorem d_MO_readRule_32 : decode b_MO_readRule 32 = .ok (.invokevirtual 107, 3) := by decide +kernel
theorem d_MO_readRule_35 : decode b_MO_readRule 35 = .ok (.putfield 114, 3) := by decide +kernel
theorem d_MO_readRule_38 : decode b_MO_readRule 38 = .ok (.aload_n 0, 1) := by decide +kernel
theorem d_MO_readRule_39 : decode b_MO_readRule 39 = .ok (.aload_n 0, 1) := by decide +kernel
theorem d_MO_readRule_40 : decode b_MO_readRule 40 = .ok (.getfield 100, 3) := by decide +kernel
theorem d_MO_readRule_43 : decode b_MO_readRule 43 = .ok (.ifCond .eq 7, 3) := by decide +kernel
theorem d_MO_readRule_46 : decode b_MO_readRule 46 = .ok (.iconst 0, 1) := by decide +kernel
theorem d_MO_readRule_47 : decode b_MO_readRule 47 = .ok (.goto 8, 3) := by decide +kernel
theorem d_MO_readRule_50 : decode b_MO_readRule 50 = .ok (.aload_n 0, 1) := by decide +kernel
theorem d_MO_readRule_51 : decode b_MO_readRule 51 = .ok (.iconst 0, 1) := by decide +kernel
theorem d_MO_readRule_52 : decode b_MO_readRule 52 = .ok (.invokevirtual 107, 3) := by decide +kernel
theorem d_MO_readRule_55 : decode b_MO_readRule 55 = .ok (.putfield 117, 3) := by decide +kernel
theorem d_MO_readRule_58 : decode b_MO_readRule 58 = .ok (.goto 77, 3) := by decide +kernel
theorem d_MO_readRule_61 : decode b_MO_readRule 61 = .ok (.aload_n 0, 1) := by decide +kernel
theorem d_MO_readRule_62 : decode b_MO_readRule 62 = .ok (.aload_n 0, 1) := by decide +kernel
theorem d_MO_readRule_63 : decode b_MO_readRule 63 = .ok (.invokevirtual 96, 3) := by decide +kernel
theorem d_MO_readRule_66 : decode b_MO_readRule 66 = .ok (.putfield 120, 3) := by decide +kernel
theorem d_MO_readRule_69 : decode b_MO_readRule 69 = .ok (.aload_n 0, 1) := by decide +kernel
theorem d_MO_readRule_70 : decode b_MO_readRule 70 = .ok (.aload_n 0, 1) := by decide +kernel
theorem d_MO_readRule_71 : decode b_MO_readRule 71 = .ok (.getfield 120, 3) := by decide +kernel
theorem d_MO_readRule_74 : decode b_MO_readRule 74 = .ok (.bipush 110, 2) := by decide +kernel
theorem d_MO_readRule_76 : decode b_MO_readRule 76 = .ok (.if_icmp .eq 34, 3) := by decide +kernel
theorem d_MO_readRule_79 : decode b_MO_readRule 79 = .ok (.aload_n 0, 1) := by decide +kernel
theorem d_MO_readRule_80 : decode b_MO_readRule 80 = .ok (.getfield 120, 3) := by decide +kernel
theorem d_MO_readRule_83 : decode b_MO_readRule 83 = .ok (.bipush 102, 2) := by decide +kernel
theorem d_MO_readRule_85 : decode b_MO_readRule 85 = .ok (.if_icmp .eq 25, 3) := by decide +kernel
theorem d_MO_readRule_88 : decode b_MO_readRule 88 = .ok (.aload_n 0, 1) := by decide +kernel
theorem d_MO_readRule_89 : decode b_MO_readRule 89 = .ok (.getfield 120, 3) := by decide +kernel
theorem d_MO_readRule_92 : decode b_MO_readRule 92 = .ok (.bipush 97, 2) := by decide +kernel
theorem d_MO_readRule_94 : decode b_MO_readRule 94 = .ok (.if_icmp .eq 16, 3) := by decide +kernel
theorem d_MO_readRule_97 : decode b_MO_readRule 97 = .ok (.aload_n 0, 1) := by decide +kernel
theorem d_MO_readRule_98 : decode b_MO_readRule 98 = .ok (.getfield 120, 3) := by decide +kernel
theorem d_MO_readRule_101 : decode b_MO_readRule 101 = .ok (.bipush 116, 2) := by decide +kernel
theorem d_MO_readRule_103 : decode b_MO_readRule 103 = .ok (.if_icmp .eq 7, 3) := by decide +kernel
theorem d_MO_readRule_106 : decode b_MO_readRule 106 = .ok (.iconst 1, 1) := by decide +kernel
theorem d_MO_readRule_107 : decode b_MO_readRule 107 = .ok (.goto 4, 3) := by decide +kernel
theorem d_MO_readRule_110 : decode b_MO_readRule 110 = .ok (.iconst 0, 1) := by decide +kernel
theorem d_MO_readRule_111 : decode b_MO_readRule 111 = .ok (.putfield 100, 3) := by decide +kernel
theorem d_MO_readRule_114 : decode b_MO_readRule 114 = .ok (.aload_n 0, 1) := by decide +kernel
theorem d_MO_readRule_115 : decode b_MO_readRule 115 = .ok (.dup, 1) := by decide +kernel
theorem d_MO_readRule_116 : decode b_MO_readRule 116 = .ok (.getfield 93, 3) := by decide +kernel
theorem d_MO_readRule_119 : decode b_MO_readRule 119 = .ok (.aload_n 0, 1) := by decide +kernel
theorem d_MO_readRule_120 : decode b_MO_readRule 120 = .ok (.getfield 100, 3) := by decide +kernel
theorem d_MO_readRule_123 : decode b_MO_readRule 123 = .ok (.ifCond .eq 7, 3) := by decide +kernel
theorem d_MO_readRule_126 : decode b_MO_readRule 126 = .ok (.iconst 0, 1) := by decide +kernel
theorem d_MO_readRule_127 : decode b_MO_readRule 127 = .ok (.goto 4, 3) := by decide +kernel
theorem d_MO_readRule_130 : decode b_MO_readRule 130 = .ok (.iconst 1, 1) := by decide +kernel
theorem d_MO_readRule_131 : decode b_MO_readRule 131 = .ok (.iadd, 1) := by decide +kernel
theorem d_MO_readRule_132 : decode b_MO_readRule 132 = .ok (.putfield 93, 3) := by decide +kernel
theorem d_MO_readRule_135 : decode b_MO_readRule 135 = .ok (.return_, 1) := by decide +kernel
theorem d_MO_rules_0 : decode b_MO_rules 0 = .ok (.aload_n 0, 1) := by decide +kernel
theorem d_MO_rules_1 : decode b_MO_rules 1 = .ok (.iconst 0, 1) := by decide +kernel
theorem d_MO_rules_2 : decode b_MO_rules 2 = .ok (.putfield 93, 3) := by decide +kernel
theorem d_MO_rules_5 : decode b_MO_rules 5 = .ok (.aload_n 0, 1) := by decide +kernel
theorem d_MO_rules_6 : decode b_MO_rules 6 = .ok (.iconst 0, 1) := by decide +kernel
theorem d_MO_rules_7 : decode b_MO_rules 7 = .ok (.putfield 100, 3) := by decide +kernel
theorem d_MO_rules_10 : decode b_MO_rules 10 = .ok (.aload_n 0, 1) := by decide +kernel
theorem d_MO_rules_11 : decode b_MO_rules 11 = .ok (.iconst 1, 1) := by decide +kernel
theorem d_MO_rules_12 : decode b_MO_rules 12 = .ok (.putfield 104, 3) := by decide +kernel
theorem d_MO_rules_15 : decode b_MO_rules 15 = .ok (.aload_n 0, 1) := by decide +kernel
theorem d_MO_rules_16 : decode b_MO_rules 16 = .ok (.getfield 26, 3) := by decide +kernel
theorem d_MO_rules_19 : decode b_MO_rules 19 = .ok (.iconst 0, 1) := by decide +kernel
theorem d_MO_rules_20 : decode b_MO_rules 20 = .ok (.bipush 50, 2) := by decide +kernel
theorem d_MO_rules_22 : decode b_MO_rules 22 = .ok (.iastore, 1) := by decide +kernel
theorem d_MO_rules_23 : decode b_MO_rules 23 = .ok (.aload_n 0, 1) := by decide +kernel
theorem d_MO_rules_24 : decode b_MO_rules 24 = .ok (.getfield 29, 3) := by decide +kernel
theorem d_MO_rules_27 : decode b_MO_rules 27 = .ok (.iconst 0, 1) := by decide +kernel
theorem d_MO_rules_28 : decode b_MO_rules 28 = .ok (.bipush 100, 2) := by decide +kernel
theorem d_MO_rules_30 : decode b_MO_rules 30 = .ok (.iastore, 1) := by decide +kernel
theorem d_MO_rules_31 : decode b_MO_rules 31 = .ok (.aload_n 0, 1) := by decide +kernel
theorem d_MO_rules_32 : decode b_MO_rules 32 = .ok (.iconst 0, 1) := by decide +kernel
theorem d_MO_rules_33 : decode b_MO_rules 33 = .ok (.putfield 114, 3) := by decide +kernel
theorem d_MO_rules_36 : decode b_MO_rules 36 = .ok (.aload_n 0, 1) := by decide +kernel
theorem d_MO_rules_37 : decode b_MO_rules 37 = .ok (.iconst 0, 1) := by decide +kernel
theorem d_MO_rules_38 : decode b_MO_rules 38 = .ok (.putfield 117, 3) := by decide +kernel
theorem d_MO_rules_41 : decode b_MO_rules 41 = .ok (.aload_n 0, 1) := by decide +kernel
theorem d_MO_rules_42 : decode b_MO_rules 42 = .ok (.bipush 116, 2) := by decide +kernel
theorem d_MO_rules_44 : decode b_MO_rules 44 = .ok (.putfield 120, 3) := by decide +kernel
theorem d_MO_rules_47 : decode b_MO_rules 47 = .ok (.iconst 0, 1) := by decide +kernel
theorem d_MO_rules_48 : decode b_MO_rules 48 = .ok (.istore_n 1, 1) := by decide +kernel
theorem d_MO_rules_49 : decode b_MO_rules 49 = .ok (.iconst 0, 1) := by decide +kernel
theorem d_MO_rules_50 : decode b_MO_rules 50 = .ok (.istore_n 2, 1) := by decide +kernel
theorem d_MO_rules_51 : decode b_MO_rules 51 = .ok (.iconst 0, 1) := by decide +kernel
theorem d_MO_rules_52 : decode b_MO_rules 52 = .ok (.istore_n 3, 1) := by decide +kernel
theorem d_MO_rules_53 : decode b_MO_rules 53 = .ok (.iconst 0, 1) := by decide +kernel
theorem d_MO_rules_54 : decode b_MO_rules 54 = .ok (.istore 4, 2) := by decide +kernel
theorem d_MO_rules_56 : decode b_MO_rules 56 = .ok (.iconst 1, 1) := by decide +kernel
theorem d_MO_rules_57 : decode b_MO_rules 57 = .ok (.istore 5, 2) := by decide +kernel
theorem d_MO_rules_59 : decode b_MO_rules 59 = .ok (.iload 5, 2) := by decide +kernel
theorem d_MO_rules_61 : decode b_MO_rules 61 = .ok (.ifCond .eq 216, 3) := by decide +kernel
theorem d_MO_rules_64 : decode b_MO_rules 64 = .ok (.aload_n 0, 1) := by decide +kernel
theorem d_MO_rules_65 : decode b_MO_rules 65 = .ok (.getfield 100, 3) := by decide +kernel
theorem d_MO_rules_68 : decode b_MO_rules 68 = .ok (.ifCond .ne 209, 3) := by decide +kernel
theorem d_MO_rules_71 : decode b_MO_rules 71 = .ok (.aload_n 0, 1) := by decide +kernel
theorem d_MO_rules_72 : decode b_MO_rules 72 = .ok (.invokevirtual 96, 3) := by decide +kernel
theorem d_MO_rules_75 : decode b_MO_rules 75 = .ok (.istore 6, 2) := by decide +kernel
theorem d_MO_rules_77 : decode b_MO_rules 77 = .ok (.aload_n 0, 1) := by decide +kernel
theorem d_MO_rules_78 : decode b_MO_rules 78 = .ok (.iload 6, 2) := by decide +kernel
theorem d_MO_rules_80 : decode b_MO_rules 80 = .ok (.bipush 104, 2) := by decide +kernel
theorem d_MO_rules_82 : decode b_MO_rules 82 = .ok (.if_icmp .eq 17, 3) := by decide +kernel
theorem d_MO_rules_85 : decode b_MO_rules 85 = .ok (.iload 6, 2) := by decide +kernel
theorem d_MO_rules_87 : decode b_MO_rules 87 = .ok (.bipush 109, 2) := by decide +kernel
theorem d_MO_rules_89 : decode b_MO_rules 89 = .ok (.if_icmp .eq 10, 3) := by decide +kernel
theorem d_MO_rules_92 : decode b_MO_rules 92 = .ok (.iload 6, 2) := by decide +kernel
theorem d_MO_rules_94 : decode b_MO_rules 94 = .ok (.bipush 111, 2) := by decide +kernel
theorem d_MO_rules_96 : decode b_MO_rules 96 = .ok (.if_icmp .ne 36, 3) := by decide +kernel
theorem d_MO_rules_99 : decode b_MO_rules 99 = .ok (.iload 6, 2) := by decide +kernel
theorem d_MO_rules_101 : decode b_MO_rules 101 = .ok (.bipush 104, 2) := by decide +kernel
theorem d_MO_rules_103 : decode b_MO_rules 103 = .ok (.if_icmp .ne 7, 3) := by decide +kernel
theorem d_MO_rules_106 : decode b_MO_rules 106 = .ok (.iload_n 1, 1) := by decide +kernel
theorem d_MO_rules_107 : decode b_MO_rules 107 = .ok (.ifCond .ne 25, 3) := by decide +kernel
theorem d_MO_rules_110 : decode b_MO_rules 110 = .ok (.iload 6, 2) := by decide +kernel
theorem d_MO_rules_112 : decode b_MO_rules 112 = .ok (.bipush 109, 2) := by decide +kernel
theorem d_MO_rules_114 : decode b_MO_rules 114 = .ok (.if_icmp .ne 7, 3) := by decide +kernel
theorem d_MO_rules_117 : decode b_MO_rules 117 = .ok (.iload_n 2, 1) := by decide +kernel
theorem d_MO_rules_118 : decode b_MO_rules 118 = .ok (.ifCond .ne 14, 3) := by decide +kernel
theorem d_MO_rules_121 : decode b_MO_rules 121 = .ok (.iload 6, 2) := by decide +kernel
theorem d_MO_rules_123 : decode b_MO_rules 123 = .ok (.bipush 111, 2) := by decide +kernel
theorem d_MO_rules_125 : decode b_MO_rules 125 = .ok (.if_icmp .ne 11, 3) := by decide +kernel
theorem d_MO_rules_128 : decode b_MO_rules 128 = .ok (.iload_n 3, 1) := by decide +kernel
theorem d_MO_rules_129 : decode b_MO_rules 129 = .ok (.ifCond .eq 7, 3) := by decide +kernel
theorem d_MO_rules_132 : decode b_MO_rules 132 = .ok (.iconst 1, 1) := by decide +kernel
theorem d_MO_rules_133 : decode b_MO_rules 133 = .ok (.goto 4, 3) := by decide +kernel
theorem d_MO_rules_136 : decode b_MO_rules 136 = .ok (.iconst 0, 1) := by decide +kernel
theorem d_MO_rules_137 : decode b_MO_rules 137 = .ok (.putfield 100, 3) := by decide +kernel
theorem d_MO_rules_140 : decode b_MO_rules 140 = .ok (.aload_n 0, 1) := by decide +kernel
theorem d_MO_rules_141 : decode b_MO_rules 141 = .ok (.getfield 100, 3) := by decide +kernel
theorem d_MO_rules_144 : decode b_MO_rules 144 = .ok (.ifCond .ne 63, 3) := by decide +kernel
theorem d_MO_rules_147 : decode b_MO_rules 147 = .ok (.iload_n 1, 1) := by decide +kernel
theorem d_MO_rules_148 : decode b_MO_rules 148 = .ok (.ifCond .ne 10, 3) := by decide +kernel
theorem d_MO_rules_151 : decode b_MO_rules 151 = .ok (.iload 6, 2) := by decide +kernel
theorem d_MO_rules_153 : decode b_MO_rules 153 = .ok (.bipush 104, 2) := by decide +kernel
theorem d_MO_rules_155 : decode b_MO_rules 155 = .ok (.if_icmp .ne 7, 3) := by decide +kernel
theorem d_MO_rules_158 : decode b_MO_rules 158 = .ok (.iconst 1, 1) := by decide +kernel
theorem d_MO_rules_159 : decode b_MO_rules 159 = .ok (.goto 4, 3) := by decide +kernel
theorem d_MO_rules_162 : decode b_MO_rules 162 = .ok (.iconst 0, 1) := by decide +kernel
theorem d_MO_rules_163 : decode b_MO_rules 163 = .ok (.istore_n 1, 1) := by decide +kernel
theorem d_MO_rules_164 : decode b_MO_rules 164 = .ok (.iload_n 2, 1) := by decide +kernel
theorem d_MO_rules_165 : decode b_MO_rules 165 = .ok (.ifCond .ne 10, 3) := by decide +kernel
theorem d_MO_rules_168 : decode b_MO_rules 168 = .ok (.iload 6, 2) := by decide +kernel
theorem d_MO_rules_170 : decode b_MO_rules 170 = .ok (.bipush 109, 2) := by decide +kernel
theorem d_MO_rules_172 : decode b_MO_rules 172 = .ok (.if_icmp .ne 7, 3) := by decide +kernel
theorem d_MO_rules_175 : decode b_MO_rules 175 = .ok (.iconst 1, 1) := by decide +kernel
theorem d_MO_rules_176 : decode b_MO_rules 176 = .ok (.goto 4, 3) := by decide +kernel
theorem d_MO_rules_179 : decode b_MO_rules 179 = .ok (.iconst 0, 1) := by decide +kernel
theorem d_MO_rules_180 : decode b_MO_rules 180 = .ok (.istore_n 2, 1) := by decide +kernel
theorem d_MO_rules_181 : decode b_MO_rules 181 = .ok (.iload_n 3, 1) := by decide +kernel
theorem d_MO_rules_182 : decode b_MO_rules 182 = .ok (.ifCond .ne 10, 3) := by decide +kernel
theorem d_MO_rules_185 : decode b_MO_rules 185 = .ok (.iload 6, 2) := by decide +kernel
theorem d_MO_rules_187 : decode b_MO_rules 187 = .ok (.bipush 111, 2) := by decide +kernel
theorem d_MO_rules_189 : decode b_MO_rules 189 = .ok (.if_icmp .ne 7, 3) := by decide +kernel
theorem d_MO_rules_192 : decode b_MO_rules 192 = .ok (.iconst 1, 1) := by decide +kernel
theorem d_MO_rules_193 : decode b_MO_rules 193 = .ok (.goto 4, 3) := by decide +kernel
theorem d_MO_rules_196 : decode b_MO_rules 196 = .ok (.iconst 0, 1) := by decide +kernel
theorem d_MO_rules_197 : decode b_MO_rules 197 = .ok (.istore_n 3, 1) := by decide +kernel
theorem d_MO_rules_198 : decode b_MO_rules 198 = .ok (.aload_n 0, 1) := by decide +kernel
theorem d_MO_rules_199 : decode b_MO_rules 199 = .ok (.iload 6, 2) := by decide +kernel
theorem d_MO_rules_201 : decode b_MO_rules 201 = .ok (.invokevirtual 123, 3) := by decide +kernel
theorem d_MO_rules_204 : decode b_MO_rules 204 = .ok (.iinc 4 1, 3) := by decide +kernel
theorem d_MO_rules_207 : decode b_MO_rules 207 = .ok (.aload_n 0, 1) := by decide +kernel
theorem d_MO_rules_208 : decode b_MO_rules 208 = .ok (.getfield 100, 3) := by decide +kernel
theorem d_MO_rules_211 : decode b_MO_rules 211 = .ok (.ifCond .ne 63, 3) := by decide +kernel
theorem d_MO_rules_214 : decode b_MO_rules 214 = .ok (.aload_n 0, 1) := by decide +kernel
theorem d_MO_rules_215 : decode b_MO_rules 215 = .ok (.invokevirtual 96, 3) := by decide +kernel
theorem d_MO_rules_218 : decode b_MO_rules 218 = .ok (.istore 7, 2) := by decide +kernel
theorem d_MO_rules_220 : decode b_MO_rules 220 = .ok (.aload_n 0, 1) := by decide +kernel
theorem d_MO_rules_221 : decode b_MO_rules 221 = .ok (.iload 7, 2) := by decide +kernel
theorem d_MO_rules_223 : decode b_MO_rules 223 = .ok (.ifCond .eq 14, 3) := by decide +kernel
theorem d_MO_rules_226 : decode b_MO_rules 226 = .ok (.iload 7, 2) := by decide +kernel
theorem d_MO_rules_228 : decode b_MO_rules 228 = .ok (.bipush 59, 2) := by decide +kernel
theorem d_MO_rules_230 : decode b_MO_rules 230 = .ok (.if_icmp .eq 7, 3) := by decide +kernel
theorem d_MO_rules_233 : decode b_MO_rules 233 = .ok (.iconst 1, 1) := by decide +kernel
theorem d_MO_rules_234 : decode b_MO_rules 234 = .ok (.goto 4, 3) := by decide +kernel
theorem d_MO_rules_237 : decode b_MO_rules 237 = .ok (.iconst 0, 1) := by decide +kernel
theorem d_MO_rules_238 : decode b_MO_rules 238 = .ok (.putfield 100, 3) := by decide +kernel
theorem d_MO_rules_241 : decode b_MO_rules 241 = .ok (.iload 7, 2) := by decide +kernel
theorem d_MO_rules_243 : decode b_MO_rules 243 = .ok (.bipush 59, 2) := by decide +kernel
theorem d_MO_rules_245 : decode b_MO_rules 245 = .ok (.if_icmp .ne 7, 3) := by decide +kernel
theorem d_MO_rules_248 : decode b_MO_rules 248 = .ok (.iconst 1, 1) := by decide +kernel
theorem d_MO_rules_249 : decode b_MO_rules 249 = .ok (.goto 4, 3) := by decide +kernel
theorem d_MO_rules_252 : decode b_MO_rules 252 = .ok (.iconst 0, 1) := by decide +kernel
theorem d_MO_rules_253 : decode b_MO_rules 253 = .ok (.istore 5, 2) := by decide +kernel
theorem d_MO_rules_255 : decode b_MO_rules 255 = .ok (.aload_n 0, 1) := by decide +kernel
theorem d_MO_rules_256 : decode b_MO_rules 256 = .ok (.dup, 1) := by decide +kernel
theorem d_MO_rules_257 : decode b_MO_rules 257 = .ok (.getfield 93, 3) := by decide +kernel
theorem d_MO_rules_260 : decode b_MO_rules 260 = .ok (.iload 5, 2) := by decide +kernel
theorem d_MO_rules_262 : decode b_MO_rules 262 = .ok (.ifCond .eq 7, 3) := by decide +kernel
theorem d_MO_rules_265 : decode b_MO_rules 265 = .ok (.iconst 1, 1) := by decide +kernel
theorem d_MO_rules_266 : decode b_MO_rules 266 = .ok (.goto 4, 3) := by decide +kernel
theorem d_MO_rules_269 : decode b_MO_rules 269 = .ok (.iconst 0, 1) := by decide +kernel
theorem d_MO_rules_270 : decode b_MO_rules 270 = .ok (.iadd, 1) := by decide +kernel
theorem d_MO_rules_271 : decode b_MO_rules 271 = .ok (.putfield 93, 3) := by decide +kernel
theorem d_MO_rules_274 : decode b_MO_rules 274 = .ok (.goto (-215), 3) := by decide +kernel
theorem d_MO_rules_277 : decode b_MO_rules 277 = .ok (.aload_n 0, 1) := by decide +kernel
theorem d_MO_rules_278 : decode b_MO_rules 278 = .ok (.iconst 0, 1) := by decide +kernel
theorem d_MO_rules_279 : decode b_MO_rules 279 = .ok (.putfield 90, 3) := by decide +kernel
theorem d_MO_rules_282 : decode b_MO_rules 282 = .ok (.aload_n 0, 1) := by decide +kernel
theorem d_MO_rules_283 : decode b_MO_rules 283 = .ok (.getfield 100, 3) := by decide +kernel
theorem d_MO_rules_286 : decode b_MO_rules 286 = .ok (.ifCond .eq 10, 3) := by decide +kernel
theorem d_MO_rules_289 : decode b_MO_rules 289 = .ok (.iconst (-1), 1) := by decide +kernel
theorem d_MO_rules_290 : decode b_MO_rules 290 = .ok (.aload_n 0, 1) := by decide +kernel
theorem d_MO_rules_291 : decode b_MO_rules 291 = .ok (.getfield 93, 3) := by decide +kernel
theorem d_MO_rules_294 : decode b_MO_rules 294 = .ok (.isub, 1) := by decide +kernel
theorem d_MO_rules_295 : decode b_MO_rules 295 = .ok (.ireturn, 1) := by decide +kernel
theorem d_MO_rules_296 : decode b_MO_rules 296 = .ok (.aload_n 0, 1) := by decide +kernel
theorem d_MO_rules_297 : decode b_MO_rules 297 = .ok (.aload_n 0, 1) := by decide +kernel
theorem d_MO_rules_298 : decode b_MO_rules 298 = .ok (.getfield 104, 3) := by decide +kernel
theorem d_MO_rules_301 : decode b_MO_rules 301 = .ok (.putfield 13, 3) := by decide +kernel
theorem d_MO_rules_304 : decode b_MO_rules 304 = .ok (.iconst 0, 1) := by decide +kernel
theorem d_MO_rules_305 : decode b_MO_rules 305 = .ok (.istore 6, 2) := by decide +kernel
theorem d_MO_rules_307 : decode b_MO_rules 307 = .ok (.iload 6, 2) := by decide +kernel
theorem d_MO_rules_309 : decode b_MO_rules 309 = .ok (.aload_n 0, 1) := by decide +kernel
theorem d_MO_rules_310 : decode b_MO_rules 310 = .ok (.getfield 13, 3) := by decide +kernel
theorem d_MO_rules_313 : decode b_MO_rules 313 = .ok (.if_icmp .ge 37, 3) := by decide +kernel
theorem d_MO_rules_316 : decode b_MO_rules 316 = .ok (.aload_n 0, 1) := by decide +kernel
theorem d_MO_rules_317 : decode b_MO_rules 317 = .ok (.getfield 17, 3) := by decide +kernel
theorem d_MO_rules_320 : decode b_MO_rules 320 = .ok (.iload 6, 2) := by decide +kernel
theorem d_MO_rules_322 : decode b_MO_rules 322 = .ok (.aload_n 0, 1) := by decide +kernel
theorem d_MO_rules_323 : decode b_MO_rules 323 = .ok (.getfield 26, 3) := by decide +kernel
theorem d_MO_rules_326 : decode b_MO_rules 326 = .ok (.iload 6, 2) := by decide +kernel
theorem d_MO_rules_328 : decode b_MO_rules 328 = .ok (.iaload, 1) := by decide +kernel
theorem d_MO_rules_329 : decode b_MO_rules 329 = .ok (.iastore, 1) := by decide +kernel
theorem d_MO_rules_330 : decode b_MO_rules 330 = .ok (.aload_n 0, 1) := by decide +kernel
theorem d_MO_rules_331 : decode b_MO_rules 331 = .ok (.getfield 20, 3) := by decide +kernel
theorem d_MO_rules_334 : decode b_MO_rules 334 = .ok (.iload 6, 2) := by decide +kernel
theorem d_MO_rules_336 : decode b_MO_rules 336 = .ok (.aload_n 0, 1) := by decide +kernel
theorem d_MO_rules_337 : decode b_MO_rules 337 = .ok (.getfield 29, 3) := by decide +kernel
theorem d_MO_rules_340 : decode b_MO_rules 340 = .ok (.iload 6, 2) := by decide +kernel
theorem d_MO_rules_342 : decode b_MO_rules 342 = .ok (.iaload, 1) := by decide +kernel
theorem d_MO_rules_343 : decode b_MO_rules 343 = .ok (.iastore, 1) := by decide +kernel
theorem d_MO_rules_344 : decode b_MO_rules 344 = .ok (.iinc 6 1, 3) := by decide +kernel
theorem d_MO_rules_347 : decode b_MO_rules 347 = .ok (.goto (-40), 3) := by decide +kernel
theorem d_MO_rules_350 : decode b_MO_rules 350 = .ok (.aload_n 0, 1) := by decide +kernel
theorem d_MO_rules_351 : decode b_MO_rules 351 = .ok (.aload_n 0, 1) := by decide +kernel
theorem d_MO_rules_352 : decode b_MO_rules 352 = .ok (.getfield 114, 3) := by decide +kernel
theorem d_MO_rules_355 : decode b_MO_rules 355 = .ok (.putfield 127, 3) := by decide +kernel
theorem d_MO_rules_358 : decode b_MO_rules 358 = .ok (.aload_n 0, 1) := by decide +kernel
theorem d_MO_rules_359 : decode b_MO_rules 359 = .ok (.aload_n 0, 1) := by decide +kernel
theorem d_MO_rules_360 : decode b_MO_rules 360 = .ok (.getfield 117, 3) := by decide +kernel
theorem d_MO_rules_363 : decode b_MO_rules 363 = .ok (.putfield 130, 3) := by decide +kernel
theorem d_MO_rules_366 : decode b_MO_rules 366 = .ok (.aload_n 0, 1) := by decide +kernel
theorem d_MO_rules_367 : decode b_MO_rules 367 = .ok (.aload_n 0, 1) := by decide +kernel
theorem d_MO_rules_368 : decode b_MO_rules 368 = .ok (.getfield 120, 3) := by decide +kernel
theorem d_MO_rules_371 : decode b_MO_rules 371 = .ok (.putfield 23, 3) := by decide +kernel
theorem d_MO_rules_374 : decode b_MO_rules 374 = .ok (.iload 4, 2) := by decide +kernel
theorem d_MO_rules_376 : decode b_MO_rules 376 = .ok (.ireturn, 1) := by decide +kernel
theorem d_MO_name_0 : decode b_MO_name 0 = .ok (.aload_n 0, 1) := by decide +kernel
theorem d_MO_name_1 : decode b_MO_name 1 = .ok (.getfield 90, 3) := by decide +kernel
theorem d_MO_name_4 : decode b_MO_name 4 = .ok (.iconst 1, 1) := by decide +kernel
theorem d_MO_name_5 : decode b_MO_name 5 = .ok (.if_icmp .lt 21, 3) := by decide +kernel
theorem d_MO_name_8 : decode b_MO_name 8 = .ok (.aload_n 0, 1) := by decide +kernel
theorem d_MO_name_9 : decode b_MO_name 9 = .ok (.getfield 90, 3) := by decide +kernel
theorem d_MO_name_12 : decode b_MO_name 12 = .ok (.bipush 12, 2) := by decide +kernel
theorem d_MO_name_14 : decode b_MO_name 14 = .ok (.if_icmp .gt 12, 3) := by decide +kernel
theorem d_MO_name_17 : decode b_MO_name 17 = .ok (.aload_n 0, 1) := by decide +kernel
theorem d_MO_name_18 : decode b_MO_name 18 = .ok (.getfield 133, 3) := by decide +kernel
theorem d_MO_name_21 : decode b_MO_name 21 = .ok (.bipush 10, 2) := by decide +kernel
theorem d_MO_name_23 : decode b_MO_name 23 = .ok (.if_icmp .ne 10, 3) := by decide +kernel
theorem d_MO_name_26 : decode b_MO_name 26 = .ok (.aload_n 0, 1) := by decide +kernel
theorem d_MO_name_27 : decode b_MO_name 27 = .ok (.iconst 0, 1) := by decide +kernel
theorem d_MO_name_28 : decode b_MO_name 28 = .ok (.putfield 90, 3) := by decide +kernel
theorem d_MO_name_31 : decode b_MO_name 31 = .ok (.iconst (-1), 1) := by decide +kernel
theorem d_MO_name_32 : decode b_MO_name 32 = .ok (.ireturn, 1) := by decide +kernel
theorem d_MO_name_33 : decode b_MO_name 33 = .ok (.iconst 0, 1) := by decide +kernel
theorem d_MO_name_34 : decode b_MO_name 34 = .ok (.istore_n 1, 1) := by decide +kernel
theorem d_MO_name_35 : decode b_MO_name 35 = .ok (.iload_n 1, 1) := by decide +kernel
theorem d_MO_name_36 : decode b_MO_name 36 = .ok (.aload_n 0, 1) := by decide +kernel
theorem d_MO_name_37 : decode b_MO_name 37 = .ok (.getfield 90, 3) := by decide +kernel
theorem d_MO_name_40 : decode b_MO_name 40 = .ok (.if_icmp .ge 29, 3) := by decide +kernel
theorem d_MO_name_43 : decode b_MO_name 43 = .ok (.aload_n 0, 1) := by decide +kernel
theorem d_MO_name_44 : decode b_MO_name 44 = .ok (.getfield 47, 3) := by decide +kernel
theorem d_MO_name_47 : decode b_MO_name 47 = .ok (.bipush 12, 2) := by decide +kernel
theorem d_MO_name_49 : decode b_MO_name 49 = .ok (.aload_n 0, 1) := by decide +kernel
theorem d_MO_name_50 : decode b_MO_name 50 = .ok (.getfield 133, 3) := by decide +kernel
theorem d_MO_name_53 : decode b_MO_name 53 = .ok (.imul, 1) := by decide +kernel
theorem d_MO_name_54 : decode b_MO_name 54 = .ok (.iload_n 1, 1) := by decide +kernel
theorem d_MO_name_55 : decode b_MO_name 55 = .ok (.iadd, 1) := by decide +kernel
theorem d_MO_name_56 : decode b_MO_name 56 = .ok (.aload_n 0, 1) := by decide +kernel
theorem d_MO_name_57 : decode b_MO_name 57 = .ok (.getfield 7, 3) := by decide +kernel
theorem d_MO_name_60 : decode b_MO_name 60 = .ok (.iload_n 1, 1) := by decide +kernel
theorem d_MO_name_61 : decode b_MO_name 61 = .ok (.iaload, 1) := by decide +kernel
theorem d_MO_name_62 : decode b_MO_name 62 = .ok (.iastore, 1) := by decide +kernel
theorem d_MO_name_63 : decode b_MO_name 63 = .ok (.iinc 1 1, 3) := by decide +kernel
theorem d_MO_name_66 : decode b_MO_name 66 = .ok (.goto (-31), 3) := by decide +kernel
theorem d_MO_name_69 : decode b_MO_name 69 = .ok (.aload_n 0, 1) := by decide +kernel
theorem d_MO_name_70 : decode b_MO_name 70 = .ok (.getfield 44, 3) := by decide +kernel
theorem d_MO_name_73 : decode b_MO_name 73 = .ok (.aload_n 0, 1) := by decide +kernel
theorem d_MO_name_74 : decode b_MO_name 74 = .ok (.getfield 133, 3) := by decide +kernel
theorem d_MO_name_77 : decode b_MO_name 77 = .ok (.aload_n 0, 1) := by decide +kernel
theorem d_MO_name_78 : decode b_MO_name 78 = .ok (.getfield 90, 3) := by decide +kernel
theorem d_MO_name_81 : decode b_MO_name 81 = .ok (.iastore, 1) := by decide +kernel
theorem d_MO_name_82 : decode b_MO_name 82 = .ok (.aload_n 0, 1) := by decide +kernel
theorem d_MO_name_83 : decode b_MO_name 83 = .ok (.getfield 50, 3) := by decide +kernel
theorem d_MO_name_86 : decode b_MO_name 86 = .ok (.aload_n 0, 1) := by decide +kernel
theorem d_MO_name_87 : decode b_MO_name 87 = .ok (.getfield 133, 3) := by decide +kernel
theorem d_MO_name_90 : decode b_MO_name 90 = .ok (.iconst (-1), 1) := by decide +kernel
theorem d_MO_name_91 : decode b_MO_name 91 = .ok (.iastore, 1) := by decide +kernel
theorem d_MO_name_92 : decode b_MO_name 92 = .ok (.aload_n 0, 1) := by decide +kernel
theorem d_MO_name_93 : decode b_MO_name 93 = .ok (.iconst 0, 1) := by decide +kernel
theorem d_MO_name_94 : decode b_MO_name 94 = .ok (.putfield 90, 3) := by decide +kernel
theorem d_MO_name_97 : decode b_MO_name 97 = .ok (.aload_n 0, 1) := by decide +kernel
theorem d_MO_name_98 : decode b_MO_name 98 = .ok (.dup, 1) := by decide +kernel
theorem d_MO_name_99 : decode b_MO_name 99 = .ok (.getfield 133, 3) := by decide +kernel
theorem d_MO_name_102 : decode b_MO_name 102 = .ok (.iconst 1, 1) := by decide +kernel
theorem d_MO_name_103 : decode b_MO_name 103 = .ok (.iadd, 1) := by decide +kernel
theorem d_MO_name_104 : decode b_MO_name 104 = .ok (.putfield 133, 3) := by decide +kernel
theorem d_MO_name_107 : decode b_MO_name 107 = .ok (.aload_n 0, 1) := by decide +kernel
theorem d_MO_name_108 : decode b_MO_name 108 = .ok (.getfield 133, 3) := by decide +kernel
theorem d_MO_name_111 : decode b_MO_name 111 = .ok (.iconst 1, 1) := by decide +kernel
theorem d_MO_name_112 : decode b_MO_name 112 = .ok (.isub, 1) := by decide +kernel
theorem d_MO_name_113 : decode b_MO_name 113 = .ok (.ireturn, 1) := by decide +kernel
theorem d_MO_glyph_0 : decode b_MO_glyph 0 = .ok (.iload_n 1, 1) := by decide +kernel
theorem d_MO_glyph_1 : decode b_MO_glyph 1 = .ok (.invokestatic 86, 3) := by decide +kernel
theorem d_MO_glyph_4 : decode b_MO_glyph 4 = .ok (.ifCond .eq 13, 3) := by decide +kernel
theorem d_MO_glyph_7 : decode b_MO_glyph 7 = .ok (.iload_n 2, 1) := by decide +kernel
theorem d_MO_glyph_8 : decode b_MO_glyph 8 = .ok (.ifCond .lt 9, 3) := by decide +kernel
theorem d_MO_glyph_11 : decode b_MO_glyph 11 = .ok (.iload_n 2, 1) := by decide +kernel
theorem d_MO_glyph_12 : decode b_MO_glyph 12 = .ok (.bipush 64, 2) := by decide +kernel
theorem d_MO_glyph_14 : decode b_MO_glyph 14 = .ok (.if_icmp .le 5, 3) := by decide +kernel
theorem d_MO_glyph_17 : decode b_MO_glyph 17 = .ok (.iconst 0, 1) := by decide +kernel
theorem d_MO_glyph_18 : decode b_MO_glyph 18 = .ok (.ireturn, 1) := by decide +kernel
theorem d_MO_glyph_19 : decode b_MO_glyph 19 = .ok (.aload_n 0, 1) := by decide +kernel
theorem d_MO_glyph_20 : decode b_MO_glyph 20 = .ok (.getfield 32, 3) := by decide +kernel
theorem d_MO_glyph_23 : decode b_MO_glyph 23 = .ok (.iload_n 1, 1) := by decide +kernel
theorem d_MO_glyph_24 : decode b_MO_glyph 24 = .ok (.iload_n 2, 1) := by decide +kernel
theorem d_MO_glyph_25 : decode b_MO_glyph 25 = .ok (.iastore, 1) := by decide +kernel
theorem d_MO_glyph_26 : decode b_MO_glyph 26 = .ok (.iconst 1, 1) := by decide +kernel
theorem d_MO_glyph_27 : decode b_MO_glyph 27 = .ok (.ireturn, 1) := by decide +kernel
theorem d_MO_pairOf_0 : decode b_MO_pairOf 0 = .ok (.iconst 0, 1) := by decide +kernel
theorem d_MO_pairOf_1 : decode b_MO_pairOf 1 = .ok (.istore_n 3, 1) := by decide +kernel
theorem d_MO_pairOf_2 : decode b_MO_pairOf 2 = .ok (.iload_n 3, 1) := by decide +kernel
theorem d_MO_pairOf_3 : decode b_MO_pairOf 3 = .ok (.aload_n 0, 1) := by decide +kernel
theorem d_MO_pairOf_4 : decode b_MO_pairOf 4 = .ok (.getfield 136, 3) := by decide +kernel
theorem d_MO_pairOf_7 : decode b_MO_pairOf 7 = .ok (.if_icmp .ge 29, 3) := by decide +kernel
theorem d_MO_pairOf_10 : decode b_MO_pairOf 10 = .ok (.aload_n 0, 1) := by decide +kernel
theorem d_MO_pairOf_11 : decode b_MO_pairOf 11 = .ok (.getfield 35, 3) := by decide +kernel
theorem d_MO_pairOf_14 : decode b_MO_pairOf 14 = .ok (.iload_n 3, 1) := by decide +kernel
theorem d_MO_pairOf_15 : decode b_MO_pairOf 15 = .ok (.iaload, 1) := by decide +kernel
theorem d_MO_pairOf_16 : decode b_MO_pairOf 16 = .ok (.iload_n 1, 1) := by decide +kernel
theorem d_MO_pairOf_17 : decode b_MO_pairOf 17 = .ok (.if_icmp .ne 13, 3) := by decide +kernel
theorem d_MO_pairOf_20 : decode b_MO_pairOf 20 = .ok (.aload_n 0, 1) := by decide +kernel
theorem d_MO_pairOf_21 : decode b_MO_pairOf 21 = .ok (.getfield 38, 3) := by decide +kernel
theorem d_MO_pairOf_24 : decode b_MO_pairOf 24 = .ok (.iload_n 3, 1) := by decide +kernel
theorem d_MO_pairOf_25 : decode b_MO_pairOf 25 = .ok (.iaload, 1) := by decide +kernel
theorem d_MO_pairOf_26 : decode b_MO_pairOf 26 = .ok (.iload_n 2, 1) := by decide +kernel
theorem d_MO_pairOf_27 : decode b_MO_pairOf 27 = .ok (.if_icmp .eq 9, 3) := by decide +kernel
theorem d_MO_pairOf_30 : decode b_MO_pairOf 30 = .ok (.iinc 3 1, 3) := by decide +kernel
theorem d_MO_pairOf_33 : decode b_MO_pairOf 33 = .ok (.goto (-31), 3) := by decide +kernel
theorem d_MO_pairOf_36 : decode b_MO_pairOf 36 = .ok (.iload_n 3, 1) := by decide +kernel
theorem d_MO_pairOf_37 : decode b_MO_pairOf 37 = .ok (.ireturn, 1) := by decide +kernel
theorem d_MO_kern_0 : decode b_MO_kern 0 = .ok (.iload_n 1, 1) := by decide +kernel
theorem d_MO_kern_1 : decode b_MO_kern 1 = .ok (.invokestatic 86, 3) := by decide +kernel
theorem d_MO_kern_4 : decode b_MO_kern 4 = .ok (.ifCond .eq 22, 3) := by decide +kernel
theorem d_MO_kern_7 : decode b_MO_kern 7 = .ok (.iload_n 2, 1) := by decide +kernel
theorem d_MO_kern_8 : decode b_MO_kern 8 = .ok (.invokestatic 86, 3) := by decide +kernel
theorem d_MO_kern_11 : decode b_MO_kern 11 = .ok (.ifCond .eq 15, 3) := by decide +kernel
theorem d_MO_kern_14 : decode b_MO_kern 14 = .ok (.iload_n 3, 1) := by decide +kernel
theorem d_MO_kern_15 : decode b_MO_kern 15 = .ok (.bipush (-16), 2) := by decide +kernel
theorem d_MO_kern_17 : decode b_MO_kern 17 = .ok (.if_icmp .lt 9, 3) := by decide +kernel
theorem d_MO_kern_20 : decode b_MO_kern 20 = .ok (.iload_n 3, 1) := by decide +kernel
theorem d_MO_kern_21 : decode b_MO_kern 21 = .ok (.bipush 16, 2) := by decide +kernel
theorem d_MO_kern_23 : decode b_MO_kern 23 = .ok (.if_icmp .le 5, 3) := by decide +kernel
theorem d_MO_kern_26 : decode b_MO_kern 26 = .ok (.iconst 0, 1) := by decide +kernel
theorem d_MO_kern_27 : decode b_MO_kern 27 = .ok (.ireturn, 1) := by decide +kernel
theorem d_MO_kern_28 : decode b_MO_kern 28 = .ok (.aload_n 0, 1) := by decide +kernel
theorem d_MO_kern_29 : decode b_MO_kern 29 = .ok (.iload_n 1, 1) := by decide +kernel
theorem d_MO_kern_30 : decode b_MO_kern 30 = .ok (.iload_n 2, 1) := by decide +kernel
theorem d_MO_kern_31 : decode b_MO_kern 31 = .ok (.invokevirtual 139, 3) := by decide +kernel
theorem d_MO_kern_34 : decode b_MO_kern 34 = .ok (.istore 4, 2) := by decide +kernel
theorem d_MO_kern_36 : decode b_MO_kern 36 = .ok (.iload 4, 2) := by decide +kernel
theorem d_MO_kern_38 : decode b_MO_kern 38 = .ok (.bipush 60, 2) := by decide +kernel
theorem d_MO_kern_40 : decode b_MO_kern 40 = .ok (.if_icmp .ne 5, 3) := by decide +kernel
theorem d_MO_kern_43 : decode b_MO_kern 43 = .ok (.iconst 0, 1) := by decide +kernel
theorem d_MO_kern_44 : decode b_MO_kern 44 = .ok (.ireturn, 1) := by decide +kernel
theorem d_MO_kern_45 : decode b_MO_kern 45 = .ok (.aload_n 0, 1) := by decide +kernel
theorem d_MO_kern_46 : decode b_MO_kern 46 = .ok (.getfield 35, 3) := by decide +kernel
theorem d_MO_kern_49 : decode b_MO_kern 49 = .ok (.iload 4, 2) := by decide +kernel
theorem d_MO_kern_51 : decode b_MO_kern 51 = .ok (.iload_n 1, 1) := by decide +kernel
theorem d_MO_kern_52 : decode b_MO_kern 52 = .ok (.iastore, 1) := by decide +kernel
theorem d_MO_kern_53 : decode b_MO_kern 53 = .ok (.aload_n 0, 1) := by decide +kernel
theorem d_MO_kern_54 : decode b_MO_kern 54 = .ok (.getfield 38, 3) := by decide +kernel
theorem d_MO_kern_57 : decode b_MO_kern 57 = .ok (.iload 4, 2) := by decide +kernel
theorem d_MO_kern_59 : decode b_MO_kern 59 = .ok (.iload_n 2, 1) := by decide +kernel
theorem d_MO_kern_60 : decode b_MO_kern 60 = .ok (.iastore, 1) := by decide +kernel
theorem d_MO_kern_61 : decode b_MO_kern 61 = .ok (.aload_n 0, 1) := by decide +kernel
theorem d_MO_kern_62 : decode b_MO_kern 62 = .ok (.getfield 41, 3) := by decide +kernel
theorem d_MO_kern_65 : decode b_MO_kern 65 = .ok (.iload 4, 2) := by decide +kernel
theorem d_MO_kern_67 : decode b_MO_kern 67 = .ok (.iload_n 3, 1) := by decide +kernel
theorem d_MO_kern_68 : decode b_MO_kern 68 = .ok (.iastore, 1) := by decide +kernel
theorem d_MO_kern_69 : decode b_MO_kern 69 = .ok (.aload_n 0, 1) := by decide +kernel
theorem d_MO_kern_70 : decode b_MO_kern 70 = .ok (.iload 4, 2) := by decide +kernel
theorem d_MO_kern_72 : decode b_MO_kern 72 = .ok (.aload_n 0, 1) := by decide +kernel
theorem d_MO_kern_73 : decode b_MO_kern 73 = .ok (.getfield 136, 3) := by decide +kernel
theorem d_MO_kern_76 : decode b_MO_kern 76 = .ok (.if_icmp .ne 12, 3) := by decide +kernel
theorem d_MO_kern_79 : decode b_MO_kern 79 = .ok (.aload_n 0, 1) := by decide +kernel
theorem d_MO_kern_80 : decode b_MO_kern 80 = .ok (.getfield 136, 3) := by decide +kernel
theorem d_MO_kern_83 : decode b_MO_kern 83 = .ok (.iconst 1, 1) := by decide +kernel
theorem d_MO_kern_84 : decode b_MO_kern 84 = .ok (.iadd, 1) := by decide +kernel
theorem d_MO_kern_85 : decode b_MO_kern 85 = .ok (.goto 7, 3) := by decide +kernel
theorem d_MO_kern_88 : decode b_MO_kern 88 = .ok (.aload_n 0, 1) := by decide +kernel
theorem d_MO_kern_89 : decode b_MO_kern 89 = .ok (.getfield 136, 3) := by decide +kernel
theorem d_MO_kern_92 : decode b_MO_kern 92 = .ok (.putfield 136, 3) := by decide +kernel
theorem d_MO_kern_95 : decode b_MO_kern 95 = .ok (.iconst 1, 1) := by decide +kernel
theorem d_MO_kern_96 : decode b_MO_kern 96 = .ok (.ireturn, 1) := by decide +kernel
theorem d_MO_isSpeed_0 : decode b_MO_isSpeed 0 = .ok (.iload_n 0, 1) := by decide +kernel
theorem d_MO_isSpeed_1 : decode b_MO_isSpeed 1 = .ok (.iconst 1, 1) := by decide +kernel
theorem d_MO_isSpeed_2 : decode b_MO_isSpeed 2 = .ok (.if_icmp .lt 14, 3) := by decide +kernel
theorem d_MO_isSpeed_5 : decode b_MO_isSpeed 5 = .ok (.iload_n 0, 1) := by decide +kernel
theorem d_MO_isSpeed_6 : decode b_MO_isSpeed 6 = .ok (.sipush 999, 3) := by decide +kernel
theorem d_MO_isSpeed_9 : decode b_MO_isSpeed 9 = .ok (.if_icmp .gt 7, 3) := by decide +kernel
theorem d_MO_isSpeed_12 : decode b_MO_isSpeed 12 = .ok (.iconst 1, 1) := by decide +kernel
theorem d_MO_isSpeed_13 : decode b_MO_isSpeed 13 = .ok (.goto 4, 3) := by decide +kernel
theorem d_MO_isSpeed_16 : decode b_MO_isSpeed 16 = .ok (.iconst 0, 1) := by decide +kernel
theorem d_MO_isSpeed_17 : decode b_MO_isSpeed 17 = .ok (.ireturn, 1) := by decide +kernel
theorem d_MO_height_0 : decode b_MO_height 0 = .ok (.iload_n 1, 1) := by decide +kernel
theorem d_MO_height_1 : decode b_MO_height 1 = .ok (.invokestatic 143, 3) := by decide +kernel
theorem d_MO_height_4 : decode b_MO_height 4 = .ok (.ifCond .ne 5, 3) := by decide +kernel
theorem d_MO_height_7 : decode b_MO_height 7 = .ok (.iconst (-1), 1) := by decide +kernel
theorem d_MO_height_8 : decode b_MO_height 8 = .ok (.ireturn, 1) := by decide +kernel
theorem d_MO_height_9 : decode b_MO_height 9 = .ok (.iconst 0, 1) := by decide +kernel
theorem d_MO_height_10 : decode b_MO_height 10 = .ok (.istore_n 2, 1) := by decide +kernel
theorem d_MO_height_11 : decode b_MO_height 11 = .ok (.iload_n 2, 1) := by decide +kernel
theorem d_MO_height_12 : decode b_MO_height 12 = .ok (.iconst 1, 1) := by decide +kernel
theorem d_MO_height_13 : decode b_MO_height 13 = .ok (.iadd, 1) := by decide +kernel
theorem d_MO_height_14 : decode b_MO_height 14 = .ok (.aload_n 0, 1) := by decide +kernel
theorem d_MO_height_15 : decode b_MO_height 15 = .ok (.getfield 13, 3) := by decide +kernel
theorem d_MO_height_18 : decode b_MO_height 18 = .ok (.if_icmp .ge 19, 3) := by decide +kernel
theorem d_MO_height_21 : decode b_MO_height 21 = .ok (.aload_n 0, 1) := by decide +kernel
theorem d_MO_height_22 : decode b_MO_height 22 = .ok (.getfield 17, 3) := by decide +kernel
theorem d_MO_height_25 : decode b_MO_height 25 = .ok (.iload_n 2, 1) := by decide +kernel
theorem d_MO_height_26 : decode b_MO_height 26 = .ok (.iaload, 1) := by decide +kernel
theorem d_MO_height_27 : decode b_MO_height 27 = .ok (.iload_n 1, 1) := by decide +kernel
theorem d_MO_height_28 : decode b_MO_height 28 = .ok (.if_icmp .ge 9, 3) := by decide +kernel
theorem d_MO_height_31 : decode b_MO_height 31 = .ok (.iinc 2 1, 3) := by decide +kernel
theorem d_MO_height_34 : decode b_MO_height 34 = .ok (.goto (-23), 3) := by decide +kernel
theorem d_MO_height_37 : decode b_MO_height 37 = .ok (.aload_n 0, 1) := by decide +kernel
theorem d_MO_height_38 : decode b_MO_height 38 = .ok (.getfield 20, 3) := by decide +kernel
theorem d_MO_height_41 : decode b_MO_height 41 = .ok (.iload_n 2, 1) := by decide +kernel
theorem d_MO_height_42 : decode b_MO_height 42 = .ok (.iaload, 1) := by decide +kernel
theorem d_MO_height_43 : decode b_MO_height 43 = .ok (.ireturn, 1) := by decide +kernel
theorem d_MO_isName_0 : decode b_MO_isName 0 = .ok (.iload_n 1, 1) := by decide +kernel
theorem d_MO_isName_1 : decode b_MO_isName 1 = .ok (.ifCond .lt 15, 3) := by decide +kernel
theorem d_MO_isName_4 : decode b_MO_isName 4 = .ok (.iload_n 1, 1) := by decide +kernel
theorem d_MO_isName_5 : decode b_MO_isName 5 = .ok (.aload_n 0, 1) := by decide +kernel
theorem d_MO_isName_6 : decode b_MO_isName 6 = .ok (.getfield 133, 3) := by decide +kernel
theorem d_MO_isName_9 : decode b_MO_isName 9 = .ok (.if_icmp .ge 7, 3) := by decide +kernel
theorem d_MO_isName_12 : decode b_MO_isName 12 = .ok (.iconst 1, 1) := by decide +kernel
theorem d_MO_isName_13 : decode b_MO_isName 13 = .ok (.goto 4, 3) := by decide +kernel
theorem d_MO_isName_16 : decode b_MO_isName 16 = .ok (.iconst 0, 1) := by decide +kernel
theorem d_MO_isName_17 : decode b_MO_isName 17 = .ok (.ireturn, 1) := by decide +kernel
theorem d_MO_letter_0 : decode b_MO_letter 0 = .ok (.aload_n 0, 1) := by decide +kernel
theorem d_MO_letter_1 : decode b_MO_letter 1 = .ok (.getfield 47, 3) := by decide +kernel
theorem d_MO_letter_4 : decode b_MO_letter 4 = .ok (.bipush 12, 2) := by decide +kernel
theorem d_MO_letter_6 : decode b_MO_letter 6 = .ok (.iload_n 1, 1) := by decide +kernel
theorem d_MO_letter_7 : decode b_MO_letter 7 = .ok (.imul, 1) := by decide +kernel
theorem d_MO_letter_8 : decode b_MO_letter 8 = .ok (.iload_n 2, 1) := by decide +kernel
theorem d_MO_letter_9 : decode b_MO_letter 9 = .ok (.iadd, 1) := by decide +kernel
theorem d_MO_letter_10 : decode b_MO_letter 10 = .ok (.iaload, 1) := by decide +kernel
theorem d_MO_letter_11 : decode b_MO_letter 11 = .ok (.ireturn, 1) := by decide +kernel
theorem d_MO_before_0 : decode b_MO_before 0 = .ok (.iconst 0, 1) := by decide +kernel
theorem d_MO_before_1 : decode b_MO_before 1 = .ok (.istore_n 3, 1) := by decide +kernel
theorem d_MO_before_2 : decode b_MO_before 2 = .ok (.iconst 0, 1) := by decide +kernel
theorem d_MO_before_3 : decode b_MO_before 3 = .ok (.istore 4, 2) := by decide +kernel
theorem d_MO_before_5 : decode b_MO_before 5 = .ok (.iload 4, 2) := by decide +kernel
theorem d_MO_before_7 : decode b_MO_before 7 = .ok (.iload_n 2, 1) := by decide +kernel
theorem d_MO_before_8 : decode b_MO_before 8 = .ok (.if_icmp .ge 82, 3) := by decide +kernel
theorem d_MO_before_11 : decode b_MO_before 11 = .ok (.iload_n 3, 1) := by decide +kernel
theorem d_MO_before_12 : decode b_MO_before 12 = .ok (.aload_n 0, 1) := by decide +kernel
theorem d_MO_before_13 : decode b_MO_before 13 = .ok (.getfield 32, 3) := by decide +kernel
theorem d_MO_before_16 : decode b_MO_before 16 = .ok (.aload_n 0, 1) := by decide +kernel
theorem d_MO_before_17 : decode b_MO_before 17 = .ok (.iload_n 1, 1) := by decide +kernel
theorem d_MO_before_18 : decode b_MO_before 18 = .ok (.iload 4, 2) := by decide +kernel
theorem d_MO_before_20 : decode b_MO_before 20 = .ok (.invokevirtual 146, 3) := by decide +kernel
theorem d_MO_before_23 : decode b_MO_before 23 = .ok (.iaload, 1) := by decide +kernel
theorem d_MO_before_24 : decode b_MO_before 24 = .ok (.iadd, 1) := by decide +kernel
theorem d_MO_before_25 : decode b_MO_before 25 = .ok (.istore_n 3, 1) := by decide +kernel
theorem d_MO_before_26 : decode b_MO_before 26 = .ok (.iload 4, 2) := by decide +kernel
theorem d_MO_before_28 : decode b_MO_before 28 = .ok (.iconst 1, 1) := by decide +kernel
theorem d_MO_before_29 : decode b_MO_before 29 = .ok (.iadd, 1) := by decide +kernel
theorem d_MO_before_30 : decode b_MO_before 30 = .ok (.aload_n 0, 1) := by decide +kernel
theorem d_MO_before_31 : decode b_MO_before 31 = .ok (.getfield 44, 3) := by decide +kernel
theorem d_MO_before_34 : decode b_MO_before 34 = .ok (.iload_n 1, 1) := by decide +kernel
theorem d_MO_before_35 : decode b_MO_before 35 = .ok (.iaload, 1) := by decide +kernel
theorem d_MO_before_36 : decode b_MO_before 36 = .ok (.if_icmp .ge 48, 3) := by decide +kernel
theorem d_MO_before_39 : decode b_MO_before 39 = .ok (.aload_n 0, 1) := by decide +kernel
theorem d_MO_before_40 : decode b_MO_before 40 = .ok (.aload_n 0, 1) := by decide +kernel
theorem d_MO_before_41 : decode b_MO_before 41 = .ok (.iload_n 1, 1) := by decide +kernel
theorem d_MO_before_42 : decode b_MO_before 42 = .ok (.iload 4, 2) := by decide +kernel
theorem d_MO_before_44 : decode b_MO_before 44 = .ok (.invokevirtual 146, 3) := by decide +kernel
theorem d_MO_before_47 : decode b_MO_before 47 = .ok (.aload_n 0, 1) := by decide +kernel
theorem d_MO_before_48 : decode b_MO_before 48 = .ok (.iload_n 1, 1) := by decide +kernel
theorem d_MO_before_49 : decode b_MO_before 49 = .ok (.iload 4, 2) := by decide +kernel
theorem d_MO_before_51 : decode b_MO_before 51 = .ok (.iconst 1, 1) := by decide +kernel
theorem d_MO_before_52 : decode b_MO_before 52 = .ok (.iadd, 1) := by decide +kernel
theorem d_MO_before_53 : decode b_MO_before 53 = .ok (.invokevirtual 146, 3) := by decide +kernel
theorem d_MO_before_56 : decode b_MO_before 56 = .ok (.invokevirtual 139, 3) := by decide +kernel
theorem d_MO_before_59 : decode b_MO_before 59 = .ok (.istore 5, 2) := by decide +kernel
theorem d_MO_before_61 : decode b_MO_before 61 = .ok (.iload_n 3, 1) := by decide +kernel
theorem d_MO_before_62 : decode b_MO_before 62 = .ok (.iload 5, 2) := by decide +kernel
theorem d_MO_before_64 : decode b_MO_before 64 = .ok (.aload_n 0, 1) := by decide +kernel
theorem d_MO_before_65 : decode b_MO_before 65 = .ok (.getfield 136, 3) := by decide +kernel
theorem d_MO_before_68 : decode b_MO_before 68 = .ok (.if_icmp .ge 13, 3) := by decide +kernel
theorem d_MO_before_71 : decode b_MO_before 71 = .ok (.aload_n 0, 1) := by decide +kernel
theorem d_MO_before_72 : decode b_MO_before 72 = .ok (.getfield 41, 3) := by decide +kernel
theorem d_MO_before_75 : decode b_MO_before 75 = .ok (.iload 5, 2) := by decide +kernel
theorem d_MO_before_77 : decode b_MO_before 77 = .ok (.iaload, 1) := by decide +kernel
theorem d_MO_before_78 : decode b_MO_before 78 = .ok (.goto 4, 3) := by decide +kernel
theorem d_MO_before_81 : decode b_MO_before 81 = .ok (.iconst 0, 1) := by decide +kernel
theorem d_MO_before_82 : decode b_MO_before 82 = .ok (.iadd, 1) := by decide +kernel
theorem d_MO_before_83 : decode b_MO_before 83 = .ok (.istore_n 3, 1) := by decide +kernel
theorem d_MO_before_84 : decode b_MO_before 84 = .ok (.iinc 4 1, 3) := by decide +kernel
theorem d_MO_before_87 : decode b_MO_before 87 = .ok (.goto (-82), 3) := by decide +kernel
theorem d_MO_before_90 : decode b_MO_before 90 = .ok (.iload_n 3, 1) := by decide +kernel
theorem d_MO_before_91 : decode b_MO_before 91 = .ok (.ireturn, 1) := by decide +kernel
theorem d_MO_width_0 : decode b_MO_width 0 = .ok (.aload_n 0, 1) := by decide +kernel
theorem d_MO_width_1 : decode b_MO_width 1 = .ok (.iload_n 1, 1) := by decide +kernel
theorem d_MO_width_2 : decode b_MO_width 2 = .ok (.invokevirtual 149, 3) := by decide +kernel
theorem d_MO_width_5 : decode b_MO_width 5 = .ok (.ifCond .eq 30, 3) := by decide +kernel
theorem d_MO_width_8 : decode b_MO_width 8 = .ok (.iload_n 2, 1) := by decide +kernel
theorem d_MO_width_9 : decode b_MO_width 9 = .ok (.invokestatic 143, 3) := by decide +kernel
theorem d_MO_width_12 : decode b_MO_width 12 = .ok (.ifCond .eq 23, 3) := by decide +kernel
theorem d_MO_width_15 : decode b_MO_width 15 = .ok (.aload_n 0, 1) := by decide +kernel
theorem d_MO_width_16 : decode b_MO_width 16 = .ok (.iload_n 1, 1) := by decide +kernel
theorem d_MO_width_17 : decode b_MO_width 17 = .ok (.aload_n 0, 1) := by decide +kernel
theorem d_MO_width_18 : decode b_MO_width 18 = .ok (.getfield 44, 3) := by decide +kernel
theorem d_MO_width_21 : decode b_MO_width 21 = .ok (.iload_n 1, 1) := by decide +kernel
theorem d_MO_width_22 : decode b_MO_width 22 = .ok (.iaload, 1) := by decide +kernel
theorem d_MO_width_23 : decode b_MO_width 23 = .ok (.invokevirtual 152, 3) := by decide +kernel
theorem d_MO_width_26 : decode b_MO_width 26 = .ok (.aload_n 0, 1) := by decide +kernel
theorem d_MO_width_27 : decode b_MO_width 27 = .ok (.iload_n 2, 1) := by decide +kernel
theorem d_MO_width_28 : decode b_MO_width 28 = .ok (.invokevirtual 155, 3) := by decide +kernel
theorem d_MO_width_31 : decode b_MO_width 31 = .ok (.imul, 1) := by decide +kernel
theorem d_MO_width_32 : decode b_MO_width 32 = .ok (.goto 4, 3) := by decide +kernel
theorem d_MO_width_35 : decode b_MO_width 35 = .ok (.iconst (-1), 1) := by decide +kernel
theorem d_MO_width_36 : decode b_MO_width 36 = .ok (.ireturn, 1) := by decide +kernel
theorem d_MO_isNode_0 : decode b_MO_isNode 0 = .ok (.iload_n 0, 1) := by decide +kernel
theorem d_MO_isNode_1 : decode b_MO_isNode 1 = .ok (.ifCond .lt 13, 3) := by decide +kernel
theorem d_MO_isNode_4 : decode b_MO_isNode 4 = .ok (.iload_n 0, 1) := by decide +kernel
theorem d_MO_isNode_5 : decode b_MO_isNode 5 = .ok (.bipush 10, 2) := by decide +kernel
theorem d_MO_isNode_7 : decode b_MO_isNode 7 = .ok (.if_icmp .ge 7, 3) := by decide +kernel
theorem d_MO_isNode_10 : decode b_MO_isNode 10 = .ok (.iconst 1, 1) := by decide +kernel
theorem d_MO_isNode_11 : decode b_MO_isNode 11 = .ok (.goto 4, 3) := by decide +kernel
theorem d_MO_isNode_14 : decode b_MO_isNode 14 = .ok (.iconst 0, 1) := by decide +kernel
theorem d_MO_isNode_15 : decode b_MO_isNode 15 = .ok (.ireturn, 1) := by decide +kernel
theorem d_MO_way_0 : decode b_MO_way 0 = .ok (.iload_n 1, 1) := by decide +kernel
theorem d_MO_way_1 : decode b_MO_way 1 = .ok (.invokestatic 158, 3) := by decide +kernel
theorem d_MO_way_4 : decode b_MO_way 4 = .ok (.ifCond .eq 30, 3) := by decide +kernel
theorem d_MO_way_7 : decode b_MO_way 7 = .ok (.iload_n 2, 1) := by decide +kernel
theorem d_MO_way_8 : decode b_MO_way 8 = .ok (.invokestatic 158, 3) := by decide +kernel
theorem d_MO_way_11 : decode b_MO_way 11 = .ok (.ifCond .eq 23, 3) := by decide +kernel
theorem d_MO_way_14 : decode b_MO_way 14 = .ok (.iload_n 3, 1) := by decide +kernel
theorem d_MO_way_15 : decode b_MO_way 15 = .ok (.iconst 1, 1) := by decide +kernel
theorem d_MO_way_16 : decode b_MO_way 16 = .ok (.if_icmp .lt 18, 3) := by decide +kernel
theorem d_MO_way_19 : decode b_MO_way 19 = .ok (.iload_n 3, 1) := by decide +kernel
theorem d_MO_way_20 : decode b_MO_way 20 = .ok (.ldc 161, 2) := by decide +kernel
theorem d_MO_way_22 : decode b_MO_way 22 = .ok (.if_icmp .gt 12, 3) := by decide +kernel
theorem d_MO_way_25 : decode b_MO_way 25 = .ok (.aload_n 0, 1) := by decide +kernel
theorem d_MO_way_26 : decode b_MO_way 26 = .ok (.getfield 162, 3) := by decide +kernel
theorem d_MO_way_29 : decode b_MO_way 29 = .ok (.bipush 24, 2) := by decide +kernel
theorem d_MO_way_31 : decode b_MO_way 31 = .ok (.if_icmp .ne 5, 3) := by decide +kernel
theorem d_MO_way_34 : decode b_MO_way 34 = .ok (.iconst (-1), 1) := by decide +kernel
theorem d_MO_way_35 : decode b_MO_way 35 = .ok (.ireturn, 1) := by decide +kernel
theorem d_MO_way_36 : decode b_MO_way 36 = .ok (.aload_n 0, 1) := by decide +kernel
theorem d_MO_way_37 : decode b_MO_way 37 = .ok (.getfield 53, 3) := by decide +kernel
theorem d_MO_way_40 : decode b_MO_way 40 = .ok (.aload_n 0, 1) := by decide +kernel
theorem d_MO_way_41 : decode b_MO_way 41 = .ok (.getfield 162, 3) := by decide +kernel
theorem d_MO_way_44 : decode b_MO_way 44 = .ok (.iload_n 1, 1) := by decide +kernel
theorem d_MO_way_45 : decode b_MO_way 45 = .ok (.iastore, 1) := by decide +kernel
theorem d_MO_way_46 : decode b_MO_way 46 = .ok (.aload_n 0, 1) := by decide +kernel
theorem d_MO_way_47 : decode b_MO_way 47 = .ok (.getfield 56, 3) := by decide +kernel
theorem d_MO_way_50 : decode b_MO_way 50 = .ok (.aload_n 0, 1) := by decide +kernel
theorem d_MO_way_51 : decode b_MO_way 51 = .ok (.getfield 162, 3) := by decide +kernel
theorem d_MO_way_54 : decode b_MO_way 54 = .ok (.iload_n 2, 1) := by decide +kernel
theorem d_MO_way_55 : decode b_MO_way 55 = .ok (.iastore, 1) := by decide +kernel
theorem d_MO_way_56 : decode b_MO_way 56 = .ok (.aload_n 0, 1) := by decide +kernel
theorem d_MO_way_57 : decode b_MO_way 57 = .ok (.getfield 59, 3) := by decide +kernel
theorem d_MO_way_60 : decode b_MO_way 60 = .ok (.aload_n 0, 1) := by decide +kernel
theorem d_MO_way_61 : decode b_MO_way 61 = .ok (.getfield 162, 3) := by decide +kernel
theorem d_MO_way_64 : decode b_MO_way 64 = .ok (.iload_n 3, 1) := by decide +kernel
theorem d_MO_way_65 : decode b_MO_way 65 = .ok (.iastore, 1) := by decide +kernel
theorem d_MO_way_66 : decode b_MO_way 66 = .ok (.aload_n 0, 1) := by decide +kernel
theorem d_MO_way_67 : decode b_MO_way 67 = .ok (.dup, 1) := by decide +kernel
theorem d_MO_way_68 : decode b_MO_way 68 = .ok (.getfield 162, 3) := by decide +kernel
theorem d_MO_way_71 : decode b_MO_way 71 = .ok (.iconst 1, 1) := by decide +kernel
theorem d_MO_way_72 : decode b_MO_way 72 = .ok (.iadd, 1) := by decide +kernel
theorem d_MO_way_73 : decode b_MO_way 73 = .ok (.putfield 162, 3) := by decide +kernel
theorem d_MO_way_76 : decode b_MO_way 76 = .ok (.aload_n 0, 1) := by decide +kernel
theorem d_MO_way_77 : decode b_MO_way 77 = .ok (.getfield 162, 3) := by decide +kernel
theorem d_MO_way_80 : decode b_MO_way 80 = .ok (.iconst 1, 1) := by decide +kernel
theorem d_MO_way_81 : decode b_MO_way 81 = .ok (.isub, 1) := by decide +kernel
theorem d_MO_way_82 : decode b_MO_way 82 = .ok (.ireturn, 1) := by decide +kernel
theorem d_MO_goal_0 : decode b_MO_goal 0 = .ok (.aload_n 0, 1) := by decide +kernel
theorem d_MO_goal_1 : decode b_MO_goal 1 = .ok (.iload_n 1, 1) := by decide +kernel
theorem d_MO_goal_2 : decode b_MO_goal 2 = .ok (.invokevirtual 149, 3) := by decide +kernel
theorem d_MO_goal_5 : decode b_MO_goal 5 = .ok (.ifCond .eq 15, 3) := by decide +kernel
theorem d_MO_goal_8 : decode b_MO_goal 8 = .ok (.iload_n 2, 1) := by decide +kernel
theorem d_MO_goal_9 : decode b_MO_goal 9 = .ok (.iconst (-1), 1) := by decide +kernel
theorem d_MO_goal_10 : decode b_MO_goal 10 = .ok (.if_icmp .eq 12, 3) := by decide +kernel
theorem d_MO_goal_13 : decode b_MO_goal 13 = .ok (.iload_n 2, 1) := by decide +kernel
theorem d_MO_goal_14 : decode b_MO_goal 14 = .ok (.invokestatic 158, 3) := by decide +kernel
theorem d_MO_goal_17 : decode b_MO_goal 17 = .ok (.ifCond .ne 5, 3) := by decide +kernel
theorem d_MO_goal_20 : decode b_MO_goal 20 = .ok (.iconst 0, 1) := by decide +kernel
theorem d_MO_goal_21 : decode b_MO_goal 21 = .ok (.ireturn, 1) := by decide +kernel
theorem d_MO_goal_22 : decode b_MO_goal 22 = .ok (.aload_n 0, 1) := by decide +kernel
theorem d_MO_goal_23 : decode b_MO_goal 23 = .ok (.getfield 50, 3) := by decide +kernel
theorem d_MO_goal_26 : decode b_MO_goal 26 = .ok (.iload_n 1, 1) := by decide +kernel
theorem d_MO_goal_27 : decode b_MO_goal 27 = .ok (.iload_n 2, 1) := by decide +kernel
theorem d_MO_goal_28 : decode b_MO_goal 28 = .ok (.iastore, 1) := by decide +kernel
theorem d_MO_goal_29 : decode b_MO_goal 29 = .ok (.iconst 1, 1) := by decide +kernel
theorem d_MO_goal_30 : decode b_MO_goal 30 = .ok (.ireturn, 1) := by decide +kernel
theorem d_MO_board_0 : decode b_MO_board 0 = .ok (.iload_n 1, 1) := by decide +kernel
theorem d_MO_board_1 : decode b_MO_board 1 = .ok (.ifCond .lt 20, 3) := by decide +kernel
theorem d_MO_board_4 : decode b_MO_board 4 = .ok (.iload_n 1, 1) := by decide +kernel
theorem d_MO_board_5 : decode b_MO_board 5 = .ok (.aload_n 0, 1) := by decide +kernel
theorem d_MO_board_6 : decode b_MO_board 6 = .ok (.getfield 162, 3) := by decide +kernel
theorem d_MO_board_9 : decode b_MO_board 9 = .ok (.if_icmp .ge 12, 3) := by decide +kernel
theorem d_MO_board_12 : decode b_MO_board 12 = .ok (.aload_n 0, 1) := by decide +kernel
theorem d_MO_board_13 : decode b_MO_board 13 = .ok (.getfield 165, 3) := by decide +kernel
theorem d_MO_board_16 : decode b_MO_board 16 = .ok (.bipush 8, 2) := by decide +kernel
theorem d_MO_board_18 : decode b_MO_board 18 = .ok (.if_icmp .ne 5, 3) := by decide +kernel
theorem d_MO_board_21 : decode b_MO_board 21 = .ok (.iconst (-1), 1) := by decide +kernel
theorem d_MO_board_22 : decode b_MO_board 22 = .ok (.ireturn, 1) := by decide +kernel
theorem d_MO_board_23 : decode b_MO_board 23 = .ok (.aload_n 0, 1) := by decide +kernel
theorem d_MO_board_24 : decode b_MO_board 24 = .ok (.getfield 62, 3) := by decide +kernel
theorem d_MO_board_27 : decode b_MO_board 27 = .ok (.aload_n 0, 1) := by decide +kernel
theorem d_MO_board_28 : decode b_MO_board 28 = .ok (.getfield 165, 3) := by decide +kernel
theorem d_MO_board_31 : decode b_MO_board 31 = .ok (.iload_n 1, 1) := by decide +kernel
theorem d_MO_board_32 : decode b_MO_board 32 = .ok (.iastore, 1) := by decide +kernel
theorem d_MO_board_33 : decode b_MO_board 33 = .ok (.aload_n 0, 1) := by decide +kernel
theorem d_MO_board_34 : decode b_MO_board 34 = .ok (.getfield 65, 3) := by decide +kernel
theorem d_MO_board_37 : decode b_MO_board 37 = .ok (.aload_n 0, 1) := by decide +kernel
theorem d_MO_board_38 : decode b_MO_board 38 = .ok (.getfield 165, 3) := by decide +kernel
theorem d_MO_board_41 : decode b_MO_board 41 = .ok (.iconst 0, 1) := by decide +kernel
theorem d_MO_board_42 : decode b_MO_board 42 = .ok (.iastore, 1) := by decide +kernel
theorem d_MO_board_43 : decode b_MO_board 43 = .ok (.aload_n 0, 1) := by decide +kernel
theorem d_MO_board_44 : decode b_MO_board 44 = .ok (.getfield 74, 3) := by decide +kernel
theorem d_MO_board_47 : decode b_MO_board 47 = .ok (.aload_n 0, 1) := by decide +kernel
theorem d_MO_board_48 : decode b_MO_board 48 = .ok (.getfield 165, 3) := by decide +kernel
theorem d_MO_board_51 : decode b_MO_board 51 = .ok (.iconst 0, 1) := by decide +kernel
theorem d_MO_board_52 : decode b_MO_board 52 = .ok (.iastore, 1) := by decide +kernel
theorem d_MO_board_53 : decode b_MO_board 53 = .ok (.aload_n 0, 1) := by decide +kernel
theorem d_MO_board_54 : decode b_MO_board 54 = .ok (.dup, 1) := by decide +kernel
theorem d_MO_board_55 : decode b_MO_board 55 = .ok (.getfield 165, 3) := by decide +kernel
theorem d_MO_board_58 : decode b_MO_board 58 = .ok (.iconst 1, 1) := by decide +kernel
theorem d_MO_board_59 : decode b_MO_board 59 = .ok (.iadd, 1) := by decide +kernel
theorem d_MO_board_60 : decode b_MO_board 60 = .ok (.putfield 165, 3) := by decide +kernel
theorem d_MO_board_63 : decode b_MO_board 63 = .ok (.aload_n 0, 1) := by decide +kernel
theorem d_MO_board_64 : decode b_MO_board 64 = .ok (.getfield 165, 3) := by decide +kernel
theorem d_MO_board_67 : decode b_MO_board 67 = .ok (.iconst 1, 1) := by decide +kernel
theorem d_MO_board_68 : decode b_MO_board 68 = .ok (.isub, 1) := by decide +kernel
theorem d_MO_board_69 : decode b_MO_board 69 = .ok (.ireturn, 1) := by decide +kernel
theorem d_MO_isBoard_0 : decode b_MO_isBoard 0 = .ok (.iload_n 1, 1) := by decide +kernel
theorem d_MO_isBoard_1 : decode b_MO_isBoard 1 = .ok (.ifCond .lt 15, 3) := by decide +kernel
theorem d_MO_isBoard_4 : decode b_MO_isBoard 4 = .ok (.iload_n 1, 1) := by decide +kernel
theorem d_MO_isBoard_5 : decode b_MO_isBoard 5 = .ok (.aload_n 0, 1) := by decide +kernel
theorem d_MO_isBoard_6 : decode b_MO_isBoard 6 = .ok (.getfield 165, 3) := by decide +kernel
theorem d_MO_isBoard_9 : decode b_MO_isBoard 9 = .ok (.if_icmp .ge 7, 3) := by decide +kernel
theorem d_MO_isBoard_12 : decode b_MO_isBoard 12 = .ok (.iconst 1, 1) := by decide +kernel
theorem d_MO_isBoard_13 : decode b_MO_isBoard 13 = .ok (.goto 4, 3) := by decide +kernel
theorem d_MO_isBoard_16 : decode b_MO_isBoard 16 = .ok (.iconst 0, 1) := by decide +kernel
theorem d_MO_isBoard_17 : decode b_MO_isBoard 17 = .ok (.ireturn, 1) := by decide +kernel
theorem d_MO_has_0 : decode b_MO_has 0 = .ok (.iconst 0, 1) := by decide +kernel
theorem d_MO_has_1 : decode b_MO_has 1 = .ok (.istore_n 3, 1) := by decide +kernel
theorem d_MO_has_2 : decode b_MO_has 2 = .ok (.iconst 0, 1) := by decide +kernel
theorem d_MO_has_3 : decode b_MO_has 3 = .ok (.istore 4, 2) := by decide +kernel
theorem d_MO_has_5 : decode b_MO_has 5 = .ok (.iload 4, 2) := by decide +kernel
theorem d_MO_has_7 : decode b_MO_has 7 = .ok (.aload_n 0, 1) := by decide +kernel
theorem d_MO_has_8 : decode b_MO_has 8 = .ok (.getfield 65, 3) := by decide +kernel
theorem d_MO_has_11 : decode b_MO_has 11 = .ok (.iload_n 1, 1) := by decide +kernel
theorem d_MO_has_12 : decode b_MO_has 12 = .ok (.iaload, 1) := by decide +kernel
theorem d_MO_has_13 : decode b_MO_has 13 = .ok (.if_icmp .ge 34, 3) := by decide +kernel
theorem d_MO_has_16 : decode b_MO_has 16 = .ok (.iload_n 3, 1) := by decide +kernel
theorem d_MO_has_17 : decode b_MO_has 17 = .ok (.ifCond .ne 18, 3) := by decide +kernel
theorem d_MO_has_20 : decode b_MO_has 20 = .ok (.aload_n 0, 1) := by decide +kernel
theorem d_MO_has_21 : decode b_MO_has 21 = .ok (.getfield 68, 3) := by decide +kernel
theorem d_MO_has_24 : decode b_MO_has 24 = .ok (.iconst 5, 1) := by decide +kernel
theorem d_MO_has_25 : decode b_MO_has 25 = .ok (.iload_n 1, 1) := by decide +kernel
theorem d_MO_has_26 : decode b_MO_has 26 = .ok (.imul, 1) := by decide +kernel
theorem d_MO_has_27 : decode b_MO_has 27 = .ok (.iload 4, 2) := by decide +kernel
theorem d_MO_has_29 : decode b_MO_has 29 = .ok (.iadd, 1) := by decide +kernel
theorem d_MO_has_30 : decode b_MO_has 30 = .ok (.iaload, 1) := by decide +kernel
theorem d_MO_has_31 : decode b_MO_has 31 = .ok (.iload_n 2, 1) := by decide +kernel
theorem d_MO_has_32 : decode b_MO_has 32 = .ok (.if_icmp .ne 7, 3) := by decide +kernel
theorem d_MO_has_35 : decode b_MO_has 35 = .ok (.iconst 1, 1) := by decide +kernel
theorem d_MO_has_36 : decode b_MO_has 36 = .ok (.goto 4, 3) := by decide +kernel
theorem d_MO_has_39 : decode b_MO_has 39 = .ok (.iconst 0, 1) := by decide +kernel
theorem d_MO_has_40 : decode b_MO_has 40 = .ok (.istore_n 3, 1) := by decide +kernel
theorem d_MO_has_41 : decode b_MO_has 41 = .ok (.iinc 4 1, 3) := by decide +kernel
theorem d_MO_has_44 : decode b_MO_has 44 = .ok (.goto (-39), 3) := by decide +kernel
theorem d_MO_has_47 : decode b_MO_has 47 = .ok (.iload_n 3, 1) := by decide +kernel
theorem d_MO_has_48 : decode b_MO_has 48 = .ok (.ireturn, 1) := by decide +kernel
theorem d_MO_on_0 : decode b_MO_on 0 = .ok (.aload_n 0, 1) := by decide +kernel
theorem d_MO_on_1 : decode b_MO_on 1 = .ok (.iload_n 1, 1) := by decide +kernel
theorem d_MO_on_2 : decode b_MO_on 2 = .ok (.invokevirtual 168, 3) := by decide +kernel
theorem d_MO_on_5 : decode b_MO_on 5 = .ok (.ifCond .eq 39, 3) := by decide +kernel
theorem d_MO_on_8 : decode b_MO_on 8 = .ok (.aload_n 0, 1) := by decide +kernel
theorem d_MO_on_9 : decode b_MO_on 9 = .ok (.iload_n 2, 1) := by decide +kernel
theorem d_MO_on_10 : decode b_MO_on 10 = .ok (.invokevirtual 149, 3) := by decide +kernel
theorem d_MO_on_13 : decode b_MO_on 13 = .ok (.ifCond .eq 31, 3) := by decide +kernel
theorem d_MO_on_16 : decode b_MO_on 16 = .ok (.iload_n 3, 1) := by decide +kernel
theorem d_MO_on_17 : decode b_MO_on 17 = .ok (.ifCond .lt 27, 3) := by decide +kernel
theorem d_MO_on_20 : decode b_MO_on 20 = .ok (.iload_n 3, 1) := by decide +kernel
theorem d_MO_on_21 : decode b_MO_on 21 = .ok (.iconst 2, 1) := by decide +kernel
theorem d_MO_on_22 : decode b_MO_on 22 = .ok (.if_icmp .gt 22, 3) := by decide +kernel
theorem d_MO_on_25 : decode b_MO_on 25 = .ok (.aload_n 0, 1) := by decide +kernel
theorem d_MO_on_26 : decode b_MO_on 26 = .ok (.getfield 65, 3) := by decide +kernel
theorem d_MO_on_29 : decode b_MO_on 29 = .ok (.iload_n 1, 1) := by decide +kernel
theorem d_MO_on_30 : decode b_MO_on 30 = .ok (.iaload, 1) := by decide +kernel
theorem d_MO_on_31 : decode b_MO_on 31 = .ok (.iconst 5, 1) := by decide +kernel
theorem d_MO_on_32 : decode b_MO_on 32 = .ok (.if_icmp .eq 12, 3) := by decide +kernel
theorem d_MO_on_35 : decode b_MO_on 35 = .ok (.aload_n 0, 1) := by decide +kernel
theorem d_MO_on_36 : decode b_MO_on 36 = .ok (.iload_n 1, 1) := by decide +kernel
theorem d_MO_on_37 : decode b_MO_on 37 = .ok (.iload_n 2, 1) := by decide +kernel
theorem d_MO_on_38 : decode b_MO_on 38 = .ok (.invokevirtual 171, 3) := by decide +kernel
theorem d_MO_on_41 : decode b_MO_on 41 = .ok (.ifCond .eq 5, 3) := by decide +kernel
theorem d_MO_on_44 : decode b_MO_on 44 = .ok (.iconst 0, 1) := by decide +kernel
theorem d_MO_on_45 : decode b_MO_on 45 = .ok (.ireturn, 1) := by decide +kernel
theorem d_MO_on_46 : decode b_MO_on 46 = .ok (.aload_n 0, 1) := by decide +kernel
theorem d_MO_on_47 : decode b_MO_on 47 = .ok (.getfield 68, 3) := by decide +kernel
theorem d_MO_on_50 : decode b_MO_on 50 = .ok (.iconst 5, 1) := by decide +kernel
theorem d_MO_on_51 : decode b_MO_on 51 = .ok (.iload_n 1, 1) := by decide +kernel
theorem d_MO_on_52 : decode b_MO_on 52 = .ok (.imul, 1) := by decide +kernel
theorem d_MO_on_53 : decode b_MO_on 53 = .ok (.aload_n 0, 1) := by decide +kernel
theorem d_MO_on_54 : decode b_MO_on 54 = .ok (.getfield 65, 3) := by decide +kernel
theorem d_MO_on_57 : decode b_MO_on 57 = .ok (.iload_n 1, 1) := by decide +kernel
theorem d_MO_on_58 : decode b_MO_on 58 = .ok (.iaload, 1) := by decide +kernel
theorem d_MO_on_59 : decode b_MO_on 59 = .ok (.iadd, 1) := by decide +kernel
theorem d_MO_on_60 : decode b_MO_on 60 = .ok (.iload_n 2, 1) := by decide +kernel
theorem d_MO_on_61 : decode b_MO_on 61 = .ok (.iastore, 1) := by decide +kernel
theorem d_MO_on_62 : decode b_MO_on 62 = .ok (.aload_n 0, 1) := by decide +kernel
theorem d_MO_on_63 : decode b_MO_on 63 = .ok (.getfield 71, 3) := by decide +kernel
theorem d_MO_on_66 : decode b_MO_on 66 = .ok (.iconst 5, 1) := by decide +kernel
theorem d_MO_on_67 : decode b_MO_on 67 = .ok (.iload_n 1, 1) := by decide +kernel
theorem d_MO_on_68 : decode b_MO_on 68 = .ok (.imul, 1) := by decide +kernel
theorem d_MO_on_69 : decode b_MO_on 69 = .ok (.aload_n 0, 1) := by decide +kernel
theorem d_MO_on_70 : decode b_MO_on 70 = .ok (.getfield 65, 3) := by decide +kernel
theorem d_MO_on_73 : decode b_MO_on 73 = .ok (.iload_n 1, 1) := by decide +kernel
theorem d_MO_on_74 : decode b_MO_on 74 = .ok (.iaload, 1) := by decide +kernel
theorem d_MO_on_75 : decode b_MO_on 75 = .ok (.iadd, 1) := by decide +kernel
theorem d_MO_on_76 : decode b_MO_on 76 = .ok (.iload_n 3, 1) := by decide +kernel
theorem d_MO_on_77 : decode b_MO_on 77 = .ok (.iastore, 1) := by decide +kernel
theorem d_MO_on_78 : decode b_MO_on 78 = .ok (.aload_n 0, 1) := by decide +kernel
theorem d_MO_on_79 : decode b_MO_on 79 = .ok (.getfield 65, 3) := by decide +kernel
theorem d_MO_on_82 : decode b_MO_on 82 = .ok (.iload_n 1, 1) := by decide +kernel
theorem d_MO_on_83 : decode b_MO_on 83 = .ok (.dup2, 1) := by decide +kernel
theorem d_MO_on_84 : decode b_MO_on 84 = .ok (.iaload, 1) := by decide +kernel
theorem d_MO_on_85 : decode b_MO_on 85 = .ok (.iconst 1, 1) := by decide +kernel
theorem d_MO_on_86 : decode b_MO_on 86 = .ok (.iadd, 1) := by decide +kernel
theorem d_MO_on_87 : decode b_MO_on 87 = .ok (.iastore, 1) := by decide +kernel
theorem d_MO_on_88 : decode b_MO_on 88 = .ok (.iconst 1, 1) := by decide +kernel
theorem d_MO_on_89 : decode b_MO_on 89 = .ok (.ireturn, 1) := by decide +kernel
theorem d_MO_wide_0 : decode b_MO_wide 0 = .ok (.aload_n 0, 1) := by decide +kernel
theorem d_MO_wide_1 : decode b_MO_wide 1 = .ok (.iload_n 1, 1) := by decide +kernel
theorem d_MO_wide_2 : decode b_MO_wide 2 = .ok (.invokevirtual 168, 3) := by decide +kernel
theorem d_MO_wide_5 : decode b_MO_wide 5 = .ok (.ifCond .eq 14, 3) := by decide +kernel
theorem d_MO_wide_8 : decode b_MO_wide 8 = .ok (.iload_n 2, 1) := by decide +kernel
theorem d_MO_wide_9 : decode b_MO_wide 9 = .ok (.ifCond .lt 10, 3) := by decide +kernel
theorem d_MO_wide_12 : decode b_MO_wide 12 = .ok (.iload_n 2, 1) := by decide +kernel
theorem d_MO_wide_13 : decode b_MO_wide 13 = .ok (.sipush 10000, 3) := by decide +kernel
theorem d_MO_wide_16 : decode b_MO_wide 16 = .ok (.if_icmp .le 5, 3) := by decide +kernel
theorem d_MO_wide_19 : decode b_MO_wide 19 = .ok (.iconst 0, 1) := by decide +kernel
theorem d_MO_wide_20 : decode b_MO_wide 20 = .ok (.ireturn, 1) := by decide +kernel
theorem d_MO_wide_21 : decode b_MO_wide 21 = .ok (.aload_n 0, 1) := by decide +kernel
theorem d_MO_wide_22 : decode b_MO_wide 22 = .ok (.getfield 74, 3) := by decide +kernel
theorem d_MO_wide_25 : decode b_MO_wide 25 = .ok (.iload_n 1, 1) := by decide +kernel
theorem d_MO_wide_26 : decode b_MO_wide 26 = .ok (.iload_n 2, 1) := by decide +kernel
theorem d_MO_wide_27 : decode b_MO_wide 27 = .ok (.iastore, 1) := by decide +kernel
theorem d_MO_wide_28 : decode b_MO_wide 28 = .ok (.iconst 1, 1) := by decide +kernel
theorem d_MO_wide_29 : decode b_MO_wide 29 = .ok (.ireturn, 1) := by decide +kernel
theorem d_MO_measure_0 : decode b_MO_measure 0 = .ok (.iconst 0, 1) := by decide +kernel
theorem d_MO_measure_1 : decode b_MO_measure 1 = .ok (.istore_n 3, 1) := by decide +kernel
theorem d_MO_measure_2 : decode b_MO_measure 2 = .ok (.iload_n 3, 1) := by decide +kernel
theorem d_MO_measure_3 : decode b_MO_measure 3 = .ok (.bipush 10, 2) := by decide +kernel
theorem d_MO_measure_5 : decode b_MO_measure 5 = .ok (.if_icmp .ge 26, 3) := by decide +kernel
theorem d_MO_measure_8 : decode b_MO_measure 8 = .ok (.aload_n 0, 1) := by decide +kernel
theorem d_MO_measure_9 : decode b_MO_measure 9 = .ok (.getfield 77, 3) := by decide +kernel
theorem d_MO_measure_12 : decode b_MO_measure 12 = .ok (.iload_n 3, 1) := by decide +kernel
theorem d_MO_measure_13 : decode b_MO_measure 13 = .ok (.iload_n 3, 1) := by decide +kernel
theorem d_MO_measure_14 : decode b_MO_measure 14 = .ok (.iload_n 1, 1) := by decide +kernel
theorem d_MO_measure_15 : decode b_MO_measure 15 = .ok (.if_icmp .ne 7, 3) := by decide +kernel
theorem d_MO_measure_18 : decode b_MO_measure 18 = .ok (.iconst 0, 1) := by decide +kernel
theorem d_MO_measure_19 : decode b_MO_measure 19 = .ok (.goto 5, 3) := by decide +kernel
theorem d_MO_measure_22 : decode b_MO_measure 22 = .ok (.ldc 175, 2) := by decide +kernel
theorem d_MO_measure_24 : decode b_MO_measure 24 = .ok (.iastore, 1) := by decide +kernel
theorem d_MO_measure_25 : decode b_MO_measure 25 = .ok (.iinc 3 1, 3) := by decide +kernel
theorem d_MO_measure_28 : decode b_MO_measure 28 = .ok (.goto (-26), 3) := by decide +kernel
theorem d_MO_measure_31 : decode b_MO_measure 31 = .ok (.iconst 0, 1) := by decide +kernel
theorem d_MO_measure_32 : decode b_MO_measure 32 = .ok (.istore_n 3, 1) := by decide +kernel
theorem d_MO_measure_33 : decode b_MO_measure 33 = .ok (.iload_n 3, 1) := by decide +kernel
theorem d_MO_measure_34 : decode b_MO_measure 34 = .ok (.bipush 10, 2) := by decide +kernel
theorem d_MO_measure_36 : decode b_MO_measure 36 = .ok (.if_icmp .ge 95, 3) := by decide +kernel
theorem d_MO_measure_39 : decode b_MO_measure 39 = .ok (.iconst 0, 1) := by decide +kernel
theorem d_MO_measure_40 : decode b_MO_measure 40 = .ok (.istore 4, 2) := by decide +kernel
theorem d_MO_measure_42 : decode b_MO_measure 42 = .ok (.iload 4, 2) := by decide +kernel
theorem d_MO_measure_44 : decode b_MO_measure 44 = .ok (.aload_n 0, 1) := by decide +kernel
theorem d_MO_measure_45 : decode b_MO_measure 45 = .ok (.getfield 162, 3) := by decide +kernel
theorem d_MO_measure_48 : decode b_MO_measure 48 = .ok (.if_icmp .ge 77, 3) := by decide +kernel
theorem d_MO_measure_51 : decode b_MO_measure 51 = .ok (.aload_n 0, 1) := by decide +kernel
theorem d_MO_measure_52 : decode b_MO_measure 52 = .ok (.getfield 77, 3) := by decide +kernel
theorem d_MO_measure_55 : decode b_MO_measure 55 = .ok (.aload_n 0, 1) := by decide +kernel
theorem d_MO_measure_56 : decode b_MO_measure 56 = .ok (.getfield 56, 3) := by decide +kernel
theorem d_MO_measure_59 : decode b_MO_measure 59 = .ok (.iload 4, 2) := by decide +kernel
theorem d_MO_measure_61 : decode b_MO_measure 61 = .ok (.iaload, 1) := by decide +kernel
theorem d_MO_measure_62 : decode b_MO_measure 62 = .ok (.iaload, 1) := by decide +kernel
theorem d_MO_measure_63 : decode b_MO_measure 63 = .ok (.aload_n 0, 1) := by decide +kernel
theorem d_MO_measure_64 : decode b_MO_measure 64 = .ok (.getfield 59, 3) := by decide +kernel
theorem d_MO_measure_67 : decode b_MO_measure 67 = .ok (.iload 4, 2) := by decide +kernel
theorem d_MO_measure_69 : decode b_MO_measure 69 = .ok (.iaload, 1) := by decide +kernel
theorem d_MO_measure_70 : decode b_MO_measure 70 = .ok (.iadd, 1) := by decide +kernel
theorem d_MO_measure_71 : decode b_MO_measure 71 = .ok (.istore 5, 2) := by decide +kernel
theorem d_MO_measure_73 : decode b_MO_measure 73 = .ok (.iload_n 2, 1) := by decide +kernel
theorem d_MO_measure_74 : decode b_MO_measure 74 = .ok (.iconst (-1), 1) := by decide +kernel
theorem d_MO_measure_75 : decode b_MO_measure 75 = .ok (.if_icmp .eq 13, 3) := by decide +kernel
theorem d_MO_measure_78 : decode b_MO_measure 78 = .ok (.aload_n 0, 1) := by decide +kernel
theorem d_MO_measure_79 : decode b_MO_measure 79 = .ok (.iload 4, 2) := by decide +kernel
theorem d_MO_measure_81 : decode b_MO_measure 81 = .ok (.iload_n 2, 1) := by decide +kernel
theorem d_MO_measure_82 : decode b_MO_measure 82 = .ok (.invokevirtual 176, 3) := by decide +kernel
theorem d_MO_measure_85 : decode b_MO_measure 85 = .ok (.ifCond .eq 34, 3) := by decide +kernel
theorem d_MO_measure_88 : decode b_MO_measure 88 = .ok (.iload 5, 2) := by decide +kernel
theorem d_MO_measure_90 : decode b_MO_measure 90 = .ok (.aload_n 0, 1) := by decide +kernel
theorem d_MO_measure_91 : decode b_MO_measure 91 = .ok (.getfield 77, 3) := by decide +kernel
theorem d_MO_measure_94 : decode b_MO_measure 94 = .ok (.aload_n 0, 1) := by decide +kernel
theorem d_MO_measure_95 : decode b_MO_measure 95 = .ok (.getfield 53, 3) := by decide +kernel
theorem d_MO_measure_98 : decode b_MO_measure 98 = .ok (.iload 4, 2) := by decide +kernel
theorem d_MO_measure_100 : decode b_MO_measure 100 = .ok (.iaload, 1) := by decide +kernel
theorem d_MO_measure_101 : decode b_MO_measure 101 = .ok (.iaload, 1) := by decide +kernel
theorem d_MO_measure_102 : decode b_MO_measure 102 = .ok (.if_icmp .ge 17, 3) := by decide +kernel
theorem d_MO_measure_105 : decode b_MO_measure 105 = .ok (.aload_n 0, 1) := by decide +kernel
theorem d_MO_measure_106 : decode b_MO_measure 106 = .ok (.getfield 77, 3) := by decide +kernel
theorem d_MO_measure_109 : decode b_MO_measure 109 = .ok (.aload_n 0, 1) := by decide +kernel
theorem d_MO_measure_110 : decode b_MO_measure 110 = .ok (.getfield 53, 3) := by decide +kernel
theorem d_MO_measure_113 : decode b_MO_measure 113 = .ok (.iload 4, 2) := by decide +kernel
theorem d_MO_measure_115 : decode b_MO_measure 115 = .ok (.iaload, 1) := by decide +kernel
theorem d_MO_measure_116 : decode b_MO_measure 116 = .ok (.iload 5, 2) := by decide +kernel
theorem d_MO_measure_118 : decode b_MO_measure 118 = .ok (.iastore, 1) := by decide +kernel
theorem d_MO_measure_119 : decode b_MO_measure 119 = .ok (.iinc 4 1, 3) := by decide +kernel
theorem d_MO_measure_122 : decode b_MO_measure 122 = .ok (.goto (-80), 3) := by decide +kernel
theorem d_MO_measure_125 : decode b_MO_measure 125 = .ok (.iinc 3 1, 3) := by decide +kernel
theorem d_MO_measure_128 : decode b_MO_measure 128 = .ok (.goto (-95), 3) := by decide +kernel
theorem d_MO_measure_131 : decode b_MO_measure 131 = .ok (.return_, 1) := by decide +kernel
theorem d_MO_distanceOf_0 : decode b_MO_distanceOf 0 = .ok (.aload_n 0, 1) := by decide +kernel
theorem d_MO_distanceOf_1 : decode b_MO_distanceOf 1 = .ok (.getfield 50, 3) := by decide +kernel
theorem d_MO_distanceOf_4 : decode b_MO_distanceOf 4 = .ok (.aload_n 0, 1) := by decide +kernel
theorem d_MO_distanceOf_5 : decode b_MO_distanceOf 5 = .ok (.getfield 68, 3) := by decide +kernel
theorem d_MO_distanceOf_8 : decode b_MO_distanceOf 8 = .ok (.iconst 5, 1) := by decide +kernel
theorem d_MO_distanceOf_9 : decode b_MO_distanceOf 9 = .ok (.iload_n 1, 1) := by decide +kernel
theorem d_MO_distanceOf_10 : decode b_MO_distanceOf 10 = .ok (.imul, 1) := by decide +kernel
theorem d_MO_distanceOf_11 : decode b_MO_distanceOf 11 = .ok (.iload_n 2, 1) := by decide +kernel
theorem d_MO_distanceOf_12 : decode b_MO_distanceOf 12 = .ok (.iadd, 1) := by decide +kernel
theorem d_MO_distanceOf_13 : decode b_MO_distanceOf 13 = .ok (.iaload, 1) := by decide +kernel
theorem d_MO_distanceOf_14 : decode b_MO_distanceOf 14 = .ok (.iaload, 1) := by decide +kernel
theorem d_MO_distanceOf_15 : decode b_MO_distanceOf 15 = .ok (.istore_n 3, 1) := by decide +kernel
theorem d_MO_distanceOf_16 : decode b_MO_distanceOf 16 = .ok (.iload_n 3, 1) := by decide +kernel
theorem d_MO_distanceOf_17 : decode b_MO_distanceOf 17 = .ok (.iconst (-1), 1) := by decide +kernel
theorem d_MO_distanceOf_18 : decode b_MO_distanceOf 18 = .ok (.if_icmp .ne 5, 3) := by decide +kernel
theorem d_MO_distanceOf_21 : decode b_MO_distanceOf 21 = .ok (.iconst (-1), 1) := by decide +kernel
theorem d_MO_distanceOf_22 : decode b_MO_distanceOf 22 = .ok (.ireturn, 1) := by decide +kernel
theorem d_MO_distanceOf_23 : decode b_MO_distanceOf 23 = .ok (.aload_n 0, 1) := by decide +kernel
theorem d_MO_distanceOf_24 : decode b_MO_distanceOf 24 = .ok (.iload_n 3, 1) := by decide +kernel
theorem d_MO_distanceOf_25 : decode b_MO_distanceOf 25 = .ok (.iconst (-1), 1) := by decide +kernel
theorem d_MO_distanceOf_26 : decode b_MO_distanceOf 26 = .ok (.invokevirtual 179, 3) := by decide +kernel
theorem d_MO_distanceOf_29 : decode b_MO_distanceOf 29 = .ok (.aload_n 0, 1) := by decide +kernel
theorem d_MO_distanceOf_30 : decode b_MO_distanceOf 30 = .ok (.getfield 77, 3) := by decide +kernel
theorem d_MO_distanceOf_33 : decode b_MO_distanceOf 33 = .ok (.aload_n 0, 1) := by decide +kernel
theorem d_MO_distanceOf_34 : decode b_MO_distanceOf 34 = .ok (.getfield 56, 3) := by decide +kernel
theorem d_MO_distanceOf_37 : decode b_MO_distanceOf 37 = .ok (.aload_n 0, 1) := by decide +kernel
theorem d_MO_distanceOf_38 : decode b_MO_distanceOf 38 = .ok (.getfield 62, 3) := by decide +kernel
theorem d_MO_distanceOf_41 : decode b_MO_distanceOf 41 = .ok (.iload_n 1, 1) := by decide +kernel
theorem d_MO_distanceOf_42 : decode b_MO_distanceOf 42 = .ok (.iaload, 1) := by decide +kernel
theorem d_MO_distanceOf_43 : decode b_MO_distanceOf 43 = .ok (.iaload, 1) := by decide +kernel
theorem d_MO_distanceOf_44 : decode b_MO_distanceOf 44 = .ok (.iaload, 1) := by decide +kernel
theorem d_MO_distanceOf_45 : decode b_MO_distanceOf 45 = .ok (.istore 4, 2) := by decide +kernel
theorem d_MO_distanceOf_47 : decode b_MO_distanceOf 47 = .ok (.iload 4, 2) := by decide +kernel
theorem d_MO_distanceOf_49 : decode b_MO_distanceOf 49 = .ok (.ldc 175, 2) := by decide +kernel
theorem d_MO_distanceOf_51 : decode b_MO_distanceOf 51 = .ok (.if_icmp .lt 7, 3) := by decide +kernel
theorem d_MO_distanceOf_54 : decode b_MO_distanceOf 54 = .ok (.iconst (-1), 1) := by decide +kernel
theorem d_MO_distanceOf_55 : decode b_MO_distanceOf 55 = .ok (.goto 5, 3) := by decide +kernel
theorem d_MO_distanceOf_58 : decode b_MO_distanceOf 58 = .ok (.iload 4, 2) := by decide +kernel
theorem d_MO_distanceOf_60 : decode b_MO_distanceOf 60 = .ok (.ireturn, 1) := by decide +kernel
theorem d_MO_isLess_0 : decode b_MO_isLess 0 = .ok (.iconst 0, 1) := by decide +kernel
theorem d_MO_isLess_1 : decode b_MO_isLess 1 = .ok (.istore_n 3, 1) := by decide +kernel
theorem d_MO_isLess_2 : decode b_MO_isLess 2 = .ok (.iload_n 3, 1) := by decide +kernel
theorem d_MO_isLess_3 : decode b_MO_isLess 3 = .ok (.aload_n 0, 1) := by decide +kernel
theorem d_MO_isLess_4 : decode b_MO_isLess 4 = .ok (.getfield 44, 3) := by decide +kernel
theorem d_MO_isLess_7 : decode b_MO_isLess 7 = .ok (.iload_n 1, 1) := by decide +kernel
theorem d_MO_isLess_8 : decode b_MO_isLess 8 = .ok (.iaload, 1) := by decide +kernel
theorem d_MO_isLess_9 : decode b_MO_isLess 9 = .ok (.if_icmp .ge 34, 3) := by decide +kernel
theorem d_MO_isLess_12 : decode b_MO_isLess 12 = .ok (.iload_n 3, 1) := by decide +kernel
theorem d_MO_isLess_13 : decode b_MO_isLess 13 = .ok (.aload_n 0, 1) := by decide +kernel
theorem d_MO_isLess_14 : decode b_MO_isLess 14 = .ok (.getfield 44, 3) := by decide +kernel
theorem d_MO_isLess_17 : decode b_MO_isLess 17 = .ok (.iload_n 2, 1) := by decide +kernel
theorem d_MO_isLess_18 : decode b_MO_isLess 18 = .ok (.iaload, 1) := by decide +kernel
theorem d_MO_isLess_19 : decode b_MO_isLess 19 = .ok (.if_icmp .ge 24, 3) := by decide +kernel
theorem d_MO_isLess_22 : decode b_MO_isLess 22 = .ok (.aload_n 0, 1) := by decide +kernel
theorem d_MO_isLess_23 : decode b_MO_isLess 23 = .ok (.iload_n 1, 1) := by decide +kernel
theorem d_MO_isLess_24 : decode b_MO_isLess 24 = .ok (.iload_n 3, 1) := by decide +kernel
theorem d_MO_isLess_25 : decode b_MO_isLess 25 = .ok (.invokevirtual 146, 3) := by decide +kernel
theorem d_MO_isLess_28 : decode b_MO_isLess 28 = .ok (.aload_n 0, 1) := by decide +kernel
theorem d_MO_isLess_29 : decode b_MO_isLess 29 = .ok (.iload_n 2, 1) := by decide +kernel
theorem d_MO_isLess_30 : decode b_MO_isLess 30 = .ok (.iload_n 3, 1) := by decide +kernel
theorem d_MO_isLess_31 : decode b_MO_isLess 31 = .ok (.invokevirtual 146, 3) := by decide +kernel
theorem d_MO_isLess_34 : decode b_MO_isLess 34 = .ok (.if_icmp .ne 9, 3) := by decide +kernel
theorem d_MO_isLess_37 : decode b_MO_isLess 37 = .ok (.iinc 3 1, 3) := by decide +kernel
theorem d_MO_isLess_40 : decode b_MO_isLess 40 = .ok (.goto (-38), 3) := by decide +kernel
theorem d_MO_isLess_43 : decode b_MO_isLess 43 = .ok (.iload_n 3, 1) := by decide +kernel
theorem d_MO_isLess_44 : decode b_MO_isLess 44 = .ok (.aload_n 0, 1) := by decide +kernel
theorem d_MO_isLess_45 : decode b_MO_isLess 45 = .ok (.getfield 44, 3) := by decide +kernel
theorem d_MO_isLess_48 : decode b_MO_isLess 48 = .ok (.iload_n 2, 1) := by decide +kernel
theorem d_MO_isLess_49 : decode b_MO_isLess 49 = .ok (.iaload, 1) := by decide +kernel
theorem d_MO_isLess_50 : decode b_MO_isLess 50 = .ok (.if_icmp .ge 32, 3) := by decide +kernel
theorem d_MO_isLess_53 : decode b_MO_isLess 53 = .ok (.iload_n 3, 1) := by decide +kernel
theorem d_MO_isLess_54 : decode b_MO_isLess 54 = .ok (.aload_n 0, 1) := by decide +kernel
theorem d_MO_isLess_55 : decode b_MO_isLess 55 = .ok (.getfield 44, 3) := by decide +kernel
theorem d_MO_isLess_58 : decode b_MO_isLess 58 = .ok (.iload_n 1, 1) := by decide +kernel
theorem d_MO_isLess_59 : decode b_MO_isLess 59 = .ok (.iaload, 1) := by decide +kernel
theorem d_MO_isLess_60 : decode b_MO_isLess 60 = .ok (.if_icmp .eq 18, 3) := by decide +kernel
theorem d_MO_isLess_63 : decode b_MO_isLess 63 = .ok (.aload_n 0, 1) := by decide +kernel
theorem d_MO_isLess_64 : decode b_MO_isLess 64 = .ok (.iload_n 1, 1) := by decide +kernel
theorem d_MO_isLess_65 : decode b_MO_isLess 65 = .ok (.iload_n 3, 1) := by decide +kernel
theorem d_MO_isLess_66 : decode b_MO_isLess 66 = .ok (.invokevirtual 146, 3) := by decide +kernel
theorem d_MO_isLess_69 : decode b_MO_isLess 69 = .ok (.aload_n 0, 1) := by decide +kernel
theorem d_MO_isLess_70 : decode b_MO_isLess 70 = .ok (.iload_n 2, 1) := by decide +kernel
theorem d_MO_isLess_71 : decode b_MO_isLess 71 = .ok (.iload_n 3, 1) := by decide +kernel
theorem d_MO_isLess_72 : decode b_MO_isLess 72 = .ok (.invokevirtual 146, 3) := by decide +kernel
theorem d_MO_isLess_75 : decode b_MO_isLess 75 = .ok (.if_icmp .ge 7, 3) := by decide +kernel
theorem d_MO_isLess_78 : decode b_MO_isLess 78 = .ok (.iconst 1, 1) := by decide +kernel
theorem d_MO_isLess_79 : decode b_MO_isLess 79 = .ok (.goto 4, 3) := by decide +kernel
theorem d_MO_isLess_82 : decode b_MO_isLess 82 = .ok (.iconst 0, 1) := by decide +kernel
theorem d_MO_isLess_83 : decode b_MO_isLess 83 = .ok (.ireturn, 1) := by decide +kernel
theorem d_MO_goesBefore_0 : decode b_MO_goesBefore 0 = .ok (.aload_n 0, 1) := by decide +kernel
theorem d_MO_goesBefore_1 : decode b_MO_goesBefore 1 = .ok (.getfield 23, 3) := by decide +kernel
theorem d_MO_goesBefore_4 : decode b_MO_goesBefore 4 = .ok (.bipush 97, 2) := by decide +kernel
theorem d_MO_goesBefore_6 : decode b_MO_goesBefore 6 = .ok (.if_icmp .ne 28, 3) := by decide +kernel
theorem d_MO_goesBefore_9 : decode b_MO_goesBefore 9 = .ok (.aload_n 0, 1) := by decide +kernel
theorem d_MO_goesBefore_10 : decode b_MO_goesBefore 10 = .ok (.aload_n 0, 1) := by decide +kernel
theorem d_MO_goesBefore_11 : decode b_MO_goesBefore 11 = .ok (.getfield 68, 3) := by decide +kernel
theorem d_MO_goesBefore_14 : decode b_MO_goesBefore 14 = .ok (.iconst 5, 1) := by decide +kernel
theorem d_MO_goesBefore_15 : decode b_MO_goesBefore 15 = .ok (.iload_n 1, 1) := by decide +kernel
theorem d_MO_goesBefore_16 : decode b_MO_goesBefore 16 = .ok (.imul, 1) := by decide +kernel
theorem d_MO_goesBefore_17 : decode b_MO_goesBefore 17 = .ok (.iload_n 2, 1) := by decide +kernel
theorem d_MO_goesBefore_18 : decode b_MO_goesBefore 18 = .ok (.iadd, 1) := by decide +kernel
theorem d_MO_goesBefore_19 : decode b_MO_goesBefore 19 = .ok (.iaload, 1) := by decide +kernel
theorem d_MO_goesBefore_20 : decode b_MO_goesBefore 20 = .ok (.aload_n 0, 1) := by decide +kernel
theorem d_MO_goesBefore_21 : decode b_MO_goesBefore 21 = .ok (.getfield 68, 3) := by decide +kernel
theorem d_MO_goesBefore_24 : decode b_MO_goesBefore 24 = .ok (.iconst 5, 1) := by decide +kernel
theorem d_MO_goesBefore_25 : decode b_MO_goesBefore 25 = .ok (.iload_n 1, 1) := by decide +kernel
theorem d_MO_goesBefore_26 : decode b_MO_goesBefore 26 = .ok (.imul, 1) := by decide +kernel
theorem d_MO_goesBefore_27 : decode b_MO_goesBefore 27 = .ok (.iload_n 3, 1) := by decide +kernel
theorem d_MO_goesBefore_28 : decode b_MO_goesBefore 28 = .ok (.iadd, 1) := by decide +kernel
theorem d_MO_goesBefore_29 : decode b_MO_goesBefore 29 = .ok (.iaload, 1) := by decide +kernel
theorem d_MO_goesBefore_30 : decode b_MO_goesBefore 30 = .ok (.invokevirtual 183, 3) := by decide +kernel
theorem d_MO_goesBefore_33 : decode b_MO_goesBefore 33 = .ok (.ireturn, 1) := by decide +kernel
theorem d_MO_goesBefore_34 : decode b_MO_goesBefore 34 = .ok (.aload_n 0, 1) := by decide +kernel
theorem d_MO_goesBefore_35 : decode b_MO_goesBefore 35 = .ok (.getfield 23, 3) := by decide +kernel
theorem d_MO_goesBefore_38 : decode b_MO_goesBefore 38 = .ok (.bipush 116, 2) := by decide +kernel
theorem d_MO_goesBefore_40 : decode b_MO_goesBefore 40 = .ok (.if_icmp .eq 13, 3) := by decide +kernel
theorem d_MO_goesBefore_43 : decode b_MO_goesBefore 43 = .ok (.aload_n 0, 1) := by decide +kernel
theorem d_MO_goesBefore_44 : decode b_MO_goesBefore 44 = .ok (.getfield 80, 3) := by decide +kernel
theorem d_MO_goesBefore_47 : decode b_MO_goesBefore 47 = .ok (.iload_n 2, 1) := by decide +kernel
theorem d_MO_goesBefore_48 : decode b_MO_goesBefore 48 = .ok (.iaload, 1) := by decide +kernel
theorem d_MO_goesBefore_49 : decode b_MO_goesBefore 49 = .ok (.iconst (-1), 1) := by decide +kernel
theorem d_MO_goesBefore_50 : decode b_MO_goesBefore 50 = .ok (.if_icmp .ne 5, 3) := by decide +kernel
theorem d_MO_goesBefore_53 : decode b_MO_goesBefore 53 = .ok (.iconst 0, 1) := by decide +kernel
theorem d_MO_goesBefore_54 : decode b_MO_goesBefore 54 = .ok (.ireturn, 1) := by decide +kernel
theorem d_MO_goesBefore_55 : decode b_MO_goesBefore 55 = .ok (.aload_n 0, 1) := by decide +kernel
theorem d_MO_goesBefore_56 : decode b_MO_goesBefore 56 = .ok (.getfield 80, 3) := by decide +kernel
theorem d_MO_goesBefore_59 : decode b_MO_goesBefore 59 = .ok (.iload_n 3, 1) := by decide +kernel
theorem d_MO_goesBefore_60 : decode b_MO_goesBefore 60 = .ok (.iaload, 1) := by decide +kernel
theorem d_MO_goesBefore_61 : decode b_MO_goesBefore 61 = .ok (.iconst (-1), 1) := by decide +kernel
theorem d_MO_goesBefore_62 : decode b_MO_goesBefore 62 = .ok (.if_icmp .eq 45, 3) := by decide +kernel
theorem d_MO_goesBefore_65 : decode b_MO_goesBefore 65 = .ok (.aload_n 0, 1) := by decide +kernel
theorem d_MO_goesBefore_66 : decode b_MO_goesBefore 66 = .ok (.getfield 23, 3) := by decide +kernel
theorem d_MO_goesBefore_69 : decode b_MO_goesBefore 69 = .ok (.bipush 110, 2) := by decide +kernel
theorem d_MO_goesBefore_71 : decode b_MO_goesBefore 71 = .ok (.if_icmp .ne 21, 3) := by decide +kernel
theorem d_MO_goesBefore_74 : decode b_MO_goesBefore 74 = .ok (.aload_n 0, 1) := by decide +kernel
theorem d_MO_goesBefore_75 : decode b_MO_goesBefore 75 = .ok (.getfield 80, 3) := by decide +kernel
theorem d_MO_goesBefore_78 : decode b_MO_goesBefore 78 = .ok (.iload_n 2, 1) := by decide +kernel
theorem d_MO_goesBefore_79 : decode b_MO_goesBefore 79 = .ok (.iaload, 1) := by decide +kernel
theorem d_MO_goesBefore_80 : decode b_MO_goesBefore 80 = .ok (.aload_n 0, 1) := by decide +kernel
theorem d_MO_goesBefore_81 : decode b_MO_goesBefore 81 = .ok (.getfield 80, 3) := by decide +kernel
theorem d_MO_goesBefore_84 : decode b_MO_goesBefore 84 = .ok (.iload_n 3, 1) := by decide +kernel
theorem d_MO_goesBefore_85 : decode b_MO_goesBefore 85 = .ok (.iaload, 1) := by decide +kernel
theorem d_MO_goesBefore_86 : decode b_MO_goesBefore 86 = .ok (.if_icmp .ge 25, 3) := by decide +kernel
theorem d_MO_goesBefore_89 : decode b_MO_goesBefore 89 = .ok (.goto 18, 3) := by decide +kernel
theorem d_MO_goesBefore_92 : decode b_MO_goesBefore 92 = .ok (.aload_n 0, 1) := by decide +kernel
theorem d_MO_goesBefore_93 : decode b_MO_goesBefore 93 = .ok (.getfield 80, 3) := by decide +kernel
theorem d_MO_goesBefore_96 : decode b_MO_goesBefore 96 = .ok (.iload_n 2, 1) := by decide +kernel
theorem d_MO_goesBefore_97 : decode b_MO_goesBefore 97 = .ok (.iaload, 1) := by decide +kernel
theorem d_MO_goesBefore_98 : decode b_MO_goesBefore 98 = .ok (.aload_n 0, 1) := by decide +kernel
theorem d_MO_goesBefore_99 : decode b_MO_goesBefore 99 = .ok (.getfield 80, 3) := by decide +kernel
theorem d_MO_goesBefore_102 : decode b_MO_goesBefore 102 = .ok (.iload_n 3, 1) := by decide +kernel
theorem d_MO_goesBefore_103 : decode b_MO_goesBefore 103 = .ok (.iaload, 1) := by decide +kernel
theorem d_MO_goesBefore_104 : decode b_MO_goesBefore 104 = .ok (.if_icmp .le 7, 3) := by decide +kernel
theorem d_MO_goesBefore_107 : decode b_MO_goesBefore 107 = .ok (.iconst 1, 1) := by decide +kernel
theorem d_MO_goesBefore_108 : decode b_MO_goesBefore 108 = .ok (.goto 4, 3) := by decide +kernel
theorem d_MO_goesBefore_111 : decode b_MO_goesBefore 111 = .ok (.iconst 0, 1) := by decide +kernel
theorem d_MO_goesBefore_112 : decode b_MO_goesBefore 112 = .ok (.ireturn, 1) := by decide +kernel
theorem d_MO_rankAll_0 : decode b_MO_rankAll 0 = .ok (.iconst 0, 1) := by decide +kernel
theorem d_MO_rankAll_1 : decode b_MO_rankAll 1 = .ok (.istore_n 2, 1) := by decide +kernel
theorem d_MO_rankAll_2 : decode b_MO_rankAll 2 = .ok (.iload_n 2, 1) := by decide +kernel
theorem d_MO_rankAll_3 : decode b_MO_rankAll 3 = .ok (.aload_n 0, 1) := by decide +kernel
theorem d_MO_rankAll_4 : decode b_MO_rankAll 4 = .ok (.getfield 65, 3) := by decide +kernel
theorem d_MO_rankAll_7 : decode b_MO_rankAll 7 = .ok (.iload_n 1, 1) := by decide +kernel
theorem d_MO_rankAll_8 : decode b_MO_rankAll 8 = .ok (.iaload, 1) := by decide +kernel
theorem d_MO_rankAll_9 : decode b_MO_rankAll 9 = .ok (.if_icmp .ge 21, 3) := by decide +kernel
theorem d_MO_rankAll_12 : decode b_MO_rankAll 12 = .ok (.aload_n 0, 1) := by decide +kernel
theorem d_MO_rankAll_13 : decode b_MO_rankAll 13 = .ok (.getfield 80, 3) := by decide +kernel
theorem d_MO_rankAll_16 : decode b_MO_rankAll 16 = .ok (.iload_n 2, 1) := by decide +kernel
theorem d_MO_rankAll_17 : decode b_MO_rankAll 17 = .ok (.aload_n 0, 1) := by decide +kernel
theorem d_MO_rankAll_18 : decode b_MO_rankAll 18 = .ok (.iload_n 1, 1) := by decide +kernel
theorem d_MO_rankAll_19 : decode b_MO_rankAll 19 = .ok (.iload_n 2, 1) := by decide +kernel
theorem d_MO_rankAll_20 : decode b_MO_rankAll 20 = .ok (.invokevirtual 186, 3) := by decide +kernel
theorem d_MO_rankAll_23 : decode b_MO_rankAll 23 = .ok (.iastore, 1) := by decide +kernel
theorem d_MO_rankAll_24 : decode b_MO_rankAll 24 = .ok (.iinc 2 1, 3) := by decide +kernel
theorem d_MO_rankAll_27 : decode b_MO_rankAll 27 = .ok (.goto (-25), 3) := by decide +kernel
theorem d_MO_rankAll_30 : decode b_MO_rankAll 30 = .ok (.iconst 0, 1) := by decide +kernel
theorem d_MO_rankAll_31 : decode b_MO_rankAll 31 = .ok (.istore_n 2, 1) := by decide +kernel
theorem d_MO_rankAll_32 : decode b_MO_rankAll 32 = .ok (.iload_n 2, 1) := by decide +kernel
theorem d_MO_rankAll_33 : decode b_MO_rankAll 33 = .ok (.aload_n 0, 1) := by decide +kernel
theorem d_MO_rankAll_34 : decode b_MO_rankAll 34 = .ok (.getfield 65, 3) := by decide +kernel
theorem d_MO_rankAll_37 : decode b_MO_rankAll 37 = .ok (.iload_n 1, 1) := by decide +kernel
theorem d_MO_rankAll_38 : decode b_MO_rankAll 38 = .ok (.iaload, 1) := by decide +kernel
theorem d_MO_rankAll_39 : decode b_MO_rankAll 39 = .ok (.if_icmp .ge 59, 3) := by decide +kernel
theorem d_MO_rankAll_42 : decode b_MO_rankAll 42 = .ok (.iload_n 2, 1) := by decide +kernel
theorem d_MO_rankAll_43 : decode b_MO_rankAll 43 = .ok (.istore_n 3, 1) := by decide +kernel
theorem d_MO_rankAll_44 : decode b_MO_rankAll 44 = .ok (.iload_n 3, 1) := by decide +kernel
theorem d_MO_rankAll_45 : decode b_MO_rankAll 45 = .ok (.ifCond .le 40, 3) := by decide +kernel
theorem d_MO_rankAll_48 : decode b_MO_rankAll 48 = .ok (.aload_n 0, 1) := by decide +kernel
theorem d_MO_rankAll_49 : decode b_MO_rankAll 49 = .ok (.iload_n 1, 1) := by decide +kernel
theorem d_MO_rankAll_50 : decode b_MO_rankAll 50 = .ok (.iload_n 2, 1) := by decide +kernel
theorem d_MO_rankAll_51 : decode b_MO_rankAll 51 = .ok (.aload_n 0, 1) := by decide +kernel
theorem d_MO_rankAll_52 : decode b_MO_rankAll 52 = .ok (.getfield 83, 3) := by decide +kernel
theorem d_MO_rankAll_55 : decode b_MO_rankAll 55 = .ok (.iload_n 3, 1) := by decide +kernel
theorem d_MO_rankAll_56 : decode b_MO_rankAll 56 = .ok (.iconst 1, 1) := by decide +kernel
theorem d_MO_rankAll_57 : decode b_MO_rankAll 57 = .ok (.isub, 1) := by decide +kernel
theorem d_MO_rankAll_58 : decode b_MO_rankAll 58 = .ok (.iaload, 1) := by decide +kernel
theorem d_MO_rankAll_59 : decode b_MO_rankAll 59 = .ok (.invokevirtual 189, 3) := by decide +kernel
theorem d_MO_rankAll_62 : decode b_MO_rankAll 62 = .ok (.ifCond .eq 23, 3) := by decide +kernel
theorem d_MO_rankAll_65 : decode b_MO_rankAll 65 = .ok (.aload_n 0, 1) := by decide +kernel
theorem d_MO_rankAll_66 : decode b_MO_rankAll 66 = .ok (.getfield 83, 3) := by decide +kernel
theorem d_MO_rankAll_69 : decode b_MO_rankAll 69 = .ok (.iload_n 3, 1) := by decide +kernel
theorem d_MO_rankAll_70 : decode b_MO_rankAll 70 = .ok (.aload_n 0, 1) := by decide +kernel
theorem d_MO_rankAll_71 : decode b_MO_rankAll 71 = .ok (.getfield 83, 3) := by decide +kernel
theorem d_MO_rankAll_74 : decode b_MO_rankAll 74 = .ok (.iload_n 3, 1) := by decide +kernel
theorem d_MO_rankAll_75 : decode b_MO_rankAll 75 = .ok (.iconst 1, 1) := by decide +kernel
theorem d_MO_rankAll_76 : decode b_MO_rankAll 76 = .ok (.isub, 1) := by decide +kernel
theorem d_MO_rankAll_77 : decode b_MO_rankAll 77 = .ok (.iaload, 1) := by decide +kernel
theorem d_MO_rankAll_78 : decode b_MO_rankAll 78 = .ok (.iastore, 1) := by decide +kernel
theorem d_MO_rankAll_79 : decode b_MO_rankAll 79 = .ok (.iinc 3 (-1), 3) := by decide +kernel
theorem d_MO_rankAll_82 : decode b_MO_rankAll 82 = .ok (.goto (-38), 3) := by decide +kernel
theorem d_MO_rankAll_85 : decode b_MO_rankAll 85 = .ok (.aload_n 0, 1) := by decide +kernel
theorem d_MO_rankAll_86 : decode b_MO_rankAll 86 = .ok (.getfield 83, 3) := by decide +kernel
theorem d_MO_rankAll_89 : decode b_MO_rankAll 89 = .ok (.iload_n 3, 1) := by decide +kernel
theorem d_MO_rankAll_90 : decode b_MO_rankAll 90 = .ok (.iload_n 2, 1) := by decide +kernel
theorem d_MO_rankAll_91 : decode b_MO_rankAll 91 = .ok (.iastore, 1) := by decide +kernel
theorem d_MO_rankAll_92 : decode b_MO_rankAll 92 = .ok (.iinc 2 1, 3) := by decide +kernel
theorem d_MO_rankAll_95 : decode b_MO_rankAll 95 = .ok (.goto (-63), 3) := by decide +kernel
theorem d_MO_rankAll_98 : decode b_MO_rankAll 98 = .ok (.return_, 1) := by decide +kernel
theorem d_MO_isLine_0 : decode b_MO_isLine 0 = .ok (.aload_n 0, 1) := by decide +kernel
theorem d_MO_isLine_1 : decode b_MO_isLine 1 = .ok (.iload_n 1, 1) := by decide +kernel
theorem d_MO_isLine_2 : decode b_MO_isLine 2 = .ok (.invokevirtual 168, 3) := by decide +kernel
theorem d_MO_isLine_5 : decode b_MO_isLine 5 = .ok (.ifCond .eq 21, 3) := by decide +kernel
theorem d_MO_isLine_8 : decode b_MO_isLine 8 = .ok (.iload_n 2, 1) := by decide +kernel
theorem d_MO_isLine_9 : decode b_MO_isLine 9 = .ok (.ifCond .lt 17, 3) := by decide +kernel
theorem d_MO_isLine_12 : decode b_MO_isLine 12 = .ok (.iload_n 2, 1) := by decide +kernel
theorem d_MO_isLine_13 : decode b_MO_isLine 13 = .ok (.aload_n 0, 1) := by decide +kernel
theorem d_MO_isLine_14 : decode b_MO_isLine 14 = .ok (.getfield 65, 3) := by decide +kernel
theorem d_MO_isLine_17 : decode b_MO_isLine 17 = .ok (.iload_n 1, 1) := by decide +kernel
theorem d_MO_isLine_18 : decode b_MO_isLine 18 = .ok (.iaload, 1) := by decide +kernel
theorem d_MO_isLine_19 : decode b_MO_isLine 19 = .ok (.if_icmp .ge 7, 3) := by decide +kernel
theorem d_MO_isLine_22 : decode b_MO_isLine 22 = .ok (.iconst 1, 1) := by decide +kernel
theorem d_MO_isLine_23 : decode b_MO_isLine 23 = .ok (.goto 4, 3) := by decide +kernel
theorem d_MO_isLine_26 : decode b_MO_isLine 26 = .ok (.iconst 0, 1) := by decide +kernel
theorem d_MO_isLine_27 : decode b_MO_isLine 27 = .ok (.ireturn, 1) := by decide +kernel
theorem d_MO_row_0 : decode b_MO_row 0 = .ok (.aload_n 0, 1) := by decide +kernel
theorem d_MO_row_1 : decode b_MO_row 1 = .ok (.iload_n 1, 1) := by decide +kernel
theorem d_MO_row_2 : decode b_MO_row 2 = .ok (.iload_n 2, 1) := by decide +kernel
theorem d_MO_row_3 : decode b_MO_row 3 = .ok (.invokevirtual 193, 3) := by decide +kernel
theorem d_MO_row_6 : decode b_MO_row 6 = .ok (.ifCond .ne 5, 3) := by decide +kernel
theorem d_MO_row_9 : decode b_MO_row 9 = .ok (.iconst (-1), 1) := by decide +kernel
theorem d_MO_row_10 : decode b_MO_row 10 = .ok (.ireturn, 1) := by decide +kernel
theorem d_MO_row_11 : decode b_MO_row 11 = .ok (.aload_n 0, 1) := by decide +kernel
theorem d_MO_row_12 : decode b_MO_row 12 = .ok (.iload_n 1, 1) := by decide +kernel
theorem d_MO_row_13 : decode b_MO_row 13 = .ok (.invokevirtual 196, 3) := by decide +kernel
theorem d_MO_row_16 : decode b_MO_row 16 = .ok (.aload_n 0, 1) := by decide +kernel
theorem d_MO_row_17 : decode b_MO_row 17 = .ok (.getfield 68, 3) := by decide +kernel
theorem d_MO_row_20 : decode b_MO_row 20 = .ok (.iconst 5, 1) := by decide +kernel
theorem d_MO_row_21 : decode b_MO_row 21 = .ok (.iload_n 1, 1) := by decide +kernel
theorem d_MO_row_22 : decode b_MO_row 22 = .ok (.imul, 1) := by decide +kernel
theorem d_MO_row_23 : decode b_MO_row 23 = .ok (.aload_n 0, 1) := by decide +kernel
theorem d_MO_row_24 : decode b_MO_row 24 = .ok (.getfield 83, 3) := by decide +kernel
theorem d_MO_row_27 : decode b_MO_row 27 = .ok (.iload_n 2, 1) := by decide +kernel
theorem d_MO_row_28 : decode b_MO_row 28 = .ok (.iaload, 1) := by decide +kernel
theorem d_MO_row_29 : decode b_MO_row 29 = .ok (.iadd, 1) := by decide +kernel
theorem d_MO_row_30 : decode b_MO_row 30 = .ok (.iaload, 1) := by decide +kernel
theorem d_MO_row_31 : decode b_MO_row 31 = .ok (.ireturn, 1) := by decide +kernel
theorem d_MO_distance_0 : decode b_MO_distance 0 = .ok (.aload_n 0, 1) := by decide +kernel
theorem d_MO_distance_1 : decode b_MO_distance 1 = .ok (.iload_n 1, 1) := by decide +kernel
theorem d_MO_distance_2 : decode b_MO_distance 2 = .ok (.iload_n 2, 1) := by decide +kernel
theorem d_MO_distance_3 : decode b_MO_distance 3 = .ok (.invokevirtual 193, 3) := by decide +kernel
theorem d_MO_distance_6 : decode b_MO_distance 6 = .ok (.ifCond .ne 5, 3) := by decide +kernel
theorem d_MO_distance_9 : decode b_MO_distance 9 = .ok (.iconst (-1), 1) := by decide +kernel
theorem d_MO_distance_10 : decode b_MO_distance 10 = .ok (.ireturn, 1) := by decide +kernel
theorem d_MO_distance_11 : decode b_MO_distance 11 = .ok (.aload_n 0, 1) := by decide +kernel
theorem d_MO_distance_12 : decode b_MO_distance 12 = .ok (.iload_n 1, 1) := by decide +kernel
theorem d_MO_distance_13 : decode b_MO_distance 13 = .ok (.invokevirtual 196, 3) := by decide +kernel
theorem d_MO_distance_16 : decode b_MO_distance 16 = .ok (.aload_n 0, 1) := by decide +kernel
theorem d_MO_distance_17 : decode b_MO_distance 17 = .ok (.getfield 80, 3) := by decide +kernel
theorem d_MO_distance_20 : decode b_MO_distance 20 = .ok (.aload_n 0, 1) := by decide +kernel
theorem d_MO_distance_21 : decode b_MO_distance 21 = .ok (.getfield 83, 3) := by decide +kernel
theorem d_MO_distance_24 : decode b_MO_distance 24 = .ok (.iload_n 2, 1) := by decide +kernel
theorem d_MO_distance_25 : decode b_MO_distance 25 = .ok (.iaload, 1) := by decide +kernel
theorem d_MO_distance_26 : decode b_MO_distance 26 = .ok (.iaload, 1) := by decide +kernel
theorem d_MO_distance_27 : decode b_MO_distance 27 = .ok (.ireturn, 1) := by decide +kernel
theorem d_MO_lineWidth_0 : decode b_MO_lineWidth 0 = .ok (.bipush 16, 2) := by decide +kernel
theorem d_MO_lineWidth_2 : decode b_MO_lineWidth 2 = .ok (.aload_n 0, 1) := by decide +kernel
theorem d_MO_lineWidth_3 : decode b_MO_lineWidth 3 = .ok (.iload_n 3, 1) := by decide +kernel
theorem d_MO_lineWidth_4 : decode b_MO_lineWidth 4 = .ok (.invokevirtual 155, 3) := by decide +kernel
theorem d_MO_lineWidth_7 : decode b_MO_lineWidth 7 = .ok (.aload_n 0, 1) := by decide +kernel
theorem d_MO_lineWidth_8 : decode b_MO_lineWidth 8 = .ok (.getfield 130, 3) := by decide +kernel
theorem d_MO_lineWidth_11 : decode b_MO_lineWidth 11 = .ok (.iadd, 1) := by decide +kernel
theorem d_MO_lineWidth_12 : decode b_MO_lineWidth 12 = .ok (.imul, 1) := by decide +kernel
theorem d_MO_lineWidth_13 : decode b_MO_lineWidth 13 = .ok (.aload_n 0, 1) := by decide +kernel
theorem d_MO_lineWidth_14 : decode b_MO_lineWidth 14 = .ok (.aload_n 0, 1) := by decide +kernel
theorem d_MO_lineWidth_15 : decode b_MO_lineWidth 15 = .ok (.getfield 68, 3) := by decide +kernel
theorem d_MO_lineWidth_18 : decode b_MO_lineWidth 18 = .ok (.iconst 5, 1) := by decide +kernel
theorem d_MO_lineWidth_19 : decode b_MO_lineWidth 19 = .ok (.iload_n 1, 1) := by decide +kernel
theorem d_MO_lineWidth_20 : decode b_MO_lineWidth 20 = .ok (.imul, 1) := by decide +kernel
theorem d_MO_lineWidth_21 : decode b_MO_lineWidth 21 = .ok (.iload_n 2, 1) := by decide +kernel
theorem d_MO_lineWidth_22 : decode b_MO_lineWidth 22 = .ok (.iadd, 1) := by decide +kernel
theorem d_MO_lineWidth_23 : decode b_MO_lineWidth 23 = .ok (.iaload, 1) := by decide +kernel
theorem d_MO_lineWidth_24 : decode b_MO_lineWidth 24 = .ok (.iload_n 3, 1) := by decide +kernel
theorem d_MO_lineWidth_25 : decode b_MO_lineWidth 25 = .ok (.invokevirtual 199, 3) := by decide +kernel
theorem d_MO_lineWidth_28 : decode b_MO_lineWidth 28 = .ok (.iadd, 1) := by decide +kernel
theorem d_MO_lineWidth_29 : decode b_MO_lineWidth 29 = .ok (.ireturn, 1) := by decide +kernel
theorem d_MO_boardWidth_0 : decode b_MO_boardWidth 0 = .ok (.iconst 0, 1) := by decide +kernel
theorem d_MO_boardWidth_1 : decode b_MO_boardWidth 1 = .ok (.istore_n 3, 1) := by decide +kernel
theorem d_MO_boardWidth_2 : decode b_MO_boardWidth 2 = .ok (.iconst 0, 1) := by decide +kernel
theorem d_MO_boardWidth_3 : decode b_MO_boardWidth 3 = .ok (.istore 4, 2) := by decide +kernel
theorem d_MO_boardWidth_5 : decode b_MO_boardWidth 5 = .ok (.iload 4, 2) := by decide +kernel
theorem d_MO_boardWidth_7 : decode b_MO_boardWidth 7 = .ok (.aload_n 0, 1) := by decide +kernel
theorem d_MO_boardWidth_8 : decode b_MO_boardWidth 8 = .ok (.getfield 65, 3) := by decide +kernel
theorem d_MO_boardWidth_11 : decode b_MO_boardWidth 11 = .ok (.iload_n 1, 1) := by decide +kernel
theorem d_MO_boardWidth_12 : decode b_MO_boardWidth 12 = .ok (.iaload, 1) := by decide +kernel
theorem d_MO_boardWidth_13 : decode b_MO_boardWidth 13 = .ok (.if_icmp .ge 37, 3) := by decide +kernel
theorem d_MO_boardWidth_16 : decode b_MO_boardWidth 16 = .ok (.aload_n 0, 1) := by decide +kernel
theorem d_MO_boardWidth_17 : decode b_MO_boardWidth 17 = .ok (.iload_n 1, 1) := by decide +kernel
theorem d_MO_boardWidth_18 : decode b_MO_boardWidth 18 = .ok (.iload 4, 2) := by decide +kernel
theorem d_MO_boardWidth_20 : decode b_MO_boardWidth 20 = .ok (.iload_n 2, 1) := by decide +kernel
theorem d_MO_boardWidth_21 : decode b_MO_boardWidth 21 = .ok (.invokevirtual 202, 3) := by decide +kernel
theorem d_MO_boardWidth_24 : decode b_MO_boardWidth 24 = .ok (.istore 5, 2) := by decide +kernel
theorem d_MO_boardWidth_26 : decode b_MO_boardWidth 26 = .ok (.iload 4, 2) := by decide +kernel
theorem d_MO_boardWidth_28 : decode b_MO_boardWidth 28 = .ok (.ifCond .eq 9, 3) := by decide +kernel
theorem d_MO_boardWidth_31 : decode b_MO_boardWidth 31 = .ok (.iload 5, 2) := by decide +kernel
theorem d_MO_boardWidth_33 : decode b_MO_boardWidth 33 = .ok (.iload_n 3, 1) := by decide +kernel
theorem d_MO_boardWidth_34 : decode b_MO_boardWidth 34 = .ok (.if_icmp .le 8, 3) := by decide +kernel
theorem d_MO_boardWidth_37 : decode b_MO_boardWidth 37 = .ok (.iload 5, 2) := by decide +kernel
theorem d_MO_boardWidth_39 : decode b_MO_boardWidth 39 = .ok (.goto 4, 3) := by decide +kernel
theorem d_MO_boardWidth_42 : decode b_MO_boardWidth 42 = .ok (.iload_n 3, 1) := by decide +kernel
theorem d_MO_boardWidth_43 : decode b_MO_boardWidth 43 = .ok (.istore_n 3, 1) := by decide +kernel
theorem d_MO_boardWidth_44 : decode b_MO_boardWidth 44 = .ok (.iinc 4 1, 3) := by decide +kernel
theorem d_MO_boardWidth_47 : decode b_MO_boardWidth 47 = .ok (.goto (-42), 3) := by decide +kernel
theorem d_MO_boardWidth_50 : decode b_MO_boardWidth 50 = .ok (.iload_n 3, 1) := by decide +kernel
theorem d_MO_boardWidth_51 : decode b_MO_boardWidth 51 = .ok (.bipush 32, 2) := by decide +kernel
theorem d_MO_boardWidth_53 : decode b_MO_boardWidth 53 = .ok (.aload_n 0, 1) := by decide +kernel
theorem d_MO_boardWidth_54 : decode b_MO_boardWidth 54 = .ok (.getfield 127, 3) := by decide +kernel
theorem d_MO_boardWidth_57 : decode b_MO_boardWidth 57 = .ok (.imul, 1) := by decide +kernel
theorem d_MO_boardWidth_58 : decode b_MO_boardWidth 58 = .ok (.iadd, 1) := by decide +kernel
theorem d_MO_boardWidth_59 : decode b_MO_boardWidth 59 = .ok (.istore 4, 2) := by decide +kernel
theorem d_MO_boardWidth_61 : decode b_MO_boardWidth 61 = .ok (.iload 4, 2) := by decide +kernel
theorem d_MO_boardWidth_63 : decode b_MO_boardWidth 63 = .ok (.bipush 16, 2) := by decide +kernel
theorem d_MO_boardWidth_65 : decode b_MO_boardWidth 65 = .ok (.aload_n 0, 1) := by decide +kernel
theorem d_MO_boardWidth_66 : decode b_MO_boardWidth 66 = .ok (.getfield 74, 3) := by decide +kernel
theorem d_MO_boardWidth_69 : decode b_MO_boardWidth 69 = .ok (.iload_n 1, 1) := by decide +kernel
theorem d_MO_boardWidth_70 : decode b_MO_boardWidth 70 = .ok (.iaload, 1) := by decide +kernel
theorem d_MO_boardWidth_71 : decode b_MO_boardWidth 71 = .ok (.imul, 1) := by decide +kernel
theorem d_MO_boardWidth_72 : decode b_MO_boardWidth 72 = .ok (.if_icmp .le 8, 3) := by decide +kernel
theorem d_MO_boardWidth_75 : decode b_MO_boardWidth 75 = .ok (.iload 4, 2) := by decide +kernel
theorem d_MO_boardWidth_77 : decode b_MO_boardWidth 77 = .ok (.goto 12, 3) := by decide +kernel
theorem d_MO_boardWidth_80 : decode b_MO_boardWidth 80 = .ok (.bipush 16, 2) := by decide +kernel
theorem d_MO_boardWidth_82 : decode b_MO_boardWidth 82 = .ok (.aload_n 0, 1) := by decide +kernel
theorem d_MO_boardWidth_83 : decode b_MO_boardWidth 83 = .ok (.getfield 74, 3) := by decide +kernel
theorem d_MO_boardWidth_86 : decode b_MO_boardWidth 86 = .ok (.iload_n 1, 1) := by decide +kernel
theorem d_MO_boardWidth_87 : decode b_MO_boardWidth 87 = .ok (.iaload, 1) := by decide +kernel
theorem d_MO_boardWidth_88 : decode b_MO_boardWidth 88 = .ok (.imul, 1) := by decide +kernel
theorem d_MO_boardWidth_89 : decode b_MO_boardWidth 89 = .ok (.ireturn, 1) := by decide +kernel
theorem d_MO_size_0 : decode b_MO_size 0 = .ok (.aload_n 0, 1) := by decide +kernel
theorem d_MO_size_1 : decode b_MO_size 1 = .ok (.iload_n 1, 1) := by decide +kernel
theorem d_MO_size_2 : decode b_MO_size 2 = .ok (.invokevirtual 168, 3) := by decide +kernel
theorem d_MO_size_5 : decode b_MO_size 5 = .ok (.ifCond .eq 19, 3) := by decide +kernel
theorem d_MO_size_8 : decode b_MO_size 8 = .ok (.iload_n 2, 1) := by decide +kernel
theorem d_MO_size_9 : decode b_MO_size 9 = .ok (.ifCond .lt 15, 3) := by decide +kernel
theorem d_MO_size_12 : decode b_MO_size 12 = .ok (.iload_n 2, 1) := by decide +kernel
theorem d_MO_size_13 : decode b_MO_size 13 = .ok (.iconst 1, 1) := by decide +kernel
theorem d_MO_size_14 : decode b_MO_size 14 = .ok (.if_icmp .gt 10, 3) := by decide +kernel
theorem d_MO_size_17 : decode b_MO_size 17 = .ok (.iload_n 3, 1) := by decide +kernel
theorem d_MO_size_18 : decode b_MO_size 18 = .ok (.invokestatic 143, 3) := by decide +kernel
theorem d_MO_size_21 : decode b_MO_size 21 = .ok (.ifCond .ne 5, 3) := by decide +kernel
theorem d_MO_size_24 : decode b_MO_size 24 = .ok (.iconst (-1), 1) := by decide +kernel
theorem d_MO_size_25 : decode b_MO_size 25 = .ok (.ireturn, 1) := by decide +kernel
theorem d_MO_size_26 : decode b_MO_size 26 = .ok (.iload_n 2, 1) := by decide +kernel
theorem d_MO_size_27 : decode b_MO_size 27 = .ok (.ifCond .ne 10, 3) := by decide +kernel
theorem d_MO_size_30 : decode b_MO_size 30 = .ok (.aload_n 0, 1) := by decide +kernel
theorem d_MO_size_31 : decode b_MO_size 31 = .ok (.iload_n 1, 1) := by decide +kernel
theorem d_MO_size_32 : decode b_MO_size 32 = .ok (.iload_n 3, 1) := by decide +kernel
theorem d_MO_size_33 : decode b_MO_size 33 = .ok (.invokevirtual 206, 3) := by decide +kernel
theorem d_MO_size_36 : decode b_MO_size 36 = .ok (.ireturn, 1) := by decide +kernel
theorem d_MO_size_37 : decode b_MO_size 37 = .ok (.aload_n 0, 1) := by decide +kernel
theorem d_MO_size_38 : decode b_MO_size 38 = .ok (.getfield 65, 3) := by decide +kernel
theorem d_MO_size_41 : decode b_MO_size 41 = .ok (.iload_n 1, 1) := by decide +kernel
theorem d_MO_size_42 : decode b_MO_size 42 = .ok (.iaload, 1) := by decide +kernel
theorem d_MO_size_43 : decode b_MO_size 43 = .ok (.istore 4, 2) := by decide +kernel
theorem d_MO_size_45 : decode b_MO_size 45 = .ok (.bipush 16, 2) := by decide +kernel
theorem d_MO_size_47 : decode b_MO_size 47 = .ok (.iconst 2, 1) := by decide +kernel
theorem d_MO_size_48 : decode b_MO_size 48 = .ok (.aload_n 0, 1) := by decide +kernel
theorem d_MO_size_49 : decode b_MO_size 49 = .ok (.getfield 127, 3) := by decide +kernel
theorem d_MO_size_52 : decode b_MO_size 52 = .ok (.imul, 1) := by decide +kernel
theorem d_MO_size_53 : decode b_MO_size 53 = .ok (.iload 4, 2) := by decide +kernel
theorem d_MO_size_55 : decode b_MO_size 55 = .ok (.aload_n 0, 1) := by decide +kernel
theorem d_MO_size_56 : decode b_MO_size 56 = .ok (.iload_n 3, 1) := by decide +kernel
theorem d_MO_size_57 : decode b_MO_size 57 = .ok (.invokevirtual 155, 3) := by decide +kernel
theorem d_MO_size_60 : decode b_MO_size 60 = .ok (.imul, 1) := by decide +kernel
theorem d_MO_size_61 : decode b_MO_size 61 = .ok (.iadd, 1) := by decide +kernel
theorem d_MO_size_62 : decode b_MO_size 62 = .ok (.iload 4, 2) := by decide +kernel
theorem d_MO_size_64 : decode b_MO_size 64 = .ok (.iconst 1, 1) := by decide +kernel
theorem d_MO_size_65 : decode b_MO_size 65 = .ok (.if_icmp .le 15, 3) := by decide +kernel
theorem d_MO_size_68 : decode b_MO_size 68 = .ok (.iload 4, 2) := by decide +kernel
theorem d_MO_size_70 : decode b_MO_size 70 = .ok (.iconst 1, 1) := by decide +kernel
theorem d_MO_size_71 : decode b_MO_size 71 = .ok (.isub, 1) := by decide +kernel
theorem d_MO_size_72 : decode b_MO_size 72 = .ok (.aload_n 0, 1) := by decide +kernel
theorem d_MO_size_73 : decode b_MO_size 73 = .ok (.getfield 130, 3) := by decide +kernel
theorem d_MO_size_76 : decode b_MO_size 76 = .ok (.imul, 1) := by decide +kernel
theorem d_MO_size_77 : decode b_MO_size 77 = .ok (.goto 4, 3) := by decide +kernel
theorem d_MO_size_80 : decode b_MO_size 80 = .ok (.iconst 0, 1) := by decide +kernel
theorem d_MO_size_81 : decode b_MO_size 81 = .ok (.iadd, 1) := by decide +kernel
theorem d_MO_size_82 : decode b_MO_size 82 = .ok (.imul, 1) := by decide +kernel
theorem d_MO_size_83 : decode b_MO_size 83 = .ok (.ireturn, 1) := by decide +kernel
theorem d_MO_drawn_0 : decode b_MO_drawn 0 = .ok (.aload_n 0, 1) := by decide +kernel
theorem d_MO_drawn_1 : decode b_MO_drawn 1 = .ok (.iload_n 1, 1) := by decide +kernel
theorem d_MO_drawn_2 : decode b_MO_drawn 2 = .ok (.invokevirtual 168, 3) := by decide +kernel
theorem d_MO_drawn_5 : decode b_MO_drawn 5 = .ok (.ifCond .eq 25, 3) := by decide +kernel
theorem d_MO_drawn_8 : decode b_MO_drawn 8 = .ok (.iload_n 2, 1) := by decide +kernel
theorem d_MO_drawn_9 : decode b_MO_drawn 9 = .ok (.invokestatic 143, 3) := by decide +kernel
theorem d_MO_drawn_12 : decode b_MO_drawn 12 = .ok (.ifCond .eq 18, 3) := by decide +kernel
theorem d_MO_drawn_15 : decode b_MO_drawn 15 = .ok (.iload_n 3, 1) := by decide +kernel
theorem d_MO_drawn_16 : decode b_MO_drawn 16 = .ok (.ifCond .lt 14, 3) := by decide +kernel
theorem d_MO_drawn_19 : decode b_MO_drawn 19 = .ok (.iload 4, 2) := by decide +kernel
theorem d_MO_drawn_21 : decode b_MO_drawn 21 = .ok (.ifCond .lt 9, 3) := by decide +kernel
theorem d_MO_drawn_24 : decode b_MO_drawn 24 = .ok (.iload 4, 2) := by decide +kernel
theorem d_MO_drawn_26 : decode b_MO_drawn 26 = .ok (.iconst 2, 1) := by decide +kernel
theorem d_MO_drawn_27 : decode b_MO_drawn 27 = .ok (.if_icmp .le 5, 3) := by decide +kernel
theorem d_MO_drawn_30 : decode b_MO_drawn 30 = .ok (.iconst (-1), 1) := by decide +kernel
theorem d_MO_drawn_31 : decode b_MO_drawn 31 = .ok (.ireturn, 1) := by decide +kernel
theorem d_MO_drawn_32 : decode b_MO_drawn 32 = .ok (.aload_n 0, 1) := by decide +kernel
theorem d_MO_drawn_33 : decode b_MO_drawn 33 = .ok (.iload_n 1, 1) := by decide +kernel
theorem d_MO_drawn_34 : decode b_MO_drawn 34 = .ok (.invokevirtual 196, 3) := by decide +kernel
theorem d_MO_drawn_37 : decode b_MO_drawn 37 = .ok (.iload_n 3, 1) := by decide +kernel
theorem d_MO_drawn_38 : decode b_MO_drawn 38 = .ok (.istore 5, 2) := by decide +kernel
theorem d_MO_drawn_40 : decode b_MO_drawn 40 = .ok (.iconst 0, 1) := by decide +kernel
theorem d_MO_drawn_41 : decode b_MO_drawn 41 = .ok (.istore 6, 2) := by decide +kernel
theorem d_MO_drawn_43 : decode b_MO_drawn 43 = .ok (.iload 6, 2) := by decide +kernel
theorem d_MO_drawn_45 : decode b_MO_drawn 45 = .ok (.aload_n 0, 1) := by decide +kernel
theorem d_MO_drawn_46 : decode b_MO_drawn 46 = .ok (.getfield 65, 3) := by decide +kernel
theorem d_MO_drawn_49 : decode b_MO_drawn 49 = .ok (.iload_n 1, 1) := by decide +kernel
theorem d_MO_drawn_50 : decode b_MO_drawn 50 = .ok (.iaload, 1) := by decide +kernel
theorem d_MO_drawn_51 : decode b_MO_drawn 51 = .ok (.if_icmp .ge 63, 3) := by decide +kernel
theorem d_MO_drawn_54 : decode b_MO_drawn 54 = .ok (.iload 5, 2) := by decide +kernel
theorem d_MO_drawn_56 : decode b_MO_drawn 56 = .ok (.aload_n 0, 1) := by decide +kernel
theorem d_MO_drawn_57 : decode b_MO_drawn 57 = .ok (.getfield 44, 3) := by decide +kernel
theorem d_MO_drawn_60 : decode b_MO_drawn 60 = .ok (.aload_n 0, 1) := by decide +kernel
theorem d_MO_drawn_61 : decode b_MO_drawn 61 = .ok (.getfield 68, 3) := by decide +kernel
theorem d_MO_drawn_64 : decode b_MO_drawn 64 = .ok (.iconst 5, 1) := by decide +kernel
theorem d_MO_drawn_65 : decode b_MO_drawn 65 = .ok (.iload_n 1, 1) := by decide +kernel
theorem d_MO_drawn_66 : decode b_MO_drawn 66 = .ok (.imul, 1) := by decide +kernel
theorem d_MO_drawn_67 : decode b_MO_drawn 67 = .ok (.aload_n 0, 1) := by decide +kernel
theorem d_MO_drawn_68 : decode b_MO_drawn 68 = .ok (.getfield 83, 3) := by decide +kernel
theorem d_MO_drawn_71 : decode b_MO_drawn 71 = .ok (.iload 6, 2) := by decide +kernel
theorem d_MO_drawn_73 : decode b_MO_drawn 73 = .ok (.iaload, 1) := by decide +kernel
theorem d_MO_drawn_74 : decode b_MO_drawn 74 = .ok (.iadd, 1) := by decide +kernel
theorem d_MO_drawn_75 : decode b_MO_drawn 75 = .ok (.iaload, 1) := by decide +kernel
theorem d_MO_drawn_76 : decode b_MO_drawn 76 = .ok (.iaload, 1) := by decide +kernel
theorem d_MO_drawn_77 : decode b_MO_drawn 77 = .ok (.if_icmp .le 37, 3) := by decide +kernel
theorem d_MO_drawn_80 : decode b_MO_drawn 80 = .ok (.iload 5, 2) := by decide +kernel
theorem d_MO_drawn_82 : decode b_MO_drawn 82 = .ok (.iconst 1, 1) := by decide +kernel
theorem d_MO_drawn_83 : decode b_MO_drawn 83 = .ok (.aload_n 0, 1) := by decide +kernel
theorem d_MO_drawn_84 : decode b_MO_drawn 84 = .ok (.getfield 44, 3) := by decide +kernel
theorem d_MO_drawn_87 : decode b_MO_drawn 87 = .ok (.aload_n 0, 1) := by decide +kernel
theorem d_MO_drawn_88 : decode b_MO_drawn 88 = .ok (.getfield 68, 3) := by decide +kernel
theorem d_MO_drawn_91 : decode b_MO_drawn 91 = .ok (.iconst 5, 1) := by decide +kernel
theorem d_MO_drawn_92 : decode b_MO_drawn 92 = .ok (.iload_n 1, 1) := by decide +kernel
theorem d_MO_drawn_93 : decode b_MO_drawn 93 = .ok (.imul, 1) := by decide +kernel
theorem d_MO_drawn_94 : decode b_MO_drawn 94 = .ok (.aload_n 0, 1) := by decide +kernel
theorem d_MO_drawn_95 : decode b_MO_drawn 95 = .ok (.getfield 83, 3) := by decide +kernel
theorem d_MO_drawn_98 : decode b_MO_drawn 98 = .ok (.iload 6, 2) := by decide +kernel
theorem d_MO_drawn_100 : decode b_MO_drawn 100 = .ok (.iaload, 1) := by decide +kernel
theorem d_MO_drawn_101 : decode b_MO_drawn 101 = .ok (.iadd, 1) := by decide +kernel
theorem d_MO_drawn_102 : decode b_MO_drawn 102 = .ok (.iaload, 1) := by decide +kernel
theorem d_MO_drawn_103 : decode b_MO_drawn 103 = .ok (.iaload, 1) := by decide +kernel
theorem d_MO_drawn_104 : decode b_MO_drawn 104 = .ok (.iadd, 1) := by decide +kernel
theorem d_MO_drawn_105 : decode b_MO_drawn 105 = .ok (.isub, 1) := by decide +kernel
theorem d_MO_drawn_106 : decode b_MO_drawn 106 = .ok (.istore 5, 2) := by decide +kernel
theorem d_MO_drawn_108 : decode b_MO_drawn 108 = .ok (.iinc 6 1, 3) := by decide +kernel
theorem d_MO_drawn_111 : decode b_MO_drawn 111 = .ok (.goto (-68), 3) := by decide +kernel
theorem d_MO_drawn_114 : decode b_MO_drawn 114 = .ok (.iload 6, 2) := by decide +kernel
theorem d_MO_drawn_116 : decode b_MO_drawn 116 = .ok (.aload_n 0, 1) := by decide +kernel
theorem d_MO_drawn_117 : decode b_MO_drawn 117 = .ok (.getfield 65, 3) := by decide +kernel
theorem d_MO_drawn_120 : decode b_MO_drawn 120 = .ok (.iload_n 1, 1) := by decide +kernel
theorem d_MO_drawn_121 : decode b_MO_drawn 121 = .ok (.iaload, 1) := by decide +kernel
theorem d_MO_drawn_122 : decode b_MO_drawn 122 = .ok (.if_icmp .ne 5, 3) := by decide +kernel
theorem d_MO_drawn_125 : decode b_MO_drawn 125 = .ok (.iconst (-1), 1) := by decide +kernel
theorem d_MO_drawn_126 : decode b_MO_drawn 126 = .ok (.ireturn, 1) := by decide +kernel
theorem d_MO_drawn_127 : decode b_MO_drawn 127 = .ok (.aload_n 0, 1) := by decide +kernel
theorem d_MO_drawn_128 : decode b_MO_drawn 128 = .ok (.getfield 83, 3) := by decide +kernel
theorem d_MO_drawn_131 : decode b_MO_drawn 131 = .ok (.iload 6, 2) := by decide +kernel
theorem d_MO_drawn_133 : decode b_MO_drawn 133 = .ok (.iaload, 1) := by decide +kernel
theorem d_MO_drawn_134 : decode b_MO_drawn 134 = .ok (.istore 7, 2) := by decide +kernel
theorem d_MO_drawn_136 : decode b_MO_drawn 136 = .ok (.aload_n 0, 1) := by decide +kernel
theorem d_MO_drawn_137 : decode b_MO_drawn 137 = .ok (.getfield 68, 3) := by decide +kernel
theorem d_MO_drawn_140 : decode b_MO_drawn 140 = .ok (.iconst 5, 1) := by decide +kernel
theorem d_MO_drawn_141 : decode b_MO_drawn 141 = .ok (.iload_n 1, 1) := by decide +kernel
theorem d_MO_drawn_142 : decode b_MO_drawn 142 = .ok (.imul, 1) := by decide +kernel
theorem d_MO_drawn_143 : decode b_MO_drawn 143 = .ok (.iload 7, 2) := by decide +kernel
theorem d_MO_drawn_145 : decode b_MO_drawn 145 = .ok (.iadd, 1) := by decide +kernel
theorem d_MO_drawn_146 : decode b_MO_drawn 146 = .ok (.iaload, 1) := by decide +kernel
theorem d_MO_drawn_147 : decode b_MO_drawn 147 = .ok (.istore 8, 2) := by decide +kernel
theorem d_MO_drawn_149 : decode b_MO_drawn 149 = .ok (.aload_n 0, 1) := by decide +kernel
theorem d_MO_drawn_150 : decode b_MO_drawn 150 = .ok (.getfield 71, 3) := by decide +kernel
theorem d_MO_drawn_153 : decode b_MO_drawn 153 = .ok (.iconst 5, 1) := by decide +kernel
theorem d_MO_drawn_154 : decode b_MO_drawn 154 = .ok (.iload_n 1, 1) := by decide +kernel
theorem d_MO_drawn_155 : decode b_MO_drawn 155 = .ok (.imul, 1) := by decide +kernel
theorem d_MO_drawn_156 : decode b_MO_drawn 156 = .ok (.iload 7, 2) := by decide +kernel
theorem d_MO_drawn_158 : decode b_MO_drawn 158 = .ok (.iadd, 1) := by decide +kernel
theorem d_MO_drawn_159 : decode b_MO_drawn 159 = .ok (.iaload, 1) := by decide +kernel
theorem d_MO_drawn_160 : decode b_MO_drawn 160 = .ok (.istore 9, 2) := by decide +kernel
theorem d_MO_drawn_162 : decode b_MO_drawn 162 = .ok (.aload_n 0, 1) := by decide +kernel
theorem d_MO_drawn_163 : decode b_MO_drawn 163 = .ok (.iload_n 2, 1) := by decide +kernel
theorem d_MO_drawn_164 : decode b_MO_drawn 164 = .ok (.invokevirtual 155, 3) := by decide +kernel
theorem d_MO_drawn_167 : decode b_MO_drawn 167 = .ok (.istore 10, 2) := by decide +kernel
theorem d_MO_drawn_169 : decode b_MO_drawn 169 = .ok (.iload 4, 2) := by decide +kernel
theorem d_MO_drawn_171 : decode b_MO_drawn 171 = .ok (.ifCond .ne 28, 3) := by decide +kernel
theorem d_MO_drawn_174 : decode b_MO_drawn 174 = .ok (.iload 5, 2) := by decide +kernel
theorem d_MO_drawn_176 : decode b_MO_drawn 176 = .ok (.ifCond .ne 12, 3) := by decide +kernel
theorem d_MO_drawn_179 : decode b_MO_drawn 179 = .ok (.sipush 200, 3) := by decide +kernel
theorem d_MO_drawn_182 : decode b_MO_drawn 182 = .ok (.iload 9, 2) := by decide +kernel
theorem d_MO_drawn_184 : decode b_MO_drawn 184 = .ok (.iadd, 1) := by decide +kernel
theorem d_MO_drawn_185 : decode b_MO_drawn 185 = .ok (.goto 13, 3) := by decide +kernel
theorem d_MO_drawn_188 : decode b_MO_drawn 188 = .ok (.aload_n 0, 1) := by decide +kernel
theorem d_MO_drawn_189 : decode b_MO_drawn 189 = .ok (.iload 8, 2) := by decide +kernel
theorem d_MO_drawn_191 : decode b_MO_drawn 191 = .ok (.iload 5, 2) := by decide +kernel
theorem d_MO_drawn_193 : decode b_MO_drawn 193 = .ok (.iconst 1, 1) := by decide +kernel
theorem d_MO_drawn_194 : decode b_MO_drawn 194 = .ok (.isub, 1) := by decide +kernel
theorem d_MO_drawn_195 : decode b_MO_drawn 195 = .ok (.invokevirtual 146, 3) := by decide +kernel
theorem d_MO_drawn_198 : decode b_MO_drawn 198 = .ok (.ireturn, 1) := by decide +kernel
theorem d_MO_drawn_199 : decode b_MO_drawn 199 = .ok (.iload 4, 2) := by decide +kernel
theorem d_MO_drawn_201 : decode b_MO_drawn 201 = .ok (.iconst 2, 1) := by decide +kernel
theorem d_MO_drawn_202 : decode b_MO_drawn 202 = .ok (.if_icmp .ne 22, 3) := by decide +kernel
theorem d_MO_drawn_205 : decode b_MO_drawn 205 = .ok (.bipush 16, 2) := by decide +kernel
theorem d_MO_drawn_207 : decode b_MO_drawn 207 = .ok (.aload_n 0, 1) := by decide +kernel
theorem d_MO_drawn_208 : decode b_MO_drawn 208 = .ok (.getfield 127, 3) := by decide +kernel
theorem d_MO_drawn_211 : decode b_MO_drawn 211 = .ok (.iload 6, 2) := by decide +kernel
theorem d_MO_drawn_213 : decode b_MO_drawn 213 = .ok (.iload 10, 2) := by decide +kernel
theorem d_MO_drawn_215 : decode b_MO_drawn 215 = .ok (.aload_n 0, 1) := by decide +kernel
theorem d_MO_drawn_216 : decode b_MO_drawn 216 = .ok (.getfield 130, 3) := by decide +kernel
theorem d_MO_drawn_219 : decode b_MO_drawn 219 = .ok (.iadd, 1) := by decide +kernel
theorem d_MO_drawn_220 : decode b_MO_drawn 220 = .ok (.imul, 1) := by decide +kernel
theorem d_MO_drawn_221 : decode b_MO_drawn 221 = .ok (.iadd, 1) := by decide +kernel
theorem d_MO_drawn_222 : decode b_MO_drawn 222 = .ok (.imul, 1) := by decide +kernel
theorem d_MO_drawn_223 : decode b_MO_drawn 223 = .ok (.ireturn, 1) := by decide +kernel
theorem d_MO_drawn_224 : decode b_MO_drawn 224 = .ok (.bipush 16, 2) := by decide +kernel
theorem d_MO_drawn_226 : decode b_MO_drawn 226 = .ok (.aload_n 0, 1) := by decide +kernel
theorem d_MO_drawn_227 : decode b_MO_drawn 227 = .ok (.getfield 127, 3) := by decide +kernel
theorem d_MO_drawn_230 : decode b_MO_drawn 230 = .ok (.imul, 1) := by decide +kernel
theorem d_MO_drawn_231 : decode b_MO_drawn 231 = .ok (.aload_n 0, 1) := by decide +kernel
theorem d_MO_drawn_232 : decode b_MO_drawn 232 = .ok (.iload_n 1, 1) := by decide +kernel
theorem d_MO_drawn_233 : decode b_MO_drawn 233 = .ok (.iload_n 2, 1) := by decide +kernel
theorem d_MO_drawn_234 : decode b_MO_drawn 234 = .ok (.invokevirtual 206, 3) := by decide +kernel
theorem d_MO_drawn_237 : decode b_MO_drawn 237 = .ok (.bipush 32, 2) := by decide +kernel
theorem d_MO_drawn_239 : decode b_MO_drawn 239 = .ok (.aload_n 0, 1) := by decide +kernel
theorem d_MO_drawn_240 : decode b_MO_drawn 240 = .ok (.getfield 127, 3) := by decide +kernel
theorem d_MO_drawn_243 : decode b_MO_drawn 243 = .ok (.imul, 1) := by decide +kernel
theorem d_MO_drawn_244 : decode b_MO_drawn 244 = .ok (.isub, 1) := by decide +kernel
theorem d_MO_drawn_245 : decode b_MO_drawn 245 = .ok (.aload_n 0, 1) := by decide +kernel
theorem d_MO_drawn_246 : decode b_MO_drawn 246 = .ok (.iload_n 1, 1) := by decide +kernel
theorem d_MO_drawn_247 : decode b_MO_drawn 247 = .ok (.iload 7, 2) := by decide +kernel
theorem d_MO_drawn_249 : decode b_MO_drawn 249 = .ok (.iload_n 2, 1) := by decide +kernel
theorem d_MO_drawn_250 : decode b_MO_drawn 250 = .ok (.invokevirtual 202, 3) := by decide +kernel
theorem d_MO_drawn_253 : decode b_MO_drawn 253 = .ok (.isub, 1) := by decide +kernel
theorem d_MO_drawn_254 : decode b_MO_drawn 254 = .ok (.iconst 2, 1) := by decide +kernel
theorem d_MO_drawn_255 : decode b_MO_drawn 255 = .ok (.idiv, 1) := by decide +kernel
theorem d_MO_drawn_256 : decode b_MO_drawn 256 = .ok (.iadd, 1) := by decide +kernel
theorem d_MO_drawn_257 : decode b_MO_drawn 257 = .ok (.istore 11, 2) := by decide +kernel
theorem d_MO_drawn_259 : decode b_MO_drawn 259 = .ok (.iload 5, 2) := by decide +kernel
theorem d_MO_drawn_261 : decode b_MO_drawn 261 = .ok (.ifCond .ne 33, 3) := by decide +kernel
theorem d_MO_drawn_264 : decode b_MO_drawn 264 = .ok (.iload 9, 2) := by decide +kernel
theorem d_MO_drawn_266 : decode b_MO_drawn 266 = .ok (.iconst 2, 1) := by decide +kernel
theorem d_MO_drawn_267 : decode b_MO_drawn 267 = .ok (.if_icmp .ne 24, 3) := by decide +kernel
theorem d_MO_drawn_270 : decode b_MO_drawn 270 = .ok (.iload 11, 2) := by decide +kernel
theorem d_MO_drawn_272 : decode b_MO_drawn 272 = .ok (.aload_n 0, 1) := by decide +kernel
theorem d_MO_drawn_273 : decode b_MO_drawn 273 = .ok (.iload 8, 2) := by decide +kernel
theorem d_MO_drawn_275 : decode b_MO_drawn 275 = .ok (.iload_n 2, 1) := by decide +kernel
theorem d_MO_drawn_276 : decode b_MO_drawn 276 = .ok (.invokevirtual 199, 3) := by decide +kernel
theorem d_MO_drawn_279 : decode b_MO_drawn 279 = .ok (.iadd, 1) := by decide +kernel
theorem d_MO_drawn_280 : decode b_MO_drawn 280 = .ok (.bipush 16, 2) := by decide +kernel
theorem d_MO_drawn_282 : decode b_MO_drawn 282 = .ok (.aload_n 0, 1) := by decide +kernel
theorem d_MO_drawn_283 : decode b_MO_drawn 283 = .ok (.getfield 130, 3) := by decide +kernel
theorem d_MO_drawn_286 : decode b_MO_drawn 286 = .ok (.imul, 1) := by decide +kernel
theorem d_MO_drawn_287 : decode b_MO_drawn 287 = .ok (.iadd, 1) := by decide +kernel
theorem d_MO_drawn_288 : decode b_MO_drawn 288 = .ok (.goto 5, 3) := by decide +kernel
theorem d_MO_drawn_291 : decode b_MO_drawn 291 = .ok (.iload 11, 2) := by decide +kernel
theorem d_MO_drawn_293 : decode b_MO_drawn 293 = .ok (.ireturn, 1) := by decide +kernel
theorem d_MO_drawn_294 : decode b_MO_drawn 294 = .ok (.iload 11, 2) := by decide +kernel
theorem d_MO_drawn_296 : decode b_MO_drawn 296 = .ok (.iload 9, 2) := by decide +kernel
theorem d_MO_drawn_298 : decode b_MO_drawn 298 = .ok (.iconst 2, 1) := by decide +kernel
theorem d_MO_drawn_299 : decode b_MO_drawn 299 = .ok (.if_icmp .ne 7, 3) := by decide +kernel
theorem d_MO_drawn_302 : decode b_MO_drawn 302 = .ok (.iconst 0, 1) := by decide +kernel
theorem d_MO_drawn_303 : decode b_MO_drawn 303 = .ok (.goto 13, 3) := by decide +kernel
theorem d_MO_drawn_306 : decode b_MO_drawn 306 = .ok (.bipush 16, 2) := by decide +kernel
theorem d_MO_drawn_308 : decode b_MO_drawn 308 = .ok (.iload 10, 2) := by decide +kernel
theorem d_MO_drawn_310 : decode b_MO_drawn 310 = .ok (.aload_n 0, 1) := by decide +kernel
theorem d_MO_drawn_311 : decode b_MO_drawn 311 = .ok (.getfield 130, 3) := by decide +kernel
theorem d_MO_drawn_314 : decode b_MO_drawn 314 = .ok (.iadd, 1) := by decide +kernel
theorem d_MO_drawn_315 : decode b_MO_drawn 315 = .ok (.imul, 1) := by decide +kernel
theorem d_MO_drawn_316 : decode b_MO_drawn 316 = .ok (.iadd, 1) := by decide +kernel
theorem d_MO_drawn_317 : decode b_MO_drawn 317 = .ok (.aload_n 0, 1) := by decide +kernel
theorem d_MO_drawn_318 : decode b_MO_drawn 318 = .ok (.iload 8, 2) := by decide +kernel
theorem d_MO_drawn_320 : decode b_MO_drawn 320 = .ok (.iload 5, 2) := by decide +kernel
theorem d_MO_drawn_322 : decode b_MO_drawn 322 = .ok (.iconst 1, 1) := by decide +kernel
theorem d_MO_drawn_323 : decode b_MO_drawn 323 = .ok (.isub, 1) := by decide +kernel
theorem d_MO_drawn_324 : decode b_MO_drawn 324 = .ok (.invokevirtual 152, 3) := by decide +kernel
theorem d_MO_drawn_327 : decode b_MO_drawn 327 = .ok (.iload 10, 2) := by decide +kernel
theorem d_MO_drawn_329 : decode b_MO_drawn 329 = .ok (.imul, 1) := by decide +kernel
theorem d_MO_drawn_330 : decode b_MO_drawn 330 = .ok (.iadd, 1) := by decide +kernel
theorem d_MO_drawn_331 : decode b_MO_drawn 331 = .ok (.ireturn, 1) := by decide +kernel
theorem d_MO_isShown_0 : decode b_MO_isShown 0 = .ok (.iconst 0, 1) := by decide +kernel
theorem d_MO_isShown_1 : decode b_MO_isShown 1 = .ok (.istore_n 3, 1) := by decide +kernel
theorem d_MO_isShown_2 : decode b_MO_isShown 2 = .ok (.iconst 0, 1) := by decide +kernel
theorem d_MO_isShown_3 : decode b_MO_isShown 3 = .ok (.istore 4, 2) := by decide +kernel
theorem d_MO_isShown_5 : decode b_MO_isShown 5 = .ok (.iload 4, 2) := by decide +kernel
theorem d_MO_isShown_7 : decode b_MO_isShown 7 = .ok (.aload_n 0, 1) := by decide +kernel
theorem d_MO_isShown_8 : decode b_MO_isShown 8 = .ok (.getfield 165, 3) := by decide +kernel
theorem d_MO_isShown_11 : decode b_MO_isShown 11 = .ok (.if_icmp .ge 40, 3) := by decide +kernel
theorem d_MO_isShown_14 : decode b_MO_isShown 14 = .ok (.iload_n 3, 1) := by decide +kernel
theorem d_MO_isShown_15 : decode b_MO_isShown 15 = .ok (.ifCond .ne 24, 3) := by decide +kernel
theorem d_MO_isShown_18 : decode b_MO_isShown 18 = .ok (.aload_n 0, 1) := by decide +kernel
theorem d_MO_isShown_19 : decode b_MO_isShown 19 = .ok (.getfield 62, 3) := by decide +kernel
theorem d_MO_isShown_22 : decode b_MO_isShown 22 = .ok (.iload 4, 2) := by decide +kernel
theorem d_MO_isShown_24 : decode b_MO_isShown 24 = .ok (.iaload, 1) := by decide +kernel
theorem d_MO_isShown_25 : decode b_MO_isShown 25 = .ok (.iload_n 1, 1) := by decide +kernel
theorem d_MO_isShown_26 : decode b_MO_isShown 26 = .ok (.if_icmp .ne 17, 3) := by decide +kernel
theorem d_MO_isShown_29 : decode b_MO_isShown 29 = .ok (.aload_n 0, 1) := by decide +kernel
theorem d_MO_isShown_30 : decode b_MO_isShown 30 = .ok (.iload 4, 2) := by decide +kernel
theorem d_MO_isShown_32 : decode b_MO_isShown 32 = .ok (.iload_n 2, 1) := by decide +kernel
theorem d_MO_isShown_33 : decode b_MO_isShown 33 = .ok (.invokevirtual 171, 3) := by decide +kernel
theorem d_MO_isShown_36 : decode b_MO_isShown 36 = .ok (.ifCond .eq 7, 3) := by decide +kernel
theorem d_MO_isShown_39 : decode b_MO_isShown 39 = .ok (.iconst 1, 1) := by decide +kernel
theorem d_MO_isShown_40 : decode b_MO_isShown 40 = .ok (.goto 4, 3) := by decide +kernel
theorem d_MO_isShown_43 : decode b_MO_isShown 43 = .ok (.iconst 0, 1) := by decide +kernel
theorem d_MO_isShown_44 : decode b_MO_isShown 44 = .ok (.istore_n 3, 1) := by decide +kernel
theorem d_MO_isShown_45 : decode b_MO_isShown 45 = .ok (.iinc 4 1, 3) := by decide +kernel
theorem d_MO_isShown_48 : decode b_MO_isShown 48 = .ok (.goto (-43), 3) := by decide +kernel
theorem d_MO_isShown_51 : decode b_MO_isShown 51 = .ok (.iload_n 3, 1) := by decide +kernel
theorem d_MO_isShown_52 : decode b_MO_isShown 52 = .ok (.ireturn, 1) := by decide +kernel
theorem d_MO_shows_0 : decode b_MO_shows 0 = .ok (.iload_n 1, 1) := by decide +kernel
theorem d_MO_shows_1 : decode b_MO_shows 1 = .ok (.ifCond .lt 32, 3) := by decide +kernel
theorem d_MO_shows_4 : decode b_MO_shows 4 = .ok (.iload_n 1, 1) := by decide +kernel
theorem d_MO_shows_5 : decode b_MO_shows 5 = .ok (.aload_n 0, 1) := by decide +kernel
theorem d_MO_shows_6 : decode b_MO_shows 6 = .ok (.getfield 162, 3) := by decide +kernel
theorem d_MO_shows_9 : decode b_MO_shows 9 = .ok (.if_icmp .ge 24, 3) := by decide +kernel
theorem d_MO_shows_12 : decode b_MO_shows 12 = .ok (.aload_n 0, 1) := by decide +kernel
theorem d_MO_shows_13 : decode b_MO_shows 13 = .ok (.iload_n 2, 1) := by decide +kernel
theorem d_MO_shows_14 : decode b_MO_shows 14 = .ok (.invokevirtual 149, 3) := by decide +kernel
theorem d_MO_shows_17 : decode b_MO_shows 17 = .ok (.ifCond .eq 16, 3) := by decide +kernel
theorem d_MO_shows_20 : decode b_MO_shows 20 = .ok (.aload_n 0, 1) := by decide +kernel
theorem d_MO_shows_21 : decode b_MO_shows 21 = .ok (.iload_n 1, 1) := by decide +kernel
theorem d_MO_shows_22 : decode b_MO_shows 22 = .ok (.iload_n 2, 1) := by decide +kernel
theorem d_MO_shows_23 : decode b_MO_shows 23 = .ok (.invokevirtual 176, 3) := by decide +kernel
theorem d_MO_shows_26 : decode b_MO_shows 26 = .ok (.ifCond .eq 7, 3) := by decide +kernel
theorem d_MO_shows_29 : decode b_MO_shows 29 = .ok (.iconst 1, 1) := by decide +kernel
theorem d_MO_shows_30 : decode b_MO_shows 30 = .ok (.goto 4, 3) := by decide +kernel
theorem d_MO_shows_33 : decode b_MO_shows 33 = .ok (.iconst 0, 1) := by decide +kernel
theorem d_MO_shows_34 : decode b_MO_shows 34 = .ok (.ireturn, 1) := by decide +kernel
theorem d_MO_find_0 : decode b_MO_find 0 = .ok (.aload_n 0, 1) := by decide +kernel
theorem d_MO_find_1 : decode b_MO_find 1 = .ok (.iconst 0, 1) := by decide +kernel
theorem d_MO_find_2 : decode b_MO_find 2 = .ok (.putfield 209, 3) := by decide +kernel
theorem d_MO_find_5 : decode b_MO_find 5 = .ok (.iconst 0, 1) := by decide +kernel
theorem d_MO_find_6 : decode b_MO_find 6 = .ok (.istore_n 2, 1) := by decide +kernel
theorem d_MO_find_7 : decode b_MO_find 7 = .ok (.iload_n 2, 1) := by decide +kernel
theorem d_MO_find_8 : decode b_MO_find 8 = .ok (.aload_n 0, 1) := by decide +kernel
theorem d_MO_find_9 : decode b_MO_find 9 = .ok (.getfield 133, 3) := by decide +kernel
theorem d_MO_find_12 : decode b_MO_find 12 = .ok (.if_icmp .ge 162, 3) := by decide +kernel
theorem d_MO_find_15 : decode b_MO_find 15 = .ok (.aload_n 0, 1) := by decide +kernel
theorem d_MO_find_16 : decode b_MO_find 16 = .ok (.getfield 50, 3) := by decide +kernel
theorem d_MO_find_19 : decode b_MO_find 19 = .ok (.iload_n 2, 1) := by decide +kernel
theorem d_MO_find_20 : decode b_MO_find 20 = .ok (.iaload, 1) := by decide +kernel
theorem d_MO_find_21 : decode b_MO_find 21 = .ok (.iconst (-1), 1) := by decide +kernel
theorem d_MO_find_22 : decode b_MO_find 22 = .ok (.if_icmp .eq 146, 3) := by decide +kernel
theorem d_MO_find_25 : decode b_MO_find 25 = .ok (.aload_n 0, 1) := by decide +kernel
theorem d_MO_find_26 : decode b_MO_find 26 = .ok (.aload_n 0, 1) := by decide +kernel
theorem d_MO_find_27 : decode b_MO_find 27 = .ok (.getfield 50, 3) := by decide +kernel
theorem d_MO_find_30 : decode b_MO_find 30 = .ok (.iload_n 2, 1) := by decide +kernel
theorem d_MO_find_31 : decode b_MO_find 31 = .ok (.iaload, 1) := by decide +kernel
theorem d_MO_find_32 : decode b_MO_find 32 = .ok (.iload_n 2, 1) := by decide +kernel
theorem d_MO_find_33 : decode b_MO_find 33 = .ok (.invokevirtual 179, 3) := by decide +kernel
theorem d_MO_find_36 : decode b_MO_find 36 = .ok (.iconst 0, 1) := by decide +kernel
theorem d_MO_find_37 : decode b_MO_find 37 = .ok (.istore_n 3, 1) := by decide +kernel
theorem d_MO_find_38 : decode b_MO_find 38 = .ok (.iload_n 3, 1) := by decide +kernel
theorem d_MO_find_39 : decode b_MO_find 39 = .ok (.aload_n 0, 1) := by decide +kernel
theorem d_MO_find_40 : decode b_MO_find 40 = .ok (.getfield 162, 3) := by decide +kernel
theorem d_MO_find_43 : decode b_MO_find 43 = .ok (.if_icmp .ge 125, 3) := by decide +kernel
theorem d_MO_find_46 : decode b_MO_find 46 = .ok (.aload_n 0, 1) := by decide +kernel
theorem d_MO_find_47 : decode b_MO_find 47 = .ok (.iload_n 3, 1) := by decide +kernel
theorem d_MO_find_48 : decode b_MO_find 48 = .ok (.iload_n 2, 1) := by decide +kernel
theorem d_MO_find_49 : decode b_MO_find 49 = .ok (.invokevirtual 176, 3) := by decide +kernel
theorem d_MO_find_52 : decode b_MO_find 52 = .ok (.ifCond .eq 110, 3) := by decide +kernel
theorem d_MO_find_55 : decode b_MO_find 55 = .ok (.aload_n 0, 1) := by decide +kernel
theorem d_MO_find_56 : decode b_MO_find 56 = .ok (.getfield 77, 3) := by decide +kernel
theorem d_MO_find_59 : decode b_MO_find 59 = .ok (.aload_n 0, 1) := by decide +kernel
theorem d_MO_find_60 : decode b_MO_find 60 = .ok (.getfield 56, 3) := by decide +kernel
theorem d_MO_find_63 : decode b_MO_find 63 = .ok (.iload_n 3, 1) := by decide +kernel
theorem d_MO_find_64 : decode b_MO_find 64 = .ok (.iaload, 1) := by decide +kernel
theorem d_MO_find_65 : decode b_MO_find 65 = .ok (.iaload, 1) := by decide +kernel
theorem d_MO_find_66 : decode b_MO_find 66 = .ok (.ldc 175, 2) := by decide +kernel
theorem d_MO_find_68 : decode b_MO_find 68 = .ok (.if_icmp .lt 94, 3) := by decide +kernel
theorem d_MO_find_71 : decode b_MO_find 71 = .ok (.aload_n 0, 1) := by decide +kernel
theorem d_MO_find_72 : decode b_MO_find 72 = .ok (.getfield 209, 3) := by decide +kernel
theorem d_MO_find_75 : decode b_MO_find 75 = .ok (.iload_n 1, 1) := by decide +kernel
theorem d_MO_find_76 : decode b_MO_find 76 = .ok (.if_icmp .ne 76, 3) := by decide +kernel
theorem d_MO_find_79 : decode b_MO_find 79 = .ok (.aload_n 0, 1) := by decide +kernel
theorem d_MO_find_80 : decode b_MO_find 80 = .ok (.iload_n 2, 1) := by decide +kernel
theorem d_MO_find_81 : decode b_MO_find 81 = .ok (.putfield 212, 3) := by decide +kernel
theorem d_MO_find_84 : decode b_MO_find 84 = .ok (.aload_n 0, 1) := by decide +kernel
theorem d_MO_find_85 : decode b_MO_find 85 = .ok (.iload_n 3, 1) := by decide +kernel
theorem d_MO_find_86 : decode b_MO_find 86 = .ok (.putfield 215, 3) := by decide +kernel
theorem d_MO_find_89 : decode b_MO_find 89 = .ok (.aload_n 0, 1) := by decide +kernel
theorem d_MO_find_90 : decode b_MO_find 90 = .ok (.iconst 0, 1) := by decide +kernel
theorem d_MO_find_91 : decode b_MO_find 91 = .ok (.putfield 218, 3) := by decide +kernel
theorem d_MO_find_94 : decode b_MO_find 94 = .ok (.iconst 0, 1) := by decide +kernel
theorem d_MO_find_95 : decode b_MO_find 95 = .ok (.istore 4, 2) := by decide +kernel
theorem d_MO_find_97 : decode b_MO_find 97 = .ok (.iload 4, 2) := by decide +kernel
theorem d_MO_find_99 : decode b_MO_find 99 = .ok (.aload_n 0, 1) := by decide +kernel
theorem d_MO_find_100 : decode b_MO_find 100 = .ok (.getfield 162, 3) := by decide +kernel
theorem d_MO_find_103 : decode b_MO_find 103 = .ok (.if_icmp .ge 47, 3) := by decide +kernel
theorem d_MO_find_106 : decode b_MO_find 106 = .ok (.aload_n 0, 1) := by decide +kernel
theorem d_MO_find_107 : decode b_MO_find 107 = .ok (.aload_n 0, 1) := by decide +kernel
theorem d_MO_find_108 : decode b_MO_find 108 = .ok (.getfield 53, 3) := by decide +kernel
theorem d_MO_find_111 : decode b_MO_find 111 = .ok (.iload 4, 2) := by decide +kernel
theorem d_MO_find_113 : decode b_MO_find 113 = .ok (.iaload, 1) := by decide +kernel
theorem d_MO_find_114 : decode b_MO_find 114 = .ok (.aload_n 0, 1) := by decide +kernel
theorem d_MO_find_115 : decode b_MO_find 115 = .ok (.getfield 56, 3) := by decide +kernel
theorem d_MO_find_118 : decode b_MO_find 118 = .ok (.iload_n 3, 1) := by decide +kernel
theorem d_MO_find_119 : decode b_MO_find 119 = .ok (.iaload, 1) := by decide +kernel
theorem d_MO_find_120 : decode b_MO_find 120 = .ok (.if_icmp .ne 17, 3) := by decide +kernel
theorem d_MO_find_123 : decode b_MO_find 123 = .ok (.aload_n 0, 1) := by decide +kernel
theorem d_MO_find_124 : decode b_MO_find 124 = .ok (.iload 4, 2) := by decide +kernel
theorem d_MO_find_126 : decode b_MO_find 126 = .ok (.iload_n 2, 1) := by decide +kernel
theorem d_MO_find_127 : decode b_MO_find 127 = .ok (.invokevirtual 176, 3) := by decide +kernel
theorem d_MO_find_130 : decode b_MO_find 130 = .ok (.ifCond .eq 7, 3) := by decide +kernel
theorem d_MO_find_133 : decode b_MO_find 133 = .ok (.iconst 1, 1) := by decide +kernel
theorem d_MO_find_134 : decode b_MO_find 134 = .ok (.goto 7, 3) := by decide +kernel
theorem d_MO_find_137 : decode b_MO_find 137 = .ok (.aload_n 0, 1) := by decide +kernel
theorem d_MO_find_138 : decode b_MO_find 138 = .ok (.getfield 218, 3) := by decide +kernel
theorem d_MO_find_141 : decode b_MO_find 141 = .ok (.putfield 218, 3) := by decide +kernel
theorem d_MO_find_144 : decode b_MO_find 144 = .ok (.iinc 4 1, 3) := by decide +kernel
theorem d_MO_find_147 : decode b_MO_find 147 = .ok (.goto (-50), 3) := by decide +kernel
theorem d_MO_find_150 : decode b_MO_find 150 = .ok (.iload_n 1, 1) := by decide +kernel
theorem d_MO_find_151 : decode b_MO_find 151 = .ok (.ireturn, 1) := by decide +kernel
theorem d_MO_find_152 : decode b_MO_find 152 = .ok (.aload_n 0, 1) := by decide +kernel
theorem d_MO_find_153 : decode b_MO_find 153 = .ok (.dup, 1) := by decide +kernel
theorem d_MO_find_154 : decode b_MO_find 154 = .ok (.getfield 209, 3) := by decide +kernel
theorem d_MO_find_157 : decode b_MO_find 157 = .ok (.iconst 1, 1) := by decide +kernel
theorem d_MO_find_158 : decode b_MO_find 158 = .ok (.iadd, 1) := by decide +kernel
theorem d_MO_find_159 : decode b_MO_find 159 = .ok (.putfield 209, 3) := by decide +kernel
theorem d_MO_find_162 : decode b_MO_find 162 = .ok (.iinc 3 1, 3) := by decide +kernel
theorem d_MO_find_165 : decode b_MO_find 165 = .ok (.goto (-127), 3) := by decide +kernel
theorem d_MO_find_168 : decode b_MO_find 168 = .ok (.iinc 2 1, 3) := by decide +kernel
theorem d_MO_find_171 : decode b_MO_find 171 = .ok (.goto (-164), 3) := by decide +kernel
theorem d_MO_find_174 : decode b_MO_find 174 = .ok (.aload_n 0, 1) := by decide +kernel
theorem d_MO_find_175 : decode b_MO_find 175 = .ok (.getfield 209, 3) := by decide +kernel
theorem d_MO_find_178 : decode b_MO_find 178 = .ok (.ireturn, 1) := by decide +kernel
theorem d_MO_breaks_0 : decode b_MO_breaks 0 = .ok (.iload_n 1, 1) := by decide +kernel
theorem d_MO_breaks_1 : decode b_MO_breaks 1 = .ok (.ifCond .lt 12, 3) := by decide +kernel
theorem d_MO_breaks_4 : decode b_MO_breaks 4 = .ok (.iload_n 2, 1) := by decide +kernel
theorem d_MO_breaks_5 : decode b_MO_breaks 5 = .ok (.ifCond .lt 8, 3) := by decide +kernel
theorem d_MO_breaks_8 : decode b_MO_breaks 8 = .ok (.iload_n 2, 1) := by decide +kernel
theorem d_MO_breaks_9 : decode b_MO_breaks 9 = .ok (.iconst 2, 1) := by decide +kernel
theorem d_MO_breaks_10 : decode b_MO_breaks 10 = .ok (.if_icmp .le 5, 3) := by decide +kernel
theorem d_MO_breaks_13 : decode b_MO_breaks 13 = .ok (.iconst (-1), 1) := by decide +kernel
theorem d_MO_breaks_14 : decode b_MO_breaks 14 = .ok (.ireturn, 1) := by decide +kernel
theorem d_MO_breaks_15 : decode b_MO_breaks 15 = .ok (.aload_n 0, 1) := by decide +kernel
theorem d_MO_breaks_16 : decode b_MO_breaks 16 = .ok (.iconst (-1), 1) := by decide +kernel
theorem d_MO_breaks_17 : decode b_MO_breaks 17 = .ok (.putfield 212, 3) := by decide +kernel
theorem d_MO_breaks_20 : decode b_MO_breaks 20 = .ok (.aload_n 0, 1) := by decide +kernel
theorem d_MO_breaks_21 : decode b_MO_breaks 21 = .ok (.iload_n 1, 1) := by decide +kernel
theorem d_MO_breaks_22 : decode b_MO_breaks 22 = .ok (.invokevirtual 221, 3) := by decide +kernel
theorem d_MO_breaks_25 : decode b_MO_breaks 25 = .ok (.istore_n 3, 1) := by decide +kernel
theorem d_MO_breaks_26 : decode b_MO_breaks 26 = .ok (.aload_n 0, 1) := by decide +kernel
theorem d_MO_breaks_27 : decode b_MO_breaks 27 = .ok (.getfield 212, 3) := by decide +kernel
theorem d_MO_breaks_30 : decode b_MO_breaks 30 = .ok (.iconst (-1), 1) := by decide +kernel
theorem d_MO_breaks_31 : decode b_MO_breaks 31 = .ok (.if_icmp .ne 7, 3) := by decide +kernel
theorem d_MO_breaks_34 : decode b_MO_breaks 34 = .ok (.iconst (-1), 1) := by decide +kernel
theorem d_MO_breaks_35 : decode b_MO_breaks 35 = .ok (.goto 30, 3) := by decide +kernel
theorem d_MO_breaks_38 : decode b_MO_breaks 38 = .ok (.iload_n 2, 1) := by decide +kernel
theorem d_MO_breaks_39 : decode b_MO_breaks 39 = .ok (.ifCond .ne 10, 3) := by decide +kernel
theorem d_MO_breaks_42 : decode b_MO_breaks 42 = .ok (.aload_n 0, 1) := by decide +kernel
theorem d_MO_breaks_43 : decode b_MO_breaks 43 = .ok (.getfield 212, 3) := by decide +kernel
theorem d_MO_breaks_46 : decode b_MO_breaks 46 = .ok (.goto 19, 3) := by decide +kernel
theorem d_MO_breaks_49 : decode b_MO_breaks 49 = .ok (.iload_n 2, 1) := by decide +kernel
theorem d_MO_breaks_50 : decode b_MO_breaks 50 = .ok (.iconst 1, 1) := by decide +kernel
theorem d_MO_breaks_51 : decode b_MO_breaks 51 = .ok (.if_icmp .ne 10, 3) := by decide +kernel
theorem d_MO_breaks_54 : decode b_MO_breaks 54 = .ok (.aload_n 0, 1) := by decide +kernel
theorem d_MO_breaks_55 : decode b_MO_breaks 55 = .ok (.getfield 215, 3) := by decide +kernel
theorem d_MO_breaks_58 : decode b_MO_breaks 58 = .ok (.goto 7, 3) := by decide +kernel
theorem d_MO_breaks_61 : decode b_MO_breaks 61 = .ok (.aload_n 0, 1) := by decide +kernel
theorem d_MO_breaks_62 : decode b_MO_breaks 62 = .ok (.getfield 218, 3) := by decide +kernel
theorem d_MO_breaks_65 : decode b_MO_breaks 65 = .ok (.ireturn, 1) := by decide +kernel
theorem d_MO_count_0 : decode b_MO_count 0 = .ok (.iload_n 1, 1) := by decide +kernel
theorem d_MO_count_1 : decode b_MO_count 1 = .ok (.tableswitch 70 0 5 #[39, 44, 49, 54, 59, 65], 39) := by decide +kernel
theorem d_MO_count_40 : decode b_MO_count 40 = .ok (.aload_n 0, 1) := by decide +kernel
theorem d_MO_count_41 : decode b_MO_count 41 = .ok (.getfield 133, 3) := by decide +kernel
theorem d_MO_count_44 : decode b_MO_count 44 = .ok (.ireturn, 1) := by decide +kernel
theorem d_MO_count_45 : decode b_MO_count 45 = .ok (.aload_n 0, 1) := by decide +kernel
theorem d_MO_count_46 : decode b_MO_count 46 = .ok (.getfield 162, 3) := by decide +kernel
theorem d_MO_count_49 : decode b_MO_count 49 = .ok (.ireturn, 1) := by decide +kernel
theorem d_MO_count_50 : decode b_MO_count 50 = .ok (.aload_n 0, 1) := by decide +kernel
theorem d_MO_count_51 : decode b_MO_count 51 = .ok (.getfield 165, 3) := by decide +kernel
theorem d_MO_count_54 : decode b_MO_count 54 = .ok (.ireturn, 1) := by decide +kernel
theorem d_MO_count_55 : decode b_MO_count 55 = .ok (.aload_n 0, 1) := by decide +kernel
theorem d_MO_count_56 : decode b_MO_count 56 = .ok (.getfield 136, 3) := by decide +kernel
theorem d_MO_count_59 : decode b_MO_count 59 = .ok (.ireturn, 1) := by decide +kernel
theorem d_MO_count_60 : decode b_MO_count 60 = .ok (.aload_n 0, 1) := by decide +kernel
theorem d_MO_count_61 : decode b_MO_count 61 = .ok (.iconst (-1), 1) := by decide +kernel
theorem d_MO_count_62 : decode b_MO_count 62 = .ok (.invokevirtual 221, 3) := by decide +kernel
theorem d_MO_count_65 : decode b_MO_count 65 = .ok (.ireturn, 1) := by decide +kernel
theorem d_MO_count_66 : decode b_MO_count 66 = .ok (.aload_n 0, 1) := by decide +kernel
theorem d_MO_count_67 : decode b_MO_count 67 = .ok (.getfield 90, 3) := by decide +kernel
theorem d_MO_count_70 : decode b_MO_count 70 = .ok (.ireturn, 1) := by decide +kernel
theorem d_MO_count_71 : decode b_MO_count 71 = .ok (.iconst (-1), 1) := by decide +kernel
theorem d_MO_count_72 : decode b_MO_count 72 = .ok (.ireturn, 1) := by decide +kernel
