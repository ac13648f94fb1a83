def px_nw : List Cond := lw_tbl.filter px_nok
theorem px_nwok : ∀ w ∈ px_nw, px_nok w = true := fun w h => (List.mem_filter.mp h).2
theorem cl_SB : px_Cl px_cl px_tw 0 R_SB F_SB 13 t_SB := ⟨by decide +kernel, by decide +kernel, by decide +kernel, rfl⟩
theorem cl_TX : px_Cl px_cl px_tw 1 R_TX F_TX 2 t_TX := ⟨by decide +kernel, by decide +kernel, by decide +kernel, rfl⟩
theorem cl_RR : px_Cl px_cl px_tw 2 R_RR F_RR 6 t_RR := ⟨by decide +kernel, by decide +kernel, by decide +kernel, rfl⟩
theorem cl_RS : px_Cl px_cl px_tw 3 R_RS F_RS 6 t_RS := ⟨by decide +kernel, by decide +kernel, by decide +kernel, rfl⟩
theorem cl_LE : px_Cl px_cl px_tw 4 R_LE F_LE 5 t_LE := ⟨by decide +kernel, by decide +kernel, by decide +kernel, rfl⟩
theorem cl_RO : px_Cl px_cl px_tw 5 R_RO F_RO 6 t_RO := ⟨by decide +kernel, by decide +kernel, by decide +kernel, rfl⟩
theorem cl_LO : px_Cl px_cl px_tw 6 R_LO F_LO 4 t_LO := ⟨by decide +kernel, by decide +kernel, by decide +kernel, rfl⟩
theorem cl_SH : px_Cl px_cl px_tw 7 R_SH F_SH 9 t_SH := ⟨by decide +kernel, by decide +kernel, by decide +kernel, rfl⟩
theorem cl_BL : px_Cl px_cl px_tw 8 R_BL F_BL 6 t_BL := ⟨by decide +kernel, by decide +kernel, by decide +kernel, rfl⟩
theorem cl_NA : px_Cl px_cl px_tw 9 R_NA F_NA 3 t_NA := ⟨by decide +kernel, by decide +kernel, by decide +kernel, rfl⟩
theorem cl_BO : px_Cl px_cl px_tw 10 R_BO F_BO 5 t_BO := ⟨by decide +kernel, by decide +kernel, by decide +kernel, rfl⟩
theorem cl_MO : px_Cl px_cl px_tw 11 R_MO F_MO 42 t_MO := ⟨by decide +kernel, by decide +kernel, by decide +kernel, rfl⟩
theorem n_114 : Cond.fieldLinkNest R_SB 223 R_LE "pairs" "I" R_SB ∈ px_nw := List.mem_filter.mpr ⟨List.mem_append_right _ (List.mem_of_getElem? (i := 114) (by decide +kernel)), by decide +kernel⟩
theorem n_130 : Cond.methodLinkNest R_SB 50 y_RO_init R_SB ∈ px_nw := List.mem_filter.mpr ⟨List.mem_append_right _ (List.mem_of_getElem? (i := 130) (by decide +kernel)), by decide +kernel⟩
theorem n_136 : Cond.fieldLinkNest R_LO 26 R_RO "ends" "[I" R_SB ∈ px_nw := List.mem_filter.mpr ⟨List.mem_append_right _ (List.mem_of_getElem? (i := 136) (by decide +kernel)), by decide +kernel⟩
theorem n_137 : Cond.fieldLinkNest R_BL 55 R_RO "ends" "[I" R_SB ∈ px_nw := List.mem_filter.mpr ⟨List.mem_append_right _ (List.mem_of_getElem? (i := 137) (by decide +kernel)), by decide +kernel⟩
theorem n_141 : Cond.fieldLinkNest R_LO 52 R_RO "least" "[I" R_SB ∈ px_nw := List.mem_filter.mpr ⟨List.mem_append_right _ (List.mem_of_getElem? (i := 141) (by decide +kernel)), by decide +kernel⟩
theorem n_143 : Cond.fieldLinkNest R_BL 52 R_RO "ways" "I" R_SB ∈ px_nw := List.mem_filter.mpr ⟨List.mem_append_right _ (List.mem_of_getElem? (i := 143) (by decide +kernel)), by decide +kernel⟩
theorem n_144 : Cond.fieldLinkNest R_SB 220 R_RO "ways" "I" R_SB ∈ px_nw := List.mem_filter.mpr ⟨List.mem_append_right _ (List.mem_of_getElem? (i := 144) (by decide +kernel)), by decide +kernel⟩
theorem n_194 : Cond.fieldLinkNest R_SB 194 R_SH "fullWidth" "I" R_SB ∈ px_nw := List.mem_filter.mpr ⟨List.mem_append_right _ (List.mem_of_getElem? (i := 194) (by decide +kernel)), by decide +kernel⟩
theorem n_226 : Cond.fieldLinkNest R_SB 226 R_BL "found" "I" R_SB ∈ px_nw := List.mem_filter.mpr ⟨List.mem_append_right _ (List.mem_of_getElem? (i := 226) (by decide +kernel)), by decide +kernel⟩
theorem n_24 : Cond.methodLinkNest R_SB 9 y_TX_init R_SB ∈ px_nw := List.mem_filter.mpr ⟨List.mem_append_right _ (List.mem_of_getElem? (i := 24) (by decide +kernel)), by decide +kernel⟩
theorem n_241 : Cond.methodLinkNest R_SB 86 y_NA_init R_SB ∈ px_nw := List.mem_filter.mpr ⟨List.mem_append_right _ (List.mem_of_getElem? (i := 241) (by decide +kernel)), by decide +kernel⟩
theorem n_246 : Cond.fieldLinkNest R_SH 81 R_NA "signs" "[I" R_SB ∈ px_nw := List.mem_filter.mpr ⟨List.mem_append_right _ (List.mem_of_getElem? (i := 246) (by decide +kernel)), by decide +kernel⟩
theorem n_247 : Cond.fieldLinkNest R_LE 41 R_NA "signs" "[I" R_SB ∈ px_nw := List.mem_filter.mpr ⟨List.mem_append_right _ (List.mem_of_getElem? (i := 247) (by decide +kernel)), by decide +kernel⟩
theorem n_249 : Cond.fieldLinkNest R_LE 32 R_NA "length" "I" R_SB ∈ px_nw := List.mem_filter.mpr ⟨List.mem_append_right _ (List.mem_of_getElem? (i := 249) (by decide +kernel)), by decide +kernel⟩
theorem n_250 : Cond.fieldLinkNest R_SB 204 R_NA "length" "I" R_SB ∈ px_nw := List.mem_filter.mpr ⟨List.mem_append_right _ (List.mem_of_getElem? (i := 250) (by decide +kernel)), by decide +kernel⟩
theorem n_252 : Cond.fieldLinkNest R_BL 33 R_NA "goalNode" "I" R_SB ∈ px_nw := List.mem_filter.mpr ⟨List.mem_append_right _ (List.mem_of_getElem? (i := 252) (by decide +kernel)), by decide +kernel⟩
theorem n_253 : Cond.fieldLinkNest R_LO 47 R_NA "goalNode" "I" R_SB ∈ px_nw := List.mem_filter.mpr ⟨List.mem_append_right _ (List.mem_of_getElem? (i := 253) (by decide +kernel)), by decide +kernel⟩
theorem n_254 : Cond.fieldLinkNest R_SB 145 R_NA "goalNode" "I" R_SB ∈ px_nw := List.mem_filter.mpr ⟨List.mem_append_right _ (List.mem_of_getElem? (i := 254) (by decide +kernel)), by decide +kernel⟩
theorem n_263 : Cond.methodLinkNest R_SB 87 y_BO_init R_SB ∈ px_nw := List.mem_filter.mpr ⟨List.mem_append_right _ (List.mem_of_getElem? (i := 263) (by decide +kernel)), by decide +kernel⟩
theorem n_268 : Cond.fieldLinkNest R_LO 44 R_BO "lineNames" "[I" R_SB ∈ px_nw := List.mem_filter.mpr ⟨List.mem_append_right _ (List.mem_of_getElem? (i := 268) (by decide +kernel)), by decide +kernel⟩
theorem n_269 : Cond.fieldLinkNest R_SH 92 R_BO "lineNames" "[I" R_SB ∈ px_nw := List.mem_filter.mpr ⟨List.mem_append_right _ (List.mem_of_getElem? (i := 269) (by decide +kernel)), by decide +kernel⟩
theorem n_270 : Cond.fieldLinkNest R_SB 180 R_BO "lineNames" "[I" R_SB ∈ px_nw := List.mem_filter.mpr ⟨List.mem_append_right _ (List.mem_of_getElem? (i := 270) (by decide +kernel)), by decide +kernel⟩
theorem n_272 : Cond.fieldLinkNest R_SH 78 R_BO "arrows" "[I" R_SB ∈ px_nw := List.mem_filter.mpr ⟨List.mem_append_right _ (List.mem_of_getElem? (i := 272) (by decide +kernel)), by decide +kernel⟩
theorem n_274 : Cond.fieldLinkNest R_LO 41 R_BO "lines" "I" R_SB ∈ px_nw := List.mem_filter.mpr ⟨List.mem_append_right _ (List.mem_of_getElem? (i := 274) (by decide +kernel)), by decide +kernel⟩
theorem n_275 : Cond.fieldLinkNest R_SH 48 R_BO "lines" "I" R_SB ∈ px_nw := List.mem_filter.mpr ⟨List.mem_append_right _ (List.mem_of_getElem? (i := 275) (by decide +kernel)), by decide +kernel⟩
theorem n_276 : Cond.fieldLinkNest R_SB 201 R_BO "lines" "I" R_SB ∈ px_nw := List.mem_filter.mpr ⟨List.mem_append_right _ (List.mem_of_getElem? (i := 276) (by decide +kernel)), by decide +kernel⟩
theorem n_277 : Cond.fieldLinkNest R_LO 31 R_BO "standsOn" "I" R_SB ∈ px_nw := List.mem_filter.mpr ⟨List.mem_append_right _ (List.mem_of_getElem? (i := 277) (by decide +kernel)), by decide +kernel⟩
theorem n_278 : Cond.fieldLinkNest R_SB 154 R_BO "standsOn" "I" R_SB ∈ px_nw := List.mem_filter.mpr ⟨List.mem_append_right _ (List.mem_of_getElem? (i := 278) (by decide +kernel)), by decide +kernel⟩
theorem n_279 : Cond.fieldLinkNest R_SH 72 R_BO "leastMm" "I" R_SB ∈ px_nw := List.mem_filter.mpr ⟨List.mem_append_right _ (List.mem_of_getElem? (i := 279) (by decide +kernel)), by decide +kernel⟩
theorem n_280 : Cond.fieldLinkNest R_SB 167 R_BO "leastMm" "I" R_SB ∈ px_nw := List.mem_filter.mpr ⟨List.mem_append_right _ (List.mem_of_getElem? (i := 280) (by decide +kernel)), by decide +kernel⟩
theorem n_30 : Cond.fieldLinkNest R_NA 19 R_TX "length" "I" R_SB ∈ px_nw := List.mem_filter.mpr ⟨List.mem_append_right _ (List.mem_of_getElem? (i := 30) (by decide +kernel)), by decide +kernel⟩
theorem n_31 : Cond.fieldLinkNest R_SB 102 R_TX "length" "I" R_SB ∈ px_nw := List.mem_filter.mpr ⟨List.mem_append_right _ (List.mem_of_getElem? (i := 31) (by decide +kernel)), by decide +kernel⟩
theorem n_375 : Cond.methodLinkNest R_RR 84 y_SB_isWithin R_SB ∈ px_nw := List.mem_filter.mpr ⟨List.mem_append_right _ (List.mem_of_getElem? (i := 375) (by decide +kernel)), by decide +kernel⟩
theorem n_480 : Cond.methodLinkNest R_RO 31 y_SB_isWithin R_SB ∈ px_nw := List.mem_filter.mpr ⟨List.mem_append_right _ (List.mem_of_getElem? (i := 480) (by decide +kernel)), by decide +kernel⟩
theorem n_634 : Cond.methodLinkNest R_BL 42 y_SB_isWithin R_SB ∈ px_nw := List.mem_filter.mpr ⟨List.mem_append_right _ (List.mem_of_getElem? (i := 634) (by decide +kernel)), by decide +kernel⟩
theorem n_80 : Cond.fieldLinkNest R_RR 59 R_RS "steps" "I" R_SB ∈ px_nw := List.mem_filter.mpr ⟨List.mem_append_right _ (List.mem_of_getElem? (i := 80) (by decide +kernel)), by decide +kernel⟩
theorem n_82 : Cond.fieldLinkNest R_SH 40 R_RS "margin" "I" R_SB ∈ px_nw := List.mem_filter.mpr ⟨List.mem_append_right _ (List.mem_of_getElem? (i := 82) (by decide +kernel)), by decide +kernel⟩
theorem n_83 : Cond.fieldLinkNest R_RR 70 R_RS "margin" "I" R_SB ∈ px_nw := List.mem_filter.mpr ⟨List.mem_append_right _ (List.mem_of_getElem? (i := 83) (by decide +kernel)), by decide +kernel⟩
theorem n_85 : Cond.fieldLinkNest R_SH 44 R_RS "gap" "I" R_SB ∈ px_nw := List.mem_filter.mpr ⟨List.mem_append_right _ (List.mem_of_getElem? (i := 85) (by decide +kernel)), by decide +kernel⟩
theorem n_86 : Cond.fieldLinkNest R_RR 73 R_RS "gap" "I" R_SB ∈ px_nw := List.mem_filter.mpr ⟨List.mem_append_right _ (List.mem_of_getElem? (i := 86) (by decide +kernel)), by decide +kernel⟩
theorem n_88 : Cond.fieldLinkNest R_RR 76 R_RS "lineOrder" "I" R_SB ∈ px_nw := List.mem_filter.mpr ⟨List.mem_append_right _ (List.mem_of_getElem? (i := 88) (by decide +kernel)), by decide +kernel⟩
theorem n_89 : Cond.fieldLinkNest R_SB 173 R_RS "lineOrder" "I" R_SB ∈ px_nw := List.mem_filter.mpr ⟨List.mem_append_right _ (List.mem_of_getElem? (i := 89) (by decide +kernel)), by decide +kernel⟩
theorem w_1 : Cond.initialized R_SB ∈ px_tw := List.mem_filter.mpr ⟨List.mem_append_right _ (List.mem_of_getElem? (i := 1) (by decide +kernel)), by decide +kernel⟩
theorem w_10 : Cond.initialized R_NA ∈ px_tw := List.mem_filter.mpr ⟨List.mem_append_right _ (List.mem_of_getElem? (i := 10) (by decide +kernel)), by decide +kernel⟩
theorem w_103 : Cond.classLink R_SB 35 R_LE ∈ px_tw := List.mem_filter.mpr ⟨List.mem_append_right _ (List.mem_of_getElem? (i := 103) (by decide +kernel)), by decide +kernel⟩
theorem w_104 : Cond.instantiable R_LE 5 ∈ px_tw := List.mem_filter.mpr ⟨List.mem_append_right _ (List.mem_of_getElem? (i := 104) (by decide +kernel)), by decide +kernel⟩
theorem w_105 : Cond.methodLink R_SB 37 y_LE_init ∈ px_tw := List.mem_filter.mpr ⟨List.mem_append_right _ (List.mem_of_getElem? (i := 105) (by decide +kernel)), by decide +kernel⟩
theorem w_106 : Cond.instanceMethod y_LE_init ∈ px_tw := List.mem_filter.mpr ⟨List.mem_append_right _ (List.mem_of_getElem? (i := 106) (by decide +kernel)), by decide +kernel⟩
theorem w_107 : Cond.code y_LE_init b_LE_init 2 none ∈ px_tw := List.mem_filter.mpr ⟨List.mem_append_right _ (List.mem_of_getElem? (i := 107) (by decide +kernel)), by decide +kernel⟩
theorem w_108 : Cond.methodLink R_LE 3 objectInit ∈ px_tw := List.mem_filter.mpr ⟨List.mem_append_right _ (List.mem_of_getElem? (i := 108) (by decide +kernel)), by decide +kernel⟩
theorem w_109 : Cond.fieldLink R_LE 9 R_LE "widths" "[I" ∈ px_tw := List.mem_filter.mpr ⟨List.mem_append_right _ (List.mem_of_getElem? (i := 109) (by decide +kernel)), by decide +kernel⟩
theorem w_11 : Cond.initialized R_BO ∈ px_tw := List.mem_filter.mpr ⟨List.mem_append_right _ (List.mem_of_getElem? (i := 11) (by decide +kernel)), by decide +kernel⟩
theorem w_110 : Cond.fieldLink R_LE 15 R_LE "firsts" "[I" ∈ px_tw := List.mem_filter.mpr ⟨List.mem_append_right _ (List.mem_of_getElem? (i := 110) (by decide +kernel)), by decide +kernel⟩
theorem w_111 : Cond.fieldLink R_LE 18 R_LE "seconds" "[I" ∈ px_tw := List.mem_filter.mpr ⟨List.mem_append_right _ (List.mem_of_getElem? (i := 111) (by decide +kernel)), by decide +kernel⟩
theorem w_112 : Cond.fieldLink R_LE 21 R_LE "kerns" "[I" ∈ px_tw := List.mem_filter.mpr ⟨List.mem_append_right _ (List.mem_of_getElem? (i := 112) (by decide +kernel)), by decide +kernel⟩
theorem w_113 : Cond.fieldLink R_LE 28 R_LE "pairs" "I" ∈ px_tw := List.mem_filter.mpr ⟨List.mem_append_right _ (List.mem_of_getElem? (i := 113) (by decide +kernel)), by decide +kernel⟩
theorem w_12 : Cond.initialized R_MO ∈ px_tw := List.mem_filter.mpr ⟨List.mem_append_right _ (List.mem_of_getElem? (i := 12) (by decide +kernel)), by decide +kernel⟩
theorem w_126 : Cond.classLink R_SB 42 R_NA ∈ px_tw := List.mem_filter.mpr ⟨List.mem_append_right _ (List.mem_of_getElem? (i := 126) (by decide +kernel)), by decide +kernel⟩
theorem w_128 : Cond.classLink R_SB 48 R_RO ∈ px_tw := List.mem_filter.mpr ⟨List.mem_append_right _ (List.mem_of_getElem? (i := 128) (by decide +kernel)), by decide +kernel⟩
theorem w_129 : Cond.instantiable R_RO 6 ∈ px_tw := List.mem_filter.mpr ⟨List.mem_append_right _ (List.mem_of_getElem? (i := 129) (by decide +kernel)), by decide +kernel⟩
theorem w_13 : Cond.initialized "java/lang/Math" ∈ px_tw := List.mem_filter.mpr ⟨List.mem_append_right _ (List.mem_of_getElem? (i := 13) (by decide +kernel)), by decide +kernel⟩
theorem w_131 : Cond.instanceMethod y_RO_init ∈ px_tw := List.mem_filter.mpr ⟨List.mem_append_right _ (List.mem_of_getElem? (i := 131) (by decide +kernel)), by decide +kernel⟩
theorem w_132 : Cond.code y_RO_init b_RO_init 1 none ∈ px_tw := List.mem_filter.mpr ⟨List.mem_append_right _ (List.mem_of_getElem? (i := 132) (by decide +kernel)), by decide +kernel⟩
theorem w_133 : Cond.methodLink R_RO 3 objectInit ∈ px_tw := List.mem_filter.mpr ⟨List.mem_append_right _ (List.mem_of_getElem? (i := 133) (by decide +kernel)), by decide +kernel⟩
theorem w_134 : Cond.fieldLink R_RO 9 R_RO "starts" "[I" ∈ px_tw := List.mem_filter.mpr ⟨List.mem_append_right _ (List.mem_of_getElem? (i := 134) (by decide +kernel)), by decide +kernel⟩
theorem w_135 : Cond.fieldLink R_RO 15 R_RO "ends" "[I" ∈ px_tw := List.mem_filter.mpr ⟨List.mem_append_right _ (List.mem_of_getElem? (i := 135) (by decide +kernel)), by decide +kernel⟩
theorem w_138 : Cond.fieldLink R_RO 18 R_RO "lengths" "[I" ∈ px_tw := List.mem_filter.mpr ⟨List.mem_append_right _ (List.mem_of_getElem? (i := 138) (by decide +kernel)), by decide +kernel⟩
theorem w_139 : Cond.fieldLink R_RO 21 R_RO "shown" "[I" ∈ px_tw := List.mem_filter.mpr ⟨List.mem_append_right _ (List.mem_of_getElem? (i := 139) (by decide +kernel)), by decide +kernel⟩
theorem w_140 : Cond.fieldLink R_RO 24 R_RO "least" "[I" ∈ px_tw := List.mem_filter.mpr ⟨List.mem_append_right _ (List.mem_of_getElem? (i := 140) (by decide +kernel)), by decide +kernel⟩
theorem w_142 : Cond.fieldLink R_RO 27 R_RO "ways" "I" ∈ px_tw := List.mem_filter.mpr ⟨List.mem_append_right _ (List.mem_of_getElem? (i := 142) (by decide +kernel)), by decide +kernel⟩
theorem w_158 : Cond.classLink R_SB 55 R_BO ∈ px_tw := List.mem_filter.mpr ⟨List.mem_append_right _ (List.mem_of_getElem? (i := 158) (by decide +kernel)), by decide +kernel⟩
theorem w_160 : Cond.classLink R_SB 61 R_LO ∈ px_tw := List.mem_filter.mpr ⟨List.mem_append_right _ (List.mem_of_getElem? (i := 160) (by decide +kernel)), by decide +kernel⟩
theorem w_161 : Cond.instantiable R_LO 4 ∈ px_tw := List.mem_filter.mpr ⟨List.mem_append_right _ (List.mem_of_getElem? (i := 161) (by decide +kernel)), by decide +kernel⟩
theorem w_162 : Cond.methodLink R_SB 63 y_LO_init ∈ px_tw := List.mem_filter.mpr ⟨List.mem_append_right _ (List.mem_of_getElem? (i := 162) (by decide +kernel)), by decide +kernel⟩
theorem w_163 : Cond.instanceMethod y_LO_init ∈ px_tw := List.mem_filter.mpr ⟨List.mem_append_right _ (List.mem_of_getElem? (i := 163) (by decide +kernel)), by decide +kernel⟩
theorem w_164 : Cond.code y_LO_init b_LO_init 3 none ∈ px_tw := List.mem_filter.mpr ⟨List.mem_append_right _ (List.mem_of_getElem? (i := 164) (by decide +kernel)), by decide +kernel⟩
theorem w_165 : Cond.methodLink R_LO 3 objectInit ∈ px_tw := List.mem_filter.mpr ⟨List.mem_append_right _ (List.mem_of_getElem? (i := 165) (by decide +kernel)), by decide +kernel⟩
theorem w_166 : Cond.fieldLink R_LO 18 R_LO "names" "[LSignBoards$Name;" ∈ px_tw := List.mem_filter.mpr ⟨List.mem_append_right _ (List.mem_of_getElem? (i := 166) (by decide +kernel)), by decide +kernel⟩
theorem w_167 : Cond.fieldLink R_LO 22 R_LO "roads" "LSignBoards$Roads;" ∈ px_tw := List.mem_filter.mpr ⟨List.mem_append_right _ (List.mem_of_getElem? (i := 167) (by decide +kernel)), by decide +kernel⟩
theorem w_168 : Cond.fieldLink R_LO 9 R_LO "sorted" "[I" ∈ px_tw := List.mem_filter.mpr ⟨List.mem_append_right _ (List.mem_of_getElem? (i := 168) (by decide +kernel)), by decide +kernel⟩
theorem w_169 : Cond.fieldLink R_LO 15 R_LO "distances" "[I" ∈ px_tw := List.mem_filter.mpr ⟨List.mem_append_right _ (List.mem_of_getElem? (i := 169) (by decide +kernel)), by decide +kernel⟩
theorem w_179 : Cond.classLink R_SB 70 R_SH ∈ px_tw := List.mem_filter.mpr ⟨List.mem_append_right _ (List.mem_of_getElem? (i := 179) (by decide +kernel)), by decide +kernel⟩
theorem w_180 : Cond.instantiable R_SH 9 ∈ px_tw := List.mem_filter.mpr ⟨List.mem_append_right _ (List.mem_of_getElem? (i := 180) (by decide +kernel)), by decide +kernel⟩
theorem w_181 : Cond.methodLink R_SB 72 y_SH_init ∈ px_tw := List.mem_filter.mpr ⟨List.mem_append_right _ (List.mem_of_getElem? (i := 181) (by decide +kernel)), by decide +kernel⟩
theorem w_182 : Cond.instanceMethod y_SH_init ∈ px_tw := List.mem_filter.mpr ⟨List.mem_append_right _ (List.mem_of_getElem? (i := 182) (by decide +kernel)), by decide +kernel⟩
theorem w_183 : Cond.code y_SH_init b_SH_init 3 none ∈ px_tw := List.mem_filter.mpr ⟨List.mem_append_right _ (List.mem_of_getElem? (i := 183) (by decide +kernel)), by decide +kernel⟩
theorem w_184 : Cond.methodLink R_SH 3 objectInit ∈ px_tw := List.mem_filter.mpr ⟨List.mem_append_right _ (List.mem_of_getElem? (i := 184) (by decide +kernel)), by decide +kernel⟩
theorem w_185 : Cond.fieldLink R_SH 15 R_SH "names" "[LSignBoards$Name;" ∈ px_tw := List.mem_filter.mpr ⟨List.mem_append_right _ (List.mem_of_getElem? (i := 185) (by decide +kernel)), by decide +kernel⟩
theorem w_186 : Cond.fieldLink R_SH 19 R_SH "letters" "LSignBoards$Letters;" ∈ px_tw := List.mem_filter.mpr ⟨List.mem_append_right _ (List.mem_of_getElem? (i := 186) (by decide +kernel)), by decide +kernel⟩
theorem w_187 : Cond.fieldLink R_SH 9 R_SH "fields" "[I" ∈ px_tw := List.mem_filter.mpr ⟨List.mem_append_right _ (List.mem_of_getElem? (i := 187) (by decide +kernel)), by decide +kernel⟩
theorem w_188 : Cond.fieldLink R_SH 23 R_SH "board" "LSignBoards$Board;" ∈ px_tw := List.mem_filter.mpr ⟨List.mem_append_right _ (List.mem_of_getElem? (i := 188) (by decide +kernel)), by decide +kernel⟩
theorem w_189 : Cond.fieldLink R_SH 33 R_SH "mm" "I" ∈ px_tw := List.mem_filter.mpr ⟨List.mem_append_right _ (List.mem_of_getElem? (i := 189) (by decide +kernel)), by decide +kernel⟩
theorem w_19 : Cond.methodLink R_SB 1 objectInit ∈ px_tw := List.mem_filter.mpr ⟨List.mem_append_right _ (List.mem_of_getElem? (i := 19) (by decide +kernel)), by decide +kernel⟩
theorem w_190 : Cond.fieldLink R_SH 37 R_SH "high" "I" ∈ px_tw := List.mem_filter.mpr ⟨List.mem_append_right _ (List.mem_of_getElem? (i := 190) (by decide +kernel)), by decide +kernel⟩
theorem w_191 : Cond.fieldLink R_SH 43 R_SH "margin" "I" ∈ px_tw := List.mem_filter.mpr ⟨List.mem_append_right _ (List.mem_of_getElem? (i := 191) (by decide +kernel)), by decide +kernel⟩
theorem w_192 : Cond.fieldLink R_SH 47 R_SH "gap" "I" ∈ px_tw := List.mem_filter.mpr ⟨List.mem_append_right _ (List.mem_of_getElem? (i := 192) (by decide +kernel)), by decide +kernel⟩
theorem w_193 : Cond.fieldLink R_SH 75 R_SH "fullWidth" "I" ∈ px_tw := List.mem_filter.mpr ⟨List.mem_append_right _ (List.mem_of_getElem? (i := 193) (by decide +kernel)), by decide +kernel⟩
theorem w_2 : Cond.initialized R_TX ∈ px_tw := List.mem_filter.mpr ⟨List.mem_append_right _ (List.mem_of_getElem? (i := 2) (by decide +kernel)), by decide +kernel⟩
theorem w_20 : Cond.instanceMethod objectInit ∈ px_tw := List.mem_filter.mpr ⟨List.mem_append_right _ (List.mem_of_getElem? (i := 20) (by decide +kernel)), by decide +kernel⟩
theorem w_21 : Cond.code objectInit ⟨#[0xb1]⟩ 1 none ∈ px_tw := List.mem_filter.mpr ⟨List.mem_append_right _ (List.mem_of_getElem? (i := 21) (by decide +kernel)), by decide +kernel⟩
theorem w_214 : Cond.classLink R_SB 79 R_BL ∈ px_tw := List.mem_filter.mpr ⟨List.mem_append_right _ (List.mem_of_getElem? (i := 214) (by decide +kernel)), by decide +kernel⟩
theorem w_215 : Cond.instantiable R_BL 6 ∈ px_tw := List.mem_filter.mpr ⟨List.mem_append_right _ (List.mem_of_getElem? (i := 215) (by decide +kernel)), by decide +kernel⟩
theorem w_216 : Cond.methodLink R_SB 81 y_BL_init ∈ px_tw := List.mem_filter.mpr ⟨List.mem_append_right _ (List.mem_of_getElem? (i := 216) (by decide +kernel)), by decide +kernel⟩
theorem w_217 : Cond.instanceMethod y_BL_init ∈ px_tw := List.mem_filter.mpr ⟨List.mem_append_right _ (List.mem_of_getElem? (i := 217) (by decide +kernel)), by decide +kernel⟩
theorem w_218 : Cond.code y_BL_init b_BL_init 3 none ∈ px_tw := List.mem_filter.mpr ⟨List.mem_append_right _ (List.mem_of_getElem? (i := 218) (by decide +kernel)), by decide +kernel⟩
theorem w_219 : Cond.methodLink R_BL 3 objectInit ∈ px_tw := List.mem_filter.mpr ⟨List.mem_append_right _ (List.mem_of_getElem? (i := 219) (by decide +kernel)), by decide +kernel⟩
theorem w_22 : Cond.classLink R_SB 7 R_TX ∈ px_tw := List.mem_filter.mpr ⟨List.mem_append_right _ (List.mem_of_getElem? (i := 22) (by decide +kernel)), by decide +kernel⟩
theorem w_220 : Cond.fieldLink R_BL 21 R_BL "names" "[LSignBoards$Name;" ∈ px_tw := List.mem_filter.mpr ⟨List.mem_append_right _ (List.mem_of_getElem? (i := 220) (by decide +kernel)), by decide +kernel⟩
theorem w_221 : Cond.fieldLink R_BL 25 R_BL "roads" "LSignBoards$Roads;" ∈ px_tw := List.mem_filter.mpr ⟨List.mem_append_right _ (List.mem_of_getElem? (i := 221) (by decide +kernel)), by decide +kernel⟩
theorem w_222 : Cond.fieldLink R_BL 11 R_BL "brokenNames" "[I" ∈ px_tw := List.mem_filter.mpr ⟨List.mem_append_right _ (List.mem_of_getElem? (i := 222) (by decide +kernel)), by decide +kernel⟩
theorem w_223 : Cond.fieldLink R_BL 15 R_BL "brokenWays" "[I" ∈ px_tw := List.mem_filter.mpr ⟨List.mem_append_right _ (List.mem_of_getElem? (i := 223) (by decide +kernel)), by decide +kernel⟩
theorem w_224 : Cond.fieldLink R_BL 18 R_BL "kinds" "[I" ∈ px_tw := List.mem_filter.mpr ⟨List.mem_append_right _ (List.mem_of_getElem? (i := 224) (by decide +kernel)), by decide +kernel⟩
theorem w_225 : Cond.fieldLink R_BL 29 R_BL "found" "I" ∈ px_tw := List.mem_filter.mpr ⟨List.mem_append_right _ (List.mem_of_getElem? (i := 225) (by decide +kernel)), by decide +kernel⟩
theorem w_23 : Cond.instantiable R_TX 2 ∈ px_tw := List.mem_filter.mpr ⟨List.mem_append_right _ (List.mem_of_getElem? (i := 23) (by decide +kernel)), by decide +kernel⟩
theorem w_240 : Cond.instantiable R_NA 3 ∈ px_tw := List.mem_filter.mpr ⟨List.mem_append_right _ (List.mem_of_getElem? (i := 240) (by decide +kernel)), by decide +kernel⟩
theorem w_242 : Cond.instanceMethod y_NA_init ∈ px_tw := List.mem_filter.mpr ⟨List.mem_append_right _ (List.mem_of_getElem? (i := 242) (by decide +kernel)), by decide +kernel⟩
theorem w_243 : Cond.code y_NA_init b_NA_init 1 none ∈ px_tw := List.mem_filter.mpr ⟨List.mem_append_right _ (List.mem_of_getElem? (i := 243) (by decide +kernel)), by decide +kernel⟩
theorem w_244 : Cond.methodLink R_NA 3 objectInit ∈ px_tw := List.mem_filter.mpr ⟨List.mem_append_right _ (List.mem_of_getElem? (i := 244) (by decide +kernel)), by decide +kernel⟩
theorem w_245 : Cond.fieldLink R_NA 9 R_NA "signs" "[I" ∈ px_tw := List.mem_filter.mpr ⟨List.mem_append_right _ (List.mem_of_getElem? (i := 245) (by decide +kernel)), by decide +kernel⟩
theorem w_248 : Cond.fieldLink R_NA 24 R_NA "length" "I" ∈ px_tw := List.mem_filter.mpr ⟨List.mem_append_right _ (List.mem_of_getElem? (i := 248) (by decide +kernel)), by decide +kernel⟩
theorem w_25 : Cond.instanceMethod y_TX_init ∈ px_tw := List.mem_filter.mpr ⟨List.mem_append_right _ (List.mem_of_getElem? (i := 25) (by decide +kernel)), by decide +kernel⟩
theorem w_251 : Cond.fieldLink R_NA 15 R_NA "goalNode" "I" ∈ px_tw := List.mem_filter.mpr ⟨List.mem_append_right _ (List.mem_of_getElem? (i := 251) (by decide +kernel)), by decide +kernel⟩
theorem w_26 : Cond.code y_TX_init b_TX_init 1 none ∈ px_tw := List.mem_filter.mpr ⟨List.mem_append_right _ (List.mem_of_getElem? (i := 26) (by decide +kernel)), by decide +kernel⟩
theorem w_262 : Cond.instantiable R_BO 5 ∈ px_tw := List.mem_filter.mpr ⟨List.mem_append_right _ (List.mem_of_getElem? (i := 262) (by decide +kernel)), by decide +kernel⟩
theorem w_264 : Cond.instanceMethod y_BO_init ∈ px_tw := List.mem_filter.mpr ⟨List.mem_append_right _ (List.mem_of_getElem? (i := 264) (by decide +kernel)), by decide +kernel⟩
theorem w_265 : Cond.code y_BO_init b_BO_init 1 none ∈ px_tw := List.mem_filter.mpr ⟨List.mem_append_right _ (List.mem_of_getElem? (i := 265) (by decide +kernel)), by decide +kernel⟩
theorem w_266 : Cond.methodLink R_BO 3 objectInit ∈ px_tw := List.mem_filter.mpr ⟨List.mem_append_right _ (List.mem_of_getElem? (i := 266) (by decide +kernel)), by decide +kernel⟩
theorem w_267 : Cond.fieldLink R_BO 9 R_BO "lineNames" "[I" ∈ px_tw := List.mem_filter.mpr ⟨List.mem_append_right _ (List.mem_of_getElem? (i := 267) (by decide +kernel)), by decide +kernel⟩
theorem w_27 : Cond.methodLink R_TX 3 objectInit ∈ px_tw := List.mem_filter.mpr ⟨List.mem_append_right _ (List.mem_of_getElem? (i := 27) (by decide +kernel)), by decide +kernel⟩
theorem w_271 : Cond.fieldLink R_BO 15 R_BO "arrows" "[I" ∈ px_tw := List.mem_filter.mpr ⟨List.mem_append_right _ (List.mem_of_getElem? (i := 271) (by decide +kernel)), by decide +kernel⟩
theorem w_273 : Cond.fieldLink R_BO 18 R_BO "lines" "I" ∈ px_tw := List.mem_filter.mpr ⟨List.mem_append_right _ (List.mem_of_getElem? (i := 273) (by decide +kernel)), by decide +kernel⟩
theorem w_28 : Cond.fieldLink R_TX 9 R_TX "signs" "[I" ∈ px_tw := List.mem_filter.mpr ⟨List.mem_append_right _ (List.mem_of_getElem? (i := 28) (by decide +kernel)), by decide +kernel⟩
theorem w_29 : Cond.fieldLink R_TX 15 R_TX "length" "I" ∈ px_tw := List.mem_filter.mpr ⟨List.mem_append_right _ (List.mem_of_getElem? (i := 29) (by decide +kernel)), by decide +kernel⟩
theorem w_292 : Cond.fieldLink R_SB 10 R_SB "text" "LSignBoards$Text;" ∈ px_tw := List.mem_filter.mpr ⟨List.mem_append_right _ (List.mem_of_getElem? (i := 292) (by decide +kernel)), by decide +kernel⟩
theorem w_293 : Cond.fieldLink R_SB 21 R_SB "reader" "LSignBoards$RuleReader;" ∈ px_tw := List.mem_filter.mpr ⟨List.mem_append_right _ (List.mem_of_getElem? (i := 293) (by decide +kernel)), by decide +kernel⟩
theorem w_294 : Cond.fieldLink R_SB 28 R_SB "inForce" "LSignBoards$RuleSet;" ∈ px_tw := List.mem_filter.mpr ⟨List.mem_append_right _ (List.mem_of_getElem? (i := 294) (by decide +kernel)), by decide +kernel⟩
theorem w_295 : Cond.fieldLink R_SB 32 R_SB "draft" "LSignBoards$RuleSet;" ∈ px_tw := List.mem_filter.mpr ⟨List.mem_append_right _ (List.mem_of_getElem? (i := 295) (by decide +kernel)), by decide +kernel⟩
theorem w_296 : Cond.fieldLink R_SB 38 R_SB "letters" "LSignBoards$Letters;" ∈ px_tw := List.mem_filter.mpr ⟨List.mem_append_right _ (List.mem_of_getElem? (i := 296) (by decide +kernel)), by decide +kernel⟩
theorem w_297 : Cond.fieldLink R_SB 44 R_SB "names" "[LSignBoards$Name;" ∈ px_tw := List.mem_filter.mpr ⟨List.mem_append_right _ (List.mem_of_getElem? (i := 297) (by decide +kernel)), by decide +kernel⟩
theorem w_298 : Cond.fieldLink R_SB 106 R_SB "nameCount" "I" ∈ px_tw := List.mem_filter.mpr ⟨List.mem_append_right _ (List.mem_of_getElem? (i := 298) (by decide +kernel)), by decide +kernel⟩
theorem w_299 : Cond.fieldLink R_SB 51 R_SB "roads" "LSignBoards$Roads;" ∈ px_tw := List.mem_filter.mpr ⟨List.mem_append_right _ (List.mem_of_getElem? (i := 299) (by decide +kernel)), by decide +kernel⟩
theorem w_3 : Cond.initialized R_RR ∈ px_tw := List.mem_filter.mpr ⟨List.mem_append_right _ (List.mem_of_getElem? (i := 3) (by decide +kernel)), by decide +kernel⟩
theorem w_300 : Cond.fieldLink R_SB 57 R_SB "boards" "[LSignBoards$Board;" ∈ px_tw := List.mem_filter.mpr ⟨List.mem_append_right _ (List.mem_of_getElem? (i := 300) (by decide +kernel)), by decide +kernel⟩
theorem w_301 : Cond.fieldLink R_SB 151 R_SB "boardCount" "I" ∈ px_tw := List.mem_filter.mpr ⟨List.mem_append_right _ (List.mem_of_getElem? (i := 301) (by decide +kernel)), by decide +kernel⟩
theorem w_302 : Cond.fieldLink R_SB 66 R_SB "order" "LSignBoards$LineOrder;" ∈ px_tw := List.mem_filter.mpr ⟨List.mem_append_right _ (List.mem_of_getElem? (i := 302) (by decide +kernel)), by decide +kernel⟩
theorem w_303 : Cond.fieldLink R_SB 75 R_SB "sheet" "LSignBoards$Sheet;" ∈ px_tw := List.mem_filter.mpr ⟨List.mem_append_right _ (List.mem_of_getElem? (i := 303) (by decide +kernel)), by decide +kernel⟩
theorem w_304 : Cond.fieldLink R_SB 82 R_SB "breakList" "LSignBoards$BreakList;" ∈ px_tw := List.mem_filter.mpr ⟨List.mem_append_right _ (List.mem_of_getElem? (i := 304) (by decide +kernel)), by decide +kernel⟩
theorem w_336 : Cond.methodLink R_SB 88 y_SB_isLetter ∈ px_tw := List.mem_filter.mpr ⟨List.mem_append_right _ (List.mem_of_getElem? (i := 336) (by decide +kernel)), by decide +kernel⟩
theorem w_337 : Cond.static y_SB_isLetter ∈ px_tw := List.mem_filter.mpr ⟨List.mem_append_right _ (List.mem_of_getElem? (i := 337) (by decide +kernel)), by decide +kernel⟩
theorem w_338 : Cond.code y_SB_isLetter b_SB_isLetter 1 (some .boolean) ∈ px_tw := List.mem_filter.mpr ⟨List.mem_append_right _ (List.mem_of_getElem? (i := 338) (by decide +kernel)), by decide +kernel⟩
theorem w_339 : Cond.methodLink R_SB 112 y_SB_isWithin ∈ px_tw := List.mem_filter.mpr ⟨List.mem_append_right _ (List.mem_of_getElem? (i := 339) (by decide +kernel)), by decide +kernel⟩
theorem w_340 : Cond.static y_SB_isWithin ∈ px_tw := List.mem_filter.mpr ⟨List.mem_append_right _ (List.mem_of_getElem? (i := 340) (by decide +kernel)), by decide +kernel⟩
theorem w_341 : Cond.code y_SB_isWithin b_SB_isWithin 3 (some .boolean) ∈ px_tw := List.mem_filter.mpr ⟨List.mem_append_right _ (List.mem_of_getElem? (i := 341) (by decide +kernel)), by decide +kernel⟩
theorem w_342 : Cond.methodLink R_SB 92 y_TX_add ∈ px_tw := List.mem_filter.mpr ⟨List.mem_append_right _ (List.mem_of_getElem? (i := 342) (by decide +kernel)), by decide +kernel⟩
theorem w_343 : Cond.instanceMethod y_TX_add ∈ px_tw := List.mem_filter.mpr ⟨List.mem_append_right _ (List.mem_of_getElem? (i := 343) (by decide +kernel)), by decide +kernel⟩
theorem w_344 : Cond.selects R_TX y_TX_add y_TX_add ∈ px_tw := List.mem_filter.mpr ⟨List.mem_append_right _ (List.mem_of_getElem? (i := 344) (by decide +kernel)), by decide +kernel⟩
theorem w_345 : Cond.code y_TX_add b_TX_add 2 (some .boolean) ∈ px_tw := List.mem_filter.mpr ⟨List.mem_append_right _ (List.mem_of_getElem? (i := 345) (by decide +kernel)), by decide +kernel⟩
theorem w_350 : Cond.methodLink R_SB 95 y_RR_read ∈ px_tw := List.mem_filter.mpr ⟨List.mem_append_right _ (List.mem_of_getElem? (i := 350) (by decide +kernel)), by decide +kernel⟩
theorem w_351 : Cond.instanceMethod y_RR_read ∈ px_tw := List.mem_filter.mpr ⟨List.mem_append_right _ (List.mem_of_getElem? (i := 351) (by decide +kernel)), by decide +kernel⟩
theorem w_352 : Cond.selects R_RR y_RR_read y_RR_read ∈ px_tw := List.mem_filter.mpr ⟨List.mem_append_right _ (List.mem_of_getElem? (i := 352) (by decide +kernel)), by decide +kernel⟩
theorem w_353 : Cond.code y_RR_read b_RR_read 3 (some .int) ∈ px_tw := List.mem_filter.mpr ⟨List.mem_append_right _ (List.mem_of_getElem? (i := 353) (by decide +kernel)), by decide +kernel⟩
theorem w_354 : Cond.methodLink R_RR 19 y_RS_setAsAtFirst ∈ px_tw := List.mem_filter.mpr ⟨List.mem_append_right _ (List.mem_of_getElem? (i := 354) (by decide +kernel)), by decide +kernel⟩
theorem w_355 : Cond.methodLink R_RR 38 y_RR_readRule ∈ px_tw := List.mem_filter.mpr ⟨List.mem_append_right _ (List.mem_of_getElem? (i := 355) (by decide +kernel)), by decide +kernel⟩
theorem w_357 : Cond.instanceMethod y_RR_readRule ∈ px_tw := List.mem_filter.mpr ⟨List.mem_append_right _ (List.mem_of_getElem? (i := 357) (by decide +kernel)), by decide +kernel⟩
theorem w_358 : Cond.code y_RR_readRule b_RR_readRule 1 (some .boolean) ∈ px_tw := List.mem_filter.mpr ⟨List.mem_append_right _ (List.mem_of_getElem? (i := 358) (by decide +kernel)), by decide +kernel⟩
theorem w_359 : Cond.methodLink R_RR 42 y_RR_nextSign ∈ px_tw := List.mem_filter.mpr ⟨List.mem_append_right _ (List.mem_of_getElem? (i := 359) (by decide +kernel)), by decide +kernel⟩
theorem w_361 : Cond.instanceMethod y_RR_nextSign ∈ px_tw := List.mem_filter.mpr ⟨List.mem_append_right _ (List.mem_of_getElem? (i := 361) (by decide +kernel)), by decide +kernel⟩
theorem w_362 : Cond.code y_RR_nextSign b_RR_nextSign 1 (some .int) ∈ px_tw := List.mem_filter.mpr ⟨List.mem_append_right _ (List.mem_of_getElem? (i := 362) (by decide +kernel)), by decide +kernel⟩
theorem w_363 : Cond.methodLink R_RR 79 y_TX_signAt ∈ px_tw := List.mem_filter.mpr ⟨List.mem_append_right _ (List.mem_of_getElem? (i := 363) (by decide +kernel)), by decide +kernel⟩
theorem w_364 : Cond.instanceMethod y_TX_signAt ∈ px_tw := List.mem_filter.mpr ⟨List.mem_append_right _ (List.mem_of_getElem? (i := 364) (by decide +kernel)), by decide +kernel⟩
theorem w_365 : Cond.selects R_TX y_TX_signAt y_TX_signAt ∈ px_tw := List.mem_filter.mpr ⟨List.mem_append_right _ (List.mem_of_getElem? (i := 365) (by decide +kernel)), by decide +kernel⟩
theorem w_366 : Cond.code y_TX_signAt b_TX_signAt 2 (some .int) ∈ px_tw := List.mem_filter.mpr ⟨List.mem_append_right _ (List.mem_of_getElem? (i := 366) (by decide +kernel)), by decide +kernel⟩
theorem w_367 : Cond.methodLink R_RR 50 y_RR_readHeights ∈ px_tw := List.mem_filter.mpr ⟨List.mem_append_right _ (List.mem_of_getElem? (i := 367) (by decide +kernel)), by decide +kernel⟩
theorem w_369 : Cond.instanceMethod y_RR_readHeights ∈ px_tw := List.mem_filter.mpr ⟨List.mem_append_right _ (List.mem_of_getElem? (i := 369) (by decide +kernel)), by decide +kernel⟩
theorem w_37 : Cond.arrayClass .int ∈ px_tw := List.mem_filter.mpr ⟨List.mem_append_right _ (List.mem_of_getElem? (i := 37) (by decide +kernel)), by decide +kernel⟩
theorem w_370 : Cond.code y_RR_readHeights b_RR_readHeights 4 (some .boolean) ∈ px_tw := List.mem_filter.mpr ⟨List.mem_append_right _ (List.mem_of_getElem? (i := 370) (by decide +kernel)), by decide +kernel⟩
theorem w_371 : Cond.methodLink R_RR 62 y_RR_readNumber ∈ px_tw := List.mem_filter.mpr ⟨List.mem_append_right _ (List.mem_of_getElem? (i := 371) (by decide +kernel)), by decide +kernel⟩
theorem w_373 : Cond.instanceMethod y_RR_readNumber ∈ px_tw := List.mem_filter.mpr ⟨List.mem_append_right _ (List.mem_of_getElem? (i := 373) (by decide +kernel)), by decide +kernel⟩
theorem w_374 : Cond.code y_RR_readNumber b_RR_readNumber 7 (some .int) ∈ px_tw := List.mem_filter.mpr ⟨List.mem_append_right _ (List.mem_of_getElem? (i := 374) (by decide +kernel)), by decide +kernel⟩
theorem w_376 : Cond.methodLink R_RR 88 Lib.Math.min.name ∈ px_tw := List.mem_filter.mpr ⟨List.mem_append_right _ (List.mem_of_getElem? (i := 376) (by decide +kernel)), by decide +kernel⟩
theorem w_377 : Cond.static Lib.Math.min.name ∈ px_tw := List.mem_filter.mpr ⟨List.mem_append_right _ (List.mem_of_getElem? (i := 377) (by decide +kernel)), by decide +kernel⟩
theorem w_378 : Cond.code Lib.Math.min.name Lib.Math.min.code 2 (some .int) ∈ px_tw := List.mem_filter.mpr ⟨List.mem_append_right _ (List.mem_of_getElem? (i := 378) (by decide +kernel)), by decide +kernel⟩
theorem w_379 : Cond.methodLink R_RR 66 y_RS_addStep ∈ px_tw := List.mem_filter.mpr ⟨List.mem_append_right _ (List.mem_of_getElem? (i := 379) (by decide +kernel)), by decide +kernel⟩
theorem w_38 : Cond.classLink R_SB 16 R_RR ∈ px_tw := List.mem_filter.mpr ⟨List.mem_append_right _ (List.mem_of_getElem? (i := 38) (by decide +kernel)), by decide +kernel⟩
theorem w_380 : Cond.methodLink R_RR 46 y_RR_pass ∈ px_tw := List.mem_filter.mpr ⟨List.mem_append_right _ (List.mem_of_getElem? (i := 380) (by decide +kernel)), by decide +kernel⟩
theorem w_382 : Cond.instanceMethod y_RR_pass ∈ px_tw := List.mem_filter.mpr ⟨List.mem_append_right _ (List.mem_of_getElem? (i := 382) (by decide +kernel)), by decide +kernel⟩
theorem w_383 : Cond.code y_RR_pass b_RR_pass 2 (some .boolean) ∈ px_tw := List.mem_filter.mpr ⟨List.mem_append_right _ (List.mem_of_getElem? (i := 383) (by decide +kernel)), by decide +kernel⟩
theorem w_384 : Cond.methodLink R_RR 53 y_RR_readMargin ∈ px_tw := List.mem_filter.mpr ⟨List.mem_append_right _ (List.mem_of_getElem? (i := 384) (by decide +kernel)), by decide +kernel⟩
theorem w_386 : Cond.instanceMethod y_RR_readMargin ∈ px_tw := List.mem_filter.mpr ⟨List.mem_append_right _ (List.mem_of_getElem? (i := 386) (by decide +kernel)), by decide +kernel⟩
theorem w_387 : Cond.code y_RR_readMargin b_RR_readMargin 3 (some .boolean) ∈ px_tw := List.mem_filter.mpr ⟨List.mem_append_right _ (List.mem_of_getElem? (i := 387) (by decide +kernel)), by decide +kernel⟩
theorem w_388 : Cond.methodLink R_RR 56 y_RR_readOrder ∈ px_tw := List.mem_filter.mpr ⟨List.mem_append_right _ (List.mem_of_getElem? (i := 388) (by decide +kernel)), by decide +kernel⟩
theorem w_39 : Cond.instantiable R_RR 6 ∈ px_tw := List.mem_filter.mpr ⟨List.mem_append_right _ (List.mem_of_getElem? (i := 39) (by decide +kernel)), by decide +kernel⟩
theorem w_390 : Cond.instanceMethod y_RR_readOrder ∈ px_tw := List.mem_filter.mpr ⟨List.mem_append_right _ (List.mem_of_getElem? (i := 390) (by decide +kernel)), by decide +kernel⟩
theorem w_391 : Cond.code y_RR_readOrder b_RR_readOrder 2 (some .boolean) ∈ px_tw := List.mem_filter.mpr ⟨List.mem_append_right _ (List.mem_of_getElem? (i := 391) (by decide +kernel)), by decide +kernel⟩
theorem w_392 : Cond.methodLink R_SB 99 y_TX_clear ∈ px_tw := List.mem_filter.mpr ⟨List.mem_append_right _ (List.mem_of_getElem? (i := 392) (by decide +kernel)), by decide +kernel⟩
theorem w_393 : Cond.instanceMethod y_TX_clear ∈ px_tw := List.mem_filter.mpr ⟨List.mem_append_right _ (List.mem_of_getElem? (i := 393) (by decide +kernel)), by decide +kernel⟩
theorem w_394 : Cond.selects R_TX y_TX_clear y_TX_clear ∈ px_tw := List.mem_filter.mpr ⟨List.mem_append_right _ (List.mem_of_getElem? (i := 394) (by decide +kernel)), by decide +kernel⟩
theorem w_395 : Cond.code y_TX_clear b_TX_clear 1 none ∈ px_tw := List.mem_filter.mpr ⟨List.mem_append_right _ (List.mem_of_getElem? (i := 395) (by decide +kernel)), by decide +kernel⟩
theorem w_4 : Cond.initialized R_RS ∈ px_tw := List.mem_filter.mpr ⟨List.mem_append_right _ (List.mem_of_getElem? (i := 4) (by decide +kernel)), by decide +kernel⟩
theorem w_40 : Cond.methodLink R_SB 18 y_RR_init ∈ px_tw := List.mem_filter.mpr ⟨List.mem_append_right _ (List.mem_of_getElem? (i := 40) (by decide +kernel)), by decide +kernel⟩
theorem w_400 : Cond.methodLink R_SB 109 y_NA_take ∈ px_tw := List.mem_filter.mpr ⟨List.mem_append_right _ (List.mem_of_getElem? (i := 400) (by decide +kernel)), by decide +kernel⟩
theorem w_401 : Cond.instanceMethod y_NA_take ∈ px_tw := List.mem_filter.mpr ⟨List.mem_append_right _ (List.mem_of_getElem? (i := 401) (by decide +kernel)), by decide +kernel⟩
theorem w_402 : Cond.selects R_NA y_NA_take y_NA_take ∈ px_tw := List.mem_filter.mpr ⟨List.mem_append_right _ (List.mem_of_getElem? (i := 402) (by decide +kernel)), by decide +kernel⟩
theorem w_403 : Cond.code y_NA_take b_NA_take 3 none ∈ px_tw := List.mem_filter.mpr ⟨List.mem_append_right _ (List.mem_of_getElem? (i := 403) (by decide +kernel)), by decide +kernel⟩
theorem w_404 : Cond.methodLink R_NA 25 y_TX_signAt ∈ px_tw := List.mem_filter.mpr ⟨List.mem_append_right _ (List.mem_of_getElem? (i := 404) (by decide +kernel)), by decide +kernel⟩
theorem w_409 : Cond.methodLink R_SB 116 y_LE_setWidth ∈ px_tw := List.mem_filter.mpr ⟨List.mem_append_right _ (List.mem_of_getElem? (i := 409) (by decide +kernel)), by decide +kernel⟩
theorem w_41 : Cond.instanceMethod y_RR_init ∈ px_tw := List.mem_filter.mpr ⟨List.mem_append_right _ (List.mem_of_getElem? (i := 41) (by decide +kernel)), by decide +kernel⟩
theorem w_410 : Cond.instanceMethod y_LE_setWidth ∈ px_tw := List.mem_filter.mpr ⟨List.mem_append_right _ (List.mem_of_getElem? (i := 410) (by decide +kernel)), by decide +kernel⟩
theorem w_411 : Cond.selects R_LE y_LE_setWidth y_LE_setWidth ∈ px_tw := List.mem_filter.mpr ⟨List.mem_append_right _ (List.mem_of_getElem? (i := 411) (by decide +kernel)), by decide +kernel⟩
theorem w_412 : Cond.code y_LE_setWidth b_LE_setWidth 3 none ∈ px_tw := List.mem_filter.mpr ⟨List.mem_append_right _ (List.mem_of_getElem? (i := 412) (by decide +kernel)), by decide +kernel⟩
theorem w_417 : Cond.methodLink R_SB 120 y_LE_setKern ∈ px_tw := List.mem_filter.mpr ⟨List.mem_append_right _ (List.mem_of_getElem? (i := 417) (by decide +kernel)), by decide +kernel⟩
theorem w_418 : Cond.instanceMethod y_LE_setKern ∈ px_tw := List.mem_filter.mpr ⟨List.mem_append_right _ (List.mem_of_getElem? (i := 418) (by decide +kernel)), by decide +kernel⟩
theorem w_419 : Cond.selects R_LE y_LE_setKern y_LE_setKern ∈ px_tw := List.mem_filter.mpr ⟨List.mem_append_right _ (List.mem_of_getElem? (i := 419) (by decide +kernel)), by decide +kernel⟩
theorem w_42 : Cond.code y_RR_init b_RR_init 2 none ∈ px_tw := List.mem_filter.mpr ⟨List.mem_append_right _ (List.mem_of_getElem? (i := 42) (by decide +kernel)), by decide +kernel⟩
theorem w_420 : Cond.code y_LE_setKern b_LE_setKern 5 (some .boolean) ∈ px_tw := List.mem_filter.mpr ⟨List.mem_append_right _ (List.mem_of_getElem? (i := 420) (by decide +kernel)), by decide +kernel⟩
theorem w_421 : Cond.methodLink R_LE 24 y_LE_pairOf ∈ px_tw := List.mem_filter.mpr ⟨List.mem_append_right _ (List.mem_of_getElem? (i := 421) (by decide +kernel)), by decide +kernel⟩
theorem w_423 : Cond.instanceMethod y_LE_pairOf ∈ px_tw := List.mem_filter.mpr ⟨List.mem_append_right _ (List.mem_of_getElem? (i := 423) (by decide +kernel)), by decide +kernel⟩
theorem w_424 : Cond.code y_LE_pairOf b_LE_pairOf 4 (some .int) ∈ px_tw := List.mem_filter.mpr ⟨List.mem_append_right _ (List.mem_of_getElem? (i := 424) (by decide +kernel)), by decide +kernel⟩
theorem w_429 : Cond.methodLink R_SB 123 y_SB_isSpeed ∈ px_tw := List.mem_filter.mpr ⟨List.mem_append_right _ (List.mem_of_getElem? (i := 429) (by decide +kernel)), by decide +kernel⟩
theorem w_43 : Cond.methodLink R_RR 3 objectInit ∈ px_tw := List.mem_filter.mpr ⟨List.mem_append_right _ (List.mem_of_getElem? (i := 43) (by decide +kernel)), by decide +kernel⟩
theorem w_430 : Cond.static y_SB_isSpeed ∈ px_tw := List.mem_filter.mpr ⟨List.mem_append_right _ (List.mem_of_getElem? (i := 430) (by decide +kernel)), by decide +kernel⟩
theorem w_431 : Cond.code y_SB_isSpeed b_SB_isSpeed 1 (some .boolean) ∈ px_tw := List.mem_filter.mpr ⟨List.mem_append_right _ (List.mem_of_getElem? (i := 431) (by decide +kernel)), by decide +kernel⟩
theorem w_432 : Cond.methodLink R_SB 126 y_RS_heightAt ∈ px_tw := List.mem_filter.mpr ⟨List.mem_append_right _ (List.mem_of_getElem? (i := 432) (by decide +kernel)), by decide +kernel⟩
theorem w_433 : Cond.instanceMethod y_RS_heightAt ∈ px_tw := List.mem_filter.mpr ⟨List.mem_append_right _ (List.mem_of_getElem? (i := 433) (by decide +kernel)), by decide +kernel⟩
theorem w_434 : Cond.selects R_RS y_RS_heightAt y_RS_heightAt ∈ px_tw := List.mem_filter.mpr ⟨List.mem_append_right _ (List.mem_of_getElem? (i := 434) (by decide +kernel)), by decide +kernel⟩
theorem w_435 : Cond.code y_RS_heightAt b_RS_heightAt 4 (some .int) ∈ px_tw := List.mem_filter.mpr ⟨List.mem_append_right _ (List.mem_of_getElem? (i := 435) (by decide +kernel)), by decide +kernel⟩
theorem w_44 : Cond.fieldLink R_RR 9 R_RR "text" "LSignBoards$Text;" ∈ px_tw := List.mem_filter.mpr ⟨List.mem_append_right _ (List.mem_of_getElem? (i := 44) (by decide +kernel)), by decide +kernel⟩
theorem w_440 : Cond.methodLink R_SB 130 y_SB_isName ∈ px_tw := List.mem_filter.mpr ⟨List.mem_append_right _ (List.mem_of_getElem? (i := 440) (by decide +kernel)), by decide +kernel⟩
theorem w_442 : Cond.instanceMethod y_SB_isName ∈ px_tw := List.mem_filter.mpr ⟨List.mem_append_right _ (List.mem_of_getElem? (i := 442) (by decide +kernel)), by decide +kernel⟩
theorem w_443 : Cond.code y_SB_isName b_SB_isName 2 (some .boolean) ∈ px_tw := List.mem_filter.mpr ⟨List.mem_append_right _ (List.mem_of_getElem? (i := 443) (by decide +kernel)), by decide +kernel⟩
theorem w_444 : Cond.methodLink R_SB 133 y_LE_fieldOf ∈ px_tw := List.mem_filter.mpr ⟨List.mem_append_right _ (List.mem_of_getElem? (i := 444) (by decide +kernel)), by decide +kernel⟩
theorem w_445 : Cond.instanceMethod y_LE_fieldOf ∈ px_tw := List.mem_filter.mpr ⟨List.mem_append_right _ (List.mem_of_getElem? (i := 445) (by decide +kernel)), by decide +kernel⟩
theorem w_446 : Cond.selects R_LE y_LE_fieldOf y_LE_fieldOf ∈ px_tw := List.mem_filter.mpr ⟨List.mem_append_right _ (List.mem_of_getElem? (i := 446) (by decide +kernel)), by decide +kernel⟩
theorem w_447 : Cond.code y_LE_fieldOf b_LE_fieldOf 2 (some .int) ∈ px_tw := List.mem_filter.mpr ⟨List.mem_append_right _ (List.mem_of_getElem? (i := 447) (by decide +kernel)), by decide +kernel⟩
theorem w_448 : Cond.methodLink R_LE 37 y_LE_startOf ∈ px_tw := List.mem_filter.mpr ⟨List.mem_append_right _ (List.mem_of_getElem? (i := 448) (by decide +kernel)), by decide +kernel⟩
theorem w_449 : Cond.instanceMethod y_LE_startOf ∈ px_tw := List.mem_filter.mpr ⟨List.mem_append_right _ (List.mem_of_getElem? (i := 449) (by decide +kernel)), by decide +kernel⟩
theorem w_45 : Cond.fieldLink R_RR 15 R_RR "target" "LSignBoards$RuleSet;" ∈ px_tw := List.mem_filter.mpr ⟨List.mem_append_right _ (List.mem_of_getElem? (i := 45) (by decide +kernel)), by decide +kernel⟩
theorem w_450 : Cond.selects R_LE y_LE_startOf y_LE_startOf ∈ px_tw := List.mem_filter.mpr ⟨List.mem_append_right _ (List.mem_of_getElem? (i := 450) (by decide +kernel)), by decide +kernel⟩
theorem w_451 : Cond.code y_LE_startOf b_LE_startOf 5 (some .int) ∈ px_tw := List.mem_filter.mpr ⟨List.mem_append_right _ (List.mem_of_getElem? (i := 451) (by decide +kernel)), by decide +kernel⟩
theorem w_452 : Cond.methodLink R_LE 44 y_LE_kernOf ∈ px_tw := List.mem_filter.mpr ⟨List.mem_append_right _ (List.mem_of_getElem? (i := 452) (by decide +kernel)), by decide +kernel⟩
theorem w_454 : Cond.instanceMethod y_LE_kernOf ∈ px_tw := List.mem_filter.mpr ⟨List.mem_append_right _ (List.mem_of_getElem? (i := 454) (by decide +kernel)), by decide +kernel⟩
theorem w_455 : Cond.code y_LE_kernOf b_LE_kernOf 4 (some .int) ∈ px_tw := List.mem_filter.mpr ⟨List.mem_append_right _ (List.mem_of_getElem? (i := 455) (by decide +kernel)), by decide +kernel⟩
theorem w_46 : Cond.fieldLink R_RR 24 R_RR "place" "I" ∈ px_tw := List.mem_filter.mpr ⟨List.mem_append_right _ (List.mem_of_getElem? (i := 46) (by decide +kernel)), by decide +kernel⟩
theorem w_460 : Cond.methodLink R_SB 137 y_SB_isNode ∈ px_tw := List.mem_filter.mpr ⟨List.mem_append_right _ (List.mem_of_getElem? (i := 460) (by decide +kernel)), by decide +kernel⟩
theorem w_461 : Cond.static y_SB_isNode ∈ px_tw := List.mem_filter.mpr ⟨List.mem_append_right _ (List.mem_of_getElem? (i := 461) (by decide +kernel)), by decide +kernel⟩
theorem w_462 : Cond.code y_SB_isNode b_SB_isNode 1 (some .boolean) ∈ px_tw := List.mem_filter.mpr ⟨List.mem_append_right _ (List.mem_of_getElem? (i := 462) (by decide +kernel)), by decide +kernel⟩
theorem w_463 : Cond.constant R_SB 140 100000 ∈ px_tw := List.mem_filter.mpr ⟨List.mem_append_right _ (List.mem_of_getElem? (i := 463) (by decide +kernel)), by decide +kernel⟩
theorem w_464 : Cond.methodLink R_SB 141 y_RO_addWay ∈ px_tw := List.mem_filter.mpr ⟨List.mem_append_right _ (List.mem_of_getElem? (i := 464) (by decide +kernel)), by decide +kernel⟩
theorem w_465 : Cond.instanceMethod y_RO_addWay ∈ px_tw := List.mem_filter.mpr ⟨List.mem_append_right _ (List.mem_of_getElem? (i := 465) (by decide +kernel)), by decide +kernel⟩
theorem w_466 : Cond.selects R_RO y_RO_addWay y_RO_addWay ∈ px_tw := List.mem_filter.mpr ⟨List.mem_append_right _ (List.mem_of_getElem? (i := 466) (by decide +kernel)), by decide +kernel⟩
theorem w_467 : Cond.code y_RO_addWay b_RO_addWay 5 (some .int) ∈ px_tw := List.mem_filter.mpr ⟨List.mem_append_right _ (List.mem_of_getElem? (i := 467) (by decide +kernel)), by decide +kernel⟩
theorem w_47 : Cond.fieldLink R_RR 28 R_RR "heightsRead" "Z" ∈ px_tw := List.mem_filter.mpr ⟨List.mem_append_right _ (List.mem_of_getElem? (i := 47) (by decide +kernel)), by decide +kernel⟩
theorem w_476 : Cond.methodLink R_SB 148 y_RO_isWay ∈ px_tw := List.mem_filter.mpr ⟨List.mem_append_right _ (List.mem_of_getElem? (i := 476) (by decide +kernel)), by decide +kernel⟩
theorem w_477 : Cond.instanceMethod y_RO_isWay ∈ px_tw := List.mem_filter.mpr ⟨List.mem_append_right _ (List.mem_of_getElem? (i := 477) (by decide +kernel)), by decide +kernel⟩
theorem w_478 : Cond.selects R_RO y_RO_isWay y_RO_isWay ∈ px_tw := List.mem_filter.mpr ⟨List.mem_append_right _ (List.mem_of_getElem? (i := 478) (by decide +kernel)), by decide +kernel⟩
theorem w_479 : Cond.code y_RO_isWay b_RO_isWay 2 (some .boolean) ∈ px_tw := List.mem_filter.mpr ⟨List.mem_append_right _ (List.mem_of_getElem? (i := 479) (by decide +kernel)), by decide +kernel⟩
theorem w_48 : Cond.fieldLink R_RR 32 R_RR "marginRead" "Z" ∈ px_tw := List.mem_filter.mpr ⟨List.mem_append_right _ (List.mem_of_getElem? (i := 48) (by decide +kernel)), by decide +kernel⟩
theorem w_485 : Cond.methodLink R_SB 157 y_SB_isBoard ∈ px_tw := List.mem_filter.mpr ⟨List.mem_append_right _ (List.mem_of_getElem? (i := 485) (by decide +kernel)), by decide +kernel⟩
theorem w_487 : Cond.instanceMethod y_SB_isBoard ∈ px_tw := List.mem_filter.mpr ⟨List.mem_append_right _ (List.mem_of_getElem? (i := 487) (by decide +kernel)), by decide +kernel⟩
theorem w_488 : Cond.code y_SB_isBoard b_SB_isBoard 2 (some .boolean) ∈ px_tw := List.mem_filter.mpr ⟨List.mem_append_right _ (List.mem_of_getElem? (i := 488) (by decide +kernel)), by decide +kernel⟩
theorem w_489 : Cond.methodLink R_SB 160 y_BO_addLine ∈ px_tw := List.mem_filter.mpr ⟨List.mem_append_right _ (List.mem_of_getElem? (i := 489) (by decide +kernel)), by decide +kernel⟩
theorem w_49 : Cond.fieldLink R_RR 35 R_RR "orderRead" "Z" ∈ px_tw := List.mem_filter.mpr ⟨List.mem_append_right _ (List.mem_of_getElem? (i := 49) (by decide +kernel)), by decide +kernel⟩
theorem w_490 : Cond.instanceMethod y_BO_addLine ∈ px_tw := List.mem_filter.mpr ⟨List.mem_append_right _ (List.mem_of_getElem? (i := 490) (by decide +kernel)), by decide +kernel⟩
theorem w_491 : Cond.selects R_BO y_BO_addLine y_BO_addLine ∈ px_tw := List.mem_filter.mpr ⟨List.mem_append_right _ (List.mem_of_getElem? (i := 491) (by decide +kernel)), by decide +kernel⟩
theorem w_492 : Cond.code y_BO_addLine b_BO_addLine 3 (some .boolean) ∈ px_tw := List.mem_filter.mpr ⟨List.mem_append_right _ (List.mem_of_getElem? (i := 492) (by decide +kernel)), by decide +kernel⟩
theorem w_493 : Cond.methodLink R_BO 22 y_BO_has ∈ px_tw := List.mem_filter.mpr ⟨List.mem_append_right _ (List.mem_of_getElem? (i := 493) (by decide +kernel)), by decide +kernel⟩
theorem w_495 : Cond.instanceMethod y_BO_has ∈ px_tw := List.mem_filter.mpr ⟨List.mem_append_right _ (List.mem_of_getElem? (i := 495) (by decide +kernel)), by decide +kernel⟩
theorem w_496 : Cond.code y_BO_has b_BO_has 3 (some .boolean) ∈ px_tw := List.mem_filter.mpr ⟨List.mem_append_right _ (List.mem_of_getElem? (i := 496) (by decide +kernel)), by decide +kernel⟩
theorem w_497 : Cond.methodLink R_SB 164 y_RO_show ∈ px_tw := List.mem_filter.mpr ⟨List.mem_append_right _ (List.mem_of_getElem? (i := 497) (by decide +kernel)), by decide +kernel⟩
theorem w_498 : Cond.instanceMethod y_RO_show ∈ px_tw := List.mem_filter.mpr ⟨List.mem_append_right _ (List.mem_of_getElem? (i := 498) (by decide +kernel)), by decide +kernel⟩
theorem w_499 : Cond.selects R_RO y_RO_show y_RO_show ∈ px_tw := List.mem_filter.mpr ⟨List.mem_append_right _ (List.mem_of_getElem? (i := 499) (by decide +kernel)), by decide +kernel⟩
theorem w_5 : Cond.initialized R_LE ∈ px_tw := List.mem_filter.mpr ⟨List.mem_append_right _ (List.mem_of_getElem? (i := 5) (by decide +kernel)), by decide +kernel⟩
theorem w_500 : Cond.code y_RO_show b_RO_show 3 none ∈ px_tw := List.mem_filter.mpr ⟨List.mem_append_right _ (List.mem_of_getElem? (i := 500) (by decide +kernel)), by decide +kernel⟩
theorem w_509 : Cond.methodLink R_SB 170 y_SB_isLine ∈ px_tw := List.mem_filter.mpr ⟨List.mem_append_right _ (List.mem_of_getElem? (i := 509) (by decide +kernel)), by decide +kernel⟩
theorem w_511 : Cond.instanceMethod y_SB_isLine ∈ px_tw := List.mem_filter.mpr ⟨List.mem_append_right _ (List.mem_of_getElem? (i := 511) (by decide +kernel)), by decide +kernel⟩
theorem w_512 : Cond.code y_SB_isLine b_SB_isLine 3 (some .boolean) ∈ px_tw := List.mem_filter.mpr ⟨List.mem_append_right _ (List.mem_of_getElem? (i := 512) (by decide +kernel)), by decide +kernel⟩
theorem w_513 : Cond.methodLink R_SB 176 y_LO_arrange ∈ px_tw := List.mem_filter.mpr ⟨List.mem_append_right _ (List.mem_of_getElem? (i := 513) (by decide +kernel)), by decide +kernel⟩
theorem w_514 : Cond.instanceMethod y_LO_arrange ∈ px_tw := List.mem_filter.mpr ⟨List.mem_append_right _ (List.mem_of_getElem? (i := 514) (by decide +kernel)), by decide +kernel⟩
theorem w_515 : Cond.selects R_LO y_LO_arrange y_LO_arrange ∈ px_tw := List.mem_filter.mpr ⟨List.mem_append_right _ (List.mem_of_getElem? (i := 515) (by decide +kernel)), by decide +kernel⟩
theorem w_516 : Cond.code y_LO_arrange b_LO_arrange 5 none ∈ px_tw := List.mem_filter.mpr ⟨List.mem_append_right _ (List.mem_of_getElem? (i := 516) (by decide +kernel)), by decide +kernel⟩
theorem w_517 : Cond.methodLink R_LO 37 y_RO_measureFrom ∈ px_tw := List.mem_filter.mpr ⟨List.mem_append_right _ (List.mem_of_getElem? (i := 517) (by decide +kernel)), by decide +kernel⟩
theorem w_518 : Cond.instanceMethod y_RO_measureFrom ∈ px_tw := List.mem_filter.mpr ⟨List.mem_append_right _ (List.mem_of_getElem? (i := 518) (by decide +kernel)), by decide +kernel⟩
theorem w_519 : Cond.selects R_RO y_RO_measureFrom y_RO_measureFrom ∈ px_tw := List.mem_filter.mpr ⟨List.mem_append_right _ (List.mem_of_getElem? (i := 519) (by decide +kernel)), by decide +kernel⟩
theorem w_520 : Cond.code y_RO_measureFrom b_RO_measureFrom 5 none ∈ px_tw := List.mem_filter.mpr ⟨List.mem_append_right _ (List.mem_of_getElem? (i := 520) (by decide +kernel)), by decide +kernel⟩
theorem w_521 : Cond.methodLink R_RO 35 y_RO_shortenBy ∈ px_tw := List.mem_filter.mpr ⟨List.mem_append_right _ (List.mem_of_getElem? (i := 521) (by decide +kernel)), by decide +kernel⟩
theorem w_523 : Cond.instanceMethod y_RO_shortenBy ∈ px_tw := List.mem_filter.mpr ⟨List.mem_append_right _ (List.mem_of_getElem? (i := 523) (by decide +kernel)), by decide +kernel⟩
theorem w_524 : Cond.code y_RO_shortenBy b_RO_shortenBy 5 (some .boolean) ∈ px_tw := List.mem_filter.mpr ⟨List.mem_append_right _ (List.mem_of_getElem? (i := 524) (by decide +kernel)), by decide +kernel⟩
theorem w_525 : Cond.methodLink R_LO 55 y_LO_insert ∈ px_tw := List.mem_filter.mpr ⟨List.mem_append_right _ (List.mem_of_getElem? (i := 525) (by decide +kernel)), by decide +kernel⟩
theorem w_527 : Cond.instanceMethod y_LO_insert ∈ px_tw := List.mem_filter.mpr ⟨List.mem_append_right _ (List.mem_of_getElem? (i := 527) (by decide +kernel)), by decide +kernel⟩
theorem w_528 : Cond.code y_LO_insert b_LO_insert 5 none ∈ px_tw := List.mem_filter.mpr ⟨List.mem_append_right _ (List.mem_of_getElem? (i := 528) (by decide +kernel)), by decide +kernel⟩
theorem w_529 : Cond.methodLink R_LO 59 y_LO_goesBefore ∈ px_tw := List.mem_filter.mpr ⟨List.mem_append_right _ (List.mem_of_getElem? (i := 529) (by decide +kernel)), by decide +kernel⟩
theorem w_531 : Cond.instanceMethod y_LO_goesBefore ∈ px_tw := List.mem_filter.mpr ⟨List.mem_append_right _ (List.mem_of_getElem? (i := 531) (by decide +kernel)), by decide +kernel⟩
theorem w_532 : Cond.code y_LO_goesBefore b_LO_goesBefore 7 (some .boolean) ∈ px_tw := List.mem_filter.mpr ⟨List.mem_append_right _ (List.mem_of_getElem? (i := 532) (by decide +kernel)), by decide +kernel⟩
theorem w_533 : Cond.methodLink R_LO 63 y_NA_isBeforeByLetters ∈ px_tw := List.mem_filter.mpr ⟨List.mem_append_right _ (List.mem_of_getElem? (i := 533) (by decide +kernel)), by decide +kernel⟩
theorem w_534 : Cond.instanceMethod y_NA_isBeforeByLetters ∈ px_tw := List.mem_filter.mpr ⟨List.mem_append_right _ (List.mem_of_getElem? (i := 534) (by decide +kernel)), by decide +kernel⟩
theorem w_535 : Cond.selects R_NA y_NA_isBeforeByLetters y_NA_isBeforeByLetters ∈ px_tw := List.mem_filter.mpr ⟨List.mem_append_right _ (List.mem_of_getElem? (i := 535) (by decide +kernel)), by decide +kernel⟩
theorem w_536 : Cond.code y_NA_isBeforeByLetters b_NA_isBeforeByLetters 4 (some .boolean) ∈ px_tw := List.mem_filter.mpr ⟨List.mem_append_right _ (List.mem_of_getElem? (i := 536) (by decide +kernel)), by decide +kernel⟩
theorem w_537 : Cond.methodLink R_NA 29 Lib.Math.min.name ∈ px_tw := List.mem_filter.mpr ⟨List.mem_append_right _ (List.mem_of_getElem? (i := 537) (by decide +kernel)), by decide +kernel⟩
theorem w_538 : Cond.methodLink R_SB 184 y_LO_lineAt ∈ px_tw := List.mem_filter.mpr ⟨List.mem_append_right _ (List.mem_of_getElem? (i := 538) (by decide +kernel)), by decide +kernel⟩
theorem w_539 : Cond.instanceMethod y_LO_lineAt ∈ px_tw := List.mem_filter.mpr ⟨List.mem_append_right _ (List.mem_of_getElem? (i := 539) (by decide +kernel)), by decide +kernel⟩
theorem w_540 : Cond.selects R_LO y_LO_lineAt y_LO_lineAt ∈ px_tw := List.mem_filter.mpr ⟨List.mem_append_right _ (List.mem_of_getElem? (i := 540) (by decide +kernel)), by decide +kernel⟩
theorem w_541 : Cond.code y_LO_lineAt b_LO_lineAt 2 (some .int) ∈ px_tw := List.mem_filter.mpr ⟨List.mem_append_right _ (List.mem_of_getElem? (i := 541) (by decide +kernel)), by decide +kernel⟩
theorem w_546 : Cond.methodLink R_SB 187 y_LO_distanceAt ∈ px_tw := List.mem_filter.mpr ⟨List.mem_append_right _ (List.mem_of_getElem? (i := 546) (by decide +kernel)), by decide +kernel⟩
theorem w_547 : Cond.instanceMethod y_LO_distanceAt ∈ px_tw := List.mem_filter.mpr ⟨List.mem_append_right _ (List.mem_of_getElem? (i := 547) (by decide +kernel)), by decide +kernel⟩
theorem w_548 : Cond.selects R_LO y_LO_distanceAt y_LO_distanceAt ∈ px_tw := List.mem_filter.mpr ⟨List.mem_append_right _ (List.mem_of_getElem? (i := 548) (by decide +kernel)), by decide +kernel⟩
theorem w_549 : Cond.code y_LO_distanceAt b_LO_distanceAt 2 (some .int) ∈ px_tw := List.mem_filter.mpr ⟨List.mem_append_right _ (List.mem_of_getElem? (i := 549) (by decide +kernel)), by decide +kernel⟩
theorem w_554 : Cond.methodLink R_SB 190 y_SH_lay ∈ px_tw := List.mem_filter.mpr ⟨List.mem_append_right _ (List.mem_of_getElem? (i := 554) (by decide +kernel)), by decide +kernel⟩
theorem w_555 : Cond.instanceMethod y_SH_lay ∈ px_tw := List.mem_filter.mpr ⟨List.mem_append_right _ (List.mem_of_getElem? (i := 555) (by decide +kernel)), by decide +kernel⟩
theorem w_556 : Cond.selects R_SH y_SH_lay y_SH_lay ∈ px_tw := List.mem_filter.mpr ⟨List.mem_append_right _ (List.mem_of_getElem? (i := 556) (by decide +kernel)), by decide +kernel⟩
theorem w_557 : Cond.code y_SH_lay b_SH_lay 6 none ∈ px_tw := List.mem_filter.mpr ⟨List.mem_append_right _ (List.mem_of_getElem? (i := 557) (by decide +kernel)), by decide +kernel⟩
theorem w_558 : Cond.methodLink R_SH 27 y_RS_heightAt ∈ px_tw := List.mem_filter.mpr ⟨List.mem_append_right _ (List.mem_of_getElem? (i := 558) (by decide +kernel)), by decide +kernel⟩
theorem w_559 : Cond.methodLink R_SH 53 y_SH_nameOf ∈ px_tw := List.mem_filter.mpr ⟨List.mem_append_right _ (List.mem_of_getElem? (i := 559) (by decide +kernel)), by decide +kernel⟩
theorem w_561 : Cond.instanceMethod y_SH_nameOf ∈ px_tw := List.mem_filter.mpr ⟨List.mem_append_right _ (List.mem_of_getElem? (i := 561) (by decide +kernel)), by decide +kernel⟩
theorem w_562 : Cond.code y_SH_nameOf b_SH_nameOf 2 (some (.object "SignBoards$Name")) ∈ px_tw := List.mem_filter.mpr ⟨List.mem_append_right _ (List.mem_of_getElem? (i := 562) (by decide +kernel)), by decide +kernel⟩
theorem w_563 : Cond.methodLink R_SH 57 y_LE_fieldOf ∈ px_tw := List.mem_filter.mpr ⟨List.mem_append_right _ (List.mem_of_getElem? (i := 563) (by decide +kernel)), by decide +kernel⟩
theorem w_564 : Cond.methodLink R_SH 63 y_SH_lineWidth ∈ px_tw := List.mem_filter.mpr ⟨List.mem_append_right _ (List.mem_of_getElem? (i := 564) (by decide +kernel)), by decide +kernel⟩
theorem w_566 : Cond.instanceMethod y_SH_lineWidth ∈ px_tw := List.mem_filter.mpr ⟨List.mem_append_right _ (List.mem_of_getElem? (i := 566) (by decide +kernel)), by decide +kernel⟩
theorem w_567 : Cond.code y_SH_lineWidth b_SH_lineWidth 2 (some .int) ∈ px_tw := List.mem_filter.mpr ⟨List.mem_append_right _ (List.mem_of_getElem? (i := 567) (by decide +kernel)), by decide +kernel⟩
theorem w_568 : Cond.methodLink R_SH 66 Lib.Math.max.name ∈ px_tw := List.mem_filter.mpr ⟨List.mem_append_right _ (List.mem_of_getElem? (i := 568) (by decide +kernel)), by decide +kernel⟩
theorem w_569 : Cond.static Lib.Math.max.name ∈ px_tw := List.mem_filter.mpr ⟨List.mem_append_right _ (List.mem_of_getElem? (i := 569) (by decide +kernel)), by decide +kernel⟩
theorem w_570 : Cond.code Lib.Math.max.name Lib.Math.max.code 2 (some .int) ∈ px_tw := List.mem_filter.mpr ⟨List.mem_append_right _ (List.mem_of_getElem? (i := 570) (by decide +kernel)), by decide +kernel⟩
theorem w_571 : Cond.methodLink R_SB 197 y_SH_fullHeight ∈ px_tw := List.mem_filter.mpr ⟨List.mem_append_right _ (List.mem_of_getElem? (i := 571) (by decide +kernel)), by decide +kernel⟩
theorem w_572 : Cond.instanceMethod y_SH_fullHeight ∈ px_tw := List.mem_filter.mpr ⟨List.mem_append_right _ (List.mem_of_getElem? (i := 572) (by decide +kernel)), by decide +kernel⟩
theorem w_573 : Cond.selects R_SH y_SH_fullHeight y_SH_fullHeight ∈ px_tw := List.mem_filter.mpr ⟨List.mem_append_right _ (List.mem_of_getElem? (i := 573) (by decide +kernel)), by decide +kernel⟩
theorem w_574 : Cond.code y_SH_fullHeight b_SH_fullHeight 2 (some .int) ∈ px_tw := List.mem_filter.mpr ⟨List.mem_append_right _ (List.mem_of_getElem? (i := 574) (by decide +kernel)), by decide +kernel⟩
theorem w_579 : Cond.methodLink R_SB 205 y_SH_itemOf ∈ px_tw := List.mem_filter.mpr ⟨List.mem_append_right _ (List.mem_of_getElem? (i := 579) (by decide +kernel)), by decide +kernel⟩
theorem w_580 : Cond.instanceMethod y_SH_itemOf ∈ px_tw := List.mem_filter.mpr ⟨List.mem_append_right _ (List.mem_of_getElem? (i := 580) (by decide +kernel)), by decide +kernel⟩
theorem w_581 : Cond.selects R_SH y_SH_itemOf y_SH_itemOf ∈ px_tw := List.mem_filter.mpr ⟨List.mem_append_right _ (List.mem_of_getElem? (i := 581) (by decide +kernel)), by decide +kernel⟩
theorem w_582 : Cond.code y_SH_itemOf b_SH_itemOf 5 (some .int) ∈ px_tw := List.mem_filter.mpr ⟨List.mem_append_right _ (List.mem_of_getElem? (i := 582) (by decide +kernel)), by decide +kernel⟩
theorem w_583 : Cond.methodLink R_SH 86 y_SH_arrowLeft ∈ px_tw := List.mem_filter.mpr ⟨List.mem_append_right _ (List.mem_of_getElem? (i := 583) (by decide +kernel)), by decide +kernel⟩
theorem w_585 : Cond.instanceMethod y_SH_arrowLeft ∈ px_tw := List.mem_filter.mpr ⟨List.mem_append_right _ (List.mem_of_getElem? (i := 585) (by decide +kernel)), by decide +kernel⟩
theorem w_586 : Cond.code y_SH_arrowLeft b_SH_arrowLeft 3 (some .int) ∈ px_tw := List.mem_filter.mpr ⟨List.mem_append_right _ (List.mem_of_getElem? (i := 586) (by decide +kernel)), by decide +kernel⟩
theorem w_587 : Cond.methodLink R_SH 95 y_SH_lineLeft ∈ px_tw := List.mem_filter.mpr ⟨List.mem_append_right _ (List.mem_of_getElem? (i := 587) (by decide +kernel)), by decide +kernel⟩
theorem w_589 : Cond.instanceMethod y_SH_lineLeft ∈ px_tw := List.mem_filter.mpr ⟨List.mem_append_right _ (List.mem_of_getElem? (i := 589) (by decide +kernel)), by decide +kernel⟩
theorem w_590 : Cond.code y_SH_lineLeft b_SH_lineLeft 3 (some .int) ∈ px_tw := List.mem_filter.mpr ⟨List.mem_append_right _ (List.mem_of_getElem? (i := 590) (by decide +kernel)), by decide +kernel⟩
theorem w_591 : Cond.methodLink R_SH 89 y_SH_letterLeft ∈ px_tw := List.mem_filter.mpr ⟨List.mem_append_right _ (List.mem_of_getElem? (i := 591) (by decide +kernel)), by decide +kernel⟩
theorem w_593 : Cond.instanceMethod y_SH_letterLeft ∈ px_tw := List.mem_filter.mpr ⟨List.mem_append_right _ (List.mem_of_getElem? (i := 593) (by decide +kernel)), by decide +kernel⟩
theorem w_594 : Cond.code y_SH_letterLeft b_SH_letterLeft 4 (some .int) ∈ px_tw := List.mem_filter.mpr ⟨List.mem_append_right _ (List.mem_of_getElem? (i := 594) (by decide +kernel)), by decide +kernel⟩
theorem w_595 : Cond.methodLink R_SH 98 y_LE_startOf ∈ px_tw := List.mem_filter.mpr ⟨List.mem_append_right _ (List.mem_of_getElem? (i := 595) (by decide +kernel)), by decide +kernel⟩
theorem w_6 : Cond.initialized R_RO ∈ px_tw := List.mem_filter.mpr ⟨List.mem_append_right _ (List.mem_of_getElem? (i := 6) (by decide +kernel)), by decide +kernel⟩
theorem w_600 : Cond.methodLink R_SB 209 y_RO_isShown ∈ px_tw := List.mem_filter.mpr ⟨List.mem_append_right _ (List.mem_of_getElem? (i := 600) (by decide +kernel)), by decide +kernel⟩
theorem w_601 : Cond.instanceMethod y_RO_isShown ∈ px_tw := List.mem_filter.mpr ⟨List.mem_append_right _ (List.mem_of_getElem? (i := 601) (by decide +kernel)), by decide +kernel⟩
theorem w_602 : Cond.selects R_RO y_RO_isShown y_RO_isShown ∈ px_tw := List.mem_filter.mpr ⟨List.mem_append_right _ (List.mem_of_getElem? (i := 602) (by decide +kernel)), by decide +kernel⟩
theorem w_603 : Cond.code y_RO_isShown b_RO_isShown 3 (some .boolean) ∈ px_tw := List.mem_filter.mpr ⟨List.mem_append_right _ (List.mem_of_getElem? (i := 603) (by decide +kernel)), by decide +kernel⟩
theorem w_608 : Cond.methodLink R_SB 212 y_BL_gather ∈ px_tw := List.mem_filter.mpr ⟨List.mem_append_right _ (List.mem_of_getElem? (i := 608) (by decide +kernel)), by decide +kernel⟩
theorem w_609 : Cond.instanceMethod y_BL_gather ∈ px_tw := List.mem_filter.mpr ⟨List.mem_append_right _ (List.mem_of_getElem? (i := 609) (by decide +kernel)), by decide +kernel⟩
theorem w_610 : Cond.selects R_BL y_BL_gather y_BL_gather ∈ px_tw := List.mem_filter.mpr ⟨List.mem_append_right _ (List.mem_of_getElem? (i := 610) (by decide +kernel)), by decide +kernel⟩
theorem w_611 : Cond.code y_BL_gather b_BL_gather 3 none ∈ px_tw := List.mem_filter.mpr ⟨List.mem_append_right _ (List.mem_of_getElem? (i := 611) (by decide +kernel)), by decide +kernel⟩
theorem w_612 : Cond.methodLink R_BL 38 y_BL_gatherOf ∈ px_tw := List.mem_filter.mpr ⟨List.mem_append_right _ (List.mem_of_getElem? (i := 612) (by decide +kernel)), by decide +kernel⟩
theorem w_614 : Cond.instanceMethod y_BL_gatherOf ∈ px_tw := List.mem_filter.mpr ⟨List.mem_append_right _ (List.mem_of_getElem? (i := 614) (by decide +kernel)), by decide +kernel⟩
theorem w_615 : Cond.code y_BL_gatherOf b_BL_gatherOf 6 none ∈ px_tw := List.mem_filter.mpr ⟨List.mem_append_right _ (List.mem_of_getElem? (i := 615) (by decide +kernel)), by decide +kernel⟩
theorem w_616 : Cond.methodLink R_BL 46 y_RO_nodesLedTo ∈ px_tw := List.mem_filter.mpr ⟨List.mem_append_right _ (List.mem_of_getElem? (i := 616) (by decide +kernel)), by decide +kernel⟩
theorem w_617 : Cond.instanceMethod y_RO_nodesLedTo ∈ px_tw := List.mem_filter.mpr ⟨List.mem_append_right _ (List.mem_of_getElem? (i := 617) (by decide +kernel)), by decide +kernel⟩
theorem w_618 : Cond.selects R_RO y_RO_nodesLedTo y_RO_nodesLedTo ∈ px_tw := List.mem_filter.mpr ⟨List.mem_append_right _ (List.mem_of_getElem? (i := 618) (by decide +kernel)), by decide +kernel⟩
theorem w_619 : Cond.code y_RO_nodesLedTo b_RO_nodesLedTo 7 (some .int) ∈ px_tw := List.mem_filter.mpr ⟨List.mem_append_right _ (List.mem_of_getElem? (i := 619) (by decide +kernel)), by decide +kernel⟩
theorem w_620 : Cond.methodLink R_RO 39 y_RO_isShown ∈ px_tw := List.mem_filter.mpr ⟨List.mem_append_right _ (List.mem_of_getElem? (i := 620) (by decide +kernel)), by decide +kernel⟩
theorem w_621 : Cond.methodLink R_BL 58 y_RO_isShown ∈ px_tw := List.mem_filter.mpr ⟨List.mem_append_right _ (List.mem_of_getElem? (i := 621) (by decide +kernel)), by decide +kernel⟩
theorem w_622 : Cond.methodLink R_BL 62 y_RO_isShownFrom ∈ px_tw := List.mem_filter.mpr ⟨List.mem_append_right _ (List.mem_of_getElem? (i := 622) (by decide +kernel)), by decide +kernel⟩
theorem w_623 : Cond.instanceMethod y_RO_isShownFrom ∈ px_tw := List.mem_filter.mpr ⟨List.mem_append_right _ (List.mem_of_getElem? (i := 623) (by decide +kernel)), by decide +kernel⟩
theorem w_624 : Cond.selects R_RO y_RO_isShownFrom y_RO_isShownFrom ∈ px_tw := List.mem_filter.mpr ⟨List.mem_append_right _ (List.mem_of_getElem? (i := 624) (by decide +kernel)), by decide +kernel⟩
theorem w_625 : Cond.code y_RO_isShownFrom b_RO_isShownFrom 4 (some .boolean) ∈ px_tw := List.mem_filter.mpr ⟨List.mem_append_right _ (List.mem_of_getElem? (i := 625) (by decide +kernel)), by decide +kernel⟩
theorem w_626 : Cond.methodLink R_BL 65 y_BL_add ∈ px_tw := List.mem_filter.mpr ⟨List.mem_append_right _ (List.mem_of_getElem? (i := 626) (by decide +kernel)), by decide +kernel⟩
theorem w_628 : Cond.instanceMethod y_BL_add ∈ px_tw := List.mem_filter.mpr ⟨List.mem_append_right _ (List.mem_of_getElem? (i := 628) (by decide +kernel)), by decide +kernel⟩
theorem w_629 : Cond.code y_BL_add b_BL_add 4 none ∈ px_tw := List.mem_filter.mpr ⟨List.mem_append_right _ (List.mem_of_getElem? (i := 629) (by decide +kernel)), by decide +kernel⟩
theorem w_63 : Cond.classLink R_SB 25 R_RS ∈ px_tw := List.mem_filter.mpr ⟨List.mem_append_right _ (List.mem_of_getElem? (i := 63) (by decide +kernel)), by decide +kernel⟩
theorem w_630 : Cond.methodLink R_SB 216 y_BL_part ∈ px_tw := List.mem_filter.mpr ⟨List.mem_append_right _ (List.mem_of_getElem? (i := 630) (by decide +kernel)), by decide +kernel⟩
theorem w_631 : Cond.instanceMethod y_BL_part ∈ px_tw := List.mem_filter.mpr ⟨List.mem_append_right _ (List.mem_of_getElem? (i := 631) (by decide +kernel)), by decide +kernel⟩
theorem w_632 : Cond.selects R_BL y_BL_part y_BL_part ∈ px_tw := List.mem_filter.mpr ⟨List.mem_append_right _ (List.mem_of_getElem? (i := 632) (by decide +kernel)), by decide +kernel⟩
theorem w_633 : Cond.code y_BL_part b_BL_part 3 (some .int) ∈ px_tw := List.mem_filter.mpr ⟨List.mem_append_right _ (List.mem_of_getElem? (i := 633) (by decide +kernel)), by decide +kernel⟩
theorem w_64 : Cond.instantiable R_RS 6 ∈ px_tw := List.mem_filter.mpr ⟨List.mem_append_right _ (List.mem_of_getElem? (i := 64) (by decide +kernel)), by decide +kernel⟩
theorem w_644 : Cond.methodLink R_MO 1 objectInit ∈ px_tw := List.mem_filter.mpr ⟨List.mem_append_right _ (List.mem_of_getElem? (i := 644) (by decide +kernel)), by decide +kernel⟩
theorem w_645 : Cond.fieldLink R_MO 90 R_MO "signs" "I" ∈ px_tw := List.mem_filter.mpr ⟨List.mem_append_right _ (List.mem_of_getElem? (i := 645) (by decide +kernel)), by decide +kernel⟩
theorem w_646 : Cond.fieldLink R_MO 7 R_MO "text" "[I" ∈ px_tw := List.mem_filter.mpr ⟨List.mem_append_right _ (List.mem_of_getElem? (i := 646) (by decide +kernel)), by decide +kernel⟩
theorem w_647 : Cond.fieldLink R_MO 13 R_MO "speeds" "I" ∈ px_tw := List.mem_filter.mpr ⟨List.mem_append_right _ (List.mem_of_getElem? (i := 647) (by decide +kernel)), by decide +kernel⟩
theorem w_648 : Cond.fieldLink R_MO 17 R_MO "speed" "[I" ∈ px_tw := List.mem_filter.mpr ⟨List.mem_append_right _ (List.mem_of_getElem? (i := 648) (by decide +kernel)), by decide +kernel⟩
theorem w_649 : Cond.fieldLink R_MO 20 R_MO "high" "[I" ∈ px_tw := List.mem_filter.mpr ⟨List.mem_append_right _ (List.mem_of_getElem? (i := 649) (by decide +kernel)), by decide +kernel⟩
theorem w_65 : Cond.methodLink R_SB 27 y_RS_init ∈ px_tw := List.mem_filter.mpr ⟨List.mem_append_right _ (List.mem_of_getElem? (i := 65) (by decide +kernel)), by decide +kernel⟩
theorem w_650 : Cond.fieldLink R_MO 127 R_MO "margin" "I" ∈ px_tw := List.mem_filter.mpr ⟨List.mem_append_right _ (List.mem_of_getElem? (i := 650) (by decide +kernel)), by decide +kernel⟩
theorem w_651 : Cond.fieldLink R_MO 130 R_MO "gap" "I" ∈ px_tw := List.mem_filter.mpr ⟨List.mem_append_right _ (List.mem_of_getElem? (i := 651) (by decide +kernel)), by decide +kernel⟩
theorem w_652 : Cond.fieldLink R_MO 23 R_MO "order" "I" ∈ px_tw := List.mem_filter.mpr ⟨List.mem_append_right _ (List.mem_of_getElem? (i := 652) (by decide +kernel)), by decide +kernel⟩
theorem w_653 : Cond.fieldLink R_MO 104 R_MO "newSpeeds" "I" ∈ px_tw := List.mem_filter.mpr ⟨List.mem_append_right _ (List.mem_of_getElem? (i := 653) (by decide +kernel)), by decide +kernel⟩
theorem w_654 : Cond.fieldLink R_MO 26 R_MO "newSpeed" "[I" ∈ px_tw := List.mem_filter.mpr ⟨List.mem_append_right _ (List.mem_of_getElem? (i := 654) (by decide +kernel)), by decide +kernel⟩
theorem w_655 : Cond.fieldLink R_MO 29 R_MO "newHigh" "[I" ∈ px_tw := List.mem_filter.mpr ⟨List.mem_append_right _ (List.mem_of_getElem? (i := 655) (by decide +kernel)), by decide +kernel⟩
theorem w_656 : Cond.fieldLink R_MO 114 R_MO "newMargin" "I" ∈ px_tw := List.mem_filter.mpr ⟨List.mem_append_right _ (List.mem_of_getElem? (i := 656) (by decide +kernel)), by decide +kernel⟩
theorem w_657 : Cond.fieldLink R_MO 117 R_MO "newGap" "I" ∈ px_tw := List.mem_filter.mpr ⟨List.mem_append_right _ (List.mem_of_getElem? (i := 657) (by decide +kernel)), by decide +kernel⟩
theorem w_658 : Cond.fieldLink R_MO 120 R_MO "newOrder" "I" ∈ px_tw := List.mem_filter.mpr ⟨List.mem_append_right _ (List.mem_of_getElem? (i := 658) (by decide +kernel)), by decide +kernel⟩
theorem w_659 : Cond.fieldLink R_MO 93 R_MO "at" "I" ∈ px_tw := List.mem_filter.mpr ⟨List.mem_append_right _ (List.mem_of_getElem? (i := 659) (by decide +kernel)), by decide +kernel⟩
theorem w_66 : Cond.instanceMethod y_RS_init ∈ px_tw := List.mem_filter.mpr ⟨List.mem_append_right _ (List.mem_of_getElem? (i := 66) (by decide +kernel)), by decide +kernel⟩
theorem w_660 : Cond.fieldLink R_MO 100 R_MO "wrong" "Z" ∈ px_tw := List.mem_filter.mpr ⟨List.mem_append_right _ (List.mem_of_getElem? (i := 660) (by decide +kernel)), by decide +kernel⟩
theorem w_661 : Cond.fieldLink R_MO 32 R_MO "widths" "[I" ∈ px_tw := List.mem_filter.mpr ⟨List.mem_append_right _ (List.mem_of_getElem? (i := 661) (by decide +kernel)), by decide +kernel⟩
theorem w_662 : Cond.fieldLink R_MO 136 R_MO "pairs" "I" ∈ px_tw := List.mem_filter.mpr ⟨List.mem_append_right _ (List.mem_of_getElem? (i := 662) (by decide +kernel)), by decide +kernel⟩
theorem w_663 : Cond.fieldLink R_MO 35 R_MO "left" "[I" ∈ px_tw := List.mem_filter.mpr ⟨List.mem_append_right _ (List.mem_of_getElem? (i := 663) (by decide +kernel)), by decide +kernel⟩
theorem w_664 : Cond.fieldLink R_MO 38 R_MO "right" "[I" ∈ px_tw := List.mem_filter.mpr ⟨List.mem_append_right _ (List.mem_of_getElem? (i := 664) (by decide +kernel)), by decide +kernel⟩
theorem w_665 : Cond.fieldLink R_MO 41 R_MO "kerns" "[I" ∈ px_tw := List.mem_filter.mpr ⟨List.mem_append_right _ (List.mem_of_getElem? (i := 665) (by decide +kernel)), by decide +kernel⟩
theorem w_666 : Cond.fieldLink R_MO 133 R_MO "names" "I" ∈ px_tw := List.mem_filter.mpr ⟨List.mem_append_right _ (List.mem_of_getElem? (i := 666) (by decide +kernel)), by decide +kernel⟩
theorem w_667 : Cond.fieldLink R_MO 44 R_MO "sizes" "[I" ∈ px_tw := List.mem_filter.mpr ⟨List.mem_append_right _ (List.mem_of_getElem? (i := 667) (by decide +kernel)), by decide +kernel⟩
theorem w_668 : Cond.fieldLink R_MO 47 R_MO "letters" "[I" ∈ px_tw := List.mem_filter.mpr ⟨List.mem_append_right _ (List.mem_of_getElem? (i := 668) (by decide +kernel)), by decide +kernel⟩
theorem w_669 : Cond.fieldLink R_MO 50 R_MO "goals" "[I" ∈ px_tw := List.mem_filter.mpr ⟨List.mem_append_right _ (List.mem_of_getElem? (i := 669) (by decide +kernel)), by decide +kernel⟩
theorem w_67 : Cond.code y_RS_init b_RS_init 1 none ∈ px_tw := List.mem_filter.mpr ⟨List.mem_append_right _ (List.mem_of_getElem? (i := 67) (by decide +kernel)), by decide +kernel⟩
theorem w_670 : Cond.fieldLink R_MO 162 R_MO "ways" "I" ∈ px_tw := List.mem_filter.mpr ⟨List.mem_append_right _ (List.mem_of_getElem? (i := 670) (by decide +kernel)), by decide +kernel⟩
theorem w_671 : Cond.fieldLink R_MO 53 R_MO "from" "[I" ∈ px_tw := List.mem_filter.mpr ⟨List.mem_append_right _ (List.mem_of_getElem? (i := 671) (by decide +kernel)), by decide +kernel⟩
theorem w_672 : Cond.fieldLink R_MO 56 R_MO "to" "[I" ∈ px_tw := List.mem_filter.mpr ⟨List.mem_append_right _ (List.mem_of_getElem? (i := 672) (by decide +kernel)), by decide +kernel⟩
theorem w_673 : Cond.fieldLink R_MO 59 R_MO "length" "[I" ∈ px_tw := List.mem_filter.mpr ⟨List.mem_append_right _ (List.mem_of_getElem? (i := 673) (by decide +kernel)), by decide +kernel⟩
theorem w_674 : Cond.fieldLink R_MO 165 R_MO "boards" "I" ∈ px_tw := List.mem_filter.mpr ⟨List.mem_append_right _ (List.mem_of_getElem? (i := 674) (by decide +kernel)), by decide +kernel⟩
theorem w_675 : Cond.fieldLink R_MO 62 R_MO "wayOf" "[I" ∈ px_tw := List.mem_filter.mpr ⟨List.mem_append_right _ (List.mem_of_getElem? (i := 675) (by decide +kernel)), by decide +kernel⟩
theorem w_676 : Cond.fieldLink R_MO 65 R_MO "lines" "[I" ∈ px_tw := List.mem_filter.mpr ⟨List.mem_append_right _ (List.mem_of_getElem? (i := 676) (by decide +kernel)), by decide +kernel⟩
theorem w_677 : Cond.fieldLink R_MO 68 R_MO "lineName" "[I" ∈ px_tw := List.mem_filter.mpr ⟨List.mem_append_right _ (List.mem_of_getElem? (i := 677) (by decide +kernel)), by decide +kernel⟩
theorem w_678 : Cond.fieldLink R_MO 71 R_MO "arrows" "[I" ∈ px_tw := List.mem_filter.mpr ⟨List.mem_append_right _ (List.mem_of_getElem? (i := 678) (by decide +kernel)), by decide +kernel⟩
theorem w_679 : Cond.fieldLink R_MO 74 R_MO "least" "[I" ∈ px_tw := List.mem_filter.mpr ⟨List.mem_append_right _ (List.mem_of_getElem? (i := 679) (by decide +kernel)), by decide +kernel⟩
theorem w_68 : Cond.methodLink R_RS 3 objectInit ∈ px_tw := List.mem_filter.mpr ⟨List.mem_append_right _ (List.mem_of_getElem? (i := 68) (by decide +kernel)), by decide +kernel⟩
theorem w_680 : Cond.fieldLink R_MO 77 R_MO "far" "[I" ∈ px_tw := List.mem_filter.mpr ⟨List.mem_append_right _ (List.mem_of_getElem? (i := 680) (by decide +kernel)), by decide +kernel⟩
theorem w_681 : Cond.fieldLink R_MO 80 R_MO "away" "[I" ∈ px_tw := List.mem_filter.mpr ⟨List.mem_append_right _ (List.mem_of_getElem? (i := 681) (by decide +kernel)), by decide +kernel⟩
theorem w_682 : Cond.fieldLink R_MO 83 R_MO "rank" "[I" ∈ px_tw := List.mem_filter.mpr ⟨List.mem_append_right _ (List.mem_of_getElem? (i := 682) (by decide +kernel)), by decide +kernel⟩
theorem w_683 : Cond.fieldLink R_MO 209 R_MO "found" "I" ∈ px_tw := List.mem_filter.mpr ⟨List.mem_append_right _ (List.mem_of_getElem? (i := 683) (by decide +kernel)), by decide +kernel⟩
theorem w_684 : Cond.fieldLink R_MO 215 R_MO "foundWay" "I" ∈ px_tw := List.mem_filter.mpr ⟨List.mem_append_right _ (List.mem_of_getElem? (i := 684) (by decide +kernel)), by decide +kernel⟩
theorem w_685 : Cond.fieldLink R_MO 212 R_MO "foundName" "I" ∈ px_tw := List.mem_filter.mpr ⟨List.mem_append_right _ (List.mem_of_getElem? (i := 685) (by decide +kernel)), by decide +kernel⟩
theorem w_686 : Cond.fieldLink R_MO 218 R_MO "foundKind" "I" ∈ px_tw := List.mem_filter.mpr ⟨List.mem_append_right _ (List.mem_of_getElem? (i := 686) (by decide +kernel)), by decide +kernel⟩
theorem w_69 : Cond.methodLink R_RS 18 y_RS_setAsAtFirst ∈ px_tw := List.mem_filter.mpr ⟨List.mem_append_right _ (List.mem_of_getElem? (i := 69) (by decide +kernel)), by decide +kernel⟩
theorem w_7 : Cond.initialized R_LO ∈ px_tw := List.mem_filter.mpr ⟨List.mem_append_right _ (List.mem_of_getElem? (i := 7) (by decide +kernel)), by decide +kernel⟩
theorem w_70 : Cond.instanceMethod y_RS_setAsAtFirst ∈ px_tw := List.mem_filter.mpr ⟨List.mem_append_right _ (List.mem_of_getElem? (i := 70) (by decide +kernel)), by decide +kernel⟩
theorem w_71 : Cond.selects R_RS y_RS_setAsAtFirst y_RS_setAsAtFirst ∈ px_tw := List.mem_filter.mpr ⟨List.mem_append_right _ (List.mem_of_getElem? (i := 71) (by decide +kernel)), by decide +kernel⟩
theorem w_72 : Cond.code y_RS_setAsAtFirst b_RS_setAsAtFirst 1 none ∈ px_tw := List.mem_filter.mpr ⟨List.mem_append_right _ (List.mem_of_getElem? (i := 72) (by decide +kernel)), by decide +kernel⟩
theorem w_73 : Cond.methodLink R_RS 25 y_RS_addStep ∈ px_tw := List.mem_filter.mpr ⟨List.mem_append_right _ (List.mem_of_getElem? (i := 73) (by decide +kernel)), by decide +kernel⟩
theorem w_74 : Cond.instanceMethod y_RS_addStep ∈ px_tw := List.mem_filter.mpr ⟨List.mem_append_right _ (List.mem_of_getElem? (i := 74) (by decide +kernel)), by decide +kernel⟩
theorem w_75 : Cond.selects R_RS y_RS_addStep y_RS_addStep ∈ px_tw := List.mem_filter.mpr ⟨List.mem_append_right _ (List.mem_of_getElem? (i := 75) (by decide +kernel)), by decide +kernel⟩
theorem w_76 : Cond.code y_RS_addStep b_RS_addStep 3 none ∈ px_tw := List.mem_filter.mpr ⟨List.mem_append_right _ (List.mem_of_getElem? (i := 76) (by decide +kernel)), by decide +kernel⟩
theorem w_77 : Cond.fieldLink R_RS 9 R_RS "speeds" "[I" ∈ px_tw := List.mem_filter.mpr ⟨List.mem_append_right _ (List.mem_of_getElem? (i := 77) (by decide +kernel)), by decide +kernel⟩
theorem w_776 : Cond.methodLink R_MO 86 y_MO_isSign ∈ px_tw := List.mem_filter.mpr ⟨List.mem_append_right _ (List.mem_of_getElem? (i := 776) (by decide +kernel)), by decide +kernel⟩
theorem w_777 : Cond.static y_MO_isSign ∈ px_tw := List.mem_filter.mpr ⟨List.mem_append_right _ (List.mem_of_getElem? (i := 777) (by decide +kernel)), by decide +kernel⟩
theorem w_778 : Cond.code y_MO_isSign b_MO_isSign 1 (some .boolean) ∈ px_tw := List.mem_filter.mpr ⟨List.mem_append_right _ (List.mem_of_getElem? (i := 778) (by decide +kernel)), by decide +kernel⟩
theorem w_78 : Cond.fieldLink R_RS 15 R_RS "heights" "[I" ∈ px_tw := List.mem_filter.mpr ⟨List.mem_append_right _ (List.mem_of_getElem? (i := 78) (by decide +kernel)), by decide +kernel⟩
theorem w_783 : Cond.methodLink R_MO 96 y_MO_look ∈ px_tw := List.mem_filter.mpr ⟨List.mem_append_right _ (List.mem_of_getElem? (i := 783) (by decide +kernel)), by decide +kernel⟩
theorem w_785 : Cond.instanceMethod y_MO_look ∈ px_tw := List.mem_filter.mpr ⟨List.mem_append_right _ (List.mem_of_getElem? (i := 785) (by decide +kernel)), by decide +kernel⟩
theorem w_786 : Cond.code y_MO_look b_MO_look 1 (some .int) ∈ px_tw := List.mem_filter.mpr ⟨List.mem_append_right _ (List.mem_of_getElem? (i := 786) (by decide +kernel)), by decide +kernel⟩
theorem w_787 : Cond.methodLink R_MO 123 y_MO_readRule ∈ px_tw := List.mem_filter.mpr ⟨List.mem_append_right _ (List.mem_of_getElem? (i := 787) (by decide +kernel)), by decide +kernel⟩
theorem w_789 : Cond.instanceMethod y_MO_readRule ∈ px_tw := List.mem_filter.mpr ⟨List.mem_append_right _ (List.mem_of_getElem? (i := 789) (by decide +kernel)), by decide +kernel⟩
theorem w_79 : Cond.fieldLink R_RS 21 R_RS "steps" "I" ∈ px_tw := List.mem_filter.mpr ⟨List.mem_append_right _ (List.mem_of_getElem? (i := 79) (by decide +kernel)), by decide +kernel⟩
theorem w_790 : Cond.code y_MO_readRule b_MO_readRule 2 none ∈ px_tw := List.mem_filter.mpr ⟨List.mem_append_right _ (List.mem_of_getElem? (i := 790) (by decide +kernel)), by decide +kernel⟩
theorem w_791 : Cond.methodLink R_MO 111 y_MO_readHeights ∈ px_tw := List.mem_filter.mpr ⟨List.mem_append_right _ (List.mem_of_getElem? (i := 791) (by decide +kernel)), by decide +kernel⟩
theorem w_793 : Cond.instanceMethod y_MO_readHeights ∈ px_tw := List.mem_filter.mpr ⟨List.mem_append_right _ (List.mem_of_getElem? (i := 793) (by decide +kernel)), by decide +kernel⟩
theorem w_794 : Cond.code y_MO_readHeights b_MO_readHeights 5 none ∈ px_tw := List.mem_filter.mpr ⟨List.mem_append_right _ (List.mem_of_getElem? (i := 794) (by decide +kernel)), by decide +kernel⟩
theorem w_795 : Cond.methodLink R_MO 107 y_MO_number ∈ px_tw := List.mem_filter.mpr ⟨List.mem_append_right _ (List.mem_of_getElem? (i := 795) (by decide +kernel)), by decide +kernel⟩
theorem w_797 : Cond.instanceMethod y_MO_number ∈ px_tw := List.mem_filter.mpr ⟨List.mem_append_right _ (List.mem_of_getElem? (i := 797) (by decide +kernel)), by decide +kernel⟩
theorem w_798 : Cond.code y_MO_number b_MO_number 6 (some .int) ∈ px_tw := List.mem_filter.mpr ⟨List.mem_append_right _ (List.mem_of_getElem? (i := 798) (by decide +kernel)), by decide +kernel⟩
theorem w_8 : Cond.initialized R_SH ∈ px_tw := List.mem_filter.mpr ⟨List.mem_append_right _ (List.mem_of_getElem? (i := 8) (by decide +kernel)), by decide +kernel⟩
theorem w_81 : Cond.fieldLink R_RS 29 R_RS "margin" "I" ∈ px_tw := List.mem_filter.mpr ⟨List.mem_append_right _ (List.mem_of_getElem? (i := 81) (by decide +kernel)), by decide +kernel⟩
theorem w_811 : Cond.methodLink R_MO 139 y_MO_pairOf ∈ px_tw := List.mem_filter.mpr ⟨List.mem_append_right _ (List.mem_of_getElem? (i := 811) (by decide +kernel)), by decide +kernel⟩
theorem w_813 : Cond.instanceMethod y_MO_pairOf ∈ px_tw := List.mem_filter.mpr ⟨List.mem_append_right _ (List.mem_of_getElem? (i := 813) (by decide +kernel)), by decide +kernel⟩
theorem w_814 : Cond.code y_MO_pairOf b_MO_pairOf 4 (some .int) ∈ px_tw := List.mem_filter.mpr ⟨List.mem_append_right _ (List.mem_of_getElem? (i := 814) (by decide +kernel)), by decide +kernel⟩
theorem w_816 : Cond.instanceMethod y_MO_height ∈ px_tw := List.mem_filter.mpr ⟨List.mem_append_right _ (List.mem_of_getElem? (i := 816) (by decide +kernel)), by decide +kernel⟩
theorem w_817 : Cond.selects R_MO y_MO_height y_MO_height ∈ px_tw := List.mem_filter.mpr ⟨List.mem_append_right _ (List.mem_of_getElem? (i := 817) (by decide +kernel)), by decide +kernel⟩
theorem w_818 : Cond.code y_MO_height b_MO_height 3 (some .int) ∈ px_tw := List.mem_filter.mpr ⟨List.mem_append_right _ (List.mem_of_getElem? (i := 818) (by decide +kernel)), by decide +kernel⟩
theorem w_819 : Cond.methodLink R_MO 143 y_MO_isSpeed ∈ px_tw := List.mem_filter.mpr ⟨List.mem_append_right _ (List.mem_of_getElem? (i := 819) (by decide +kernel)), by decide +kernel⟩
theorem w_820 : Cond.static y_MO_isSpeed ∈ px_tw := List.mem_filter.mpr ⟨List.mem_append_right _ (List.mem_of_getElem? (i := 820) (by decide +kernel)), by decide +kernel⟩
theorem w_821 : Cond.code y_MO_isSpeed b_MO_isSpeed 1 (some .boolean) ∈ px_tw := List.mem_filter.mpr ⟨List.mem_append_right _ (List.mem_of_getElem? (i := 821) (by decide +kernel)), by decide +kernel⟩
theorem w_823 : Cond.instanceMethod y_MO_width ∈ px_tw := List.mem_filter.mpr ⟨List.mem_append_right _ (List.mem_of_getElem? (i := 823) (by decide +kernel)), by decide +kernel⟩
theorem w_824 : Cond.selects R_MO y_MO_width y_MO_width ∈ px_tw := List.mem_filter.mpr ⟨List.mem_append_right _ (List.mem_of_getElem? (i := 824) (by decide +kernel)), by decide +kernel⟩
theorem w_825 : Cond.code y_MO_width b_MO_width 3 (some .int) ∈ px_tw := List.mem_filter.mpr ⟨List.mem_append_right _ (List.mem_of_getElem? (i := 825) (by decide +kernel)), by decide +kernel⟩
theorem w_826 : Cond.methodLink R_MO 149 y_MO_isName ∈ px_tw := List.mem_filter.mpr ⟨List.mem_append_right _ (List.mem_of_getElem? (i := 826) (by decide +kernel)), by decide +kernel⟩
theorem w_828 : Cond.instanceMethod y_MO_isName ∈ px_tw := List.mem_filter.mpr ⟨List.mem_append_right _ (List.mem_of_getElem? (i := 828) (by decide +kernel)), by decide +kernel⟩
theorem w_829 : Cond.code y_MO_isName b_MO_isName 2 (some .boolean) ∈ px_tw := List.mem_filter.mpr ⟨List.mem_append_right _ (List.mem_of_getElem? (i := 829) (by decide +kernel)), by decide +kernel⟩
theorem w_830 : Cond.methodLink R_MO 152 y_MO_before ∈ px_tw := List.mem_filter.mpr ⟨List.mem_append_right _ (List.mem_of_getElem? (i := 830) (by decide +kernel)), by decide +kernel⟩
theorem w_832 : Cond.instanceMethod y_MO_before ∈ px_tw := List.mem_filter.mpr ⟨List.mem_append_right _ (List.mem_of_getElem? (i := 832) (by decide +kernel)), by decide +kernel⟩
theorem w_833 : Cond.code y_MO_before b_MO_before 6 (some .int) ∈ px_tw := List.mem_filter.mpr ⟨List.mem_append_right _ (List.mem_of_getElem? (i := 833) (by decide +kernel)), by decide +kernel⟩
theorem w_834 : Cond.methodLink R_MO 146 y_MO_letter ∈ px_tw := List.mem_filter.mpr ⟨List.mem_append_right _ (List.mem_of_getElem? (i := 834) (by decide +kernel)), by decide +kernel⟩
theorem w_836 : Cond.instanceMethod y_MO_letter ∈ px_tw := List.mem_filter.mpr ⟨List.mem_append_right _ (List.mem_of_getElem? (i := 836) (by decide +kernel)), by decide +kernel⟩
theorem w_837 : Cond.code y_MO_letter b_MO_letter 3 (some .int) ∈ px_tw := List.mem_filter.mpr ⟨List.mem_append_right _ (List.mem_of_getElem? (i := 837) (by decide +kernel)), by decide +kernel⟩
theorem w_838 : Cond.methodLink R_MO 155 y_MO_height ∈ px_tw := List.mem_filter.mpr ⟨List.mem_append_right _ (List.mem_of_getElem? (i := 838) (by decide +kernel)), by decide +kernel⟩
theorem w_84 : Cond.fieldLink R_RS 32 R_RS "gap" "I" ∈ px_tw := List.mem_filter.mpr ⟨List.mem_append_right _ (List.mem_of_getElem? (i := 84) (by decide +kernel)), by decide +kernel⟩
theorem w_843 : Cond.methodLink R_MO 158 y_MO_isNode ∈ px_tw := List.mem_filter.mpr ⟨List.mem_append_right _ (List.mem_of_getElem? (i := 843) (by decide +kernel)), by decide +kernel⟩
theorem w_844 : Cond.static y_MO_isNode ∈ px_tw := List.mem_filter.mpr ⟨List.mem_append_right _ (List.mem_of_getElem? (i := 844) (by decide +kernel)), by decide +kernel⟩
theorem w_845 : Cond.code y_MO_isNode b_MO_isNode 1 (some .boolean) ∈ px_tw := List.mem_filter.mpr ⟨List.mem_append_right _ (List.mem_of_getElem? (i := 845) (by decide +kernel)), by decide +kernel⟩
theorem w_846 : Cond.constant R_MO 161 100000 ∈ px_tw := List.mem_filter.mpr ⟨List.mem_append_right _ (List.mem_of_getElem? (i := 846) (by decide +kernel)), by decide +kernel⟩
theorem w_859 : Cond.methodLink R_MO 168 y_MO_isBoard ∈ px_tw := List.mem_filter.mpr ⟨List.mem_append_right _ (List.mem_of_getElem? (i := 859) (by decide +kernel)), by decide +kernel⟩
theorem w_861 : Cond.instanceMethod y_MO_isBoard ∈ px_tw := List.mem_filter.mpr ⟨List.mem_append_right _ (List.mem_of_getElem? (i := 861) (by decide +kernel)), by decide +kernel⟩
theorem w_862 : Cond.code y_MO_isBoard b_MO_isBoard 2 (some .boolean) ∈ px_tw := List.mem_filter.mpr ⟨List.mem_append_right _ (List.mem_of_getElem? (i := 862) (by decide +kernel)), by decide +kernel⟩
theorem w_863 : Cond.methodLink R_MO 171 y_MO_has ∈ px_tw := List.mem_filter.mpr ⟨List.mem_append_right _ (List.mem_of_getElem? (i := 863) (by decide +kernel)), by decide +kernel⟩
theorem w_865 : Cond.instanceMethod y_MO_has ∈ px_tw := List.mem_filter.mpr ⟨List.mem_append_right _ (List.mem_of_getElem? (i := 865) (by decide +kernel)), by decide +kernel⟩
theorem w_866 : Cond.code y_MO_has b_MO_has 5 (some .boolean) ∈ px_tw := List.mem_filter.mpr ⟨List.mem_append_right _ (List.mem_of_getElem? (i := 866) (by decide +kernel)), by decide +kernel⟩
theorem w_87 : Cond.fieldLink R_RS 35 R_RS "lineOrder" "I" ∈ px_tw := List.mem_filter.mpr ⟨List.mem_append_right _ (List.mem_of_getElem? (i := 87) (by decide +kernel)), by decide +kernel⟩
theorem w_875 : Cond.methodLink R_MO 193 y_MO_isLine ∈ px_tw := List.mem_filter.mpr ⟨List.mem_append_right _ (List.mem_of_getElem? (i := 875) (by decide +kernel)), by decide +kernel⟩
theorem w_877 : Cond.instanceMethod y_MO_isLine ∈ px_tw := List.mem_filter.mpr ⟨List.mem_append_right _ (List.mem_of_getElem? (i := 877) (by decide +kernel)), by decide +kernel⟩
theorem w_878 : Cond.code y_MO_isLine b_MO_isLine 3 (some .boolean) ∈ px_tw := List.mem_filter.mpr ⟨List.mem_append_right _ (List.mem_of_getElem? (i := 878) (by decide +kernel)), by decide +kernel⟩
theorem w_879 : Cond.methodLink R_MO 196 y_MO_rankAll ∈ px_tw := List.mem_filter.mpr ⟨List.mem_append_right _ (List.mem_of_getElem? (i := 879) (by decide +kernel)), by decide +kernel⟩
theorem w_881 : Cond.instanceMethod y_MO_rankAll ∈ px_tw := List.mem_filter.mpr ⟨List.mem_append_right _ (List.mem_of_getElem? (i := 881) (by decide +kernel)), by decide +kernel⟩
theorem w_882 : Cond.code y_MO_rankAll b_MO_rankAll 4 none ∈ px_tw := List.mem_filter.mpr ⟨List.mem_append_right _ (List.mem_of_getElem? (i := 882) (by decide +kernel)), by decide +kernel⟩
theorem w_883 : Cond.methodLink R_MO 186 y_MO_distanceOf ∈ px_tw := List.mem_filter.mpr ⟨List.mem_append_right _ (List.mem_of_getElem? (i := 883) (by decide +kernel)), by decide +kernel⟩
theorem w_885 : Cond.instanceMethod y_MO_distanceOf ∈ px_tw := List.mem_filter.mpr ⟨List.mem_append_right _ (List.mem_of_getElem? (i := 885) (by decide +kernel)), by decide +kernel⟩
theorem w_886 : Cond.code y_MO_distanceOf b_MO_distanceOf 5 (some .int) ∈ px_tw := List.mem_filter.mpr ⟨List.mem_append_right _ (List.mem_of_getElem? (i := 886) (by decide +kernel)), by decide +kernel⟩
theorem w_887 : Cond.methodLink R_MO 179 y_MO_measure ∈ px_tw := List.mem_filter.mpr ⟨List.mem_append_right _ (List.mem_of_getElem? (i := 887) (by decide +kernel)), by decide +kernel⟩
theorem w_889 : Cond.instanceMethod y_MO_measure ∈ px_tw := List.mem_filter.mpr ⟨List.mem_append_right _ (List.mem_of_getElem? (i := 889) (by decide +kernel)), by decide +kernel⟩
theorem w_890 : Cond.code y_MO_measure b_MO_measure 6 none ∈ px_tw := List.mem_filter.mpr ⟨List.mem_append_right _ (List.mem_of_getElem? (i := 890) (by decide +kernel)), by decide +kernel⟩
theorem w_891 : Cond.constant R_MO 175 100000000 ∈ px_tw := List.mem_filter.mpr ⟨List.mem_append_right _ (List.mem_of_getElem? (i := 891) (by decide +kernel)), by decide +kernel⟩
theorem w_892 : Cond.methodLink R_MO 176 y_MO_isShown ∈ px_tw := List.mem_filter.mpr ⟨List.mem_append_right _ (List.mem_of_getElem? (i := 892) (by decide +kernel)), by decide +kernel⟩
theorem w_894 : Cond.instanceMethod y_MO_isShown ∈ px_tw := List.mem_filter.mpr ⟨List.mem_append_right _ (List.mem_of_getElem? (i := 894) (by decide +kernel)), by decide +kernel⟩
theorem w_895 : Cond.code y_MO_isShown b_MO_isShown 5 (some .boolean) ∈ px_tw := List.mem_filter.mpr ⟨List.mem_append_right _ (List.mem_of_getElem? (i := 895) (by decide +kernel)), by decide +kernel⟩
theorem w_896 : Cond.methodLink R_MO 189 y_MO_goesBefore ∈ px_tw := List.mem_filter.mpr ⟨List.mem_append_right _ (List.mem_of_getElem? (i := 896) (by decide +kernel)), by decide +kernel⟩
theorem w_898 : Cond.instanceMethod y_MO_goesBefore ∈ px_tw := List.mem_filter.mpr ⟨List.mem_append_right _ (List.mem_of_getElem? (i := 898) (by decide +kernel)), by decide +kernel⟩
theorem w_899 : Cond.code y_MO_goesBefore b_MO_goesBefore 4 (some .boolean) ∈ px_tw := List.mem_filter.mpr ⟨List.mem_append_right _ (List.mem_of_getElem? (i := 899) (by decide +kernel)), by decide +kernel⟩
theorem w_9 : Cond.initialized R_BL ∈ px_tw := List.mem_filter.mpr ⟨List.mem_append_right _ (List.mem_of_getElem? (i := 9) (by decide +kernel)), by decide +kernel⟩
theorem w_900 : Cond.methodLink R_MO 183 y_MO_isLess ∈ px_tw := List.mem_filter.mpr ⟨List.mem_append_right _ (List.mem_of_getElem? (i := 900) (by decide +kernel)), by decide +kernel⟩
theorem w_902 : Cond.instanceMethod y_MO_isLess ∈ px_tw := List.mem_filter.mpr ⟨List.mem_append_right _ (List.mem_of_getElem? (i := 902) (by decide +kernel)), by decide +kernel⟩
theorem w_903 : Cond.code y_MO_isLess b_MO_isLess 4 (some .boolean) ∈ px_tw := List.mem_filter.mpr ⟨List.mem_append_right _ (List.mem_of_getElem? (i := 903) (by decide +kernel)), by decide +kernel⟩
theorem w_912 : Cond.methodLink R_MO 206 y_MO_boardWidth ∈ px_tw := List.mem_filter.mpr ⟨List.mem_append_right _ (List.mem_of_getElem? (i := 912) (by decide +kernel)), by decide +kernel⟩
theorem w_914 : Cond.instanceMethod y_MO_boardWidth ∈ px_tw := List.mem_filter.mpr ⟨List.mem_append_right _ (List.mem_of_getElem? (i := 914) (by decide +kernel)), by decide +kernel⟩
theorem w_915 : Cond.code y_MO_boardWidth b_MO_boardWidth 6 (some .int) ∈ px_tw := List.mem_filter.mpr ⟨List.mem_append_right _ (List.mem_of_getElem? (i := 915) (by decide +kernel)), by decide +kernel⟩
theorem w_916 : Cond.methodLink R_MO 202 y_MO_lineWidth ∈ px_tw := List.mem_filter.mpr ⟨List.mem_append_right _ (List.mem_of_getElem? (i := 916) (by decide +kernel)), by decide +kernel⟩
theorem w_918 : Cond.instanceMethod y_MO_lineWidth ∈ px_tw := List.mem_filter.mpr ⟨List.mem_append_right _ (List.mem_of_getElem? (i := 918) (by decide +kernel)), by decide +kernel⟩
theorem w_919 : Cond.code y_MO_lineWidth b_MO_lineWidth 4 (some .int) ∈ px_tw := List.mem_filter.mpr ⟨List.mem_append_right _ (List.mem_of_getElem? (i := 919) (by decide +kernel)), by decide +kernel⟩
theorem w_920 : Cond.methodLink R_MO 199 y_MO_width ∈ px_tw := List.mem_filter.mpr ⟨List.mem_append_right _ (List.mem_of_getElem? (i := 920) (by decide +kernel)), by decide +kernel⟩
theorem w_933 : Cond.methodLink R_MO 221 y_MO_find ∈ px_tw := List.mem_filter.mpr ⟨List.mem_append_right _ (List.mem_of_getElem? (i := 933) (by decide +kernel)), by decide +kernel⟩
theorem w_935 : Cond.instanceMethod y_MO_find ∈ px_tw := List.mem_filter.mpr ⟨List.mem_append_right _ (List.mem_of_getElem? (i := 935) (by decide +kernel)), by decide +kernel⟩
theorem w_936 : Cond.code y_MO_find b_MO_find 5 (some .int) ∈ px_tw := List.mem_filter.mpr ⟨List.mem_append_right _ (List.mem_of_getElem? (i := 936) (by decide +kernel)), by decide +kernel⟩
theorem ws_BL_add : Cond.selects R_BL y_BL_add y_BL_add ∈ px_tw := List.mem_filter.mpr ⟨List.mem_append_left _ (by decide +kernel), by decide +kernel⟩
theorem ws_BL_gatherOf : Cond.selects R_BL y_BL_gatherOf y_BL_gatherOf ∈ px_tw := List.mem_filter.mpr ⟨List.mem_append_left _ (by decide +kernel), by decide +kernel⟩
theorem ws_BO_has : Cond.selects R_BO y_BO_has y_BO_has ∈ px_tw := List.mem_filter.mpr ⟨List.mem_append_left _ (by decide +kernel), by decide +kernel⟩
theorem ws_LE_kernOf : Cond.selects R_LE y_LE_kernOf y_LE_kernOf ∈ px_tw := List.mem_filter.mpr ⟨List.mem_append_left _ (by decide +kernel), by decide +kernel⟩
theorem ws_LE_pairOf : Cond.selects R_LE y_LE_pairOf y_LE_pairOf ∈ px_tw := List.mem_filter.mpr ⟨List.mem_append_left _ (by decide +kernel), by decide +kernel⟩
theorem ws_LO_goesBefore : Cond.selects R_LO y_LO_goesBefore y_LO_goesBefore ∈ px_tw := List.mem_filter.mpr ⟨List.mem_append_left _ (by decide +kernel), by decide +kernel⟩
theorem ws_LO_insert : Cond.selects R_LO y_LO_insert y_LO_insert ∈ px_tw := List.mem_filter.mpr ⟨List.mem_append_left _ (by decide +kernel), by decide +kernel⟩
theorem ws_MO_before : Cond.selects R_MO y_MO_before y_MO_before ∈ px_tw := List.mem_filter.mpr ⟨List.mem_append_left _ (by decide +kernel), by decide +kernel⟩
theorem ws_MO_boardWidth : Cond.selects R_MO y_MO_boardWidth y_MO_boardWidth ∈ px_tw := List.mem_filter.mpr ⟨List.mem_append_left _ (by decide +kernel), by decide +kernel⟩
theorem ws_MO_distanceOf : Cond.selects R_MO y_MO_distanceOf y_MO_distanceOf ∈ px_tw := List.mem_filter.mpr ⟨List.mem_append_left _ (by decide +kernel), by decide +kernel⟩
theorem ws_MO_find : Cond.selects R_MO y_MO_find y_MO_find ∈ px_tw := List.mem_filter.mpr ⟨List.mem_append_left _ (by decide +kernel), by decide +kernel⟩
theorem ws_MO_goesBefore : Cond.selects R_MO y_MO_goesBefore y_MO_goesBefore ∈ px_tw := List.mem_filter.mpr ⟨List.mem_append_left _ (by decide +kernel), by decide +kernel⟩
theorem ws_MO_has : Cond.selects R_MO y_MO_has y_MO_has ∈ px_tw := List.mem_filter.mpr ⟨List.mem_append_left _ (by decide +kernel), by decide +kernel⟩
theorem ws_MO_isBoard : Cond.selects R_MO y_MO_isBoard y_MO_isBoard ∈ px_tw := List.mem_filter.mpr ⟨List.mem_append_left _ (by decide +kernel), by decide +kernel⟩
theorem ws_MO_isLess : Cond.selects R_MO y_MO_isLess y_MO_isLess ∈ px_tw := List.mem_filter.mpr ⟨List.mem_append_left _ (by decide +kernel), by decide +kernel⟩
theorem ws_MO_isLine : Cond.selects R_MO y_MO_isLine y_MO_isLine ∈ px_tw := List.mem_filter.mpr ⟨List.mem_append_left _ (by decide +kernel), by decide +kernel⟩
theorem ws_MO_isName : Cond.selects R_MO y_MO_isName y_MO_isName ∈ px_tw := List.mem_filter.mpr ⟨List.mem_append_left _ (by decide +kernel), by decide +kernel⟩
theorem ws_MO_isShown : Cond.selects R_MO y_MO_isShown y_MO_isShown ∈ px_tw := List.mem_filter.mpr ⟨List.mem_append_left _ (by decide +kernel), by decide +kernel⟩
theorem ws_MO_letter : Cond.selects R_MO y_MO_letter y_MO_letter ∈ px_tw := List.mem_filter.mpr ⟨List.mem_append_left _ (by decide +kernel), by decide +kernel⟩
theorem ws_MO_lineWidth : Cond.selects R_MO y_MO_lineWidth y_MO_lineWidth ∈ px_tw := List.mem_filter.mpr ⟨List.mem_append_left _ (by decide +kernel), by decide +kernel⟩
theorem ws_MO_look : Cond.selects R_MO y_MO_look y_MO_look ∈ px_tw := List.mem_filter.mpr ⟨List.mem_append_left _ (by decide +kernel), by decide +kernel⟩
theorem ws_MO_measure : Cond.selects R_MO y_MO_measure y_MO_measure ∈ px_tw := List.mem_filter.mpr ⟨List.mem_append_left _ (by decide +kernel), by decide +kernel⟩
theorem ws_MO_number : Cond.selects R_MO y_MO_number y_MO_number ∈ px_tw := List.mem_filter.mpr ⟨List.mem_append_left _ (by decide +kernel), by decide +kernel⟩
theorem ws_MO_pairOf : Cond.selects R_MO y_MO_pairOf y_MO_pairOf ∈ px_tw := List.mem_filter.mpr ⟨List.mem_append_left _ (by decide +kernel), by decide +kernel⟩
theorem ws_MO_rankAll : Cond.selects R_MO y_MO_rankAll y_MO_rankAll ∈ px_tw := List.mem_filter.mpr ⟨List.mem_append_left _ (by decide +kernel), by decide +kernel⟩
theorem ws_MO_readHeights : Cond.selects R_MO y_MO_readHeights y_MO_readHeights ∈ px_tw := List.mem_filter.mpr ⟨List.mem_append_left _ (by decide +kernel), by decide +kernel⟩
theorem ws_MO_readRule : Cond.selects R_MO y_MO_readRule y_MO_readRule ∈ px_tw := List.mem_filter.mpr ⟨List.mem_append_left _ (by decide +kernel), by decide +kernel⟩
theorem ws_RO_shortenBy : Cond.selects R_RO y_RO_shortenBy y_RO_shortenBy ∈ px_tw := List.mem_filter.mpr ⟨List.mem_append_left _ (by decide +kernel), by decide +kernel⟩
theorem ws_RR_nextSign : Cond.selects R_RR y_RR_nextSign y_RR_nextSign ∈ px_tw := List.mem_filter.mpr ⟨List.mem_append_left _ (by decide +kernel), by decide +kernel⟩
theorem ws_RR_pass : Cond.selects R_RR y_RR_pass y_RR_pass ∈ px_tw := List.mem_filter.mpr ⟨List.mem_append_left _ (by decide +kernel), by decide +kernel⟩
theorem ws_RR_readHeights : Cond.selects R_RR y_RR_readHeights y_RR_readHeights ∈ px_tw := List.mem_filter.mpr ⟨List.mem_append_left _ (by decide +kernel), by decide +kernel⟩
theorem ws_RR_readMargin : Cond.selects R_RR y_RR_readMargin y_RR_readMargin ∈ px_tw := List.mem_filter.mpr ⟨List.mem_append_left _ (by decide +kernel), by decide +kernel⟩
theorem ws_RR_readNumber : Cond.selects R_RR y_RR_readNumber y_RR_readNumber ∈ px_tw := List.mem_filter.mpr ⟨List.mem_append_left _ (by decide +kernel), by decide +kernel⟩
theorem ws_RR_readOrder : Cond.selects R_RR y_RR_readOrder y_RR_readOrder ∈ px_tw := List.mem_filter.mpr ⟨List.mem_append_left _ (by decide +kernel), by decide +kernel⟩
theorem ws_RR_readRule : Cond.selects R_RR y_RR_readRule y_RR_readRule ∈ px_tw := List.mem_filter.mpr ⟨List.mem_append_left _ (by decide +kernel), by decide +kernel⟩
theorem ws_SB_isBoard : Cond.selects R_SB y_SB_isBoard y_SB_isBoard ∈ px_tw := List.mem_filter.mpr ⟨List.mem_append_left _ (by decide +kernel), by decide +kernel⟩
theorem ws_SB_isLine : Cond.selects R_SB y_SB_isLine y_SB_isLine ∈ px_tw := List.mem_filter.mpr ⟨List.mem_append_left _ (by decide +kernel), by decide +kernel⟩
theorem ws_SB_isName : Cond.selects R_SB y_SB_isName y_SB_isName ∈ px_tw := List.mem_filter.mpr ⟨List.mem_append_left _ (by decide +kernel), by decide +kernel⟩
theorem ws_SH_arrowLeft : Cond.selects R_SH y_SH_arrowLeft y_SH_arrowLeft ∈ px_tw := List.mem_filter.mpr ⟨List.mem_append_left _ (by decide +kernel), by decide +kernel⟩
theorem ws_SH_letterLeft : Cond.selects R_SH y_SH_letterLeft y_SH_letterLeft ∈ px_tw := List.mem_filter.mpr ⟨List.mem_append_left _ (by decide +kernel), by decide +kernel⟩
theorem ws_SH_lineLeft : Cond.selects R_SH y_SH_lineLeft y_SH_lineLeft ∈ px_tw := List.mem_filter.mpr ⟨List.mem_append_left _ (by decide +kernel), by decide +kernel⟩
theorem ws_SH_lineWidth : Cond.selects R_SH y_SH_lineWidth y_SH_lineWidth ∈ px_tw := List.mem_filter.mpr ⟨List.mem_append_left _ (by decide +kernel), by decide +kernel⟩
theorem ws_SH_nameOf : Cond.selects R_SH y_SH_nameOf y_SH_nameOf ∈ px_tw := List.mem_filter.mpr ⟨List.mem_append_left _ (by decide +kernel), by decide +kernel⟩
