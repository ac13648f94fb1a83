def px_sc (L : Nat) (xs : Nat → Int32) (i : Int32) : Option Int32 := if ¬ i < 0 ∧ i.toNatClampNeg < L then some (xs i.toNatClampNeg) else none
section PXL
variable {p : Program} {l : Launch} {e : Env} {R : Room} {s : State} {m : MethodId} {args : Array Value} {below : List Frame} {meth : Method} {c : Code} {H : Heap} {locs : List Loc} {cells slots : Nat} {Q : State → Prop} {cc : ByteArray} {pc : Nat} {ls : Array Slot} {rest : List Value} {A : Nat → Prop} {H0 : Heap}
theorem px_rsc (hexec : p.tables.exec = Jvm.exec) (hb : c.code = cc) {b L : Nat} {xs : Nat → Int32} (hX : va_X b L xs s H0) (hbl : b < H0.size) (hbA : ¬ A b) (hS : va_S A H0 H locs) {i v : Int32} (hv : px_sc L xs i = some v) (hdg : decode cc pc = .ok (.iaload, 1))
    (kk : W p l e R s m args below meth c H locs cells slots Q (F0 m (pc + 1) ls (.int v :: rest))) : W p l e R s m args below meth c H locs cells slots Q (F0 m pc ls (.int i :: .ref b :: rest)) := by
  unfold px_sc at hv
  split at hv
  · rename_i h
    cases hv
    exact va_sld hexec hb hX hbl hbA hS (fun q => q.elim h.1 (fun q => absurd h.2 (Nat.not_lt.mpr q))) hdg kk
  · cases hv
end PXL
theorem px_out19 {x : Int32} (h0 : ¬ x = 0) (h1 : ¬ x = 1) (h2 : ¬ x = 2) (h3 : ¬ x = 3) (h4 : ¬ x = 4) (h5 : ¬ x = 5) (h6 : ¬ x = 6) (h7 : ¬ x = 7) (h8 : ¬ x = 8) (h9 : ¬ x = 9) (h10 : ¬ x = 10) (h11 : ¬ x = 11) (h12 : ¬ x = 12) (h13 : ¬ x = 13) (h14 : ¬ x = 14) (h15 : ¬ x = 15) (h16 : ¬ x = 16) (h17 : ¬ x = 17) (h18 : ¬ x = 18) : x.toInt < 0 ∨ 18 < x.toInt := by
  have e0 : x.toInt ≠ 0 := fun q => h0 (Int32.toInt_inj.mp (q.trans rfl))
  have e1 : x.toInt ≠ 1 := fun q => h1 (Int32.toInt_inj.mp (q.trans rfl))
  have e2 : x.toInt ≠ 2 := fun q => h2 (Int32.toInt_inj.mp (q.trans rfl))
  have e3 : x.toInt ≠ 3 := fun q => h3 (Int32.toInt_inj.mp (q.trans rfl))
  have e4 : x.toInt ≠ 4 := fun q => h4 (Int32.toInt_inj.mp (q.trans rfl))
  have e5 : x.toInt ≠ 5 := fun q => h5 (Int32.toInt_inj.mp (q.trans rfl))
  have e6 : x.toInt ≠ 6 := fun q => h6 (Int32.toInt_inj.mp (q.trans rfl))
  have e7 : x.toInt ≠ 7 := fun q => h7 (Int32.toInt_inj.mp (q.trans rfl))
  have e8 : x.toInt ≠ 8 := fun q => h8 (Int32.toInt_inj.mp (q.trans rfl))
  have e9 : x.toInt ≠ 9 := fun q => h9 (Int32.toInt_inj.mp (q.trans rfl))
  have e10 : x.toInt ≠ 10 := fun q => h10 (Int32.toInt_inj.mp (q.trans rfl))
  have e11 : x.toInt ≠ 11 := fun q => h11 (Int32.toInt_inj.mp (q.trans rfl))
  have e12 : x.toInt ≠ 12 := fun q => h12 (Int32.toInt_inj.mp (q.trans rfl))
  have e13 : x.toInt ≠ 13 := fun q => h13 (Int32.toInt_inj.mp (q.trans rfl))
  have e14 : x.toInt ≠ 14 := fun q => h14 (Int32.toInt_inj.mp (q.trans rfl))
  have e15 : x.toInt ≠ 15 := fun q => h15 (Int32.toInt_inj.mp (q.trans rfl))
  have e16 : x.toInt ≠ 16 := fun q => h16 (Int32.toInt_inj.mp (q.trans rfl))
  have e17 : x.toInt ≠ 17 := fun q => h17 (Int32.toInt_inj.mp (q.trans rfl))
  have e18 : x.toInt ≠ 18 := fun q => h18 (Int32.toInt_inj.mp (q.trans rfl))
  omega
def f_LW (L : Nat) (xs : Nat → Int32) : Nat → Nat → Nat → Int32 → px_M → Option Int32
  | 0, _, _, _, _ => none
  | n + 1, o1, o2, x3, M =>
    if ((Int32.ofNat L) - 5) < x3 then
    some 1
    else
    (px_sc L xs x3).bind fun v4 =>
    if (v4 &&& 31) = 0 then
    (px_sc L xs (x3 + 1)).bind fun v7 =>
    (px_ob 0 M o1).bind fun _ =>
    (f_SB_unit o1 v7 M).bind fun (v11, M9) =>
    (px_sc L xs (x3 + 1)).bind fun v12 =>
    (px_ob 11 M9 o2).bind fun _ =>
    (f_MO_unit o2 v12 M9).bind fun (v16, M14) =>
    if v11 = v16 then
    f_LW L xs n o1 o2 (x3 + 5) M14
    else
    some 0
    else if (v4 &&& 31) = 1 then
    (px_ob 0 M o1).bind fun _ =>
    (f_SB_rules o1 M).bind fun (v23, M21) =>
    (px_ob 11 M21 o2).bind fun _ =>
    (f_MO_rules o2 M21).bind fun (v26, M24) =>
    if v23 = v26 then
    f_LW L xs n o1 o2 (x3 + 5) M24
    else
    some 0
    else if (v4 &&& 31) = 2 then
    (px_ob 0 M o1).bind fun _ =>
    (f_SB_name o1 M).bind fun (v33, M31) =>
    (px_ob 11 M31 o2).bind fun _ =>
    (f_MO_name o2 M31).bind fun (v36, M34) =>
    if v33 = v36 then
    f_LW L xs n o1 o2 (x3 + 5) M34
    else
    some 0
    else if (v4 &&& 31) = 3 then
    (px_sc L xs (x3 + 1)).bind fun v41 =>
    (px_sc L xs (x3 + 2)).bind fun v43 =>
    (px_ob 0 M o1).bind fun _ =>
    (f_SB_glyph o1 v41 v43 M).bind fun (v47, M45) =>
    (px_sc L xs (x3 + 1)).bind fun v48 =>
    (px_sc L xs (x3 + 2)).bind fun v50 =>
    (px_ob 11 M45 o2).bind fun _ =>
    (f_MO_glyph o2 v48 v50 M45).bind fun (v54, M52) =>
    if v47 = v54 then
    f_LW L xs n o1 o2 (x3 + 5) M52
    else
    some 0
    else if (v4 &&& 31) = 4 then
    (px_sc L xs (x3 + 1)).bind fun v59 =>
    (px_sc L xs (x3 + 2)).bind fun v61 =>
    (px_sc L xs (x3 + 3)).bind fun v63 =>
    (px_ob 0 M o1).bind fun _ =>
    (f_SB_kern o1 v59 v61 v63 M).bind fun (v67, M65) =>
    (px_sc L xs (x3 + 1)).bind fun v68 =>
    (px_sc L xs (x3 + 2)).bind fun v70 =>
    (px_sc L xs (x3 + 3)).bind fun v72 =>
    (px_ob 11 M65 o2).bind fun _ =>
    (f_MO_kern o2 v68 v70 v72 M65).bind fun (v76, M74) =>
    if v67 = v76 then
    f_LW L xs n o1 o2 (x3 + 5) M74
    else
    some 0
    else if (v4 &&& 31) = 5 then
    (px_sc L xs (x3 + 1)).bind fun v81 =>
    (px_ob 0 M o1).bind fun _ =>
    (f_SB_height o1 v81 M).bind fun (v85, M83) =>
    (px_sc L xs (x3 + 1)).bind fun v86 =>
    (px_ob 11 M83 o2).bind fun _ =>
    (f_MO_height o2 v86 M83).bind fun (v90, M88) =>
    if v85 = v90 then
    f_LW L xs n o1 o2 (x3 + 5) M88
    else
    some 0
    else if (v4 &&& 31) = 6 then
    (px_sc L xs (x3 + 1)).bind fun v95 =>
    (px_sc L xs (x3 + 2)).bind fun v97 =>
    (px_ob 0 M o1).bind fun _ =>
    (f_SB_width o1 v95 v97 M).bind fun (v101, M99) =>
    (px_sc L xs (x3 + 1)).bind fun v102 =>
    (px_sc L xs (x3 + 2)).bind fun v104 =>
    (px_ob 11 M99 o2).bind fun _ =>
    (f_MO_width o2 v102 v104 M99).bind fun (v108, M106) =>
    if v101 = v108 then
    f_LW L xs n o1 o2 (x3 + 5) M106
    else
    some 0
    else if (v4 &&& 31) = 7 then
    (px_sc L xs (x3 + 1)).bind fun v113 =>
    (px_sc L xs (x3 + 2)).bind fun v115 =>
    (px_sc L xs (x3 + 3)).bind fun v117 =>
    (px_ob 0 M o1).bind fun _ =>
    (f_SB_way o1 v113 v115 v117 M).bind fun (v121, M119) =>
    (px_sc L xs (x3 + 1)).bind fun v122 =>
    (px_sc L xs (x3 + 2)).bind fun v124 =>
    (px_sc L xs (x3 + 3)).bind fun v126 =>
    (px_ob 11 M119 o2).bind fun _ =>
    (f_MO_way o2 v122 v124 v126 M119).bind fun (v130, M128) =>
    if v121 = v130 then
    f_LW L xs n o1 o2 (x3 + 5) M128
    else
    some 0
    else if (v4 &&& 31) = 8 then
    (px_sc L xs (x3 + 1)).bind fun v135 =>
    (px_sc L xs (x3 + 2)).bind fun v137 =>
    (px_ob 0 M o1).bind fun _ =>
    (f_SB_goal o1 v135 v137 M).bind fun (v141, M139) =>
    (px_sc L xs (x3 + 1)).bind fun v142 =>
    (px_sc L xs (x3 + 2)).bind fun v144 =>
    (px_ob 11 M139 o2).bind fun _ =>
    (f_MO_goal o2 v142 v144 M139).bind fun (v148, M146) =>
    if v141 = v148 then
    f_LW L xs n o1 o2 (x3 + 5) M146
    else
    some 0
    else if (v4 &&& 31) = 9 then
    (px_sc L xs (x3 + 1)).bind fun v153 =>
    (px_ob 0 M o1).bind fun _ =>
    (f_SB_board o1 v153 M).bind fun (v157, M155) =>
    (px_sc L xs (x3 + 1)).bind fun v158 =>
    (px_ob 11 M155 o2).bind fun _ =>
    (f_MO_board o2 v158 M155).bind fun (v162, M160) =>
    if v157 = v162 then
    f_LW L xs n o1 o2 (x3 + 5) M160
    else
    some 0
    else if (v4 &&& 31) = 10 then
    (px_sc L xs (x3 + 1)).bind fun v167 =>
    (px_sc L xs (x3 + 2)).bind fun v169 =>
    (px_sc L xs (x3 + 3)).bind fun v171 =>
    (px_ob 0 M o1).bind fun _ =>
    (f_SB_on o1 v167 v169 v171 M).bind fun (v175, M173) =>
    (px_sc L xs (x3 + 1)).bind fun v176 =>
    (px_sc L xs (x3 + 2)).bind fun v178 =>
    (px_sc L xs (x3 + 3)).bind fun v180 =>
    (px_ob 11 M173 o2).bind fun _ =>
    (f_MO_on o2 v176 v178 v180 M173).bind fun (v184, M182) =>
    if v175 = v184 then
    f_LW L xs n o1 o2 (x3 + 5) M182
    else
    some 0
    else if (v4 &&& 31) = 11 then
    (px_sc L xs (x3 + 1)).bind fun v189 =>
    (px_sc L xs (x3 + 2)).bind fun v191 =>
    (px_ob 0 M o1).bind fun _ =>
    (f_SB_wide o1 v189 v191 M).bind fun (v195, M193) =>
    (px_sc L xs (x3 + 1)).bind fun v196 =>
    (px_sc L xs (x3 + 2)).bind fun v198 =>
    (px_ob 11 M193 o2).bind fun _ =>
    (f_MO_wide o2 v196 v198 M193).bind fun (v202, M200) =>
    if v195 = v202 then
    f_LW L xs n o1 o2 (x3 + 5) M200
    else
    some 0
    else if (v4 &&& 31) = 12 then
    (px_sc L xs (x3 + 1)).bind fun v207 =>
    (px_sc L xs (x3 + 2)).bind fun v209 =>
    (px_ob 0 M o1).bind fun _ =>
    (f_SB_row o1 v207 v209 M).bind fun (v213, M211) =>
    (px_sc L xs (x3 + 1)).bind fun v214 =>
    (px_sc L xs (x3 + 2)).bind fun v216 =>
    (px_ob 11 M211 o2).bind fun _ =>
    (f_MO_row o2 v214 v216 M211).bind fun (v220, M218) =>
    if v213 = v220 then
    f_LW L xs n o1 o2 (x3 + 5) M218
    else
    some 0
    else if (v4 &&& 31) = 13 then
    (px_sc L xs (x3 + 1)).bind fun v225 =>
    (px_sc L xs (x3 + 2)).bind fun v227 =>
    (px_ob 0 M o1).bind fun _ =>
    (f_SB_distance o1 v225 v227 M).bind fun (v231, M229) =>
    (px_sc L xs (x3 + 1)).bind fun v232 =>
    (px_sc L xs (x3 + 2)).bind fun v234 =>
    (px_ob 11 M229 o2).bind fun _ =>
    (f_MO_distance o2 v232 v234 M229).bind fun (v238, M236) =>
    if v231 = v238 then
    f_LW L xs n o1 o2 (x3 + 5) M236
    else
    some 0
    else if (v4 &&& 31) = 14 then
    (px_sc L xs (x3 + 1)).bind fun v243 =>
    (px_sc L xs (x3 + 2)).bind fun v245 =>
    (px_sc L xs (x3 + 3)).bind fun v247 =>
    (px_ob 0 M o1).bind fun _ =>
    (f_SB_size o1 v243 v245 v247 M).bind fun (v251, M249) =>
    (px_sc L xs (x3 + 1)).bind fun v252 =>
    (px_sc L xs (x3 + 2)).bind fun v254 =>
    (px_sc L xs (x3 + 3)).bind fun v256 =>
    (px_ob 11 M249 o2).bind fun _ =>
    (f_MO_size o2 v252 v254 v256 M249).bind fun (v260, M258) =>
    if v251 = v260 then
    f_LW L xs n o1 o2 (x3 + 5) M258
    else
    some 0
    else if (v4 &&& 31) = 15 then
    (px_sc L xs (x3 + 1)).bind fun v265 =>
    (px_sc L xs (x3 + 2)).bind fun v267 =>
    (px_sc L xs (x3 + 3)).bind fun v269 =>
    (px_sc L xs (x3 + 4)).bind fun v271 =>
    (px_ob 0 M o1).bind fun _ =>
    (f_SB_drawn o1 v265 v267 v269 v271 M).bind fun (v275, M273) =>
    (px_sc L xs (x3 + 1)).bind fun v276 =>
    (px_sc L xs (x3 + 2)).bind fun v278 =>
    (px_sc L xs (x3 + 3)).bind fun v280 =>
    (px_sc L xs (x3 + 4)).bind fun v282 =>
    (px_ob 11 M273 o2).bind fun _ =>
    (f_MO_drawn o2 v276 v278 v280 v282 M273).bind fun (v286, M284) =>
    if v275 = v286 then
    f_LW L xs n o1 o2 (x3 + 5) M284
    else
    some 0
    else if (v4 &&& 31) = 16 then
    (px_sc L xs (x3 + 1)).bind fun v291 =>
    (px_sc L xs (x3 + 2)).bind fun v293 =>
    (px_ob 0 M o1).bind fun _ =>
    (f_SB_shows o1 v291 v293 M).bind fun (v297, M295) =>
    (px_sc L xs (x3 + 1)).bind fun v298 =>
    (px_sc L xs (x3 + 2)).bind fun v300 =>
    (px_ob 11 M295 o2).bind fun _ =>
    (f_MO_shows o2 v298 v300 M295).bind fun (v304, M302) =>
    if v297 = v304 then
    f_LW L xs n o1 o2 (x3 + 5) M302
    else
    some 0
    else if (v4 &&& 31) = 17 then
    (px_sc L xs (x3 + 1)).bind fun v309 =>
    (px_sc L xs (x3 + 2)).bind fun v311 =>
    (px_ob 0 M o1).bind fun _ =>
    (f_SB_breaks o1 v309 v311 M).bind fun (v315, M313) =>
    (px_sc L xs (x3 + 1)).bind fun v316 =>
    (px_sc L xs (x3 + 2)).bind fun v318 =>
    (px_ob 11 M313 o2).bind fun _ =>
    (f_MO_breaks o2 v316 v318 M313).bind fun (v322, M320) =>
    if v315 = v322 then
    f_LW L xs n o1 o2 (x3 + 5) M320
    else
    some 0
    else if (v4 &&& 31) = 18 then
    (px_sc L xs (x3 + 1)).bind fun v327 =>
    (px_ob 0 M o1).bind fun _ =>
    (f_SB_count o1 v327 M).bind fun (v331, M329) =>
    (px_sc L xs (x3 + 1)).bind fun v332 =>
    (px_ob 11 M329 o2).bind fun _ =>
    (f_MO_count o2 v332 M329).bind fun (v336, M334) =>
    if v331 = v336 then
    f_LW L xs n o1 o2 (x3 + 5) M334
    else
    some 0
    else 
    f_LW L xs n o1 o2 (x3 + 5) M
set_option maxHeartbeats 8000000 in
set_option maxRecDepth 100000 in
theorem law_loop {p : Program} {l : Launch} {e : Env} {s : State} {m : MethodId} {below : List Frame} {meth : Method} {c : Code} {b L : Nat} {xs : Nat → Int32} {bs : Nat} {D : va_G} {G : Nat → ClassId} (ebs : bs = s.heap.size) (hx : p.tables.exec = Jvm.exec) (hb : c.code = code) (hr : meth.sig.returnType = ret) (hml : c.maxLocals = 4) (hown : s.vm.findClass R_law = some m.cls) (hts : ∀ w ∈ px_tw, w.before #[Value.ref b] s = true) (hX : va_X b L xs s s.heap) (hbl : b < s.heap.size) (hlocks : meth.locks = false) (hK : va_K D px_cl (px_tys G) s) (hN : ∀ w ∈ px_nw, va_Nw w s) (hO : ∀ C ∈ px_over, va_AO C s) (o1 o2 : Nat) : ∀ (n : Nat) (x3 : Int32) (M : px_M), f_LW L xs n o1 o2 x3 M = some 1 → ∀ (H : Heap) (locs : List Loc) (ls : Array Slot), px_W bs D px_cl (px_tys G) M H → va_S (fun q => bs ≤ q) s.heap H locs → lv_has ls 4 [(0, .ref b), (1, .ref o1), (2, .ref o2), (3, .int x3)] → W p l e room_1 s m #[Value.ref b] below meth c H locs 100 1797 (lw_Z below #[Value.ref b] s) (F0 m 18 ls []) := by
  have hbA : ¬ (fun q => bs ≤ q) b := by rw [ebs]; exact Nat.not_le.mpr hbl
  intro n
  induction n with
  | zero => intro x3 M hf; cases hf
  | succ n ih =>
    intro x3 M hf H locs ls hM hS hl
    unfold f_LW at hf
    refine lv_iload_n hx hb d_LW_law_18 rfl (lv_at hl 3 rfl) ?_
    refine lv_aload_n hx hb d_LW_law_19 rfl (lv_at hl 0 rfl) ?_
    refine va_slen hx hb hX hbl hbA hS d_LW_law_20 ?_
    refine lv_iconst (v := 5) hx hb d_LW_law_21 (by decide) ?_
    refine lv_isub hx hb d_LW_law_22 ?_
    refine lv_icmp_gt (tgt := 737) hx hb d_LW_law_23 (by decide) (fun c3 => ?_) (fun c3 => ?_)
    · have hf := px_ift hf c3
      refine lv_iconst (v := 1) hx hb d_LW_law_737 (by decide) ?_
      refine va_forget (fun q hq => by rw [← ebs]; exact hS.2.2 q hq) ?_
      refine W.widen (k := 600000) (n := 7302250) (by omega) (by omega) ?_
      exact lw_ret hx hb hr hlocks d_LW_law_738
    · have hf := px_iff hf c3
      refine lv_aload_n hx hb d_LW_law_26 rfl (lv_at hl 0 rfl) ?_
      refine lv_iload_n hx hb d_LW_law_27 rfl (lv_at hl 3 rfl) ?_
      obtain ⟨v4, h5, hf⟩ := px_bind hf
      refine px_rsc hx hb hX hbl hbA hS h5 d_LW_law_28 ?_
      refine lv_bipush (v := 31) hx hb d_LW_law_29 (by decide) ?_
      refine lv_iand hx hb d_LW_law_31 ?_
      by_cases c6 : (v4 &&& 31) = 0
      · have hf := px_ift hf c6
        refine lv_tableIn (tgt := 124) hx hb d_LW_law_32 (by rw [c6] <;> decide) (by rw [c6] <;> decide) (by rw [c6] <;> rfl) (by decide) ?_
        refine lv_aload_n hx hb d_LW_law_124 rfl (lv_at hl 1 rfl) ?_
        refine lv_aload_n hx hb d_LW_law_125 rfl (lv_at hl 0 rfl) ?_
        refine lv_iload_n hx hb d_LW_law_126 rfl (lv_at hl 3 rfl) ?_
        refine lv_iconst (v := 1) hx hb d_LW_law_127 (by decide) ?_
        refine lv_iadd hx hb d_LW_law_128 ?_
        obtain ⟨v7, h8, hf⟩ := px_bind hf
        refine px_rsc hx hb hX hbl hbA hS h8 d_LW_law_129 ?_
        obtain ⟨_, h19, hf⟩ := px_bind hf
        obtain ⟨⟨v11, M9⟩, h10, hf⟩ := px_bind hf
        dsimp only at hf
        refine px_calli (va_runV (As := [.int v7]) (rest := []) ⟨hx, hb, hml, hown, hts⟩ (c_SB_unit l bs D G o1 v7 M h10) (cwV 1 hts (px_gV w_332 w_333 w_334 w_1 w_335) rfl rfl rfl (by decide +kernel) ⟨Nat.le_of_ble_eq_true rfl, Nat.le_of_ble_eq_true rfl⟩) (px_preV px_nwok hK hN hO hM h19 rfl) rfl rfl hl.1 rfl (lv_room (Nat.le_of_ble_eq_true rfl)) d_LW_law_130 ⟨Nat.le_of_ble_eq_true rfl, Nat.le_of_ble_eq_true rfl⟩) hS (fun H locs hM hS => ?_)
        refine lv_aload_n hx hb d_LW_law_133 rfl (lv_at hl 2 rfl) ?_
        refine lv_aload_n hx hb d_LW_law_134 rfl (lv_at hl 0 rfl) ?_
        refine lv_iload_n hx hb d_LW_law_135 rfl (lv_at hl 3 rfl) ?_
        refine lv_iconst (v := 1) hx hb d_LW_law_136 (by decide) ?_
        refine lv_iadd hx hb d_LW_law_137 ?_
        obtain ⟨v12, h13, hf⟩ := px_bind hf
        refine px_rsc hx hb hX hbl hbA hS h13 d_LW_law_138 ?_
        obtain ⟨_, h18, hf⟩ := px_bind hf
        obtain ⟨⟨v16, M14⟩, h15, hf⟩ := px_bind hf
        dsimp only at hf
        refine px_calli (va_runV (As := [.int v12]) (rest := [.int v11]) ⟨hx, hb, hml, hown, hts⟩ (c_MO_unit l bs D G o2 v12 M9 h15) (cwV 1 hts (px_gV w_772 w_773 w_774 w_12 w_775) rfl rfl rfl (by decide +kernel) ⟨Nat.le_of_ble_eq_true rfl, Nat.le_of_ble_eq_true rfl⟩) (px_preV px_nwok hK hN hO hM h18 rfl) rfl rfl hl.1 rfl (lv_room (Nat.le_of_ble_eq_true rfl)) d_LW_law_139 ⟨Nat.le_of_ble_eq_true rfl, Nat.le_of_ble_eq_true rfl⟩) hS (fun H locs hM hS => ?_)
        refine lv_icmp_eq (tgt := 731) hx hb d_LW_law_142 (by decide) (fun c17 => ?_) (fun c17 => ?_)
        · have hf := px_ift hf c17
          refine lv_iinc (v := x3 + 5) (lv' := [(3, .int (x3 + 5)), (0, .ref b), (1, .ref o1), (2, .ref o2)]) hx hb d_LW_law_731 hl (k := 3) rfl (by rfl) (by decide) rfl (fun ls hl => ?_)
          refine lv_goto (tgt := 18) hx hb d_LW_law_734 (by decide) ?_
          exact ih (x3 + 5) M14 hf _ _ _ hM hS (lv_sub hl [1, 2, 3, 0] rfl)
        · have hf := px_iff hf c17
          refine lv_iconst (v := 0) hx hb d_LW_law_145 (by decide) ?_
          exact absurd hf (by decide)
      · have hf := px_iff hf c6
        by_cases c20 : (v4 &&& 31) = 1
        · have hf := px_ift hf c20
          refine lv_tableIn (tgt := 147) hx hb d_LW_law_32 (by rw [c20] <;> decide) (by rw [c20] <;> decide) (by rw [c20] <;> rfl) (by decide) ?_
          refine lv_aload_n hx hb d_LW_law_147 rfl (lv_at hl 1 rfl) ?_
          obtain ⟨_, h29, hf⟩ := px_bind hf
          obtain ⟨⟨v23, M21⟩, h22, hf⟩ := px_bind hf
          dsimp only at hf
          refine px_calli (va_runV (As := []) (rest := []) ⟨hx, hb, hml, hown, hts⟩ (c_SB_rules l bs D G o1 M h22) (cwV 0 hts (px_gV w_346 w_347 w_348 w_1 w_349) rfl rfl rfl (by decide +kernel) ⟨Nat.le_of_ble_eq_true rfl, Nat.le_of_ble_eq_true rfl⟩) (px_preV px_nwok hK hN hO hM h29 rfl) rfl rfl hl.1 rfl (lv_room (Nat.le_of_ble_eq_true rfl)) d_LW_law_148 ⟨Nat.le_of_ble_eq_true rfl, Nat.le_of_ble_eq_true rfl⟩) hS (fun H locs hM hS => ?_)
          refine lv_aload_n hx hb d_LW_law_151 rfl (lv_at hl 2 rfl) ?_
          obtain ⟨_, h28, hf⟩ := px_bind hf
          obtain ⟨⟨v26, M24⟩, h25, hf⟩ := px_bind hf
          dsimp only at hf
          refine px_calli (va_runV (As := []) (rest := [.int v23]) ⟨hx, hb, hml, hown, hts⟩ (c_MO_rules l bs D G o2 M21 h25) (cwV 0 hts (px_gV w_779 w_780 w_781 w_12 w_782) rfl rfl rfl (by decide +kernel) ⟨Nat.le_of_ble_eq_true rfl, Nat.le_of_ble_eq_true rfl⟩) (px_preV px_nwok hK hN hO hM h28 rfl) rfl rfl hl.1 rfl (lv_room (Nat.le_of_ble_eq_true rfl)) d_LW_law_152 ⟨Nat.le_of_ble_eq_true rfl, Nat.le_of_ble_eq_true rfl⟩) hS (fun H locs hM hS => ?_)
          refine lv_icmp_eq (tgt := 731) hx hb d_LW_law_155 (by decide) (fun c27 => ?_) (fun c27 => ?_)
          · have hf := px_ift hf c27
            refine lv_iinc (v := x3 + 5) (lv' := [(3, .int (x3 + 5)), (0, .ref b), (1, .ref o1), (2, .ref o2)]) hx hb d_LW_law_731 hl (k := 3) rfl (by rfl) (by decide) rfl (fun ls hl => ?_)
            refine lv_goto (tgt := 18) hx hb d_LW_law_734 (by decide) ?_
            exact ih (x3 + 5) M24 hf _ _ _ hM hS (lv_sub hl [1, 2, 3, 0] rfl)
          · have hf := px_iff hf c27
            refine lv_iconst (v := 0) hx hb d_LW_law_158 (by decide) ?_
            exact absurd hf (by decide)
        · have hf := px_iff hf c20
          by_cases c30 : (v4 &&& 31) = 2
          · have hf := px_ift hf c30
            refine lv_tableIn (tgt := 160) hx hb d_LW_law_32 (by rw [c30] <;> decide) (by rw [c30] <;> decide) (by rw [c30] <;> rfl) (by decide) ?_
            refine lv_aload_n hx hb d_LW_law_160 rfl (lv_at hl 1 rfl) ?_
            obtain ⟨_, h39, hf⟩ := px_bind hf
            obtain ⟨⟨v33, M31⟩, h32, hf⟩ := px_bind hf
            dsimp only at hf
            refine px_calli (va_runV (As := []) (rest := []) ⟨hx, hb, hml, hown, hts⟩ (c_SB_name l bs D G o1 M h32) (cwV 0 hts (px_gV w_396 w_397 w_398 w_1 w_399) rfl rfl rfl (by decide +kernel) ⟨Nat.le_of_ble_eq_true rfl, Nat.le_of_ble_eq_true rfl⟩) (px_preV px_nwok hK hN hO hM h39 rfl) rfl rfl hl.1 rfl (lv_room (Nat.le_of_ble_eq_true rfl)) d_LW_law_161 ⟨Nat.le_of_ble_eq_true rfl, Nat.le_of_ble_eq_true rfl⟩) hS (fun H locs hM hS => ?_)
            refine lv_aload_n hx hb d_LW_law_164 rfl (lv_at hl 2 rfl) ?_
            obtain ⟨_, h38, hf⟩ := px_bind hf
            obtain ⟨⟨v36, M34⟩, h35, hf⟩ := px_bind hf
            dsimp only at hf
            refine px_calli (va_runV (As := []) (rest := [.int v33]) ⟨hx, hb, hml, hown, hts⟩ (c_MO_name l bs D G o2 M31 h35) (cwV 0 hts (px_gV w_799 w_800 w_801 w_12 w_802) rfl rfl rfl (by decide +kernel) ⟨Nat.le_of_ble_eq_true rfl, Nat.le_of_ble_eq_true rfl⟩) (px_preV px_nwok hK hN hO hM h38 rfl) rfl rfl hl.1 rfl (lv_room (Nat.le_of_ble_eq_true rfl)) d_LW_law_165 ⟨Nat.le_of_ble_eq_true rfl, Nat.le_of_ble_eq_true rfl⟩) hS (fun H locs hM hS => ?_)
            refine lv_icmp_eq (tgt := 731) hx hb d_LW_law_168 (by decide) (fun c37 => ?_) (fun c37 => ?_)
            · have hf := px_ift hf c37
              refine lv_iinc (v := x3 + 5) (lv' := [(3, .int (x3 + 5)), (0, .ref b), (1, .ref o1), (2, .ref o2)]) hx hb d_LW_law_731 hl (k := 3) rfl (by rfl) (by decide) rfl (fun ls hl => ?_)
              refine lv_goto (tgt := 18) hx hb d_LW_law_734 (by decide) ?_
              exact ih (x3 + 5) M34 hf _ _ _ hM hS (lv_sub hl [1, 2, 3, 0] rfl)
            · have hf := px_iff hf c37
              refine lv_iconst (v := 0) hx hb d_LW_law_171 (by decide) ?_
              exact absurd hf (by decide)
          · have hf := px_iff hf c30
            by_cases c40 : (v4 &&& 31) = 3
            · have hf := px_ift hf c40
              refine lv_tableIn (tgt := 173) hx hb d_LW_law_32 (by rw [c40] <;> decide) (by rw [c40] <;> decide) (by rw [c40] <;> rfl) (by decide) ?_
              refine lv_aload_n hx hb d_LW_law_173 rfl (lv_at hl 1 rfl) ?_
              refine lv_aload_n hx hb d_LW_law_174 rfl (lv_at hl 0 rfl) ?_
              refine lv_iload_n hx hb d_LW_law_175 rfl (lv_at hl 3 rfl) ?_
              refine lv_iconst (v := 1) hx hb d_LW_law_176 (by decide) ?_
              refine lv_iadd hx hb d_LW_law_177 ?_
              obtain ⟨v41, h42, hf⟩ := px_bind hf
              refine px_rsc hx hb hX hbl hbA hS h42 d_LW_law_178 ?_
              refine lv_aload_n hx hb d_LW_law_179 rfl (lv_at hl 0 rfl) ?_
              refine lv_iload_n hx hb d_LW_law_180 rfl (lv_at hl 3 rfl) ?_
              refine lv_iconst (v := 2) hx hb d_LW_law_181 (by decide) ?_
              refine lv_iadd hx hb d_LW_law_182 ?_
              obtain ⟨v43, h44, hf⟩ := px_bind hf
              refine px_rsc hx hb hX hbl hbA hS h44 d_LW_law_183 ?_
              obtain ⟨_, h57, hf⟩ := px_bind hf
              obtain ⟨⟨v47, M45⟩, h46, hf⟩ := px_bind hf
              dsimp only at hf
              refine px_calli (va_runV (As := [.int v41, .int v43]) (rest := []) ⟨hx, hb, hml, hown, hts⟩ (c_SB_glyph l bs D G o1 v41 v43 M h46) (cwV 2 hts (px_gV w_405 w_406 w_407 w_1 w_408) rfl rfl rfl (by decide +kernel) ⟨Nat.le_of_ble_eq_true rfl, Nat.le_of_ble_eq_true rfl⟩) (px_preV px_nwok hK hN hO hM h57 rfl) rfl rfl hl.1 rfl (lv_room (Nat.le_of_ble_eq_true rfl)) d_LW_law_184 ⟨Nat.le_of_ble_eq_true rfl, Nat.le_of_ble_eq_true rfl⟩) hS (fun H locs hM hS => ?_)
              refine lv_aload_n hx hb d_LW_law_187 rfl (lv_at hl 2 rfl) ?_
              refine lv_aload_n hx hb d_LW_law_188 rfl (lv_at hl 0 rfl) ?_
              refine lv_iload_n hx hb d_LW_law_189 rfl (lv_at hl 3 rfl) ?_
              refine lv_iconst (v := 1) hx hb d_LW_law_190 (by decide) ?_
              refine lv_iadd hx hb d_LW_law_191 ?_
              obtain ⟨v48, h49, hf⟩ := px_bind hf
              refine px_rsc hx hb hX hbl hbA hS h49 d_LW_law_192 ?_
              refine lv_aload_n hx hb d_LW_law_193 rfl (lv_at hl 0 rfl) ?_
              refine lv_iload_n hx hb d_LW_law_194 rfl (lv_at hl 3 rfl) ?_
              refine lv_iconst (v := 2) hx hb d_LW_law_195 (by decide) ?_
              refine lv_iadd hx hb d_LW_law_196 ?_
              obtain ⟨v50, h51, hf⟩ := px_bind hf
              refine px_rsc hx hb hX hbl hbA hS h51 d_LW_law_197 ?_
              obtain ⟨_, h56, hf⟩ := px_bind hf
              obtain ⟨⟨v54, M52⟩, h53, hf⟩ := px_bind hf
              dsimp only at hf
              refine px_calli (va_runV (As := [.int v48, .int v50]) (rest := [.int v47]) ⟨hx, hb, hml, hown, hts⟩ (c_MO_glyph l bs D G o2 v48 v50 M45 h53) (cwV 2 hts (px_gV w_803 w_804 w_805 w_12 w_806) rfl rfl rfl (by decide +kernel) ⟨Nat.le_of_ble_eq_true rfl, Nat.le_of_ble_eq_true rfl⟩) (px_preV px_nwok hK hN hO hM h56 rfl) rfl rfl hl.1 rfl (lv_room (Nat.le_of_ble_eq_true rfl)) d_LW_law_198 ⟨Nat.le_of_ble_eq_true rfl, Nat.le_of_ble_eq_true rfl⟩) hS (fun H locs hM hS => ?_)
              refine lv_icmp_eq (tgt := 731) hx hb d_LW_law_201 (by decide) (fun c55 => ?_) (fun c55 => ?_)
              · have hf := px_ift hf c55
                refine lv_iinc (v := x3 + 5) (lv' := [(3, .int (x3 + 5)), (0, .ref b), (1, .ref o1), (2, .ref o2)]) hx hb d_LW_law_731 hl (k := 3) rfl (by rfl) (by decide) rfl (fun ls hl => ?_)
                refine lv_goto (tgt := 18) hx hb d_LW_law_734 (by decide) ?_
                exact ih (x3 + 5) M52 hf _ _ _ hM hS (lv_sub hl [1, 2, 3, 0] rfl)
              · have hf := px_iff hf c55
                refine lv_iconst (v := 0) hx hb d_LW_law_204 (by decide) ?_
                exact absurd hf (by decide)
            · have hf := px_iff hf c40
              by_cases c58 : (v4 &&& 31) = 4
              · have hf := px_ift hf c58
                refine lv_tableIn (tgt := 206) hx hb d_LW_law_32 (by rw [c58] <;> decide) (by rw [c58] <;> decide) (by rw [c58] <;> rfl) (by decide) ?_
                refine lv_aload_n hx hb d_LW_law_206 rfl (lv_at hl 1 rfl) ?_
                refine lv_aload_n hx hb d_LW_law_207 rfl (lv_at hl 0 rfl) ?_
                refine lv_iload_n hx hb d_LW_law_208 rfl (lv_at hl 3 rfl) ?_
                refine lv_iconst (v := 1) hx hb d_LW_law_209 (by decide) ?_
                refine lv_iadd hx hb d_LW_law_210 ?_
                obtain ⟨v59, h60, hf⟩ := px_bind hf
                refine px_rsc hx hb hX hbl hbA hS h60 d_LW_law_211 ?_
                refine lv_aload_n hx hb d_LW_law_212 rfl (lv_at hl 0 rfl) ?_
                refine lv_iload_n hx hb d_LW_law_213 rfl (lv_at hl 3 rfl) ?_
                refine lv_iconst (v := 2) hx hb d_LW_law_214 (by decide) ?_
                refine lv_iadd hx hb d_LW_law_215 ?_
                obtain ⟨v61, h62, hf⟩ := px_bind hf
                refine px_rsc hx hb hX hbl hbA hS h62 d_LW_law_216 ?_
                refine lv_aload_n hx hb d_LW_law_217 rfl (lv_at hl 0 rfl) ?_
                refine lv_iload_n hx hb d_LW_law_218 rfl (lv_at hl 3 rfl) ?_
                refine lv_iconst (v := 3) hx hb d_LW_law_219 (by decide) ?_
                refine lv_iadd hx hb d_LW_law_220 ?_
                obtain ⟨v63, h64, hf⟩ := px_bind hf
                refine px_rsc hx hb hX hbl hbA hS h64 d_LW_law_221 ?_
                obtain ⟨_, h79, hf⟩ := px_bind hf
                obtain ⟨⟨v67, M65⟩, h66, hf⟩ := px_bind hf
                dsimp only at hf
                refine px_calli (va_runV (As := [.int v59, .int v61, .int v63]) (rest := []) ⟨hx, hb, hml, hown, hts⟩ (c_SB_kern l bs D G o1 v59 v61 v63 M h66) (cwV 3 hts (px_gV w_413 w_414 w_415 w_1 w_416) rfl rfl rfl (by decide +kernel) ⟨Nat.le_of_ble_eq_true rfl, Nat.le_of_ble_eq_true rfl⟩) (px_preV px_nwok hK hN hO hM h79 rfl) rfl rfl hl.1 rfl (lv_room (Nat.le_of_ble_eq_true rfl)) d_LW_law_222 ⟨Nat.le_of_ble_eq_true rfl, Nat.le_of_ble_eq_true rfl⟩) hS (fun H locs hM hS => ?_)
                refine lv_aload_n hx hb d_LW_law_225 rfl (lv_at hl 2 rfl) ?_
                refine lv_aload_n hx hb d_LW_law_226 rfl (lv_at hl 0 rfl) ?_
                refine lv_iload_n hx hb d_LW_law_227 rfl (lv_at hl 3 rfl) ?_
                refine lv_iconst (v := 1) hx hb d_LW_law_228 (by decide) ?_
                refine lv_iadd hx hb d_LW_law_229 ?_
                obtain ⟨v68, h69, hf⟩ := px_bind hf
                refine px_rsc hx hb hX hbl hbA hS h69 d_LW_law_230 ?_
                refine lv_aload_n hx hb d_LW_law_231 rfl (lv_at hl 0 rfl) ?_
                refine lv_iload_n hx hb d_LW_law_232 rfl (lv_at hl 3 rfl) ?_
                refine lv_iconst (v := 2) hx hb d_LW_law_233 (by decide) ?_
                refine lv_iadd hx hb d_LW_law_234 ?_
                obtain ⟨v70, h71, hf⟩ := px_bind hf
                refine px_rsc hx hb hX hbl hbA hS h71 d_LW_law_235 ?_
                refine lv_aload_n hx hb d_LW_law_236 rfl (lv_at hl 0 rfl) ?_
                refine lv_iload_n hx hb d_LW_law_237 rfl (lv_at hl 3 rfl) ?_
                refine lv_iconst (v := 3) hx hb d_LW_law_238 (by decide) ?_
                refine lv_iadd hx hb d_LW_law_239 ?_
                obtain ⟨v72, h73, hf⟩ := px_bind hf
                refine px_rsc hx hb hX hbl hbA hS h73 d_LW_law_240 ?_
                obtain ⟨_, h78, hf⟩ := px_bind hf
                obtain ⟨⟨v76, M74⟩, h75, hf⟩ := px_bind hf
                dsimp only at hf
                refine px_calli (va_runV (As := [.int v68, .int v70, .int v72]) (rest := [.int v67]) ⟨hx, hb, hml, hown, hts⟩ (c_MO_kern l bs D G o2 v68 v70 v72 M65 h75) (cwV 3 hts (px_gV w_807 w_808 w_809 w_12 w_810) rfl rfl rfl (by decide +kernel) ⟨Nat.le_of_ble_eq_true rfl, Nat.le_of_ble_eq_true rfl⟩) (px_preV px_nwok hK hN hO hM h78 rfl) rfl rfl hl.1 rfl (lv_room (Nat.le_of_ble_eq_true rfl)) d_LW_law_241 ⟨Nat.le_of_ble_eq_true rfl, Nat.le_of_ble_eq_true rfl⟩) hS (fun H locs hM hS => ?_)
                refine lv_icmp_eq (tgt := 731) hx hb d_LW_law_244 (by decide) (fun c77 => ?_) (fun c77 => ?_)
                · have hf := px_ift hf c77
                  refine lv_iinc (v := x3 + 5) (lv' := [(3, .int (x3 + 5)), (0, .ref b), (1, .ref o1), (2, .ref o2)]) hx hb d_LW_law_731 hl (k := 3) rfl (by rfl) (by decide) rfl (fun ls hl => ?_)
                  refine lv_goto (tgt := 18) hx hb d_LW_law_734 (by decide) ?_
                  exact ih (x3 + 5) M74 hf _ _ _ hM hS (lv_sub hl [1, 2, 3, 0] rfl)
                · have hf := px_iff hf c77
                  refine lv_iconst (v := 0) hx hb d_LW_law_247 (by decide) ?_
                  exact absurd hf (by decide)
              · have hf := px_iff hf c58
                by_cases c80 : (v4 &&& 31) = 5
                · have hf := px_ift hf c80
                  refine lv_tableIn (tgt := 249) hx hb d_LW_law_32 (by rw [c80] <;> decide) (by rw [c80] <;> decide) (by rw [c80] <;> rfl) (by decide) ?_
                  refine lv_aload_n hx hb d_LW_law_249 rfl (lv_at hl 1 rfl) ?_
                  refine lv_aload_n hx hb d_LW_law_250 rfl (lv_at hl 0 rfl) ?_
                  refine lv_iload_n hx hb d_LW_law_251 rfl (lv_at hl 3 rfl) ?_
                  refine lv_iconst (v := 1) hx hb d_LW_law_252 (by decide) ?_
                  refine lv_iadd hx hb d_LW_law_253 ?_
                  obtain ⟨v81, h82, hf⟩ := px_bind hf
                  refine px_rsc hx hb hX hbl hbA hS h82 d_LW_law_254 ?_
                  obtain ⟨_, h93, hf⟩ := px_bind hf
                  obtain ⟨⟨v85, M83⟩, h84, hf⟩ := px_bind hf
                  dsimp only at hf
                  refine px_calli (va_runV (As := [.int v81]) (rest := []) ⟨hx, hb, hml, hown, hts⟩ (c_SB_height l bs D G o1 v81 M h84) (cwV 1 hts (px_gV w_425 w_426 w_427 w_1 w_428) rfl rfl rfl (by decide +kernel) ⟨Nat.le_of_ble_eq_true rfl, Nat.le_of_ble_eq_true rfl⟩) (px_preV px_nwok hK hN hO hM h93 rfl) rfl rfl hl.1 rfl (lv_room (Nat.le_of_ble_eq_true rfl)) d_LW_law_255 ⟨Nat.le_of_ble_eq_true rfl, Nat.le_of_ble_eq_true rfl⟩) hS (fun H locs hM hS => ?_)
                  refine lv_aload_n hx hb d_LW_law_258 rfl (lv_at hl 2 rfl) ?_
                  refine lv_aload_n hx hb d_LW_law_259 rfl (lv_at hl 0 rfl) ?_
                  refine lv_iload_n hx hb d_LW_law_260 rfl (lv_at hl 3 rfl) ?_
                  refine lv_iconst (v := 1) hx hb d_LW_law_261 (by decide) ?_
                  refine lv_iadd hx hb d_LW_law_262 ?_
                  obtain ⟨v86, h87, hf⟩ := px_bind hf
                  refine px_rsc hx hb hX hbl hbA hS h87 d_LW_law_263 ?_
                  obtain ⟨_, h92, hf⟩ := px_bind hf
                  obtain ⟨⟨v90, M88⟩, h89, hf⟩ := px_bind hf
                  dsimp only at hf
                  refine px_calli (va_runV (As := [.int v86]) (rest := [.int v85]) ⟨hx, hb, hml, hown, hts⟩ (c_MO_height l bs D G o2 v86 M83 h89) (cwV 1 hts (px_gV w_815 w_816 w_817 w_12 w_818) rfl rfl rfl (by decide +kernel) ⟨Nat.le_of_ble_eq_true rfl, Nat.le_of_ble_eq_true rfl⟩) (px_preV px_nwok hK hN hO hM h92 rfl) rfl rfl hl.1 rfl (lv_room (Nat.le_of_ble_eq_true rfl)) d_LW_law_264 ⟨Nat.le_of_ble_eq_true rfl, Nat.le_of_ble_eq_true rfl⟩) hS (fun H locs hM hS => ?_)
                  refine lv_icmp_eq (tgt := 731) hx hb d_LW_law_267 (by decide) (fun c91 => ?_) (fun c91 => ?_)
                  · have hf := px_ift hf c91
                    refine lv_iinc (v := x3 + 5) (lv' := [(3, .int (x3 + 5)), (0, .ref b), (1, .ref o1), (2, .ref o2)]) hx hb d_LW_law_731 hl (k := 3) rfl (by rfl) (by decide) rfl (fun ls hl => ?_)
                    refine lv_goto (tgt := 18) hx hb d_LW_law_734 (by decide) ?_
                    exact ih (x3 + 5) M88 hf _ _ _ hM hS (lv_sub hl [1, 2, 3, 0] rfl)
                  · have hf := px_iff hf c91
                    refine lv_iconst (v := 0) hx hb d_LW_law_270 (by decide) ?_
                    exact absurd hf (by decide)
                · have hf := px_iff hf c80
                  by_cases c94 : (v4 &&& 31) = 6
                  · have hf := px_ift hf c94
                    refine lv_tableIn (tgt := 272) hx hb d_LW_law_32 (by rw [c94] <;> decide) (by rw [c94] <;> decide) (by rw [c94] <;> rfl) (by decide) ?_
                    refine lv_aload_n hx hb d_LW_law_272 rfl (lv_at hl 1 rfl) ?_
                    refine lv_aload_n hx hb d_LW_law_273 rfl (lv_at hl 0 rfl) ?_
                    refine lv_iload_n hx hb d_LW_law_274 rfl (lv_at hl 3 rfl) ?_
                    refine lv_iconst (v := 1) hx hb d_LW_law_275 (by decide) ?_
                    refine lv_iadd hx hb d_LW_law_276 ?_
                    obtain ⟨v95, h96, hf⟩ := px_bind hf
                    refine px_rsc hx hb hX hbl hbA hS h96 d_LW_law_277 ?_
                    refine lv_aload_n hx hb d_LW_law_278 rfl (lv_at hl 0 rfl) ?_
                    refine lv_iload_n hx hb d_LW_law_279 rfl (lv_at hl 3 rfl) ?_
                    refine lv_iconst (v := 2) hx hb d_LW_law_280 (by decide) ?_
                    refine lv_iadd hx hb d_LW_law_281 ?_
                    obtain ⟨v97, h98, hf⟩ := px_bind hf
                    refine px_rsc hx hb hX hbl hbA hS h98 d_LW_law_282 ?_
                    obtain ⟨_, h111, hf⟩ := px_bind hf
                    obtain ⟨⟨v101, M99⟩, h100, hf⟩ := px_bind hf
                    dsimp only at hf
                    refine px_calli (va_runV (As := [.int v95, .int v97]) (rest := []) ⟨hx, hb, hml, hown, hts⟩ (c_SB_width l bs D G o1 v95 v97 M h100) (cwV 2 hts (px_gV w_436 w_437 w_438 w_1 w_439) rfl rfl rfl (by decide +kernel) ⟨Nat.le_of_ble_eq_true rfl, Nat.le_of_ble_eq_true rfl⟩) (px_preV px_nwok hK hN hO hM h111 rfl) rfl rfl hl.1 rfl (lv_room (Nat.le_of_ble_eq_true rfl)) d_LW_law_283 ⟨Nat.le_of_ble_eq_true rfl, Nat.le_of_ble_eq_true rfl⟩) hS (fun H locs hM hS => ?_)
                    refine lv_aload_n hx hb d_LW_law_286 rfl (lv_at hl 2 rfl) ?_
                    refine lv_aload_n hx hb d_LW_law_287 rfl (lv_at hl 0 rfl) ?_
                    refine lv_iload_n hx hb d_LW_law_288 rfl (lv_at hl 3 rfl) ?_
                    refine lv_iconst (v := 1) hx hb d_LW_law_289 (by decide) ?_
                    refine lv_iadd hx hb d_LW_law_290 ?_
                    obtain ⟨v102, h103, hf⟩ := px_bind hf
                    refine px_rsc hx hb hX hbl hbA hS h103 d_LW_law_291 ?_
                    refine lv_aload_n hx hb d_LW_law_292 rfl (lv_at hl 0 rfl) ?_
                    refine lv_iload_n hx hb d_LW_law_293 rfl (lv_at hl 3 rfl) ?_
                    refine lv_iconst (v := 2) hx hb d_LW_law_294 (by decide) ?_
                    refine lv_iadd hx hb d_LW_law_295 ?_
                    obtain ⟨v104, h105, hf⟩ := px_bind hf
                    refine px_rsc hx hb hX hbl hbA hS h105 d_LW_law_296 ?_
                    obtain ⟨_, h110, hf⟩ := px_bind hf
                    obtain ⟨⟨v108, M106⟩, h107, hf⟩ := px_bind hf
                    dsimp only at hf
                    refine px_calli (va_runV (As := [.int v102, .int v104]) (rest := [.int v101]) ⟨hx, hb, hml, hown, hts⟩ (c_MO_width l bs D G o2 v102 v104 M99 h107) (cwV 2 hts (px_gV w_822 w_823 w_824 w_12 w_825) rfl rfl rfl (by decide +kernel) ⟨Nat.le_of_ble_eq_true rfl, Nat.le_of_ble_eq_true rfl⟩) (px_preV px_nwok hK hN hO hM h110 rfl) rfl rfl hl.1 rfl (lv_room (Nat.le_of_ble_eq_true rfl)) d_LW_law_297 ⟨Nat.le_of_ble_eq_true rfl, Nat.le_of_ble_eq_true rfl⟩) hS (fun H locs hM hS => ?_)
                    refine lv_icmp_eq (tgt := 731) hx hb d_LW_law_300 (by decide) (fun c109 => ?_) (fun c109 => ?_)
                    · have hf := px_ift hf c109
                      refine lv_iinc (v := x3 + 5) (lv' := [(3, .int (x3 + 5)), (0, .ref b), (1, .ref o1), (2, .ref o2)]) hx hb d_LW_law_731 hl (k := 3) rfl (by rfl) (by decide) rfl (fun ls hl => ?_)
                      refine lv_goto (tgt := 18) hx hb d_LW_law_734 (by decide) ?_
                      exact ih (x3 + 5) M106 hf _ _ _ hM hS (lv_sub hl [1, 2, 3, 0] rfl)
                    · have hf := px_iff hf c109
                      refine lv_iconst (v := 0) hx hb d_LW_law_303 (by decide) ?_
                      exact absurd hf (by decide)
                  · have hf := px_iff hf c94
                    by_cases c112 : (v4 &&& 31) = 7
                    · have hf := px_ift hf c112
                      refine lv_tableIn (tgt := 305) hx hb d_LW_law_32 (by rw [c112] <;> decide) (by rw [c112] <;> decide) (by rw [c112] <;> rfl) (by decide) ?_
                      refine lv_aload_n hx hb d_LW_law_305 rfl (lv_at hl 1 rfl) ?_
                      refine lv_aload_n hx hb d_LW_law_306 rfl (lv_at hl 0 rfl) ?_
                      refine lv_iload_n hx hb d_LW_law_307 rfl (lv_at hl 3 rfl) ?_
                      refine lv_iconst (v := 1) hx hb d_LW_law_308 (by decide) ?_
                      refine lv_iadd hx hb d_LW_law_309 ?_
                      obtain ⟨v113, h114, hf⟩ := px_bind hf
                      refine px_rsc hx hb hX hbl hbA hS h114 d_LW_law_310 ?_
                      refine lv_aload_n hx hb d_LW_law_311 rfl (lv_at hl 0 rfl) ?_
                      refine lv_iload_n hx hb d_LW_law_312 rfl (lv_at hl 3 rfl) ?_
                      refine lv_iconst (v := 2) hx hb d_LW_law_313 (by decide) ?_
                      refine lv_iadd hx hb d_LW_law_314 ?_
                      obtain ⟨v115, h116, hf⟩ := px_bind hf
                      refine px_rsc hx hb hX hbl hbA hS h116 d_LW_law_315 ?_
                      refine lv_aload_n hx hb d_LW_law_316 rfl (lv_at hl 0 rfl) ?_
                      refine lv_iload_n hx hb d_LW_law_317 rfl (lv_at hl 3 rfl) ?_
                      refine lv_iconst (v := 3) hx hb d_LW_law_318 (by decide) ?_
                      refine lv_iadd hx hb d_LW_law_319 ?_
                      obtain ⟨v117, h118, hf⟩ := px_bind hf
                      refine px_rsc hx hb hX hbl hbA hS h118 d_LW_law_320 ?_
                      obtain ⟨_, h133, hf⟩ := px_bind hf
                      obtain ⟨⟨v121, M119⟩, h120, hf⟩ := px_bind hf
                      dsimp only at hf
                      refine px_calli (va_runV (As := [.int v113, .int v115, .int v117]) (rest := []) ⟨hx, hb, hml, hown, hts⟩ (c_SB_way l bs D G o1 v113 v115 v117 M h120) (cwV 3 hts (px_gV w_456 w_457 w_458 w_1 w_459) rfl rfl rfl (by decide +kernel) ⟨Nat.le_of_ble_eq_true rfl, Nat.le_of_ble_eq_true rfl⟩) (px_preV px_nwok hK hN hO hM h133 rfl) rfl rfl hl.1 rfl (lv_room (Nat.le_of_ble_eq_true rfl)) d_LW_law_321 ⟨Nat.le_of_ble_eq_true rfl, Nat.le_of_ble_eq_true rfl⟩) hS (fun H locs hM hS => ?_)
                      refine lv_aload_n hx hb d_LW_law_324 rfl (lv_at hl 2 rfl) ?_
                      refine lv_aload_n hx hb d_LW_law_325 rfl (lv_at hl 0 rfl) ?_
                      refine lv_iload_n hx hb d_LW_law_326 rfl (lv_at hl 3 rfl) ?_
                      refine lv_iconst (v := 1) hx hb d_LW_law_327 (by decide) ?_
                      refine lv_iadd hx hb d_LW_law_328 ?_
                      obtain ⟨v122, h123, hf⟩ := px_bind hf
                      refine px_rsc hx hb hX hbl hbA hS h123 d_LW_law_329 ?_
                      refine lv_aload_n hx hb d_LW_law_330 rfl (lv_at hl 0 rfl) ?_
                      refine lv_iload_n hx hb d_LW_law_331 rfl (lv_at hl 3 rfl) ?_
                      refine lv_iconst (v := 2) hx hb d_LW_law_332 (by decide) ?_
                      refine lv_iadd hx hb d_LW_law_333 ?_
                      obtain ⟨v124, h125, hf⟩ := px_bind hf
                      refine px_rsc hx hb hX hbl hbA hS h125 d_LW_law_334 ?_
                      refine lv_aload_n hx hb d_LW_law_335 rfl (lv_at hl 0 rfl) ?_
                      refine lv_iload_n hx hb d_LW_law_336 rfl (lv_at hl 3 rfl) ?_
                      refine lv_iconst (v := 3) hx hb d_LW_law_337 (by decide) ?_
                      refine lv_iadd hx hb d_LW_law_338 ?_
                      obtain ⟨v126, h127, hf⟩ := px_bind hf
                      refine px_rsc hx hb hX hbl hbA hS h127 d_LW_law_339 ?_
                      obtain ⟨_, h132, hf⟩ := px_bind hf
                      obtain ⟨⟨v130, M128⟩, h129, hf⟩ := px_bind hf
                      dsimp only at hf
                      refine px_calli (va_runV (As := [.int v122, .int v124, .int v126]) (rest := [.int v121]) ⟨hx, hb, hml, hown, hts⟩ (c_MO_way l bs D G o2 v122 v124 v126 M119 h129) (cwV 3 hts (px_gV w_839 w_840 w_841 w_12 w_842) rfl rfl rfl (by decide +kernel) ⟨Nat.le_of_ble_eq_true rfl, Nat.le_of_ble_eq_true rfl⟩) (px_preV px_nwok hK hN hO hM h132 rfl) rfl rfl hl.1 rfl (lv_room (Nat.le_of_ble_eq_true rfl)) d_LW_law_340 ⟨Nat.le_of_ble_eq_true rfl, Nat.le_of_ble_eq_true rfl⟩) hS (fun H locs hM hS => ?_)
                      refine lv_icmp_eq (tgt := 731) hx hb d_LW_law_343 (by decide) (fun c131 => ?_) (fun c131 => ?_)
                      · have hf := px_ift hf c131
                        refine lv_iinc (v := x3 + 5) (lv' := [(3, .int (x3 + 5)), (0, .ref b), (1, .ref o1), (2, .ref o2)]) hx hb d_LW_law_731 hl (k := 3) rfl (by rfl) (by decide) rfl (fun ls hl => ?_)
                        refine lv_goto (tgt := 18) hx hb d_LW_law_734 (by decide) ?_
                        exact ih (x3 + 5) M128 hf _ _ _ hM hS (lv_sub hl [1, 2, 3, 0] rfl)
                      · have hf := px_iff hf c131
                        refine lv_iconst (v := 0) hx hb d_LW_law_346 (by decide) ?_
                        exact absurd hf (by decide)
                    · have hf := px_iff hf c112
                      by_cases c134 : (v4 &&& 31) = 8
                      · have hf := px_ift hf c134
                        refine lv_tableIn (tgt := 348) hx hb d_LW_law_32 (by rw [c134] <;> decide) (by rw [c134] <;> decide) (by rw [c134] <;> rfl) (by decide) ?_
                        refine lv_aload_n hx hb d_LW_law_348 rfl (lv_at hl 1 rfl) ?_
                        refine lv_aload_n hx hb d_LW_law_349 rfl (lv_at hl 0 rfl) ?_
                        refine lv_iload_n hx hb d_LW_law_350 rfl (lv_at hl 3 rfl) ?_
                        refine lv_iconst (v := 1) hx hb d_LW_law_351 (by decide) ?_
                        refine lv_iadd hx hb d_LW_law_352 ?_
                        obtain ⟨v135, h136, hf⟩ := px_bind hf
                        refine px_rsc hx hb hX hbl hbA hS h136 d_LW_law_353 ?_
                        refine lv_aload_n hx hb d_LW_law_354 rfl (lv_at hl 0 rfl) ?_
                        refine lv_iload_n hx hb d_LW_law_355 rfl (lv_at hl 3 rfl) ?_
                        refine lv_iconst (v := 2) hx hb d_LW_law_356 (by decide) ?_
                        refine lv_iadd hx hb d_LW_law_357 ?_
                        obtain ⟨v137, h138, hf⟩ := px_bind hf
                        refine px_rsc hx hb hX hbl hbA hS h138 d_LW_law_358 ?_
                        obtain ⟨_, h151, hf⟩ := px_bind hf
                        obtain ⟨⟨v141, M139⟩, h140, hf⟩ := px_bind hf
                        dsimp only at hf
                        refine px_calli (va_runV (As := [.int v135, .int v137]) (rest := []) ⟨hx, hb, hml, hown, hts⟩ (c_SB_goal l bs D G o1 v135 v137 M h140) (cwV 2 hts (px_gV w_468 w_469 w_470 w_1 w_471) rfl rfl rfl (by decide +kernel) ⟨Nat.le_of_ble_eq_true rfl, Nat.le_of_ble_eq_true rfl⟩) (px_preV px_nwok hK hN hO hM h151 rfl) rfl rfl hl.1 rfl (lv_room (Nat.le_of_ble_eq_true rfl)) d_LW_law_359 ⟨Nat.le_of_ble_eq_true rfl, Nat.le_of_ble_eq_true rfl⟩) hS (fun H locs hM hS => ?_)
                        refine lv_aload_n hx hb d_LW_law_362 rfl (lv_at hl 2 rfl) ?_
                        refine lv_aload_n hx hb d_LW_law_363 rfl (lv_at hl 0 rfl) ?_
                        refine lv_iload_n hx hb d_LW_law_364 rfl (lv_at hl 3 rfl) ?_
                        refine lv_iconst (v := 1) hx hb d_LW_law_365 (by decide) ?_
                        refine lv_iadd hx hb d_LW_law_366 ?_
                        obtain ⟨v142, h143, hf⟩ := px_bind hf
                        refine px_rsc hx hb hX hbl hbA hS h143 d_LW_law_367 ?_
                        refine lv_aload_n hx hb d_LW_law_368 rfl (lv_at hl 0 rfl) ?_
                        refine lv_iload_n hx hb d_LW_law_369 rfl (lv_at hl 3 rfl) ?_
                        refine lv_iconst (v := 2) hx hb d_LW_law_370 (by decide) ?_
                        refine lv_iadd hx hb d_LW_law_371 ?_
                        obtain ⟨v144, h145, hf⟩ := px_bind hf
                        refine px_rsc hx hb hX hbl hbA hS h145 d_LW_law_372 ?_
                        obtain ⟨_, h150, hf⟩ := px_bind hf
                        obtain ⟨⟨v148, M146⟩, h147, hf⟩ := px_bind hf
                        dsimp only at hf
                        refine px_calli (va_runV (As := [.int v142, .int v144]) (rest := [.int v141]) ⟨hx, hb, hml, hown, hts⟩ (c_MO_goal l bs D G o2 v142 v144 M139 h147) (cwV 2 hts (px_gV w_847 w_848 w_849 w_12 w_850) rfl rfl rfl (by decide +kernel) ⟨Nat.le_of_ble_eq_true rfl, Nat.le_of_ble_eq_true rfl⟩) (px_preV px_nwok hK hN hO hM h150 rfl) rfl rfl hl.1 rfl (lv_room (Nat.le_of_ble_eq_true rfl)) d_LW_law_373 ⟨Nat.le_of_ble_eq_true rfl, Nat.le_of_ble_eq_true rfl⟩) hS (fun H locs hM hS => ?_)
                        refine lv_icmp_eq (tgt := 731) hx hb d_LW_law_376 (by decide) (fun c149 => ?_) (fun c149 => ?_)
                        · have hf := px_ift hf c149
                          refine lv_iinc (v := x3 + 5) (lv' := [(3, .int (x3 + 5)), (0, .ref b), (1, .ref o1), (2, .ref o2)]) hx hb d_LW_law_731 hl (k := 3) rfl (by rfl) (by decide) rfl (fun ls hl => ?_)
                          refine lv_goto (tgt := 18) hx hb d_LW_law_734 (by decide) ?_
                          exact ih (x3 + 5) M146 hf _ _ _ hM hS (lv_sub hl [1, 2, 3, 0] rfl)
                        · have hf := px_iff hf c149
                          refine lv_iconst (v := 0) hx hb d_LW_law_379 (by decide) ?_
                          exact absurd hf (by decide)
                      · have hf := px_iff hf c134
                        by_cases c152 : (v4 &&& 31) = 9
                        · have hf := px_ift hf c152
                          refine lv_tableIn (tgt := 381) hx hb d_LW_law_32 (by rw [c152] <;> decide) (by rw [c152] <;> decide) (by rw [c152] <;> rfl) (by decide) ?_
                          refine lv_aload_n hx hb d_LW_law_381 rfl (lv_at hl 1 rfl) ?_
                          refine lv_aload_n hx hb d_LW_law_382 rfl (lv_at hl 0 rfl) ?_
                          refine lv_iload_n hx hb d_LW_law_383 rfl (lv_at hl 3 rfl) ?_
                          refine lv_iconst (v := 1) hx hb d_LW_law_384 (by decide) ?_
                          refine lv_iadd hx hb d_LW_law_385 ?_
                          obtain ⟨v153, h154, hf⟩ := px_bind hf
                          refine px_rsc hx hb hX hbl hbA hS h154 d_LW_law_386 ?_
                          obtain ⟨_, h165, hf⟩ := px_bind hf
                          obtain ⟨⟨v157, M155⟩, h156, hf⟩ := px_bind hf
                          dsimp only at hf
                          refine px_calli (va_runV (As := [.int v153]) (rest := []) ⟨hx, hb, hml, hown, hts⟩ (c_SB_board l bs D G o1 v153 M h156) (cwV 1 hts (px_gV w_472 w_473 w_474 w_1 w_475) rfl rfl rfl (by decide +kernel) ⟨Nat.le_of_ble_eq_true rfl, Nat.le_of_ble_eq_true rfl⟩) (px_preV px_nwok hK hN hO hM h165 rfl) rfl rfl hl.1 rfl (lv_room (Nat.le_of_ble_eq_true rfl)) d_LW_law_387 ⟨Nat.le_of_ble_eq_true rfl, Nat.le_of_ble_eq_true rfl⟩) hS (fun H locs hM hS => ?_)
                          refine lv_aload_n hx hb d_LW_law_390 rfl (lv_at hl 2 rfl) ?_
                          refine lv_aload_n hx hb d_LW_law_391 rfl (lv_at hl 0 rfl) ?_
                          refine lv_iload_n hx hb d_LW_law_392 rfl (lv_at hl 3 rfl) ?_
                          refine lv_iconst (v := 1) hx hb d_LW_law_393 (by decide) ?_
                          refine lv_iadd hx hb d_LW_law_394 ?_
                          obtain ⟨v158, h159, hf⟩ := px_bind hf
                          refine px_rsc hx hb hX hbl hbA hS h159 d_LW_law_395 ?_
                          obtain ⟨_, h164, hf⟩ := px_bind hf
                          obtain ⟨⟨v162, M160⟩, h161, hf⟩ := px_bind hf
                          dsimp only at hf
                          refine px_calli (va_runV (As := [.int v158]) (rest := [.int v157]) ⟨hx, hb, hml, hown, hts⟩ (c_MO_board l bs D G o2 v158 M155 h161) (cwV 1 hts (px_gV w_851 w_852 w_853 w_12 w_854) rfl rfl rfl (by decide +kernel) ⟨Nat.le_of_ble_eq_true rfl, Nat.le_of_ble_eq_true rfl⟩) (px_preV px_nwok hK hN hO hM h164 rfl) rfl rfl hl.1 rfl (lv_room (Nat.le_of_ble_eq_true rfl)) d_LW_law_396 ⟨Nat.le_of_ble_eq_true rfl, Nat.le_of_ble_eq_true rfl⟩) hS (fun H locs hM hS => ?_)
                          refine lv_icmp_eq (tgt := 731) hx hb d_LW_law_399 (by decide) (fun c163 => ?_) (fun c163 => ?_)
                          · have hf := px_ift hf c163
                            refine lv_iinc (v := x3 + 5) (lv' := [(3, .int (x3 + 5)), (0, .ref b), (1, .ref o1), (2, .ref o2)]) hx hb d_LW_law_731 hl (k := 3) rfl (by rfl) (by decide) rfl (fun ls hl => ?_)
                            refine lv_goto (tgt := 18) hx hb d_LW_law_734 (by decide) ?_
                            exact ih (x3 + 5) M160 hf _ _ _ hM hS (lv_sub hl [1, 2, 3, 0] rfl)
                          · have hf := px_iff hf c163
                            refine lv_iconst (v := 0) hx hb d_LW_law_402 (by decide) ?_
                            exact absurd hf (by decide)
                        · have hf := px_iff hf c152
                          by_cases c166 : (v4 &&& 31) = 10
                          · have hf := px_ift hf c166
                            refine lv_tableIn (tgt := 404) hx hb d_LW_law_32 (by rw [c166] <;> decide) (by rw [c166] <;> decide) (by rw [c166] <;> rfl) (by decide) ?_
                            refine lv_aload_n hx hb d_LW_law_404 rfl (lv_at hl 1 rfl) ?_
                            refine lv_aload_n hx hb d_LW_law_405 rfl (lv_at hl 0 rfl) ?_
                            refine lv_iload_n hx hb d_LW_law_406 rfl (lv_at hl 3 rfl) ?_
                            refine lv_iconst (v := 1) hx hb d_LW_law_407 (by decide) ?_
                            refine lv_iadd hx hb d_LW_law_408 ?_
                            obtain ⟨v167, h168, hf⟩ := px_bind hf
                            refine px_rsc hx hb hX hbl hbA hS h168 d_LW_law_409 ?_
                            refine lv_aload_n hx hb d_LW_law_410 rfl (lv_at hl 0 rfl) ?_
                            refine lv_iload_n hx hb d_LW_law_411 rfl (lv_at hl 3 rfl) ?_
                            refine lv_iconst (v := 2) hx hb d_LW_law_412 (by decide) ?_
                            refine lv_iadd hx hb d_LW_law_413 ?_
                            obtain ⟨v169, h170, hf⟩ := px_bind hf
                            refine px_rsc hx hb hX hbl hbA hS h170 d_LW_law_414 ?_
                            refine lv_aload_n hx hb d_LW_law_415 rfl (lv_at hl 0 rfl) ?_
                            refine lv_iload_n hx hb d_LW_law_416 rfl (lv_at hl 3 rfl) ?_
                            refine lv_iconst (v := 3) hx hb d_LW_law_417 (by decide) ?_
                            refine lv_iadd hx hb d_LW_law_418 ?_
                            obtain ⟨v171, h172, hf⟩ := px_bind hf
                            refine px_rsc hx hb hX hbl hbA hS h172 d_LW_law_419 ?_
                            obtain ⟨_, h187, hf⟩ := px_bind hf
                            obtain ⟨⟨v175, M173⟩, h174, hf⟩ := px_bind hf
                            dsimp only at hf
                            refine px_calli (va_runV (As := [.int v167, .int v169, .int v171]) (rest := []) ⟨hx, hb, hml, hown, hts⟩ (c_SB_on l bs D G o1 v167 v169 v171 M h174) (cwV 3 hts (px_gV w_481 w_482 w_483 w_1 w_484) rfl rfl rfl (by decide +kernel) ⟨Nat.le_of_ble_eq_true rfl, Nat.le_of_ble_eq_true rfl⟩) (px_preV px_nwok hK hN hO hM h187 rfl) rfl rfl hl.1 rfl (lv_room (Nat.le_of_ble_eq_true rfl)) d_LW_law_420 ⟨Nat.le_of_ble_eq_true rfl, Nat.le_of_ble_eq_true rfl⟩) hS (fun H locs hM hS => ?_)
                            refine lv_aload_n hx hb d_LW_law_423 rfl (lv_at hl 2 rfl) ?_
                            refine lv_aload_n hx hb d_LW_law_424 rfl (lv_at hl 0 rfl) ?_
                            refine lv_iload_n hx hb d_LW_law_425 rfl (lv_at hl 3 rfl) ?_
                            refine lv_iconst (v := 1) hx hb d_LW_law_426 (by decide) ?_
                            refine lv_iadd hx hb d_LW_law_427 ?_
                            obtain ⟨v176, h177, hf⟩ := px_bind hf
                            refine px_rsc hx hb hX hbl hbA hS h177 d_LW_law_428 ?_
                            refine lv_aload_n hx hb d_LW_law_429 rfl (lv_at hl 0 rfl) ?_
                            refine lv_iload_n hx hb d_LW_law_430 rfl (lv_at hl 3 rfl) ?_
                            refine lv_iconst (v := 2) hx hb d_LW_law_431 (by decide) ?_
                            refine lv_iadd hx hb d_LW_law_432 ?_
                            obtain ⟨v178, h179, hf⟩ := px_bind hf
                            refine px_rsc hx hb hX hbl hbA hS h179 d_LW_law_433 ?_
                            refine lv_aload_n hx hb d_LW_law_434 rfl (lv_at hl 0 rfl) ?_
                            refine lv_iload_n hx hb d_LW_law_435 rfl (lv_at hl 3 rfl) ?_
                            refine lv_iconst (v := 3) hx hb d_LW_law_436 (by decide) ?_
                            refine lv_iadd hx hb d_LW_law_437 ?_
                            obtain ⟨v180, h181, hf⟩ := px_bind hf
                            refine px_rsc hx hb hX hbl hbA hS h181 d_LW_law_438 ?_
                            obtain ⟨_, h186, hf⟩ := px_bind hf
                            obtain ⟨⟨v184, M182⟩, h183, hf⟩ := px_bind hf
                            dsimp only at hf
                            refine px_calli (va_runV (As := [.int v176, .int v178, .int v180]) (rest := [.int v175]) ⟨hx, hb, hml, hown, hts⟩ (c_MO_on l bs D G o2 v176 v178 v180 M173 h183) (cwV 3 hts (px_gV w_855 w_856 w_857 w_12 w_858) rfl rfl rfl (by decide +kernel) ⟨Nat.le_of_ble_eq_true rfl, Nat.le_of_ble_eq_true rfl⟩) (px_preV px_nwok hK hN hO hM h186 rfl) rfl rfl hl.1 rfl (lv_room (Nat.le_of_ble_eq_true rfl)) d_LW_law_439 ⟨Nat.le_of_ble_eq_true rfl, Nat.le_of_ble_eq_true rfl⟩) hS (fun H locs hM hS => ?_)
                            refine lv_icmp_eq (tgt := 731) hx hb d_LW_law_442 (by decide) (fun c185 => ?_) (fun c185 => ?_)
                            · have hf := px_ift hf c185
                              refine lv_iinc (v := x3 + 5) (lv' := [(3, .int (x3 + 5)), (0, .ref b), (1, .ref o1), (2, .ref o2)]) hx hb d_LW_law_731 hl (k := 3) rfl (by rfl) (by decide) rfl (fun ls hl => ?_)
                              refine lv_goto (tgt := 18) hx hb d_LW_law_734 (by decide) ?_
                              exact ih (x3 + 5) M182 hf _ _ _ hM hS (lv_sub hl [1, 2, 3, 0] rfl)
                            · have hf := px_iff hf c185
                              refine lv_iconst (v := 0) hx hb d_LW_law_445 (by decide) ?_
                              exact absurd hf (by decide)
                          · have hf := px_iff hf c166
                            by_cases c188 : (v4 &&& 31) = 11
                            · have hf := px_ift hf c188
                              refine lv_tableIn (tgt := 447) hx hb d_LW_law_32 (by rw [c188] <;> decide) (by rw [c188] <;> decide) (by rw [c188] <;> rfl) (by decide) ?_
                              refine lv_aload_n hx hb d_LW_law_447 rfl (lv_at hl 1 rfl) ?_
                              refine lv_aload_n hx hb d_LW_law_448 rfl (lv_at hl 0 rfl) ?_
                              refine lv_iload_n hx hb d_LW_law_449 rfl (lv_at hl 3 rfl) ?_
                              refine lv_iconst (v := 1) hx hb d_LW_law_450 (by decide) ?_
                              refine lv_iadd hx hb d_LW_law_451 ?_
                              obtain ⟨v189, h190, hf⟩ := px_bind hf
                              refine px_rsc hx hb hX hbl hbA hS h190 d_LW_law_452 ?_
                              refine lv_aload_n hx hb d_LW_law_453 rfl (lv_at hl 0 rfl) ?_
                              refine lv_iload_n hx hb d_LW_law_454 rfl (lv_at hl 3 rfl) ?_
                              refine lv_iconst (v := 2) hx hb d_LW_law_455 (by decide) ?_
                              refine lv_iadd hx hb d_LW_law_456 ?_
                              obtain ⟨v191, h192, hf⟩ := px_bind hf
                              refine px_rsc hx hb hX hbl hbA hS h192 d_LW_law_457 ?_
                              obtain ⟨_, h205, hf⟩ := px_bind hf
                              obtain ⟨⟨v195, M193⟩, h194, hf⟩ := px_bind hf
                              dsimp only at hf
                              refine px_calli (va_runV (As := [.int v189, .int v191]) (rest := []) ⟨hx, hb, hml, hown, hts⟩ (c_SB_wide l bs D G o1 v189 v191 M h194) (cwV 2 hts (px_gV w_501 w_502 w_503 w_1 w_504) rfl rfl rfl (by decide +kernel) ⟨Nat.le_of_ble_eq_true rfl, Nat.le_of_ble_eq_true rfl⟩) (px_preV px_nwok hK hN hO hM h205 rfl) rfl rfl hl.1 rfl (lv_room (Nat.le_of_ble_eq_true rfl)) d_LW_law_458 ⟨Nat.le_of_ble_eq_true rfl, Nat.le_of_ble_eq_true rfl⟩) hS (fun H locs hM hS => ?_)
                              refine lv_aload_n hx hb d_LW_law_461 rfl (lv_at hl 2 rfl) ?_
                              refine lv_aload_n hx hb d_LW_law_462 rfl (lv_at hl 0 rfl) ?_
                              refine lv_iload_n hx hb d_LW_law_463 rfl (lv_at hl 3 rfl) ?_
                              refine lv_iconst (v := 1) hx hb d_LW_law_464 (by decide) ?_
                              refine lv_iadd hx hb d_LW_law_465 ?_
                              obtain ⟨v196, h197, hf⟩ := px_bind hf
                              refine px_rsc hx hb hX hbl hbA hS h197 d_LW_law_466 ?_
                              refine lv_aload_n hx hb d_LW_law_467 rfl (lv_at hl 0 rfl) ?_
                              refine lv_iload_n hx hb d_LW_law_468 rfl (lv_at hl 3 rfl) ?_
                              refine lv_iconst (v := 2) hx hb d_LW_law_469 (by decide) ?_
                              refine lv_iadd hx hb d_LW_law_470 ?_
                              obtain ⟨v198, h199, hf⟩ := px_bind hf
                              refine px_rsc hx hb hX hbl hbA hS h199 d_LW_law_471 ?_
                              obtain ⟨_, h204, hf⟩ := px_bind hf
                              obtain ⟨⟨v202, M200⟩, h201, hf⟩ := px_bind hf
                              dsimp only at hf
                              refine px_calli (va_runV (As := [.int v196, .int v198]) (rest := [.int v195]) ⟨hx, hb, hml, hown, hts⟩ (c_MO_wide l bs D G o2 v196 v198 M193 h201) (cwV 2 hts (px_gV w_867 w_868 w_869 w_12 w_870) rfl rfl rfl (by decide +kernel) ⟨Nat.le_of_ble_eq_true rfl, Nat.le_of_ble_eq_true rfl⟩) (px_preV px_nwok hK hN hO hM h204 rfl) rfl rfl hl.1 rfl (lv_room (Nat.le_of_ble_eq_true rfl)) d_LW_law_472 ⟨Nat.le_of_ble_eq_true rfl, Nat.le_of_ble_eq_true rfl⟩) hS (fun H locs hM hS => ?_)
                              refine lv_icmp_eq (tgt := 731) hx hb d_LW_law_475 (by decide) (fun c203 => ?_) (fun c203 => ?_)
                              · have hf := px_ift hf c203
                                refine lv_iinc (v := x3 + 5) (lv' := [(3, .int (x3 + 5)), (0, .ref b), (1, .ref o1), (2, .ref o2)]) hx hb d_LW_law_731 hl (k := 3) rfl (by rfl) (by decide) rfl (fun ls hl => ?_)
                                refine lv_goto (tgt := 18) hx hb d_LW_law_734 (by decide) ?_
                                exact ih (x3 + 5) M200 hf _ _ _ hM hS (lv_sub hl [1, 2, 3, 0] rfl)
                              · have hf := px_iff hf c203
                                refine lv_iconst (v := 0) hx hb d_LW_law_478 (by decide) ?_
                                exact absurd hf (by decide)
                            · have hf := px_iff hf c188
                              by_cases c206 : (v4 &&& 31) = 12
                              · have hf := px_ift hf c206
                                refine lv_tableIn (tgt := 480) hx hb d_LW_law_32 (by rw [c206] <;> decide) (by rw [c206] <;> decide) (by rw [c206] <;> rfl) (by decide) ?_
                                refine lv_aload_n hx hb d_LW_law_480 rfl (lv_at hl 1 rfl) ?_
                                refine lv_aload_n hx hb d_LW_law_481 rfl (lv_at hl 0 rfl) ?_
                                refine lv_iload_n hx hb d_LW_law_482 rfl (lv_at hl 3 rfl) ?_
                                refine lv_iconst (v := 1) hx hb d_LW_law_483 (by decide) ?_
                                refine lv_iadd hx hb d_LW_law_484 ?_
                                obtain ⟨v207, h208, hf⟩ := px_bind hf
                                refine px_rsc hx hb hX hbl hbA hS h208 d_LW_law_485 ?_
                                refine lv_aload_n hx hb d_LW_law_486 rfl (lv_at hl 0 rfl) ?_
                                refine lv_iload_n hx hb d_LW_law_487 rfl (lv_at hl 3 rfl) ?_
                                refine lv_iconst (v := 2) hx hb d_LW_law_488 (by decide) ?_
                                refine lv_iadd hx hb d_LW_law_489 ?_
                                obtain ⟨v209, h210, hf⟩ := px_bind hf
                                refine px_rsc hx hb hX hbl hbA hS h210 d_LW_law_490 ?_
                                obtain ⟨_, h223, hf⟩ := px_bind hf
                                obtain ⟨⟨v213, M211⟩, h212, hf⟩ := px_bind hf
                                dsimp only at hf
                                refine px_calli (va_runV (As := [.int v207, .int v209]) (rest := []) ⟨hx, hb, hml, hown, hts⟩ (c_SB_row l bs D G o1 v207 v209 M h212) (cwV 2 hts (px_gV w_505 w_506 w_507 w_1 w_508) rfl rfl rfl (by decide +kernel) ⟨Nat.le_of_ble_eq_true rfl, Nat.le_of_ble_eq_true rfl⟩) (px_preV px_nwok hK hN hO hM h223 rfl) rfl rfl hl.1 rfl (lv_room (Nat.le_of_ble_eq_true rfl)) d_LW_law_491 ⟨Nat.le_of_ble_eq_true rfl, Nat.le_of_ble_eq_true rfl⟩) hS (fun H locs hM hS => ?_)
                                refine lv_aload_n hx hb d_LW_law_494 rfl (lv_at hl 2 rfl) ?_
                                refine lv_aload_n hx hb d_LW_law_495 rfl (lv_at hl 0 rfl) ?_
                                refine lv_iload_n hx hb d_LW_law_496 rfl (lv_at hl 3 rfl) ?_
                                refine lv_iconst (v := 1) hx hb d_LW_law_497 (by decide) ?_
                                refine lv_iadd hx hb d_LW_law_498 ?_
                                obtain ⟨v214, h215, hf⟩ := px_bind hf
                                refine px_rsc hx hb hX hbl hbA hS h215 d_LW_law_499 ?_
                                refine lv_aload_n hx hb d_LW_law_500 rfl (lv_at hl 0 rfl) ?_
                                refine lv_iload_n hx hb d_LW_law_501 rfl (lv_at hl 3 rfl) ?_
                                refine lv_iconst (v := 2) hx hb d_LW_law_502 (by decide) ?_
                                refine lv_iadd hx hb d_LW_law_503 ?_
                                obtain ⟨v216, h217, hf⟩ := px_bind hf
                                refine px_rsc hx hb hX hbl hbA hS h217 d_LW_law_504 ?_
                                obtain ⟨_, h222, hf⟩ := px_bind hf
                                obtain ⟨⟨v220, M218⟩, h219, hf⟩ := px_bind hf
                                dsimp only at hf
                                refine px_calli (va_runV (As := [.int v214, .int v216]) (rest := [.int v213]) ⟨hx, hb, hml, hown, hts⟩ (c_MO_row l bs D G o2 v214 v216 M211 h219) (cwV 2 hts (px_gV w_871 w_872 w_873 w_12 w_874) rfl rfl rfl (by decide +kernel) ⟨Nat.le_of_ble_eq_true rfl, Nat.le_of_ble_eq_true rfl⟩) (px_preV px_nwok hK hN hO hM h222 rfl) rfl rfl hl.1 rfl (lv_room (Nat.le_of_ble_eq_true rfl)) d_LW_law_505 ⟨Nat.le_of_ble_eq_true rfl, Nat.le_of_ble_eq_true rfl⟩) hS (fun H locs hM hS => ?_)
                                refine lv_icmp_eq (tgt := 731) hx hb d_LW_law_508 (by decide) (fun c221 => ?_) (fun c221 => ?_)
                                · have hf := px_ift hf c221
                                  refine lv_iinc (v := x3 + 5) (lv' := [(3, .int (x3 + 5)), (0, .ref b), (1, .ref o1), (2, .ref o2)]) hx hb d_LW_law_731 hl (k := 3) rfl (by rfl) (by decide) rfl (fun ls hl => ?_)
                                  refine lv_goto (tgt := 18) hx hb d_LW_law_734 (by decide) ?_
                                  exact ih (x3 + 5) M218 hf _ _ _ hM hS (lv_sub hl [1, 2, 3, 0] rfl)
                                · have hf := px_iff hf c221
                                  refine lv_iconst (v := 0) hx hb d_LW_law_511 (by decide) ?_
                                  exact absurd hf (by decide)
                              · have hf := px_iff hf c206
                                by_cases c224 : (v4 &&& 31) = 13
                                · have hf := px_ift hf c224
                                  refine lv_tableIn (tgt := 513) hx hb d_LW_law_32 (by rw [c224] <;> decide) (by rw [c224] <;> decide) (by rw [c224] <;> rfl) (by decide) ?_
                                  refine lv_aload_n hx hb d_LW_law_513 rfl (lv_at hl 1 rfl) ?_
                                  refine lv_aload_n hx hb d_LW_law_514 rfl (lv_at hl 0 rfl) ?_
                                  refine lv_iload_n hx hb d_LW_law_515 rfl (lv_at hl 3 rfl) ?_
                                  refine lv_iconst (v := 1) hx hb d_LW_law_516 (by decide) ?_
                                  refine lv_iadd hx hb d_LW_law_517 ?_
                                  obtain ⟨v225, h226, hf⟩ := px_bind hf
                                  refine px_rsc hx hb hX hbl hbA hS h226 d_LW_law_518 ?_
                                  refine lv_aload_n hx hb d_LW_law_519 rfl (lv_at hl 0 rfl) ?_
                                  refine lv_iload_n hx hb d_LW_law_520 rfl (lv_at hl 3 rfl) ?_
                                  refine lv_iconst (v := 2) hx hb d_LW_law_521 (by decide) ?_
                                  refine lv_iadd hx hb d_LW_law_522 ?_
                                  obtain ⟨v227, h228, hf⟩ := px_bind hf
                                  refine px_rsc hx hb hX hbl hbA hS h228 d_LW_law_523 ?_
                                  obtain ⟨_, h241, hf⟩ := px_bind hf
                                  obtain ⟨⟨v231, M229⟩, h230, hf⟩ := px_bind hf
                                  dsimp only at hf
                                  refine px_calli (va_runV (As := [.int v225, .int v227]) (rest := []) ⟨hx, hb, hml, hown, hts⟩ (c_SB_distance l bs D G o1 v225 v227 M h230) (cwV 2 hts (px_gV w_542 w_543 w_544 w_1 w_545) rfl rfl rfl (by decide +kernel) ⟨Nat.le_of_ble_eq_true rfl, Nat.le_of_ble_eq_true rfl⟩) (px_preV px_nwok hK hN hO hM h241 rfl) rfl rfl hl.1 rfl (lv_room (Nat.le_of_ble_eq_true rfl)) d_LW_law_524 ⟨Nat.le_of_ble_eq_true rfl, Nat.le_of_ble_eq_true rfl⟩) hS (fun H locs hM hS => ?_)
                                  refine lv_aload_n hx hb d_LW_law_527 rfl (lv_at hl 2 rfl) ?_
                                  refine lv_aload_n hx hb d_LW_law_528 rfl (lv_at hl 0 rfl) ?_
                                  refine lv_iload_n hx hb d_LW_law_529 rfl (lv_at hl 3 rfl) ?_
                                  refine lv_iconst (v := 1) hx hb d_LW_law_530 (by decide) ?_
                                  refine lv_iadd hx hb d_LW_law_531 ?_
                                  obtain ⟨v232, h233, hf⟩ := px_bind hf
                                  refine px_rsc hx hb hX hbl hbA hS h233 d_LW_law_532 ?_
                                  refine lv_aload_n hx hb d_LW_law_533 rfl (lv_at hl 0 rfl) ?_
                                  refine lv_iload_n hx hb d_LW_law_534 rfl (lv_at hl 3 rfl) ?_
                                  refine lv_iconst (v := 2) hx hb d_LW_law_535 (by decide) ?_
                                  refine lv_iadd hx hb d_LW_law_536 ?_
                                  obtain ⟨v234, h235, hf⟩ := px_bind hf
                                  refine px_rsc hx hb hX hbl hbA hS h235 d_LW_law_537 ?_
                                  obtain ⟨_, h240, hf⟩ := px_bind hf
                                  obtain ⟨⟨v238, M236⟩, h237, hf⟩ := px_bind hf
                                  dsimp only at hf
                                  refine px_calli (va_runV (As := [.int v232, .int v234]) (rest := [.int v231]) ⟨hx, hb, hml, hown, hts⟩ (c_MO_distance l bs D G o2 v232 v234 M229 h237) (cwV 2 hts (px_gV w_904 w_905 w_906 w_12 w_907) rfl rfl rfl (by decide +kernel) ⟨Nat.le_of_ble_eq_true rfl, Nat.le_of_ble_eq_true rfl⟩) (px_preV px_nwok hK hN hO hM h240 rfl) rfl rfl hl.1 rfl (lv_room (Nat.le_of_ble_eq_true rfl)) d_LW_law_538 ⟨Nat.le_of_ble_eq_true rfl, Nat.le_of_ble_eq_true rfl⟩) hS (fun H locs hM hS => ?_)
                                  refine lv_icmp_eq (tgt := 731) hx hb d_LW_law_541 (by decide) (fun c239 => ?_) (fun c239 => ?_)
                                  · have hf := px_ift hf c239
                                    refine lv_iinc (v := x3 + 5) (lv' := [(3, .int (x3 + 5)), (0, .ref b), (1, .ref o1), (2, .ref o2)]) hx hb d_LW_law_731 hl (k := 3) rfl (by rfl) (by decide) rfl (fun ls hl => ?_)
                                    refine lv_goto (tgt := 18) hx hb d_LW_law_734 (by decide) ?_
                                    exact ih (x3 + 5) M236 hf _ _ _ hM hS (lv_sub hl [1, 2, 3, 0] rfl)
                                  · have hf := px_iff hf c239
                                    refine lv_iconst (v := 0) hx hb d_LW_law_544 (by decide) ?_
                                    exact absurd hf (by decide)
                                · have hf := px_iff hf c224
                                  by_cases c242 : (v4 &&& 31) = 14
                                  · have hf := px_ift hf c242
                                    refine lv_tableIn (tgt := 546) hx hb d_LW_law_32 (by rw [c242] <;> decide) (by rw [c242] <;> decide) (by rw [c242] <;> rfl) (by decide) ?_
                                    refine lv_aload_n hx hb d_LW_law_546 rfl (lv_at hl 1 rfl) ?_
                                    refine lv_aload_n hx hb d_LW_law_547 rfl (lv_at hl 0 rfl) ?_
                                    refine lv_iload_n hx hb d_LW_law_548 rfl (lv_at hl 3 rfl) ?_
                                    refine lv_iconst (v := 1) hx hb d_LW_law_549 (by decide) ?_
                                    refine lv_iadd hx hb d_LW_law_550 ?_
                                    obtain ⟨v243, h244, hf⟩ := px_bind hf
                                    refine px_rsc hx hb hX hbl hbA hS h244 d_LW_law_551 ?_
                                    refine lv_aload_n hx hb d_LW_law_552 rfl (lv_at hl 0 rfl) ?_
                                    refine lv_iload_n hx hb d_LW_law_553 rfl (lv_at hl 3 rfl) ?_
                                    refine lv_iconst (v := 2) hx hb d_LW_law_554 (by decide) ?_
                                    refine lv_iadd hx hb d_LW_law_555 ?_
                                    obtain ⟨v245, h246, hf⟩ := px_bind hf
                                    refine px_rsc hx hb hX hbl hbA hS h246 d_LW_law_556 ?_
                                    refine lv_aload_n hx hb d_LW_law_557 rfl (lv_at hl 0 rfl) ?_
                                    refine lv_iload_n hx hb d_LW_law_558 rfl (lv_at hl 3 rfl) ?_
                                    refine lv_iconst (v := 3) hx hb d_LW_law_559 (by decide) ?_
                                    refine lv_iadd hx hb d_LW_law_560 ?_
                                    obtain ⟨v247, h248, hf⟩ := px_bind hf
                                    refine px_rsc hx hb hX hbl hbA hS h248 d_LW_law_561 ?_
                                    obtain ⟨_, h263, hf⟩ := px_bind hf
                                    obtain ⟨⟨v251, M249⟩, h250, hf⟩ := px_bind hf
                                    dsimp only at hf
                                    refine px_calli (va_runV (As := [.int v243, .int v245, .int v247]) (rest := []) ⟨hx, hb, hml, hown, hts⟩ (c_SB_size l bs D G o1 v243 v245 v247 M h250) (cwV 3 hts (px_gV w_550 w_551 w_552 w_1 w_553) rfl rfl rfl (by decide +kernel) ⟨Nat.le_of_ble_eq_true rfl, Nat.le_of_ble_eq_true rfl⟩) (px_preV px_nwok hK hN hO hM h263 rfl) rfl rfl hl.1 rfl (lv_room (Nat.le_of_ble_eq_true rfl)) d_LW_law_562 ⟨Nat.le_of_ble_eq_true rfl, Nat.le_of_ble_eq_true rfl⟩) hS (fun H locs hM hS => ?_)
                                    refine lv_aload_n hx hb d_LW_law_565 rfl (lv_at hl 2 rfl) ?_
                                    refine lv_aload_n hx hb d_LW_law_566 rfl (lv_at hl 0 rfl) ?_
                                    refine lv_iload_n hx hb d_LW_law_567 rfl (lv_at hl 3 rfl) ?_
                                    refine lv_iconst (v := 1) hx hb d_LW_law_568 (by decide) ?_
                                    refine lv_iadd hx hb d_LW_law_569 ?_
                                    obtain ⟨v252, h253, hf⟩ := px_bind hf
                                    refine px_rsc hx hb hX hbl hbA hS h253 d_LW_law_570 ?_
                                    refine lv_aload_n hx hb d_LW_law_571 rfl (lv_at hl 0 rfl) ?_
                                    refine lv_iload_n hx hb d_LW_law_572 rfl (lv_at hl 3 rfl) ?_
                                    refine lv_iconst (v := 2) hx hb d_LW_law_573 (by decide) ?_
                                    refine lv_iadd hx hb d_LW_law_574 ?_
                                    obtain ⟨v254, h255, hf⟩ := px_bind hf
                                    refine px_rsc hx hb hX hbl hbA hS h255 d_LW_law_575 ?_
                                    refine lv_aload_n hx hb d_LW_law_576 rfl (lv_at hl 0 rfl) ?_
                                    refine lv_iload_n hx hb d_LW_law_577 rfl (lv_at hl 3 rfl) ?_
                                    refine lv_iconst (v := 3) hx hb d_LW_law_578 (by decide) ?_
                                    refine lv_iadd hx hb d_LW_law_579 ?_
                                    obtain ⟨v256, h257, hf⟩ := px_bind hf
                                    refine px_rsc hx hb hX hbl hbA hS h257 d_LW_law_580 ?_
                                    obtain ⟨_, h262, hf⟩ := px_bind hf
                                    obtain ⟨⟨v260, M258⟩, h259, hf⟩ := px_bind hf
                                    dsimp only at hf
                                    refine px_calli (va_runV (As := [.int v252, .int v254, .int v256]) (rest := [.int v251]) ⟨hx, hb, hml, hown, hts⟩ (c_MO_size l bs D G o2 v252 v254 v256 M249 h259) (cwV 3 hts (px_gV w_908 w_909 w_910 w_12 w_911) rfl rfl rfl (by decide +kernel) ⟨Nat.le_of_ble_eq_true rfl, Nat.le_of_ble_eq_true rfl⟩) (px_preV px_nwok hK hN hO hM h262 rfl) rfl rfl hl.1 rfl (lv_room (Nat.le_of_ble_eq_true rfl)) d_LW_law_581 ⟨Nat.le_of_ble_eq_true rfl, Nat.le_of_ble_eq_true rfl⟩) hS (fun H locs hM hS => ?_)
                                    refine lv_icmp_eq (tgt := 731) hx hb d_LW_law_584 (by decide) (fun c261 => ?_) (fun c261 => ?_)
                                    · have hf := px_ift hf c261
                                      refine lv_iinc (v := x3 + 5) (lv' := [(3, .int (x3 + 5)), (0, .ref b), (1, .ref o1), (2, .ref o2)]) hx hb d_LW_law_731 hl (k := 3) rfl (by rfl) (by decide) rfl (fun ls hl => ?_)
                                      refine lv_goto (tgt := 18) hx hb d_LW_law_734 (by decide) ?_
                                      exact ih (x3 + 5) M258 hf _ _ _ hM hS (lv_sub hl [1, 2, 3, 0] rfl)
                                    · have hf := px_iff hf c261
                                      refine lv_iconst (v := 0) hx hb d_LW_law_587 (by decide) ?_
                                      exact absurd hf (by decide)
                                  · have hf := px_iff hf c242
                                    by_cases c264 : (v4 &&& 31) = 15
                                    · have hf := px_ift hf c264
                                      refine lv_tableIn (tgt := 589) hx hb d_LW_law_32 (by rw [c264] <;> decide) (by rw [c264] <;> decide) (by rw [c264] <;> rfl) (by decide) ?_
                                      refine lv_aload_n hx hb d_LW_law_589 rfl (lv_at hl 1 rfl) ?_
                                      refine lv_aload_n hx hb d_LW_law_590 rfl (lv_at hl 0 rfl) ?_
                                      refine lv_iload_n hx hb d_LW_law_591 rfl (lv_at hl 3 rfl) ?_
                                      refine lv_iconst (v := 1) hx hb d_LW_law_592 (by decide) ?_
                                      refine lv_iadd hx hb d_LW_law_593 ?_
                                      obtain ⟨v265, h266, hf⟩ := px_bind hf
                                      refine px_rsc hx hb hX hbl hbA hS h266 d_LW_law_594 ?_
                                      refine lv_aload_n hx hb d_LW_law_595 rfl (lv_at hl 0 rfl) ?_
                                      refine lv_iload_n hx hb d_LW_law_596 rfl (lv_at hl 3 rfl) ?_
                                      refine lv_iconst (v := 2) hx hb d_LW_law_597 (by decide) ?_
                                      refine lv_iadd hx hb d_LW_law_598 ?_
                                      obtain ⟨v267, h268, hf⟩ := px_bind hf
                                      refine px_rsc hx hb hX hbl hbA hS h268 d_LW_law_599 ?_
                                      refine lv_aload_n hx hb d_LW_law_600 rfl (lv_at hl 0 rfl) ?_
                                      refine lv_iload_n hx hb d_LW_law_601 rfl (lv_at hl 3 rfl) ?_
                                      refine lv_iconst (v := 3) hx hb d_LW_law_602 (by decide) ?_
                                      refine lv_iadd hx hb d_LW_law_603 ?_
                                      obtain ⟨v269, h270, hf⟩ := px_bind hf
                                      refine px_rsc hx hb hX hbl hbA hS h270 d_LW_law_604 ?_
                                      refine lv_aload_n hx hb d_LW_law_605 rfl (lv_at hl 0 rfl) ?_
                                      refine lv_iload_n hx hb d_LW_law_606 rfl (lv_at hl 3 rfl) ?_
                                      refine lv_iconst (v := 4) hx hb d_LW_law_607 (by decide) ?_
                                      refine lv_iadd hx hb d_LW_law_608 ?_
                                      obtain ⟨v271, h272, hf⟩ := px_bind hf
                                      refine px_rsc hx hb hX hbl hbA hS h272 d_LW_law_609 ?_
                                      obtain ⟨_, h289, hf⟩ := px_bind hf
                                      obtain ⟨⟨v275, M273⟩, h274, hf⟩ := px_bind hf
                                      dsimp only at hf
                                      refine px_calli (va_runV (As := [.int v265, .int v267, .int v269, .int v271]) (rest := []) ⟨hx, hb, hml, hown, hts⟩ (c_SB_drawn l bs D G o1 v265 v267 v269 v271 M h274) (cwV 4 hts (px_gV w_575 w_576 w_577 w_1 w_578) rfl rfl rfl (by decide +kernel) ⟨Nat.le_of_ble_eq_true rfl, Nat.le_of_ble_eq_true rfl⟩) (px_preV px_nwok hK hN hO hM h289 rfl) rfl rfl hl.1 rfl (lv_room (Nat.le_of_ble_eq_true rfl)) d_LW_law_610 ⟨Nat.le_of_ble_eq_true rfl, Nat.le_of_ble_eq_true rfl⟩) hS (fun H locs hM hS => ?_)
                                      refine lv_aload_n hx hb d_LW_law_613 rfl (lv_at hl 2 rfl) ?_
                                      refine lv_aload_n hx hb d_LW_law_614 rfl (lv_at hl 0 rfl) ?_
                                      refine lv_iload_n hx hb d_LW_law_615 rfl (lv_at hl 3 rfl) ?_
                                      refine lv_iconst (v := 1) hx hb d_LW_law_616 (by decide) ?_
                                      refine lv_iadd hx hb d_LW_law_617 ?_
                                      obtain ⟨v276, h277, hf⟩ := px_bind hf
                                      refine px_rsc hx hb hX hbl hbA hS h277 d_LW_law_618 ?_
                                      refine lv_aload_n hx hb d_LW_law_619 rfl (lv_at hl 0 rfl) ?_
                                      refine lv_iload_n hx hb d_LW_law_620 rfl (lv_at hl 3 rfl) ?_
                                      refine lv_iconst (v := 2) hx hb d_LW_law_621 (by decide) ?_
                                      refine lv_iadd hx hb d_LW_law_622 ?_
                                      obtain ⟨v278, h279, hf⟩ := px_bind hf
                                      refine px_rsc hx hb hX hbl hbA hS h279 d_LW_law_623 ?_
                                      refine lv_aload_n hx hb d_LW_law_624 rfl (lv_at hl 0 rfl) ?_
                                      refine lv_iload_n hx hb d_LW_law_625 rfl (lv_at hl 3 rfl) ?_
                                      refine lv_iconst (v := 3) hx hb d_LW_law_626 (by decide) ?_
                                      refine lv_iadd hx hb d_LW_law_627 ?_
                                      obtain ⟨v280, h281, hf⟩ := px_bind hf
                                      refine px_rsc hx hb hX hbl hbA hS h281 d_LW_law_628 ?_
                                      refine lv_aload_n hx hb d_LW_law_629 rfl (lv_at hl 0 rfl) ?_
                                      refine lv_iload_n hx hb d_LW_law_630 rfl (lv_at hl 3 rfl) ?_
                                      refine lv_iconst (v := 4) hx hb d_LW_law_631 (by decide) ?_
                                      refine lv_iadd hx hb d_LW_law_632 ?_
                                      obtain ⟨v282, h283, hf⟩ := px_bind hf
                                      refine px_rsc hx hb hX hbl hbA hS h283 d_LW_law_633 ?_
                                      obtain ⟨_, h288, hf⟩ := px_bind hf
                                      obtain ⟨⟨v286, M284⟩, h285, hf⟩ := px_bind hf
                                      dsimp only at hf
                                      refine px_calli (va_runV (As := [.int v276, .int v278, .int v280, .int v282]) (rest := [.int v275]) ⟨hx, hb, hml, hown, hts⟩ (c_MO_drawn l bs D G o2 v276 v278 v280 v282 M273 h285) (cwV 4 hts (px_gV w_921 w_922 w_923 w_12 w_924) rfl rfl rfl (by decide +kernel) ⟨Nat.le_of_ble_eq_true rfl, Nat.le_of_ble_eq_true rfl⟩) (px_preV px_nwok hK hN hO hM h288 rfl) rfl rfl hl.1 rfl (lv_room (Nat.le_of_ble_eq_true rfl)) d_LW_law_634 ⟨Nat.le_of_ble_eq_true rfl, Nat.le_of_ble_eq_true rfl⟩) hS (fun H locs hM hS => ?_)
                                      refine lv_icmp_eq (tgt := 731) hx hb d_LW_law_637 (by decide) (fun c287 => ?_) (fun c287 => ?_)
                                      · have hf := px_ift hf c287
                                        refine lv_iinc (v := x3 + 5) (lv' := [(3, .int (x3 + 5)), (0, .ref b), (1, .ref o1), (2, .ref o2)]) hx hb d_LW_law_731 hl (k := 3) rfl (by rfl) (by decide) rfl (fun ls hl => ?_)
                                        refine lv_goto (tgt := 18) hx hb d_LW_law_734 (by decide) ?_
                                        exact ih (x3 + 5) M284 hf _ _ _ hM hS (lv_sub hl [1, 2, 3, 0] rfl)
                                      · have hf := px_iff hf c287
                                        refine lv_iconst (v := 0) hx hb d_LW_law_640 (by decide) ?_
                                        exact absurd hf (by decide)
                                    · have hf := px_iff hf c264
                                      by_cases c290 : (v4 &&& 31) = 16
                                      · have hf := px_ift hf c290
                                        refine lv_tableIn (tgt := 642) hx hb d_LW_law_32 (by rw [c290] <;> decide) (by rw [c290] <;> decide) (by rw [c290] <;> rfl) (by decide) ?_
                                        refine lv_aload_n hx hb d_LW_law_642 rfl (lv_at hl 1 rfl) ?_
                                        refine lv_aload_n hx hb d_LW_law_643 rfl (lv_at hl 0 rfl) ?_
                                        refine lv_iload_n hx hb d_LW_law_644 rfl (lv_at hl 3 rfl) ?_
                                        refine lv_iconst (v := 1) hx hb d_LW_law_645 (by decide) ?_
                                        refine lv_iadd hx hb d_LW_law_646 ?_
                                        obtain ⟨v291, h292, hf⟩ := px_bind hf
                                        refine px_rsc hx hb hX hbl hbA hS h292 d_LW_law_647 ?_
                                        refine lv_aload_n hx hb d_LW_law_648 rfl (lv_at hl 0 rfl) ?_
                                        refine lv_iload_n hx hb d_LW_law_649 rfl (lv_at hl 3 rfl) ?_
                                        refine lv_iconst (v := 2) hx hb d_LW_law_650 (by decide) ?_
                                        refine lv_iadd hx hb d_LW_law_651 ?_
                                        obtain ⟨v293, h294, hf⟩ := px_bind hf
                                        refine px_rsc hx hb hX hbl hbA hS h294 d_LW_law_652 ?_
                                        obtain ⟨_, h307, hf⟩ := px_bind hf
                                        obtain ⟨⟨v297, M295⟩, h296, hf⟩ := px_bind hf
                                        dsimp only at hf
                                        refine px_calli (va_runV (As := [.int v291, .int v293]) (rest := []) ⟨hx, hb, hml, hown, hts⟩ (c_SB_shows l bs D G o1 v291 v293 M h296) (cwV 2 hts (px_gV w_596 w_597 w_598 w_1 w_599) rfl rfl rfl (by decide +kernel) ⟨Nat.le_of_ble_eq_true rfl, Nat.le_of_ble_eq_true rfl⟩) (px_preV px_nwok hK hN hO hM h307 rfl) rfl rfl hl.1 rfl (lv_room (Nat.le_of_ble_eq_true rfl)) d_LW_law_653 ⟨Nat.le_of_ble_eq_true rfl, Nat.le_of_ble_eq_true rfl⟩) hS (fun H locs hM hS => ?_)
                                        refine lv_aload_n hx hb d_LW_law_656 rfl (lv_at hl 2 rfl) ?_
                                        refine lv_aload_n hx hb d_LW_law_657 rfl (lv_at hl 0 rfl) ?_
                                        refine lv_iload_n hx hb d_LW_law_658 rfl (lv_at hl 3 rfl) ?_
                                        refine lv_iconst (v := 1) hx hb d_LW_law_659 (by decide) ?_
                                        refine lv_iadd hx hb d_LW_law_660 ?_
                                        obtain ⟨v298, h299, hf⟩ := px_bind hf
                                        refine px_rsc hx hb hX hbl hbA hS h299 d_LW_law_661 ?_
                                        refine lv_aload_n hx hb d_LW_law_662 rfl (lv_at hl 0 rfl) ?_
                                        refine lv_iload_n hx hb d_LW_law_663 rfl (lv_at hl 3 rfl) ?_
                                        refine lv_iconst (v := 2) hx hb d_LW_law_664 (by decide) ?_
                                        refine lv_iadd hx hb d_LW_law_665 ?_
                                        obtain ⟨v300, h301, hf⟩ := px_bind hf
                                        refine px_rsc hx hb hX hbl hbA hS h301 d_LW_law_666 ?_
                                        obtain ⟨_, h306, hf⟩ := px_bind hf
                                        obtain ⟨⟨v304, M302⟩, h303, hf⟩ := px_bind hf
                                        dsimp only at hf
                                        refine px_calli (va_runV (As := [.int v298, .int v300]) (rest := [.int v297]) ⟨hx, hb, hml, hown, hts⟩ (c_MO_shows l bs D G o2 v298 v300 M295 h303) (cwV 2 hts (px_gV w_925 w_926 w_927 w_12 w_928) rfl rfl rfl (by decide +kernel) ⟨Nat.le_of_ble_eq_true rfl, Nat.le_of_ble_eq_true rfl⟩) (px_preV px_nwok hK hN hO hM h306 rfl) rfl rfl hl.1 rfl (lv_room (Nat.le_of_ble_eq_true rfl)) d_LW_law_667 ⟨Nat.le_of_ble_eq_true rfl, Nat.le_of_ble_eq_true rfl⟩) hS (fun H locs hM hS => ?_)
                                        refine lv_icmp_eq (tgt := 731) hx hb d_LW_law_670 (by decide) (fun c305 => ?_) (fun c305 => ?_)
                                        · have hf := px_ift hf c305
                                          refine lv_iinc (v := x3 + 5) (lv' := [(3, .int (x3 + 5)), (0, .ref b), (1, .ref o1), (2, .ref o2)]) hx hb d_LW_law_731 hl (k := 3) rfl (by rfl) (by decide) rfl (fun ls hl => ?_)
                                          refine lv_goto (tgt := 18) hx hb d_LW_law_734 (by decide) ?_
                                          exact ih (x3 + 5) M302 hf _ _ _ hM hS (lv_sub hl [1, 2, 3, 0] rfl)
                                        · have hf := px_iff hf c305
                                          refine lv_iconst (v := 0) hx hb d_LW_law_673 (by decide) ?_
                                          exact absurd hf (by decide)
                                      · have hf := px_iff hf c290
                                        by_cases c308 : (v4 &&& 31) = 17
                                        · have hf := px_ift hf c308
                                          refine lv_tableIn (tgt := 675) hx hb d_LW_law_32 (by rw [c308] <;> decide) (by rw [c308] <;> decide) (by rw [c308] <;> rfl) (by decide) ?_
                                          refine lv_aload_n hx hb d_LW_law_675 rfl (lv_at hl 1 rfl) ?_
                                          refine lv_aload_n hx hb d_LW_law_676 rfl (lv_at hl 0 rfl) ?_
                                          refine lv_iload_n hx hb d_LW_law_677 rfl (lv_at hl 3 rfl) ?_
                                          refine lv_iconst (v := 1) hx hb d_LW_law_678 (by decide) ?_
                                          refine lv_iadd hx hb d_LW_law_679 ?_
                                          obtain ⟨v309, h310, hf⟩ := px_bind hf
                                          refine px_rsc hx hb hX hbl hbA hS h310 d_LW_law_680 ?_
                                          refine lv_aload_n hx hb d_LW_law_681 rfl (lv_at hl 0 rfl) ?_
                                          refine lv_iload_n hx hb d_LW_law_682 rfl (lv_at hl 3 rfl) ?_
                                          refine lv_iconst (v := 2) hx hb d_LW_law_683 (by decide) ?_
                                          refine lv_iadd hx hb d_LW_law_684 ?_
                                          obtain ⟨v311, h312, hf⟩ := px_bind hf
                                          refine px_rsc hx hb hX hbl hbA hS h312 d_LW_law_685 ?_
                                          obtain ⟨_, h325, hf⟩ := px_bind hf
                                          obtain ⟨⟨v315, M313⟩, h314, hf⟩ := px_bind hf
                                          dsimp only at hf
                                          refine px_calli (va_runV (As := [.int v309, .int v311]) (rest := []) ⟨hx, hb, hml, hown, hts⟩ (c_SB_breaks l bs D G o1 v309 v311 M h314) (cwV 2 hts (px_gV w_604 w_605 w_606 w_1 w_607) rfl rfl rfl (by decide +kernel) ⟨Nat.le_of_ble_eq_true rfl, Nat.le_of_ble_eq_true rfl⟩) (px_preV px_nwok hK hN hO hM h325 rfl) rfl rfl hl.1 rfl (lv_room (Nat.le_of_ble_eq_true rfl)) d_LW_law_686 ⟨Nat.le_of_ble_eq_true rfl, Nat.le_of_ble_eq_true rfl⟩) hS (fun H locs hM hS => ?_)
                                          refine lv_aload_n hx hb d_LW_law_689 rfl (lv_at hl 2 rfl) ?_
                                          refine lv_aload_n hx hb d_LW_law_690 rfl (lv_at hl 0 rfl) ?_
                                          refine lv_iload_n hx hb d_LW_law_691 rfl (lv_at hl 3 rfl) ?_
                                          refine lv_iconst (v := 1) hx hb d_LW_law_692 (by decide) ?_
                                          refine lv_iadd hx hb d_LW_law_693 ?_
                                          obtain ⟨v316, h317, hf⟩ := px_bind hf
                                          refine px_rsc hx hb hX hbl hbA hS h317 d_LW_law_694 ?_
                                          refine lv_aload_n hx hb d_LW_law_695 rfl (lv_at hl 0 rfl) ?_
                                          refine lv_iload_n hx hb d_LW_law_696 rfl (lv_at hl 3 rfl) ?_
                                          refine lv_iconst (v := 2) hx hb d_LW_law_697 (by decide) ?_
                                          refine lv_iadd hx hb d_LW_law_698 ?_
                                          obtain ⟨v318, h319, hf⟩ := px_bind hf
                                          refine px_rsc hx hb hX hbl hbA hS h319 d_LW_law_699 ?_
                                          obtain ⟨_, h324, hf⟩ := px_bind hf
                                          obtain ⟨⟨v322, M320⟩, h321, hf⟩ := px_bind hf
                                          dsimp only at hf
                                          refine px_calli (va_runV (As := [.int v316, .int v318]) (rest := [.int v315]) ⟨hx, hb, hml, hown, hts⟩ (c_MO_breaks l bs D G o2 v316 v318 M313 h321) (cwV 2 hts (px_gV w_929 w_930 w_931 w_12 w_932) rfl rfl rfl (by decide +kernel) ⟨Nat.le_of_ble_eq_true rfl, Nat.le_of_ble_eq_true rfl⟩) (px_preV px_nwok hK hN hO hM h324 rfl) rfl rfl hl.1 rfl (lv_room (Nat.le_of_ble_eq_true rfl)) d_LW_law_700 ⟨Nat.le_of_ble_eq_true rfl, Nat.le_of_ble_eq_true rfl⟩) hS (fun H locs hM hS => ?_)
                                          refine lv_icmp_eq (tgt := 731) hx hb d_LW_law_703 (by decide) (fun c323 => ?_) (fun c323 => ?_)
                                          · have hf := px_ift hf c323
                                            refine lv_iinc (v := x3 + 5) (lv' := [(3, .int (x3 + 5)), (0, .ref b), (1, .ref o1), (2, .ref o2)]) hx hb d_LW_law_731 hl (k := 3) rfl (by rfl) (by decide) rfl (fun ls hl => ?_)
                                            refine lv_goto (tgt := 18) hx hb d_LW_law_734 (by decide) ?_
                                            exact ih (x3 + 5) M320 hf _ _ _ hM hS (lv_sub hl [1, 2, 3, 0] rfl)
                                          · have hf := px_iff hf c323
                                            refine lv_iconst (v := 0) hx hb d_LW_law_706 (by decide) ?_
                                            exact absurd hf (by decide)
                                        · have hf := px_iff hf c308
                                          by_cases c326 : (v4 &&& 31) = 18
                                          · have hf := px_ift hf c326
                                            refine lv_tableIn (tgt := 708) hx hb d_LW_law_32 (by rw [c326] <;> decide) (by rw [c326] <;> decide) (by rw [c326] <;> rfl) (by decide) ?_
                                            refine lv_aload_n hx hb d_LW_law_708 rfl (lv_at hl 1 rfl) ?_
                                            refine lv_aload_n hx hb d_LW_law_709 rfl (lv_at hl 0 rfl) ?_
                                            refine lv_iload_n hx hb d_LW_law_710 rfl (lv_at hl 3 rfl) ?_
                                            refine lv_iconst (v := 1) hx hb d_LW_law_711 (by decide) ?_
                                            refine lv_iadd hx hb d_LW_law_712 ?_
                                            obtain ⟨v327, h328, hf⟩ := px_bind hf
                                            refine px_rsc hx hb hX hbl hbA hS h328 d_LW_law_713 ?_
                                            obtain ⟨_, h339, hf⟩ := px_bind hf
                                            obtain ⟨⟨v331, M329⟩, h330, hf⟩ := px_bind hf
                                            dsimp only at hf
                                            refine px_calli (va_runV (As := [.int v327]) (rest := []) ⟨hx, hb, hml, hown, hts⟩ (c_SB_count l bs D G o1 v327 M h330) (cwV 1 hts (px_gV w_635 w_636 w_637 w_1 w_638) rfl rfl rfl (by decide +kernel) ⟨Nat.le_of_ble_eq_true rfl, Nat.le_of_ble_eq_true rfl⟩) (px_preV px_nwok hK hN hO hM h339 rfl) rfl rfl hl.1 rfl (lv_room (Nat.le_of_ble_eq_true rfl)) d_LW_law_714 ⟨Nat.le_of_ble_eq_true rfl, Nat.le_of_ble_eq_true rfl⟩) hS (fun H locs hM hS => ?_)
                                            refine lv_aload_n hx hb d_LW_law_717 rfl (lv_at hl 2 rfl) ?_
                                            refine lv_aload_n hx hb d_LW_law_718 rfl (lv_at hl 0 rfl) ?_
                                            refine lv_iload_n hx hb d_LW_law_719 rfl (lv_at hl 3 rfl) ?_
                                            refine lv_iconst (v := 1) hx hb d_LW_law_720 (by decide) ?_
                                            refine lv_iadd hx hb d_LW_law_721 ?_
                                            obtain ⟨v332, h333, hf⟩ := px_bind hf
                                            refine px_rsc hx hb hX hbl hbA hS h333 d_LW_law_722 ?_
                                            obtain ⟨_, h338, hf⟩ := px_bind hf
                                            obtain ⟨⟨v336, M334⟩, h335, hf⟩ := px_bind hf
                                            dsimp only at hf
                                            refine px_calli (va_runV (As := [.int v332]) (rest := [.int v331]) ⟨hx, hb, hml, hown, hts⟩ (c_MO_count l bs D G o2 v332 M329 h335) (cwV 1 hts (px_gV w_937 w_938 w_939 w_12 w_940) rfl rfl rfl (by decide +kernel) ⟨Nat.le_of_ble_eq_true rfl, Nat.le_of_ble_eq_true rfl⟩) (px_preV px_nwok hK hN hO hM h338 rfl) rfl rfl hl.1 rfl (lv_room (Nat.le_of_ble_eq_true rfl)) d_LW_law_723 ⟨Nat.le_of_ble_eq_true rfl, Nat.le_of_ble_eq_true rfl⟩) hS (fun H locs hM hS => ?_)
                                            refine lv_icmp_eq (tgt := 731) hx hb d_LW_law_726 (by decide) (fun c337 => ?_) (fun c337 => ?_)
                                            · have hf := px_ift hf c337
                                              refine lv_iinc (v := x3 + 5) (lv' := [(3, .int (x3 + 5)), (0, .ref b), (1, .ref o1), (2, .ref o2)]) hx hb d_LW_law_731 hl (k := 3) rfl (by rfl) (by decide) rfl (fun ls hl => ?_)
                                              refine lv_goto (tgt := 18) hx hb d_LW_law_734 (by decide) ?_
                                              exact ih (x3 + 5) M334 hf _ _ _ hM hS (lv_sub hl [1, 2, 3, 0] rfl)
                                            · have hf := px_iff hf c337
                                              refine lv_iconst (v := 0) hx hb d_LW_law_729 (by decide) ?_
                                              exact absurd hf (by decide)
                                          · have hf := px_iff hf c326
                                            refine lv_tableOut (tgt := 731) hx hb d_LW_law_32 (px_out19 c6 c20 c30 c40 c58 c80 c94 c112 c134 c152 c166 c188 c206 c224 c242 c264 c290 c308 c326) (by decide) ?_
                                            refine lv_iinc (v := x3 + 5) (lv' := [(3, .int (x3 + 5)), (0, .ref b), (1, .ref o1), (2, .ref o2)]) hx hb d_LW_law_731 hl (k := 3) rfl (by rfl) (by decide) rfl (fun ls hl => ?_)
                                            refine lv_goto (tgt := 18) hx hb d_LW_law_734 (by decide) ?_
                                            exact ih (x3 + 5) M hf _ _ _ hM hS (lv_sub hl [1, 2, 3, 0] rfl)
def f_LW0 (L : Nat) (xs : Nat → Int32) (M : px_M) : Option Int32 :=
  (some (px_push M (.inr (0, [.null, .null, .null, .null, .null, .null, .int 0, .null, .null, .int 0, .null, .null, .null])))).bind fun M1 =>
  (f_SB_init M.2 M1).bind fun M2 =>
  (some (px_push M2 (.inr (11, [.int 0, .null, .int 0, .null, .null, .int 0, .int 0, .int 0, .int 0, .null, .null, .int 0, .int 0, .int 0, .int 0, .int 0, .null, .int 0, .null, .null, .null, .int 0, .null, .null, .null, .int 0, .null, .null, .null, .int 0, .null, .null, .null, .null, .null, .null, .null, .null, .int 0, .int 0, .int 0, .int 0])))).bind fun M4 =>
  (f_MO_init M2.2 M4).bind fun M5 =>
  f_LW L xs 600 M.2 M2.2 0 M5
set_option maxHeartbeats 8000000 in
set_option maxRecDepth 100000 in
theorem law_begin {p : Program} {l : Launch} {e : Env} {s : State} {m : MethodId} {below : List Frame} {meth : Method} {c : Code} {b L : Nat} {xs : Nat → Int32} {bs : Nat} {D : va_G} {G : Nat → ClassId} (ebs : bs = s.heap.size) (hx : p.tables.exec = Jvm.exec) (hb : c.code = code) (hr : meth.sig.returnType = ret) (hml : c.maxLocals = 4) (hown : s.vm.findClass R_law = some m.cls) (hts : ∀ w ∈ px_tw, w.before #[Value.ref b] s = true) (hX : va_X b L xs s s.heap) (hbl : b < s.heap.size) (hlocks : meth.locks = false) (hK : va_K D px_cl (px_tys G) s) (hN : ∀ w ∈ px_nw, va_Nw w s) (hO : ∀ C ∈ px_over, va_AO C s) (M : px_M) (hf : f_LW0 L xs M = some 1) (H : Heap) (locs : List Loc) (ls : Array Slot) (hM : px_W bs D px_cl (px_tys G) M H) (hS : va_S (fun q => bs ≤ q) s.heap H locs) (hl : lv_has ls 4 [(0, .ref b)]) : W p l e room_1 s m #[Value.ref b] below meth c H locs 0 0 (lw_Z below #[Value.ref b] s) (F0 m 0 ls []) := by
  unfold f_LW0 at hf
  obtain ⟨M1, eM1, hf⟩ := px_bind hf
  refine px_rnew hx hb hts cl_SB hown (hts _ w_14) (hts _ w_15) (hts _ w_1) hK hM hS (fs := [.null, .null, .null, .null, .null, .null, .int 0, .null, .null, .int 0, .null, .null, .null]) (fun j hj => by rcases (show j = 0 ∨ j = 1 ∨ j = 2 ∨ j = 3 ∨ j = 4 ∨ j = 5 ∨ j = 6 ∨ j = 7 ∨ j = 8 ∨ j = 9 ∨ j = 10 ∨ j = 11 ∨ j = 12 by omega) with rfl | rfl | rfl | rfl | rfl | rfl | rfl | rfl | rfl | rfl | rfl | rfl | rfl <;> rfl) (by decide) (by decide) d_LW_law_0 (fun H hM hS => ?_)
  rw [Option.some.inj eM1] at hM
  refine lv_dup hx hb d_LW_law_3 rfl ?_
  obtain ⟨M2, h3, hf⟩ := px_bind hf
  refine px_callv (va_runI (As := []) (rest := [.ref M.2]) ⟨hx, hb, hml, hown, hts⟩ (c_SB_init l bs D G M.2 M1 h3) (cwI 0 hts (px_gI w_18) rfl rfl rfl (hts _ w_1) (hts _ w_16) (hts _ w_17) rfl (by decide +kernel) ⟨Nat.le_of_ble_eq_true rfl, Nat.le_of_ble_eq_true rfl⟩) (px_preS px_nwok hK hN hO hM) rfl rfl hl.1 rfl (lv_room (Nat.le_of_ble_eq_true rfl)) d_LW_law_4 ⟨Nat.le_of_ble_eq_true rfl, Nat.le_of_ble_eq_true rfl⟩) hS (fun H locs hM hS => ?_)
  refine lv_astore_n (lv' := [(1, .ref M.2), (0, .ref b)]) hx hb d_LW_law_7 rfl hl (by decide) rfl (fun ls hl => ?_)
  obtain ⟨M4, eM4, hf⟩ := px_bind hf
  refine px_rnew hx hb hts cl_MO hown (hts _ w_639) (hts _ w_640) (hts _ w_12) hK hM hS (fs := [.int 0, .null, .int 0, .null, .null, .int 0, .int 0, .int 0, .int 0, .null, .null, .int 0, .int 0, .int 0, .int 0, .int 0, .null, .int 0, .null, .null, .null, .int 0, .null, .null, .null, .int 0, .null, .null, .null, .int 0, .null, .null, .null, .null, .null, .null, .null, .null, .int 0, .int 0, .int 0, .int 0]) (fun j hj => by rcases (show j = 0 ∨ j = 1 ∨ j = 2 ∨ j = 3 ∨ j = 4 ∨ j = 5 ∨ j = 6 ∨ j = 7 ∨ j = 8 ∨ j = 9 ∨ j = 10 ∨ j = 11 ∨ j = 12 ∨ j = 13 ∨ j = 14 ∨ j = 15 ∨ j = 16 ∨ j = 17 ∨ j = 18 ∨ j = 19 ∨ j = 20 ∨ j = 21 ∨ j = 22 ∨ j = 23 ∨ j = 24 ∨ j = 25 ∨ j = 26 ∨ j = 27 ∨ j = 28 ∨ j = 29 ∨ j = 30 ∨ j = 31 ∨ j = 32 ∨ j = 33 ∨ j = 34 ∨ j = 35 ∨ j = 36 ∨ j = 37 ∨ j = 38 ∨ j = 39 ∨ j = 40 ∨ j = 41 by omega) with rfl | rfl | rfl | rfl | rfl | rfl | rfl | rfl | rfl | rfl | rfl | rfl | rfl | rfl | rfl | rfl | rfl | rfl | rfl | rfl | rfl | rfl | rfl | rfl | rfl | rfl | rfl | rfl | rfl | rfl | rfl | rfl | rfl | rfl | rfl | rfl | rfl | rfl | rfl | rfl | rfl | rfl <;> rfl) (by decide) (by decide) d_LW_law_8 (fun H hM hS => ?_)
  rw [Option.some.inj eM4] at hM
  refine lv_dup hx hb d_LW_law_11 rfl ?_
  obtain ⟨M5, h6, hf⟩ := px_bind hf
  refine px_callv (va_runI (As := []) (rest := [.ref M2.2]) ⟨hx, hb, hml, hown, hts⟩ (c_MO_init l bs D G M2.2 M4 h6) (cwI 0 hts (px_gI w_643) rfl rfl rfl (hts _ w_12) (hts _ w_641) (hts _ w_642) rfl (by decide +kernel) ⟨Nat.le_of_ble_eq_true rfl, Nat.le_of_ble_eq_true rfl⟩) (px_preS px_nwok hK hN hO hM) rfl rfl hl.1 rfl (lv_room (Nat.le_of_ble_eq_true rfl)) d_LW_law_12 ⟨Nat.le_of_ble_eq_true rfl, Nat.le_of_ble_eq_true rfl⟩) hS (fun H locs hM hS => ?_)
  refine lv_astore_n (lv' := [(2, .ref M2.2), (1, .ref M.2), (0, .ref b)]) hx hb d_LW_law_15 rfl hl (by decide) rfl (fun ls hl => ?_)
  refine lv_iconst (v := 0) hx hb d_LW_law_16 (by decide) ?_
  refine lv_istore_n (lv' := [(3, .int 0), (2, .ref M2.2), (1, .ref M.2), (0, .ref b)]) hx hb d_LW_law_17 rfl hl (by decide) rfl (fun ls hl => ?_)
  exact law_loop ebs hx hb hr hml hown hts hX hbl hlocks hK hN hO _ _ 600 _ _ hf _ _ _ hM hS (lv_sub hl [3, 2, 1, 0] rfl)
