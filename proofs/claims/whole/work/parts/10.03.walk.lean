def f_SB_goal (o0 : Nat) (x1 : Int32) (x2 : Int32) (M : px_M) : Option (Int32 × px_M) :=
  (px_ob 0 M o0).bind fun _ =>
  (f_SB_isName o0 x1 M).bind fun (v3, M1) =>
  if v3 = 0 then
  some (0, M1)
  else
  if x2 = ((-1)) then
  (px_gr 0 5 M1 o0).bind fun t6 =>
  (px_ar 1 M1 t6 x1).bind fun t8 =>
  (px_pt 9 2 M1 t8 (.int x2)).bind fun M10 =>
  some (1, M10)
  else
  (f_SB_isNode x2 M1).bind fun (v14, M12) =>
  if v14 = 0 then
  some (0, M12)
  else
  (px_gr 0 5 M12 o0).bind fun t16 =>
  (px_ar 1 M12 t16 x1).bind fun t18 =>
  (px_pt 9 2 M12 t18 (.int x2)).bind fun M20 =>
  some (1, M20)
set_option maxHeartbeats 4000000 in
set_option maxRecDepth 100000 in
theorem c_SB_goal (l : Launch) (bs : Nat) (D : va_G) (G : Nat → ClassId) (o0 : Nat) (x1 : Int32) (x2 : Int32) (M : px_M) {r : Int32} {M' : px_M} (hf : f_SB_goal o0 x1 x2 M = some (r, M')) : Met l y_SB_goal (.code y_SB_goal b_SB_goal 3 (some .boolean) :: px_tw) ⟨2, 0, 0, 43⟩ (va_Pc [.ref o0, .int x1, .int x2] (px_B bs D px_cl (px_tys G) px_nw px_over M)) (px_Qi bs D px_cl (px_tys G) r M') 0 0 (fun q => bs ≤ q) := by
  refine px_of (by decide) (Nat.le_of_ble_eq_true rfl) ?_
  intro p e s m below meth c ls C0 hM hS hl
  obtain ⟨hx, hb, hr, hml, hown, hnm, hlocks, hts, hK, hN, hO⟩ := C0
  have hl : lv_has ls 3 [(0, .ref o0), (1, .int x1), (2, .int x2)] := hl
  unfold f_SB_goal at hf
  refine lv_aload_n hx hb d_SB_goal_0 rfl (lv_at hl 0 rfl) ?_
  refine lv_iload_n hx hb d_SB_goal_1 rfl (lv_at hl 1 rfl) ?_
  obtain ⟨_, h22, hf⟩ := px_bind hf
  obtain ⟨⟨v3, M1⟩, h2, hf⟩ := px_bind hf
  dsimp only at hf
  refine px_calli (va_runV (As := [.int x1]) (rest := []) ⟨hx, hb, hml, hown, hts⟩ (c_SB_isName l bs D G o0 x1 M h2) (cwV 1 hts (px_gV w_440 w_442 ws_SB_isName w_1 w_443) rfl rfl rfl (by decide +kernel) ⟨Nat.le_of_ble_eq_true rfl, Nat.le_of_ble_eq_true rfl⟩) (px_preV px_nwok hK hN hO hM h22 rfl) rfl rfl hl.1 rfl (lv_room (Nat.le_of_ble_eq_true rfl)) d_SB_goal_2 ⟨Nat.le_of_ble_eq_true rfl, Nat.le_of_ble_eq_true rfl⟩) hS (fun H locs hM hS => ?_)
  refine lv_if_eq (tgt := 20) hx hb d_SB_goal_5 (by decide) (fun c4 => ?_) (fun c4 => ?_)
  · have hf := px_ift hf c4
    refine lv_iconst (v := 0) hx hb d_SB_goal_20 (by decide) ?_
    obtain ⟨rfl, rfl⟩ := px_s2 hf
    exact px_zret hx hb hr rfl hlocks hM hS d_SB_goal_21
  · have hf := px_iff hf c4
    refine lv_iload_n hx hb d_SB_goal_8 rfl (lv_at hl 2 rfl) ?_
    refine lv_iconst (v := (-1)) hx hb d_SB_goal_9 (by decide) ?_
    refine lv_icmp_eq (tgt := 22) hx hb d_SB_goal_10 (by decide) (fun c5 => ?_) (fun c5 => ?_)
    · have hf := px_ift hf c5
      refine lv_aload_n hx hb d_SB_goal_22 rfl (lv_at hl 0 rfl) ?_
      obtain ⟨t6, h7, hf⟩ := px_bind hf
      refine px_rgr hx hb hts cl_SB hown hK hM 5 (by decide) (hts _ w_297) h7 d_SB_goal_23 ?_
      refine lv_iload_n hx hb d_SB_goal_26 rfl (lv_at hl 1 rfl) ?_
      obtain ⟨t8, h9, hf⟩ := px_bind hf
      refine px_rar hx hb hK hM 1 rfl h9 d_SB_goal_27 ?_
      refine lv_iload_n hx hb d_SB_goal_28 rfl (lv_at hl 2 rfl) ?_
      obtain ⟨M10, h11, hf⟩ := px_bind hf
      refine px_rptN hx hb hts cl_NA hown hK hM hS 2 (by decide) (hN _ n_254) rfl rfl rfl h11 d_SB_goal_29 (fun H locs hM hS => ?_)
      refine lv_iconst (v := 1) hx hb d_SB_goal_32 (by decide) ?_
      obtain ⟨rfl, rfl⟩ := px_s2 hf
      exact px_zret hx hb hr rfl hlocks hM hS d_SB_goal_33
    · have hf := px_iff hf c5
      refine lv_iload_n hx hb d_SB_goal_13 rfl (lv_at hl 2 rfl) ?_
      obtain ⟨⟨v14, M12⟩, h13, hf⟩ := px_bind hf
      dsimp only at hf
      refine px_calli (va_runS (As := [.int x2]) (rest := []) ⟨hx, hb, hml, hown, hts⟩ (c_SB_isNode l bs D G x2 M1 h13) (cwS 1 hts (px_gS w_460 w_461 w_1 w_462) rfl rfl rfl (by decide +kernel) ⟨Nat.le_of_ble_eq_true rfl, Nat.le_of_ble_eq_true rfl⟩) (px_preS px_nwok hK hN hO hM) rfl rfl hl.1 rfl (lv_room (Nat.le_of_ble_eq_true rfl)) d_SB_goal_14 ⟨Nat.le_of_ble_eq_true rfl, Nat.le_of_ble_eq_true rfl⟩) hS (fun H locs hM hS => ?_)
      refine lv_if_ne (tgt := 22) hx hb d_SB_goal_17 (by decide) (fun c15 => ?_) (fun c15 => ?_)
      · have hf := px_iff hf c15
        refine lv_aload_n hx hb d_SB_goal_22 rfl (lv_at hl 0 rfl) ?_
        obtain ⟨t16, h17, hf⟩ := px_bind hf
        refine px_rgr hx hb hts cl_SB hown hK hM 5 (by decide) (hts _ w_297) h17 d_SB_goal_23 ?_
        refine lv_iload_n hx hb d_SB_goal_26 rfl (lv_at hl 1 rfl) ?_
        obtain ⟨t18, h19, hf⟩ := px_bind hf
        refine px_rar hx hb hK hM 1 rfl h19 d_SB_goal_27 ?_
        refine lv_iload_n hx hb d_SB_goal_28 rfl (lv_at hl 2 rfl) ?_
        obtain ⟨M20, h21, hf⟩ := px_bind hf
        refine px_rptN hx hb hts cl_NA hown hK hM hS 2 (by decide) (hN _ n_254) rfl rfl rfl h21 d_SB_goal_29 (fun H locs hM hS => ?_)
        refine lv_iconst (v := 1) hx hb d_SB_goal_32 (by decide) ?_
        obtain ⟨rfl, rfl⟩ := px_s2 hf
        exact px_zret hx hb hr rfl hlocks hM hS d_SB_goal_33
      · have hf := px_ift hf c15
        refine lv_iconst (v := 0) hx hb d_SB_goal_20 (by decide) ?_
        obtain ⟨rfl, rfl⟩ := px_s2 hf
        exact px_zret hx hb hr rfl hlocks hM hS d_SB_goal_21
def f_RO_isWay (o0 : Nat) (x1 : Int32) (M : px_M) : Option (Int32 × px_M) :=
  (px_gi 5 5 M o0).bind fun v1 =>
  (f_SB_isWithin x1 0 (v1 - 1) M).bind fun (v5, M3) =>
  if v5 = 0 ∨ v5 = 1 then
  some (v5, M3)
  else none
set_option maxHeartbeats 4000000 in
set_option maxRecDepth 100000 in
theorem c_RO_isWay (l : Launch) (bs : Nat) (D : va_G) (G : Nat → ClassId) (o0 : Nat) (x1 : Int32) (M : px_M) {r : Int32} {M' : px_M} (hf : f_RO_isWay o0 x1 M = some (r, M')) : Met l y_RO_isWay (.code y_RO_isWay b_RO_isWay 2 (some .boolean) :: px_tw) ⟨1, 0, 0, 22⟩ (va_Pc [.ref o0, .int x1] (px_B bs D px_cl (px_tys G) px_nw px_over M)) (px_Qi bs D px_cl (px_tys G) r M') 0 0 (fun q => bs ≤ q) := by
  refine px_of (by decide) (Nat.le_of_ble_eq_true rfl) ?_
  intro p e s m below meth c ls C0 hM hS hl
  obtain ⟨hx, hb, hr, hml, hown, hnm, hlocks, hts, hK, hN, hO⟩ := C0
  have hl : lv_has ls 2 [(0, .ref o0), (1, .int x1)] := hl
  unfold f_RO_isWay at hf
  refine lv_iload_n hx hb d_RO_isWay_0 rfl (lv_at hl 1 rfl) ?_
  refine lv_iconst (v := 0) hx hb d_RO_isWay_1 (by decide) ?_
  refine lv_aload_n hx hb d_RO_isWay_2 rfl (lv_at hl 0 rfl) ?_
  obtain ⟨v1, h2, hf⟩ := px_bind hf
  refine px_rgi hx hb hts cl_RO hown hK hM 5 (by decide) (hts _ w_142) h2 d_RO_isWay_3 ?_
  refine lv_iconst (v := 1) hx hb d_RO_isWay_6 (by decide) ?_
  refine lv_isub hx hb d_RO_isWay_7 ?_
  obtain ⟨⟨v5, M3⟩, h4, hf⟩ := px_bind hf
  dsimp only at hf
  refine px_calli (va_runSN (host := R_SB) (As := [.int x1, .int 0, .int (v1 - 1)]) (rest := []) ⟨hx, hb, hml, hown, hts⟩ (c_SB_isWithin l bs D G x1 0 (v1 - 1) M h4) ⟨va_cnB 3 hts (px_gI w_341) rfl rfl rfl (hN _ n_480) (hts _ w_1) (by decide +kernel) ⟨Nat.le_of_ble_eq_true rfl, Nat.le_of_ble_eq_true rfl⟩, hts _ w_340, trivial⟩ (px_preS px_nwok hK hN hO hM) rfl rfl hl.1 rfl (lv_room (Nat.le_of_ble_eq_true rfl)) d_RO_isWay_8 ⟨Nat.le_of_ble_eq_true rfl, Nat.le_of_ble_eq_true rfl⟩) hS (fun H locs hM hS => ?_)
  have hz : v5 = 0 ∨ v5 = 1 := Classical.byContradiction fun q => (by have q2 := px_iff hf q; cases q2)
  have hf := px_ift hf hz
  obtain ⟨rfl, rfl⟩ := px_s2 hf
  exact px_zret hx hb hr (px_nz hz) hlocks hM hS d_RO_isWay_11
def f_SB_board (o0 : Nat) (x1 : Int32) (M : px_M) : Option (Int32 × px_M) :=
  (px_gr 0 7 M o0).bind fun t1 =>
  (px_ob 5 M t1).bind fun _ =>
  (f_RO_isWay t1 x1 M).bind fun (v5, M3) =>
  if v5 = 0 then
  some ((-1), M3)
  else
  (px_gi 0 9 M3 o0).bind fun v7 =>
  if v7 < 8 then
  (px_gi 0 9 M3 o0).bind fun v10 =>
  (px_gr 0 8 M3 o0).bind fun t12 =>
  (px_ar 2 M3 t12 v10).bind fun t14 =>
  (px_pt 10 3 M3 t14 (.int x1)).bind fun M16 =>
  (px_gi 0 9 M16 o0).bind fun v18 =>
  (px_pt 0 9 M16 o0 (.int (v18 + 1))).bind fun M20 =>
  some (v10, M20)
  else
  some ((-1), M3)
set_option maxHeartbeats 4000000 in
set_option maxRecDepth 100000 in
theorem c_SB_board (l : Launch) (bs : Nat) (D : va_G) (G : Nat → ClassId) (o0 : Nat) (x1 : Int32) (M : px_M) {r : Int32} {M' : px_M} (hf : f_SB_board o0 x1 M = some (r, M')) : Met l y_SB_board (.code y_SB_board b_SB_board 3 (some .int) :: px_tw) ⟨2, 0, 0, 43⟩ (va_Pc [.ref o0, .int x1] (px_B bs D px_cl (px_tys G) px_nw px_over M)) (px_Qi bs D px_cl (px_tys G) r M') 0 0 (fun q => bs ≤ q) := by
  refine px_of (by decide) (Nat.le_of_ble_eq_true rfl) ?_
  intro p e s m below meth c ls C0 hM hS hl
  obtain ⟨hx, hb, hr, hml, hown, hnm, hlocks, hts, hK, hN, hO⟩ := C0
  have hl : lv_has ls 3 [(0, .ref o0), (1, .int x1)] := hl
  unfold f_SB_board at hf
  refine lv_aload_n hx hb d_SB_board_0 rfl (lv_at hl 0 rfl) ?_
  obtain ⟨t1, h2, hf⟩ := px_bind hf
  refine px_rgr hx hb hts cl_SB hown hK hM 7 (by decide) (hts _ w_299) h2 d_SB_board_1 ?_
  refine lv_iload_n hx hb d_SB_board_4 rfl (lv_at hl 1 rfl) ?_
  obtain ⟨_, h22, hf⟩ := px_bind hf
  obtain ⟨⟨v5, M3⟩, h4, hf⟩ := px_bind hf
  dsimp only at hf
  refine px_calli (va_runV (As := [.int x1]) (rest := []) ⟨hx, hb, hml, hown, hts⟩ (c_RO_isWay l bs D G t1 x1 M h4) (cwV 1 hts (px_gV w_476 w_477 w_478 w_6 w_479) rfl rfl rfl (by decide +kernel) ⟨Nat.le_of_ble_eq_true rfl, Nat.le_of_ble_eq_true rfl⟩) (px_preV px_nwok hK hN hO hM h22 rfl) rfl rfl hl.1 rfl (lv_room (Nat.le_of_ble_eq_true rfl)) d_SB_board_5 ⟨Nat.le_of_ble_eq_true rfl, Nat.le_of_ble_eq_true rfl⟩) hS (fun H locs hM hS => ?_)
  refine lv_if_eq (tgt := 20) hx hb d_SB_board_8 (by decide) (fun c6 => ?_) (fun c6 => ?_)
  · have hf := px_ift hf c6
    refine lv_iconst (v := (-1)) hx hb d_SB_board_20 (by decide) ?_
    obtain ⟨rfl, rfl⟩ := px_s2 hf
    exact px_iret hx hb hr hlocks hM hS d_SB_board_21
  · have hf := px_iff hf c6
    refine lv_aload_n hx hb d_SB_board_11 rfl (lv_at hl 0 rfl) ?_
    obtain ⟨v7, h8, hf⟩ := px_bind hf
    refine px_rgi hx hb hts cl_SB hown hK hM 9 (by decide) (hts _ w_301) h8 d_SB_board_12 ?_
    refine lv_bipush (v := 8) hx hb d_SB_board_15 (by decide) ?_
    refine lv_icmp_lt (tgt := 22) hx hb d_SB_board_17 (by decide) (fun c9 => ?_) (fun c9 => ?_)
    · have hf := px_ift hf c9
      refine lv_aload_n hx hb d_SB_board_22 rfl (lv_at hl 0 rfl) ?_
      obtain ⟨v10, h11, hf⟩ := px_bind hf
      refine px_rgi hx hb hts cl_SB hown hK hM 9 (by decide) (hts _ w_301) h11 d_SB_board_23 ?_
      refine lv_istore_n (lv' := [(2, .int v10), (0, .ref o0), (1, .int x1)]) hx hb d_SB_board_26 rfl hl (by decide) rfl (fun ls hl => ?_)
      refine lv_aload_n hx hb d_SB_board_27 rfl (lv_at hl 1 rfl) ?_
      obtain ⟨t12, h13, hf⟩ := px_bind hf
      refine px_rgr hx hb hts cl_SB hown hK hM 8 (by decide) (hts _ w_300) h13 d_SB_board_28 ?_
      refine lv_iload_n hx hb d_SB_board_31 rfl (lv_at hl 0 rfl) ?_
      obtain ⟨t14, h15, hf⟩ := px_bind hf
      refine px_rar hx hb hK hM 2 rfl h15 d_SB_board_32 ?_
      refine lv_iload_n hx hb d_SB_board_33 rfl (lv_at hl 2 rfl) ?_
      obtain ⟨M16, h17, hf⟩ := px_bind hf
      refine px_rptN hx hb hts cl_BO hown hK hM hS 3 (by decide) (hN _ n_278) rfl rfl rfl h17 d_SB_board_34 (fun H locs hM hS => ?_)
      refine lv_aload_n hx hb d_SB_board_37 rfl (lv_at hl 1 rfl) ?_
      refine lv_dup hx hb d_SB_board_38 rfl ?_
      obtain ⟨v18, h19, hf⟩ := px_bind hf
      refine px_rgi hx hb hts cl_SB hown hK hM 9 (by decide) (hts _ w_301) h19 d_SB_board_39 ?_
      refine lv_iconst (v := 1) hx hb d_SB_board_42 (by decide) ?_
      refine lv_iadd hx hb d_SB_board_43 ?_
      obtain ⟨M20, h21, hf⟩ := px_bind hf
      refine px_rpt hx hb hts cl_SB hown hK hM hS 9 (by decide) (hts _ w_301) rfl rfl rfl h21 d_SB_board_44 (fun H locs hM hS => ?_)
      refine lv_iload_n hx hb d_SB_board_47 rfl (lv_at hl 0 rfl) ?_
      obtain ⟨rfl, rfl⟩ := px_s2 hf
      exact px_iret hx hb hr hlocks hM hS d_SB_board_48
    · have hf := px_iff hf c9
      refine lv_iconst (v := (-1)) hx hb d_SB_board_20 (by decide) ?_
      obtain ⟨rfl, rfl⟩ := px_s2 hf
      exact px_iret hx hb hr hlocks hM hS d_SB_board_21
def f_SB_isBoard (o0 : Nat) (x1 : Int32) (M : px_M) : Option (Int32 × px_M) :=
  (px_gi 0 9 M o0).bind fun v1 =>
  (f_SB_isWithin x1 0 (v1 - 1) M).bind fun (v5, M3) =>
  if v5 = 0 ∨ v5 = 1 then
  some (v5, M3)
  else none
set_option maxHeartbeats 4000000 in
set_option maxRecDepth 100000 in
theorem c_SB_isBoard (l : Launch) (bs : Nat) (D : va_G) (G : Nat → ClassId) (o0 : Nat) (x1 : Int32) (M : px_M) {r : Int32} {M' : px_M} (hf : f_SB_isBoard o0 x1 M = some (r, M')) : Met l y_SB_isBoard (.code y_SB_isBoard b_SB_isBoard 2 (some .boolean) :: px_tw) ⟨1, 0, 0, 22⟩ (va_Pc [.ref o0, .int x1] (px_B bs D px_cl (px_tys G) px_nw px_over M)) (px_Qi bs D px_cl (px_tys G) r M') 0 0 (fun q => bs ≤ q) := by
  refine px_of (by decide) (Nat.le_of_ble_eq_true rfl) ?_
  intro p e s m below meth c ls C0 hM hS hl
  obtain ⟨hx, hb, hr, hml, hown, hnm, hlocks, hts, hK, hN, hO⟩ := C0
  have hl : lv_has ls 2 [(0, .ref o0), (1, .int x1)] := hl
  unfold f_SB_isBoard at hf
  refine lv_iload_n hx hb d_SB_isBoard_0 rfl (lv_at hl 1 rfl) ?_
  refine lv_iconst (v := 0) hx hb d_SB_isBoard_1 (by decide) ?_
  refine lv_aload_n hx hb d_SB_isBoard_2 rfl (lv_at hl 0 rfl) ?_
  obtain ⟨v1, h2, hf⟩ := px_bind hf
  refine px_rgi hx hb hts cl_SB hown hK hM 9 (by decide) (hts _ w_301) h2 d_SB_isBoard_3 ?_
  refine lv_iconst (v := 1) hx hb d_SB_isBoard_6 (by decide) ?_
  refine lv_isub hx hb d_SB_isBoard_7 ?_
  obtain ⟨⟨v5, M3⟩, h4, hf⟩ := px_bind hf
  dsimp only at hf
  refine px_calli (va_runS (As := [.int x1, .int 0, .int (v1 - 1)]) (rest := []) ⟨hx, hb, hml, hown, hts⟩ (c_SB_isWithin l bs D G x1 0 (v1 - 1) M h4) (cwS 3 hts (px_gS w_339 w_340 w_1 w_341) rfl rfl rfl (by decide +kernel) ⟨Nat.le_of_ble_eq_true rfl, Nat.le_of_ble_eq_true rfl⟩) (px_preS px_nwok hK hN hO hM) rfl rfl hl.1 rfl (lv_room (Nat.le_of_ble_eq_true rfl)) d_SB_isBoard_8 ⟨Nat.le_of_ble_eq_true rfl, Nat.le_of_ble_eq_true rfl⟩) hS (fun H locs hM hS => ?_)
  have hz : v5 = 0 ∨ v5 = 1 := Classical.byContradiction fun q => (by have q2 := px_iff hf q; cases q2)
  have hf := px_ift hf hz
  obtain ⟨rfl, rfl⟩ := px_s2 hf
  exact px_zret hx hb hr (px_nz hz) hlocks hM hS d_SB_isBoard_11
def f_BO_has_L2 : Nat → Nat → Int32 → Int32 → px_M → Option (((Unit) ⊕ Int32) × px_M)
  | 0, _, _, _, _ => none
  | n + 1, o0, x1, x2, M =>
    (px_gi 10 2 M o0).bind fun v9 =>
    if v9 ≤ x2 then
    some (.inl (), M)
    else
    (px_gr 10 0 M o0).bind fun t12 =>
    (px_ai 0 M t12 x2).bind fun v14 =>
    if v14 = x1 then
    some (.inr 1, M)
    else
    f_BO_has_L2 n o0 x1 (x2 + 1) M
set_option maxHeartbeats 4000000 in
set_option maxRecDepth 100000 in
theorem lp_BO_has_L2 {p : Program} {l : Launch} {e : Env} {s : State} {m : MethodId} {args : Array Value} {below : List Frame} {meth : Method} {c : Code} {bs : Nat} {D : va_G} {G : Nat → ClassId} {Q : State → Prop} (C0 : px_At p s m meth c y_BO_has b_BO_has 3 (some .boolean) args D px_cl (px_tys G) px_nw px_over) (x : (Unit) ⊕ Int32) (M' : px_M) (o0 : Nat) (x1 : Int32) (kx : ∀ u, x = .inl u → ∀ (H : Heap) (locs : List Loc) (ls : Array Slot), px_W bs D px_cl (px_tys G) M' H → va_S (fun q => bs ≤ q) s.heap H locs → lv_has ls 3 [] → W p l e ⟨0, 0, 0, 0⟩ s m args below meth c H locs 0 0 Q (F0 m 28 ls [])) (kr : ∀ r, x = .inr r → narrow .boolean (.int r) = .int r → ∀ (H : Heap) (locs : List Loc) (ls : Array Slot) (pc : Nat), decode b_BO_has pc = .ok (.ireturn, 1) → px_W bs D px_cl (px_tys G) M' H → va_S (fun q => bs ≤ q) s.heap H locs → W p l e ⟨0, 0, 0, 0⟩ s m args below meth c H locs 0 0 Q (F0 m pc ls [.int r])) : ∀ (n : Nat) (x2 : Int32) (M : px_M), f_BO_has_L2 n o0 x1 x2 M = some (x, M') → ∀ (H : Heap) (locs : List Loc) (ls : Array Slot), px_W bs D px_cl (px_tys G) M H → va_S (fun q => bs ≤ q) s.heap H locs → lv_has ls 3 [(0, .ref o0), (1, .int x1), (2, .int x2)] → W p l e ⟨0, 0, 0, 0⟩ s m args below meth c H locs 0 0 Q (F0 m 2 ls []) := by
  obtain ⟨hx, hb, hr, hml, hown, hnm, hlocks, hts, hK, hN, hO⟩ := C0
  intro n
  induction n with
  | zero => intro x2 M hf; cases hf
  | succ n ih =>
    intro x2 M hf H locs ls hM hS hl
    unfold f_BO_has_L2 at hf
    refine lv_iload_n hx hb d_BO_has_2 rfl (lv_at hl 2 rfl) ?_
    refine lv_aload_n hx hb d_BO_has_3 rfl (lv_at hl 0 rfl) ?_
    obtain ⟨v9, h10, hf⟩ := px_bind hf
    refine px_rgi hx hb hts cl_BO hown hK hM 2 (by decide) (hts _ w_273) h10 d_BO_has_4 ?_
    refine lv_icmp_ge (tgt := 28) hx hb d_BO_has_7 (by decide) (fun c11 => ?_) (fun c11 => ?_)
    · have hf := px_ift hf c11
      obtain ⟨rfl, rfl⟩ := px_s2 hf
      exact kx _ rfl _ _ _ hM hS (lv_sub hl [] rfl)
    · have hf := px_iff hf c11
      refine lv_aload_n hx hb d_BO_has_10 rfl (lv_at hl 0 rfl) ?_
      obtain ⟨t12, h13, hf⟩ := px_bind hf
      refine px_rgr hx hb hts cl_BO hown hK hM 0 (by decide) (hts _ w_267) h13 d_BO_has_11 ?_
      refine lv_iload_n hx hb d_BO_has_14 rfl (lv_at hl 2 rfl) ?_
      obtain ⟨v14, h15, hf⟩ := px_bind hf
      refine px_rai hx hb hK hM 0 rfl h15 d_BO_has_15 ?_
      refine lv_iload_n hx hb d_BO_has_16 rfl (lv_at hl 1 rfl) ?_
      refine lv_icmp_ne (tgt := 22) hx hb d_BO_has_17 (by decide) (fun c16 => ?_) (fun c16 => ?_)
      · have hf := px_iff hf c16
        refine lv_iinc (v := x2 + 1) (lv' := [(2, .int (x2 + 1)), (0, .ref o0), (1, .int x1)]) hx hb d_BO_has_22 hl (k := 2) rfl (by rfl) (by decide) rfl (fun ls hl => ?_)
        refine lv_goto (tgt := 2) hx hb d_BO_has_25 (by decide) ?_
        exact ih (x2 + 1) M hf _ _ _ hM hS (lv_sub hl [1, 2, 0] rfl)
      · have hf := px_ift hf c16
        refine lv_iconst (v := 1) hx hb d_BO_has_20 (by decide) ?_
        obtain ⟨rfl, rfl⟩ := px_s2 hf
        exact kr _ rfl rfl _ _ _ _ d_BO_has_21 hM hS
def f_BO_has (o0 : Nat) (x1 : Int32) (M : px_M) : Option (Int32 × px_M) :=
  (f_BO_has_L2 px_fuel o0 x1 0 M).bind fun yh18 => (match yh18 with
  | (.inl _, M17) =>
  some (0, M17)
  | (.inr r19, M17) => some (r19, M17))
set_option maxHeartbeats 4000000 in
set_option maxRecDepth 100000 in
theorem c_BO_has (l : Launch) (bs : Nat) (D : va_G) (G : Nat → ClassId) (o0 : Nat) (x1 : Int32) (M : px_M) {r : Int32} {M' : px_M} (hf : f_BO_has o0 x1 M = some (r, M')) : Met l y_BO_has (.code y_BO_has b_BO_has 3 (some .boolean) :: px_tw) ⟨0, 0, 0, 0⟩ (va_Pc [.ref o0, .int x1] (px_B bs D px_cl (px_tys G) px_nw px_over M)) (px_Qi bs D px_cl (px_tys G) r M') 0 0 (fun q => bs ≤ q) := by
  refine px_of (by decide) (Nat.le_of_ble_eq_true rfl) ?_
  intro p e s m below meth c ls C0 hM hS hl
  obtain ⟨hx, hb, hr, hml, hown, hnm, hlocks, hts, hK, hN, hO⟩ := C0
  have hl : lv_has ls 3 [(0, .ref o0), (1, .int x1)] := hl
  unfold f_BO_has at hf
  refine lv_iconst (v := 0) hx hb d_BO_has_0 (by decide) ?_
  refine lv_istore_n (lv' := [(2, .int 0), (0, .ref o0), (1, .int x1)]) hx hb d_BO_has_1 rfl hl (by decide) rfl (fun ls hl => ?_)
  obtain ⟨⟨xh18, M17⟩, h18, hf⟩ := px_bind hf
  refine lp_BO_has_L2 ⟨hx, hb, hr, hml, hown, hnm, hlocks, hts, hK, hN, hO⟩ xh18 M17 o0 x1 (fun uh18 eu H locs ls hM hS hl => ?_) (fun r19 eu hn H locs ls pc hdg hM hS => ?_) px_fuel 0 M h18 _ _ _ hM hS (lv_sub hl [1, 2, 0] rfl)
  · subst eu
    skip
    dsimp only at hf
    try dsimp only at hl
    refine lv_iconst (v := 0) hx hb d_BO_has_28 (by decide) ?_
    obtain ⟨rfl, rfl⟩ := px_s2 hf
    exact px_zret hx hb hr rfl hlocks hM hS d_BO_has_29
  · subst eu
    dsimp only at hf
    obtain ⟨rfl, rfl⟩ := px_s2 hf
    exact px_zret hx hb hr hn hlocks hM hS hdg
def f_BO_addLine (o0 : Nat) (x1 : Int32) (x2 : Int32) (M : px_M) : Option (Int32 × px_M) :=
  (px_gi 10 2 M o0).bind fun v1 =>
  if 5 ≤ v1 then
  some (0, M)
  else
  (px_ob 10 M o0).bind fun _ =>
  (f_BO_has o0 x1 M).bind fun (v6, M4) =>
  if v6 = 0 then
  (px_gr 10 0 M4 o0).bind fun t8 =>
  (px_gi 10 2 M4 o0).bind fun v10 =>
  (px_si 0 M4 t8 v10 x1).bind fun M12 =>
  (px_gr 10 1 M12 o0).bind fun t14 =>
  (px_gi 10 2 M12 o0).bind fun v16 =>
  (px_si 0 M12 t14 v16 x2).bind fun M18 =>
  (px_gi 10 2 M18 o0).bind fun v20 =>
  (px_pt 10 2 M18 o0 (.int (v20 + 1))).bind fun M22 =>
  some (1, M22)
  else
  some (0, M4)
set_option maxHeartbeats 4000000 in
set_option maxRecDepth 100000 in
theorem c_BO_addLine (l : Launch) (bs : Nat) (D : va_G) (G : Nat → ClassId) (o0 : Nat) (x1 : Int32) (x2 : Int32) (M : px_M) {r : Int32} {M' : px_M} (hf : f_BO_addLine o0 x1 x2 M = some (r, M')) : Met l y_BO_addLine (.code y_BO_addLine b_BO_addLine 3 (some .boolean) :: px_tw) ⟨1, 0, 0, 22⟩ (va_Pc [.ref o0, .int x1, .int x2] (px_B bs D px_cl (px_tys G) px_nw px_over M)) (px_Qi bs D px_cl (px_tys G) r M') 0 0 (fun q => bs ≤ q) := by
  refine px_of (by decide) (Nat.le_of_ble_eq_true rfl) ?_
  intro p e s m below meth c ls C0 hM hS hl
  obtain ⟨hx, hb, hr, hml, hown, hnm, hlocks, hts, hK, hN, hO⟩ := C0
  have hl : lv_has ls 3 [(0, .ref o0), (1, .int x1), (2, .int x2)] := hl
  unfold f_BO_addLine at hf
  refine lv_aload_n hx hb d_BO_addLine_0 rfl (lv_at hl 0 rfl) ?_
  obtain ⟨v1, h2, hf⟩ := px_bind hf
  refine px_rgi hx hb hts cl_BO hown hK hM 2 (by decide) (hts _ w_273) h2 d_BO_addLine_1 ?_
  refine lv_iconst (v := 5) hx hb d_BO_addLine_4 (by decide) ?_
  refine lv_icmp_ge (tgt := 16) hx hb d_BO_addLine_5 (by decide) (fun c3 => ?_) (fun c3 => ?_)
  · have hf := px_ift hf c3
    refine lv_iconst (v := 0) hx hb d_BO_addLine_16 (by decide) ?_
    obtain ⟨rfl, rfl⟩ := px_s2 hf
    exact px_zret hx hb hr rfl hlocks hM hS d_BO_addLine_17
  · have hf := px_iff hf c3
    refine lv_aload_n hx hb d_BO_addLine_8 rfl (lv_at hl 0 rfl) ?_
    refine lv_iload_n hx hb d_BO_addLine_9 rfl (lv_at hl 1 rfl) ?_
    obtain ⟨_, h24, hf⟩ := px_bind hf
    obtain ⟨⟨v6, M4⟩, h5, hf⟩ := px_bind hf
    dsimp only at hf
    refine px_calli (va_runV (As := [.int x1]) (rest := []) ⟨hx, hb, hml, hown, hts⟩ (c_BO_has l bs D G o0 x1 M h5) (cwV 1 hts (px_gV w_493 w_495 ws_BO_has w_11 w_496) rfl rfl rfl (by decide +kernel) ⟨Nat.le_of_ble_eq_true rfl, Nat.le_of_ble_eq_true rfl⟩) (px_preV px_nwok hK hN hO hM h24 rfl) rfl rfl hl.1 rfl (lv_room (Nat.le_of_ble_eq_true rfl)) d_BO_addLine_10 ⟨Nat.le_of_ble_eq_true rfl, Nat.le_of_ble_eq_true rfl⟩) hS (fun H locs hM hS => ?_)
    refine lv_if_eq (tgt := 18) hx hb d_BO_addLine_13 (by decide) (fun c7 => ?_) (fun c7 => ?_)
    · have hf := px_ift hf c7
      refine lv_aload_n hx hb d_BO_addLine_18 rfl (lv_at hl 0 rfl) ?_
      obtain ⟨t8, h9, hf⟩ := px_bind hf
      refine px_rgr hx hb hts cl_BO hown hK hM 0 (by decide) (hts _ w_267) h9 d_BO_addLine_19 ?_
      refine lv_aload_n hx hb d_BO_addLine_22 rfl (lv_at hl 0 rfl) ?_
      obtain ⟨v10, h11, hf⟩ := px_bind hf
      refine px_rgi hx hb hts cl_BO hown hK hM 2 (by decide) (hts _ w_273) h11 d_BO_addLine_23 ?_
      refine lv_iload_n hx hb d_BO_addLine_26 rfl (lv_at hl 1 rfl) ?_
      obtain ⟨M12, h13, hf⟩ := px_bind hf
      refine px_rsi hx hb hK hM hS 0 rfl h13 d_BO_addLine_27 (fun H locs hM hS => ?_)
      refine lv_aload_n hx hb d_BO_addLine_28 rfl (lv_at hl 0 rfl) ?_
      obtain ⟨t14, h15, hf⟩ := px_bind hf
      refine px_rgr hx hb hts cl_BO hown hK hM 1 (by decide) (hts _ w_271) h15 d_BO_addLine_29 ?_
      refine lv_aload_n hx hb d_BO_addLine_32 rfl (lv_at hl 0 rfl) ?_
      obtain ⟨v16, h17, hf⟩ := px_bind hf
      refine px_rgi hx hb hts cl_BO hown hK hM 2 (by decide) (hts _ w_273) h17 d_BO_addLine_33 ?_
      refine lv_iload_n hx hb d_BO_addLine_36 rfl (lv_at hl 2 rfl) ?_
      obtain ⟨M18, h19, hf⟩ := px_bind hf
      refine px_rsi hx hb hK hM hS 0 rfl h19 d_BO_addLine_37 (fun H locs hM hS => ?_)
      refine lv_aload_n hx hb d_BO_addLine_38 rfl (lv_at hl 0 rfl) ?_
      refine lv_dup hx hb d_BO_addLine_39 rfl ?_
      obtain ⟨v20, h21, hf⟩ := px_bind hf
      refine px_rgi hx hb hts cl_BO hown hK hM 2 (by decide) (hts _ w_273) h21 d_BO_addLine_40 ?_
      refine lv_iconst (v := 1) hx hb d_BO_addLine_43 (by decide) ?_
      refine lv_iadd hx hb d_BO_addLine_44 ?_
      obtain ⟨M22, h23, hf⟩ := px_bind hf
      refine px_rpt hx hb hts cl_BO hown hK hM hS 2 (by decide) (hts _ w_273) rfl rfl rfl h23 d_BO_addLine_45 (fun H locs hM hS => ?_)
      refine lv_iconst (v := 1) hx hb d_BO_addLine_48 (by decide) ?_
      obtain ⟨rfl, rfl⟩ := px_s2 hf
      exact px_zret hx hb hr rfl hlocks hM hS d_BO_addLine_49
    · have hf := px_iff hf c7
      refine lv_iconst (v := 0) hx hb d_BO_addLine_16 (by decide) ?_
      obtain ⟨rfl, rfl⟩ := px_s2 hf
      exact px_zret hx hb hr rfl hlocks hM hS d_BO_addLine_17
def f_RO_show (o0 : Nat) (x1 : Int32) (x2 : Int32) (M : px_M) : Option (px_M) :=
  (px_gr 5 3 M o0).bind fun t1 =>
  (px_ai 0 M t1 x1).bind fun v3 =>
  (px_si 0 M t1 x1 (v3 ||| (1 <<< (x2 &&& 31)))).bind fun M5 =>
  some M5
set_option maxHeartbeats 4000000 in
set_option maxRecDepth 100000 in
theorem c_RO_show (l : Launch) (bs : Nat) (D : va_G) (G : Nat → ClassId) (o0 : Nat) (x1 : Int32) (x2 : Int32) (M : px_M) {M' : px_M} (hf : f_RO_show o0 x1 x2 M = some M') : Met l y_RO_show (.code y_RO_show b_RO_show 3 none :: px_tw) ⟨0, 0, 0, 0⟩ (va_Pc [.ref o0, .int x1, .int x2] (px_B bs D px_cl (px_tys G) px_nw px_over M)) (px_Qv bs D px_cl (px_tys G) M') 0 0 (fun q => bs ≤ q) := by
  refine px_of (by decide) (Nat.le_of_ble_eq_true rfl) ?_
  intro p e s m below meth c ls C0 hM hS hl
  obtain ⟨hx, hb, hr, hml, hown, hnm, hlocks, hts, hK, hN, hO⟩ := C0
  have hl : lv_has ls 3 [(0, .ref o0), (1, .int x1), (2, .int x2)] := hl
  unfold f_RO_show at hf
  refine lv_aload_n hx hb d_RO_show_0 rfl (lv_at hl 0 rfl) ?_
  obtain ⟨t1, h2, hf⟩ := px_bind hf
  refine px_rgr hx hb hts cl_RO hown hK hM 3 (by decide) (hts _ w_139) h2 d_RO_show_1 ?_
  refine lv_iload_n hx hb d_RO_show_4 rfl (lv_at hl 1 rfl) ?_
  refine lv_dup2_11 hx hb d_RO_show_5 rfl rfl ?_
  obtain ⟨v3, h4, hf⟩ := px_bind hf
  refine px_rai hx hb hK hM 0 rfl h4 d_RO_show_6 ?_
  refine lv_iconst (v := 1) hx hb d_RO_show_7 (by decide) ?_
  refine lv_iload_n hx hb d_RO_show_8 rfl (lv_at hl 2 rfl) ?_
  refine lv_ishl hx hb d_RO_show_9 ?_
  refine lv_ior hx hb d_RO_show_10 ?_
  obtain ⟨M5, h6, hf⟩ := px_bind hf
  refine px_rsi hx hb hK hM hS 0 rfl h6 d_RO_show_11 (fun H locs hM hS => ?_)
  obtain rfl := px_s1 hf
  exact px_vret hx hb hr hlocks hM hS d_RO_show_12
def f_SB_on (o0 : Nat) (x1 : Int32) (x2 : Int32) (x3 : Int32) (M : px_M) : Option (Int32 × px_M) :=
  (px_ob 0 M o0).bind fun _ =>
  (f_SB_isBoard o0 x1 M).bind fun (v3, M1) =>
  if v3 = 0 then
  some (0, M1)
  else
  (px_ob 0 M1 o0).bind fun _ =>
  (f_SB_isName o0 x2 M1).bind fun (v7, M5) =>
  if v7 = 0 then
  some (0, M5)
  else
  (f_SB_isWithin x3 0 2 M5).bind fun (v11, M9) =>
  if v11 = 0 then
  some (0, M9)
  else
  (px_gr 0 8 M9 o0).bind fun t13 =>
  (px_ar 2 M9 t13 x1).bind fun t15 =>
  (px_ob 10 M9 t15).bind fun _ =>
  (f_BO_addLine t15 x2 x3 M9).bind fun (v19, M17) =>
  if v19 = 0 then
  some (0, M17)
  else
  (px_gr 0 7 M17 o0).bind fun t21 =>
  (px_gr 0 8 M17 o0).bind fun t23 =>
  (px_ar 2 M17 t23 x1).bind fun t25 =>
  (px_gi 10 3 M17 t25).bind fun v27 =>
  (px_ob 5 M17 t21).bind fun _ =>
  (f_RO_show t21 v27 x2 M17).bind fun M29 =>
  some (1, M29)
set_option maxHeartbeats 4000000 in
set_option maxRecDepth 100000 in
theorem c_SB_on (l : Launch) (bs : Nat) (D : va_G) (G : Nat → ClassId) (o0 : Nat) (x1 : Int32) (x2 : Int32) (x3 : Int32) (M : px_M) {r : Int32} {M' : px_M} (hf : f_SB_on o0 x1 x2 x3 M = some (r, M')) : Met l y_SB_on (.code y_SB_on b_SB_on 4 (some .boolean) :: px_tw) ⟨2, 0, 0, 44⟩ (va_Pc [.ref o0, .int x1, .int x2, .int x3] (px_B bs D px_cl (px_tys G) px_nw px_over M)) (px_Qi bs D px_cl (px_tys G) r M') 0 0 (fun q => bs ≤ q) := by
  refine px_of (by decide) (Nat.le_of_ble_eq_true rfl) ?_
  intro p e s m below meth c ls C0 hM hS hl
  obtain ⟨hx, hb, hr, hml, hown, hnm, hlocks, hts, hK, hN, hO⟩ := C0
  have hl : lv_has ls 4 [(0, .ref o0), (1, .int x1), (2, .int x2), (3, .int x3)] := hl
  unfold f_SB_on at hf
  refine lv_aload_n hx hb d_SB_on_0 rfl (lv_at hl 0 rfl) ?_
  refine lv_iload_n hx hb d_SB_on_1 rfl (lv_at hl 1 rfl) ?_
  obtain ⟨_, h34, hf⟩ := px_bind hf
  obtain ⟨⟨v3, M1⟩, h2, hf⟩ := px_bind hf
  dsimp only at hf
  refine px_calli (va_runV (As := [.int x1]) (rest := []) ⟨hx, hb, hml, hown, hts⟩ (c_SB_isBoard l bs D G o0 x1 M h2) (cwV 1 hts (px_gV w_485 w_487 ws_SB_isBoard w_1 w_488) rfl rfl rfl (by decide +kernel) ⟨Nat.le_of_ble_eq_true rfl, Nat.le_of_ble_eq_true rfl⟩) (px_preV px_nwok hK hN hO hM h34 rfl) rfl rfl hl.1 rfl (lv_room (Nat.le_of_ble_eq_true rfl)) d_SB_on_2 ⟨Nat.le_of_ble_eq_true rfl, Nat.le_of_ble_eq_true rfl⟩) hS (fun H locs hM hS => ?_)
  refine lv_if_eq (tgt := 25) hx hb d_SB_on_5 (by decide) (fun c4 => ?_) (fun c4 => ?_)
  · have hf := px_ift hf c4
    refine lv_iconst (v := 0) hx hb d_SB_on_25 (by decide) ?_
    obtain ⟨rfl, rfl⟩ := px_s2 hf
    exact px_zret hx hb hr rfl hlocks hM hS d_SB_on_26
  · have hf := px_iff hf c4
    refine lv_aload_n hx hb d_SB_on_8 rfl (lv_at hl 0 rfl) ?_
    refine lv_iload_n hx hb d_SB_on_9 rfl (lv_at hl 2 rfl) ?_
    obtain ⟨_, h33, hf⟩ := px_bind hf
    obtain ⟨⟨v7, M5⟩, h6, hf⟩ := px_bind hf
    dsimp only at hf
    refine px_calli (va_runV (As := [.int x2]) (rest := []) ⟨hx, hb, hml, hown, hts⟩ (c_SB_isName l bs D G o0 x2 M1 h6) (cwV 1 hts (px_gV w_440 w_442 ws_SB_isName w_1 w_443) rfl rfl rfl (by decide +kernel) ⟨Nat.le_of_ble_eq_true rfl, Nat.le_of_ble_eq_true rfl⟩) (px_preV px_nwok hK hN hO hM h33 rfl) rfl rfl hl.1 rfl (lv_room (Nat.le_of_ble_eq_true rfl)) d_SB_on_10 ⟨Nat.le_of_ble_eq_true rfl, Nat.le_of_ble_eq_true rfl⟩) hS (fun H locs hM hS => ?_)
    refine lv_if_eq (tgt := 25) hx hb d_SB_on_13 (by decide) (fun c8 => ?_) (fun c8 => ?_)
    · have hf := px_ift hf c8
      refine lv_iconst (v := 0) hx hb d_SB_on_25 (by decide) ?_
      obtain ⟨rfl, rfl⟩ := px_s2 hf
      exact px_zret hx hb hr rfl hlocks hM hS d_SB_on_26
    · have hf := px_iff hf c8
      refine lv_iload_n hx hb d_SB_on_16 rfl (lv_at hl 3 rfl) ?_
      refine lv_iconst (v := 0) hx hb d_SB_on_17 (by decide) ?_
      refine lv_iconst (v := 2) hx hb d_SB_on_18 (by decide) ?_
      obtain ⟨⟨v11, M9⟩, h10, hf⟩ := px_bind hf
      dsimp only at hf
      refine px_calli (va_runS (As := [.int x3, .int 0, .int 2]) (rest := []) ⟨hx, hb, hml, hown, hts⟩ (c_SB_isWithin l bs D G x3 0 2 M5 h10) (cwS 3 hts (px_gS w_339 w_340 w_1 w_341) rfl rfl rfl (by decide +kernel) ⟨Nat.le_of_ble_eq_true rfl, Nat.le_of_ble_eq_true rfl⟩) (px_preS px_nwok hK hN hO hM) rfl rfl hl.1 rfl (lv_room (Nat.le_of_ble_eq_true rfl)) d_SB_on_19 ⟨Nat.le_of_ble_eq_true rfl, Nat.le_of_ble_eq_true rfl⟩) hS (fun H locs hM hS => ?_)
      refine lv_if_ne (tgt := 27) hx hb d_SB_on_22 (by decide) (fun c12 => ?_) (fun c12 => ?_)
      · have hf := px_iff hf c12
        refine lv_aload_n hx hb d_SB_on_27 rfl (lv_at hl 0 rfl) ?_
        obtain ⟨t13, h14, hf⟩ := px_bind hf
        refine px_rgr hx hb hts cl_SB hown hK hM 8 (by decide) (hts _ w_300) h14 d_SB_on_28 ?_
        refine lv_iload_n hx hb d_SB_on_31 rfl (lv_at hl 1 rfl) ?_
        obtain ⟨t15, h16, hf⟩ := px_bind hf
        refine px_rar hx hb hK hM 2 rfl h16 d_SB_on_32 ?_
        refine lv_iload_n hx hb d_SB_on_33 rfl (lv_at hl 2 rfl) ?_
        refine lv_iload_n hx hb d_SB_on_34 rfl (lv_at hl 3 rfl) ?_
        obtain ⟨_, h32, hf⟩ := px_bind hf
        obtain ⟨⟨v19, M17⟩, h18, hf⟩ := px_bind hf
        dsimp only at hf
        refine px_calli (va_runV (As := [.int x2, .int x3]) (rest := []) ⟨hx, hb, hml, hown, hts⟩ (c_BO_addLine l bs D G t15 x2 x3 M9 h18) (cwV 2 hts (px_gV w_489 w_490 w_491 w_11 w_492) rfl rfl rfl (by decide +kernel) ⟨Nat.le_of_ble_eq_true rfl, Nat.le_of_ble_eq_true rfl⟩) (px_preV px_nwok hK hN hO hM h32 rfl) rfl rfl hl.1 rfl (lv_room (Nat.le_of_ble_eq_true rfl)) d_SB_on_35 ⟨Nat.le_of_ble_eq_true rfl, Nat.le_of_ble_eq_true rfl⟩) hS (fun H locs hM hS => ?_)
        refine lv_if_ne (tgt := 43) hx hb d_SB_on_38 (by decide) (fun c20 => ?_) (fun c20 => ?_)
        · have hf := px_iff hf c20
          refine lv_aload_n hx hb d_SB_on_43 rfl (lv_at hl 0 rfl) ?_
          obtain ⟨t21, h22, hf⟩ := px_bind hf
          refine px_rgr hx hb hts cl_SB hown hK hM 7 (by decide) (hts _ w_299) h22 d_SB_on_44 ?_
          refine lv_aload_n hx hb d_SB_on_47 rfl (lv_at hl 0 rfl) ?_
          obtain ⟨t23, h24, hf⟩ := px_bind hf
          refine px_rgr hx hb hts cl_SB hown hK hM 8 (by decide) (hts _ w_300) h24 d_SB_on_48 ?_
          refine lv_iload_n hx hb d_SB_on_51 rfl (lv_at hl 1 rfl) ?_
          obtain ⟨t25, h26, hf⟩ := px_bind hf
          refine px_rar hx hb hK hM 2 rfl h26 d_SB_on_52 ?_
          obtain ⟨v27, h28, hf⟩ := px_bind hf
          refine px_rgiN hx hb hts cl_BO hown hK hM 3 (by decide) (hN _ n_278) h28 d_SB_on_53 ?_
          refine lv_iload_n hx hb d_SB_on_56 rfl (lv_at hl 2 rfl) ?_
          obtain ⟨_, h31, hf⟩ := px_bind hf
          obtain ⟨M29, h30, hf⟩ := px_bind hf
          refine px_callv (va_runV (As := [.int v27, .int x2]) (rest := []) ⟨hx, hb, hml, hown, hts⟩ (c_RO_show l bs D G t21 v27 x2 M17 h30) (cwV 2 hts (px_gV w_497 w_498 w_499 w_6 w_500) rfl rfl rfl (by decide +kernel) ⟨Nat.le_of_ble_eq_true rfl, Nat.le_of_ble_eq_true rfl⟩) (px_preV px_nwok hK hN hO hM h31 rfl) rfl rfl hl.1 rfl (lv_room (Nat.le_of_ble_eq_true rfl)) d_SB_on_57 ⟨Nat.le_of_ble_eq_true rfl, Nat.le_of_ble_eq_true rfl⟩) hS (fun H locs hM hS => ?_)
          refine lv_iconst (v := 1) hx hb d_SB_on_60 (by decide) ?_
          obtain ⟨rfl, rfl⟩ := px_s2 hf
          exact px_zret hx hb hr rfl hlocks hM hS d_SB_on_61
        · have hf := px_ift hf c20
          refine lv_iconst (v := 0) hx hb d_SB_on_41 (by decide) ?_
          obtain ⟨rfl, rfl⟩ := px_s2 hf
          exact px_zret hx hb hr rfl hlocks hM hS d_SB_on_42
      · have hf := px_ift hf c12
        refine lv_iconst (v := 0) hx hb d_SB_on_25 (by decide) ?_
        obtain ⟨rfl, rfl⟩ := px_s2 hf
        exact px_zret hx hb hr rfl hlocks hM hS d_SB_on_26
def f_SB_wide (o0 : Nat) (x1 : Int32) (x2 : Int32) (M : px_M) : Option (Int32 × px_M) :=
  (px_ob 0 M o0).bind fun _ =>
  (f_SB_isBoard o0 x1 M).bind fun (v3, M1) =>
  if v3 = 0 then
  some (0, M1)
  else
  (f_SB_isWithin x2 0 10000 M1).bind fun (v7, M5) =>
  if v7 = 0 then
  some (0, M5)
  else
  (px_gr 0 8 M5 o0).bind fun t9 =>
  (px_ar 2 M5 t9 x1).bind fun t11 =>
  (px_pt 10 4 M5 t11 (.int x2)).bind fun M13 =>
  some (1, M13)
set_option maxHeartbeats 4000000 in
set_option maxRecDepth 100000 in
theorem c_SB_wide (l : Launch) (bs : Nat) (D : va_G) (G : Nat → ClassId) (o0 : Nat) (x1 : Int32) (x2 : Int32) (M : px_M) {r : Int32} {M' : px_M} (hf : f_SB_wide o0 x1 x2 M = some (r, M')) : Met l y_SB_wide (.code y_SB_wide b_SB_wide 3 (some .boolean) :: px_tw) ⟨2, 0, 0, 43⟩ (va_Pc [.ref o0, .int x1, .int x2] (px_B bs D px_cl (px_tys G) px_nw px_over M)) (px_Qi bs D px_cl (px_tys G) r M') 0 0 (fun q => bs ≤ q) := by
  refine px_of (by decide) (Nat.le_of_ble_eq_true rfl) ?_
  intro p e s m below meth c ls C0 hM hS hl
  obtain ⟨hx, hb, hr, hml, hown, hnm, hlocks, hts, hK, hN, hO⟩ := C0
  have hl : lv_has ls 3 [(0, .ref o0), (1, .int x1), (2, .int x2)] := hl
  unfold f_SB_wide at hf
  refine lv_aload_n hx hb d_SB_wide_0 rfl (lv_at hl 0 rfl) ?_
  refine lv_iload_n hx hb d_SB_wide_1 rfl (lv_at hl 1 rfl) ?_
  obtain ⟨_, h15, hf⟩ := px_bind hf
  obtain ⟨⟨v3, M1⟩, h2, hf⟩ := px_bind hf
  dsimp only at hf
  refine px_calli (va_runV (As := [.int x1]) (rest := []) ⟨hx, hb, hml, hown, hts⟩ (c_SB_isBoard l bs D G o0 x1 M h2) (cwV 1 hts (px_gV w_485 w_487 ws_SB_isBoard w_1 w_488) rfl rfl rfl (by decide +kernel) ⟨Nat.le_of_ble_eq_true rfl, Nat.le_of_ble_eq_true rfl⟩) (px_preV px_nwok hK hN hO hM h15 rfl) rfl rfl hl.1 rfl (lv_room (Nat.le_of_ble_eq_true rfl)) d_SB_wide_2 ⟨Nat.le_of_ble_eq_true rfl, Nat.le_of_ble_eq_true rfl⟩) hS (fun H locs hM hS => ?_)
  refine lv_if_eq (tgt := 19) hx hb d_SB_wide_5 (by decide) (fun c4 => ?_) (fun c4 => ?_)
  · have hf := px_ift hf c4
    refine lv_iconst (v := 0) hx hb d_SB_wide_19 (by decide) ?_
    obtain ⟨rfl, rfl⟩ := px_s2 hf
    exact px_zret hx hb hr rfl hlocks hM hS d_SB_wide_20
  · have hf := px_iff hf c4
    refine lv_iload_n hx hb d_SB_wide_8 rfl (lv_at hl 2 rfl) ?_
    refine lv_iconst (v := 0) hx hb d_SB_wide_9 (by decide) ?_
    refine lv_sipush (v := 10000) hx hb d_SB_wide_10 (by decide) ?_
    obtain ⟨⟨v7, M5⟩, h6, hf⟩ := px_bind hf
    dsimp only at hf
    refine px_calli (va_runS (As := [.int x2, .int 0, .int 10000]) (rest := []) ⟨hx, hb, hml, hown, hts⟩ (c_SB_isWithin l bs D G x2 0 10000 M1 h6) (cwS 3 hts (px_gS w_339 w_340 w_1 w_341) rfl rfl rfl (by decide +kernel) ⟨Nat.le_of_ble_eq_true rfl, Nat.le_of_ble_eq_true rfl⟩) (px_preS px_nwok hK hN hO hM) rfl rfl hl.1 rfl (lv_room (Nat.le_of_ble_eq_true rfl)) d_SB_wide_13 ⟨Nat.le_of_ble_eq_true rfl, Nat.le_of_ble_eq_true rfl⟩) hS (fun H locs hM hS => ?_)
    refine lv_if_ne (tgt := 21) hx hb d_SB_wide_16 (by decide) (fun c8 => ?_) (fun c8 => ?_)
    · have hf := px_iff hf c8
      refine lv_aload_n hx hb d_SB_wide_21 rfl (lv_at hl 0 rfl) ?_
      obtain ⟨t9, h10, hf⟩ := px_bind hf
      refine px_rgr hx hb hts cl_SB hown hK hM 8 (by decide) (hts _ w_300) h10 d_SB_wide_22 ?_
      refine lv_iload_n hx hb d_SB_wide_25 rfl (lv_at hl 1 rfl) ?_
      obtain ⟨t11, h12, hf⟩ := px_bind hf
      refine px_rar hx hb hK hM 2 rfl h12 d_SB_wide_26 ?_
      refine lv_iload_n hx hb d_SB_wide_27 rfl (lv_at hl 2 rfl) ?_
      obtain ⟨M13, h14, hf⟩ := px_bind hf
      refine px_rptN hx hb hts cl_BO hown hK hM hS 4 (by decide) (hN _ n_280) rfl rfl rfl h14 d_SB_wide_28 (fun H locs hM hS => ?_)
      refine lv_iconst (v := 1) hx hb d_SB_wide_31 (by decide) ?_
      obtain ⟨rfl, rfl⟩ := px_s2 hf
      exact px_zret hx hb hr rfl hlocks hM hS d_SB_wide_32
    · have hf := px_ift hf c8
      refine lv_iconst (v := 0) hx hb d_SB_wide_19 (by decide) ?_
      obtain ⟨rfl, rfl⟩ := px_s2 hf
      exact px_zret hx hb hr rfl hlocks hM hS d_SB_wide_20
def f_SB_isLine (o0 : Nat) (x1 : Int32) (x2 : Int32) (M : px_M) : Option (Int32 × px_M) :=
  (px_ob 0 M o0).bind fun _ =>
  (f_SB_isBoard o0 x1 M).bind fun (v3, M1) =>
  if v3 = 0 then
  some (0, M1)
  else
  (px_gr 0 8 M1 o0).bind fun t5 =>
  (px_ar 2 M1 t5 x1).bind fun t7 =>
  (px_gi 10 2 M1 t7).bind fun v9 =>
  (f_SB_isWithin x2 0 (v9 - 1) M1).bind fun (v13, M11) =>
  if v13 = 0 then
  some (0, M11)
  else
  some (1, M11)
set_option maxHeartbeats 4000000 in
set_option maxRecDepth 100000 in
theorem c_SB_isLine (l : Launch) (bs : Nat) (D : va_G) (G : Nat → ClassId) (o0 : Nat) (x1 : Int32) (x2 : Int32) (M : px_M) {r : Int32} {M' : px_M} (hf : f_SB_isLine o0 x1 x2 M = some (r, M')) : Met l y_SB_isLine (.code y_SB_isLine b_SB_isLine 3 (some .boolean) :: px_tw) ⟨2, 0, 0, 43⟩ (va_Pc [.ref o0, .int x1, .int x2] (px_B bs D px_cl (px_tys G) px_nw px_over M)) (px_Qi bs D px_cl (px_tys G) r M') 0 0 (fun q => bs ≤ q) := by
  refine px_of (by decide) (Nat.le_of_ble_eq_true rfl) ?_
  intro p e s m below meth c ls C0 hM hS hl
  obtain ⟨hx, hb, hr, hml, hown, hnm, hlocks, hts, hK, hN, hO⟩ := C0
  have hl : lv_has ls 3 [(0, .ref o0), (1, .int x1), (2, .int x2)] := hl
  unfold f_SB_isLine at hf
  refine lv_aload_n hx hb d_SB_isLine_0 rfl (lv_at hl 0 rfl) ?_
  refine lv_iload_n hx hb d_SB_isLine_1 rfl (lv_at hl 1 rfl) ?_
  obtain ⟨_, h15, hf⟩ := px_bind hf
  obtain ⟨⟨v3, M1⟩, h2, hf⟩ := px_bind hf
  dsimp only at hf
  refine px_calli (va_runV (As := [.int x1]) (rest := []) ⟨hx, hb, hml, hown, hts⟩ (c_SB_isBoard l bs D G o0 x1 M h2) (cwV 1 hts (px_gV w_485 w_487 ws_SB_isBoard w_1 w_488) rfl rfl rfl (by decide +kernel) ⟨Nat.le_of_ble_eq_true rfl, Nat.le_of_ble_eq_true rfl⟩) (px_preV px_nwok hK hN hO hM h15 rfl) rfl rfl hl.1 rfl (lv_room (Nat.le_of_ble_eq_true rfl)) d_SB_isLine_2 ⟨Nat.le_of_ble_eq_true rfl, Nat.le_of_ble_eq_true rfl⟩) hS (fun H locs hM hS => ?_)
  refine lv_if_eq (tgt := 31) hx hb d_SB_isLine_5 (by decide) (fun c4 => ?_) (fun c4 => ?_)
  · have hf := px_ift hf c4
    refine lv_iconst (v := 0) hx hb d_SB_isLine_31 (by decide) ?_
    obtain ⟨rfl, rfl⟩ := px_s2 hf
    exact px_zret hx hb hr rfl hlocks hM hS d_SB_isLine_32
  · have hf := px_iff hf c4
    refine lv_iload_n hx hb d_SB_isLine_8 rfl (lv_at hl 2 rfl) ?_
    refine lv_iconst (v := 0) hx hb d_SB_isLine_9 (by decide) ?_
    refine lv_aload_n hx hb d_SB_isLine_10 rfl (lv_at hl 0 rfl) ?_
    obtain ⟨t5, h6, hf⟩ := px_bind hf
    refine px_rgr hx hb hts cl_SB hown hK hM 8 (by decide) (hts _ w_300) h6 d_SB_isLine_11 ?_
    refine lv_iload_n hx hb d_SB_isLine_14 rfl (lv_at hl 1 rfl) ?_
    obtain ⟨t7, h8, hf⟩ := px_bind hf
    refine px_rar hx hb hK hM 2 rfl h8 d_SB_isLine_15 ?_
    obtain ⟨v9, h10, hf⟩ := px_bind hf
    refine px_rgiN hx hb hts cl_BO hown hK hM 2 (by decide) (hN _ n_276) h10 d_SB_isLine_16 ?_
    refine lv_iconst (v := 1) hx hb d_SB_isLine_19 (by decide) ?_
    refine lv_isub hx hb d_SB_isLine_20 ?_
    obtain ⟨⟨v13, M11⟩, h12, hf⟩ := px_bind hf
    dsimp only at hf
    refine px_calli (va_runS (As := [.int x2, .int 0, .int (v9 - 1)]) (rest := []) ⟨hx, hb, hml, hown, hts⟩ (c_SB_isWithin l bs D G x2 0 (v9 - 1) M1 h12) (cwS 3 hts (px_gS w_339 w_340 w_1 w_341) rfl rfl rfl (by decide +kernel) ⟨Nat.le_of_ble_eq_true rfl, Nat.le_of_ble_eq_true rfl⟩) (px_preS px_nwok hK hN hO hM) rfl rfl hl.1 rfl (lv_room (Nat.le_of_ble_eq_true rfl)) d_SB_isLine_21 ⟨Nat.le_of_ble_eq_true rfl, Nat.le_of_ble_eq_true rfl⟩) hS (fun H locs hM hS => ?_)
    refine lv_if_eq (tgt := 31) hx hb d_SB_isLine_24 (by decide) (fun c14 => ?_) (fun c14 => ?_)
    · have hf := px_ift hf c14
      refine lv_iconst (v := 0) hx hb d_SB_isLine_31 (by decide) ?_
      obtain ⟨rfl, rfl⟩ := px_s2 hf
      exact px_zret hx hb hr rfl hlocks hM hS d_SB_isLine_32
    · have hf := px_iff hf c14
      refine lv_iconst (v := 1) hx hb d_SB_isLine_27 (by decide) ?_
      refine lv_goto (tgt := 32) hx hb d_SB_isLine_28 (by decide) ?_
      obtain ⟨rfl, rfl⟩ := px_s2 hf
      exact px_zret hx hb hr rfl hlocks hM hS d_SB_isLine_32
def f_RO_shortenBy (o0 : Nat) (x1 : Int32) (M : px_M) : Option (Int32 × px_M) :=
  (px_gr 5 4 M o0).bind fun t1 =>
  (px_gr 5 0 M o0).bind fun t3 =>
  (px_ai 0 M t3 x1).bind fun v5 =>
  (px_ai 0 M t1 v5).bind fun v7 =>
  if v7 = ((-1)) then
  some (0, M)
  else
  (px_gr 5 4 M o0).bind fun t10 =>
  (px_gr 5 1 M o0).bind fun t12 =>
  (px_ai 0 M t12 x1).bind fun v14 =>
  (px_ai 0 M t10 v14).bind fun v16 =>
  (px_gr 5 2 M o0).bind fun t18 =>
  (px_ai 0 M t18 x1).bind fun v20 =>
  if v16 = ((-1)) then
  (px_gr 5 4 M o0).bind fun t23 =>
  (px_gr 5 1 M o0).bind fun t25 =>
  (px_ai 0 M t25 x1).bind fun v27 =>
  (px_si 0 M t23 v27 (v7 + v20)).bind fun M29 =>
  some (1, M29)
  else
  if (v7 + v20) < v16 then
  (px_gr 5 4 M o0).bind fun t32 =>
  (px_gr 5 1 M o0).bind fun t34 =>
  (px_ai 0 M t34 x1).bind fun v36 =>
  (px_si 0 M t32 v36 (v7 + v20)).bind fun M38 =>
  some (1, M38)
  else
  some (0, M)
set_option maxHeartbeats 4000000 in
set_option maxRecDepth 100000 in
theorem c_RO_shortenBy (l : Launch) (bs : Nat) (D : va_G) (G : Nat → ClassId) (o0 : Nat) (x1 : Int32) (M : px_M) {r : Int32} {M' : px_M} (hf : f_RO_shortenBy o0 x1 M = some (r, M')) : Met l y_RO_shortenBy (.code y_RO_shortenBy b_RO_shortenBy 5 (some .boolean) :: px_tw) ⟨0, 0, 0, 0⟩ (va_Pc [.ref o0, .int x1] (px_B bs D px_cl (px_tys G) px_nw px_over M)) (px_Qi bs D px_cl (px_tys G) r M') 0 0 (fun q => bs ≤ q) := by
  refine px_of (by decide) (Nat.le_of_ble_eq_true rfl) ?_
  intro p e s m below meth c ls C0 hM hS hl
  obtain ⟨hx, hb, hr, hml, hown, hnm, hlocks, hts, hK, hN, hO⟩ := C0
  have hl : lv_has ls 5 [(0, .ref o0), (1, .int x1)] := hl
  unfold f_RO_shortenBy at hf
  refine lv_aload_n hx hb d_RO_shortenBy_0 rfl (lv_at hl 0 rfl) ?_
  obtain ⟨t1, h2, hf⟩ := px_bind hf
  refine px_rgr hx hb hts cl_RO hown hK hM 4 (by decide) (hts _ w_140) h2 d_RO_shortenBy_1 ?_
  refine lv_aload_n hx hb d_RO_shortenBy_4 rfl (lv_at hl 0 rfl) ?_
  obtain ⟨t3, h4, hf⟩ := px_bind hf
  refine px_rgr hx hb hts cl_RO hown hK hM 0 (by decide) (hts _ w_134) h4 d_RO_shortenBy_5 ?_
  refine lv_iload_n hx hb d_RO_shortenBy_8 rfl (lv_at hl 1 rfl) ?_
  obtain ⟨v5, h6, hf⟩ := px_bind hf
  refine px_rai hx hb hK hM 0 rfl h6 d_RO_shortenBy_9 ?_
  obtain ⟨v7, h8, hf⟩ := px_bind hf
  refine px_rai hx hb hK hM 0 rfl h8 d_RO_shortenBy_10 ?_
  refine lv_istore_n (lv' := [(2, .int v7), (0, .ref o0), (1, .int x1)]) hx hb d_RO_shortenBy_11 rfl hl (by decide) rfl (fun ls hl => ?_)
  refine lv_iload_n hx hb d_RO_shortenBy_12 rfl (lv_at hl 0 rfl) ?_
  refine lv_iconst (v := (-1)) hx hb d_RO_shortenBy_13 (by decide) ?_
  refine lv_icmp_ne (tgt := 19) hx hb d_RO_shortenBy_14 (by decide) (fun c9 => ?_) (fun c9 => ?_)
  · have hf := px_iff hf c9
    refine lv_aload_n hx hb d_RO_shortenBy_19 rfl (lv_at hl 1 rfl) ?_
    obtain ⟨t10, h11, hf⟩ := px_bind hf
    refine px_rgr hx hb hts cl_RO hown hK hM 4 (by decide) (hts _ w_140) h11 d_RO_shortenBy_20 ?_
    refine lv_aload_n hx hb d_RO_shortenBy_23 rfl (lv_at hl 1 rfl) ?_
    obtain ⟨t12, h13, hf⟩ := px_bind hf
    refine px_rgr hx hb hts cl_RO hown hK hM 1 (by decide) (hts _ w_135) h13 d_RO_shortenBy_24 ?_
    refine lv_iload_n hx hb d_RO_shortenBy_27 rfl (lv_at hl 2 rfl) ?_
    obtain ⟨v14, h15, hf⟩ := px_bind hf
    refine px_rai hx hb hK hM 0 rfl h15 d_RO_shortenBy_28 ?_
    obtain ⟨v16, h17, hf⟩ := px_bind hf
    refine px_rai hx hb hK hM 0 rfl h17 d_RO_shortenBy_29 ?_
    refine lv_istore_n (lv' := [(3, .int v16), (2, .int v7), (0, .ref o0), (1, .int x1)]) hx hb d_RO_shortenBy_30 rfl hl (by decide) rfl (fun ls hl => ?_)
    refine lv_iload_n hx hb d_RO_shortenBy_31 rfl (lv_at hl 1 rfl) ?_
    refine lv_aload_n hx hb d_RO_shortenBy_32 rfl (lv_at hl 2 rfl) ?_
    obtain ⟨t18, h19, hf⟩ := px_bind hf
    refine px_rgr hx hb hts cl_RO hown hK hM 2 (by decide) (hts _ w_138) h19 d_RO_shortenBy_33 ?_
    refine lv_iload_n hx hb d_RO_shortenBy_36 rfl (lv_at hl 3 rfl) ?_
    obtain ⟨v20, h21, hf⟩ := px_bind hf
    refine px_rai hx hb hK hM 0 rfl h21 d_RO_shortenBy_37 ?_
    refine lv_iadd hx hb d_RO_shortenBy_38 ?_
    refine lv_istore (lv' := [(4, .int (v7 + v20)), (3, .int v16), (2, .int v7), (0, .ref o0), (1, .int x1)]) hx hb d_RO_shortenBy_39 hl (by decide) rfl (fun ls hl => ?_)
    refine lv_iload_n hx hb d_RO_shortenBy_41 rfl (lv_at hl 1 rfl) ?_
    refine lv_iconst (v := (-1)) hx hb d_RO_shortenBy_42 (by decide) ?_
    refine lv_icmp_eq (tgt := 54) hx hb d_RO_shortenBy_43 (by decide) (fun c22 => ?_) (fun c22 => ?_)
    · have hf := px_ift hf c22
      refine lv_aload_n hx hb d_RO_shortenBy_54 rfl (lv_at hl 3 rfl) ?_
      obtain ⟨t23, h24, hf⟩ := px_bind hf
      refine px_rgr hx hb hts cl_RO hown hK hM 4 (by decide) (hts _ w_140) h24 d_RO_shortenBy_55 ?_
      refine lv_aload_n hx hb d_RO_shortenBy_58 rfl (lv_at hl 3 rfl) ?_
      obtain ⟨t25, h26, hf⟩ := px_bind hf
      refine px_rgr hx hb hts cl_RO hown hK hM 1 (by decide) (hts _ w_135) h26 d_RO_shortenBy_59 ?_
      refine lv_iload_n hx hb d_RO_shortenBy_62 rfl (lv_at hl 4 rfl) ?_
      obtain ⟨v27, h28, hf⟩ := px_bind hf
      refine px_rai hx hb hK hM 0 rfl h28 d_RO_shortenBy_63 ?_
      refine lv_iload hx hb d_RO_shortenBy_64 (lv_at hl 0 rfl) ?_
      obtain ⟨M29, h30, hf⟩ := px_bind hf
      refine px_rsi hx hb hK hM hS 0 rfl h30 d_RO_shortenBy_66 (fun H locs hM hS => ?_)
      refine lv_iconst (v := 1) hx hb d_RO_shortenBy_67 (by decide) ?_
      obtain ⟨rfl, rfl⟩ := px_s2 hf
      exact px_zret hx hb hr rfl hlocks hM hS d_RO_shortenBy_68
    · have hf := px_iff hf c22
      refine lv_iload_n hx hb d_RO_shortenBy_46 rfl (lv_at hl 1 rfl) ?_
      refine lv_iload hx hb d_RO_shortenBy_47 (lv_at hl 0 rfl) ?_
      refine lv_icmp_gt (tgt := 54) hx hb d_RO_shortenBy_49 (by decide) (fun c31 => ?_) (fun c31 => ?_)
      · have hf := px_ift hf c31
        refine lv_aload_n hx hb d_RO_shortenBy_54 rfl (lv_at hl 3 rfl) ?_
        obtain ⟨t32, h33, hf⟩ := px_bind hf
        refine px_rgr hx hb hts cl_RO hown hK hM 4 (by decide) (hts _ w_140) h33 d_RO_shortenBy_55 ?_
        refine lv_aload_n hx hb d_RO_shortenBy_58 rfl (lv_at hl 3 rfl) ?_
        obtain ⟨t34, h35, hf⟩ := px_bind hf
        refine px_rgr hx hb hts cl_RO hown hK hM 1 (by decide) (hts _ w_135) h35 d_RO_shortenBy_59 ?_
        refine lv_iload_n hx hb d_RO_shortenBy_62 rfl (lv_at hl 4 rfl) ?_
        obtain ⟨v36, h37, hf⟩ := px_bind hf
        refine px_rai hx hb hK hM 0 rfl h37 d_RO_shortenBy_63 ?_
        refine lv_iload hx hb d_RO_shortenBy_64 (lv_at hl 0 rfl) ?_
        obtain ⟨M38, h39, hf⟩ := px_bind hf
        refine px_rsi hx hb hK hM hS 0 rfl h39 d_RO_shortenBy_66 (fun H locs hM hS => ?_)
        refine lv_iconst (v := 1) hx hb d_RO_shortenBy_67 (by decide) ?_
        obtain ⟨rfl, rfl⟩ := px_s2 hf
        exact px_zret hx hb hr rfl hlocks hM hS d_RO_shortenBy_68
      · have hf := px_iff hf c31
        refine lv_iconst (v := 0) hx hb d_RO_shortenBy_52 (by decide) ?_
        obtain ⟨rfl, rfl⟩ := px_s2 hf
        exact px_zret hx hb hr rfl hlocks hM hS d_RO_shortenBy_53
  · have hf := px_ift hf c9
    refine lv_iconst (v := 0) hx hb d_RO_shortenBy_17 (by decide) ?_
    obtain ⟨rfl, rfl⟩ := px_s2 hf
    exact px_zret hx hb hr rfl hlocks hM hS d_RO_shortenBy_18
def f_RO_measureFrom_L2 : Nat → Nat → Int32 → Int32 → px_M → Option ((Unit) × px_M)
  | 0, _, _, _, _ => none
  | n + 1, o0, x1, x2, M =>
    if 10 ≤ x2 then
    some ((), M)
    else
    (px_gr 5 4 M o0).bind fun t2 =>
    (px_si 0 M t2 x2 ((-1))).bind fun M4 =>
    f_RO_measureFrom_L2 n o0 x1 (x2 + 1) M4
set_option maxHeartbeats 4000000 in
set_option maxRecDepth 100000 in
theorem lp_RO_measureFrom_L2 {p : Program} {l : Launch} {e : Env} {s : State} {m : MethodId} {args : Array Value} {below : List Frame} {meth : Method} {c : Code} {bs : Nat} {D : va_G} {G : Nat → ClassId} {Q : State → Prop} (C0 : px_At p s m meth c y_RO_measureFrom b_RO_measureFrom 5 none args D px_cl (px_tys G) px_nw px_over) (x : Unit) (M' : px_M) (o0 : Nat) (x1 : Int32) (kx : ∀ (H : Heap) (locs : List Loc) (ls : Array Slot), px_W bs D px_cl (px_tys G) M' H → va_S (fun q => bs ≤ q) s.heap H locs → lv_has ls 5 [(0, .ref o0), (1, .int x1)] → W p l e ⟨1, 0, 0, 24⟩ s m args below meth c H locs 0 0 Q (F0 m 21 ls []))  : ∀ (n : Nat) (x2 : Int32) (M : px_M), f_RO_measureFrom_L2 n o0 x1 x2 M = some (x, M') → ∀ (H : Heap) (locs : List Loc) (ls : Array Slot), px_W bs D px_cl (px_tys G) M H → va_S (fun q => bs ≤ q) s.heap H locs → lv_has ls 5 [(0, .ref o0), (1, .int x1), (2, .int x2)] → W p l e ⟨1, 0, 0, 24⟩ s m args below meth c H locs 0 0 Q (F0 m 2 ls []) := by
  obtain ⟨hx, hb, hr, hml, hown, hnm, hlocks, hts, hK, hN, hO⟩ := C0
  intro n
  induction n with
  | zero => intro x2 M hf; cases hf
  | succ n ih =>
    intro x2 M hf H locs ls hM hS hl
    unfold f_RO_measureFrom_L2 at hf
    refine lv_iload_n hx hb d_RO_measureFrom_2 rfl (lv_at hl 2 rfl) ?_
    refine lv_bipush (v := 10) hx hb d_RO_measureFrom_3 (by decide) ?_
    refine lv_icmp_ge (tgt := 21) hx hb d_RO_measureFrom_5 (by decide) (fun c1 => ?_) (fun c1 => ?_)
    · have hf := px_ift hf c1
      obtain ⟨rfl, rfl⟩ := px_s2 hf
      exact kx _ _ _ hM hS (lv_sub hl [0, 1] rfl)
    · have hf := px_iff hf c1
      refine lv_aload_n hx hb d_RO_measureFrom_8 rfl (lv_at hl 0 rfl) ?_
      obtain ⟨t2, h3, hf⟩ := px_bind hf
      refine px_rgr hx hb hts cl_RO hown hK hM 4 (by decide) (hts _ w_140) h3 d_RO_measureFrom_9 ?_
      refine lv_iload_n hx hb d_RO_measureFrom_12 rfl (lv_at hl 2 rfl) ?_
      refine lv_iconst (v := (-1)) hx hb d_RO_measureFrom_13 (by decide) ?_
      obtain ⟨M4, h5, hf⟩ := px_bind hf
      refine px_rsi hx hb hK hM hS 0 rfl h5 d_RO_measureFrom_14 (fun H locs hM hS => ?_)
      refine lv_iinc (v := x2 + 1) (lv' := [(2, .int (x2 + 1)), (0, .ref o0), (1, .int x1)]) hx hb d_RO_measureFrom_15 hl (k := 2) rfl (by rfl) (by decide) rfl (fun ls hl => ?_)
      refine lv_goto (tgt := 2) hx hb d_RO_measureFrom_18 (by decide) ?_
      exact ih (x2 + 1) M4 hf _ _ _ hM hS (lv_sub hl [1, 2, 0] rfl)
def f_RO_measureFrom_L47 : Nat → Nat → Int32 → Int32 → Int32 → px_M → Option ((Int32) × px_M)
  | 0, _, _, _, _, _ => none
  | n + 1, o0, x3, x2, x4, M =>
    (px_gi 5 5 M o0).bind fun v14 =>
    if v14 ≤ x4 then
    some (x2, M)
    else
    (px_ob 5 M o0).bind fun _ =>
    (f_RO_shortenBy o0 x4 M).bind fun (v19, M17) =>
    if v19 = 0 then
    f_RO_measureFrom_L47 n o0 x3 x2 (x4 + 1) M17
    else
    f_RO_measureFrom_L47 n o0 x3 1 (x4 + 1) M17
set_option maxHeartbeats 4000000 in
set_option maxRecDepth 100000 in
theorem lp_RO_measureFrom_L47 {p : Program} {l : Launch} {e : Env} {s : State} {m : MethodId} {args : Array Value} {below : List Frame} {meth : Method} {c : Code} {bs : Nat} {D : va_G} {G : Nat → ClassId} {Q : State → Prop} (C0 : px_At p s m meth c y_RO_measureFrom b_RO_measureFrom 5 none args D px_cl (px_tys G) px_nw px_over) (x : Int32) (M' : px_M) (o0 : Nat) (x3 : Int32) (kx : ∀ (H : Heap) (locs : List Loc) (ls : Array Slot), px_W bs D px_cl (px_tys G) M' H → va_S (fun q => bs ≤ q) s.heap H locs → lv_has ls 5 [(0, .ref o0), (2, .int x), (3, .int x3)] → W p l e ⟨1, 0, 0, 24⟩ s m args below meth c H locs 0 0 Q (F0 m 73 ls []))  : ∀ (n : Nat) (x2 : Int32) (x4 : Int32) (M : px_M), f_RO_measureFrom_L47 n o0 x3 x2 x4 M = some (x, M') → ∀ (H : Heap) (locs : List Loc) (ls : Array Slot), px_W bs D px_cl (px_tys G) M H → va_S (fun q => bs ≤ q) s.heap H locs → lv_has ls 5 [(0, .ref o0), (2, .int x2), (3, .int x3), (4, .int x4)] → W p l e ⟨1, 0, 0, 24⟩ s m args below meth c H locs 0 0 Q (F0 m 47 ls []) := by
  obtain ⟨hx, hb, hr, hml, hown, hnm, hlocks, hts, hK, hN, hO⟩ := C0
  intro n
  induction n with
  | zero => intro x2 x4 M hf; cases hf
  | succ n ih =>
    intro x2 x4 M hf H locs ls hM hS hl
    unfold f_RO_measureFrom_L47 at hf
    refine lv_iload hx hb d_RO_measureFrom_47 (lv_at hl 3 rfl) ?_
    refine lv_aload_n hx hb d_RO_measureFrom_49 rfl (lv_at hl 0 rfl) ?_
    obtain ⟨v14, h15, hf⟩ := px_bind hf
    refine px_rgi hx hb hts cl_RO hown hK hM 5 (by decide) (hts _ w_142) h15 d_RO_measureFrom_50 ?_
    refine lv_icmp_ge (tgt := 73) hx hb d_RO_measureFrom_53 (by decide) (fun c16 => ?_) (fun c16 => ?_)
    · have hf := px_ift hf c16
      obtain ⟨rfl, rfl⟩ := px_s2 hf
      exact kx _ _ _ hM hS (lv_sub hl [0, 1, 2] rfl)
    · have hf := px_iff hf c16
      refine lv_aload_n hx hb d_RO_measureFrom_56 rfl (lv_at hl 0 rfl) ?_
      refine lv_iload hx hb d_RO_measureFrom_57 (lv_at hl 3 rfl) ?_
      obtain ⟨_, h21, hf⟩ := px_bind hf
      obtain ⟨⟨v19, M17⟩, h18, hf⟩ := px_bind hf
      dsimp only at hf
      refine px_calli (va_runV (As := [.int x4]) (rest := []) ⟨hx, hb, hml, hown, hts⟩ (c_RO_shortenBy l bs D G o0 x4 M h18) (cwV 1 hts (px_gV w_521 w_523 ws_RO_shortenBy w_6 w_524) rfl rfl rfl (by decide +kernel) ⟨Nat.le_of_ble_eq_true rfl, Nat.le_of_ble_eq_true rfl⟩) (px_preV px_nwok hK hN hO hM h21 rfl) rfl rfl hl.1 rfl (lv_room (Nat.le_of_ble_eq_true rfl)) d_RO_measureFrom_59 ⟨Nat.le_of_ble_eq_true rfl, Nat.le_of_ble_eq_true rfl⟩) hS (fun H locs hM hS => ?_)
      refine lv_if_eq (tgt := 67) hx hb d_RO_measureFrom_62 (by decide) (fun c20 => ?_) (fun c20 => ?_)
      · have hf := px_ift hf c20
        refine lv_iinc (v := x4 + 1) (lv' := [(4, .int (x4 + 1)), (0, .ref o0), (2, .int x2), (3, .int x3)]) hx hb d_RO_measureFrom_67 hl (k := 3) rfl (by rfl) (by decide) rfl (fun ls hl => ?_)
        refine lv_goto (tgt := 47) hx hb d_RO_measureFrom_70 (by decide) ?_
        exact ih x2 (x4 + 1) M17 hf _ _ _ hM hS (lv_sub hl [1, 2, 3, 0] rfl)
      · have hf := px_iff hf c20
        refine lv_iconst (v := 1) hx hb d_RO_measureFrom_65 (by decide) ?_
        refine lv_istore_n (lv' := [(2, .int 1), (0, .ref o0), (3, .int x3), (4, .int x4)]) hx hb d_RO_measureFrom_66 rfl hl (by decide) rfl (fun ls hl => ?_)
        refine lv_iinc (v := x4 + 1) (lv' := [(4, .int (x4 + 1)), (2, .int 1), (0, .ref o0), (3, .int x3)]) hx hb d_RO_measureFrom_67 hl (k := 3) rfl (by rfl) (by decide) rfl (fun ls hl => ?_)
        refine lv_goto (tgt := 47) hx hb d_RO_measureFrom_70 (by decide) ?_
        exact ih 1 (x4 + 1) M17 hf _ _ _ hM hS (lv_sub hl [2, 1, 3, 0] rfl)
def f_RO_measureFrom_L32 : Nat → Nat → Int32 → Int32 → px_M → Option ((Unit) × px_M)
  | 0, _, _, _, _ => none
  | n + 1, o0, x2, x3, M =>
    if 10 ≤ x3 then
    some ((), M)
    else
    if x2 = 0 then
    some ((), M)
    else
    (f_RO_measureFrom_L47 px_fuel o0 x3 0 0 M).bind fun (v24, M22) =>
    f_RO_measureFrom_L32 n o0 v24 (x3 + 1) M22
set_option maxHeartbeats 4000000 in
set_option maxRecDepth 100000 in
theorem lp_RO_measureFrom_L32 {p : Program} {l : Launch} {e : Env} {s : State} {m : MethodId} {args : Array Value} {below : List Frame} {meth : Method} {c : Code} {bs : Nat} {D : va_G} {G : Nat → ClassId} {Q : State → Prop} (C0 : px_At p s m meth c y_RO_measureFrom b_RO_measureFrom 5 none args D px_cl (px_tys G) px_nw px_over) (x : Unit) (M' : px_M) (o0 : Nat) (kx : ∀ (H : Heap) (locs : List Loc) (ls : Array Slot), px_W bs D px_cl (px_tys G) M' H → va_S (fun q => bs ≤ q) s.heap H locs → lv_has ls 5 [] → W p l e ⟨1, 0, 0, 24⟩ s m args below meth c H locs 0 0 Q (F0 m 79 ls []))  : ∀ (n : Nat) (x2 : Int32) (x3 : Int32) (M : px_M), f_RO_measureFrom_L32 n o0 x2 x3 M = some (x, M') → ∀ (H : Heap) (locs : List Loc) (ls : Array Slot), px_W bs D px_cl (px_tys G) M H → va_S (fun q => bs ≤ q) s.heap H locs → lv_has ls 5 [(0, .ref o0), (2, .int x2), (3, .int x3)] → W p l e ⟨1, 0, 0, 24⟩ s m args below meth c H locs 0 0 Q (F0 m 32 ls []) := by
  obtain ⟨hx, hb, hr, hml, hown, hnm, hlocks, hts, hK, hN, hO⟩ := C0
  intro n
  induction n with
  | zero => intro x2 x3 M hf; cases hf
  | succ n ih =>
    intro x2 x3 M hf H locs ls hM hS hl
    unfold f_RO_measureFrom_L32 at hf
    refine lv_iload_n hx hb d_RO_measureFrom_32 rfl (lv_at hl 2 rfl) ?_
    refine lv_bipush (v := 10) hx hb d_RO_measureFrom_33 (by decide) ?_
    refine lv_icmp_ge (tgt := 79) hx hb d_RO_measureFrom_35 (by decide) (fun c12 => ?_) (fun c12 => ?_)
    · have hf := px_ift hf c12
      obtain ⟨rfl, rfl⟩ := px_s2 hf
      exact kx _ _ _ hM hS (lv_sub hl [] rfl)
    · have hf := px_iff hf c12
      refine lv_iload_n hx hb d_RO_measureFrom_38 rfl (lv_at hl 1 rfl) ?_
      refine lv_if_eq (tgt := 79) hx hb d_RO_measureFrom_39 (by decide) (fun c13 => ?_) (fun c13 => ?_)
      · have hf := px_ift hf c13
        obtain ⟨rfl, rfl⟩ := px_s2 hf
        exact kx _ _ _ hM hS (lv_sub hl [] rfl)
      · have hf := px_iff hf c13
        refine lv_iconst (v := 0) hx hb d_RO_measureFrom_42 (by decide) ?_
        refine lv_istore_n (lv' := [(2, .int 0), (0, .ref o0), (3, .int x3)]) hx hb d_RO_measureFrom_43 rfl hl (by decide) rfl (fun ls hl => ?_)
        refine lv_iconst (v := 0) hx hb d_RO_measureFrom_44 (by decide) ?_
        refine lv_istore (lv' := [(4, .int 0), (2, .int 0), (0, .ref o0), (3, .int x3)]) hx hb d_RO_measureFrom_45 hl (by decide) rfl (fun ls hl => ?_)
        obtain ⟨⟨v24, M22⟩, h23, hf⟩ := px_bind hf
        dsimp only at hf
        refine lp_RO_measureFrom_L47 ⟨hx, hb, hr, hml, hown, hnm, hlocks, hts, hK, hN, hO⟩ _ M22 o0 x3 (fun H locs ls hM hS hl => ?_) px_fuel 0 0 M h23 _ _ _ hM hS (lv_sub hl [2, 1, 3, 0] rfl)
        try dsimp only at hl
        refine lv_iinc (v := x3 + 1) (lv' := [(3, .int (x3 + 1)), (0, .ref o0), (2, .int v24)]) hx hb d_RO_measureFrom_73 hl (k := 2) rfl (by rfl) (by decide) rfl (fun ls hl => ?_)
        refine lv_goto (tgt := 32) hx hb d_RO_measureFrom_76 (by decide) ?_
        exact ih v24 (x3 + 1) M22 hf _ _ _ hM hS (lv_sub hl [1, 2, 0] rfl)
def f_RO_measureFrom (o0 : Nat) (x1 : Int32) (M : px_M) : Option (px_M) :=
  (f_RO_measureFrom_L2 px_fuel o0 x1 0 M).bind fun (_, M6) =>
  (px_gr 5 4 M6 o0).bind fun t8 =>
  (px_si 0 M6 t8 x1 0).bind fun M10 =>
  (f_RO_measureFrom_L32 px_fuel o0 1 0 M10).bind fun (_, M25) =>
  some M25
set_option maxHeartbeats 4000000 in
set_option maxRecDepth 100000 in
theorem c_RO_measureFrom (l : Launch) (bs : Nat) (D : va_G) (G : Nat → ClassId) (o0 : Nat) (x1 : Int32) (M : px_M) {M' : px_M} (hf : f_RO_measureFrom o0 x1 M = some M') : Met l y_RO_measureFrom (.code y_RO_measureFrom b_RO_measureFrom 5 none :: px_tw) ⟨1, 0, 0, 24⟩ (va_Pc [.ref o0, .int x1] (px_B bs D px_cl (px_tys G) px_nw px_over M)) (px_Qv bs D px_cl (px_tys G) M') 0 0 (fun q => bs ≤ q) := by
  refine px_of (by decide) (Nat.le_of_ble_eq_true rfl) ?_
  intro p e s m below meth c ls C0 hM hS hl
  obtain ⟨hx, hb, hr, hml, hown, hnm, hlocks, hts, hK, hN, hO⟩ := C0
  have hl : lv_has ls 5 [(0, .ref o0), (1, .int x1)] := hl
  unfold f_RO_measureFrom at hf
  refine lv_iconst (v := 0) hx hb d_RO_measureFrom_0 (by decide) ?_
  refine lv_istore_n (lv' := [(2, .int 0), (0, .ref o0), (1, .int x1)]) hx hb d_RO_measureFrom_1 rfl hl (by decide) rfl (fun ls hl => ?_)
  obtain ⟨⟨_, M6⟩, h7, hf⟩ := px_bind hf
  dsimp only at hf
  refine lp_RO_measureFrom_L2 ⟨hx, hb, hr, hml, hown, hnm, hlocks, hts, hK, hN, hO⟩ _ M6 o0 x1 (fun H locs ls hM hS hl => ?_) px_fuel 0 M h7 _ _ _ hM hS (lv_sub hl [1, 2, 0] rfl)
  try dsimp only at hl
  refine lv_aload_n hx hb d_RO_measureFrom_21 rfl (lv_at hl 0 rfl) ?_
  obtain ⟨t8, h9, hf⟩ := px_bind hf
  refine px_rgr hx hb hts cl_RO hown hK hM 4 (by decide) (hts _ w_140) h9 d_RO_measureFrom_22 ?_
  refine lv_iload_n hx hb d_RO_measureFrom_25 rfl (lv_at hl 1 rfl) ?_
  refine lv_iconst (v := 0) hx hb d_RO_measureFrom_26 (by decide) ?_
  obtain ⟨M10, h11, hf⟩ := px_bind hf
  refine px_rsi hx hb hK hM hS 0 rfl h11 d_RO_measureFrom_27 (fun H locs hM hS => ?_)
  refine lv_iconst (v := 1) hx hb d_RO_measureFrom_28 (by decide) ?_
  refine lv_istore_n (lv' := [(2, .int 1), (0, .ref o0), (1, .int x1)]) hx hb d_RO_measureFrom_29 rfl hl (by decide) rfl (fun ls hl => ?_)
  refine lv_iconst (v := 0) hx hb d_RO_measureFrom_30 (by decide) ?_
  refine lv_istore_n (lv' := [(3, .int 0), (2, .int 1), (0, .ref o0), (1, .int x1)]) hx hb d_RO_measureFrom_31 rfl hl (by decide) rfl (fun ls hl => ?_)
  obtain ⟨⟨_, M25⟩, h26, hf⟩ := px_bind hf
  dsimp only at hf
  refine lp_RO_measureFrom_L32 ⟨hx, hb, hr, hml, hown, hnm, hlocks, hts, hK, hN, hO⟩ _ M25 o0 (fun H locs ls hM hS hl => ?_) px_fuel 1 0 M10 h26 _ _ _ hM hS (lv_sub hl [2, 1, 0] rfl)
  try dsimp only at hl
  obtain rfl := px_s1 hf
  exact px_vret hx hb hr hlocks hM hS d_RO_measureFrom_79
def f_NA_isBeforeByLetters_L14 : Nat → Nat → Nat → Int32 → Int32 → px_M → Option (((Unit) ⊕ Int32) × px_M)
  | 0, _, _, _, _, _ => none
  | n + 1, o0, o1, x2, x3, M =>
    if x2 ≤ x3 then
    some (.inl (), M)
    else
    (px_gr 9 0 M o0).bind fun t27 =>
    (px_ai 0 M t27 x3).bind fun v29 =>
    (px_gr 9 0 M o1).bind fun t31 =>
    (px_ai 0 M t31 x3).bind fun v33 =>
    if v29 = v33 then
    f_NA_isBeforeByLetters_L14 n o0 o1 x2 (x3 + 1) M
    else
    (px_gr 9 0 M o0).bind fun t36 =>
    (px_ai 0 M t36 x3).bind fun v38 =>
    (px_gr 9 0 M o1).bind fun t40 =>
    (px_ai 0 M t40 x3).bind fun v42 =>
    if v42 ≤ v38 then
    some (.inr 0, M)
    else
    some (.inr 1, M)
set_option maxHeartbeats 4000000 in
set_option maxRecDepth 100000 in
theorem lp_NA_isBeforeByLetters_L14 {p : Program} {l : Launch} {e : Env} {s : State} {m : MethodId} {args : Array Value} {below : List Frame} {meth : Method} {c : Code} {bs : Nat} {D : va_G} {G : Nat → ClassId} {Q : State → Prop} (C0 : px_At p s m meth c y_NA_isBeforeByLetters b_NA_isBeforeByLetters 4 (some .boolean) args D px_cl (px_tys G) px_nw px_over) (x : (Unit) ⊕ Int32) (M' : px_M) (o0 : Nat) (o1 : Nat) (x2 : Int32) (kx : ∀ u, x = .inl u → ∀ (H : Heap) (locs : List Loc) (ls : Array Slot), px_W bs D px_cl (px_tys G) M' H → va_S (fun q => bs ≤ q) s.heap H locs → lv_has ls 4 [(0, .ref o0), (1, .ref o1)] → W p l e ⟨1, 0, 0, 13⟩ s m args below meth c H locs 0 0 Q (F0 m 61 ls [])) (kr : ∀ r, x = .inr r → narrow .boolean (.int r) = .int r → ∀ (H : Heap) (locs : List Loc) (ls : Array Slot) (pc : Nat), decode b_NA_isBeforeByLetters pc = .ok (.ireturn, 1) → px_W bs D px_cl (px_tys G) M' H → va_S (fun q => bs ≤ q) s.heap H locs → W p l e ⟨1, 0, 0, 13⟩ s m args below meth c H locs 0 0 Q (F0 m pc ls [.int r])) : ∀ (n : Nat) (x3 : Int32) (M : px_M), f_NA_isBeforeByLetters_L14 n o0 o1 x2 x3 M = some (x, M') → ∀ (H : Heap) (locs : List Loc) (ls : Array Slot), px_W bs D px_cl (px_tys G) M H → va_S (fun q => bs ≤ q) s.heap H locs → lv_has ls 4 [(0, .ref o0), (1, .ref o1), (2, .int x2), (3, .int x3)] → W p l e ⟨1, 0, 0, 13⟩ s m args below meth c H locs 0 0 Q (F0 m 14 ls []) := by
  obtain ⟨hx, hb, hr, hml, hown, hnm, hlocks, hts, hK, hN, hO⟩ := C0
  intro n
  induction n with
  | zero => intro x3 M hf; cases hf
  | succ n ih =>
    intro x3 M hf H locs ls hM hS hl
    unfold f_NA_isBeforeByLetters_L14 at hf
    refine lv_iload_n hx hb d_NA_isBeforeByLetters_14 rfl (lv_at hl 3 rfl) ?_
    refine lv_iload_n hx hb d_NA_isBeforeByLetters_15 rfl (lv_at hl 2 rfl) ?_
    refine lv_icmp_ge (tgt := 61) hx hb d_NA_isBeforeByLetters_16 (by decide) (fun c26 => ?_) (fun c26 => ?_)
    · have hf := px_ift hf c26
      obtain ⟨rfl, rfl⟩ := px_s2 hf
      exact kx _ rfl _ _ _ hM hS (lv_sub hl [0, 1] rfl)
    · have hf := px_iff hf c26
      refine lv_aload_n hx hb d_NA_isBeforeByLetters_19 rfl (lv_at hl 0 rfl) ?_
      obtain ⟨t27, h28, hf⟩ := px_bind hf
      refine px_rgr hx hb hts cl_NA hown hK hM 0 (by decide) (hts _ w_245) h28 d_NA_isBeforeByLetters_20 ?_
      refine lv_iload_n hx hb d_NA_isBeforeByLetters_23 rfl (lv_at hl 3 rfl) ?_
      obtain ⟨v29, h30, hf⟩ := px_bind hf
      refine px_rai hx hb hK hM 0 rfl h30 d_NA_isBeforeByLetters_24 ?_
      refine lv_aload_n hx hb d_NA_isBeforeByLetters_25 rfl (lv_at hl 1 rfl) ?_
      obtain ⟨t31, h32, hf⟩ := px_bind hf
      refine px_rgr hx hb hts cl_NA hown hK hM 0 (by decide) (hts _ w_245) h32 d_NA_isBeforeByLetters_26 ?_
      refine lv_iload_n hx hb d_NA_isBeforeByLetters_29 rfl (lv_at hl 3 rfl) ?_
      obtain ⟨v33, h34, hf⟩ := px_bind hf
      refine px_rai hx hb hK hM 0 rfl h34 d_NA_isBeforeByLetters_30 ?_
      refine lv_icmp_eq (tgt := 55) hx hb d_NA_isBeforeByLetters_31 (by decide) (fun c35 => ?_) (fun c35 => ?_)
      · have hf := px_ift hf c35
        refine lv_iinc (v := x3 + 1) (lv' := [(3, .int (x3 + 1)), (0, .ref o0), (1, .ref o1), (2, .int x2)]) hx hb d_NA_isBeforeByLetters_55 hl (k := 3) rfl (by rfl) (by decide) rfl (fun ls hl => ?_)
        refine lv_goto (tgt := 14) hx hb d_NA_isBeforeByLetters_58 (by decide) ?_
        exact ih (x3 + 1) M hf _ _ _ hM hS (lv_sub hl [1, 2, 3, 0] rfl)
      · have hf := px_iff hf c35
        refine lv_aload_n hx hb d_NA_isBeforeByLetters_34 rfl (lv_at hl 0 rfl) ?_
        obtain ⟨t36, h37, hf⟩ := px_bind hf
        refine px_rgr hx hb hts cl_NA hown hK hM 0 (by decide) (hts _ w_245) h37 d_NA_isBeforeByLetters_35 ?_
        refine lv_iload_n hx hb d_NA_isBeforeByLetters_38 rfl (lv_at hl 3 rfl) ?_
        obtain ⟨v38, h39, hf⟩ := px_bind hf
        refine px_rai hx hb hK hM 0 rfl h39 d_NA_isBeforeByLetters_39 ?_
        refine lv_aload_n hx hb d_NA_isBeforeByLetters_40 rfl (lv_at hl 1 rfl) ?_
        obtain ⟨t40, h41, hf⟩ := px_bind hf
        refine px_rgr hx hb hts cl_NA hown hK hM 0 (by decide) (hts _ w_245) h41 d_NA_isBeforeByLetters_41 ?_
        refine lv_iload_n hx hb d_NA_isBeforeByLetters_44 rfl (lv_at hl 3 rfl) ?_
        obtain ⟨v42, h43, hf⟩ := px_bind hf
        refine px_rai hx hb hK hM 0 rfl h43 d_NA_isBeforeByLetters_45 ?_
        refine lv_icmp_ge (tgt := 53) hx hb d_NA_isBeforeByLetters_46 (by decide) (fun c44 => ?_) (fun c44 => ?_)
        · have hf := px_ift hf c44
          refine lv_iconst (v := 0) hx hb d_NA_isBeforeByLetters_53 (by decide) ?_
          obtain ⟨rfl, rfl⟩ := px_s2 hf
          exact kr _ rfl rfl _ _ _ _ d_NA_isBeforeByLetters_54 hM hS
        · have hf := px_iff hf c44
          refine lv_iconst (v := 1) hx hb d_NA_isBeforeByLetters_49 (by decide) ?_
          refine lv_goto (tgt := 54) hx hb d_NA_isBeforeByLetters_50 (by decide) ?_
          obtain ⟨rfl, rfl⟩ := px_s2 hf
          exact kr _ rfl rfl _ _ _ _ d_NA_isBeforeByLetters_54 hM hS
def f_NA_isBeforeByLetters (o0 : Nat) (o1 : Nat) (M : px_M) : Option (Int32 × px_M) :=
  (px_gi 9 1 M o0).bind fun v1 =>
  (px_gi 9 1 M o1).bind fun v3 =>
  (some (if v3 < v1 then v3 else v1)).bind fun v5 =>
  (f_NA_isBeforeByLetters_L14 px_fuel o0 o1 v5 0 M).bind fun yh46 => (match yh46 with
  | (.inl _, M45) =>
  (px_gi 9 1 M45 o0).bind fun v47 =>
  (px_gi 9 1 M45 o1).bind fun v49 =>
  if v49 ≤ v47 then
  some (0, M45)
  else
  some (1, M45)
  | (.inr r52, M45) => some (r52, M45))
set_option maxHeartbeats 4000000 in
set_option maxRecDepth 100000 in
theorem c_NA_isBeforeByLetters (l : Launch) (bs : Nat) (D : va_G) (G : Nat → ClassId) (o0 : Nat) (o1 : Nat) (M : px_M) {r : Int32} {M' : px_M} (hf : f_NA_isBeforeByLetters o0 o1 M = some (r, M')) : Met l y_NA_isBeforeByLetters (.code y_NA_isBeforeByLetters b_NA_isBeforeByLetters 4 (some .boolean) :: px_tw) ⟨1, 0, 0, 13⟩ (va_Pc [.ref o0, .ref o1] (px_B bs D px_cl (px_tys G) px_nw px_over M)) (px_Qi bs D px_cl (px_tys G) r M') 0 0 (fun q => bs ≤ q) := by
  refine px_of (by decide) (Nat.le_of_ble_eq_true rfl) ?_
  intro p e s m below meth c ls C0 hM hS hl
  obtain ⟨hx, hb, hr, hml, hown, hnm, hlocks, hts, hK, hN, hO⟩ := C0
  have hl : lv_has ls 4 [(0, .ref o0), (1, .ref o1)] := hl
  unfold f_NA_isBeforeByLetters at hf
  refine lv_aload_n hx hb d_NA_isBeforeByLetters_0 rfl (lv_at hl 0 rfl) ?_
  obtain ⟨v1, h2, hf⟩ := px_bind hf
  refine px_rgi hx hb hts cl_NA hown hK hM 1 (by decide) (hts _ w_248) h2 d_NA_isBeforeByLetters_1 ?_
  refine lv_aload_n hx hb d_NA_isBeforeByLetters_4 rfl (lv_at hl 1 rfl) ?_
  obtain ⟨v3, h4, hf⟩ := px_bind hf
  refine px_rgi hx hb hts cl_NA hown hK hM 1 (by decide) (hts _ w_248) h4 d_NA_isBeforeByLetters_5 ?_
  obtain ⟨v5, h6, hf⟩ := px_bind hf
  refine va_mmin hx hb (by rw [hml]; exact hl.1.symm) hown (hts _ w_537) (hts _ w_377) (hts _ w_13) (hts _ w_378) (Nat.le_of_ble_eq_true rfl) (Nat.le_of_ble_eq_true rfl) (Nat.zero_le _) (Nat.zero_le _) d_NA_isBeforeByLetters_8 ?_
  rw [Option.some.inj h6]
  refine lv_istore_n (lv' := [(2, .int v5), (0, .ref o0), (1, .ref o1)]) hx hb d_NA_isBeforeByLetters_11 rfl hl (by decide) rfl (fun ls hl => ?_)
  refine lv_iconst (v := 0) hx hb d_NA_isBeforeByLetters_12 (by decide) ?_
  refine lv_istore_n (lv' := [(3, .int 0), (2, .int v5), (0, .ref o0), (1, .ref o1)]) hx hb d_NA_isBeforeByLetters_13 rfl hl (by decide) rfl (fun ls hl => ?_)
  obtain ⟨⟨xh46, M45⟩, h46, hf⟩ := px_bind hf
  refine lp_NA_isBeforeByLetters_L14 ⟨hx, hb, hr, hml, hown, hnm, hlocks, hts, hK, hN, hO⟩ xh46 M45 o0 o1 v5 (fun uh46 eu H locs ls hM hS hl => ?_) (fun r52 eu hn H locs ls pc hdg hM hS => ?_) px_fuel 0 M h46 _ _ _ hM hS (lv_sub hl [2, 3, 1, 0] rfl)
  · subst eu
    skip
    dsimp only at hf
    try dsimp only at hl
    refine lv_aload_n hx hb d_NA_isBeforeByLetters_61 rfl (lv_at hl 0 rfl) ?_
    obtain ⟨v47, h48, hf⟩ := px_bind hf
    refine px_rgi hx hb hts cl_NA hown hK hM 1 (by decide) (hts _ w_248) h48 d_NA_isBeforeByLetters_62 ?_
    refine lv_aload_n hx hb d_NA_isBeforeByLetters_65 rfl (lv_at hl 1 rfl) ?_
    obtain ⟨v49, h50, hf⟩ := px_bind hf
    refine px_rgi hx hb hts cl_NA hown hK hM 1 (by decide) (hts _ w_248) h50 d_NA_isBeforeByLetters_66 ?_
    refine lv_icmp_ge (tgt := 76) hx hb d_NA_isBeforeByLetters_69 (by decide) (fun c51 => ?_) (fun c51 => ?_)
    · have hf := px_ift hf c51
      refine lv_iconst (v := 0) hx hb d_NA_isBeforeByLetters_76 (by decide) ?_
      obtain ⟨rfl, rfl⟩ := px_s2 hf
      exact px_zret hx hb hr rfl hlocks hM hS d_NA_isBeforeByLetters_77
    · have hf := px_iff hf c51
      refine lv_iconst (v := 1) hx hb d_NA_isBeforeByLetters_72 (by decide) ?_
      refine lv_goto (tgt := 77) hx hb d_NA_isBeforeByLetters_73 (by decide) ?_
      obtain ⟨rfl, rfl⟩ := px_s2 hf
      exact px_zret hx hb hr rfl hlocks hM hS d_NA_isBeforeByLetters_77
  · subst eu
    dsimp only at hf
    obtain ⟨rfl, rfl⟩ := px_s2 hf
    exact px_zret hx hb hr hn hlocks hM hS hdg
def f_LO_goesBefore (o0 : Nat) (o1 : Nat) (x2 : Int32) (x3 : Int32) (x4 : Int32) (M : px_M) : Option (Int32 × px_M) :=
  (px_gr 6 3 M o0).bind fun t1 =>
  (px_ai 0 M t1 x2).bind fun v3 =>
  (px_gr 6 3 M o0).bind fun t5 =>
  (px_ai 0 M t5 x3).bind fun v7 =>
  if x4 = 97 then
  (px_gr 6 0 M o0).bind fun t10 =>
  (px_gr 10 0 M o1).bind fun t12 =>
  (px_ai 0 M t12 x2).bind fun v14 =>
  (px_ar 1 M t10 v14).bind fun t16 =>
  (px_gr 6 0 M o0).bind fun t18 =>
  (px_gr 10 0 M o1).bind fun t20 =>
  (px_ai 0 M t20 x3).bind fun v22 =>
  (px_ar 1 M t18 v22).bind fun t24 =>
  (px_ob 9 M t16).bind fun _ =>
  (f_NA_isBeforeByLetters t16 t24 M).bind fun (v28, M26) =>
  if v28 = 0 ∨ v28 = 1 then
  some (v28, M26)
  else none
  else if x4 = 102 then
  if v3 = ((-1)) then
  some (0, M)
  else
  if v7 = ((-1)) then
  some (1, M)
  else
  if v3 ≤ v7 then
  some (0, M)
  else
  some (1, M)
  else if x4 = 110 then
  if v3 = ((-1)) then
  some (0, M)
  else
  if v7 = ((-1)) then
  some (1, M)
  else
  if v7 ≤ v3 then
  some (0, M)
  else
  some (1, M)
  else 
  some (0, M)
set_option maxHeartbeats 4000000 in
set_option maxRecDepth 100000 in
theorem c_LO_goesBefore (l : Launch) (bs : Nat) (D : va_G) (G : Nat → ClassId) (o0 : Nat) (o1 : Nat) (x2 : Int32) (x3 : Int32) (x4 : Int32) (M : px_M) {r : Int32} {M' : px_M} (hf : f_LO_goesBefore o0 o1 x2 x3 x4 M = some (r, M')) : Met l y_LO_goesBefore (.code y_LO_goesBefore b_LO_goesBefore 7 (some .boolean) :: px_tw) ⟨2, 0, 0, 36⟩ (va_Pc [.ref o0, .ref o1, .int x2, .int x3, .int x4] (px_B bs D px_cl (px_tys G) px_nw px_over M)) (px_Qi bs D px_cl (px_tys G) r M') 0 0 (fun q => bs ≤ q) := by
  refine px_of (by decide) (Nat.le_of_ble_eq_true rfl) ?_
  intro p e s m below meth c ls C0 hM hS hl
  obtain ⟨hx, hb, hr, hml, hown, hnm, hlocks, hts, hK, hN, hO⟩ := C0
  have hl : lv_has ls 7 [(0, .ref o0), (1, .ref o1), (2, .int x2), (3, .int x3), (4, .int x4)] := hl
  unfold f_LO_goesBefore at hf
  refine lv_aload_n hx hb d_LO_goesBefore_0 rfl (lv_at hl 0 rfl) ?_
  obtain ⟨t1, h2, hf⟩ := px_bind hf
  refine px_rgr hx hb hts cl_LO hown hK hM 3 (by decide) (hts _ w_169) h2 d_LO_goesBefore_1 ?_
  refine lv_iload_n hx hb d_LO_goesBefore_4 rfl (lv_at hl 2 rfl) ?_
  obtain ⟨v3, h4, hf⟩ := px_bind hf
  refine px_rai hx hb hK hM 0 rfl h4 d_LO_goesBefore_5 ?_
  refine lv_istore (lv' := [(5, .int v3), (0, .ref o0), (1, .ref o1), (2, .int x2), (3, .int x3), (4, .int x4)]) hx hb d_LO_goesBefore_6 hl (by decide) rfl (fun ls hl => ?_)
  refine lv_aload_n hx hb d_LO_goesBefore_8 rfl (lv_at hl 1 rfl) ?_
  obtain ⟨t5, h6, hf⟩ := px_bind hf
  refine px_rgr hx hb hts cl_LO hown hK hM 3 (by decide) (hts _ w_169) h6 d_LO_goesBefore_9 ?_
  refine lv_iload_n hx hb d_LO_goesBefore_12 rfl (lv_at hl 4 rfl) ?_
  obtain ⟨v7, h8, hf⟩ := px_bind hf
  refine px_rai hx hb hK hM 0 rfl h8 d_LO_goesBefore_13 ?_
  refine lv_istore (lv' := [(6, .int v7), (5, .int v3), (0, .ref o0), (1, .ref o1), (2, .int x2), (3, .int x3), (4, .int x4)]) hx hb d_LO_goesBefore_14 hl (by decide) rfl (fun ls hl => ?_)
  refine lv_iload hx hb d_LO_goesBefore_16 (lv_at hl 6 rfl) ?_
  by_cases c9 : x4 = 97
  · have hf := px_ift hf c9
    refine lv_lookup (off := 84) (tgt := 102) hx hb d_LO_goesBefore_18 (by decide) (by rw [c9] <;> rfl) (by decide) ?_
    refine lv_aload_n hx hb d_LO_goesBefore_102 rfl (lv_at hl 2 rfl) ?_
    obtain ⟨t10, h11, hf⟩ := px_bind hf
    refine px_rgr hx hb hts cl_LO hown hK hM 0 (by decide) (hts _ w_166) h11 d_LO_goesBefore_103 ?_
    refine lv_aload_n hx hb d_LO_goesBefore_106 rfl (lv_at hl 3 rfl) ?_
    obtain ⟨t12, h13, hf⟩ := px_bind hf
    refine px_rgrN hx hb hts cl_BO hown hK hM 0 (by decide) (hN _ n_268) h13 d_LO_goesBefore_107 ?_
    refine lv_iload_n hx hb d_LO_goesBefore_110 rfl (lv_at hl 4 rfl) ?_
    obtain ⟨v14, h15, hf⟩ := px_bind hf
    refine px_rai hx hb hK hM 0 rfl h15 d_LO_goesBefore_111 ?_
    obtain ⟨t16, h17, hf⟩ := px_bind hf
    refine px_rar hx hb hK hM 1 rfl h17 d_LO_goesBefore_112 ?_
    refine lv_aload_n hx hb d_LO_goesBefore_113 rfl (lv_at hl 2 rfl) ?_
    obtain ⟨t18, h19, hf⟩ := px_bind hf
    refine px_rgr hx hb hts cl_LO hown hK hM 0 (by decide) (hts _ w_166) h19 d_LO_goesBefore_114 ?_
    refine lv_aload_n hx hb d_LO_goesBefore_117 rfl (lv_at hl 3 rfl) ?_
    obtain ⟨t20, h21, hf⟩ := px_bind hf
    refine px_rgrN hx hb hts cl_BO hown hK hM 0 (by decide) (hN _ n_268) h21 d_LO_goesBefore_118 ?_
    refine lv_iload_n hx hb d_LO_goesBefore_121 rfl (lv_at hl 5 rfl) ?_
    obtain ⟨v22, h23, hf⟩ := px_bind hf
    refine px_rai hx hb hK hM 0 rfl h23 d_LO_goesBefore_122 ?_
    obtain ⟨t24, h25, hf⟩ := px_bind hf
    refine px_rar hx hb hK hM 1 rfl h25 d_LO_goesBefore_123 ?_
    obtain ⟨_, h29, hf⟩ := px_bind hf
    obtain ⟨⟨v28, M26⟩, h27, hf⟩ := px_bind hf
    dsimp only at hf
    refine px_calli (va_runV (As := [.ref t24]) (rest := []) ⟨hx, hb, hml, hown, hts⟩ (c_NA_isBeforeByLetters l bs D G t16 t24 M h27) (cwV 1 hts (px_gV w_533 w_534 w_535 w_10 w_536) rfl rfl rfl (by decide +kernel) ⟨Nat.le_of_ble_eq_true rfl, Nat.le_of_ble_eq_true rfl⟩) (px_preV px_nwok hK hN hO hM h29 rfl) rfl rfl hl.1 rfl (lv_room (Nat.le_of_ble_eq_true rfl)) d_LO_goesBefore_124 ⟨Nat.le_of_ble_eq_true rfl, Nat.le_of_ble_eq_true rfl⟩) hS (fun H locs hM hS => ?_)
    have hz : v28 = 0 ∨ v28 = 1 := Classical.byContradiction fun q => (by have q2 := px_iff hf q; cases q2)
    have hf := px_ift hf hz
    obtain ⟨rfl, rfl⟩ := px_s2 hf
    exact px_zret hx hb hr (px_nz hz) hlocks hM hS d_LO_goesBefore_127
  · have hf := px_iff hf c9
    by_cases c30 : x4 = 102
    · have hf := px_ift hf c30
      refine lv_lookup (off := 59) (tgt := 77) hx hb d_LO_goesBefore_18 (by decide) (by rw [c30] <;> rfl) (by decide) ?_
      refine lv_iload hx hb d_LO_goesBefore_77 (lv_at hl 1 rfl) ?_
      refine lv_iconst (v := (-1)) hx hb d_LO_goesBefore_79 (by decide) ?_
      refine lv_icmp_eq (tgt := 100) hx hb d_LO_goesBefore_80 (by decide) (fun c31 => ?_) (fun c31 => ?_)
      · have hf := px_ift hf c31
        refine lv_iconst (v := 0) hx hb d_LO_goesBefore_100 (by decide) ?_
        obtain ⟨rfl, rfl⟩ := px_s2 hf
        exact px_zret hx hb hr rfl hlocks hM hS d_LO_goesBefore_101
      · have hf := px_iff hf c31
        refine lv_iload hx hb d_LO_goesBefore_83 (lv_at hl 0 rfl) ?_
        refine lv_iconst (v := (-1)) hx hb d_LO_goesBefore_85 (by decide) ?_
        refine lv_icmp_eq (tgt := 96) hx hb d_LO_goesBefore_86 (by decide) (fun c32 => ?_) (fun c32 => ?_)
        · have hf := px_ift hf c32
          refine lv_iconst (v := 1) hx hb d_LO_goesBefore_96 (by decide) ?_
          refine lv_goto (tgt := 101) hx hb d_LO_goesBefore_97 (by decide) ?_
          obtain ⟨rfl, rfl⟩ := px_s2 hf
          exact px_zret hx hb hr rfl hlocks hM hS d_LO_goesBefore_101
        · have hf := px_iff hf c32
          refine lv_iload hx hb d_LO_goesBefore_89 (lv_at hl 1 rfl) ?_
          refine lv_iload hx hb d_LO_goesBefore_91 (lv_at hl 0 rfl) ?_
          refine lv_icmp_le (tgt := 100) hx hb d_LO_goesBefore_93 (by decide) (fun c33 => ?_) (fun c33 => ?_)
          · have hf := px_ift hf c33
            refine lv_iconst (v := 0) hx hb d_LO_goesBefore_100 (by decide) ?_
            obtain ⟨rfl, rfl⟩ := px_s2 hf
            exact px_zret hx hb hr rfl hlocks hM hS d_LO_goesBefore_101
          · have hf := px_iff hf c33
            refine lv_iconst (v := 1) hx hb d_LO_goesBefore_96 (by decide) ?_
            refine lv_goto (tgt := 101) hx hb d_LO_goesBefore_97 (by decide) ?_
            obtain ⟨rfl, rfl⟩ := px_s2 hf
            exact px_zret hx hb hr rfl hlocks hM hS d_LO_goesBefore_101
    · have hf := px_iff hf c30
      by_cases c34 : x4 = 110
      · have hf := px_ift hf c34
        refine lv_lookup (off := 34) (tgt := 52) hx hb d_LO_goesBefore_18 (by decide) (by rw [c34] <;> rfl) (by decide) ?_
        refine lv_iload hx hb d_LO_goesBefore_52 (lv_at hl 1 rfl) ?_
        refine lv_iconst (v := (-1)) hx hb d_LO_goesBefore_54 (by decide) ?_
        refine lv_icmp_eq (tgt := 75) hx hb d_LO_goesBefore_55 (by decide) (fun c35 => ?_) (fun c35 => ?_)
        · have hf := px_ift hf c35
          refine lv_iconst (v := 0) hx hb d_LO_goesBefore_75 (by decide) ?_
          obtain ⟨rfl, rfl⟩ := px_s2 hf
          exact px_zret hx hb hr rfl hlocks hM hS d_LO_goesBefore_76
        · have hf := px_iff hf c35
          refine lv_iload hx hb d_LO_goesBefore_58 (lv_at hl 0 rfl) ?_
          refine lv_iconst (v := (-1)) hx hb d_LO_goesBefore_60 (by decide) ?_
          refine lv_icmp_eq (tgt := 71) hx hb d_LO_goesBefore_61 (by decide) (fun c36 => ?_) (fun c36 => ?_)
          · have hf := px_ift hf c36
            refine lv_iconst (v := 1) hx hb d_LO_goesBefore_71 (by decide) ?_
            refine lv_goto (tgt := 76) hx hb d_LO_goesBefore_72 (by decide) ?_
            obtain ⟨rfl, rfl⟩ := px_s2 hf
            exact px_zret hx hb hr rfl hlocks hM hS d_LO_goesBefore_76
          · have hf := px_iff hf c36
            refine lv_iload hx hb d_LO_goesBefore_64 (lv_at hl 1 rfl) ?_
            refine lv_iload hx hb d_LO_goesBefore_66 (lv_at hl 0 rfl) ?_
            refine lv_icmp_ge (tgt := 75) hx hb d_LO_goesBefore_68 (by decide) (fun c37 => ?_) (fun c37 => ?_)
            · have hf := px_ift hf c37
              refine lv_iconst (v := 0) hx hb d_LO_goesBefore_75 (by decide) ?_
              obtain ⟨rfl, rfl⟩ := px_s2 hf
              exact px_zret hx hb hr rfl hlocks hM hS d_LO_goesBefore_76
            · have hf := px_iff hf c37
              refine lv_iconst (v := 1) hx hb d_LO_goesBefore_71 (by decide) ?_
              refine lv_goto (tgt := 76) hx hb d_LO_goesBefore_72 (by decide) ?_
              obtain ⟨rfl, rfl⟩ := px_s2 hf
              exact px_zret hx hb hr rfl hlocks hM hS d_LO_goesBefore_76
      · have hf := px_iff hf c34
        refine lv_lookup (off := 110) (tgt := 128) hx hb d_LO_goesBefore_18 (by decide) (by rw [lv_osw c9 (by decide), lv_osw c30 (by decide), lv_osw c34 (by decide)] <;> rfl) (by decide) ?_
        refine lv_iconst (v := 0) hx hb d_LO_goesBefore_128 (by decide) ?_
        obtain ⟨rfl, rfl⟩ := px_s2 hf
        exact px_zret hx hb hr rfl hlocks hM hS d_LO_goesBefore_129
