def f_MO_row (o0 : Nat) (x1 : Int32) (x2 : Int32) (M : px_M) : Option (Int32 × px_M) :=
  (px_ob 11 M o0).bind fun _ =>
  (f_MO_isLine o0 x1 x2 M).bind fun (v3, M1) =>
  if v3 = 0 then
  some ((-1), M1)
  else
  (px_ob 11 M1 o0).bind fun _ =>
  (f_MO_rankAll o0 x1 M1).bind fun M5 =>
  (px_gr 11 32 M5 o0).bind fun t7 =>
  (px_gr 11 37 M5 o0).bind fun t9 =>
  (px_ai 0 M5 t9 x2).bind fun v11 =>
  (px_ai 0 M5 t7 ((5 * x1) + v11)).bind fun v13 =>
  some (v13, M5)
set_option maxHeartbeats 4000000 in
set_option maxRecDepth 100000 in
theorem c_MO_row (l : Launch) (bs : Nat) (D : va_G) (G : Nat → ClassId) (o0 : Nat) (x1 : Int32) (x2 : Int32) (M : px_M) {r : Int32} {M' : px_M} (hf : f_MO_row o0 x1 x2 M = some (r, M')) : Met l y_MO_row (.code y_MO_row b_MO_row 3 (some .int) :: px_tw) ⟨5, 0, 0, 120⟩ (va_Pc [.ref o0, .int x1, .int x2] (px_B bs D px_cl (px_tys G) px_nw px_over M)) (px_Qi bs D px_cl (px_tys G) r M') 0 0 (fun q => bs ≤ q) := by
  refine px_of (by decide) (Nat.le_of_ble_eq_true rfl) ?_
  intro p e s m below meth c ls C0 hM hS hl
  obtain ⟨hx, hb, hr, hml, hown, hnm, hlocks, hts, hK, hN, hO⟩ := C0
  have hl : lv_has ls 3 [(0, .ref o0), (1, .int x1), (2, .int x2)] := hl
  unfold f_MO_row at hf
  refine lv_aload_n hx hb d_MO_row_0 rfl (lv_at hl 0 rfl) ?_
  refine lv_iload_n hx hb d_MO_row_1 rfl (lv_at hl 1 rfl) ?_
  refine lv_iload_n hx hb d_MO_row_2 rfl (lv_at hl 2 rfl) ?_
  obtain ⟨_, h16, hf⟩ := px_bind hf
  obtain ⟨⟨v3, M1⟩, h2, hf⟩ := px_bind hf
  dsimp only at hf
  refine px_calli (va_runV (As := [.int x1, .int x2]) (rest := []) ⟨hx, hb, hml, hown, hts⟩ (c_MO_isLine l bs D G o0 x1 x2 M h2) (cwV 2 hts (px_gV w_875 w_877 ws_MO_isLine w_12 w_878) rfl rfl rfl (by decide +kernel) ⟨Nat.le_of_ble_eq_true rfl, Nat.le_of_ble_eq_true rfl⟩) (px_preV px_nwok hK hN hO hM h16 rfl) rfl rfl hl.1 rfl (lv_room (Nat.le_of_ble_eq_true rfl)) d_MO_row_3 ⟨Nat.le_of_ble_eq_true rfl, Nat.le_of_ble_eq_true rfl⟩) hS (fun H locs hM hS => ?_)
  refine lv_if_ne (tgt := 11) hx hb d_MO_row_6 (by decide) (fun c4 => ?_) (fun c4 => ?_)
  · have hf := px_iff hf c4
    refine lv_aload_n hx hb d_MO_row_11 rfl (lv_at hl 0 rfl) ?_
    refine lv_iload_n hx hb d_MO_row_12 rfl (lv_at hl 1 rfl) ?_
    obtain ⟨_, h15, hf⟩ := px_bind hf
    obtain ⟨M5, h6, hf⟩ := px_bind hf
    refine px_callv (va_runV (As := [.int x1]) (rest := []) ⟨hx, hb, hml, hown, hts⟩ (c_MO_rankAll l bs D G o0 x1 M1 h6) (cwV 1 hts (px_gV w_879 w_881 ws_MO_rankAll w_12 w_882) rfl rfl rfl (by decide +kernel) ⟨Nat.le_of_ble_eq_true rfl, Nat.le_of_ble_eq_true rfl⟩) (px_preV px_nwok hK hN hO hM h15 rfl) rfl rfl hl.1 rfl (lv_room (Nat.le_of_ble_eq_true rfl)) d_MO_row_13 ⟨Nat.le_of_ble_eq_true rfl, Nat.le_of_ble_eq_true rfl⟩) hS (fun H locs hM hS => ?_)
    refine lv_aload_n hx hb d_MO_row_16 rfl (lv_at hl 0 rfl) ?_
    obtain ⟨t7, h8, hf⟩ := px_bind hf
    refine px_rgr hx hb hts cl_MO hown hK hM 32 (by decide) (hts _ w_677) h8 d_MO_row_17 ?_
    refine lv_iconst (v := 5) hx hb d_MO_row_20 (by decide) ?_
    refine lv_iload_n hx hb d_MO_row_21 rfl (lv_at hl 1 rfl) ?_
    refine lv_imul hx hb d_MO_row_22 ?_
    refine lv_aload_n hx hb d_MO_row_23 rfl (lv_at hl 0 rfl) ?_
    obtain ⟨t9, h10, hf⟩ := px_bind hf
    refine px_rgr hx hb hts cl_MO hown hK hM 37 (by decide) (hts _ w_682) h10 d_MO_row_24 ?_
    refine lv_iload_n hx hb d_MO_row_27 rfl (lv_at hl 2 rfl) ?_
    obtain ⟨v11, h12, hf⟩ := px_bind hf
    refine px_rai hx hb hK hM 0 rfl h12 d_MO_row_28 ?_
    refine lv_iadd hx hb d_MO_row_29 ?_
    obtain ⟨v13, h14, hf⟩ := px_bind hf
    refine px_rai hx hb hK hM 0 rfl h14 d_MO_row_30 ?_
    obtain ⟨rfl, rfl⟩ := px_s2 hf
    exact px_iret hx hb hr hlocks hM hS d_MO_row_31
  · have hf := px_ift hf c4
    refine lv_iconst (v := (-1)) hx hb d_MO_row_9 (by decide) ?_
    obtain ⟨rfl, rfl⟩ := px_s2 hf
    exact px_iret hx hb hr hlocks hM hS d_MO_row_10
def f_MO_distance (o0 : Nat) (x1 : Int32) (x2 : Int32) (M : px_M) : Option (Int32 × px_M) :=
  (px_ob 11 M o0).bind fun _ =>
  (f_MO_isLine o0 x1 x2 M).bind fun (v3, M1) =>
  if v3 = 0 then
  some ((-1), M1)
  else
  (px_ob 11 M1 o0).bind fun _ =>
  (f_MO_rankAll o0 x1 M1).bind fun M5 =>
  (px_gr 11 36 M5 o0).bind fun t7 =>
  (px_gr 11 37 M5 o0).bind fun t9 =>
  (px_ai 0 M5 t9 x2).bind fun v11 =>
  (px_ai 0 M5 t7 v11).bind fun v13 =>
  some (v13, M5)
set_option maxHeartbeats 4000000 in
set_option maxRecDepth 100000 in
theorem c_MO_distance (l : Launch) (bs : Nat) (D : va_G) (G : Nat → ClassId) (o0 : Nat) (x1 : Int32) (x2 : Int32) (M : px_M) {r : Int32} {M' : px_M} (hf : f_MO_distance o0 x1 x2 M = some (r, M')) : Met l y_MO_distance (.code y_MO_distance b_MO_distance 3 (some .int) :: px_tw) ⟨5, 0, 0, 120⟩ (va_Pc [.ref o0, .int x1, .int x2] (px_B bs D px_cl (px_tys G) px_nw px_over M)) (px_Qi bs D px_cl (px_tys G) r M') 0 0 (fun q => bs ≤ q) := by
  refine px_of (by decide) (Nat.le_of_ble_eq_true rfl) ?_
  intro p e s m below meth c ls C0 hM hS hl
  obtain ⟨hx, hb, hr, hml, hown, hnm, hlocks, hts, hK, hN, hO⟩ := C0
  have hl : lv_has ls 3 [(0, .ref o0), (1, .int x1), (2, .int x2)] := hl
  unfold f_MO_distance at hf
  refine lv_aload_n hx hb d_MO_distance_0 rfl (lv_at hl 0 rfl) ?_
  refine lv_iload_n hx hb d_MO_distance_1 rfl (lv_at hl 1 rfl) ?_
  refine lv_iload_n hx hb d_MO_distance_2 rfl (lv_at hl 2 rfl) ?_
  obtain ⟨_, h16, hf⟩ := px_bind hf
  obtain ⟨⟨v3, M1⟩, h2, hf⟩ := px_bind hf
  dsimp only at hf
  refine px_calli (va_runV (As := [.int x1, .int x2]) (rest := []) ⟨hx, hb, hml, hown, hts⟩ (c_MO_isLine l bs D G o0 x1 x2 M h2) (cwV 2 hts (px_gV w_875 w_877 ws_MO_isLine w_12 w_878) rfl rfl rfl (by decide +kernel) ⟨Nat.le_of_ble_eq_true rfl, Nat.le_of_ble_eq_true rfl⟩) (px_preV px_nwok hK hN hO hM h16 rfl) rfl rfl hl.1 rfl (lv_room (Nat.le_of_ble_eq_true rfl)) d_MO_distance_3 ⟨Nat.le_of_ble_eq_true rfl, Nat.le_of_ble_eq_true rfl⟩) hS (fun H locs hM hS => ?_)
  refine lv_if_ne (tgt := 11) hx hb d_MO_distance_6 (by decide) (fun c4 => ?_) (fun c4 => ?_)
  · have hf := px_iff hf c4
    refine lv_aload_n hx hb d_MO_distance_11 rfl (lv_at hl 0 rfl) ?_
    refine lv_iload_n hx hb d_MO_distance_12 rfl (lv_at hl 1 rfl) ?_
    obtain ⟨_, h15, hf⟩ := px_bind hf
    obtain ⟨M5, h6, hf⟩ := px_bind hf
    refine px_callv (va_runV (As := [.int x1]) (rest := []) ⟨hx, hb, hml, hown, hts⟩ (c_MO_rankAll l bs D G o0 x1 M1 h6) (cwV 1 hts (px_gV w_879 w_881 ws_MO_rankAll w_12 w_882) rfl rfl rfl (by decide +kernel) ⟨Nat.le_of_ble_eq_true rfl, Nat.le_of_ble_eq_true rfl⟩) (px_preV px_nwok hK hN hO hM h15 rfl) rfl rfl hl.1 rfl (lv_room (Nat.le_of_ble_eq_true rfl)) d_MO_distance_13 ⟨Nat.le_of_ble_eq_true rfl, Nat.le_of_ble_eq_true rfl⟩) hS (fun H locs hM hS => ?_)
    refine lv_aload_n hx hb d_MO_distance_16 rfl (lv_at hl 0 rfl) ?_
    obtain ⟨t7, h8, hf⟩ := px_bind hf
    refine px_rgr hx hb hts cl_MO hown hK hM 36 (by decide) (hts _ w_681) h8 d_MO_distance_17 ?_
    refine lv_aload_n hx hb d_MO_distance_20 rfl (lv_at hl 0 rfl) ?_
    obtain ⟨t9, h10, hf⟩ := px_bind hf
    refine px_rgr hx hb hts cl_MO hown hK hM 37 (by decide) (hts _ w_682) h10 d_MO_distance_21 ?_
    refine lv_iload_n hx hb d_MO_distance_24 rfl (lv_at hl 2 rfl) ?_
    obtain ⟨v11, h12, hf⟩ := px_bind hf
    refine px_rai hx hb hK hM 0 rfl h12 d_MO_distance_25 ?_
    obtain ⟨v13, h14, hf⟩ := px_bind hf
    refine px_rai hx hb hK hM 0 rfl h14 d_MO_distance_26 ?_
    obtain ⟨rfl, rfl⟩ := px_s2 hf
    exact px_iret hx hb hr hlocks hM hS d_MO_distance_27
  · have hf := px_ift hf c4
    refine lv_iconst (v := (-1)) hx hb d_MO_distance_9 (by decide) ?_
    obtain ⟨rfl, rfl⟩ := px_s2 hf
    exact px_iret hx hb hr hlocks hM hS d_MO_distance_10
def f_MO_lineWidth (o0 : Nat) (x1 : Int32) (x2 : Int32) (x3 : Int32) (M : px_M) : Option (Int32 × px_M) :=
  (px_ob 11 M o0).bind fun _ =>
  (f_MO_height o0 x3 M).bind fun (v3, M1) =>
  (px_gi 11 6 M1 o0).bind fun v4 =>
  (px_gr 11 32 M1 o0).bind fun t6 =>
  (px_ai 0 M1 t6 ((5 * x1) + x2)).bind fun v8 =>
  (px_ob 11 M1 o0).bind fun _ =>
  (f_MO_width o0 v8 x3 M1).bind fun (v12, M10) =>
  some ((16 * (v3 + v4)) + v12, M10)
set_option maxHeartbeats 4000000 in
set_option maxRecDepth 100000 in
theorem c_MO_lineWidth (l : Launch) (bs : Nat) (D : va_G) (G : Nat → ClassId) (o0 : Nat) (x1 : Int32) (x2 : Int32) (x3 : Int32) (M : px_M) {r : Int32} {M' : px_M} (hf : f_MO_lineWidth o0 x1 x2 x3 M = some (r, M')) : Met l y_MO_lineWidth (.code y_MO_lineWidth b_MO_lineWidth 4 (some .int) :: px_tw) ⟨3, 0, 0, 70⟩ (va_Pc [.ref o0, .int x1, .int x2, .int x3] (px_B bs D px_cl (px_tys G) px_nw px_over M)) (px_Qi bs D px_cl (px_tys G) r M') 0 0 (fun q => bs ≤ q) := by
  refine px_of (by decide) (Nat.le_of_ble_eq_true rfl) ?_
  intro p e s m below meth c ls C0 hM hS hl
  obtain ⟨hx, hb, hr, hml, hown, hnm, hlocks, hts, hK, hN, hO⟩ := C0
  have hl : lv_has ls 4 [(0, .ref o0), (1, .int x1), (2, .int x2), (3, .int x3)] := hl
  unfold f_MO_lineWidth at hf
  refine lv_bipush (v := 16) hx hb d_MO_lineWidth_0 (by decide) ?_
  refine lv_aload_n hx hb d_MO_lineWidth_2 rfl (lv_at hl 0 rfl) ?_
  refine lv_iload_n hx hb d_MO_lineWidth_3 rfl (lv_at hl 3 rfl) ?_
  obtain ⟨_, h14, hf⟩ := px_bind hf
  obtain ⟨⟨v3, M1⟩, h2, hf⟩ := px_bind hf
  dsimp only at hf
  refine px_calli (va_runV (As := [.int x3]) (rest := [.int 16]) ⟨hx, hb, hml, hown, hts⟩ (c_MO_height l bs D G o0 x3 M h2) (cwV 1 hts (px_gV w_838 w_816 w_817 w_12 w_818) rfl rfl rfl (by decide +kernel) ⟨Nat.le_of_ble_eq_true rfl, Nat.le_of_ble_eq_true rfl⟩) (px_preV px_nwok hK hN hO hM h14 rfl) rfl rfl hl.1 rfl (lv_room (Nat.le_of_ble_eq_true rfl)) d_MO_lineWidth_4 ⟨Nat.le_of_ble_eq_true rfl, Nat.le_of_ble_eq_true rfl⟩) hS (fun H locs hM hS => ?_)
  refine lv_aload_n hx hb d_MO_lineWidth_7 rfl (lv_at hl 0 rfl) ?_
  obtain ⟨v4, h5, hf⟩ := px_bind hf
  refine px_rgi hx hb hts cl_MO hown hK hM 6 (by decide) (hts _ w_651) h5 d_MO_lineWidth_8 ?_
  refine lv_iadd hx hb d_MO_lineWidth_11 ?_
  refine lv_imul hx hb d_MO_lineWidth_12 ?_
  refine lv_aload_n hx hb d_MO_lineWidth_13 rfl (lv_at hl 0 rfl) ?_
  refine lv_aload_n hx hb d_MO_lineWidth_14 rfl (lv_at hl 0 rfl) ?_
  obtain ⟨t6, h7, hf⟩ := px_bind hf
  refine px_rgr hx hb hts cl_MO hown hK hM 32 (by decide) (hts _ w_677) h7 d_MO_lineWidth_15 ?_
  refine lv_iconst (v := 5) hx hb d_MO_lineWidth_18 (by decide) ?_
  refine lv_iload_n hx hb d_MO_lineWidth_19 rfl (lv_at hl 1 rfl) ?_
  refine lv_imul hx hb d_MO_lineWidth_20 ?_
  refine lv_iload_n hx hb d_MO_lineWidth_21 rfl (lv_at hl 2 rfl) ?_
  refine lv_iadd hx hb d_MO_lineWidth_22 ?_
  obtain ⟨v8, h9, hf⟩ := px_bind hf
  refine px_rai hx hb hK hM 0 rfl h9 d_MO_lineWidth_23 ?_
  refine lv_iload_n hx hb d_MO_lineWidth_24 rfl (lv_at hl 3 rfl) ?_
  obtain ⟨_, h13, hf⟩ := px_bind hf
  obtain ⟨⟨v12, M10⟩, h11, hf⟩ := px_bind hf
  dsimp only at hf
  refine px_calli (va_runV (As := [.int v8, .int x3]) (rest := [.int (16 * (v3 + v4))]) ⟨hx, hb, hml, hown, hts⟩ (c_MO_width l bs D G o0 v8 x3 M1 h11) (cwV 2 hts (px_gV w_920 w_823 w_824 w_12 w_825) rfl rfl rfl (by decide +kernel) ⟨Nat.le_of_ble_eq_true rfl, Nat.le_of_ble_eq_true rfl⟩) (px_preV px_nwok hK hN hO hM h13 rfl) rfl rfl hl.1 rfl (lv_room (Nat.le_of_ble_eq_true rfl)) d_MO_lineWidth_25 ⟨Nat.le_of_ble_eq_true rfl, Nat.le_of_ble_eq_true rfl⟩) hS (fun H locs hM hS => ?_)
  refine lv_iadd hx hb d_MO_lineWidth_28 ?_
  obtain ⟨rfl, rfl⟩ := px_s2 hf
  exact px_iret hx hb hr hlocks hM hS d_MO_lineWidth_29
def f_MO_boardWidth_L5 : Nat → Nat → Int32 → Int32 → Int32 → Int32 → px_M → Option ((Int32) × px_M)
  | 0, _, _, _, _, _, _ => none
  | n + 1, o0, x1, x2, x3, x4, M =>
    (px_gr 11 31 M o0).bind fun t1 =>
    (px_ai 0 M t1 x1).bind fun v3 =>
    if v3 ≤ x4 then
    some (x3, M)
    else
    (px_ob 11 M o0).bind fun _ =>
    (f_MO_lineWidth o0 x1 x4 x2 M).bind fun (v8, M6) =>
    if x4 = 0 then
    f_MO_boardWidth_L5 n o0 x1 x2 v8 (x4 + 1) M6
    else
    if v8 ≤ x3 then
    f_MO_boardWidth_L5 n o0 x1 x2 x3 (x4 + 1) M6
    else
    f_MO_boardWidth_L5 n o0 x1 x2 v8 (x4 + 1) M6
set_option maxHeartbeats 4000000 in
set_option maxRecDepth 100000 in
theorem lp_MO_boardWidth_L5 {p : Program} {l : Launch} {e : Env} {s : State} {m : MethodId} {args : Array Value} {below : List Frame} {meth : Method} {c : Code} {bs : Nat} {D : va_G} {G : Nat → ClassId} {Q : State → Prop} (C0 : px_At p s m meth c y_MO_boardWidth b_MO_boardWidth 6 (some .int) args D px_cl (px_tys G) px_nw px_over) (x : Int32) (M' : px_M) (o0 : Nat) (x1 : Int32) (x2 : Int32) (kx : ∀ (H : Heap) (locs : List Loc) (ls : Array Slot), px_W bs D px_cl (px_tys G) M' H → va_S (fun q => bs ≤ q) s.heap H locs → lv_has ls 6 [(0, .ref o0), (1, .int x1), (3, .int x)] → W p l e ⟨4, 0, 0, 93⟩ s m args below meth c H locs 0 0 Q (F0 m 50 ls []))  : ∀ (n : Nat) (x3 : Int32) (x4 : Int32) (M : px_M), f_MO_boardWidth_L5 n o0 x1 x2 x3 x4 M = some (x, M') → ∀ (H : Heap) (locs : List Loc) (ls : Array Slot), px_W bs D px_cl (px_tys G) M H → va_S (fun q => bs ≤ q) s.heap H locs → lv_has ls 6 [(0, .ref o0), (1, .int x1), (2, .int x2), (3, .int x3), (4, .int x4)] → W p l e ⟨4, 0, 0, 93⟩ s m args below meth c H locs 0 0 Q (F0 m 5 ls []) := by
  obtain ⟨hx, hb, hr, hml, hown, hnm, hlocks, hts, hK, hN, hO⟩ := C0
  intro n
  induction n with
  | zero => intro x3 x4 M hf; cases hf
  | succ n ih =>
    intro x3 x4 M hf H locs ls hM hS hl
    unfold f_MO_boardWidth_L5 at hf
    refine lv_iload hx hb d_MO_boardWidth_5 (lv_at hl 4 rfl) ?_
    refine lv_aload_n hx hb d_MO_boardWidth_7 rfl (lv_at hl 0 rfl) ?_
    obtain ⟨t1, h2, hf⟩ := px_bind hf
    refine px_rgr hx hb hts cl_MO hown hK hM 31 (by decide) (hts _ w_676) h2 d_MO_boardWidth_8 ?_
    refine lv_iload_n hx hb d_MO_boardWidth_11 rfl (lv_at hl 1 rfl) ?_
    obtain ⟨v3, h4, hf⟩ := px_bind hf
    refine px_rai hx hb hK hM 0 rfl h4 d_MO_boardWidth_12 ?_
    refine lv_icmp_ge (tgt := 50) hx hb d_MO_boardWidth_13 (by decide) (fun c5 => ?_) (fun c5 => ?_)
    · have hf := px_ift hf c5
      obtain ⟨rfl, rfl⟩ := px_s2 hf
      exact kx _ _ _ hM hS (lv_sub hl [0, 1, 3] rfl)
    · have hf := px_iff hf c5
      refine lv_aload_n hx hb d_MO_boardWidth_16 rfl (lv_at hl 0 rfl) ?_
      refine lv_iload_n hx hb d_MO_boardWidth_17 rfl (lv_at hl 1 rfl) ?_
      refine lv_iload hx hb d_MO_boardWidth_18 (lv_at hl 4 rfl) ?_
      refine lv_iload_n hx hb d_MO_boardWidth_20 rfl (lv_at hl 2 rfl) ?_
      obtain ⟨_, h11, hf⟩ := px_bind hf
      obtain ⟨⟨v8, M6⟩, h7, hf⟩ := px_bind hf
      dsimp only at hf
      refine px_calli (va_runV (As := [.int x1, .int x4, .int x2]) (rest := []) ⟨hx, hb, hml, hown, hts⟩ (c_MO_lineWidth l bs D G o0 x1 x4 x2 M h7) (cwV 3 hts (px_gV w_916 w_918 ws_MO_lineWidth w_12 w_919) rfl rfl rfl (by decide +kernel) ⟨Nat.le_of_ble_eq_true rfl, Nat.le_of_ble_eq_true rfl⟩) (px_preV px_nwok hK hN hO hM h11 rfl) rfl rfl hl.1 rfl (lv_room (Nat.le_of_ble_eq_true rfl)) d_MO_boardWidth_21 ⟨Nat.le_of_ble_eq_true rfl, Nat.le_of_ble_eq_true rfl⟩) hS (fun H locs hM hS => ?_)
      refine lv_istore (lv' := [(5, .int v8), (0, .ref o0), (1, .int x1), (2, .int x2), (3, .int x3), (4, .int x4)]) hx hb d_MO_boardWidth_24 hl (by decide) rfl (fun ls hl => ?_)
      refine lv_iload hx hb d_MO_boardWidth_26 (lv_at hl 5 rfl) ?_
      refine lv_if_eq (tgt := 37) hx hb d_MO_boardWidth_28 (by decide) (fun c9 => ?_) (fun c9 => ?_)
      · have hf := px_ift hf c9
        refine lv_iload hx hb d_MO_boardWidth_37 (lv_at hl 0 rfl) ?_
        refine lv_goto (tgt := 43) hx hb d_MO_boardWidth_39 (by decide) ?_
        refine lv_istore_n (lv' := [(3, .int v8), (5, .int v8), (0, .ref o0), (1, .int x1), (2, .int x2), (4, .int x4)]) hx hb d_MO_boardWidth_43 rfl hl (by decide) rfl (fun ls hl => ?_)
        refine lv_iinc (v := x4 + 1) (lv' := [(4, .int (x4 + 1)), (3, .int v8), (5, .int v8), (0, .ref o0), (1, .int x1), (2, .int x2)]) hx hb d_MO_boardWidth_44 hl (k := 5) rfl (by rfl) (by decide) rfl (fun ls hl => ?_)
        refine lv_goto (tgt := 5) hx hb d_MO_boardWidth_47 (by decide) ?_
        exact ih v8 (x4 + 1) M6 hf _ _ _ hM hS (lv_sub hl [3, 4, 5, 1, 0] rfl)
      · have hf := px_iff hf c9
        refine lv_iload hx hb d_MO_boardWidth_31 (lv_at hl 0 rfl) ?_
        refine lv_iload_n hx hb d_MO_boardWidth_33 rfl (lv_at hl 4 rfl) ?_
        refine lv_icmp_le (tgt := 42) hx hb d_MO_boardWidth_34 (by decide) (fun c10 => ?_) (fun c10 => ?_)
        · have hf := px_ift hf c10
          refine lv_iload_n hx hb d_MO_boardWidth_42 rfl (lv_at hl 4 rfl) ?_
          refine lv_istore_n (lv' := [(3, .int x3), (5, .int v8), (0, .ref o0), (1, .int x1), (2, .int x2), (4, .int x4)]) hx hb d_MO_boardWidth_43 rfl hl (by decide) rfl (fun ls hl => ?_)
          refine lv_iinc (v := x4 + 1) (lv' := [(4, .int (x4 + 1)), (3, .int x3), (5, .int v8), (0, .ref o0), (1, .int x1), (2, .int x2)]) hx hb d_MO_boardWidth_44 hl (k := 5) rfl (by rfl) (by decide) rfl (fun ls hl => ?_)
          refine lv_goto (tgt := 5) hx hb d_MO_boardWidth_47 (by decide) ?_
          exact ih x3 (x4 + 1) M6 hf _ _ _ hM hS (lv_sub hl [3, 4, 5, 1, 0] rfl)
        · have hf := px_iff hf c10
          refine lv_iload hx hb d_MO_boardWidth_37 (lv_at hl 0 rfl) ?_
          refine lv_goto (tgt := 43) hx hb d_MO_boardWidth_39 (by decide) ?_
          refine lv_istore_n (lv' := [(3, .int v8), (5, .int v8), (0, .ref o0), (1, .int x1), (2, .int x2), (4, .int x4)]) hx hb d_MO_boardWidth_43 rfl hl (by decide) rfl (fun ls hl => ?_)
          refine lv_iinc (v := x4 + 1) (lv' := [(4, .int (x4 + 1)), (3, .int v8), (5, .int v8), (0, .ref o0), (1, .int x1), (2, .int x2)]) hx hb d_MO_boardWidth_44 hl (k := 5) rfl (by rfl) (by decide) rfl (fun ls hl => ?_)
          refine lv_goto (tgt := 5) hx hb d_MO_boardWidth_47 (by decide) ?_
          exact ih v8 (x4 + 1) M6 hf _ _ _ hM hS (lv_sub hl [3, 4, 5, 1, 0] rfl)
def f_MO_boardWidth (o0 : Nat) (x1 : Int32) (x2 : Int32) (M : px_M) : Option (Int32 × px_M) :=
  (f_MO_boardWidth_L5 px_fuel o0 x1 x2 0 0 M).bind fun (v14, M12) =>
  (px_gi 11 5 M12 o0).bind fun v15 =>
  (px_gr 11 34 M12 o0).bind fun t17 =>
  (px_ai 0 M12 t17 x1).bind fun v19 =>
  if (v14 + (32 * v15)) ≤ (16 * v19) then
  (px_gr 11 34 M12 o0).bind fun t22 =>
  (px_ai 0 M12 t22 x1).bind fun v24 =>
  some (16 * v24, M12)
  else
  some (v14 + (32 * v15), M12)
set_option maxHeartbeats 4000000 in
set_option maxRecDepth 100000 in
theorem c_MO_boardWidth (l : Launch) (bs : Nat) (D : va_G) (G : Nat → ClassId) (o0 : Nat) (x1 : Int32) (x2 : Int32) (M : px_M) {r : Int32} {M' : px_M} (hf : f_MO_boardWidth o0 x1 x2 M = some (r, M')) : Met l y_MO_boardWidth (.code y_MO_boardWidth b_MO_boardWidth 6 (some .int) :: px_tw) ⟨4, 0, 0, 93⟩ (va_Pc [.ref o0, .int x1, .int x2] (px_B bs D px_cl (px_tys G) px_nw px_over M)) (px_Qi bs D px_cl (px_tys G) r M') 0 0 (fun q => bs ≤ q) := by
  refine px_of (by decide) (Nat.le_of_ble_eq_true rfl) ?_
  intro p e s m below meth c ls C0 hM hS hl
  obtain ⟨hx, hb, hr, hml, hown, hnm, hlocks, hts, hK, hN, hO⟩ := C0
  have hl : lv_has ls 6 [(0, .ref o0), (1, .int x1), (2, .int x2)] := hl
  unfold f_MO_boardWidth at hf
  refine lv_iconst (v := 0) hx hb d_MO_boardWidth_0 (by decide) ?_
  refine lv_istore_n (lv' := [(3, .int 0), (0, .ref o0), (1, .int x1), (2, .int x2)]) hx hb d_MO_boardWidth_1 rfl hl (by decide) rfl (fun ls hl => ?_)
  refine lv_iconst (v := 0) hx hb d_MO_boardWidth_2 (by decide) ?_
  refine lv_istore (lv' := [(4, .int 0), (3, .int 0), (0, .ref o0), (1, .int x1), (2, .int x2)]) hx hb d_MO_boardWidth_3 hl (by decide) rfl (fun ls hl => ?_)
  obtain ⟨⟨v14, M12⟩, h13, hf⟩ := px_bind hf
  dsimp only at hf
  refine lp_MO_boardWidth_L5 ⟨hx, hb, hr, hml, hown, hnm, hlocks, hts, hK, hN, hO⟩ _ M12 o0 x1 x2 (fun H locs ls hM hS hl => ?_) px_fuel 0 0 M h13 _ _ _ hM hS (lv_sub hl [2, 3, 4, 1, 0] rfl)
  try dsimp only at hl
  refine lv_iload_n hx hb d_MO_boardWidth_50 rfl (lv_at hl 2 rfl) ?_
  refine lv_bipush (v := 32) hx hb d_MO_boardWidth_51 (by decide) ?_
  refine lv_aload_n hx hb d_MO_boardWidth_53 rfl (lv_at hl 0 rfl) ?_
  obtain ⟨v15, h16, hf⟩ := px_bind hf
  refine px_rgi hx hb hts cl_MO hown hK hM 5 (by decide) (hts _ w_650) h16 d_MO_boardWidth_54 ?_
  refine lv_imul hx hb d_MO_boardWidth_57 ?_
  refine lv_iadd hx hb d_MO_boardWidth_58 ?_
  refine lv_istore (lv' := [(4, .int (v14 + (32 * v15))), (0, .ref o0), (1, .int x1), (3, .int v14)]) hx hb d_MO_boardWidth_59 hl (by decide) rfl (fun ls hl => ?_)
  refine lv_iload hx hb d_MO_boardWidth_61 (lv_at hl 0 rfl) ?_
  refine lv_bipush (v := 16) hx hb d_MO_boardWidth_63 (by decide) ?_
  refine lv_aload_n hx hb d_MO_boardWidth_65 rfl (lv_at hl 1 rfl) ?_
  obtain ⟨t17, h18, hf⟩ := px_bind hf
  refine px_rgr hx hb hts cl_MO hown hK hM 34 (by decide) (hts _ w_679) h18 d_MO_boardWidth_66 ?_
  refine lv_iload_n hx hb d_MO_boardWidth_69 rfl (lv_at hl 2 rfl) ?_
  obtain ⟨v19, h20, hf⟩ := px_bind hf
  refine px_rai hx hb hK hM 0 rfl h20 d_MO_boardWidth_70 ?_
  refine lv_imul hx hb d_MO_boardWidth_71 ?_
  refine lv_icmp_le (tgt := 80) hx hb d_MO_boardWidth_72 (by decide) (fun c21 => ?_) (fun c21 => ?_)
  · have hf := px_ift hf c21
    refine lv_bipush (v := 16) hx hb d_MO_boardWidth_80 (by decide) ?_
    refine lv_aload_n hx hb d_MO_boardWidth_82 rfl (lv_at hl 1 rfl) ?_
    obtain ⟨t22, h23, hf⟩ := px_bind hf
    refine px_rgr hx hb hts cl_MO hown hK hM 34 (by decide) (hts _ w_679) h23 d_MO_boardWidth_83 ?_
    refine lv_iload_n hx hb d_MO_boardWidth_86 rfl (lv_at hl 2 rfl) ?_
    obtain ⟨v24, h25, hf⟩ := px_bind hf
    refine px_rai hx hb hK hM 0 rfl h25 d_MO_boardWidth_87 ?_
    refine lv_imul hx hb d_MO_boardWidth_88 ?_
    obtain ⟨rfl, rfl⟩ := px_s2 hf
    exact px_iret hx hb hr hlocks hM hS d_MO_boardWidth_89
  · have hf := px_iff hf c21
    refine lv_iload hx hb d_MO_boardWidth_75 (lv_at hl 0 rfl) ?_
    refine lv_goto (tgt := 89) hx hb d_MO_boardWidth_77 (by decide) ?_
    obtain ⟨rfl, rfl⟩ := px_s2 hf
    exact px_iret hx hb hr hlocks hM hS d_MO_boardWidth_89
def f_MO_size (o0 : Nat) (x1 : Int32) (x2 : Int32) (x3 : Int32) (M : px_M) : Option (Int32 × px_M) :=
  (px_ob 11 M o0).bind fun _ =>
  (f_MO_isBoard o0 x1 M).bind fun (v3, M1) =>
  if v3 = 0 then
  some ((-1), M1)
  else
  if x2 < 0 then
  some ((-1), M1)
  else
  if 1 < x2 then
  some ((-1), M1)
  else
  (f_MO_isSpeed x3 M1).bind fun (v9, M7) =>
  if v9 = 0 then
  some ((-1), M7)
  else
  if x2 = 0 then
  (px_ob 11 M7 o0).bind fun _ =>
  (f_MO_boardWidth o0 x1 x3 M7).bind fun (v27, M25) =>
  some (v27, M25)
  else
  (px_gr 11 31 M7 o0).bind fun t12 =>
  (px_ai 0 M7 t12 x1).bind fun v14 =>
  (px_gi 11 5 M7 o0).bind fun v16 =>
  (px_ob 11 M7 o0).bind fun _ =>
  (f_MO_height o0 x3 M7).bind fun (v20, M18) =>
  if v14 ≤ 1 then
  some (16 * (((2 * v16) + (v14 * v20)) + 0), M18)
  else
  (px_gi 11 6 M18 o0).bind fun v22 =>
  some (16 * (((2 * v16) + (v14 * v20)) + ((v14 - 1) * v22)), M18)
set_option maxHeartbeats 4000000 in
set_option maxRecDepth 100000 in
theorem c_MO_size (l : Launch) (bs : Nat) (D : va_G) (G : Nat → ClassId) (o0 : Nat) (x1 : Int32) (x2 : Int32) (x3 : Int32) (M : px_M) {r : Int32} {M' : px_M} (hf : f_MO_size o0 x1 x2 x3 M = some (r, M')) : Met l y_MO_size (.code y_MO_size b_MO_size 5 (some .int) :: px_tw) ⟨5, 0, 0, 118⟩ (va_Pc [.ref o0, .int x1, .int x2, .int x3] (px_B bs D px_cl (px_tys G) px_nw px_over M)) (px_Qi bs D px_cl (px_tys G) r M') 0 0 (fun q => bs ≤ q) := by
  refine px_of (by decide) (Nat.le_of_ble_eq_true rfl) ?_
  intro p e s m below meth c ls C0 hM hS hl
  obtain ⟨hx, hb, hr, hml, hown, hnm, hlocks, hts, hK, hN, hO⟩ := C0
  have hl : lv_has ls 5 [(0, .ref o0), (1, .int x1), (2, .int x2), (3, .int x3)] := hl
  unfold f_MO_size at hf
  refine lv_aload_n hx hb d_MO_size_0 rfl (lv_at hl 0 rfl) ?_
  refine lv_iload_n hx hb d_MO_size_1 rfl (lv_at hl 1 rfl) ?_
  obtain ⟨_, h29, hf⟩ := px_bind hf
  obtain ⟨⟨v3, M1⟩, h2, hf⟩ := px_bind hf
  dsimp only at hf
  refine px_calli (va_runV (As := [.int x1]) (rest := []) ⟨hx, hb, hml, hown, hts⟩ (c_MO_isBoard l bs D G o0 x1 M h2) (cwV 1 hts (px_gV w_859 w_861 ws_MO_isBoard w_12 w_862) rfl rfl rfl (by decide +kernel) ⟨Nat.le_of_ble_eq_true rfl, Nat.le_of_ble_eq_true rfl⟩) (px_preV px_nwok hK hN hO hM h29 rfl) rfl rfl hl.1 rfl (lv_room (Nat.le_of_ble_eq_true rfl)) d_MO_size_2 ⟨Nat.le_of_ble_eq_true rfl, Nat.le_of_ble_eq_true rfl⟩) hS (fun H locs hM hS => ?_)
  refine lv_if_eq (tgt := 24) hx hb d_MO_size_5 (by decide) (fun c4 => ?_) (fun c4 => ?_)
  · have hf := px_ift hf c4
    refine lv_iconst (v := (-1)) hx hb d_MO_size_24 (by decide) ?_
    obtain ⟨rfl, rfl⟩ := px_s2 hf
    exact px_iret hx hb hr hlocks hM hS d_MO_size_25
  · have hf := px_iff hf c4
    refine lv_iload_n hx hb d_MO_size_8 rfl (lv_at hl 2 rfl) ?_
    refine lv_if_lt (tgt := 24) hx hb d_MO_size_9 (by decide) (fun c5 => ?_) (fun c5 => ?_)
    · have hf := px_ift hf c5
      refine lv_iconst (v := (-1)) hx hb d_MO_size_24 (by decide) ?_
      obtain ⟨rfl, rfl⟩ := px_s2 hf
      exact px_iret hx hb hr hlocks hM hS d_MO_size_25
    · have hf := px_iff hf c5
      refine lv_iload_n hx hb d_MO_size_12 rfl (lv_at hl 2 rfl) ?_
      refine lv_iconst (v := 1) hx hb d_MO_size_13 (by decide) ?_
      refine lv_icmp_gt (tgt := 24) hx hb d_MO_size_14 (by decide) (fun c6 => ?_) (fun c6 => ?_)
      · have hf := px_ift hf c6
        refine lv_iconst (v := (-1)) hx hb d_MO_size_24 (by decide) ?_
        obtain ⟨rfl, rfl⟩ := px_s2 hf
        exact px_iret hx hb hr hlocks hM hS d_MO_size_25
      · have hf := px_iff hf c6
        refine lv_iload_n hx hb d_MO_size_17 rfl (lv_at hl 3 rfl) ?_
        obtain ⟨⟨v9, M7⟩, h8, hf⟩ := px_bind hf
        dsimp only at hf
        refine px_calli (va_runS (As := [.int x3]) (rest := []) ⟨hx, hb, hml, hown, hts⟩ (c_MO_isSpeed l bs D G x3 M1 h8) (cwS 1 hts (px_gS w_819 w_820 w_12 w_821) rfl rfl rfl (by decide +kernel) ⟨Nat.le_of_ble_eq_true rfl, Nat.le_of_ble_eq_true rfl⟩) (px_preS px_nwok hK hN hO hM) rfl rfl hl.1 rfl (lv_room (Nat.le_of_ble_eq_true rfl)) d_MO_size_18 ⟨Nat.le_of_ble_eq_true rfl, Nat.le_of_ble_eq_true rfl⟩) hS (fun H locs hM hS => ?_)
        refine lv_if_ne (tgt := 26) hx hb d_MO_size_21 (by decide) (fun c10 => ?_) (fun c10 => ?_)
        · have hf := px_iff hf c10
          refine lv_iload_n hx hb d_MO_size_26 rfl (lv_at hl 2 rfl) ?_
          refine lv_if_ne (tgt := 37) hx hb d_MO_size_27 (by decide) (fun c11 => ?_) (fun c11 => ?_)
          · have hf := px_iff hf c11
            refine lv_aload_n hx hb d_MO_size_37 rfl (lv_at hl 0 rfl) ?_
            obtain ⟨t12, h13, hf⟩ := px_bind hf
            refine px_rgr hx hb hts cl_MO hown hK hM 31 (by decide) (hts _ w_676) h13 d_MO_size_38 ?_
            refine lv_iload_n hx hb d_MO_size_41 rfl (lv_at hl 1 rfl) ?_
            obtain ⟨v14, h15, hf⟩ := px_bind hf
            refine px_rai hx hb hK hM 0 rfl h15 d_MO_size_42 ?_
            refine lv_istore (lv' := [(4, .int v14), (0, .ref o0), (1, .int x1), (2, .int x2), (3, .int x3)]) hx hb d_MO_size_43 hl (by decide) rfl (fun ls hl => ?_)
            refine lv_bipush (v := 16) hx hb d_MO_size_45 (by decide) ?_
            refine lv_iconst (v := 2) hx hb d_MO_size_47 (by decide) ?_
            refine lv_aload_n hx hb d_MO_size_48 rfl (lv_at hl 1 rfl) ?_
            obtain ⟨v16, h17, hf⟩ := px_bind hf
            refine px_rgi hx hb hts cl_MO hown hK hM 5 (by decide) (hts _ w_650) h17 d_MO_size_49 ?_
            refine lv_imul hx hb d_MO_size_52 ?_
            refine lv_iload hx hb d_MO_size_53 (lv_at hl 0 rfl) ?_
            refine lv_aload_n hx hb d_MO_size_55 rfl (lv_at hl 1 rfl) ?_
            refine lv_iload_n hx hb d_MO_size_56 rfl (lv_at hl 4 rfl) ?_
            obtain ⟨_, h24, hf⟩ := px_bind hf
            obtain ⟨⟨v20, M18⟩, h19, hf⟩ := px_bind hf
            dsimp only at hf
            refine px_calli (va_runV (As := [.int x3]) (rest := [.int v14, .int (2 * v16), .int 16]) ⟨hx, hb, hml, hown, hts⟩ (c_MO_height l bs D G o0 x3 M7 h19) (cwV 1 hts (px_gV w_838 w_816 w_817 w_12 w_818) rfl rfl rfl (by decide +kernel) ⟨Nat.le_of_ble_eq_true rfl, Nat.le_of_ble_eq_true rfl⟩) (px_preV px_nwok hK hN hO hM h24 rfl) rfl rfl hl.1 rfl (lv_room (Nat.le_of_ble_eq_true rfl)) d_MO_size_57 ⟨Nat.le_of_ble_eq_true rfl, Nat.le_of_ble_eq_true rfl⟩) hS (fun H locs hM hS => ?_)
            refine lv_imul hx hb d_MO_size_60 ?_
            refine lv_iadd hx hb d_MO_size_61 ?_
            refine lv_iload hx hb d_MO_size_62 (lv_at hl 0 rfl) ?_
            refine lv_iconst (v := 1) hx hb d_MO_size_64 (by decide) ?_
            refine lv_icmp_le (tgt := 80) hx hb d_MO_size_65 (by decide) (fun c21 => ?_) (fun c21 => ?_)
            · have hf := px_ift hf c21
              refine lv_iconst (v := 0) hx hb d_MO_size_80 (by decide) ?_
              refine lv_iadd hx hb d_MO_size_81 ?_
              refine lv_imul hx hb d_MO_size_82 ?_
              obtain ⟨rfl, rfl⟩ := px_s2 hf
              exact px_iret hx hb hr hlocks hM hS d_MO_size_83
            · have hf := px_iff hf c21
              refine lv_iload hx hb d_MO_size_68 (lv_at hl 0 rfl) ?_
              refine lv_iconst (v := 1) hx hb d_MO_size_70 (by decide) ?_
              refine lv_isub hx hb d_MO_size_71 ?_
              refine lv_aload_n hx hb d_MO_size_72 rfl (lv_at hl 1 rfl) ?_
              obtain ⟨v22, h23, hf⟩ := px_bind hf
              refine px_rgi hx hb hts cl_MO hown hK hM 6 (by decide) (hts _ w_651) h23 d_MO_size_73 ?_
              refine lv_imul hx hb d_MO_size_76 ?_
              refine lv_goto (tgt := 81) hx hb d_MO_size_77 (by decide) ?_
              refine lv_iadd hx hb d_MO_size_81 ?_
              refine lv_imul hx hb d_MO_size_82 ?_
              obtain ⟨rfl, rfl⟩ := px_s2 hf
              exact px_iret hx hb hr hlocks hM hS d_MO_size_83
          · have hf := px_ift hf c11
            refine lv_aload_n hx hb d_MO_size_30 rfl (lv_at hl 0 rfl) ?_
            refine lv_iload_n hx hb d_MO_size_31 rfl (lv_at hl 1 rfl) ?_
            refine lv_iload_n hx hb d_MO_size_32 rfl (lv_at hl 3 rfl) ?_
            obtain ⟨_, h28, hf⟩ := px_bind hf
            obtain ⟨⟨v27, M25⟩, h26, hf⟩ := px_bind hf
            dsimp only at hf
            refine px_calli (va_runV (As := [.int x1, .int x3]) (rest := []) ⟨hx, hb, hml, hown, hts⟩ (c_MO_boardWidth l bs D G o0 x1 x3 M7 h26) (cwV 2 hts (px_gV w_912 w_914 ws_MO_boardWidth w_12 w_915) rfl rfl rfl (by decide +kernel) ⟨Nat.le_of_ble_eq_true rfl, Nat.le_of_ble_eq_true rfl⟩) (px_preV px_nwok hK hN hO hM h28 rfl) rfl rfl hl.1 rfl (lv_room (Nat.le_of_ble_eq_true rfl)) d_MO_size_33 ⟨Nat.le_of_ble_eq_true rfl, Nat.le_of_ble_eq_true rfl⟩) hS (fun H locs hM hS => ?_)
            obtain ⟨rfl, rfl⟩ := px_s2 hf
            exact px_iret hx hb hr hlocks hM hS d_MO_size_36
        · have hf := px_ift hf c10
          refine lv_iconst (v := (-1)) hx hb d_MO_size_24 (by decide) ?_
          obtain ⟨rfl, rfl⟩ := px_s2 hf
          exact px_iret hx hb hr hlocks hM hS d_MO_size_25
def f_MO_drawn_L43 : Nat → Nat → Int32 → Int32 → Int32 → Int32 → Int32 → px_M → Option ((Int32 × Int32) × px_M)
  | 0, _, _, _, _, _, _, _ => none
  | n + 1, o0, x1, x2, x4, x5, x6, M =>
    (px_gr 11 31 M o0).bind fun t14 =>
    (px_ai 0 M t14 x1).bind fun v16 =>
    if v16 ≤ x6 then
    some ((x5, x6), M)
    else
    (px_gr 11 22 M o0).bind fun t19 =>
    (px_gr 11 32 M o0).bind fun t21 =>
    (px_gr 11 37 M o0).bind fun t23 =>
    (px_ai 0 M t23 x6).bind fun v25 =>
    (px_ai 0 M t21 ((5 * x1) + v25)).bind fun v27 =>
    (px_ai 0 M t19 v27).bind fun v29 =>
    if x5 ≤ v29 then
    some ((x5, x6), M)
    else
    (px_gr 11 22 M o0).bind fun t32 =>
    (px_gr 11 32 M o0).bind fun t34 =>
    (px_gr 11 37 M o0).bind fun t36 =>
    (px_ai 0 M t36 x6).bind fun v38 =>
    (px_ai 0 M t34 ((5 * x1) + v38)).bind fun v40 =>
    (px_ai 0 M t32 v40).bind fun v42 =>
    f_MO_drawn_L43 n o0 x1 x2 x4 (x5 - (1 + v42)) (x6 + 1) M
set_option maxHeartbeats 4000000 in
set_option maxRecDepth 100000 in
theorem lp_MO_drawn_L43 {p : Program} {l : Launch} {e : Env} {s : State} {m : MethodId} {args : Array Value} {below : List Frame} {meth : Method} {c : Code} {bs : Nat} {D : va_G} {G : Nat → ClassId} {Q : State → Prop} (C0 : px_At p s m meth c y_MO_drawn b_MO_drawn 12 (some .int) args D px_cl (px_tys G) px_nw px_over) (x : Int32 × Int32) (M' : px_M) (o0 : Nat) (x1 : Int32) (x2 : Int32) (x4 : Int32) (kx : ∀ (H : Heap) (locs : List Loc) (ls : Array Slot), px_W bs D px_cl (px_tys G) M' H → va_S (fun q => bs ≤ q) s.heap H locs → lv_has ls 12 [(0, .ref o0), (1, .int x1), (2, .int x2), (4, .int x4), (5, .int x.1), (6, .int x.2)] → W p l e ⟨5, 0, 0, 120⟩ s m args below meth c H locs 0 0 Q (F0 m 114 ls []))  : ∀ (n : Nat) (x5 : Int32) (x6 : Int32) (M : px_M), f_MO_drawn_L43 n o0 x1 x2 x4 x5 x6 M = some (x, M') → ∀ (H : Heap) (locs : List Loc) (ls : Array Slot), px_W bs D px_cl (px_tys G) M H → va_S (fun q => bs ≤ q) s.heap H locs → lv_has ls 12 [(0, .ref o0), (1, .int x1), (2, .int x2), (4, .int x4), (5, .int x5), (6, .int x6)] → W p l e ⟨5, 0, 0, 120⟩ s m args below meth c H locs 0 0 Q (F0 m 43 ls []) := by
  obtain ⟨hx, hb, hr, hml, hown, hnm, hlocks, hts, hK, hN, hO⟩ := C0
  intro n
  induction n with
  | zero => intro x5 x6 M hf; cases hf
  | succ n ih =>
    intro x5 x6 M hf H locs ls hM hS hl
    unfold f_MO_drawn_L43 at hf
    refine lv_iload hx hb d_MO_drawn_43 (lv_at hl 5 rfl) ?_
    refine lv_aload_n hx hb d_MO_drawn_45 rfl (lv_at hl 0 rfl) ?_
    obtain ⟨t14, h15, hf⟩ := px_bind hf
    refine px_rgr hx hb hts cl_MO hown hK hM 31 (by decide) (hts _ w_676) h15 d_MO_drawn_46 ?_
    refine lv_iload_n hx hb d_MO_drawn_49 rfl (lv_at hl 1 rfl) ?_
    obtain ⟨v16, h17, hf⟩ := px_bind hf
    refine px_rai hx hb hK hM 0 rfl h17 d_MO_drawn_50 ?_
    refine lv_icmp_ge (tgt := 114) hx hb d_MO_drawn_51 (by decide) (fun c18 => ?_) (fun c18 => ?_)
    · have hf := px_ift hf c18
      obtain ⟨rfl, rfl⟩ := px_s2 hf
      exact kx _ _ _ hM hS (lv_sub hl [0, 1, 2, 3, 4, 5] rfl)
    · have hf := px_iff hf c18
      refine lv_iload hx hb d_MO_drawn_54 (lv_at hl 4 rfl) ?_
      refine lv_aload_n hx hb d_MO_drawn_56 rfl (lv_at hl 0 rfl) ?_
      obtain ⟨t19, h20, hf⟩ := px_bind hf
      refine px_rgr hx hb hts cl_MO hown hK hM 22 (by decide) (hts _ w_667) h20 d_MO_drawn_57 ?_
      refine lv_aload_n hx hb d_MO_drawn_60 rfl (lv_at hl 0 rfl) ?_
      obtain ⟨t21, h22, hf⟩ := px_bind hf
      refine px_rgr hx hb hts cl_MO hown hK hM 32 (by decide) (hts _ w_677) h22 d_MO_drawn_61 ?_
      refine lv_iconst (v := 5) hx hb d_MO_drawn_64 (by decide) ?_
      refine lv_iload_n hx hb d_MO_drawn_65 rfl (lv_at hl 1 rfl) ?_
      refine lv_imul hx hb d_MO_drawn_66 ?_
      refine lv_aload_n hx hb d_MO_drawn_67 rfl (lv_at hl 0 rfl) ?_
      obtain ⟨t23, h24, hf⟩ := px_bind hf
      refine px_rgr hx hb hts cl_MO hown hK hM 37 (by decide) (hts _ w_682) h24 d_MO_drawn_68 ?_
      refine lv_iload hx hb d_MO_drawn_71 (lv_at hl 5 rfl) ?_
      obtain ⟨v25, h26, hf⟩ := px_bind hf
      refine px_rai hx hb hK hM 0 rfl h26 d_MO_drawn_73 ?_
      refine lv_iadd hx hb d_MO_drawn_74 ?_
      obtain ⟨v27, h28, hf⟩ := px_bind hf
      refine px_rai hx hb hK hM 0 rfl h28 d_MO_drawn_75 ?_
      obtain ⟨v29, h30, hf⟩ := px_bind hf
      refine px_rai hx hb hK hM 0 rfl h30 d_MO_drawn_76 ?_
      refine lv_icmp_le (tgt := 114) hx hb d_MO_drawn_77 (by decide) (fun c31 => ?_) (fun c31 => ?_)
      · have hf := px_ift hf c31
        obtain ⟨rfl, rfl⟩ := px_s2 hf
        exact kx _ _ _ hM hS (lv_sub hl [0, 1, 2, 3, 4, 5] rfl)
      · have hf := px_iff hf c31
        refine lv_iload hx hb d_MO_drawn_80 (lv_at hl 4 rfl) ?_
        refine lv_iconst (v := 1) hx hb d_MO_drawn_82 (by decide) ?_
        refine lv_aload_n hx hb d_MO_drawn_83 rfl (lv_at hl 0 rfl) ?_
        obtain ⟨t32, h33, hf⟩ := px_bind hf
        refine px_rgr hx hb hts cl_MO hown hK hM 22 (by decide) (hts _ w_667) h33 d_MO_drawn_84 ?_
        refine lv_aload_n hx hb d_MO_drawn_87 rfl (lv_at hl 0 rfl) ?_
        obtain ⟨t34, h35, hf⟩ := px_bind hf
        refine px_rgr hx hb hts cl_MO hown hK hM 32 (by decide) (hts _ w_677) h35 d_MO_drawn_88 ?_
        refine lv_iconst (v := 5) hx hb d_MO_drawn_91 (by decide) ?_
        refine lv_iload_n hx hb d_MO_drawn_92 rfl (lv_at hl 1 rfl) ?_
        refine lv_imul hx hb d_MO_drawn_93 ?_
        refine lv_aload_n hx hb d_MO_drawn_94 rfl (lv_at hl 0 rfl) ?_
        obtain ⟨t36, h37, hf⟩ := px_bind hf
        refine px_rgr hx hb hts cl_MO hown hK hM 37 (by decide) (hts _ w_682) h37 d_MO_drawn_95 ?_
        refine lv_iload hx hb d_MO_drawn_98 (lv_at hl 5 rfl) ?_
        obtain ⟨v38, h39, hf⟩ := px_bind hf
        refine px_rai hx hb hK hM 0 rfl h39 d_MO_drawn_100 ?_
        refine lv_iadd hx hb d_MO_drawn_101 ?_
        obtain ⟨v40, h41, hf⟩ := px_bind hf
        refine px_rai hx hb hK hM 0 rfl h41 d_MO_drawn_102 ?_
        obtain ⟨v42, h43, hf⟩ := px_bind hf
        refine px_rai hx hb hK hM 0 rfl h43 d_MO_drawn_103 ?_
        refine lv_iadd hx hb d_MO_drawn_104 ?_
        refine lv_isub hx hb d_MO_drawn_105 ?_
        refine lv_istore (lv' := [(5, .int (x5 - (1 + v42))), (0, .ref o0), (1, .int x1), (2, .int x2), (4, .int x4), (6, .int x6)]) hx hb d_MO_drawn_106 hl (by decide) rfl (fun ls hl => ?_)
        refine lv_iinc (v := x6 + 1) (lv' := [(6, .int (x6 + 1)), (5, .int (x5 - (1 + v42))), (0, .ref o0), (1, .int x1), (2, .int x2), (4, .int x4)]) hx hb d_MO_drawn_108 hl (k := 5) rfl (by rfl) (by decide) rfl (fun ls hl => ?_)
        refine lv_goto (tgt := 43) hx hb d_MO_drawn_111 (by decide) ?_
        exact ih (x5 - (1 + v42)) (x6 + 1) M hf _ _ _ hM hS (lv_sub hl [2, 3, 4, 5, 1, 0] rfl)
def f_MO_drawn (o0 : Nat) (x1 : Int32) (x2 : Int32) (x3 : Int32) (x4 : Int32) (M : px_M) : Option (Int32 × px_M) :=
  (px_ob 11 M o0).bind fun _ =>
  (f_MO_isBoard o0 x1 M).bind fun (v3, M1) =>
  if v3 = 0 then
  some ((-1), M1)
  else
  (f_MO_isSpeed x2 M1).bind fun (v7, M5) =>
  if v7 = 0 then
  some ((-1), M5)
  else
  if x3 < 0 then
  some ((-1), M5)
  else
  if x4 < 0 then
  some ((-1), M5)
  else
  if x4 ≤ 2 then
  (px_ob 11 M5 o0).bind fun _ =>
  (f_MO_rankAll o0 x1 M5).bind fun M12 =>
  (f_MO_drawn_L43 px_fuel o0 x1 x2 x4 x3 0 M12).bind fun ((v46, v47), M44) =>
  (px_gr 11 31 M44 o0).bind fun t48 =>
  (px_ai 0 M44 t48 x1).bind fun v50 =>
  if v47 = v50 then
  some ((-1), M44)
  else
  (px_gr 11 37 M44 o0).bind fun t53 =>
  (px_ai 0 M44 t53 v47).bind fun v55 =>
  (px_gr 11 32 M44 o0).bind fun t57 =>
  (px_ai 0 M44 t57 ((5 * x1) + v55)).bind fun v59 =>
  (px_gr 11 33 M44 o0).bind fun t61 =>
  (px_ai 0 M44 t61 ((5 * x1) + v55)).bind fun v63 =>
  (px_ob 11 M44 o0).bind fun _ =>
  (f_MO_height o0 x2 M44).bind fun (v67, M65) =>
  if x4 = 0 then
  if v46 = 0 then
  some (200 + v63, M65)
  else
  (px_ob 11 M65 o0).bind fun _ =>
  (f_MO_letter o0 v59 (v46 - 1) M65).bind fun (v108, M106) =>
  some (v108, M106)
  else
  if x4 = 2 then
  (px_gi 11 5 M65 o0).bind fun v101 =>
  (px_gi 11 6 M65 o0).bind fun v103 =>
  some (16 * (v101 + (v47 * (v67 + v103))), M65)
  else
  (px_gi 11 5 M65 o0).bind fun v70 =>
  (px_ob 11 M65 o0).bind fun _ =>
  (f_MO_boardWidth o0 x1 x2 M65).bind fun (v74, M72) =>
  (px_gi 11 5 M72 o0).bind fun v75 =>
  (px_ob 11 M72 o0).bind fun _ =>
  (f_MO_lineWidth o0 x1 v55 x2 M72).bind fun (v79, M77) =>
  if v46 = 0 then
  if v63 = 2 then
  (px_ob 11 M77 o0).bind fun _ =>
  (f_MO_width o0 v59 x2 M77).bind fun (v95, M93) =>
  (px_gi 11 6 M93 o0).bind fun v96 =>
  some ((((16 * v70) + (((v74 - (32 * v75)) - v79) / 2)) + v95) + (16 * v96), M93)
  else
  some ((16 * v70) + (((v74 - (32 * v75)) - v79) / 2), M77)
  else
  if v63 = 2 then
  (px_ob 11 M77 o0).bind fun _ =>
  (f_MO_before o0 v59 (v46 - 1) M77).bind fun (v90, M88) =>
  some ((((16 * v70) + (((v74 - (32 * v75)) - v79) / 2)) + 0) + (v90 * v67), M88)
  else
  (px_gi 11 6 M77 o0).bind fun v82 =>
  (px_ob 11 M77 o0).bind fun _ =>
  (f_MO_before o0 v59 (v46 - 1) M77).bind fun (v86, M84) =>
  some ((((16 * v70) + (((v74 - (32 * v75)) - v79) / 2)) + (16 * (v67 + v82))) + (v86 * v67), M84)
  else
  some ((-1), M5)
set_option maxHeartbeats 4000000 in
set_option maxRecDepth 100000 in
theorem c_MO_drawn (l : Launch) (bs : Nat) (D : va_G) (G : Nat → ClassId) (o0 : Nat) (x1 : Int32) (x2 : Int32) (x3 : Int32) (x4 : Int32) (M : px_M) {r : Int32} {M' : px_M} (hf : f_MO_drawn o0 x1 x2 x3 x4 M = some (r, M')) : Met l y_MO_drawn (.code y_MO_drawn b_MO_drawn 12 (some .int) :: px_tw) ⟨5, 0, 0, 120⟩ (va_Pc [.ref o0, .int x1, .int x2, .int x3, .int x4] (px_B bs D px_cl (px_tys G) px_nw px_over M)) (px_Qi bs D px_cl (px_tys G) r M') 0 0 (fun q => bs ≤ q) := by
  refine px_of (by decide) (Nat.le_of_ble_eq_true rfl) ?_
  intro p e s m below meth c ls C0 hM hS hl
  obtain ⟨hx, hb, hr, hml, hown, hnm, hlocks, hts, hK, hN, hO⟩ := C0
  have hl : lv_has ls 12 [(0, .ref o0), (1, .int x1), (2, .int x2), (3, .int x3), (4, .int x4)] := hl
  unfold f_MO_drawn at hf
  refine lv_aload_n hx hb d_MO_drawn_0 rfl (lv_at hl 0 rfl) ?_
  refine lv_iload_n hx hb d_MO_drawn_1 rfl (lv_at hl 1 rfl) ?_
  obtain ⟨_, h112, hf⟩ := px_bind hf
  obtain ⟨⟨v3, M1⟩, h2, hf⟩ := px_bind hf
  dsimp only at hf
  refine px_calli (va_runV (As := [.int x1]) (rest := []) ⟨hx, hb, hml, hown, hts⟩ (c_MO_isBoard l bs D G o0 x1 M h2) (cwV 1 hts (px_gV w_859 w_861 ws_MO_isBoard w_12 w_862) rfl rfl rfl (by decide +kernel) ⟨Nat.le_of_ble_eq_true rfl, Nat.le_of_ble_eq_true rfl⟩) (px_preV px_nwok hK hN hO hM h112 rfl) rfl rfl hl.1 rfl (lv_room (Nat.le_of_ble_eq_true rfl)) d_MO_drawn_2 ⟨Nat.le_of_ble_eq_true rfl, Nat.le_of_ble_eq_true rfl⟩) hS (fun H locs hM hS => ?_)
  refine lv_if_eq (tgt := 30) hx hb d_MO_drawn_5 (by decide) (fun c4 => ?_) (fun c4 => ?_)
  · have hf := px_ift hf c4
    refine lv_iconst (v := (-1)) hx hb d_MO_drawn_30 (by decide) ?_
    obtain ⟨rfl, rfl⟩ := px_s2 hf
    exact px_iret hx hb hr hlocks hM hS d_MO_drawn_31
  · have hf := px_iff hf c4
    refine lv_iload_n hx hb d_MO_drawn_8 rfl (lv_at hl 2 rfl) ?_
    obtain ⟨⟨v7, M5⟩, h6, hf⟩ := px_bind hf
    dsimp only at hf
    refine px_calli (va_runS (As := [.int x2]) (rest := []) ⟨hx, hb, hml, hown, hts⟩ (c_MO_isSpeed l bs D G x2 M1 h6) (cwS 1 hts (px_gS w_819 w_820 w_12 w_821) rfl rfl rfl (by decide +kernel) ⟨Nat.le_of_ble_eq_true rfl, Nat.le_of_ble_eq_true rfl⟩) (px_preS px_nwok hK hN hO hM) rfl rfl hl.1 rfl (lv_room (Nat.le_of_ble_eq_true rfl)) d_MO_drawn_9 ⟨Nat.le_of_ble_eq_true rfl, Nat.le_of_ble_eq_true rfl⟩) hS (fun H locs hM hS => ?_)
    refine lv_if_eq (tgt := 30) hx hb d_MO_drawn_12 (by decide) (fun c8 => ?_) (fun c8 => ?_)
    · have hf := px_ift hf c8
      refine lv_iconst (v := (-1)) hx hb d_MO_drawn_30 (by decide) ?_
      obtain ⟨rfl, rfl⟩ := px_s2 hf
      exact px_iret hx hb hr hlocks hM hS d_MO_drawn_31
    · have hf := px_iff hf c8
      refine lv_iload_n hx hb d_MO_drawn_15 rfl (lv_at hl 3 rfl) ?_
      refine lv_if_lt (tgt := 30) hx hb d_MO_drawn_16 (by decide) (fun c9 => ?_) (fun c9 => ?_)
      · have hf := px_ift hf c9
        refine lv_iconst (v := (-1)) hx hb d_MO_drawn_30 (by decide) ?_
        obtain ⟨rfl, rfl⟩ := px_s2 hf
        exact px_iret hx hb hr hlocks hM hS d_MO_drawn_31
      · have hf := px_iff hf c9
        refine lv_iload hx hb d_MO_drawn_19 (lv_at hl 4 rfl) ?_
        refine lv_if_lt (tgt := 30) hx hb d_MO_drawn_21 (by decide) (fun c10 => ?_) (fun c10 => ?_)
        · have hf := px_ift hf c10
          refine lv_iconst (v := (-1)) hx hb d_MO_drawn_30 (by decide) ?_
          obtain ⟨rfl, rfl⟩ := px_s2 hf
          exact px_iret hx hb hr hlocks hM hS d_MO_drawn_31
        · have hf := px_iff hf c10
          refine lv_iload hx hb d_MO_drawn_24 (lv_at hl 4 rfl) ?_
          refine lv_iconst (v := 2) hx hb d_MO_drawn_26 (by decide) ?_
          refine lv_icmp_le (tgt := 32) hx hb d_MO_drawn_27 (by decide) (fun c11 => ?_) (fun c11 => ?_)
          · have hf := px_ift hf c11
            refine lv_aload_n hx hb d_MO_drawn_32 rfl (lv_at hl 0 rfl) ?_
            refine lv_iload_n hx hb d_MO_drawn_33 rfl (lv_at hl 1 rfl) ?_
            obtain ⟨_, h111, hf⟩ := px_bind hf
            obtain ⟨M12, h13, hf⟩ := px_bind hf
            refine px_callv (va_runV (As := [.int x1]) (rest := []) ⟨hx, hb, hml, hown, hts⟩ (c_MO_rankAll l bs D G o0 x1 M5 h13) (cwV 1 hts (px_gV w_879 w_881 ws_MO_rankAll w_12 w_882) rfl rfl rfl (by decide +kernel) ⟨Nat.le_of_ble_eq_true rfl, Nat.le_of_ble_eq_true rfl⟩) (px_preV px_nwok hK hN hO hM h111 rfl) rfl rfl hl.1 rfl (lv_room (Nat.le_of_ble_eq_true rfl)) d_MO_drawn_34 ⟨Nat.le_of_ble_eq_true rfl, Nat.le_of_ble_eq_true rfl⟩) hS (fun H locs hM hS => ?_)
            refine lv_iload_n hx hb d_MO_drawn_37 rfl (lv_at hl 3 rfl) ?_
            refine lv_istore (lv' := [(5, .int x3), (0, .ref o0), (1, .int x1), (2, .int x2), (3, .int x3), (4, .int x4)]) hx hb d_MO_drawn_38 hl (by decide) rfl (fun ls hl => ?_)
            refine lv_iconst (v := 0) hx hb d_MO_drawn_40 (by decide) ?_
            refine lv_istore (lv' := [(6, .int 0), (5, .int x3), (0, .ref o0), (1, .int x1), (2, .int x2), (3, .int x3), (4, .int x4)]) hx hb d_MO_drawn_41 hl (by decide) rfl (fun ls hl => ?_)
            obtain ⟨⟨⟨v46, v47⟩, M44⟩, h45, hf⟩ := px_bind hf
            dsimp only at hf
            refine lp_MO_drawn_L43 ⟨hx, hb, hr, hml, hown, hnm, hlocks, hts, hK, hN, hO⟩ _ M44 o0 x1 x2 x4 (fun H locs ls hM hS hl => ?_) px_fuel x3 0 M12 h45 _ _ _ hM hS (lv_sub hl [2, 3, 4, 6, 1, 0] rfl)
            try dsimp only at hl
            refine lv_iload hx hb d_MO_drawn_114 (lv_at hl 5 rfl) ?_
            refine lv_aload_n hx hb d_MO_drawn_116 rfl (lv_at hl 0 rfl) ?_
            obtain ⟨t48, h49, hf⟩ := px_bind hf
            refine px_rgr hx hb hts cl_MO hown hK hM 31 (by decide) (hts _ w_676) h49 d_MO_drawn_117 ?_
            refine lv_iload_n hx hb d_MO_drawn_120 rfl (lv_at hl 1 rfl) ?_
            obtain ⟨v50, h51, hf⟩ := px_bind hf
            refine px_rai hx hb hK hM 0 rfl h51 d_MO_drawn_121 ?_
            refine lv_icmp_ne (tgt := 127) hx hb d_MO_drawn_122 (by decide) (fun c52 => ?_) (fun c52 => ?_)
            · have hf := px_iff hf c52
              refine lv_aload_n hx hb d_MO_drawn_127 rfl (lv_at hl 0 rfl) ?_
              obtain ⟨t53, h54, hf⟩ := px_bind hf
              refine px_rgr hx hb hts cl_MO hown hK hM 37 (by decide) (hts _ w_682) h54 d_MO_drawn_128 ?_
              refine lv_iload hx hb d_MO_drawn_131 (lv_at hl 5 rfl) ?_
              obtain ⟨v55, h56, hf⟩ := px_bind hf
              refine px_rai hx hb hK hM 0 rfl h56 d_MO_drawn_133 ?_
              refine lv_istore (lv' := [(7, .int v55), (0, .ref o0), (1, .int x1), (2, .int x2), (4, .int x4), (5, .int v46), (6, .int v47)]) hx hb d_MO_drawn_134 hl (by decide) rfl (fun ls hl => ?_)
              refine lv_aload_n hx hb d_MO_drawn_136 rfl (lv_at hl 1 rfl) ?_
              obtain ⟨t57, h58, hf⟩ := px_bind hf
              refine px_rgr hx hb hts cl_MO hown hK hM 32 (by decide) (hts _ w_677) h58 d_MO_drawn_137 ?_
              refine lv_iconst (v := 5) hx hb d_MO_drawn_140 (by decide) ?_
              refine lv_iload_n hx hb d_MO_drawn_141 rfl (lv_at hl 2 rfl) ?_
              refine lv_imul hx hb d_MO_drawn_142 ?_
              refine lv_iload hx hb d_MO_drawn_143 (lv_at hl 0 rfl) ?_
              refine lv_iadd hx hb d_MO_drawn_145 ?_
              obtain ⟨v59, h60, hf⟩ := px_bind hf
              refine px_rai hx hb hK hM 0 rfl h60 d_MO_drawn_146 ?_
              refine lv_istore (lv' := [(8, .int v59), (7, .int v55), (0, .ref o0), (1, .int x1), (2, .int x2), (4, .int x4), (5, .int v46), (6, .int v47)]) hx hb d_MO_drawn_147 hl (by decide) rfl (fun ls hl => ?_)
              refine lv_aload_n hx hb d_MO_drawn_149 rfl (lv_at hl 2 rfl) ?_
              obtain ⟨t61, h62, hf⟩ := px_bind hf
              refine px_rgr hx hb hts cl_MO hown hK hM 33 (by decide) (hts _ w_678) h62 d_MO_drawn_150 ?_
              refine lv_iconst (v := 5) hx hb d_MO_drawn_153 (by decide) ?_
              refine lv_iload_n hx hb d_MO_drawn_154 rfl (lv_at hl 3 rfl) ?_
              refine lv_imul hx hb d_MO_drawn_155 ?_
              refine lv_iload hx hb d_MO_drawn_156 (lv_at hl 1 rfl) ?_
              refine lv_iadd hx hb d_MO_drawn_158 ?_
              obtain ⟨v63, h64, hf⟩ := px_bind hf
              refine px_rai hx hb hK hM 0 rfl h64 d_MO_drawn_159 ?_
              refine lv_istore (lv' := [(9, .int v63), (8, .int v59), (7, .int v55), (0, .ref o0), (1, .int x1), (2, .int x2), (4, .int x4), (5, .int v46), (6, .int v47)]) hx hb d_MO_drawn_160 hl (by decide) rfl (fun ls hl => ?_)
              refine lv_aload_n hx hb d_MO_drawn_162 rfl (lv_at hl 3 rfl) ?_
              refine lv_iload_n hx hb d_MO_drawn_163 rfl (lv_at hl 5 rfl) ?_
              obtain ⟨_, h110, hf⟩ := px_bind hf
              obtain ⟨⟨v67, M65⟩, h66, hf⟩ := px_bind hf
              dsimp only at hf
              refine px_calli (va_runV (As := [.int x2]) (rest := []) ⟨hx, hb, hml, hown, hts⟩ (c_MO_height l bs D G o0 x2 M44 h66) (cwV 1 hts (px_gV w_838 w_816 w_817 w_12 w_818) rfl rfl rfl (by decide +kernel) ⟨Nat.le_of_ble_eq_true rfl, Nat.le_of_ble_eq_true rfl⟩) (px_preV px_nwok hK hN hO hM h110 rfl) rfl rfl hl.1 rfl (lv_room (Nat.le_of_ble_eq_true rfl)) d_MO_drawn_164 ⟨Nat.le_of_ble_eq_true rfl, Nat.le_of_ble_eq_true rfl⟩) hS (fun H locs hM hS => ?_)
              refine lv_istore (lv' := [(10, .int v67), (9, .int v63), (8, .int v59), (7, .int v55), (0, .ref o0), (1, .int x1), (2, .int x2), (4, .int x4), (5, .int v46), (6, .int v47)]) hx hb d_MO_drawn_167 hl (by decide) rfl (fun ls hl => ?_)
              refine lv_iload hx hb d_MO_drawn_169 (lv_at hl 7 rfl) ?_
              refine lv_if_ne (tgt := 199) hx hb d_MO_drawn_171 (by decide) (fun c68 => ?_) (fun c68 => ?_)
              · have hf := px_iff hf c68
                refine lv_iload hx hb d_MO_drawn_199 (lv_at hl 7 rfl) ?_
                refine lv_iconst (v := 2) hx hb d_MO_drawn_201 (by decide) ?_
                refine lv_icmp_ne (tgt := 224) hx hb d_MO_drawn_202 (by decide) (fun c69 => ?_) (fun c69 => ?_)
                · have hf := px_iff hf c69
                  refine lv_bipush (v := 16) hx hb d_MO_drawn_224 (by decide) ?_
                  refine lv_aload_n hx hb d_MO_drawn_226 rfl (lv_at hl 4 rfl) ?_
                  obtain ⟨v70, h71, hf⟩ := px_bind hf
                  refine px_rgi hx hb hts cl_MO hown hK hM 5 (by decide) (hts _ w_650) h71 d_MO_drawn_227 ?_
                  refine lv_imul hx hb d_MO_drawn_230 ?_
                  refine lv_aload_n hx hb d_MO_drawn_231 rfl (lv_at hl 4 rfl) ?_
                  refine lv_iload_n hx hb d_MO_drawn_232 rfl (lv_at hl 5 rfl) ?_
                  refine lv_iload_n hx hb d_MO_drawn_233 rfl (lv_at hl 6 rfl) ?_
                  obtain ⟨_, h100, hf⟩ := px_bind hf
                  obtain ⟨⟨v74, M72⟩, h73, hf⟩ := px_bind hf
                  dsimp only at hf
                  refine px_calli (va_runV (As := [.int x1, .int x2]) (rest := [.int (16 * v70)]) ⟨hx, hb, hml, hown, hts⟩ (c_MO_boardWidth l bs D G o0 x1 x2 M65 h73) (cwV 2 hts (px_gV w_912 w_914 ws_MO_boardWidth w_12 w_915) rfl rfl rfl (by decide +kernel) ⟨Nat.le_of_ble_eq_true rfl, Nat.le_of_ble_eq_true rfl⟩) (px_preV px_nwok hK hN hO hM h100 rfl) rfl rfl hl.1 rfl (lv_room (Nat.le_of_ble_eq_true rfl)) d_MO_drawn_234 ⟨Nat.le_of_ble_eq_true rfl, Nat.le_of_ble_eq_true rfl⟩) hS (fun H locs hM hS => ?_)
                  refine lv_bipush (v := 32) hx hb d_MO_drawn_237 (by decide) ?_
                  refine lv_aload_n hx hb d_MO_drawn_239 rfl (lv_at hl 4 rfl) ?_
                  obtain ⟨v75, h76, hf⟩ := px_bind hf
                  refine px_rgi hx hb hts cl_MO hown hK hM 5 (by decide) (hts _ w_650) h76 d_MO_drawn_240 ?_
                  refine lv_imul hx hb d_MO_drawn_243 ?_
                  refine lv_isub hx hb d_MO_drawn_244 ?_
                  refine lv_aload_n hx hb d_MO_drawn_245 rfl (lv_at hl 4 rfl) ?_
                  refine lv_iload_n hx hb d_MO_drawn_246 rfl (lv_at hl 5 rfl) ?_
                  refine lv_iload hx hb d_MO_drawn_247 (lv_at hl 3 rfl) ?_
                  refine lv_iload_n hx hb d_MO_drawn_249 rfl (lv_at hl 6 rfl) ?_
                  obtain ⟨_, h99, hf⟩ := px_bind hf
                  obtain ⟨⟨v79, M77⟩, h78, hf⟩ := px_bind hf
                  dsimp only at hf
                  refine px_calli (va_runV (As := [.int x1, .int v55, .int x2]) (rest := [.int (v74 - (32 * v75)), .int (16 * v70)]) ⟨hx, hb, hml, hown, hts⟩ (c_MO_lineWidth l bs D G o0 x1 v55 x2 M72 h78) (cwV 3 hts (px_gV w_916 w_918 ws_MO_lineWidth w_12 w_919) rfl rfl rfl (by decide +kernel) ⟨Nat.le_of_ble_eq_true rfl, Nat.le_of_ble_eq_true rfl⟩) (px_preV px_nwok hK hN hO hM h99 rfl) rfl rfl hl.1 rfl (lv_room (Nat.le_of_ble_eq_true rfl)) d_MO_drawn_250 ⟨Nat.le_of_ble_eq_true rfl, Nat.le_of_ble_eq_true rfl⟩) hS (fun H locs hM hS => ?_)
                  refine lv_isub hx hb d_MO_drawn_253 ?_
                  refine lv_iconst (v := 2) hx hb d_MO_drawn_254 (by decide) ?_
                  refine lv_idiv hx hb d_MO_drawn_255 (by decide) ?_
                  refine lv_iadd hx hb d_MO_drawn_256 ?_
                  refine lv_istore (lv' := [(11, .int ((16 * v70) + (((v74 - (32 * v75)) - v79) / 2))), (10, .int v67), (9, .int v63), (8, .int v59), (7, .int v55), (0, .ref o0), (1, .int x1), (2, .int x2), (4, .int x4), (5, .int v46), (6, .int v47)]) hx hb d_MO_drawn_257 hl (by decide) rfl (fun ls hl => ?_)
                  refine lv_iload hx hb d_MO_drawn_259 (lv_at hl 9 rfl) ?_
                  refine lv_if_ne (tgt := 294) hx hb d_MO_drawn_261 (by decide) (fun c80 => ?_) (fun c80 => ?_)
                  · have hf := px_iff hf c80
                    refine lv_iload hx hb d_MO_drawn_294 (lv_at hl 0 rfl) ?_
                    refine lv_iload hx hb d_MO_drawn_296 (lv_at hl 2 rfl) ?_
                    refine lv_iconst (v := 2) hx hb d_MO_drawn_298 (by decide) ?_
                    refine lv_icmp_ne (tgt := 306) hx hb d_MO_drawn_299 (by decide) (fun c81 => ?_) (fun c81 => ?_)
                    · have hf := px_iff hf c81
                      refine lv_bipush (v := 16) hx hb d_MO_drawn_306 (by decide) ?_
                      refine lv_iload hx hb d_MO_drawn_308 (lv_at hl 1 rfl) ?_
                      refine lv_aload_n hx hb d_MO_drawn_310 rfl (lv_at hl 5 rfl) ?_
                      obtain ⟨v82, h83, hf⟩ := px_bind hf
                      refine px_rgi hx hb hts cl_MO hown hK hM 6 (by decide) (hts _ w_651) h83 d_MO_drawn_311 ?_
                      refine lv_iadd hx hb d_MO_drawn_314 ?_
                      refine lv_imul hx hb d_MO_drawn_315 ?_
                      refine lv_iadd hx hb d_MO_drawn_316 ?_
                      refine lv_aload_n hx hb d_MO_drawn_317 rfl (lv_at hl 5 rfl) ?_
                      refine lv_iload hx hb d_MO_drawn_318 (lv_at hl 3 rfl) ?_
                      refine lv_iload hx hb d_MO_drawn_320 (lv_at hl 9 rfl) ?_
                      refine lv_iconst (v := 1) hx hb d_MO_drawn_322 (by decide) ?_
                      refine lv_isub hx hb d_MO_drawn_323 ?_
                      obtain ⟨_, h87, hf⟩ := px_bind hf
                      obtain ⟨⟨v86, M84⟩, h85, hf⟩ := px_bind hf
                      dsimp only at hf
                      refine px_calli (va_runV (As := [.int v59, .int (v46 - 1)]) (rest := [.int (((16 * v70) + (((v74 - (32 * v75)) - v79) / 2)) + (16 * (v67 + v82)))]) ⟨hx, hb, hml, hown, hts⟩ (c_MO_before l bs D G o0 v59 (v46 - 1) M77 h85) (cwV 2 hts (px_gV w_830 w_832 ws_MO_before w_12 w_833) rfl rfl rfl (by decide +kernel) ⟨Nat.le_of_ble_eq_true rfl, Nat.le_of_ble_eq_true rfl⟩) (px_preV px_nwok hK hN hO hM h87 rfl) rfl rfl hl.1 rfl (lv_room (Nat.le_of_ble_eq_true rfl)) d_MO_drawn_324 ⟨Nat.le_of_ble_eq_true rfl, Nat.le_of_ble_eq_true rfl⟩) hS (fun H locs hM hS => ?_)
                      refine lv_iload hx hb d_MO_drawn_327 (lv_at hl 1 rfl) ?_
                      refine lv_imul hx hb d_MO_drawn_329 ?_
                      refine lv_iadd hx hb d_MO_drawn_330 ?_
                      obtain ⟨rfl, rfl⟩ := px_s2 hf
                      exact px_iret hx hb hr hlocks hM hS d_MO_drawn_331
                    · have hf := px_ift hf c81
                      refine lv_iconst (v := 0) hx hb d_MO_drawn_302 (by decide) ?_
                      refine lv_goto (tgt := 316) hx hb d_MO_drawn_303 (by decide) ?_
                      refine lv_iadd hx hb d_MO_drawn_316 ?_
                      refine lv_aload_n hx hb d_MO_drawn_317 rfl (lv_at hl 5 rfl) ?_
                      refine lv_iload hx hb d_MO_drawn_318 (lv_at hl 3 rfl) ?_
                      refine lv_iload hx hb d_MO_drawn_320 (lv_at hl 9 rfl) ?_
                      refine lv_iconst (v := 1) hx hb d_MO_drawn_322 (by decide) ?_
                      refine lv_isub hx hb d_MO_drawn_323 ?_
                      obtain ⟨_, h91, hf⟩ := px_bind hf
                      obtain ⟨⟨v90, M88⟩, h89, hf⟩ := px_bind hf
                      dsimp only at hf
                      refine px_calli (va_runV (As := [.int v59, .int (v46 - 1)]) (rest := [.int (((16 * v70) + (((v74 - (32 * v75)) - v79) / 2)) + 0)]) ⟨hx, hb, hml, hown, hts⟩ (c_MO_before l bs D G o0 v59 (v46 - 1) M77 h89) (cwV 2 hts (px_gV w_830 w_832 ws_MO_before w_12 w_833) rfl rfl rfl (by decide +kernel) ⟨Nat.le_of_ble_eq_true rfl, Nat.le_of_ble_eq_true rfl⟩) (px_preV px_nwok hK hN hO hM h91 rfl) rfl rfl hl.1 rfl (lv_room (Nat.le_of_ble_eq_true rfl)) d_MO_drawn_324 ⟨Nat.le_of_ble_eq_true rfl, Nat.le_of_ble_eq_true rfl⟩) hS (fun H locs hM hS => ?_)
                      refine lv_iload hx hb d_MO_drawn_327 (lv_at hl 1 rfl) ?_
                      refine lv_imul hx hb d_MO_drawn_329 ?_
                      refine lv_iadd hx hb d_MO_drawn_330 ?_
                      obtain ⟨rfl, rfl⟩ := px_s2 hf
                      exact px_iret hx hb hr hlocks hM hS d_MO_drawn_331
                  · have hf := px_ift hf c80
                    refine lv_iload hx hb d_MO_drawn_264 (lv_at hl 2 rfl) ?_
                    refine lv_iconst (v := 2) hx hb d_MO_drawn_266 (by decide) ?_
                    refine lv_icmp_ne (tgt := 291) hx hb d_MO_drawn_267 (by decide) (fun c92 => ?_) (fun c92 => ?_)
                    · have hf := px_iff hf c92
                      refine lv_iload hx hb d_MO_drawn_291 (lv_at hl 0 rfl) ?_
                      obtain ⟨rfl, rfl⟩ := px_s2 hf
                      exact px_iret hx hb hr hlocks hM hS d_MO_drawn_293
                    · have hf := px_ift hf c92
                      refine lv_iload hx hb d_MO_drawn_270 (lv_at hl 0 rfl) ?_
                      refine lv_aload_n hx hb d_MO_drawn_272 rfl (lv_at hl 5 rfl) ?_
                      refine lv_iload hx hb d_MO_drawn_273 (lv_at hl 3 rfl) ?_
                      refine lv_iload_n hx hb d_MO_drawn_275 rfl (lv_at hl 7 rfl) ?_
                      obtain ⟨_, h98, hf⟩ := px_bind hf
                      obtain ⟨⟨v95, M93⟩, h94, hf⟩ := px_bind hf
                      dsimp only at hf
                      refine px_calli (va_runV (As := [.int v59, .int x2]) (rest := [.int ((16 * v70) + (((v74 - (32 * v75)) - v79) / 2))]) ⟨hx, hb, hml, hown, hts⟩ (c_MO_width l bs D G o0 v59 x2 M77 h94) (cwV 2 hts (px_gV w_920 w_823 w_824 w_12 w_825) rfl rfl rfl (by decide +kernel) ⟨Nat.le_of_ble_eq_true rfl, Nat.le_of_ble_eq_true rfl⟩) (px_preV px_nwok hK hN hO hM h98 rfl) rfl rfl hl.1 rfl (lv_room (Nat.le_of_ble_eq_true rfl)) d_MO_drawn_276 ⟨Nat.le_of_ble_eq_true rfl, Nat.le_of_ble_eq_true rfl⟩) hS (fun H locs hM hS => ?_)
                      refine lv_iadd hx hb d_MO_drawn_279 ?_
                      refine lv_bipush (v := 16) hx hb d_MO_drawn_280 (by decide) ?_
                      refine lv_aload_n hx hb d_MO_drawn_282 rfl (lv_at hl 5 rfl) ?_
                      obtain ⟨v96, h97, hf⟩ := px_bind hf
                      refine px_rgi hx hb hts cl_MO hown hK hM 6 (by decide) (hts _ w_651) h97 d_MO_drawn_283 ?_
                      refine lv_imul hx hb d_MO_drawn_286 ?_
                      refine lv_iadd hx hb d_MO_drawn_287 ?_
                      refine lv_goto (tgt := 293) hx hb d_MO_drawn_288 (by decide) ?_
                      obtain ⟨rfl, rfl⟩ := px_s2 hf
                      exact px_iret hx hb hr hlocks hM hS d_MO_drawn_293
                · have hf := px_ift hf c69
                  refine lv_bipush (v := 16) hx hb d_MO_drawn_205 (by decide) ?_
                  refine lv_aload_n hx hb d_MO_drawn_207 rfl (lv_at hl 4 rfl) ?_
                  obtain ⟨v101, h102, hf⟩ := px_bind hf
                  refine px_rgi hx hb hts cl_MO hown hK hM 5 (by decide) (hts _ w_650) h102 d_MO_drawn_208 ?_
                  refine lv_iload hx hb d_MO_drawn_211 (lv_at hl 9 rfl) ?_
                  refine lv_iload hx hb d_MO_drawn_213 (lv_at hl 0 rfl) ?_
                  refine lv_aload_n hx hb d_MO_drawn_215 rfl (lv_at hl 4 rfl) ?_
                  obtain ⟨v103, h104, hf⟩ := px_bind hf
                  refine px_rgi hx hb hts cl_MO hown hK hM 6 (by decide) (hts _ w_651) h104 d_MO_drawn_216 ?_
                  refine lv_iadd hx hb d_MO_drawn_219 ?_
                  refine lv_imul hx hb d_MO_drawn_220 ?_
                  refine lv_iadd hx hb d_MO_drawn_221 ?_
                  refine lv_imul hx hb d_MO_drawn_222 ?_
                  obtain ⟨rfl, rfl⟩ := px_s2 hf
                  exact px_iret hx hb hr hlocks hM hS d_MO_drawn_223
              · have hf := px_ift hf c68
                refine lv_iload hx hb d_MO_drawn_174 (lv_at hl 8 rfl) ?_
                refine lv_if_ne (tgt := 188) hx hb d_MO_drawn_176 (by decide) (fun c105 => ?_) (fun c105 => ?_)
                · have hf := px_iff hf c105
                  refine lv_aload_n hx hb d_MO_drawn_188 rfl (lv_at hl 4 rfl) ?_
                  refine lv_iload hx hb d_MO_drawn_189 (lv_at hl 2 rfl) ?_
                  refine lv_iload hx hb d_MO_drawn_191 (lv_at hl 8 rfl) ?_
                  refine lv_iconst (v := 1) hx hb d_MO_drawn_193 (by decide) ?_
                  refine lv_isub hx hb d_MO_drawn_194 ?_
                  obtain ⟨_, h109, hf⟩ := px_bind hf
                  obtain ⟨⟨v108, M106⟩, h107, hf⟩ := px_bind hf
                  dsimp only at hf
                  refine px_calli (va_runV (As := [.int v59, .int (v46 - 1)]) (rest := []) ⟨hx, hb, hml, hown, hts⟩ (c_MO_letter l bs D G o0 v59 (v46 - 1) M65 h107) (cwV 2 hts (px_gV w_834 w_836 ws_MO_letter w_12 w_837) rfl rfl rfl (by decide +kernel) ⟨Nat.le_of_ble_eq_true rfl, Nat.le_of_ble_eq_true rfl⟩) (px_preV px_nwok hK hN hO hM h109 rfl) rfl rfl hl.1 rfl (lv_room (Nat.le_of_ble_eq_true rfl)) d_MO_drawn_195 ⟨Nat.le_of_ble_eq_true rfl, Nat.le_of_ble_eq_true rfl⟩) hS (fun H locs hM hS => ?_)
                  obtain ⟨rfl, rfl⟩ := px_s2 hf
                  exact px_iret hx hb hr hlocks hM hS d_MO_drawn_198
                · have hf := px_ift hf c105
                  refine lv_sipush (v := 200) hx hb d_MO_drawn_179 (by decide) ?_
                  refine lv_iload hx hb d_MO_drawn_182 (lv_at hl 1 rfl) ?_
                  refine lv_iadd hx hb d_MO_drawn_184 ?_
                  refine lv_goto (tgt := 198) hx hb d_MO_drawn_185 (by decide) ?_
                  obtain ⟨rfl, rfl⟩ := px_s2 hf
                  exact px_iret hx hb hr hlocks hM hS d_MO_drawn_198
            · have hf := px_ift hf c52
              refine lv_iconst (v := (-1)) hx hb d_MO_drawn_125 (by decide) ?_
              obtain ⟨rfl, rfl⟩ := px_s2 hf
              exact px_iret hx hb hr hlocks hM hS d_MO_drawn_126
          · have hf := px_iff hf c11
            refine lv_iconst (v := (-1)) hx hb d_MO_drawn_30 (by decide) ?_
            obtain ⟨rfl, rfl⟩ := px_s2 hf
            exact px_iret hx hb hr hlocks hM hS d_MO_drawn_31
