def f_TX_init (o0 : Nat) (M : px_M) : Option (px_M) :=
  (some (px_push M (.inl (0, 100, .inl (fun _ => 0))))).bind fun M1 =>
  (px_pt 1 0 M1 o0 (.ref M.2)).bind fun M2 =>
  some M2
set_option maxHeartbeats 4000000 in
set_option maxRecDepth 100000 in
theorem c_TX_init (l : Launch) (bs : Nat) (D : va_G) (G : Nat → ClassId) (o0 : Nat) (M : px_M) {M' : px_M} (hf : f_TX_init o0 M = some M') : Met l y_TX_init (.code y_TX_init b_TX_init 1 none :: px_tw) ⟨1, 1, 100, 12⟩ (va_Pc [.ref o0] (px_B bs D px_cl (px_tys G) px_nw px_over M)) (px_Qv bs D px_cl (px_tys G) M') 1 100 (fun q => bs ≤ q) := by
  refine px_of (by decide) (Nat.le_of_ble_eq_true rfl) ?_
  intro p e s m below meth c ls C0 hM hS hl
  obtain ⟨hx, hb, hr, hml, hown, hnm, hlocks, hts, hK, hN, hO⟩ := C0
  have hl : lv_has ls 1 [(0, .ref o0)] := hl
  unfold f_TX_init at hf
  refine lv_aload_n hx hb d_TX_init_0 rfl (lv_at hl 0 rfl) ?_
  refine W.objInit hx hb hown (hts _ w_27) (hts _ w_20) (hts _ w_21) rfl (by rw [hml]; exact hl.1) rfl d_TX_init_1 (Nat.le_of_ble_eq_true rfl) (Nat.le_of_ble_eq_true rfl) ?_
  refine W.eq (g2 := F0 m 4 ls []) rfl ?_
  refine lv_aload_n hx hb d_TX_init_4 rfl (lv_at hl 0 rfl) ?_
  refine lv_bipush (v := 100) hx hb d_TX_init_5 (by decide) ?_
  obtain ⟨M1, eM1, hf⟩ := px_bind hf
  refine px_rnewa hx hb (hts _ w_37) 0 hK rfl hM hS (N' := 100) (by decide) (by decide) (by decide) (by decide) (by decide) d_TX_init_7 (fun H hM hS => ?_)
  rw [Option.some.inj eM1] at hM
  obtain ⟨M2, h3, hf⟩ := px_bind hf
  refine px_rptF hx hb hts cl_TX hown hK hM hS 0 (by decide) (hts _ w_28) rfl hnm rfl rfl rfl h3 d_TX_init_9 (fun H locs hM hS => ?_)
  obtain rfl := px_s1 hf
  exact px_vret hx hb hr hlocks hM hS d_TX_init_12
def f_RR_init (o0 : Nat) (o1 : Nat) (M : px_M) : Option (px_M) :=
  (px_pt 2 0 M o0 (.ref o1)).bind fun M1 =>
  some M1
set_option maxHeartbeats 4000000 in
set_option maxRecDepth 100000 in
theorem c_RR_init (l : Launch) (bs : Nat) (D : va_G) (G : Nat → ClassId) (o0 : Nat) (o1 : Nat) (M : px_M) {M' : px_M} (hf : f_RR_init o0 o1 M = some M') : Met l y_RR_init (.code y_RR_init b_RR_init 2 none :: px_tw) ⟨1, 0, 0, 12⟩ (va_Pc [.ref o0, .ref o1] (px_B bs D px_cl (px_tys G) px_nw px_over M)) (px_Qv bs D px_cl (px_tys G) M') 0 0 (fun q => bs ≤ q) := by
  refine px_of (by decide) (Nat.le_of_ble_eq_true rfl) ?_
  intro p e s m below meth c ls C0 hM hS hl
  obtain ⟨hx, hb, hr, hml, hown, hnm, hlocks, hts, hK, hN, hO⟩ := C0
  have hl : lv_has ls 2 [(0, .ref o0), (1, .ref o1)] := hl
  unfold f_RR_init at hf
  refine lv_aload_n hx hb d_RR_init_0 rfl (lv_at hl 0 rfl) ?_
  refine W.objInit hx hb hown (hts _ w_43) (hts _ w_20) (hts _ w_21) rfl (by rw [hml]; exact hl.1) rfl d_RR_init_1 (Nat.le_of_ble_eq_true rfl) (Nat.le_of_ble_eq_true rfl) ?_
  refine W.eq (g2 := F0 m 4 ls []) rfl ?_
  refine lv_aload_n hx hb d_RR_init_4 rfl (lv_at hl 0 rfl) ?_
  refine lv_aload_n hx hb d_RR_init_5 rfl (lv_at hl 1 rfl) ?_
  obtain ⟨M1, h2, hf⟩ := px_bind hf
  refine px_rptF hx hb hts cl_RR hown hK hM hS 0 (by decide) (hts _ w_44) rfl hnm rfl rfl rfl h2 d_RR_init_6 (fun H locs hM hS => ?_)
  obtain rfl := px_s1 hf
  exact px_vret hx hb hr hlocks hM hS d_RR_init_9
def f_RS_addStep (o0 : Nat) (x1 : Int32) (x2 : Int32) (M : px_M) : Option (px_M) :=
  (px_gi 3 2 M o0).bind fun v1 =>
  if 5 ≤ v1 then
  some M
  else
  (px_gr 3 0 M o0).bind fun t4 =>
  (px_gi 3 2 M o0).bind fun v6 =>
  (px_si 0 M t4 v6 x1).bind fun M8 =>
  (px_gr 3 1 M8 o0).bind fun t10 =>
  (px_gi 3 2 M8 o0).bind fun v12 =>
  (px_si 0 M8 t10 v12 x2).bind fun M14 =>
  (px_gi 3 2 M14 o0).bind fun v16 =>
  (px_pt 3 2 M14 o0 (.int (v16 + 1))).bind fun M18 =>
  some M18
set_option maxHeartbeats 4000000 in
set_option maxRecDepth 100000 in
theorem c_RS_addStep (l : Launch) (bs : Nat) (D : va_G) (G : Nat → ClassId) (o0 : Nat) (x1 : Int32) (x2 : Int32) (M : px_M) {M' : px_M} (hf : f_RS_addStep o0 x1 x2 M = some M') : Met l y_RS_addStep (.code y_RS_addStep b_RS_addStep 3 none :: px_tw) ⟨0, 0, 0, 0⟩ (va_Pc [.ref o0, .int x1, .int x2] (px_B bs D px_cl (px_tys G) px_nw px_over M)) (px_Qv bs D px_cl (px_tys G) M') 0 0 (fun q => bs ≤ q) := by
  refine px_of (by decide) (Nat.le_of_ble_eq_true rfl) ?_
  intro p e s m below meth c ls C0 hM hS hl
  obtain ⟨hx, hb, hr, hml, hown, hnm, hlocks, hts, hK, hN, hO⟩ := C0
  have hl : lv_has ls 3 [(0, .ref o0), (1, .int x1), (2, .int x2)] := hl
  unfold f_RS_addStep at hf
  refine lv_aload_n hx hb d_RS_addStep_0 rfl (lv_at hl 0 rfl) ?_
  obtain ⟨v1, h2, hf⟩ := px_bind hf
  refine px_rgi hx hb hts cl_RS hown hK hM 2 (by decide) (hts _ w_79) h2 d_RS_addStep_1 ?_
  refine lv_iconst (v := 5) hx hb d_RS_addStep_4 (by decide) ?_
  refine lv_icmp_ge (tgt := 38) hx hb d_RS_addStep_5 (by decide) (fun c3 => ?_) (fun c3 => ?_)
  · have hf := px_ift hf c3
    obtain rfl := px_s1 hf
    exact px_vret hx hb hr hlocks hM hS d_RS_addStep_38
  · have hf := px_iff hf c3
    refine lv_aload_n hx hb d_RS_addStep_8 rfl (lv_at hl 0 rfl) ?_
    obtain ⟨t4, h5, hf⟩ := px_bind hf
    refine px_rgr hx hb hts cl_RS hown hK hM 0 (by decide) (hts _ w_77) h5 d_RS_addStep_9 ?_
    refine lv_aload_n hx hb d_RS_addStep_12 rfl (lv_at hl 0 rfl) ?_
    obtain ⟨v6, h7, hf⟩ := px_bind hf
    refine px_rgi hx hb hts cl_RS hown hK hM 2 (by decide) (hts _ w_79) h7 d_RS_addStep_13 ?_
    refine lv_iload_n hx hb d_RS_addStep_16 rfl (lv_at hl 1 rfl) ?_
    obtain ⟨M8, h9, hf⟩ := px_bind hf
    refine px_rsi hx hb hK hM hS 0 rfl h9 d_RS_addStep_17 (fun H locs hM hS => ?_)
    refine lv_aload_n hx hb d_RS_addStep_18 rfl (lv_at hl 0 rfl) ?_
    obtain ⟨t10, h11, hf⟩ := px_bind hf
    refine px_rgr hx hb hts cl_RS hown hK hM 1 (by decide) (hts _ w_78) h11 d_RS_addStep_19 ?_
    refine lv_aload_n hx hb d_RS_addStep_22 rfl (lv_at hl 0 rfl) ?_
    obtain ⟨v12, h13, hf⟩ := px_bind hf
    refine px_rgi hx hb hts cl_RS hown hK hM 2 (by decide) (hts _ w_79) h13 d_RS_addStep_23 ?_
    refine lv_iload_n hx hb d_RS_addStep_26 rfl (lv_at hl 2 rfl) ?_
    obtain ⟨M14, h15, hf⟩ := px_bind hf
    refine px_rsi hx hb hK hM hS 0 rfl h15 d_RS_addStep_27 (fun H locs hM hS => ?_)
    refine lv_aload_n hx hb d_RS_addStep_28 rfl (lv_at hl 0 rfl) ?_
    refine lv_dup hx hb d_RS_addStep_29 rfl ?_
    obtain ⟨v16, h17, hf⟩ := px_bind hf
    refine px_rgi hx hb hts cl_RS hown hK hM 2 (by decide) (hts _ w_79) h17 d_RS_addStep_30 ?_
    refine lv_iconst (v := 1) hx hb d_RS_addStep_33 (by decide) ?_
    refine lv_iadd hx hb d_RS_addStep_34 ?_
    obtain ⟨M18, h19, hf⟩ := px_bind hf
    refine px_rpt hx hb hts cl_RS hown hK hM hS 2 (by decide) (hts _ w_79) rfl rfl rfl h19 d_RS_addStep_35 (fun H locs hM hS => ?_)
    obtain rfl := px_s1 hf
    exact px_vret hx hb hr hlocks hM hS d_RS_addStep_38
def f_RS_setAsAtFirst (o0 : Nat) (M : px_M) : Option (px_M) :=
  (px_pt 3 2 M o0 (.int 0)).bind fun M1 =>
  (px_ob 3 M1 o0).bind fun _ =>
  (f_RS_addStep o0 50 100 M1).bind fun M3 =>
  (px_pt 3 3 M3 o0 (.int 0)).bind fun M5 =>
  (px_pt 3 4 M5 o0 (.int 0)).bind fun M7 =>
  (px_pt 3 5 M7 o0 (.int 116)).bind fun M9 =>
  some M9
set_option maxHeartbeats 4000000 in
set_option maxRecDepth 100000 in
theorem c_RS_setAsAtFirst (l : Launch) (bs : Nat) (D : va_G) (G : Nat → ClassId) (o0 : Nat) (M : px_M) {M' : px_M} (hf : f_RS_setAsAtFirst o0 M = some M') : Met l y_RS_setAsAtFirst (.code y_RS_setAsAtFirst b_RS_setAsAtFirst 1 none :: px_tw) ⟨1, 0, 0, 22⟩ (va_Pc [.ref o0] (px_B bs D px_cl (px_tys G) px_nw px_over M)) (px_Qv bs D px_cl (px_tys G) M') 0 0 (fun q => bs ≤ q) := by
  refine px_of (by decide) (Nat.le_of_ble_eq_true rfl) ?_
  intro p e s m below meth c ls C0 hM hS hl
  obtain ⟨hx, hb, hr, hml, hown, hnm, hlocks, hts, hK, hN, hO⟩ := C0
  have hl : lv_has ls 1 [(0, .ref o0)] := hl
  unfold f_RS_setAsAtFirst at hf
  refine lv_aload_n hx hb d_RS_setAsAtFirst_0 rfl (lv_at hl 0 rfl) ?_
  refine lv_iconst (v := 0) hx hb d_RS_setAsAtFirst_1 (by decide) ?_
  obtain ⟨M1, h2, hf⟩ := px_bind hf
  refine px_rpt hx hb hts cl_RS hown hK hM hS 2 (by decide) (hts _ w_79) rfl rfl rfl h2 d_RS_setAsAtFirst_2 (fun H locs hM hS => ?_)
  refine lv_aload_n hx hb d_RS_setAsAtFirst_5 rfl (lv_at hl 0 rfl) ?_
  refine lv_bipush (v := 50) hx hb d_RS_setAsAtFirst_6 (by decide) ?_
  refine lv_bipush (v := 100) hx hb d_RS_setAsAtFirst_8 (by decide) ?_
  obtain ⟨_, h11, hf⟩ := px_bind hf
  obtain ⟨M3, h4, hf⟩ := px_bind hf
  refine px_callv (va_runV (As := [.int 50, .int 100]) (rest := []) ⟨hx, hb, hml, hown, hts⟩ (c_RS_addStep l bs D G o0 50 100 M1 h4) (cwV 2 hts (px_gV w_73 w_74 w_75 w_4 w_76) rfl rfl rfl (by decide +kernel) ⟨Nat.le_of_ble_eq_true rfl, Nat.le_of_ble_eq_true rfl⟩) (px_preV px_nwok hK hN hO hM h11 rfl) rfl rfl hl.1 rfl (lv_room (Nat.le_of_ble_eq_true rfl)) d_RS_setAsAtFirst_10 ⟨Nat.le_of_ble_eq_true rfl, Nat.le_of_ble_eq_true rfl⟩) hS (fun H locs hM hS => ?_)
  refine lv_aload_n hx hb d_RS_setAsAtFirst_13 rfl (lv_at hl 0 rfl) ?_
  refine lv_iconst (v := 0) hx hb d_RS_setAsAtFirst_14 (by decide) ?_
  obtain ⟨M5, h6, hf⟩ := px_bind hf
  refine px_rpt hx hb hts cl_RS hown hK hM hS 3 (by decide) (hts _ w_81) rfl rfl rfl h6 d_RS_setAsAtFirst_15 (fun H locs hM hS => ?_)
  refine lv_aload_n hx hb d_RS_setAsAtFirst_18 rfl (lv_at hl 0 rfl) ?_
  refine lv_iconst (v := 0) hx hb d_RS_setAsAtFirst_19 (by decide) ?_
  obtain ⟨M7, h8, hf⟩ := px_bind hf
  refine px_rpt hx hb hts cl_RS hown hK hM hS 4 (by decide) (hts _ w_84) rfl rfl rfl h8 d_RS_setAsAtFirst_20 (fun H locs hM hS => ?_)
  refine lv_aload_n hx hb d_RS_setAsAtFirst_23 rfl (lv_at hl 0 rfl) ?_
  refine lv_bipush (v := 116) hx hb d_RS_setAsAtFirst_24 (by decide) ?_
  obtain ⟨M9, h10, hf⟩ := px_bind hf
  refine px_rpt hx hb hts cl_RS hown hK hM hS 5 (by decide) (hts _ w_87) rfl rfl rfl h10 d_RS_setAsAtFirst_26 (fun H locs hM hS => ?_)
  obtain rfl := px_s1 hf
  exact px_vret hx hb hr hlocks hM hS d_RS_setAsAtFirst_29
def f_RS_init (o0 : Nat) (M : px_M) : Option (px_M) :=
  (some (px_push M (.inl (0, 5, .inl (fun _ => 0))))).bind fun M1 =>
  (px_pt 3 0 M1 o0 (.ref M.2)).bind fun M2 =>
  (some (px_push M2 (.inl (0, 5, .inl (fun _ => 0))))).bind fun M4 =>
  (px_pt 3 1 M4 o0 (.ref M2.2)).bind fun M5 =>
  (px_ob 3 M5 o0).bind fun _ =>
  (f_RS_setAsAtFirst o0 M5).bind fun M7 =>
  some M7
set_option maxHeartbeats 4000000 in
set_option maxRecDepth 100000 in
theorem c_RS_init (l : Launch) (bs : Nat) (D : va_G) (G : Nat → ClassId) (o0 : Nat) (M : px_M) {M' : px_M} (hf : f_RS_init o0 M = some M') : Met l y_RS_init (.code y_RS_init b_RS_init 1 none :: px_tw) ⟨2, 2, 10, 42⟩ (va_Pc [.ref o0] (px_B bs D px_cl (px_tys G) px_nw px_over M)) (px_Qv bs D px_cl (px_tys G) M') 2 10 (fun q => bs ≤ q) := by
  refine px_of (by decide) (Nat.le_of_ble_eq_true rfl) ?_
  intro p e s m below meth c ls C0 hM hS hl
  obtain ⟨hx, hb, hr, hml, hown, hnm, hlocks, hts, hK, hN, hO⟩ := C0
  have hl : lv_has ls 1 [(0, .ref o0)] := hl
  unfold f_RS_init at hf
  refine lv_aload_n hx hb d_RS_init_0 rfl (lv_at hl 0 rfl) ?_
  refine W.objInit hx hb hown (hts _ w_68) (hts _ w_20) (hts _ w_21) rfl (by rw [hml]; exact hl.1) rfl d_RS_init_1 (Nat.le_of_ble_eq_true rfl) (Nat.le_of_ble_eq_true rfl) ?_
  refine W.eq (g2 := F0 m 4 ls []) rfl ?_
  refine lv_aload_n hx hb d_RS_init_4 rfl (lv_at hl 0 rfl) ?_
  refine lv_iconst (v := 5) hx hb d_RS_init_5 (by decide) ?_
  obtain ⟨M1, eM1, hf⟩ := px_bind hf
  refine px_rnewa hx hb (hts _ w_37) 0 hK rfl hM hS (N' := 5) (by decide) (by decide) (by decide) (by decide) (by decide) d_RS_init_6 (fun H hM hS => ?_)
  rw [Option.some.inj eM1] at hM
  obtain ⟨M2, h3, hf⟩ := px_bind hf
  refine px_rptF hx hb hts cl_RS hown hK hM hS 0 (by decide) (hts _ w_77) rfl hnm rfl rfl rfl h3 d_RS_init_8 (fun H locs hM hS => ?_)
  refine lv_aload_n hx hb d_RS_init_11 rfl (lv_at hl 0 rfl) ?_
  refine lv_iconst (v := 5) hx hb d_RS_init_12 (by decide) ?_
  obtain ⟨M4, eM4, hf⟩ := px_bind hf
  refine px_rnewa hx hb (hts _ w_37) 0 hK rfl hM hS (N' := 5) (by decide) (by decide) (by decide) (by decide) (by decide) d_RS_init_13 (fun H hM hS => ?_)
  rw [Option.some.inj eM4] at hM
  obtain ⟨M5, h6, hf⟩ := px_bind hf
  refine px_rptF hx hb hts cl_RS hown hK hM hS 1 (by decide) (hts _ w_78) rfl hnm rfl rfl rfl h6 d_RS_init_15 (fun H locs hM hS => ?_)
  refine lv_aload_n hx hb d_RS_init_18 rfl (lv_at hl 0 rfl) ?_
  obtain ⟨_, h9, hf⟩ := px_bind hf
  obtain ⟨M7, h8, hf⟩ := px_bind hf
  refine px_callv (va_runV (As := []) (rest := []) ⟨hx, hb, hml, hown, hts⟩ (c_RS_setAsAtFirst l bs D G o0 M5 h8) (cwV 0 hts (px_gV w_69 w_70 w_71 w_4 w_72) rfl rfl rfl (by decide +kernel) ⟨Nat.le_of_ble_eq_true rfl, Nat.le_of_ble_eq_true rfl⟩) (px_preV px_nwok hK hN hO hM h9 rfl) rfl rfl hl.1 rfl (lv_room (Nat.le_of_ble_eq_true rfl)) d_RS_init_19 ⟨Nat.le_of_ble_eq_true rfl, Nat.le_of_ble_eq_true rfl⟩) hS (fun H locs hM hS => ?_)
  obtain rfl := px_s1 hf
  exact px_vret hx hb hr hlocks hM hS d_RS_init_22
def f_LE_init_L38 : Nat → Nat → Int32 → px_M → Option ((Unit) × px_M)
  | 0, _, _, _ => none
  | n + 1, o0, x1, M =>
    (px_gr 4 0 M o0).bind fun t13 =>
    (px_al 0 M t13).bind fun v15 =>
    if v15 ≤ x1 then
    some ((), M)
    else
    (px_gr 4 0 M o0).bind fun t18 =>
    (px_si 0 M t18 x1 8).bind fun M20 =>
    f_LE_init_L38 n o0 (x1 + 1) M20
set_option maxHeartbeats 4000000 in
set_option maxRecDepth 100000 in
theorem lp_LE_init_L38 {p : Program} {l : Launch} {e : Env} {s : State} {m : MethodId} {args : Array Value} {below : List Frame} {meth : Method} {c : Code} {bs : Nat} {D : va_G} {G : Nat → ClassId} {Q : State → Prop} {cells slots : Nat} (C0 : px_At p s m meth c y_LE_init b_LE_init 2 none args D px_cl (px_tys G) px_nw px_over) (x : Unit) (M' : px_M) (o0 : Nat) (kx : ∀ (H : Heap) (locs : List Loc) (ls : Array Slot), px_W bs D px_cl (px_tys G) M' H → va_S (fun q => bs ≤ q) s.heap H locs → lv_has ls 2 [] → W p l e ⟨1, 4, 275, 12⟩ s m args below meth c H locs cells slots Q (F0 m 61 ls []))  : ∀ (n : Nat) (x1 : Int32) (M : px_M), f_LE_init_L38 n o0 x1 M = some (x, M') → ∀ (H : Heap) (locs : List Loc) (ls : Array Slot), px_W bs D px_cl (px_tys G) M H → va_S (fun q => bs ≤ q) s.heap H locs → lv_has ls 2 [(0, .ref o0), (1, .int x1)] → W p l e ⟨1, 4, 275, 12⟩ s m args below meth c H locs cells slots Q (F0 m 38 ls []) := by
  obtain ⟨hx, hb, hr, hml, hown, hnm, hlocks, hts, hK, hN, hO⟩ := C0
  intro n
  induction n with
  | zero => intro x1 M hf; cases hf
  | succ n ih =>
    intro x1 M hf H locs ls hM hS hl
    unfold f_LE_init_L38 at hf
    refine lv_iload_n hx hb d_LE_init_38 rfl (lv_at hl 1 rfl) ?_
    refine lv_aload_n hx hb d_LE_init_39 rfl (lv_at hl 0 rfl) ?_
    obtain ⟨t13, h14, hf⟩ := px_bind hf
    refine px_rgr hx hb hts cl_LE hown hK hM 0 (by decide) (hts _ w_109) h14 d_LE_init_40 ?_
    obtain ⟨v15, h16, hf⟩ := px_bind hf
    refine px_ral hx hb hK hM 0 rfl h16 d_LE_init_43 ?_
    refine lv_icmp_ge (tgt := 61) hx hb d_LE_init_44 (by decide) (fun c17 => ?_) (fun c17 => ?_)
    · have hf := px_ift hf c17
      obtain ⟨rfl, rfl⟩ := px_s2 hf
      exact kx _ _ _ hM hS (lv_sub hl [] rfl)
    · have hf := px_iff hf c17
      refine lv_aload_n hx hb d_LE_init_47 rfl (lv_at hl 0 rfl) ?_
      obtain ⟨t18, h19, hf⟩ := px_bind hf
      refine px_rgr hx hb hts cl_LE hown hK hM 0 (by decide) (hts _ w_109) h19 d_LE_init_48 ?_
      refine lv_iload_n hx hb d_LE_init_51 rfl (lv_at hl 1 rfl) ?_
      refine lv_bipush (v := 8) hx hb d_LE_init_52 (by decide) ?_
      obtain ⟨M20, h21, hf⟩ := px_bind hf
      refine px_rsi hx hb hK hM hS 0 rfl h21 d_LE_init_54 (fun H locs hM hS => ?_)
      refine lv_iinc (v := x1 + 1) (lv' := [(1, .int (x1 + 1)), (0, .ref o0)]) hx hb d_LE_init_55 hl (k := 1) rfl (by rfl) (by decide) rfl (fun ls hl => ?_)
      refine lv_goto (tgt := 38) hx hb d_LE_init_58 (by decide) ?_
      exact ih (x1 + 1) M20 hf _ _ _ hM hS (lv_sub hl [1, 0] rfl)
def f_LE_init (o0 : Nat) (M : px_M) : Option (px_M) :=
  (some (px_push M (.inl (0, 95, .inl (fun _ => 0))))).bind fun M1 =>
  (px_pt 4 0 M1 o0 (.ref M.2)).bind fun M2 =>
  (some (px_push M2 (.inl (0, 60, .inl (fun _ => 0))))).bind fun M4 =>
  (px_pt 4 1 M4 o0 (.ref M2.2)).bind fun M5 =>
  (some (px_push M5 (.inl (0, 60, .inl (fun _ => 0))))).bind fun M7 =>
  (px_pt 4 2 M7 o0 (.ref M5.2)).bind fun M8 =>
  (some (px_push M8 (.inl (0, 60, .inl (fun _ => 0))))).bind fun M10 =>
  (px_pt 4 3 M10 o0 (.ref M8.2)).bind fun M11 =>
  (f_LE_init_L38 px_fuel o0 0 M11).bind fun (_, M22) =>
  some M22
set_option maxHeartbeats 4000000 in
set_option maxRecDepth 100000 in
theorem c_LE_init (l : Launch) (bs : Nat) (D : va_G) (G : Nat → ClassId) (o0 : Nat) (M : px_M) {M' : px_M} (hf : f_LE_init o0 M = some M') : Met l y_LE_init (.code y_LE_init b_LE_init 2 none :: px_tw) ⟨1, 4, 275, 12⟩ (va_Pc [.ref o0] (px_B bs D px_cl (px_tys G) px_nw px_over M)) (px_Qv bs D px_cl (px_tys G) M') 4 275 (fun q => bs ≤ q) := by
  refine px_of (by decide) (Nat.le_of_ble_eq_true rfl) ?_
  intro p e s m below meth c ls C0 hM hS hl
  obtain ⟨hx, hb, hr, hml, hown, hnm, hlocks, hts, hK, hN, hO⟩ := C0
  have hl : lv_has ls 2 [(0, .ref o0)] := hl
  unfold f_LE_init at hf
  refine lv_aload_n hx hb d_LE_init_0 rfl (lv_at hl 0 rfl) ?_
  refine W.objInit hx hb hown (hts _ w_108) (hts _ w_20) (hts _ w_21) rfl (by rw [hml]; exact hl.1) rfl d_LE_init_1 (Nat.le_of_ble_eq_true rfl) (Nat.le_of_ble_eq_true rfl) ?_
  refine W.eq (g2 := F0 m 4 ls []) rfl ?_
  refine lv_aload_n hx hb d_LE_init_4 rfl (lv_at hl 0 rfl) ?_
  refine lv_bipush (v := 95) hx hb d_LE_init_5 (by decide) ?_
  obtain ⟨M1, eM1, hf⟩ := px_bind hf
  refine px_rnewa hx hb (hts _ w_37) 0 hK rfl hM hS (N' := 95) (by decide) (by decide) (by decide) (by decide) (by decide) d_LE_init_7 (fun H hM hS => ?_)
  rw [Option.some.inj eM1] at hM
  obtain ⟨M2, h3, hf⟩ := px_bind hf
  refine px_rptF hx hb hts cl_LE hown hK hM hS 0 (by decide) (hts _ w_109) rfl hnm rfl rfl rfl h3 d_LE_init_9 (fun H locs hM hS => ?_)
  refine lv_aload_n hx hb d_LE_init_12 rfl (lv_at hl 0 rfl) ?_
  refine lv_bipush (v := 60) hx hb d_LE_init_13 (by decide) ?_
  obtain ⟨M4, eM4, hf⟩ := px_bind hf
  refine px_rnewa hx hb (hts _ w_37) 0 hK rfl hM hS (N' := 60) (by decide) (by decide) (by decide) (by decide) (by decide) d_LE_init_15 (fun H hM hS => ?_)
  rw [Option.some.inj eM4] at hM
  obtain ⟨M5, h6, hf⟩ := px_bind hf
  refine px_rptF hx hb hts cl_LE hown hK hM hS 1 (by decide) (hts _ w_110) rfl hnm rfl rfl rfl h6 d_LE_init_17 (fun H locs hM hS => ?_)
  refine lv_aload_n hx hb d_LE_init_20 rfl (lv_at hl 0 rfl) ?_
  refine lv_bipush (v := 60) hx hb d_LE_init_21 (by decide) ?_
  obtain ⟨M7, eM7, hf⟩ := px_bind hf
  refine px_rnewa hx hb (hts _ w_37) 0 hK rfl hM hS (N' := 60) (by decide) (by decide) (by decide) (by decide) (by decide) d_LE_init_23 (fun H hM hS => ?_)
  rw [Option.some.inj eM7] at hM
  obtain ⟨M8, h9, hf⟩ := px_bind hf
  refine px_rptF hx hb hts cl_LE hown hK hM hS 2 (by decide) (hts _ w_111) rfl hnm rfl rfl rfl h9 d_LE_init_25 (fun H locs hM hS => ?_)
  refine lv_aload_n hx hb d_LE_init_28 rfl (lv_at hl 0 rfl) ?_
  refine lv_bipush (v := 60) hx hb d_LE_init_29 (by decide) ?_
  obtain ⟨M10, eM10, hf⟩ := px_bind hf
  refine px_rnewa hx hb (hts _ w_37) 0 hK rfl hM hS (N' := 60) (by decide) (by decide) (by decide) (by decide) (by decide) d_LE_init_31 (fun H hM hS => ?_)
  rw [Option.some.inj eM10] at hM
  obtain ⟨M11, h12, hf⟩ := px_bind hf
  refine px_rptF hx hb hts cl_LE hown hK hM hS 3 (by decide) (hts _ w_112) rfl hnm rfl rfl rfl h12 d_LE_init_33 (fun H locs hM hS => ?_)
  refine lv_iconst (v := 0) hx hb d_LE_init_36 (by decide) ?_
  refine lv_istore_n (lv' := [(1, .int 0), (0, .ref o0)]) hx hb d_LE_init_37 rfl hl (by decide) rfl (fun ls hl => ?_)
  obtain ⟨⟨_, M22⟩, h23, hf⟩ := px_bind hf
  dsimp only at hf
  refine lp_LE_init_L38 ⟨hx, hb, hr, hml, hown, hnm, hlocks, hts, hK, hN, hO⟩ _ M22 o0 (fun H locs ls hM hS hl => ?_) px_fuel 0 M11 h23 _ _ _ hM hS (lv_sub hl [1, 0] rfl)
  try dsimp only at hl
  obtain rfl := px_s1 hf
  exact px_vret hx hb hr hlocks hM hS d_LE_init_61
def f_RO_init (o0 : Nat) (M : px_M) : Option (px_M) :=
  (some (px_push M (.inl (0, 24, .inl (fun _ => 0))))).bind fun M1 =>
  (px_pt 5 0 M1 o0 (.ref M.2)).bind fun M2 =>
  (some (px_push M2 (.inl (0, 24, .inl (fun _ => 0))))).bind fun M4 =>
  (px_pt 5 1 M4 o0 (.ref M2.2)).bind fun M5 =>
  (some (px_push M5 (.inl (0, 24, .inl (fun _ => 0))))).bind fun M7 =>
  (px_pt 5 2 M7 o0 (.ref M5.2)).bind fun M8 =>
  (some (px_push M8 (.inl (0, 24, .inl (fun _ => 0))))).bind fun M10 =>
  (px_pt 5 3 M10 o0 (.ref M8.2)).bind fun M11 =>
  (some (px_push M11 (.inl (0, 10, .inl (fun _ => 0))))).bind fun M13 =>
  (px_pt 5 4 M13 o0 (.ref M11.2)).bind fun M14 =>
  some M14
set_option maxHeartbeats 4000000 in
set_option maxRecDepth 100000 in
theorem c_RO_init (l : Launch) (bs : Nat) (D : va_G) (G : Nat → ClassId) (o0 : Nat) (M : px_M) {M' : px_M} (hf : f_RO_init o0 M = some M') : Met l y_RO_init (.code y_RO_init b_RO_init 1 none :: px_tw) ⟨1, 5, 106, 12⟩ (va_Pc [.ref o0] (px_B bs D px_cl (px_tys G) px_nw px_over M)) (px_Qv bs D px_cl (px_tys G) M') 5 106 (fun q => bs ≤ q) := by
  refine px_of (by decide) (Nat.le_of_ble_eq_true rfl) ?_
  intro p e s m below meth c ls C0 hM hS hl
  obtain ⟨hx, hb, hr, hml, hown, hnm, hlocks, hts, hK, hN, hO⟩ := C0
  have hl : lv_has ls 1 [(0, .ref o0)] := hl
  unfold f_RO_init at hf
  refine lv_aload_n hx hb d_RO_init_0 rfl (lv_at hl 0 rfl) ?_
  refine W.objInit hx hb hown (hts _ w_133) (hts _ w_20) (hts _ w_21) rfl (by rw [hml]; exact hl.1) rfl d_RO_init_1 (Nat.le_of_ble_eq_true rfl) (Nat.le_of_ble_eq_true rfl) ?_
  refine W.eq (g2 := F0 m 4 ls []) rfl ?_
  refine lv_aload_n hx hb d_RO_init_4 rfl (lv_at hl 0 rfl) ?_
  refine lv_bipush (v := 24) hx hb d_RO_init_5 (by decide) ?_
  obtain ⟨M1, eM1, hf⟩ := px_bind hf
  refine px_rnewa hx hb (hts _ w_37) 0 hK rfl hM hS (N' := 24) (by decide) (by decide) (by decide) (by decide) (by decide) d_RO_init_7 (fun H hM hS => ?_)
  rw [Option.some.inj eM1] at hM
  obtain ⟨M2, h3, hf⟩ := px_bind hf
  refine px_rptF hx hb hts cl_RO hown hK hM hS 0 (by decide) (hts _ w_134) rfl hnm rfl rfl rfl h3 d_RO_init_9 (fun H locs hM hS => ?_)
  refine lv_aload_n hx hb d_RO_init_12 rfl (lv_at hl 0 rfl) ?_
  refine lv_bipush (v := 24) hx hb d_RO_init_13 (by decide) ?_
  obtain ⟨M4, eM4, hf⟩ := px_bind hf
  refine px_rnewa hx hb (hts _ w_37) 0 hK rfl hM hS (N' := 24) (by decide) (by decide) (by decide) (by decide) (by decide) d_RO_init_15 (fun H hM hS => ?_)
  rw [Option.some.inj eM4] at hM
  obtain ⟨M5, h6, hf⟩ := px_bind hf
  refine px_rptF hx hb hts cl_RO hown hK hM hS 1 (by decide) (hts _ w_135) rfl hnm rfl rfl rfl h6 d_RO_init_17 (fun H locs hM hS => ?_)
  refine lv_aload_n hx hb d_RO_init_20 rfl (lv_at hl 0 rfl) ?_
  refine lv_bipush (v := 24) hx hb d_RO_init_21 (by decide) ?_
  obtain ⟨M7, eM7, hf⟩ := px_bind hf
  refine px_rnewa hx hb (hts _ w_37) 0 hK rfl hM hS (N' := 24) (by decide) (by decide) (by decide) (by decide) (by decide) d_RO_init_23 (fun H hM hS => ?_)
  rw [Option.some.inj eM7] at hM
  obtain ⟨M8, h9, hf⟩ := px_bind hf
  refine px_rptF hx hb hts cl_RO hown hK hM hS 2 (by decide) (hts _ w_138) rfl hnm rfl rfl rfl h9 d_RO_init_25 (fun H locs hM hS => ?_)
  refine lv_aload_n hx hb d_RO_init_28 rfl (lv_at hl 0 rfl) ?_
  refine lv_bipush (v := 24) hx hb d_RO_init_29 (by decide) ?_
  obtain ⟨M10, eM10, hf⟩ := px_bind hf
  refine px_rnewa hx hb (hts _ w_37) 0 hK rfl hM hS (N' := 24) (by decide) (by decide) (by decide) (by decide) (by decide) d_RO_init_31 (fun H hM hS => ?_)
  rw [Option.some.inj eM10] at hM
  obtain ⟨M11, h12, hf⟩ := px_bind hf
  refine px_rptF hx hb hts cl_RO hown hK hM hS 3 (by decide) (hts _ w_139) rfl hnm rfl rfl rfl h12 d_RO_init_33 (fun H locs hM hS => ?_)
  refine lv_aload_n hx hb d_RO_init_36 rfl (lv_at hl 0 rfl) ?_
  refine lv_bipush (v := 10) hx hb d_RO_init_37 (by decide) ?_
  obtain ⟨M13, eM13, hf⟩ := px_bind hf
  refine px_rnewa hx hb (hts _ w_37) 0 hK rfl hM hS (N' := 10) (by decide) (by decide) (by decide) (by decide) (by decide) d_RO_init_39 (fun H hM hS => ?_)
  rw [Option.some.inj eM13] at hM
  obtain ⟨M14, h15, hf⟩ := px_bind hf
  refine px_rptF hx hb hts cl_RO hown hK hM hS 4 (by decide) (hts _ w_140) rfl hnm rfl rfl rfl h15 d_RO_init_41 (fun H locs hM hS => ?_)
  obtain rfl := px_s1 hf
  exact px_vret hx hb hr hlocks hM hS d_RO_init_44
def f_LO_init (o0 : Nat) (o1 : Nat) (o2 : Nat) (M : px_M) : Option (px_M) :=
  (some (px_push M (.inl (0, 5, .inl (fun _ => 0))))).bind fun M1 =>
  (px_pt 6 2 M1 o0 (.ref M.2)).bind fun M2 =>
  (some (px_push M2 (.inl (0, 5, .inl (fun _ => 0))))).bind fun M4 =>
  (px_pt 6 3 M4 o0 (.ref M2.2)).bind fun M5 =>
  (px_pt 6 0 M5 o0 (.ref o1)).bind fun M7 =>
  (px_pt 6 1 M7 o0 (.ref o2)).bind fun M9 =>
  some M9
set_option maxHeartbeats 4000000 in
set_option maxRecDepth 100000 in
theorem c_LO_init (l : Launch) (bs : Nat) (D : va_G) (G : Nat → ClassId) (o0 : Nat) (o1 : Nat) (o2 : Nat) (M : px_M) {M' : px_M} (hf : f_LO_init o0 o1 o2 M = some M') : Met l y_LO_init (.code y_LO_init b_LO_init 3 none :: px_tw) ⟨1, 2, 10, 12⟩ (va_Pc [.ref o0, .ref o1, .ref o2] (px_B bs D px_cl (px_tys G) px_nw px_over M)) (px_Qv bs D px_cl (px_tys G) M') 2 10 (fun q => bs ≤ q) := by
  refine px_of (by decide) (Nat.le_of_ble_eq_true rfl) ?_
  intro p e s m below meth c ls C0 hM hS hl
  obtain ⟨hx, hb, hr, hml, hown, hnm, hlocks, hts, hK, hN, hO⟩ := C0
  have hl : lv_has ls 3 [(0, .ref o0), (1, .ref o1), (2, .ref o2)] := hl
  unfold f_LO_init at hf
  refine lv_aload_n hx hb d_LO_init_0 rfl (lv_at hl 0 rfl) ?_
  refine W.objInit hx hb hown (hts _ w_165) (hts _ w_20) (hts _ w_21) rfl (by rw [hml]; exact hl.1) rfl d_LO_init_1 (Nat.le_of_ble_eq_true rfl) (Nat.le_of_ble_eq_true rfl) ?_
  refine W.eq (g2 := F0 m 4 ls []) rfl ?_
  refine lv_aload_n hx hb d_LO_init_4 rfl (lv_at hl 0 rfl) ?_
  refine lv_iconst (v := 5) hx hb d_LO_init_5 (by decide) ?_
  obtain ⟨M1, eM1, hf⟩ := px_bind hf
  refine px_rnewa hx hb (hts _ w_37) 0 hK rfl hM hS (N' := 5) (by decide) (by decide) (by decide) (by decide) (by decide) d_LO_init_6 (fun H hM hS => ?_)
  rw [Option.some.inj eM1] at hM
  obtain ⟨M2, h3, hf⟩ := px_bind hf
  refine px_rptF hx hb hts cl_LO hown hK hM hS 2 (by decide) (hts _ w_168) rfl hnm rfl rfl rfl h3 d_LO_init_8 (fun H locs hM hS => ?_)
  refine lv_aload_n hx hb d_LO_init_11 rfl (lv_at hl 0 rfl) ?_
  refine lv_iconst (v := 5) hx hb d_LO_init_12 (by decide) ?_
  obtain ⟨M4, eM4, hf⟩ := px_bind hf
  refine px_rnewa hx hb (hts _ w_37) 0 hK rfl hM hS (N' := 5) (by decide) (by decide) (by decide) (by decide) (by decide) d_LO_init_13 (fun H hM hS => ?_)
  rw [Option.some.inj eM4] at hM
  obtain ⟨M5, h6, hf⟩ := px_bind hf
  refine px_rptF hx hb hts cl_LO hown hK hM hS 3 (by decide) (hts _ w_169) rfl hnm rfl rfl rfl h6 d_LO_init_15 (fun H locs hM hS => ?_)
  refine lv_aload_n hx hb d_LO_init_18 rfl (lv_at hl 0 rfl) ?_
  refine lv_aload_n hx hb d_LO_init_19 rfl (lv_at hl 1 rfl) ?_
  obtain ⟨M7, h8, hf⟩ := px_bind hf
  refine px_rptF hx hb hts cl_LO hown hK hM hS 0 (by decide) (hts _ w_166) rfl hnm rfl rfl rfl h8 d_LO_init_20 (fun H locs hM hS => ?_)
  refine lv_aload_n hx hb d_LO_init_23 rfl (lv_at hl 0 rfl) ?_
  refine lv_aload_n hx hb d_LO_init_24 rfl (lv_at hl 2 rfl) ?_
  obtain ⟨M9, h10, hf⟩ := px_bind hf
  refine px_rptF hx hb hts cl_LO hown hK hM hS 1 (by decide) (hts _ w_167) rfl hnm rfl rfl rfl h10 d_LO_init_25 (fun H locs hM hS => ?_)
  obtain rfl := px_s1 hf
  exact px_vret hx hb hr hlocks hM hS d_LO_init_28
def f_SH_init (o0 : Nat) (o1 : Nat) (o2 : Nat) (M : px_M) : Option (px_M) :=
  (some (px_push M (.inl (0, 5, .inl (fun _ => 0))))).bind fun M1 =>
  (px_pt 7 2 M1 o0 (.ref M.2)).bind fun M2 =>
  (px_pt 7 0 M2 o0 (.ref o1)).bind fun M4 =>
  (px_pt 7 1 M4 o0 (.ref o2)).bind fun M6 =>
  some M6
set_option maxHeartbeats 4000000 in
set_option maxRecDepth 100000 in
theorem c_SH_init (l : Launch) (bs : Nat) (D : va_G) (G : Nat → ClassId) (o0 : Nat) (o1 : Nat) (o2 : Nat) (M : px_M) {M' : px_M} (hf : f_SH_init o0 o1 o2 M = some M') : Met l y_SH_init (.code y_SH_init b_SH_init 3 none :: px_tw) ⟨1, 1, 5, 12⟩ (va_Pc [.ref o0, .ref o1, .ref o2] (px_B bs D px_cl (px_tys G) px_nw px_over M)) (px_Qv bs D px_cl (px_tys G) M') 1 5 (fun q => bs ≤ q) := by
  refine px_of (by decide) (Nat.le_of_ble_eq_true rfl) ?_
  intro p e s m below meth c ls C0 hM hS hl
  obtain ⟨hx, hb, hr, hml, hown, hnm, hlocks, hts, hK, hN, hO⟩ := C0
  have hl : lv_has ls 3 [(0, .ref o0), (1, .ref o1), (2, .ref o2)] := hl
  unfold f_SH_init at hf
  refine lv_aload_n hx hb d_SH_init_0 rfl (lv_at hl 0 rfl) ?_
  refine W.objInit hx hb hown (hts _ w_184) (hts _ w_20) (hts _ w_21) rfl (by rw [hml]; exact hl.1) rfl d_SH_init_1 (Nat.le_of_ble_eq_true rfl) (Nat.le_of_ble_eq_true rfl) ?_
  refine W.eq (g2 := F0 m 4 ls []) rfl ?_
  refine lv_aload_n hx hb d_SH_init_4 rfl (lv_at hl 0 rfl) ?_
  refine lv_iconst (v := 5) hx hb d_SH_init_5 (by decide) ?_
  obtain ⟨M1, eM1, hf⟩ := px_bind hf
  refine px_rnewa hx hb (hts _ w_37) 0 hK rfl hM hS (N' := 5) (by decide) (by decide) (by decide) (by decide) (by decide) d_SH_init_6 (fun H hM hS => ?_)
  rw [Option.some.inj eM1] at hM
  obtain ⟨M2, h3, hf⟩ := px_bind hf
  refine px_rptF hx hb hts cl_SH hown hK hM hS 2 (by decide) (hts _ w_187) rfl hnm rfl rfl rfl h3 d_SH_init_8 (fun H locs hM hS => ?_)
  refine lv_aload_n hx hb d_SH_init_11 rfl (lv_at hl 0 rfl) ?_
  refine lv_aload_n hx hb d_SH_init_12 rfl (lv_at hl 1 rfl) ?_
  obtain ⟨M4, h5, hf⟩ := px_bind hf
  refine px_rptF hx hb hts cl_SH hown hK hM hS 0 (by decide) (hts _ w_185) rfl hnm rfl rfl rfl h5 d_SH_init_13 (fun H locs hM hS => ?_)
  refine lv_aload_n hx hb d_SH_init_16 rfl (lv_at hl 0 rfl) ?_
  refine lv_aload_n hx hb d_SH_init_17 rfl (lv_at hl 2 rfl) ?_
  obtain ⟨M6, h7, hf⟩ := px_bind hf
  refine px_rptF hx hb hts cl_SH hown hK hM hS 1 (by decide) (hts _ w_186) rfl hnm rfl rfl rfl h7 d_SH_init_18 (fun H locs hM hS => ?_)
  obtain rfl := px_s1 hf
  exact px_vret hx hb hr hlocks hM hS d_SH_init_21
def f_BL_init (o0 : Nat) (o1 : Nat) (o2 : Nat) (M : px_M) : Option (px_M) :=
  (some (px_push M (.inl (0, 40, .inl (fun _ => 0))))).bind fun M1 =>
  (px_pt 8 2 M1 o0 (.ref M.2)).bind fun M2 =>
  (some (px_push M2 (.inl (0, 40, .inl (fun _ => 0))))).bind fun M4 =>
  (px_pt 8 3 M4 o0 (.ref M2.2)).bind fun M5 =>
  (some (px_push M5 (.inl (0, 40, .inl (fun _ => 0))))).bind fun M7 =>
  (px_pt 8 4 M7 o0 (.ref M5.2)).bind fun M8 =>
  (px_pt 8 0 M8 o0 (.ref o1)).bind fun M10 =>
  (px_pt 8 1 M10 o0 (.ref o2)).bind fun M12 =>
  some M12
set_option maxHeartbeats 4000000 in
set_option maxRecDepth 100000 in
theorem c_BL_init (l : Launch) (bs : Nat) (D : va_G) (G : Nat → ClassId) (o0 : Nat) (o1 : Nat) (o2 : Nat) (M : px_M) {M' : px_M} (hf : f_BL_init o0 o1 o2 M = some M') : Met l y_BL_init (.code y_BL_init b_BL_init 3 none :: px_tw) ⟨1, 3, 120, 12⟩ (va_Pc [.ref o0, .ref o1, .ref o2] (px_B bs D px_cl (px_tys G) px_nw px_over M)) (px_Qv bs D px_cl (px_tys G) M') 3 120 (fun q => bs ≤ q) := by
  refine px_of (by decide) (Nat.le_of_ble_eq_true rfl) ?_
  intro p e s m below meth c ls C0 hM hS hl
  obtain ⟨hx, hb, hr, hml, hown, hnm, hlocks, hts, hK, hN, hO⟩ := C0
  have hl : lv_has ls 3 [(0, .ref o0), (1, .ref o1), (2, .ref o2)] := hl
  unfold f_BL_init at hf
  refine lv_aload_n hx hb d_BL_init_0 rfl (lv_at hl 0 rfl) ?_
  refine W.objInit hx hb hown (hts _ w_219) (hts _ w_20) (hts _ w_21) rfl (by rw [hml]; exact hl.1) rfl d_BL_init_1 (Nat.le_of_ble_eq_true rfl) (Nat.le_of_ble_eq_true rfl) ?_
  refine W.eq (g2 := F0 m 4 ls []) rfl ?_
  refine lv_aload_n hx hb d_BL_init_4 rfl (lv_at hl 0 rfl) ?_
  refine lv_bipush (v := 40) hx hb d_BL_init_5 (by decide) ?_
  obtain ⟨M1, eM1, hf⟩ := px_bind hf
  refine px_rnewa hx hb (hts _ w_37) 0 hK rfl hM hS (N' := 40) (by decide) (by decide) (by decide) (by decide) (by decide) d_BL_init_7 (fun H hM hS => ?_)
  rw [Option.some.inj eM1] at hM
  obtain ⟨M2, h3, hf⟩ := px_bind hf
  refine px_rptF hx hb hts cl_BL hown hK hM hS 2 (by decide) (hts _ w_222) rfl hnm rfl rfl rfl h3 d_BL_init_9 (fun H locs hM hS => ?_)
  refine lv_aload_n hx hb d_BL_init_12 rfl (lv_at hl 0 rfl) ?_
  refine lv_bipush (v := 40) hx hb d_BL_init_13 (by decide) ?_
  obtain ⟨M4, eM4, hf⟩ := px_bind hf
  refine px_rnewa hx hb (hts _ w_37) 0 hK rfl hM hS (N' := 40) (by decide) (by decide) (by decide) (by decide) (by decide) d_BL_init_15 (fun H hM hS => ?_)
  rw [Option.some.inj eM4] at hM
  obtain ⟨M5, h6, hf⟩ := px_bind hf
  refine px_rptF hx hb hts cl_BL hown hK hM hS 3 (by decide) (hts _ w_223) rfl hnm rfl rfl rfl h6 d_BL_init_17 (fun H locs hM hS => ?_)
  refine lv_aload_n hx hb d_BL_init_20 rfl (lv_at hl 0 rfl) ?_
  refine lv_bipush (v := 40) hx hb d_BL_init_21 (by decide) ?_
  obtain ⟨M7, eM7, hf⟩ := px_bind hf
  refine px_rnewa hx hb (hts _ w_37) 0 hK rfl hM hS (N' := 40) (by decide) (by decide) (by decide) (by decide) (by decide) d_BL_init_23 (fun H hM hS => ?_)
  rw [Option.some.inj eM7] at hM
  obtain ⟨M8, h9, hf⟩ := px_bind hf
  refine px_rptF hx hb hts cl_BL hown hK hM hS 4 (by decide) (hts _ w_224) rfl hnm rfl rfl rfl h9 d_BL_init_25 (fun H locs hM hS => ?_)
  refine lv_aload_n hx hb d_BL_init_28 rfl (lv_at hl 0 rfl) ?_
  refine lv_aload_n hx hb d_BL_init_29 rfl (lv_at hl 1 rfl) ?_
  obtain ⟨M10, h11, hf⟩ := px_bind hf
  refine px_rptF hx hb hts cl_BL hown hK hM hS 0 (by decide) (hts _ w_220) rfl hnm rfl rfl rfl h11 d_BL_init_30 (fun H locs hM hS => ?_)
  refine lv_aload_n hx hb d_BL_init_33 rfl (lv_at hl 0 rfl) ?_
  refine lv_aload_n hx hb d_BL_init_34 rfl (lv_at hl 2 rfl) ?_
  obtain ⟨M12, h13, hf⟩ := px_bind hf
  refine px_rptF hx hb hts cl_BL hown hK hM hS 1 (by decide) (hts _ w_221) rfl hnm rfl rfl rfl h13 d_BL_init_35 (fun H locs hM hS => ?_)
  obtain rfl := px_s1 hf
  exact px_vret hx hb hr hlocks hM hS d_BL_init_38
def f_NA_init (o0 : Nat) (M : px_M) : Option (px_M) :=
  (some (px_push M (.inl (0, 12, .inl (fun _ => 0))))).bind fun M1 =>
  (px_pt 9 0 M1 o0 (.ref M.2)).bind fun M2 =>
  (px_pt 9 2 M2 o0 (.int ((-1)))).bind fun M4 =>
  some M4
set_option maxHeartbeats 4000000 in
set_option maxRecDepth 100000 in
theorem c_NA_init (l : Launch) (bs : Nat) (D : va_G) (G : Nat → ClassId) (o0 : Nat) (M : px_M) {M' : px_M} (hf : f_NA_init o0 M = some M') : Met l y_NA_init (.code y_NA_init b_NA_init 1 none :: px_tw) ⟨1, 1, 12, 12⟩ (va_Pc [.ref o0] (px_B bs D px_cl (px_tys G) px_nw px_over M)) (px_Qv bs D px_cl (px_tys G) M') 1 12 (fun q => bs ≤ q) := by
  refine px_of (by decide) (Nat.le_of_ble_eq_true rfl) ?_
  intro p e s m below meth c ls C0 hM hS hl
  obtain ⟨hx, hb, hr, hml, hown, hnm, hlocks, hts, hK, hN, hO⟩ := C0
  have hl : lv_has ls 1 [(0, .ref o0)] := hl
  unfold f_NA_init at hf
  refine lv_aload_n hx hb d_NA_init_0 rfl (lv_at hl 0 rfl) ?_
  refine W.objInit hx hb hown (hts _ w_244) (hts _ w_20) (hts _ w_21) rfl (by rw [hml]; exact hl.1) rfl d_NA_init_1 (Nat.le_of_ble_eq_true rfl) (Nat.le_of_ble_eq_true rfl) ?_
  refine W.eq (g2 := F0 m 4 ls []) rfl ?_
  refine lv_aload_n hx hb d_NA_init_4 rfl (lv_at hl 0 rfl) ?_
  refine lv_bipush (v := 12) hx hb d_NA_init_5 (by decide) ?_
  obtain ⟨M1, eM1, hf⟩ := px_bind hf
  refine px_rnewa hx hb (hts _ w_37) 0 hK rfl hM hS (N' := 12) (by decide) (by decide) (by decide) (by decide) (by decide) d_NA_init_7 (fun H hM hS => ?_)
  rw [Option.some.inj eM1] at hM
  obtain ⟨M2, h3, hf⟩ := px_bind hf
  refine px_rptF hx hb hts cl_NA hown hK hM hS 0 (by decide) (hts _ w_245) rfl hnm rfl rfl rfl h3 d_NA_init_9 (fun H locs hM hS => ?_)
  refine lv_aload_n hx hb d_NA_init_12 rfl (lv_at hl 0 rfl) ?_
  refine lv_iconst (v := (-1)) hx hb d_NA_init_13 (by decide) ?_
  obtain ⟨M4, h5, hf⟩ := px_bind hf
  refine px_rpt hx hb hts cl_NA hown hK hM hS 2 (by decide) (hts _ w_251) rfl rfl rfl h5 d_NA_init_14 (fun H locs hM hS => ?_)
  obtain rfl := px_s1 hf
  exact px_vret hx hb hr hlocks hM hS d_NA_init_17
def f_BO_init (o0 : Nat) (M : px_M) : Option (px_M) :=
  (some (px_push M (.inl (0, 5, .inl (fun _ => 0))))).bind fun M1 =>
  (px_pt 10 0 M1 o0 (.ref M.2)).bind fun M2 =>
  (some (px_push M2 (.inl (0, 5, .inl (fun _ => 0))))).bind fun M4 =>
  (px_pt 10 1 M4 o0 (.ref M2.2)).bind fun M5 =>
  some M5
set_option maxHeartbeats 4000000 in
set_option maxRecDepth 100000 in
theorem c_BO_init (l : Launch) (bs : Nat) (D : va_G) (G : Nat → ClassId) (o0 : Nat) (M : px_M) {M' : px_M} (hf : f_BO_init o0 M = some M') : Met l y_BO_init (.code y_BO_init b_BO_init 1 none :: px_tw) ⟨1, 2, 10, 12⟩ (va_Pc [.ref o0] (px_B bs D px_cl (px_tys G) px_nw px_over M)) (px_Qv bs D px_cl (px_tys G) M') 2 10 (fun q => bs ≤ q) := by
  refine px_of (by decide) (Nat.le_of_ble_eq_true rfl) ?_
  intro p e s m below meth c ls C0 hM hS hl
  obtain ⟨hx, hb, hr, hml, hown, hnm, hlocks, hts, hK, hN, hO⟩ := C0
  have hl : lv_has ls 1 [(0, .ref o0)] := hl
  unfold f_BO_init at hf
  refine lv_aload_n hx hb d_BO_init_0 rfl (lv_at hl 0 rfl) ?_
  refine W.objInit hx hb hown (hts _ w_266) (hts _ w_20) (hts _ w_21) rfl (by rw [hml]; exact hl.1) rfl d_BO_init_1 (Nat.le_of_ble_eq_true rfl) (Nat.le_of_ble_eq_true rfl) ?_
  refine W.eq (g2 := F0 m 4 ls []) rfl ?_
  refine lv_aload_n hx hb d_BO_init_4 rfl (lv_at hl 0 rfl) ?_
  refine lv_iconst (v := 5) hx hb d_BO_init_5 (by decide) ?_
  obtain ⟨M1, eM1, hf⟩ := px_bind hf
  refine px_rnewa hx hb (hts _ w_37) 0 hK rfl hM hS (N' := 5) (by decide) (by decide) (by decide) (by decide) (by decide) d_BO_init_6 (fun H hM hS => ?_)
  rw [Option.some.inj eM1] at hM
  obtain ⟨M2, h3, hf⟩ := px_bind hf
  refine px_rptF hx hb hts cl_BO hown hK hM hS 0 (by decide) (hts _ w_267) rfl hnm rfl rfl rfl h3 d_BO_init_8 (fun H locs hM hS => ?_)
  refine lv_aload_n hx hb d_BO_init_11 rfl (lv_at hl 0 rfl) ?_
  refine lv_iconst (v := 5) hx hb d_BO_init_12 (by decide) ?_
  obtain ⟨M4, eM4, hf⟩ := px_bind hf
  refine px_rnewa hx hb (hts _ w_37) 0 hK rfl hM hS (N' := 5) (by decide) (by decide) (by decide) (by decide) (by decide) d_BO_init_13 (fun H hM hS => ?_)
  rw [Option.some.inj eM4] at hM
  obtain ⟨M5, h6, hf⟩ := px_bind hf
  refine px_rptF hx hb hts cl_BO hown hK hM hS 1 (by decide) (hts _ w_271) rfl hnm rfl rfl rfl h6 d_BO_init_15 (fun H locs hM hS => ?_)
  obtain rfl := px_s1 hf
  exact px_vret hx hb hr hlocks hM hS d_BO_init_18
def f_SB_init (o0 : Nat) (M : px_M) : Option (px_M) :=
  (some (px_push M (.inr (1, [.null, .int 0])))).bind fun M1 =>
  (f_TX_init M.2 M1).bind fun M2 =>
  (px_pt 0 0 M2 o0 (.ref M.2)).bind fun M4 =>
  (some (px_push M4 (.inr (2, [.null, .null, .int 0, .int 0, .int 0, .int 0])))).bind fun M6 =>
  (px_gr 0 0 M6 o0).bind fun t7 =>
  (f_RR_init M4.2 t7 M6).bind fun M9 =>
  (px_pt 0 1 M9 o0 (.ref M4.2)).bind fun M11 =>
  (some (px_push M11 (.inr (3, [.null, .null, .int 0, .int 0, .int 0, .int 0])))).bind fun M13 =>
  (f_RS_init M11.2 M13).bind fun M14 =>
  (px_pt 0 2 M14 o0 (.ref M11.2)).bind fun M16 =>
  (some (px_push M16 (.inr (3, [.null, .null, .int 0, .int 0, .int 0, .int 0])))).bind fun M18 =>
  (f_RS_init M16.2 M18).bind fun M19 =>
  (px_pt 0 3 M19 o0 (.ref M16.2)).bind fun M21 =>
  (some (px_push M21 (.inr (4, [.null, .null, .null, .null, .int 0])))).bind fun M23 =>
  (f_LE_init M21.2 M23).bind fun M24 =>
  (px_pt 0 4 M24 o0 (.ref M21.2)).bind fun M26 =>
  (some (px_push M26 (.inl (1, 10, .inr (.inr (.inr (.inr (fun _ => none)))))))).bind fun M28 =>
  (px_pt 0 5 M28 o0 (.ref M26.2)).bind fun M29 =>
  (some (px_push M29 (.inr (5, [.null, .null, .null, .null, .null, .int 0])))).bind fun M31 =>
  (f_RO_init M29.2 M31).bind fun M32 =>
  (px_pt 0 7 M32 o0 (.ref M29.2)).bind fun M34 =>
  (some (px_push M34 (.inl (2, 8, .inr (.inr (.inr (.inr (fun _ => none)))))))).bind fun M36 =>
  (px_pt 0 8 M36 o0 (.ref M34.2)).bind fun M37 =>
  (some (px_push M37 (.inr (6, [.null, .null, .null, .null])))).bind fun M39 =>
  (px_gr 0 5 M39 o0).bind fun t40 =>
  (px_gr 0 7 M39 o0).bind fun t42 =>
  (f_LO_init M37.2 t40 t42 M39).bind fun M44 =>
  (px_pt 0 10 M44 o0 (.ref M37.2)).bind fun M46 =>
  (some (px_push M46 (.inr (7, [.null, .null, .null, .null, .int 0, .int 0, .int 0, .int 0, .int 0])))).bind fun M48 =>
  (px_gr 0 5 M48 o0).bind fun t49 =>
  (px_gr 0 4 M48 o0).bind fun t51 =>
  (f_SH_init M46.2 t49 t51 M48).bind fun M53 =>
  (px_pt 0 11 M53 o0 (.ref M46.2)).bind fun M55 =>
  (some (px_push M55 (.inr (8, [.null, .null, .null, .null, .null, .int 0])))).bind fun M57 =>
  (px_gr 0 5 M57 o0).bind fun t58 =>
  (px_gr 0 7 M57 o0).bind fun t60 =>
  (f_BL_init M55.2 t58 t60 M57).bind fun M62 =>
  (px_pt 0 12 M62 o0 (.ref M55.2)).bind fun M64 =>
  (px_gr 0 5 M64 o0).bind fun t67 =>
  (some (px_push M64 (.inr (9, [.null, .int 0, .int 0])))).bind fun M69 =>
  (f_NA_init M64.2 M69).bind fun M70 =>
  (px_sr 1 9 M70 t67 0 M64.2).bind fun M72 =>
  (px_gr 0 5 M72 o0).bind fun t75 =>
  (some (px_push M72 (.inr (9, [.null, .int 0, .int 0])))).bind fun M77 =>
  (f_NA_init M72.2 M77).bind fun M78 =>
  (px_sr 1 9 M78 t75 1 M72.2).bind fun M80 =>
  (px_gr 0 5 M80 o0).bind fun t83 =>
  (some (px_push M80 (.inr (9, [.null, .int 0, .int 0])))).bind fun M85 =>
  (f_NA_init M80.2 M85).bind fun M86 =>
  (px_sr 1 9 M86 t83 2 M80.2).bind fun M88 =>
  (px_gr 0 5 M88 o0).bind fun t91 =>
  (some (px_push M88 (.inr (9, [.null, .int 0, .int 0])))).bind fun M93 =>
  (f_NA_init M88.2 M93).bind fun M94 =>
  (px_sr 1 9 M94 t91 3 M88.2).bind fun M96 =>
  (px_gr 0 5 M96 o0).bind fun t99 =>
  (some (px_push M96 (.inr (9, [.null, .int 0, .int 0])))).bind fun M101 =>
  (f_NA_init M96.2 M101).bind fun M102 =>
  (px_sr 1 9 M102 t99 4 M96.2).bind fun M104 =>
  (px_gr 0 5 M104 o0).bind fun t107 =>
  (some (px_push M104 (.inr (9, [.null, .int 0, .int 0])))).bind fun M109 =>
  (f_NA_init M104.2 M109).bind fun M110 =>
  (px_sr 1 9 M110 t107 5 M104.2).bind fun M112 =>
  (px_gr 0 5 M112 o0).bind fun t115 =>
  (some (px_push M112 (.inr (9, [.null, .int 0, .int 0])))).bind fun M117 =>
  (f_NA_init M112.2 M117).bind fun M118 =>
  (px_sr 1 9 M118 t115 6 M112.2).bind fun M120 =>
  (px_gr 0 5 M120 o0).bind fun t123 =>
  (some (px_push M120 (.inr (9, [.null, .int 0, .int 0])))).bind fun M125 =>
  (f_NA_init M120.2 M125).bind fun M126 =>
  (px_sr 1 9 M126 t123 7 M120.2).bind fun M128 =>
  (px_gr 0 5 M128 o0).bind fun t131 =>
  (some (px_push M128 (.inr (9, [.null, .int 0, .int 0])))).bind fun M133 =>
  (f_NA_init M128.2 M133).bind fun M134 =>
  (px_sr 1 9 M134 t131 8 M128.2).bind fun M136 =>
  (px_gr 0 5 M136 o0).bind fun t139 =>
  (some (px_push M136 (.inr (9, [.null, .int 0, .int 0])))).bind fun M141 =>
  (f_NA_init M136.2 M141).bind fun M142 =>
  (px_sr 1 9 M142 t139 9 M136.2).bind fun M144 =>
  (px_gr 0 8 M144 o0).bind fun t148 =>
  (some (px_push M144 (.inr (10, [.null, .null, .int 0, .int 0, .int 0])))).bind fun M150 =>
  (f_BO_init M144.2 M150).bind fun M151 =>
  (px_sr 2 10 M151 t148 0 M144.2).bind fun M153 =>
  (px_gr 0 8 M153 o0).bind fun t156 =>
  (some (px_push M153 (.inr (10, [.null, .null, .int 0, .int 0, .int 0])))).bind fun M158 =>
  (f_BO_init M153.2 M158).bind fun M159 =>
  (px_sr 2 10 M159 t156 1 M153.2).bind fun M161 =>
  (px_gr 0 8 M161 o0).bind fun t164 =>
  (some (px_push M161 (.inr (10, [.null, .null, .int 0, .int 0, .int 0])))).bind fun M166 =>
  (f_BO_init M161.2 M166).bind fun M167 =>
  (px_sr 2 10 M167 t164 2 M161.2).bind fun M169 =>
  (px_gr 0 8 M169 o0).bind fun t172 =>
  (some (px_push M169 (.inr (10, [.null, .null, .int 0, .int 0, .int 0])))).bind fun M174 =>
  (f_BO_init M169.2 M174).bind fun M175 =>
  (px_sr 2 10 M175 t172 3 M169.2).bind fun M177 =>
  (px_gr 0 8 M177 o0).bind fun t180 =>
  (some (px_push M177 (.inr (10, [.null, .null, .int 0, .int 0, .int 0])))).bind fun M182 =>
  (f_BO_init M177.2 M182).bind fun M183 =>
  (px_sr 2 10 M183 t180 4 M177.2).bind fun M185 =>
  (px_gr 0 8 M185 o0).bind fun t188 =>
  (some (px_push M185 (.inr (10, [.null, .null, .int 0, .int 0, .int 0])))).bind fun M190 =>
  (f_BO_init M185.2 M190).bind fun M191 =>
  (px_sr 2 10 M191 t188 5 M185.2).bind fun M193 =>
  (px_gr 0 8 M193 o0).bind fun t196 =>
  (some (px_push M193 (.inr (10, [.null, .null, .int 0, .int 0, .int 0])))).bind fun M198 =>
  (f_BO_init M193.2 M198).bind fun M199 =>
  (px_sr 2 10 M199 t196 6 M193.2).bind fun M201 =>
  (px_gr 0 8 M201 o0).bind fun t204 =>
  (some (px_push M201 (.inr (10, [.null, .null, .int 0, .int 0, .int 0])))).bind fun M206 =>
  (f_BO_init M201.2 M206).bind fun M207 =>
  (px_sr 2 10 M207 t204 7 M201.2).bind fun M209 =>
  some M209
set_option maxHeartbeats 4000000 in
set_option maxRecDepth 100000 in
theorem c_SB_init (l : Launch) (bs : Nat) (D : va_G) (G : Nat → ClassId) (o0 : Nat) (M : px_M) {M' : px_M} (hf : f_SB_init o0 M = some M') : Met l y_SB_init (.code y_SB_init b_SB_init 2 none :: px_tw) ⟨3, 75, 974, 62⟩ (va_Pc [.ref o0] (px_B bs D px_cl (px_tys G) px_nw px_over M)) (px_Qv bs D px_cl (px_tys G) M') 75 974 (fun q => bs ≤ q) := by
  refine px_of (by decide) (Nat.le_of_ble_eq_true rfl) ?_
  intro p e s m below meth c ls C0 hM hS hl
  obtain ⟨hx, hb, hr, hml, hown, hnm, hlocks, hts, hK, hN, hO⟩ := C0
  have hl : lv_has ls 2 [(0, .ref o0)] := hl
  unfold f_SB_init at hf
  refine lv_aload_n hx hb d_SB_init_0 rfl (lv_at hl 0 rfl) ?_
  refine W.objInit hx hb hown (hts _ w_19) (hts _ w_20) (hts _ w_21) rfl (by rw [hml]; exact hl.1) rfl d_SB_init_1 (Nat.le_of_ble_eq_true rfl) (Nat.le_of_ble_eq_true rfl) ?_
  refine W.eq (g2 := F0 m 4 ls []) rfl ?_
  refine lv_aload_n hx hb d_SB_init_4 rfl (lv_at hl 0 rfl) ?_
  obtain ⟨M1, eM1, hf⟩ := px_bind hf
  refine px_rnew hx hb hts cl_TX hown (hts _ w_22) (hts _ w_23) (hts _ w_2) hK hM hS (fs := [.null, .int 0]) (fun j hj => by rcases (show j = 0 ∨ j = 1 by omega) with rfl | rfl <;> rfl) (by decide) (by decide) d_SB_init_5 (fun H hM hS => ?_)
  rw [Option.some.inj eM1] at hM
  refine lv_dup hx hb d_SB_init_8 rfl ?_
  obtain ⟨M2, h3, hf⟩ := px_bind hf
  refine px_callv (va_runIN (host := R_SB) (As := []) (rest := [.ref M.2, .ref o0]) ⟨hx, hb, hml, hown, hts⟩ (c_TX_init l bs D G M.2 M1 h3) ⟨va_cnB 0 hts (px_gI w_26) rfl rfl rfl (hN _ n_24) (hts _ w_2) (by decide +kernel) ⟨Nat.le_of_ble_eq_true rfl, Nat.le_of_ble_eq_true rfl⟩, rfl, hts _ w_25⟩ (px_preS px_nwok hK hN hO hM) rfl rfl hl.1 rfl (lv_room (Nat.le_of_ble_eq_true rfl)) d_SB_init_9 ⟨Nat.le_of_ble_eq_true rfl, Nat.le_of_ble_eq_true rfl⟩) hS (fun H locs hM hS => ?_)
  obtain ⟨M4, h5, hf⟩ := px_bind hf
  refine px_rptF hx hb hts cl_SB hown hK hM hS 0 (by decide) (hts _ w_292) rfl hnm rfl rfl rfl h5 d_SB_init_12 (fun H locs hM hS => ?_)
  refine lv_aload_n hx hb d_SB_init_15 rfl (lv_at hl 0 rfl) ?_
  obtain ⟨M6, eM6, hf⟩ := px_bind hf
  refine px_rnew hx hb hts cl_RR hown (hts _ w_38) (hts _ w_39) (hts _ w_3) hK hM hS (fs := [.null, .null, .int 0, .int 0, .int 0, .int 0]) (fun j hj => by rcases (show j = 0 ∨ j = 1 ∨ j = 2 ∨ j = 3 ∨ j = 4 ∨ j = 5 by omega) with rfl | rfl | rfl | rfl | rfl | rfl <;> rfl) (by decide) (by decide) d_SB_init_16 (fun H hM hS => ?_)
  rw [Option.some.inj eM6] at hM
  refine lv_dup hx hb d_SB_init_19 rfl ?_
  refine lv_aload_n hx hb d_SB_init_20 rfl (lv_at hl 0 rfl) ?_
  obtain ⟨t7, h8, hf⟩ := px_bind hf
  refine px_rgr hx hb hts cl_SB hown hK hM 0 (by decide) (hts _ w_292) h8 d_SB_init_21 ?_
  obtain ⟨M9, h10, hf⟩ := px_bind hf
  refine px_callv (va_runI (As := [.ref t7]) (rest := [.ref M4.2, .ref o0]) ⟨hx, hb, hml, hown, hts⟩ (c_RR_init l bs D G M4.2 t7 M6 h10) (cwI 1 hts (px_gI w_42) rfl rfl rfl (hts _ w_3) (hts _ w_40) (hts _ w_41) rfl (by decide +kernel) ⟨Nat.le_of_ble_eq_true rfl, Nat.le_of_ble_eq_true rfl⟩) (px_preS px_nwok hK hN hO hM) rfl rfl hl.1 rfl (lv_room (Nat.le_of_ble_eq_true rfl)) d_SB_init_24 ⟨Nat.le_of_ble_eq_true rfl, Nat.le_of_ble_eq_true rfl⟩) hS (fun H locs hM hS => ?_)
  obtain ⟨M11, h12, hf⟩ := px_bind hf
  refine px_rptF hx hb hts cl_SB hown hK hM hS 1 (by decide) (hts _ w_293) rfl hnm rfl rfl rfl h12 d_SB_init_27 (fun H locs hM hS => ?_)
  refine lv_aload_n hx hb d_SB_init_30 rfl (lv_at hl 0 rfl) ?_
  obtain ⟨M13, eM13, hf⟩ := px_bind hf
  refine px_rnew hx hb hts cl_RS hown (hts _ w_63) (hts _ w_64) (hts _ w_4) hK hM hS (fs := [.null, .null, .int 0, .int 0, .int 0, .int 0]) (fun j hj => by rcases (show j = 0 ∨ j = 1 ∨ j = 2 ∨ j = 3 ∨ j = 4 ∨ j = 5 by omega) with rfl | rfl | rfl | rfl | rfl | rfl <;> rfl) (by decide) (by decide) d_SB_init_31 (fun H hM hS => ?_)
  rw [Option.some.inj eM13] at hM
  refine lv_dup hx hb d_SB_init_34 rfl ?_
  obtain ⟨M14, h15, hf⟩ := px_bind hf
  refine px_callv (va_runI (As := []) (rest := [.ref M11.2, .ref o0]) ⟨hx, hb, hml, hown, hts⟩ (c_RS_init l bs D G M11.2 M13 h15) (cwI 0 hts (px_gI w_67) rfl rfl rfl (hts _ w_4) (hts _ w_65) (hts _ w_66) rfl (by decide +kernel) ⟨Nat.le_of_ble_eq_true rfl, Nat.le_of_ble_eq_true rfl⟩) (px_preS px_nwok hK hN hO hM) rfl rfl hl.1 rfl (lv_room (Nat.le_of_ble_eq_true rfl)) d_SB_init_35 ⟨Nat.le_of_ble_eq_true rfl, Nat.le_of_ble_eq_true rfl⟩) hS (fun H locs hM hS => ?_)
  obtain ⟨M16, h17, hf⟩ := px_bind hf
  refine px_rpt hx hb hts cl_SB hown hK hM hS 2 (by decide) (hts _ w_294) rfl rfl rfl h17 d_SB_init_38 (fun H locs hM hS => ?_)
  refine lv_aload_n hx hb d_SB_init_41 rfl (lv_at hl 0 rfl) ?_
  obtain ⟨M18, eM18, hf⟩ := px_bind hf
  refine px_rnew hx hb hts cl_RS hown (hts _ w_63) (hts _ w_64) (hts _ w_4) hK hM hS (fs := [.null, .null, .int 0, .int 0, .int 0, .int 0]) (fun j hj => by rcases (show j = 0 ∨ j = 1 ∨ j = 2 ∨ j = 3 ∨ j = 4 ∨ j = 5 by omega) with rfl | rfl | rfl | rfl | rfl | rfl <;> rfl) (by decide) (by decide) d_SB_init_42 (fun H hM hS => ?_)
  rw [Option.some.inj eM18] at hM
  refine lv_dup hx hb d_SB_init_45 rfl ?_
  obtain ⟨M19, h20, hf⟩ := px_bind hf
  refine px_callv (va_runI (As := []) (rest := [.ref M16.2, .ref o0]) ⟨hx, hb, hml, hown, hts⟩ (c_RS_init l bs D G M16.2 M18 h20) (cwI 0 hts (px_gI w_67) rfl rfl rfl (hts _ w_4) (hts _ w_65) (hts _ w_66) rfl (by decide +kernel) ⟨Nat.le_of_ble_eq_true rfl, Nat.le_of_ble_eq_true rfl⟩) (px_preS px_nwok hK hN hO hM) rfl rfl hl.1 rfl (lv_room (Nat.le_of_ble_eq_true rfl)) d_SB_init_46 ⟨Nat.le_of_ble_eq_true rfl, Nat.le_of_ble_eq_true rfl⟩) hS (fun H locs hM hS => ?_)
  obtain ⟨M21, h22, hf⟩ := px_bind hf
  refine px_rpt hx hb hts cl_SB hown hK hM hS 3 (by decide) (hts _ w_295) rfl rfl rfl h22 d_SB_init_49 (fun H locs hM hS => ?_)
  refine lv_aload_n hx hb d_SB_init_52 rfl (lv_at hl 0 rfl) ?_
  obtain ⟨M23, eM23, hf⟩ := px_bind hf
  refine px_rnew hx hb hts cl_LE hown (hts _ w_103) (hts _ w_104) (hts _ w_5) hK hM hS (fs := [.null, .null, .null, .null, .int 0]) (fun j hj => by rcases (show j = 0 ∨ j = 1 ∨ j = 2 ∨ j = 3 ∨ j = 4 by omega) with rfl | rfl | rfl | rfl | rfl <;> rfl) (by decide) (by decide) d_SB_init_53 (fun H hM hS => ?_)
  rw [Option.some.inj eM23] at hM
  refine lv_dup hx hb d_SB_init_56 rfl ?_
  obtain ⟨M24, h25, hf⟩ := px_bind hf
  refine px_callv (va_runI (As := []) (rest := [.ref M21.2, .ref o0]) ⟨hx, hb, hml, hown, hts⟩ (c_LE_init l bs D G M21.2 M23 h25) (cwI 0 hts (px_gI w_107) rfl rfl rfl (hts _ w_5) (hts _ w_105) (hts _ w_106) rfl (by decide +kernel) ⟨Nat.le_of_ble_eq_true rfl, Nat.le_of_ble_eq_true rfl⟩) (px_preS px_nwok hK hN hO hM) rfl rfl hl.1 rfl (lv_room (Nat.le_of_ble_eq_true rfl)) d_SB_init_57 ⟨Nat.le_of_ble_eq_true rfl, Nat.le_of_ble_eq_true rfl⟩) hS (fun H locs hM hS => ?_)
  obtain ⟨M26, h27, hf⟩ := px_bind hf
  refine px_rptF hx hb hts cl_SB hown hK hM hS 4 (by decide) (hts _ w_296) rfl hnm rfl rfl rfl h27 d_SB_init_60 (fun H locs hM hS => ?_)
  refine lv_aload_n hx hb d_SB_init_63 rfl (lv_at hl 0 rfl) ?_
  refine lv_bipush (v := 10) hx hb d_SB_init_64 (by decide) ?_
  obtain ⟨M28, eM28, hf⟩ := px_bind hf
  refine px_rnewq hx hb hown (hts _ w_126) (hO _ ov_NA) 1 hK rfl hM hS (N' := 10) (by decide) (by decide) (by decide) (by decide) (by decide) d_SB_init_66 (fun H hM hS => ?_)
  rw [Option.some.inj eM28] at hM
  obtain ⟨M29, h30, hf⟩ := px_bind hf
  refine px_rptF hx hb hts cl_SB hown hK hM hS 5 (by decide) (hts _ w_297) rfl hnm rfl rfl rfl h30 d_SB_init_69 (fun H locs hM hS => ?_)
  refine lv_aload_n hx hb d_SB_init_72 rfl (lv_at hl 0 rfl) ?_
  obtain ⟨M31, eM31, hf⟩ := px_bind hf
  refine px_rnew hx hb hts cl_RO hown (hts _ w_128) (hts _ w_129) (hts _ w_6) hK hM hS (fs := [.null, .null, .null, .null, .null, .int 0]) (fun j hj => by rcases (show j = 0 ∨ j = 1 ∨ j = 2 ∨ j = 3 ∨ j = 4 ∨ j = 5 by omega) with rfl | rfl | rfl | rfl | rfl | rfl <;> rfl) (by decide) (by decide) d_SB_init_73 (fun H hM hS => ?_)
  rw [Option.some.inj eM31] at hM
  refine lv_dup hx hb d_SB_init_76 rfl ?_
  obtain ⟨M32, h33, hf⟩ := px_bind hf
  refine px_callv (va_runIN (host := R_SB) (As := []) (rest := [.ref M29.2, .ref o0]) ⟨hx, hb, hml, hown, hts⟩ (c_RO_init l bs D G M29.2 M31 h33) ⟨va_cnB 0 hts (px_gI w_132) rfl rfl rfl (hN _ n_130) (hts _ w_6) (by decide +kernel) ⟨Nat.le_of_ble_eq_true rfl, Nat.le_of_ble_eq_true rfl⟩, rfl, hts _ w_131⟩ (px_preS px_nwok hK hN hO hM) rfl rfl hl.1 rfl (lv_room (Nat.le_of_ble_eq_true rfl)) d_SB_init_77 ⟨Nat.le_of_ble_eq_true rfl, Nat.le_of_ble_eq_true rfl⟩) hS (fun H locs hM hS => ?_)
  obtain ⟨M34, h35, hf⟩ := px_bind hf
  refine px_rptF hx hb hts cl_SB hown hK hM hS 7 (by decide) (hts _ w_299) rfl hnm rfl rfl rfl h35 d_SB_init_80 (fun H locs hM hS => ?_)
  refine lv_aload_n hx hb d_SB_init_83 rfl (lv_at hl 0 rfl) ?_
  refine lv_bipush (v := 8) hx hb d_SB_init_84 (by decide) ?_
  obtain ⟨M36, eM36, hf⟩ := px_bind hf
  refine px_rnewq hx hb hown (hts _ w_158) (hO _ ov_BO) 2 hK rfl hM hS (N' := 8) (by decide) (by decide) (by decide) (by decide) (by decide) d_SB_init_86 (fun H hM hS => ?_)
  rw [Option.some.inj eM36] at hM
  obtain ⟨M37, h38, hf⟩ := px_bind hf
  refine px_rptF hx hb hts cl_SB hown hK hM hS 8 (by decide) (hts _ w_300) rfl hnm rfl rfl rfl h38 d_SB_init_89 (fun H locs hM hS => ?_)
  refine lv_aload_n hx hb d_SB_init_92 rfl (lv_at hl 0 rfl) ?_
  obtain ⟨M39, eM39, hf⟩ := px_bind hf
  refine px_rnew hx hb hts cl_LO hown (hts _ w_160) (hts _ w_161) (hts _ w_7) hK hM hS (fs := [.null, .null, .null, .null]) (fun j hj => by rcases (show j = 0 ∨ j = 1 ∨ j = 2 ∨ j = 3 by omega) with rfl | rfl | rfl | rfl <;> rfl) (by decide) (by decide) d_SB_init_93 (fun H hM hS => ?_)
  rw [Option.some.inj eM39] at hM
  refine lv_dup hx hb d_SB_init_96 rfl ?_
  refine lv_aload_n hx hb d_SB_init_97 rfl (lv_at hl 0 rfl) ?_
  obtain ⟨t40, h41, hf⟩ := px_bind hf
  refine px_rgr hx hb hts cl_SB hown hK hM 5 (by decide) (hts _ w_297) h41 d_SB_init_98 ?_
  refine lv_aload_n hx hb d_SB_init_101 rfl (lv_at hl 0 rfl) ?_
  obtain ⟨t42, h43, hf⟩ := px_bind hf
  refine px_rgr hx hb hts cl_SB hown hK hM 7 (by decide) (hts _ w_299) h43 d_SB_init_102 ?_
  obtain ⟨M44, h45, hf⟩ := px_bind hf
  refine px_callv (va_runI (As := [.ref t40, .ref t42]) (rest := [.ref M37.2, .ref o0]) ⟨hx, hb, hml, hown, hts⟩ (c_LO_init l bs D G M37.2 t40 t42 M39 h45) (cwI 2 hts (px_gI w_164) rfl rfl rfl (hts _ w_7) (hts _ w_162) (hts _ w_163) rfl (by decide +kernel) ⟨Nat.le_of_ble_eq_true rfl, Nat.le_of_ble_eq_true rfl⟩) (px_preS px_nwok hK hN hO hM) rfl rfl hl.1 rfl (lv_room (Nat.le_of_ble_eq_true rfl)) d_SB_init_105 ⟨Nat.le_of_ble_eq_true rfl, Nat.le_of_ble_eq_true rfl⟩) hS (fun H locs hM hS => ?_)
  obtain ⟨M46, h47, hf⟩ := px_bind hf
  refine px_rptF hx hb hts cl_SB hown hK hM hS 10 (by decide) (hts _ w_302) rfl hnm rfl rfl rfl h47 d_SB_init_108 (fun H locs hM hS => ?_)
  refine lv_aload_n hx hb d_SB_init_111 rfl (lv_at hl 0 rfl) ?_
  obtain ⟨M48, eM48, hf⟩ := px_bind hf
  refine px_rnew hx hb hts cl_SH hown (hts _ w_179) (hts _ w_180) (hts _ w_8) hK hM hS (fs := [.null, .null, .null, .null, .int 0, .int 0, .int 0, .int 0, .int 0]) (fun j hj => by rcases (show j = 0 ∨ j = 1 ∨ j = 2 ∨ j = 3 ∨ j = 4 ∨ j = 5 ∨ j = 6 ∨ j = 7 ∨ j = 8 by omega) with rfl | rfl | rfl | rfl | rfl | rfl | rfl | rfl | rfl <;> rfl) (by decide) (by decide) d_SB_init_112 (fun H hM hS => ?_)
  rw [Option.some.inj eM48] at hM
  refine lv_dup hx hb d_SB_init_115 rfl ?_
  refine lv_aload_n hx hb d_SB_init_116 rfl (lv_at hl 0 rfl) ?_
  obtain ⟨t49, h50, hf⟩ := px_bind hf
  refine px_rgr hx hb hts cl_SB hown hK hM 5 (by decide) (hts _ w_297) h50 d_SB_init_117 ?_
  refine lv_aload_n hx hb d_SB_init_120 rfl (lv_at hl 0 rfl) ?_
  obtain ⟨t51, h52, hf⟩ := px_bind hf
  refine px_rgr hx hb hts cl_SB hown hK hM 4 (by decide) (hts _ w_296) h52 d_SB_init_121 ?_
  obtain ⟨M53, h54, hf⟩ := px_bind hf
  refine px_callv (va_runI (As := [.ref t49, .ref t51]) (rest := [.ref M46.2, .ref o0]) ⟨hx, hb, hml, hown, hts⟩ (c_SH_init l bs D G M46.2 t49 t51 M48 h54) (cwI 2 hts (px_gI w_183) rfl rfl rfl (hts _ w_8) (hts _ w_181) (hts _ w_182) rfl (by decide +kernel) ⟨Nat.le_of_ble_eq_true rfl, Nat.le_of_ble_eq_true rfl⟩) (px_preS px_nwok hK hN hO hM) rfl rfl hl.1 rfl (lv_room (Nat.le_of_ble_eq_true rfl)) d_SB_init_124 ⟨Nat.le_of_ble_eq_true rfl, Nat.le_of_ble_eq_true rfl⟩) hS (fun H locs hM hS => ?_)
  obtain ⟨M55, h56, hf⟩ := px_bind hf
  refine px_rptF hx hb hts cl_SB hown hK hM hS 11 (by decide) (hts _ w_303) rfl hnm rfl rfl rfl h56 d_SB_init_127 (fun H locs hM hS => ?_)
  refine lv_aload_n hx hb d_SB_init_130 rfl (lv_at hl 0 rfl) ?_
  obtain ⟨M57, eM57, hf⟩ := px_bind hf
  refine px_rnew hx hb hts cl_BL hown (hts _ w_214) (hts _ w_215) (hts _ w_9) hK hM hS (fs := [.null, .null, .null, .null, .null, .int 0]) (fun j hj => by rcases (show j = 0 ∨ j = 1 ∨ j = 2 ∨ j = 3 ∨ j = 4 ∨ j = 5 by omega) with rfl | rfl | rfl | rfl | rfl | rfl <;> rfl) (by decide) (by decide) d_SB_init_131 (fun H hM hS => ?_)
  rw [Option.some.inj eM57] at hM
  refine lv_dup hx hb d_SB_init_134 rfl ?_
  refine lv_aload_n hx hb d_SB_init_135 rfl (lv_at hl 0 rfl) ?_
  obtain ⟨t58, h59, hf⟩ := px_bind hf
  refine px_rgr hx hb hts cl_SB hown hK hM 5 (by decide) (hts _ w_297) h59 d_SB_init_136 ?_
  refine lv_aload_n hx hb d_SB_init_139 rfl (lv_at hl 0 rfl) ?_
  obtain ⟨t60, h61, hf⟩ := px_bind hf
  refine px_rgr hx hb hts cl_SB hown hK hM 7 (by decide) (hts _ w_299) h61 d_SB_init_140 ?_
  obtain ⟨M62, h63, hf⟩ := px_bind hf
  refine px_callv (va_runI (As := [.ref t58, .ref t60]) (rest := [.ref M55.2, .ref o0]) ⟨hx, hb, hml, hown, hts⟩ (c_BL_init l bs D G M55.2 t58 t60 M57 h63) (cwI 2 hts (px_gI w_218) rfl rfl rfl (hts _ w_9) (hts _ w_216) (hts _ w_217) rfl (by decide +kernel) ⟨Nat.le_of_ble_eq_true rfl, Nat.le_of_ble_eq_true rfl⟩) (px_preS px_nwok hK hN hO hM) rfl rfl hl.1 rfl (lv_room (Nat.le_of_ble_eq_true rfl)) d_SB_init_143 ⟨Nat.le_of_ble_eq_true rfl, Nat.le_of_ble_eq_true rfl⟩) hS (fun H locs hM hS => ?_)
  obtain ⟨M64, h65, hf⟩ := px_bind hf
  refine px_rptF hx hb hts cl_SB hown hK hM hS 12 (by decide) (hts _ w_304) rfl hnm rfl rfl rfl h65 d_SB_init_146 (fun H locs hM hS => ?_)
  refine lv_iconst (v := 0) hx hb d_SB_init_149 (by decide) ?_
  refine lv_istore_n (lv' := [(1, .int 0), (0, .ref o0)]) hx hb d_SB_init_150 rfl hl (by decide) rfl (fun ls hl => ?_)
  refine lv_iload_n hx hb d_SB_init_151 rfl (lv_at hl 0 rfl) ?_
  refine lv_bipush (v := 10) hx hb d_SB_init_152 (by decide) ?_
  refine lv_icmp_ge (tgt := 176) hx hb d_SB_init_154 (by decide) (fun c66 => False.elim (by revert c66; decide)) (fun c66 => ?_)
  refine lv_aload_n hx hb d_SB_init_157 rfl (lv_at hl 1 rfl) ?_
  obtain ⟨t67, h68, hf⟩ := px_bind hf
  refine px_rgr hx hb hts cl_SB hown hK hM 5 (by decide) (hts _ w_297) h68 d_SB_init_158 ?_
  refine lv_iload_n hx hb d_SB_init_161 rfl (lv_at hl 0 rfl) ?_
  obtain ⟨M69, eM69, hf⟩ := px_bind hf
  refine px_rnew hx hb hts cl_NA hown (hts _ w_126) (hts _ w_240) (hts _ w_10) hK hM hS (fs := [.null, .int 0, .int 0]) (fun j hj => by rcases (show j = 0 ∨ j = 1 ∨ j = 2 by omega) with rfl | rfl | rfl <;> rfl) (by decide) (by decide) d_SB_init_162 (fun H hM hS => ?_)
  rw [Option.some.inj eM69] at hM
  refine lv_dup hx hb d_SB_init_165 rfl ?_
  obtain ⟨M70, h71, hf⟩ := px_bind hf
  refine px_callv (va_runIN (host := R_SB) (As := []) (rest := [.ref M64.2, .int 0, .ref t67]) ⟨hx, hb, hml, hown, hts⟩ (c_NA_init l bs D G M64.2 M69 h71) ⟨va_cnB 0 hts (px_gI w_243) rfl rfl rfl (hN _ n_241) (hts _ w_10) (by decide +kernel) ⟨Nat.le_of_ble_eq_true rfl, Nat.le_of_ble_eq_true rfl⟩, rfl, hts _ w_242⟩ (px_preS px_nwok hK hN hO hM) rfl rfl hl.1 rfl (lv_room (Nat.le_of_ble_eq_true rfl)) d_SB_init_166 ⟨Nat.le_of_ble_eq_true rfl, Nat.le_of_ble_eq_true rfl⟩) hS (fun H locs hM hS => ?_)
  obtain ⟨M72, h73, hf⟩ := px_bind hf
  refine px_rsr hx hb hK hM hS 1 rfl rfl h73 d_SB_init_169 (fun H locs hM hS => ?_)
  refine lv_iinc (v := 1) (lv' := [(1, .int 1), (0, .ref o0)]) hx hb d_SB_init_170 hl (k := 0) rfl (by decide) (by decide) rfl (fun ls hl => ?_)
  refine lv_goto (tgt := 151) hx hb d_SB_init_173 (by decide) ?_
  refine lv_iload_n hx hb d_SB_init_151 rfl (lv_at hl 0 rfl) ?_
  refine lv_bipush (v := 10) hx hb d_SB_init_152 (by decide) ?_
  refine lv_icmp_ge (tgt := 176) hx hb d_SB_init_154 (by decide) (fun c74 => False.elim (by revert c74; decide)) (fun c74 => ?_)
  refine lv_aload_n hx hb d_SB_init_157 rfl (lv_at hl 1 rfl) ?_
  obtain ⟨t75, h76, hf⟩ := px_bind hf
  refine px_rgr hx hb hts cl_SB hown hK hM 5 (by decide) (hts _ w_297) h76 d_SB_init_158 ?_
  refine lv_iload_n hx hb d_SB_init_161 rfl (lv_at hl 0 rfl) ?_
  obtain ⟨M77, eM77, hf⟩ := px_bind hf
  refine px_rnew hx hb hts cl_NA hown (hts _ w_126) (hts _ w_240) (hts _ w_10) hK hM hS (fs := [.null, .int 0, .int 0]) (fun j hj => by rcases (show j = 0 ∨ j = 1 ∨ j = 2 by omega) with rfl | rfl | rfl <;> rfl) (by decide) (by decide) d_SB_init_162 (fun H hM hS => ?_)
  rw [Option.some.inj eM77] at hM
  refine lv_dup hx hb d_SB_init_165 rfl ?_
  obtain ⟨M78, h79, hf⟩ := px_bind hf
  refine px_callv (va_runIN (host := R_SB) (As := []) (rest := [.ref M72.2, .int 1, .ref t75]) ⟨hx, hb, hml, hown, hts⟩ (c_NA_init l bs D G M72.2 M77 h79) ⟨va_cnB 0 hts (px_gI w_243) rfl rfl rfl (hN _ n_241) (hts _ w_10) (by decide +kernel) ⟨Nat.le_of_ble_eq_true rfl, Nat.le_of_ble_eq_true rfl⟩, rfl, hts _ w_242⟩ (px_preS px_nwok hK hN hO hM) rfl rfl hl.1 rfl (lv_room (Nat.le_of_ble_eq_true rfl)) d_SB_init_166 ⟨Nat.le_of_ble_eq_true rfl, Nat.le_of_ble_eq_true rfl⟩) hS (fun H locs hM hS => ?_)
  obtain ⟨M80, h81, hf⟩ := px_bind hf
  refine px_rsr hx hb hK hM hS 1 rfl rfl h81 d_SB_init_169 (fun H locs hM hS => ?_)
  refine lv_iinc (v := 2) (lv' := [(1, .int 2), (0, .ref o0)]) hx hb d_SB_init_170 hl (k := 0) rfl (by decide) (by decide) rfl (fun ls hl => ?_)
  refine lv_goto (tgt := 151) hx hb d_SB_init_173 (by decide) ?_
  refine lv_iload_n hx hb d_SB_init_151 rfl (lv_at hl 0 rfl) ?_
  refine lv_bipush (v := 10) hx hb d_SB_init_152 (by decide) ?_
  refine lv_icmp_ge (tgt := 176) hx hb d_SB_init_154 (by decide) (fun c82 => False.elim (by revert c82; decide)) (fun c82 => ?_)
  refine lv_aload_n hx hb d_SB_init_157 rfl (lv_at hl 1 rfl) ?_
  obtain ⟨t83, h84, hf⟩ := px_bind hf
  refine px_rgr hx hb hts cl_SB hown hK hM 5 (by decide) (hts _ w_297) h84 d_SB_init_158 ?_
  refine lv_iload_n hx hb d_SB_init_161 rfl (lv_at hl 0 rfl) ?_
  obtain ⟨M85, eM85, hf⟩ := px_bind hf
  refine px_rnew hx hb hts cl_NA hown (hts _ w_126) (hts _ w_240) (hts _ w_10) hK hM hS (fs := [.null, .int 0, .int 0]) (fun j hj => by rcases (show j = 0 ∨ j = 1 ∨ j = 2 by omega) with rfl | rfl | rfl <;> rfl) (by decide) (by decide) d_SB_init_162 (fun H hM hS => ?_)
  rw [Option.some.inj eM85] at hM
  refine lv_dup hx hb d_SB_init_165 rfl ?_
  obtain ⟨M86, h87, hf⟩ := px_bind hf
  refine px_callv (va_runIN (host := R_SB) (As := []) (rest := [.ref M80.2, .int 2, .ref t83]) ⟨hx, hb, hml, hown, hts⟩ (c_NA_init l bs D G M80.2 M85 h87) ⟨va_cnB 0 hts (px_gI w_243) rfl rfl rfl (hN _ n_241) (hts _ w_10) (by decide +kernel) ⟨Nat.le_of_ble_eq_true rfl, Nat.le_of_ble_eq_true rfl⟩, rfl, hts _ w_242⟩ (px_preS px_nwok hK hN hO hM) rfl rfl hl.1 rfl (lv_room (Nat.le_of_ble_eq_true rfl)) d_SB_init_166 ⟨Nat.le_of_ble_eq_true rfl, Nat.le_of_ble_eq_true rfl⟩) hS (fun H locs hM hS => ?_)
  obtain ⟨M88, h89, hf⟩ := px_bind hf
  refine px_rsr hx hb hK hM hS 1 rfl rfl h89 d_SB_init_169 (fun H locs hM hS => ?_)
  refine lv_iinc (v := 3) (lv' := [(1, .int 3), (0, .ref o0)]) hx hb d_SB_init_170 hl (k := 0) rfl (by decide) (by decide) rfl (fun ls hl => ?_)
  refine lv_goto (tgt := 151) hx hb d_SB_init_173 (by decide) ?_
  refine lv_iload_n hx hb d_SB_init_151 rfl (lv_at hl 0 rfl) ?_
  refine lv_bipush (v := 10) hx hb d_SB_init_152 (by decide) ?_
  refine lv_icmp_ge (tgt := 176) hx hb d_SB_init_154 (by decide) (fun c90 => False.elim (by revert c90; decide)) (fun c90 => ?_)
  refine lv_aload_n hx hb d_SB_init_157 rfl (lv_at hl 1 rfl) ?_
  obtain ⟨t91, h92, hf⟩ := px_bind hf
  refine px_rgr hx hb hts cl_SB hown hK hM 5 (by decide) (hts _ w_297) h92 d_SB_init_158 ?_
  refine lv_iload_n hx hb d_SB_init_161 rfl (lv_at hl 0 rfl) ?_
  obtain ⟨M93, eM93, hf⟩ := px_bind hf
  refine px_rnew hx hb hts cl_NA hown (hts _ w_126) (hts _ w_240) (hts _ w_10) hK hM hS (fs := [.null, .int 0, .int 0]) (fun j hj => by rcases (show j = 0 ∨ j = 1 ∨ j = 2 by omega) with rfl | rfl | rfl <;> rfl) (by decide) (by decide) d_SB_init_162 (fun H hM hS => ?_)
  rw [Option.some.inj eM93] at hM
  refine lv_dup hx hb d_SB_init_165 rfl ?_
  obtain ⟨M94, h95, hf⟩ := px_bind hf
  refine px_callv (va_runIN (host := R_SB) (As := []) (rest := [.ref M88.2, .int 3, .ref t91]) ⟨hx, hb, hml, hown, hts⟩ (c_NA_init l bs D G M88.2 M93 h95) ⟨va_cnB 0 hts (px_gI w_243) rfl rfl rfl (hN _ n_241) (hts _ w_10) (by decide +kernel) ⟨Nat.le_of_ble_eq_true rfl, Nat.le_of_ble_eq_true rfl⟩, rfl, hts _ w_242⟩ (px_preS px_nwok hK hN hO hM) rfl rfl hl.1 rfl (lv_room (Nat.le_of_ble_eq_true rfl)) d_SB_init_166 ⟨Nat.le_of_ble_eq_true rfl, Nat.le_of_ble_eq_true rfl⟩) hS (fun H locs hM hS => ?_)
  obtain ⟨M96, h97, hf⟩ := px_bind hf
  refine px_rsr hx hb hK hM hS 1 rfl rfl h97 d_SB_init_169 (fun H locs hM hS => ?_)
  refine lv_iinc (v := 4) (lv' := [(1, .int 4), (0, .ref o0)]) hx hb d_SB_init_170 hl (k := 0) rfl (by decide) (by decide) rfl (fun ls hl => ?_)
  refine lv_goto (tgt := 151) hx hb d_SB_init_173 (by decide) ?_
  refine lv_iload_n hx hb d_SB_init_151 rfl (lv_at hl 0 rfl) ?_
  refine lv_bipush (v := 10) hx hb d_SB_init_152 (by decide) ?_
  refine lv_icmp_ge (tgt := 176) hx hb d_SB_init_154 (by decide) (fun c98 => False.elim (by revert c98; decide)) (fun c98 => ?_)
  refine lv_aload_n hx hb d_SB_init_157 rfl (lv_at hl 1 rfl) ?_
  obtain ⟨t99, h100, hf⟩ := px_bind hf
  refine px_rgr hx hb hts cl_SB hown hK hM 5 (by decide) (hts _ w_297) h100 d_SB_init_158 ?_
  refine lv_iload_n hx hb d_SB_init_161 rfl (lv_at hl 0 rfl) ?_
  obtain ⟨M101, eM101, hf⟩ := px_bind hf
  refine px_rnew hx hb hts cl_NA hown (hts _ w_126) (hts _ w_240) (hts _ w_10) hK hM hS (fs := [.null, .int 0, .int 0]) (fun j hj => by rcases (show j = 0 ∨ j = 1 ∨ j = 2 by omega) with rfl | rfl | rfl <;> rfl) (by decide) (by decide) d_SB_init_162 (fun H hM hS => ?_)
  rw [Option.some.inj eM101] at hM
  refine lv_dup hx hb d_SB_init_165 rfl ?_
  obtain ⟨M102, h103, hf⟩ := px_bind hf
  refine px_callv (va_runIN (host := R_SB) (As := []) (rest := [.ref M96.2, .int 4, .ref t99]) ⟨hx, hb, hml, hown, hts⟩ (c_NA_init l bs D G M96.2 M101 h103) ⟨va_cnB 0 hts (px_gI w_243) rfl rfl rfl (hN _ n_241) (hts _ w_10) (by decide +kernel) ⟨Nat.le_of_ble_eq_true rfl, Nat.le_of_ble_eq_true rfl⟩, rfl, hts _ w_242⟩ (px_preS px_nwok hK hN hO hM) rfl rfl hl.1 rfl (lv_room (Nat.le_of_ble_eq_true rfl)) d_SB_init_166 ⟨Nat.le_of_ble_eq_true rfl, Nat.le_of_ble_eq_true rfl⟩) hS (fun H locs hM hS => ?_)
  obtain ⟨M104, h105, hf⟩ := px_bind hf
  refine px_rsr hx hb hK hM hS 1 rfl rfl h105 d_SB_init_169 (fun H locs hM hS => ?_)
  refine lv_iinc (v := 5) (lv' := [(1, .int 5), (0, .ref o0)]) hx hb d_SB_init_170 hl (k := 0) rfl (by decide) (by decide) rfl (fun ls hl => ?_)
  refine lv_goto (tgt := 151) hx hb d_SB_init_173 (by decide) ?_
  refine lv_iload_n hx hb d_SB_init_151 rfl (lv_at hl 0 rfl) ?_
  refine lv_bipush (v := 10) hx hb d_SB_init_152 (by decide) ?_
  refine lv_icmp_ge (tgt := 176) hx hb d_SB_init_154 (by decide) (fun c106 => False.elim (by revert c106; decide)) (fun c106 => ?_)
  refine lv_aload_n hx hb d_SB_init_157 rfl (lv_at hl 1 rfl) ?_
  obtain ⟨t107, h108, hf⟩ := px_bind hf
  refine px_rgr hx hb hts cl_SB hown hK hM 5 (by decide) (hts _ w_297) h108 d_SB_init_158 ?_
  refine lv_iload_n hx hb d_SB_init_161 rfl (lv_at hl 0 rfl) ?_
  obtain ⟨M109, eM109, hf⟩ := px_bind hf
  refine px_rnew hx hb hts cl_NA hown (hts _ w_126) (hts _ w_240) (hts _ w_10) hK hM hS (fs := [.null, .int 0, .int 0]) (fun j hj => by rcases (show j = 0 ∨ j = 1 ∨ j = 2 by omega) with rfl | rfl | rfl <;> rfl) (by decide) (by decide) d_SB_init_162 (fun H hM hS => ?_)
  rw [Option.some.inj eM109] at hM
  refine lv_dup hx hb d_SB_init_165 rfl ?_
  obtain ⟨M110, h111, hf⟩ := px_bind hf
  refine px_callv (va_runIN (host := R_SB) (As := []) (rest := [.ref M104.2, .int 5, .ref t107]) ⟨hx, hb, hml, hown, hts⟩ (c_NA_init l bs D G M104.2 M109 h111) ⟨va_cnB 0 hts (px_gI w_243) rfl rfl rfl (hN _ n_241) (hts _ w_10) (by decide +kernel) ⟨Nat.le_of_ble_eq_true rfl, Nat.le_of_ble_eq_true rfl⟩, rfl, hts _ w_242⟩ (px_preS px_nwok hK hN hO hM) rfl rfl hl.1 rfl (lv_room (Nat.le_of_ble_eq_true rfl)) d_SB_init_166 ⟨Nat.le_of_ble_eq_true rfl, Nat.le_of_ble_eq_true rfl⟩) hS (fun H locs hM hS => ?_)
  obtain ⟨M112, h113, hf⟩ := px_bind hf
  refine px_rsr hx hb hK hM hS 1 rfl rfl h113 d_SB_init_169 (fun H locs hM hS => ?_)
  refine lv_iinc (v := 6) (lv' := [(1, .int 6), (0, .ref o0)]) hx hb d_SB_init_170 hl (k := 0) rfl (by decide) (by decide) rfl (fun ls hl => ?_)
  refine lv_goto (tgt := 151) hx hb d_SB_init_173 (by decide) ?_
  refine lv_iload_n hx hb d_SB_init_151 rfl (lv_at hl 0 rfl) ?_
  refine lv_bipush (v := 10) hx hb d_SB_init_152 (by decide) ?_
  refine lv_icmp_ge (tgt := 176) hx hb d_SB_init_154 (by decide) (fun c114 => False.elim (by revert c114; decide)) (fun c114 => ?_)
  refine lv_aload_n hx hb d_SB_init_157 rfl (lv_at hl 1 rfl) ?_
  obtain ⟨t115, h116, hf⟩ := px_bind hf
  refine px_rgr hx hb hts cl_SB hown hK hM 5 (by decide) (hts _ w_297) h116 d_SB_init_158 ?_
  refine lv_iload_n hx hb d_SB_init_161 rfl (lv_at hl 0 rfl) ?_
  obtain ⟨M117, eM117, hf⟩ := px_bind hf
  refine px_rnew hx hb hts cl_NA hown (hts _ w_126) (hts _ w_240) (hts _ w_10) hK hM hS (fs := [.null, .int 0, .int 0]) (fun j hj => by rcases (show j = 0 ∨ j = 1 ∨ j = 2 by omega) with rfl | rfl | rfl <;> rfl) (by decide) (by decide) d_SB_init_162 (fun H hM hS => ?_)
  rw [Option.some.inj eM117] at hM
  refine lv_dup hx hb d_SB_init_165 rfl ?_
  obtain ⟨M118, h119, hf⟩ := px_bind hf
  refine px_callv (va_runIN (host := R_SB) (As := []) (rest := [.ref M112.2, .int 6, .ref t115]) ⟨hx, hb, hml, hown, hts⟩ (c_NA_init l bs D G M112.2 M117 h119) ⟨va_cnB 0 hts (px_gI w_243) rfl rfl rfl (hN _ n_241) (hts _ w_10) (by decide +kernel) ⟨Nat.le_of_ble_eq_true rfl, Nat.le_of_ble_eq_true rfl⟩, rfl, hts _ w_242⟩ (px_preS px_nwok hK hN hO hM) rfl rfl hl.1 rfl (lv_room (Nat.le_of_ble_eq_true rfl)) d_SB_init_166 ⟨Nat.le_of_ble_eq_true rfl, Nat.le_of_ble_eq_true rfl⟩) hS (fun H locs hM hS => ?_)
  obtain ⟨M120, h121, hf⟩ := px_bind hf
  refine px_rsr hx hb hK hM hS 1 rfl rfl h121 d_SB_init_169 (fun H locs hM hS => ?_)
  refine lv_iinc (v := 7) (lv' := [(1, .int 7), (0, .ref o0)]) hx hb d_SB_init_170 hl (k := 0) rfl (by decide) (by decide) rfl (fun ls hl => ?_)
  refine lv_goto (tgt := 151) hx hb d_SB_init_173 (by decide) ?_
  refine lv_iload_n hx hb d_SB_init_151 rfl (lv_at hl 0 rfl) ?_
  refine lv_bipush (v := 10) hx hb d_SB_init_152 (by decide) ?_
  refine lv_icmp_ge (tgt := 176) hx hb d_SB_init_154 (by decide) (fun c122 => False.elim (by revert c122; decide)) (fun c122 => ?_)
  refine lv_aload_n hx hb d_SB_init_157 rfl (lv_at hl 1 rfl) ?_
  obtain ⟨t123, h124, hf⟩ := px_bind hf
  refine px_rgr hx hb hts cl_SB hown hK hM 5 (by decide) (hts _ w_297) h124 d_SB_init_158 ?_
  refine lv_iload_n hx hb d_SB_init_161 rfl (lv_at hl 0 rfl) ?_
  obtain ⟨M125, eM125, hf⟩ := px_bind hf
  refine px_rnew hx hb hts cl_NA hown (hts _ w_126) (hts _ w_240) (hts _ w_10) hK hM hS (fs := [.null, .int 0, .int 0]) (fun j hj => by rcases (show j = 0 ∨ j = 1 ∨ j = 2 by omega) with rfl | rfl | rfl <;> rfl) (by decide) (by decide) d_SB_init_162 (fun H hM hS => ?_)
  rw [Option.some.inj eM125] at hM
  refine lv_dup hx hb d_SB_init_165 rfl ?_
  obtain ⟨M126, h127, hf⟩ := px_bind hf
  refine px_callv (va_runIN (host := R_SB) (As := []) (rest := [.ref M120.2, .int 7, .ref t123]) ⟨hx, hb, hml, hown, hts⟩ (c_NA_init l bs D G M120.2 M125 h127) ⟨va_cnB 0 hts (px_gI w_243) rfl rfl rfl (hN _ n_241) (hts _ w_10) (by decide +kernel) ⟨Nat.le_of_ble_eq_true rfl, Nat.le_of_ble_eq_true rfl⟩, rfl, hts _ w_242⟩ (px_preS px_nwok hK hN hO hM) rfl rfl hl.1 rfl (lv_room (Nat.le_of_ble_eq_true rfl)) d_SB_init_166 ⟨Nat.le_of_ble_eq_true rfl, Nat.le_of_ble_eq_true rfl⟩) hS (fun H locs hM hS => ?_)
  obtain ⟨M128, h129, hf⟩ := px_bind hf
  refine px_rsr hx hb hK hM hS 1 rfl rfl h129 d_SB_init_169 (fun H locs hM hS => ?_)
  refine lv_iinc (v := 8) (lv' := [(1, .int 8), (0, .ref o0)]) hx hb d_SB_init_170 hl (k := 0) rfl (by decide) (by decide) rfl (fun ls hl => ?_)
  refine lv_goto (tgt := 151) hx hb d_SB_init_173 (by decide) ?_
  refine lv_iload_n hx hb d_SB_init_151 rfl (lv_at hl 0 rfl) ?_
  refine lv_bipush (v := 10) hx hb d_SB_init_152 (by decide) ?_
  refine lv_icmp_ge (tgt := 176) hx hb d_SB_init_154 (by decide) (fun c130 => False.elim (by revert c130; decide)) (fun c130 => ?_)
  refine lv_aload_n hx hb d_SB_init_157 rfl (lv_at hl 1 rfl) ?_
  obtain ⟨t131, h132, hf⟩ := px_bind hf
  refine px_rgr hx hb hts cl_SB hown hK hM 5 (by decide) (hts _ w_297) h132 d_SB_init_158 ?_
  refine lv_iload_n hx hb d_SB_init_161 rfl (lv_at hl 0 rfl) ?_
  obtain ⟨M133, eM133, hf⟩ := px_bind hf
  refine px_rnew hx hb hts cl_NA hown (hts _ w_126) (hts _ w_240) (hts _ w_10) hK hM hS (fs := [.null, .int 0, .int 0]) (fun j hj => by rcases (show j = 0 ∨ j = 1 ∨ j = 2 by omega) with rfl | rfl | rfl <;> rfl) (by decide) (by decide) d_SB_init_162 (fun H hM hS => ?_)
  rw [Option.some.inj eM133] at hM
  refine lv_dup hx hb d_SB_init_165 rfl ?_
  obtain ⟨M134, h135, hf⟩ := px_bind hf
  refine px_callv (va_runIN (host := R_SB) (As := []) (rest := [.ref M128.2, .int 8, .ref t131]) ⟨hx, hb, hml, hown, hts⟩ (c_NA_init l bs D G M128.2 M133 h135) ⟨va_cnB 0 hts (px_gI w_243) rfl rfl rfl (hN _ n_241) (hts _ w_10) (by decide +kernel) ⟨Nat.le_of_ble_eq_true rfl, Nat.le_of_ble_eq_true rfl⟩, rfl, hts _ w_242⟩ (px_preS px_nwok hK hN hO hM) rfl rfl hl.1 rfl (lv_room (Nat.le_of_ble_eq_true rfl)) d_SB_init_166 ⟨Nat.le_of_ble_eq_true rfl, Nat.le_of_ble_eq_true rfl⟩) hS (fun H locs hM hS => ?_)
  obtain ⟨M136, h137, hf⟩ := px_bind hf
  refine px_rsr hx hb hK hM hS 1 rfl rfl h137 d_SB_init_169 (fun H locs hM hS => ?_)
  refine lv_iinc (v := 9) (lv' := [(1, .int 9), (0, .ref o0)]) hx hb d_SB_init_170 hl (k := 0) rfl (by decide) (by decide) rfl (fun ls hl => ?_)
  refine lv_goto (tgt := 151) hx hb d_SB_init_173 (by decide) ?_
  refine lv_iload_n hx hb d_SB_init_151 rfl (lv_at hl 0 rfl) ?_
  refine lv_bipush (v := 10) hx hb d_SB_init_152 (by decide) ?_
  refine lv_icmp_ge (tgt := 176) hx hb d_SB_init_154 (by decide) (fun c138 => False.elim (by revert c138; decide)) (fun c138 => ?_)
  refine lv_aload_n hx hb d_SB_init_157 rfl (lv_at hl 1 rfl) ?_
  obtain ⟨t139, h140, hf⟩ := px_bind hf
  refine px_rgr hx hb hts cl_SB hown hK hM 5 (by decide) (hts _ w_297) h140 d_SB_init_158 ?_
  refine lv_iload_n hx hb d_SB_init_161 rfl (lv_at hl 0 rfl) ?_
  obtain ⟨M141, eM141, hf⟩ := px_bind hf
  refine px_rnew hx hb hts cl_NA hown (hts _ w_126) (hts _ w_240) (hts _ w_10) hK hM hS (fs := [.null, .int 0, .int 0]) (fun j hj => by rcases (show j = 0 ∨ j = 1 ∨ j = 2 by omega) with rfl | rfl | rfl <;> rfl) (by decide) (by decide) d_SB_init_162 (fun H hM hS => ?_)
  rw [Option.some.inj eM141] at hM
  refine lv_dup hx hb d_SB_init_165 rfl ?_
  obtain ⟨M142, h143, hf⟩ := px_bind hf
  refine px_callv (va_runIN (host := R_SB) (As := []) (rest := [.ref M136.2, .int 9, .ref t139]) ⟨hx, hb, hml, hown, hts⟩ (c_NA_init l bs D G M136.2 M141 h143) ⟨va_cnB 0 hts (px_gI w_243) rfl rfl rfl (hN _ n_241) (hts _ w_10) (by decide +kernel) ⟨Nat.le_of_ble_eq_true rfl, Nat.le_of_ble_eq_true rfl⟩, rfl, hts _ w_242⟩ (px_preS px_nwok hK hN hO hM) rfl rfl hl.1 rfl (lv_room (Nat.le_of_ble_eq_true rfl)) d_SB_init_166 ⟨Nat.le_of_ble_eq_true rfl, Nat.le_of_ble_eq_true rfl⟩) hS (fun H locs hM hS => ?_)
  obtain ⟨M144, h145, hf⟩ := px_bind hf
  refine px_rsr hx hb hK hM hS 1 rfl rfl h145 d_SB_init_169 (fun H locs hM hS => ?_)
  refine lv_iinc (v := 10) (lv' := [(1, .int 10), (0, .ref o0)]) hx hb d_SB_init_170 hl (k := 0) rfl (by decide) (by decide) rfl (fun ls hl => ?_)
  refine lv_goto (tgt := 151) hx hb d_SB_init_173 (by decide) ?_
  refine lv_iload_n hx hb d_SB_init_151 rfl (lv_at hl 0 rfl) ?_
  refine lv_bipush (v := 10) hx hb d_SB_init_152 (by decide) ?_
  refine lv_icmp_ge (tgt := 176) hx hb d_SB_init_154 (by decide) (fun c146 => ?_) (fun c146 => False.elim (by revert c146; decide))
  refine lv_iconst (v := 0) hx hb d_SB_init_176 (by decide) ?_
  refine lv_istore_n (lv' := [(1, .int 0), (0, .ref o0)]) hx hb d_SB_init_177 rfl hl (by decide) rfl (fun ls hl => ?_)
  refine lv_iload_n hx hb d_SB_init_178 rfl (lv_at hl 0 rfl) ?_
  refine lv_bipush (v := 8) hx hb d_SB_init_179 (by decide) ?_
  refine lv_icmp_ge (tgt := 203) hx hb d_SB_init_181 (by decide) (fun c147 => False.elim (by revert c147; decide)) (fun c147 => ?_)
  refine lv_aload_n hx hb d_SB_init_184 rfl (lv_at hl 1 rfl) ?_
  obtain ⟨t148, h149, hf⟩ := px_bind hf
  refine px_rgr hx hb hts cl_SB hown hK hM 8 (by decide) (hts _ w_300) h149 d_SB_init_185 ?_
  refine lv_iload_n hx hb d_SB_init_188 rfl (lv_at hl 0 rfl) ?_
  obtain ⟨M150, eM150, hf⟩ := px_bind hf
  refine px_rnew hx hb hts cl_BO hown (hts _ w_158) (hts _ w_262) (hts _ w_11) hK hM hS (fs := [.null, .null, .int 0, .int 0, .int 0]) (fun j hj => by rcases (show j = 0 ∨ j = 1 ∨ j = 2 ∨ j = 3 ∨ j = 4 by omega) with rfl | rfl | rfl | rfl | rfl <;> rfl) (by decide) (by decide) d_SB_init_189 (fun H hM hS => ?_)
  rw [Option.some.inj eM150] at hM
  refine lv_dup hx hb d_SB_init_192 rfl ?_
  obtain ⟨M151, h152, hf⟩ := px_bind hf
  refine px_callv (va_runIN (host := R_SB) (As := []) (rest := [.ref M144.2, .int 0, .ref t148]) ⟨hx, hb, hml, hown, hts⟩ (c_BO_init l bs D G M144.2 M150 h152) ⟨va_cnB 0 hts (px_gI w_265) rfl rfl rfl (hN _ n_263) (hts _ w_11) (by decide +kernel) ⟨Nat.le_of_ble_eq_true rfl, Nat.le_of_ble_eq_true rfl⟩, rfl, hts _ w_264⟩ (px_preS px_nwok hK hN hO hM) rfl rfl hl.1 rfl (lv_room (Nat.le_of_ble_eq_true rfl)) d_SB_init_193 ⟨Nat.le_of_ble_eq_true rfl, Nat.le_of_ble_eq_true rfl⟩) hS (fun H locs hM hS => ?_)
  obtain ⟨M153, h154, hf⟩ := px_bind hf
  refine px_rsr hx hb hK hM hS 2 rfl rfl h154 d_SB_init_196 (fun H locs hM hS => ?_)
  refine lv_iinc (v := 1) (lv' := [(1, .int 1), (0, .ref o0)]) hx hb d_SB_init_197 hl (k := 0) rfl (by decide) (by decide) rfl (fun ls hl => ?_)
  refine lv_goto (tgt := 178) hx hb d_SB_init_200 (by decide) ?_
  refine lv_iload_n hx hb d_SB_init_178 rfl (lv_at hl 0 rfl) ?_
  refine lv_bipush (v := 8) hx hb d_SB_init_179 (by decide) ?_
  refine lv_icmp_ge (tgt := 203) hx hb d_SB_init_181 (by decide) (fun c155 => False.elim (by revert c155; decide)) (fun c155 => ?_)
  refine lv_aload_n hx hb d_SB_init_184 rfl (lv_at hl 1 rfl) ?_
  obtain ⟨t156, h157, hf⟩ := px_bind hf
  refine px_rgr hx hb hts cl_SB hown hK hM 8 (by decide) (hts _ w_300) h157 d_SB_init_185 ?_
  refine lv_iload_n hx hb d_SB_init_188 rfl (lv_at hl 0 rfl) ?_
  obtain ⟨M158, eM158, hf⟩ := px_bind hf
  refine px_rnew hx hb hts cl_BO hown (hts _ w_158) (hts _ w_262) (hts _ w_11) hK hM hS (fs := [.null, .null, .int 0, .int 0, .int 0]) (fun j hj => by rcases (show j = 0 ∨ j = 1 ∨ j = 2 ∨ j = 3 ∨ j = 4 by omega) with rfl | rfl | rfl | rfl | rfl <;> rfl) (by decide) (by decide) d_SB_init_189 (fun H hM hS => ?_)
  rw [Option.some.inj eM158] at hM
  refine lv_dup hx hb d_SB_init_192 rfl ?_
  obtain ⟨M159, h160, hf⟩ := px_bind hf
  refine px_callv (va_runIN (host := R_SB) (As := []) (rest := [.ref M153.2, .int 1, .ref t156]) ⟨hx, hb, hml, hown, hts⟩ (c_BO_init l bs D G M153.2 M158 h160) ⟨va_cnB 0 hts (px_gI w_265) rfl rfl rfl (hN _ n_263) (hts _ w_11) (by decide +kernel) ⟨Nat.le_of_ble_eq_true rfl, Nat.le_of_ble_eq_true rfl⟩, rfl, hts _ w_264⟩ (px_preS px_nwok hK hN hO hM) rfl rfl hl.1 rfl (lv_room (Nat.le_of_ble_eq_true rfl)) d_SB_init_193 ⟨Nat.le_of_ble_eq_true rfl, Nat.le_of_ble_eq_true rfl⟩) hS (fun H locs hM hS => ?_)
  obtain ⟨M161, h162, hf⟩ := px_bind hf
  refine px_rsr hx hb hK hM hS 2 rfl rfl h162 d_SB_init_196 (fun H locs hM hS => ?_)
  refine lv_iinc (v := 2) (lv' := [(1, .int 2), (0, .ref o0)]) hx hb d_SB_init_197 hl (k := 0) rfl (by decide) (by decide) rfl (fun ls hl => ?_)
  refine lv_goto (tgt := 178) hx hb d_SB_init_200 (by decide) ?_
  refine lv_iload_n hx hb d_SB_init_178 rfl (lv_at hl 0 rfl) ?_
  refine lv_bipush (v := 8) hx hb d_SB_init_179 (by decide) ?_
  refine lv_icmp_ge (tgt := 203) hx hb d_SB_init_181 (by decide) (fun c163 => False.elim (by revert c163; decide)) (fun c163 => ?_)
  refine lv_aload_n hx hb d_SB_init_184 rfl (lv_at hl 1 rfl) ?_
  obtain ⟨t164, h165, hf⟩ := px_bind hf
  refine px_rgr hx hb hts cl_SB hown hK hM 8 (by decide) (hts _ w_300) h165 d_SB_init_185 ?_
  refine lv_iload_n hx hb d_SB_init_188 rfl (lv_at hl 0 rfl) ?_
  obtain ⟨M166, eM166, hf⟩ := px_bind hf
  refine px_rnew hx hb hts cl_BO hown (hts _ w_158) (hts _ w_262) (hts _ w_11) hK hM hS (fs := [.null, .null, .int 0, .int 0, .int 0]) (fun j hj => by rcases (show j = 0 ∨ j = 1 ∨ j = 2 ∨ j = 3 ∨ j = 4 by omega) with rfl | rfl | rfl | rfl | rfl <;> rfl) (by decide) (by decide) d_SB_init_189 (fun H hM hS => ?_)
  rw [Option.some.inj eM166] at hM
  refine lv_dup hx hb d_SB_init_192 rfl ?_
  obtain ⟨M167, h168, hf⟩ := px_bind hf
  refine px_callv (va_runIN (host := R_SB) (As := []) (rest := [.ref M161.2, .int 2, .ref t164]) ⟨hx, hb, hml, hown, hts⟩ (c_BO_init l bs D G M161.2 M166 h168) ⟨va_cnB 0 hts (px_gI w_265) rfl rfl rfl (hN _ n_263) (hts _ w_11) (by decide +kernel) ⟨Nat.le_of_ble_eq_true rfl, Nat.le_of_ble_eq_true rfl⟩, rfl, hts _ w_264⟩ (px_preS px_nwok hK hN hO hM) rfl rfl hl.1 rfl (lv_room (Nat.le_of_ble_eq_true rfl)) d_SB_init_193 ⟨Nat.le_of_ble_eq_true rfl, Nat.le_of_ble_eq_true rfl⟩) hS (fun H locs hM hS => ?_)
  obtain ⟨M169, h170, hf⟩ := px_bind hf
  refine px_rsr hx hb hK hM hS 2 rfl rfl h170 d_SB_init_196 (fun H locs hM hS => ?_)
  refine lv_iinc (v := 3) (lv' := [(1, .int 3), (0, .ref o0)]) hx hb d_SB_init_197 hl (k := 0) rfl (by decide) (by decide) rfl (fun ls hl => ?_)
  refine lv_goto (tgt := 178) hx hb d_SB_init_200 (by decide) ?_
  refine lv_iload_n hx hb d_SB_init_178 rfl (lv_at hl 0 rfl) ?_
  refine lv_bipush (v := 8) hx hb d_SB_init_179 (by decide) ?_
  refine lv_icmp_ge (tgt := 203) hx hb d_SB_init_181 (by decide) (fun c171 => False.elim (by revert c171; decide)) (fun c171 => ?_)
  refine lv_aload_n hx hb d_SB_init_184 rfl (lv_at hl 1 rfl) ?_
  obtain ⟨t172, h173, hf⟩ := px_bind hf
  refine px_rgr hx hb hts cl_SB hown hK hM 8 (by decide) (hts _ w_300) h173 d_SB_init_185 ?_
  refine lv_iload_n hx hb d_SB_init_188 rfl (lv_at hl 0 rfl) ?_
  obtain ⟨M174, eM174, hf⟩ := px_bind hf
  refine px_rnew hx hb hts cl_BO hown (hts _ w_158) (hts _ w_262) (hts _ w_11) hK hM hS (fs := [.null, .null, .int 0, .int 0, .int 0]) (fun j hj => by rcases (show j = 0 ∨ j = 1 ∨ j = 2 ∨ j = 3 ∨ j = 4 by omega) with rfl | rfl | rfl | rfl | rfl <;> rfl) (by decide) (by decide) d_SB_init_189 (fun H hM hS => ?_)
  rw [Option.some.inj eM174] at hM
  refine lv_dup hx hb d_SB_init_192 rfl ?_
  obtain ⟨M175, h176, hf⟩ := px_bind hf
  refine px_callv (va_runIN (host := R_SB) (As := []) (rest := [.ref M169.2, .int 3, .ref t172]) ⟨hx, hb, hml, hown, hts⟩ (c_BO_init l bs D G M169.2 M174 h176) ⟨va_cnB 0 hts (px_gI w_265) rfl rfl rfl (hN _ n_263) (hts _ w_11) (by decide +kernel) ⟨Nat.le_of_ble_eq_true rfl, Nat.le_of_ble_eq_true rfl⟩, rfl, hts _ w_264⟩ (px_preS px_nwok hK hN hO hM) rfl rfl hl.1 rfl (lv_room (Nat.le_of_ble_eq_true rfl)) d_SB_init_193 ⟨Nat.le_of_ble_eq_true rfl, Nat.le_of_ble_eq_true rfl⟩) hS (fun H locs hM hS => ?_)
  obtain ⟨M177, h178, hf⟩ := px_bind hf
  refine px_rsr hx hb hK hM hS 2 rfl rfl h178 d_SB_init_196 (fun H locs hM hS => ?_)
  refine lv_iinc (v := 4) (lv' := [(1, .int 4), (0, .ref o0)]) hx hb d_SB_init_197 hl (k := 0) rfl (by decide) (by decide) rfl (fun ls hl => ?_)
  refine lv_goto (tgt := 178) hx hb d_SB_init_200 (by decide) ?_
  refine lv_iload_n hx hb d_SB_init_178 rfl (lv_at hl 0 rfl) ?_
  refine lv_bipush (v := 8) hx hb d_SB_init_179 (by decide) ?_
  refine lv_icmp_ge (tgt := 203) hx hb d_SB_init_181 (by decide) (fun c179 => False.elim (by revert c179; decide)) (fun c179 => ?_)
  refine lv_aload_n hx hb d_SB_init_184 rfl (lv_at hl 1 rfl) ?_
  obtain ⟨t180, h181, hf⟩ := px_bind hf
  refine px_rgr hx hb hts cl_SB hown hK hM 8 (by decide) (hts _ w_300) h181 d_SB_init_185 ?_
  refine lv_iload_n hx hb d_SB_init_188 rfl (lv_at hl 0 rfl) ?_
  obtain ⟨M182, eM182, hf⟩ := px_bind hf
  refine px_rnew hx hb hts cl_BO hown (hts _ w_158) (hts _ w_262) (hts _ w_11) hK hM hS (fs := [.null, .null, .int 0, .int 0, .int 0]) (fun j hj => by rcases (show j = 0 ∨ j = 1 ∨ j = 2 ∨ j = 3 ∨ j = 4 by omega) with rfl | rfl | rfl | rfl | rfl <;> rfl) (by decide) (by decide) d_SB_init_189 (fun H hM hS => ?_)
  rw [Option.some.inj eM182] at hM
  refine lv_dup hx hb d_SB_init_192 rfl ?_
  obtain ⟨M183, h184, hf⟩ := px_bind hf
  refine px_callv (va_runIN (host := R_SB) (As := []) (rest := [.ref M177.2, .int 4, .ref t180]) ⟨hx, hb, hml, hown, hts⟩ (c_BO_init l bs D G M177.2 M182 h184) ⟨va_cnB 0 hts (px_gI w_265) rfl rfl rfl (hN _ n_263) (hts _ w_11) (by decide +kernel) ⟨Nat.le_of_ble_eq_true rfl, Nat.le_of_ble_eq_true rfl⟩, rfl, hts _ w_264⟩ (px_preS px_nwok hK hN hO hM) rfl rfl hl.1 rfl (lv_room (Nat.le_of_ble_eq_true rfl)) d_SB_init_193 ⟨Nat.le_of_ble_eq_true rfl, Nat.le_of_ble_eq_true rfl⟩) hS (fun H locs hM hS => ?_)
  obtain ⟨M185, h186, hf⟩ := px_bind hf
  refine px_rsr hx hb hK hM hS 2 rfl rfl h186 d_SB_init_196 (fun H locs hM hS => ?_)
  refine lv_iinc (v := 5) (lv' := [(1, .int 5), (0, .ref o0)]) hx hb d_SB_init_197 hl (k := 0) rfl (by decide) (by decide) rfl (fun ls hl => ?_)
  refine lv_goto (tgt := 178) hx hb d_SB_init_200 (by decide) ?_
  refine lv_iload_n hx hb d_SB_init_178 rfl (lv_at hl 0 rfl) ?_
  refine lv_bipush (v := 8) hx hb d_SB_init_179 (by decide) ?_
  refine lv_icmp_ge (tgt := 203) hx hb d_SB_init_181 (by decide) (fun c187 => False.elim (by revert c187; decide)) (fun c187 => ?_)
  refine lv_aload_n hx hb d_SB_init_184 rfl (lv_at hl 1 rfl) ?_
  obtain ⟨t188, h189, hf⟩ := px_bind hf
  refine px_rgr hx hb hts cl_SB hown hK hM 8 (by decide) (hts _ w_300) h189 d_SB_init_185 ?_
  refine lv_iload_n hx hb d_SB_init_188 rfl (lv_at hl 0 rfl) ?_
  obtain ⟨M190, eM190, hf⟩ := px_bind hf
  refine px_rnew hx hb hts cl_BO hown (hts _ w_158) (hts _ w_262) (hts _ w_11) hK hM hS (fs := [.null, .null, .int 0, .int 0, .int 0]) (fun j hj => by rcases (show j = 0 ∨ j = 1 ∨ j = 2 ∨ j = 3 ∨ j = 4 by omega) with rfl | rfl | rfl | rfl | rfl <;> rfl) (by decide) (by decide) d_SB_init_189 (fun H hM hS => ?_)
  rw [Option.some.inj eM190] at hM
  refine lv_dup hx hb d_SB_init_192 rfl ?_
  obtain ⟨M191, h192, hf⟩ := px_bind hf
  refine px_callv (va_runIN (host := R_SB) (As := []) (rest := [.ref M185.2, .int 5, .ref t188]) ⟨hx, hb, hml, hown, hts⟩ (c_BO_init l bs D G M185.2 M190 h192) ⟨va_cnB 0 hts (px_gI w_265) rfl rfl rfl (hN _ n_263) (hts _ w_11) (by decide +kernel) ⟨Nat.le_of_ble_eq_true rfl, Nat.le_of_ble_eq_true rfl⟩, rfl, hts _ w_264⟩ (px_preS px_nwok hK hN hO hM) rfl rfl hl.1 rfl (lv_room (Nat.le_of_ble_eq_true rfl)) d_SB_init_193 ⟨Nat.le_of_ble_eq_true rfl, Nat.le_of_ble_eq_true rfl⟩) hS (fun H locs hM hS => ?_)
  obtain ⟨M193, h194, hf⟩ := px_bind hf
  refine px_rsr hx hb hK hM hS 2 rfl rfl h194 d_SB_init_196 (fun H locs hM hS => ?_)
  refine lv_iinc (v := 6) (lv' := [(1, .int 6), (0, .ref o0)]) hx hb d_SB_init_197 hl (k := 0) rfl (by decide) (by decide) rfl (fun ls hl => ?_)
  refine lv_goto (tgt := 178) hx hb d_SB_init_200 (by decide) ?_
  refine lv_iload_n hx hb d_SB_init_178 rfl (lv_at hl 0 rfl) ?_
  refine lv_bipush (v := 8) hx hb d_SB_init_179 (by decide) ?_
  refine lv_icmp_ge (tgt := 203) hx hb d_SB_init_181 (by decide) (fun c195 => False.elim (by revert c195; decide)) (fun c195 => ?_)
  refine lv_aload_n hx hb d_SB_init_184 rfl (lv_at hl 1 rfl) ?_
  obtain ⟨t196, h197, hf⟩ := px_bind hf
  refine px_rgr hx hb hts cl_SB hown hK hM 8 (by decide) (hts _ w_300) h197 d_SB_init_185 ?_
  refine lv_iload_n hx hb d_SB_init_188 rfl (lv_at hl 0 rfl) ?_
  obtain ⟨M198, eM198, hf⟩ := px_bind hf
  refine px_rnew hx hb hts cl_BO hown (hts _ w_158) (hts _ w_262) (hts _ w_11) hK hM hS (fs := [.null, .null, .int 0, .int 0, .int 0]) (fun j hj => by rcases (show j = 0 ∨ j = 1 ∨ j = 2 ∨ j = 3 ∨ j = 4 by omega) with rfl | rfl | rfl | rfl | rfl <;> rfl) (by decide) (by decide) d_SB_init_189 (fun H hM hS => ?_)
  rw [Option.some.inj eM198] at hM
  refine lv_dup hx hb d_SB_init_192 rfl ?_
  obtain ⟨M199, h200, hf⟩ := px_bind hf
  refine px_callv (va_runIN (host := R_SB) (As := []) (rest := [.ref M193.2, .int 6, .ref t196]) ⟨hx, hb, hml, hown, hts⟩ (c_BO_init l bs D G M193.2 M198 h200) ⟨va_cnB 0 hts (px_gI w_265) rfl rfl rfl (hN _ n_263) (hts _ w_11) (by decide +kernel) ⟨Nat.le_of_ble_eq_true rfl, Nat.le_of_ble_eq_true rfl⟩, rfl, hts _ w_264⟩ (px_preS px_nwok hK hN hO hM) rfl rfl hl.1 rfl (lv_room (Nat.le_of_ble_eq_true rfl)) d_SB_init_193 ⟨Nat.le_of_ble_eq_true rfl, Nat.le_of_ble_eq_true rfl⟩) hS (fun H locs hM hS => ?_)
  obtain ⟨M201, h202, hf⟩ := px_bind hf
  refine px_rsr hx hb hK hM hS 2 rfl rfl h202 d_SB_init_196 (fun H locs hM hS => ?_)
  refine lv_iinc (v := 7) (lv' := [(1, .int 7), (0, .ref o0)]) hx hb d_SB_init_197 hl (k := 0) rfl (by decide) (by decide) rfl (fun ls hl => ?_)
  refine lv_goto (tgt := 178) hx hb d_SB_init_200 (by decide) ?_
  refine lv_iload_n hx hb d_SB_init_178 rfl (lv_at hl 0 rfl) ?_
  refine lv_bipush (v := 8) hx hb d_SB_init_179 (by decide) ?_
  refine lv_icmp_ge (tgt := 203) hx hb d_SB_init_181 (by decide) (fun c203 => False.elim (by revert c203; decide)) (fun c203 => ?_)
  refine lv_aload_n hx hb d_SB_init_184 rfl (lv_at hl 1 rfl) ?_
  obtain ⟨t204, h205, hf⟩ := px_bind hf
  refine px_rgr hx hb hts cl_SB hown hK hM 8 (by decide) (hts _ w_300) h205 d_SB_init_185 ?_
  refine lv_iload_n hx hb d_SB_init_188 rfl (lv_at hl 0 rfl) ?_
  obtain ⟨M206, eM206, hf⟩ := px_bind hf
  refine px_rnew hx hb hts cl_BO hown (hts _ w_158) (hts _ w_262) (hts _ w_11) hK hM hS (fs := [.null, .null, .int 0, .int 0, .int 0]) (fun j hj => by rcases (show j = 0 ∨ j = 1 ∨ j = 2 ∨ j = 3 ∨ j = 4 by omega) with rfl | rfl | rfl | rfl | rfl <;> rfl) (by decide) (by decide) d_SB_init_189 (fun H hM hS => ?_)
  rw [Option.some.inj eM206] at hM
  refine lv_dup hx hb d_SB_init_192 rfl ?_
  obtain ⟨M207, h208, hf⟩ := px_bind hf
  refine px_callv (va_runIN (host := R_SB) (As := []) (rest := [.ref M201.2, .int 7, .ref t204]) ⟨hx, hb, hml, hown, hts⟩ (c_BO_init l bs D G M201.2 M206 h208) ⟨va_cnB 0 hts (px_gI w_265) rfl rfl rfl (hN _ n_263) (hts _ w_11) (by decide +kernel) ⟨Nat.le_of_ble_eq_true rfl, Nat.le_of_ble_eq_true rfl⟩, rfl, hts _ w_264⟩ (px_preS px_nwok hK hN hO hM) rfl rfl hl.1 rfl (lv_room (Nat.le_of_ble_eq_true rfl)) d_SB_init_193 ⟨Nat.le_of_ble_eq_true rfl, Nat.le_of_ble_eq_true rfl⟩) hS (fun H locs hM hS => ?_)
  obtain ⟨M209, h210, hf⟩ := px_bind hf
  refine px_rsr hx hb hK hM hS 2 rfl rfl h210 d_SB_init_196 (fun H locs hM hS => ?_)
  refine lv_iinc (v := 8) (lv' := [(1, .int 8), (0, .ref o0)]) hx hb d_SB_init_197 hl (k := 0) rfl (by decide) (by decide) rfl (fun ls hl => ?_)
  refine lv_goto (tgt := 178) hx hb d_SB_init_200 (by decide) ?_
  refine lv_iload_n hx hb d_SB_init_178 rfl (lv_at hl 0 rfl) ?_
  refine lv_bipush (v := 8) hx hb d_SB_init_179 (by decide) ?_
  refine lv_icmp_ge (tgt := 203) hx hb d_SB_init_181 (by decide) (fun c211 => ?_) (fun c211 => False.elim (by revert c211; decide))
  obtain rfl := px_s1 hf
  exact px_vret hx hb hr hlocks hM hS d_SB_init_203
def f_SB_isWithin (x0 : Int32) (x1 : Int32) (x2 : Int32) (M : px_M) : Option (Int32 × px_M) :=
  if x0 < x1 then
  some (0, M)
  else
  if x2 < x0 then
  some (0, M)
  else
  some (1, M)
set_option maxHeartbeats 4000000 in
set_option maxRecDepth 100000 in
theorem c_SB_isWithin (l : Launch) (bs : Nat) (D : va_G) (G : Nat → ClassId) (x0 : Int32) (x1 : Int32) (x2 : Int32) (M : px_M) {r : Int32} {M' : px_M} (hf : f_SB_isWithin x0 x1 x2 M = some (r, M')) : Met l y_SB_isWithin (.code y_SB_isWithin b_SB_isWithin 3 (some .boolean) :: px_tw) ⟨0, 0, 0, 0⟩ (va_Pc [.int x0, .int x1, .int x2] (px_B bs D px_cl (px_tys G) px_nw px_over M)) (px_Qi bs D px_cl (px_tys G) r M') 0 0 (fun q => bs ≤ q) := by
  refine px_of (by decide) (Nat.le_of_ble_eq_true rfl) ?_
  intro p e s m below meth c ls C0 hM hS hl
  obtain ⟨hx, hb, hr, hml, hown, hnm, hlocks, hts, hK, hN, hO⟩ := C0
  have hl : lv_has ls 3 [(0, .int x0), (1, .int x1), (2, .int x2)] := hl
  unfold f_SB_isWithin at hf
  refine lv_iload_n hx hb d_SB_isWithin_0 rfl (lv_at hl 0 rfl) ?_
  refine lv_iload_n hx hb d_SB_isWithin_1 rfl (lv_at hl 1 rfl) ?_
  refine lv_icmp_lt (tgt := 14) hx hb d_SB_isWithin_2 (by decide) (fun c1 => ?_) (fun c1 => ?_)
  · have hf := px_ift hf c1
    refine lv_iconst (v := 0) hx hb d_SB_isWithin_14 (by decide) ?_
    obtain ⟨rfl, rfl⟩ := px_s2 hf
    exact px_zret hx hb hr rfl hlocks hM hS d_SB_isWithin_15
  · have hf := px_iff hf c1
    refine lv_iload_n hx hb d_SB_isWithin_5 rfl (lv_at hl 0 rfl) ?_
    refine lv_iload_n hx hb d_SB_isWithin_6 rfl (lv_at hl 2 rfl) ?_
    refine lv_icmp_gt (tgt := 14) hx hb d_SB_isWithin_7 (by decide) (fun c2 => ?_) (fun c2 => ?_)
    · have hf := px_ift hf c2
      refine lv_iconst (v := 0) hx hb d_SB_isWithin_14 (by decide) ?_
      obtain ⟨rfl, rfl⟩ := px_s2 hf
      exact px_zret hx hb hr rfl hlocks hM hS d_SB_isWithin_15
    · have hf := px_iff hf c2
      refine lv_iconst (v := 1) hx hb d_SB_isWithin_10 (by decide) ?_
      refine lv_goto (tgt := 15) hx hb d_SB_isWithin_11 (by decide) ?_
      obtain ⟨rfl, rfl⟩ := px_s2 hf
      exact px_zret hx hb hr rfl hlocks hM hS d_SB_isWithin_15
def f_SB_isLetter (x0 : Int32) (M : px_M) : Option (Int32 × px_M) :=
  (f_SB_isWithin x0 32 126 M).bind fun (v3, M1) =>
  if v3 = 0 ∨ v3 = 1 then
  some (v3, M1)
  else none
set_option maxHeartbeats 4000000 in
set_option maxRecDepth 100000 in
theorem c_SB_isLetter (l : Launch) (bs : Nat) (D : va_G) (G : Nat → ClassId) (x0 : Int32) (M : px_M) {r : Int32} {M' : px_M} (hf : f_SB_isLetter x0 M = some (r, M')) : Met l y_SB_isLetter (.code y_SB_isLetter b_SB_isLetter 1 (some .boolean) :: px_tw) ⟨1, 0, 0, 22⟩ (va_Pc [.int x0] (px_B bs D px_cl (px_tys G) px_nw px_over M)) (px_Qi bs D px_cl (px_tys G) r M') 0 0 (fun q => bs ≤ q) := by
  refine px_of (by decide) (Nat.le_of_ble_eq_true rfl) ?_
  intro p e s m below meth c ls C0 hM hS hl
  obtain ⟨hx, hb, hr, hml, hown, hnm, hlocks, hts, hK, hN, hO⟩ := C0
  have hl : lv_has ls 1 [(0, .int x0)] := hl
  unfold f_SB_isLetter at hf
  refine lv_iload_n hx hb d_SB_isLetter_0 rfl (lv_at hl 0 rfl) ?_
  refine lv_bipush (v := 32) hx hb d_SB_isLetter_1 (by decide) ?_
  refine lv_bipush (v := 126) hx hb d_SB_isLetter_3 (by decide) ?_
  obtain ⟨⟨v3, M1⟩, h2, hf⟩ := px_bind hf
  dsimp only at hf
  refine px_calli (va_runS (As := [.int x0, .int 32, .int 126]) (rest := []) ⟨hx, hb, hml, hown, hts⟩ (c_SB_isWithin l bs D G x0 32 126 M h2) (cwS 3 hts (px_gS w_339 w_340 w_1 w_341) rfl rfl rfl (by decide +kernel) ⟨Nat.le_of_ble_eq_true rfl, Nat.le_of_ble_eq_true rfl⟩) (px_preS px_nwok hK hN hO hM) rfl rfl hl.1 rfl (lv_room (Nat.le_of_ble_eq_true rfl)) d_SB_isLetter_5 ⟨Nat.le_of_ble_eq_true rfl, Nat.le_of_ble_eq_true rfl⟩) hS (fun H locs hM hS => ?_)
  have hz : v3 = 0 ∨ v3 = 1 := Classical.byContradiction fun q => (by have q2 := px_iff hf q; cases q2)
  have hf := px_ift hf hz
  obtain ⟨rfl, rfl⟩ := px_s2 hf
  exact px_zret hx hb hr (px_nz hz) hlocks hM hS d_SB_isLetter_8
def f_TX_add (o0 : Nat) (x1 : Int32) (M : px_M) : Option (Int32 × px_M) :=
  (px_gi 1 1 M o0).bind fun v1 =>
  if v1 < 100 then
  (px_gr 1 0 M o0).bind fun t4 =>
  (px_gi 1 1 M o0).bind fun v6 =>
  (px_si 0 M t4 v6 x1).bind fun M8 =>
  (px_gi 1 1 M8 o0).bind fun v10 =>
  (px_pt 1 1 M8 o0 (.int (v10 + 1))).bind fun M12 =>
  some (1, M12)
  else
  some (0, M)
set_option maxHeartbeats 4000000 in
set_option maxRecDepth 100000 in
theorem c_TX_add (l : Launch) (bs : Nat) (D : va_G) (G : Nat → ClassId) (o0 : Nat) (x1 : Int32) (M : px_M) {r : Int32} {M' : px_M} (hf : f_TX_add o0 x1 M = some (r, M')) : Met l y_TX_add (.code y_TX_add b_TX_add 2 (some .boolean) :: px_tw) ⟨0, 0, 0, 0⟩ (va_Pc [.ref o0, .int x1] (px_B bs D px_cl (px_tys G) px_nw px_over M)) (px_Qi bs D px_cl (px_tys G) r M') 0 0 (fun q => bs ≤ q) := by
  refine px_of (by decide) (Nat.le_of_ble_eq_true rfl) ?_
  intro p e s m below meth c ls C0 hM hS hl
  obtain ⟨hx, hb, hr, hml, hown, hnm, hlocks, hts, hK, hN, hO⟩ := C0
  have hl : lv_has ls 2 [(0, .ref o0), (1, .int x1)] := hl
  unfold f_TX_add at hf
  refine lv_aload_n hx hb d_TX_add_0 rfl (lv_at hl 0 rfl) ?_
  obtain ⟨v1, h2, hf⟩ := px_bind hf
  refine px_rgi hx hb hts cl_TX hown hK hM 1 (by decide) (hts _ w_29) h2 d_TX_add_1 ?_
  refine lv_bipush (v := 100) hx hb d_TX_add_4 (by decide) ?_
  refine lv_icmp_lt (tgt := 11) hx hb d_TX_add_6 (by decide) (fun c3 => ?_) (fun c3 => ?_)
  · have hf := px_ift hf c3
    refine lv_aload_n hx hb d_TX_add_11 rfl (lv_at hl 0 rfl) ?_
    obtain ⟨t4, h5, hf⟩ := px_bind hf
    refine px_rgr hx hb hts cl_TX hown hK hM 0 (by decide) (hts _ w_28) h5 d_TX_add_12 ?_
    refine lv_aload_n hx hb d_TX_add_15 rfl (lv_at hl 0 rfl) ?_
    obtain ⟨v6, h7, hf⟩ := px_bind hf
    refine px_rgi hx hb hts cl_TX hown hK hM 1 (by decide) (hts _ w_29) h7 d_TX_add_16 ?_
    refine lv_iload_n hx hb d_TX_add_19 rfl (lv_at hl 1 rfl) ?_
    obtain ⟨M8, h9, hf⟩ := px_bind hf
    refine px_rsi hx hb hK hM hS 0 rfl h9 d_TX_add_20 (fun H locs hM hS => ?_)
    refine lv_aload_n hx hb d_TX_add_21 rfl (lv_at hl 0 rfl) ?_
    refine lv_dup hx hb d_TX_add_22 rfl ?_
    obtain ⟨v10, h11, hf⟩ := px_bind hf
    refine px_rgi hx hb hts cl_TX hown hK hM 1 (by decide) (hts _ w_29) h11 d_TX_add_23 ?_
    refine lv_iconst (v := 1) hx hb d_TX_add_26 (by decide) ?_
    refine lv_iadd hx hb d_TX_add_27 ?_
    obtain ⟨M12, h13, hf⟩ := px_bind hf
    refine px_rpt hx hb hts cl_TX hown hK hM hS 1 (by decide) (hts _ w_29) rfl rfl rfl h13 d_TX_add_28 (fun H locs hM hS => ?_)
    refine lv_iconst (v := 1) hx hb d_TX_add_31 (by decide) ?_
    obtain ⟨rfl, rfl⟩ := px_s2 hf
    exact px_zret hx hb hr rfl hlocks hM hS d_TX_add_32
  · have hf := px_iff hf c3
    refine lv_iconst (v := 0) hx hb d_TX_add_9 (by decide) ?_
    obtain ⟨rfl, rfl⟩ := px_s2 hf
    exact px_zret hx hb hr rfl hlocks hM hS d_TX_add_10
def f_SB_unit (o0 : Nat) (x1 : Int32) (M : px_M) : Option (Int32 × px_M) :=
  (f_SB_isLetter x1 M).bind fun (v3, M1) =>
  if v3 = 0 then
  some (0, M1)
  else
  (px_gr 0 0 M1 o0).bind fun t5 =>
  (px_ob 1 M1 t5).bind fun _ =>
  (f_TX_add t5 x1 M1).bind fun (v9, M7) =>
  if v9 = 0 then
  some (0, M7)
  else
  some (1, M7)
set_option maxHeartbeats 4000000 in
set_option maxRecDepth 100000 in
theorem c_SB_unit (l : Launch) (bs : Nat) (D : va_G) (G : Nat → ClassId) (o0 : Nat) (x1 : Int32) (M : px_M) {r : Int32} {M' : px_M} (hf : f_SB_unit o0 x1 M = some (r, M')) : Met l y_SB_unit (.code y_SB_unit b_SB_unit 2 (some .boolean) :: px_tw) ⟨2, 0, 0, 42⟩ (va_Pc [.ref o0, .int x1] (px_B bs D px_cl (px_tys G) px_nw px_over M)) (px_Qi bs D px_cl (px_tys G) r M') 0 0 (fun q => bs ≤ q) := by
  refine px_of (by decide) (Nat.le_of_ble_eq_true rfl) ?_
  intro p e s m below meth c ls C0 hM hS hl
  obtain ⟨hx, hb, hr, hml, hown, hnm, hlocks, hts, hK, hN, hO⟩ := C0
  have hl : lv_has ls 2 [(0, .ref o0), (1, .int x1)] := hl
  unfold f_SB_unit at hf
  refine lv_iload_n hx hb d_SB_unit_0 rfl (lv_at hl 1 rfl) ?_
  obtain ⟨⟨v3, M1⟩, h2, hf⟩ := px_bind hf
  dsimp only at hf
  refine px_calli (va_runS (As := [.int x1]) (rest := []) ⟨hx, hb, hml, hown, hts⟩ (c_SB_isLetter l bs D G x1 M h2) (cwS 1 hts (px_gS w_336 w_337 w_1 w_338) rfl rfl rfl (by decide +kernel) ⟨Nat.le_of_ble_eq_true rfl, Nat.le_of_ble_eq_true rfl⟩) (px_preS px_nwok hK hN hO hM) rfl rfl hl.1 rfl (lv_room (Nat.le_of_ble_eq_true rfl)) d_SB_unit_1 ⟨Nat.le_of_ble_eq_true rfl, Nat.le_of_ble_eq_true rfl⟩) hS (fun H locs hM hS => ?_)
  refine lv_if_eq (tgt := 22) hx hb d_SB_unit_4 (by decide) (fun c4 => ?_) (fun c4 => ?_)
  · have hf := px_ift hf c4
    refine lv_iconst (v := 0) hx hb d_SB_unit_22 (by decide) ?_
    obtain ⟨rfl, rfl⟩ := px_s2 hf
    exact px_zret hx hb hr rfl hlocks hM hS d_SB_unit_23
  · have hf := px_iff hf c4
    refine lv_aload_n hx hb d_SB_unit_7 rfl (lv_at hl 0 rfl) ?_
    obtain ⟨t5, h6, hf⟩ := px_bind hf
    refine px_rgr hx hb hts cl_SB hown hK hM 0 (by decide) (hts _ w_292) h6 d_SB_unit_8 ?_
    refine lv_iload_n hx hb d_SB_unit_11 rfl (lv_at hl 1 rfl) ?_
    obtain ⟨_, h11, hf⟩ := px_bind hf
    obtain ⟨⟨v9, M7⟩, h8, hf⟩ := px_bind hf
    dsimp only at hf
    refine px_calli (va_runV (As := [.int x1]) (rest := []) ⟨hx, hb, hml, hown, hts⟩ (c_TX_add l bs D G t5 x1 M1 h8) (cwV 1 hts (px_gV w_342 w_343 w_344 w_2 w_345) rfl rfl rfl (by decide +kernel) ⟨Nat.le_of_ble_eq_true rfl, Nat.le_of_ble_eq_true rfl⟩) (px_preV px_nwok hK hN hO hM h11 rfl) rfl rfl hl.1 rfl (lv_room (Nat.le_of_ble_eq_true rfl)) d_SB_unit_12 ⟨Nat.le_of_ble_eq_true rfl, Nat.le_of_ble_eq_true rfl⟩) hS (fun H locs hM hS => ?_)
    refine lv_if_eq (tgt := 22) hx hb d_SB_unit_15 (by decide) (fun c10 => ?_) (fun c10 => ?_)
    · have hf := px_ift hf c10
      refine lv_iconst (v := 0) hx hb d_SB_unit_22 (by decide) ?_
      obtain ⟨rfl, rfl⟩ := px_s2 hf
      exact px_zret hx hb hr rfl hlocks hM hS d_SB_unit_23
    · have hf := px_iff hf c10
      refine lv_iconst (v := 1) hx hb d_SB_unit_18 (by decide) ?_
      refine lv_goto (tgt := 23) hx hb d_SB_unit_19 (by decide) ?_
      obtain ⟨rfl, rfl⟩ := px_s2 hf
      exact px_zret hx hb hr rfl hlocks hM hS d_SB_unit_23
def f_TX_signAt (o0 : Nat) (x1 : Int32) (M : px_M) : Option (Int32 × px_M) :=
  if x1 < 0 then
  some ((-1), M)
  else
  (px_gi 1 1 M o0).bind fun v2 =>
  if v2 ≤ x1 then
  some ((-1), M)
  else
  (px_gr 1 0 M o0).bind fun t5 =>
  (px_ai 0 M t5 x1).bind fun v7 =>
  some (v7, M)
set_option maxHeartbeats 4000000 in
set_option maxRecDepth 100000 in
theorem c_TX_signAt (l : Launch) (bs : Nat) (D : va_G) (G : Nat → ClassId) (o0 : Nat) (x1 : Int32) (M : px_M) {r : Int32} {M' : px_M} (hf : f_TX_signAt o0 x1 M = some (r, M')) : Met l y_TX_signAt (.code y_TX_signAt b_TX_signAt 2 (some .int) :: px_tw) ⟨0, 0, 0, 0⟩ (va_Pc [.ref o0, .int x1] (px_B bs D px_cl (px_tys G) px_nw px_over M)) (px_Qi bs D px_cl (px_tys G) r M') 0 0 (fun q => bs ≤ q) := by
  refine px_of (by decide) (Nat.le_of_ble_eq_true rfl) ?_
  intro p e s m below meth c ls C0 hM hS hl
  obtain ⟨hx, hb, hr, hml, hown, hnm, hlocks, hts, hK, hN, hO⟩ := C0
  have hl : lv_has ls 2 [(0, .ref o0), (1, .int x1)] := hl
  unfold f_TX_signAt at hf
  refine lv_iload_n hx hb d_TX_signAt_0 rfl (lv_at hl 1 rfl) ?_
  refine lv_if_lt (tgt := 21) hx hb d_TX_signAt_1 (by decide) (fun c1 => ?_) (fun c1 => ?_)
  · have hf := px_ift hf c1
    refine lv_iconst (v := (-1)) hx hb d_TX_signAt_21 (by decide) ?_
    obtain ⟨rfl, rfl⟩ := px_s2 hf
    exact px_iret hx hb hr hlocks hM hS d_TX_signAt_22
  · have hf := px_iff hf c1
    refine lv_iload_n hx hb d_TX_signAt_4 rfl (lv_at hl 1 rfl) ?_
    refine lv_aload_n hx hb d_TX_signAt_5 rfl (lv_at hl 0 rfl) ?_
    obtain ⟨v2, h3, hf⟩ := px_bind hf
    refine px_rgi hx hb hts cl_TX hown hK hM 1 (by decide) (hts _ w_29) h3 d_TX_signAt_6 ?_
    refine lv_icmp_ge (tgt := 21) hx hb d_TX_signAt_9 (by decide) (fun c4 => ?_) (fun c4 => ?_)
    · have hf := px_ift hf c4
      refine lv_iconst (v := (-1)) hx hb d_TX_signAt_21 (by decide) ?_
      obtain ⟨rfl, rfl⟩ := px_s2 hf
      exact px_iret hx hb hr hlocks hM hS d_TX_signAt_22
    · have hf := px_iff hf c4
      refine lv_aload_n hx hb d_TX_signAt_12 rfl (lv_at hl 0 rfl) ?_
      obtain ⟨t5, h6, hf⟩ := px_bind hf
      refine px_rgr hx hb hts cl_TX hown hK hM 0 (by decide) (hts _ w_28) h6 d_TX_signAt_13 ?_
      refine lv_iload_n hx hb d_TX_signAt_16 rfl (lv_at hl 1 rfl) ?_
      obtain ⟨v7, h8, hf⟩ := px_bind hf
      refine px_rai hx hb hK hM 0 rfl h8 d_TX_signAt_17 ?_
      refine lv_goto (tgt := 22) hx hb d_TX_signAt_18 (by decide) ?_
      obtain ⟨rfl, rfl⟩ := px_s2 hf
      exact px_iret hx hb hr hlocks hM hS d_TX_signAt_22
