def f_RR_nextSign_L0 : Nat → Nat → px_M → Option ((Unit) × px_M)
  | 0, _, _ => none
  | n + 1, o0, M =>
    (px_gi 2 2 M o0).bind fun v1 =>
    if 100 ≤ v1 then
    some ((), M)
    else
    (px_gr 2 0 M o0).bind fun t4 =>
    (px_gi 2 2 M o0).bind fun v6 =>
    (px_ob 1 M t4).bind fun _ =>
    (f_TX_signAt t4 v6 M).bind fun (v10, M8) =>
    if v10 = 32 then
    (px_gi 2 2 M8 o0).bind fun v12 =>
    (px_pt 2 2 M8 o0 (.int (v12 + 1))).bind fun M14 =>
    f_RR_nextSign_L0 n o0 M14
    else
    some ((), M8)
set_option maxHeartbeats 4000000 in
set_option maxRecDepth 100000 in
theorem lp_RR_nextSign_L0 {p : Program} {l : Launch} {e : Env} {s : State} {m : MethodId} {args : Array Value} {below : List Frame} {meth : Method} {c : Code} {bs : Nat} {D : va_G} {G : Nat → ClassId} {Q : State → Prop} (C0 : px_At p s m meth c y_RR_nextSign b_RR_nextSign 1 (some .int) args D px_cl (px_tys G) px_nw px_over) (x : Unit) (M' : px_M) (o0 : Nat) (kx : ∀ (H : Heap) (locs : List Loc) (ls : Array Slot), px_W bs D px_cl (px_tys G) M' H → va_S (fun q => bs ≤ q) s.heap H locs → lv_has ls 1 [(0, .ref o0)] → W p l e ⟨1, 0, 0, 21⟩ s m args below meth c H locs 0 0 Q (F0 m 38 ls []))  : ∀ (n : Nat)  (M : px_M), f_RR_nextSign_L0 n o0 M = some (x, M') → ∀ (H : Heap) (locs : List Loc) (ls : Array Slot), px_W bs D px_cl (px_tys G) M H → va_S (fun q => bs ≤ q) s.heap H locs → lv_has ls 1 [(0, .ref o0)] → W p l e ⟨1, 0, 0, 21⟩ s m args below meth c H locs 0 0 Q (F0 m 0 ls []) := by
  obtain ⟨hx, hb, hr, hml, hown, hnm, hlocks, hts, hK, hN, hO⟩ := C0
  intro n
  induction n with
  | zero => intro  M hf; cases hf
  | succ n ih =>
    intro  M hf H locs ls hM hS hl
    unfold f_RR_nextSign_L0 at hf
    refine lv_aload_n hx hb d_RR_nextSign_0 rfl (lv_at hl 0 rfl) ?_
    obtain ⟨v1, h2, hf⟩ := px_bind hf
    refine px_rgi hx hb hts cl_RR hown hK hM 2 (by decide) (hts _ w_46) h2 d_RR_nextSign_1 ?_
    refine lv_bipush (v := 100) hx hb d_RR_nextSign_4 (by decide) ?_
    refine lv_icmp_ge (tgt := 38) hx hb d_RR_nextSign_6 (by decide) (fun c3 => ?_) (fun c3 => ?_)
    · have hf := px_ift hf c3
      obtain ⟨rfl, rfl⟩ := px_s2 hf
      exact kx _ _ _ hM hS (lv_sub hl [0] rfl)
    · have hf := px_iff hf c3
      refine lv_aload_n hx hb d_RR_nextSign_9 rfl (lv_at hl 0 rfl) ?_
      obtain ⟨t4, h5, hf⟩ := px_bind hf
      refine px_rgr hx hb hts cl_RR hown hK hM 0 (by decide) (hts _ w_44) h5 d_RR_nextSign_10 ?_
      refine lv_aload_n hx hb d_RR_nextSign_13 rfl (lv_at hl 0 rfl) ?_
      obtain ⟨v6, h7, hf⟩ := px_bind hf
      refine px_rgi hx hb hts cl_RR hown hK hM 2 (by decide) (hts _ w_46) h7 d_RR_nextSign_14 ?_
      obtain ⟨_, h16, hf⟩ := px_bind hf
      obtain ⟨⟨v10, M8⟩, h9, hf⟩ := px_bind hf
      dsimp only at hf
      refine px_calli (va_runV (As := [.int v6]) (rest := []) ⟨hx, hb, hml, hown, hts⟩ (c_TX_signAt l bs D G t4 v6 M h9) (cwV 1 hts (px_gV w_363 w_364 w_365 w_2 w_366) rfl rfl rfl (by decide +kernel) ⟨Nat.le_of_ble_eq_true rfl, Nat.le_of_ble_eq_true rfl⟩) (px_preV px_nwok hK hN hO hM h16 rfl) rfl rfl hl.1 rfl (lv_room (Nat.le_of_ble_eq_true rfl)) d_RR_nextSign_17 ⟨Nat.le_of_ble_eq_true rfl, Nat.le_of_ble_eq_true rfl⟩) hS (fun H locs hM hS => ?_)
      refine lv_bipush (v := 32) hx hb d_RR_nextSign_20 (by decide) ?_
      refine lv_icmp_ne (tgt := 38) hx hb d_RR_nextSign_22 (by decide) (fun c11 => ?_) (fun c11 => ?_)
      · have hf := px_iff hf c11
        obtain ⟨rfl, rfl⟩ := px_s2 hf
        exact kx _ _ _ hM hS (lv_sub hl [0] rfl)
      · have hf := px_ift hf c11
        refine lv_aload_n hx hb d_RR_nextSign_25 rfl (lv_at hl 0 rfl) ?_
        refine lv_dup hx hb d_RR_nextSign_26 rfl ?_
        obtain ⟨v12, h13, hf⟩ := px_bind hf
        refine px_rgi hx hb hts cl_RR hown hK hM 2 (by decide) (hts _ w_46) h13 d_RR_nextSign_27 ?_
        refine lv_iconst (v := 1) hx hb d_RR_nextSign_30 (by decide) ?_
        refine lv_iadd hx hb d_RR_nextSign_31 ?_
        obtain ⟨M14, h15, hf⟩ := px_bind hf
        refine px_rpt hx hb hts cl_RR hown hK hM hS 2 (by decide) (hts _ w_46) rfl rfl rfl h15 d_RR_nextSign_32 (fun H locs hM hS => ?_)
        refine lv_goto (tgt := 0) hx hb d_RR_nextSign_35 (by decide) ?_
        exact ih  M14 hf _ _ _ hM hS (lv_sub hl [0] rfl)
def f_RR_nextSign (o0 : Nat) (M : px_M) : Option (Int32 × px_M) :=
  (f_RR_nextSign_L0 px_fuel o0 M).bind fun (_, M17) =>
  (px_gr 2 0 M17 o0).bind fun t19 =>
  (px_gi 2 2 M17 o0).bind fun v21 =>
  (px_ob 1 M17 t19).bind fun _ =>
  (f_TX_signAt t19 v21 M17).bind fun (v25, M23) =>
  some (v25, M23)
set_option maxHeartbeats 4000000 in
set_option maxRecDepth 100000 in
theorem c_RR_nextSign (l : Launch) (bs : Nat) (D : va_G) (G : Nat → ClassId) (o0 : Nat) (M : px_M) {r : Int32} {M' : px_M} (hf : f_RR_nextSign o0 M = some (r, M')) : Met l y_RR_nextSign (.code y_RR_nextSign b_RR_nextSign 1 (some .int) :: px_tw) ⟨1, 0, 0, 21⟩ (va_Pc [.ref o0] (px_B bs D px_cl (px_tys G) px_nw px_over M)) (px_Qi bs D px_cl (px_tys G) r M') 0 0 (fun q => bs ≤ q) := by
  refine px_of (by decide) (Nat.le_of_ble_eq_true rfl) ?_
  intro p e s m below meth c ls C0 hM hS hl
  obtain ⟨hx, hb, hr, hml, hown, hnm, hlocks, hts, hK, hN, hO⟩ := C0
  have hl : lv_has ls 1 [(0, .ref o0)] := hl
  unfold f_RR_nextSign at hf
  obtain ⟨⟨_, M17⟩, h18, hf⟩ := px_bind hf
  dsimp only at hf
  refine lp_RR_nextSign_L0 ⟨hx, hb, hr, hml, hown, hnm, hlocks, hts, hK, hN, hO⟩ _ M17 o0 (fun H locs ls hM hS hl => ?_) px_fuel  M h18 _ _ _ hM hS (lv_sub hl [0] rfl)
  try dsimp only at hl
  refine lv_aload_n hx hb d_RR_nextSign_38 rfl (lv_at hl 0 rfl) ?_
  obtain ⟨t19, h20, hf⟩ := px_bind hf
  refine px_rgr hx hb hts cl_RR hown hK hM 0 (by decide) (hts _ w_44) h20 d_RR_nextSign_39 ?_
  refine lv_aload_n hx hb d_RR_nextSign_42 rfl (lv_at hl 0 rfl) ?_
  obtain ⟨v21, h22, hf⟩ := px_bind hf
  refine px_rgi hx hb hts cl_RR hown hK hM 2 (by decide) (hts _ w_46) h22 d_RR_nextSign_43 ?_
  obtain ⟨_, h26, hf⟩ := px_bind hf
  obtain ⟨⟨v25, M23⟩, h24, hf⟩ := px_bind hf
  dsimp only at hf
  refine px_calli (va_runV (As := [.int v21]) (rest := []) ⟨hx, hb, hml, hown, hts⟩ (c_TX_signAt l bs D G t19 v21 M17 h24) (cwV 1 hts (px_gV w_363 w_364 w_365 w_2 w_366) rfl rfl rfl (by decide +kernel) ⟨Nat.le_of_ble_eq_true rfl, Nat.le_of_ble_eq_true rfl⟩) (px_preV px_nwok hK hN hO hM h26 rfl) rfl rfl hl.1 rfl (lv_room (Nat.le_of_ble_eq_true rfl)) d_RR_nextSign_46 ⟨Nat.le_of_ble_eq_true rfl, Nat.le_of_ble_eq_true rfl⟩) hS (fun H locs hM hS => ?_)
  obtain ⟨rfl, rfl⟩ := px_s2 hf
  exact px_iret hx hb hr hlocks hM hS d_RR_nextSign_49
def f_RR_readNumber_L13 : Nat → Nat → Int32 → Int32 → Int32 → Int32 → px_M → Option ((Int32) × px_M)
  | 0, _, _, _, _, _, _ => none
  | n + 1, o0, x1, x2, x3, x4, M =>
    (px_gi 2 2 M o0).bind fun v6 =>
    if 100 ≤ v6 then
    some (x4, M)
    else
    (px_gr 2 0 M o0).bind fun t9 =>
    (px_gi 2 2 M o0).bind fun v11 =>
    (px_ob 1 M t9).bind fun _ =>
    (f_TX_signAt t9 v11 M).bind fun (v15, M13) =>
    (f_SB_isWithin v15 48 57 M13).bind fun (v18, M16) =>
    if v18 = 0 then
    some (x4, M16)
    else
    (px_gr 2 0 M16 o0).bind fun t20 =>
    (px_gi 2 2 M16 o0).bind fun v22 =>
    (px_ob 1 M16 t20).bind fun _ =>
    (f_TX_signAt t20 v22 M16).bind fun (v26, M24) =>
    (some (if 1000 < (((x4 * 10) + v26) - 48) then 1000 else (((x4 * 10) + v26) - 48))).bind fun v27 =>
    (px_gi 2 2 M24 o0).bind fun v29 =>
    (px_pt 2 2 M24 o0 (.int (v29 + 1))).bind fun M31 =>
    f_RR_readNumber_L13 n o0 x1 x2 x3 v27 M31
set_option maxHeartbeats 4000000 in
set_option maxRecDepth 100000 in
theorem lp_RR_readNumber_L13 {p : Program} {l : Launch} {e : Env} {s : State} {m : MethodId} {args : Array Value} {below : List Frame} {meth : Method} {c : Code} {bs : Nat} {D : va_G} {G : Nat → ClassId} {Q : State → Prop} (C0 : px_At p s m meth c y_RR_readNumber b_RR_readNumber 7 (some .int) args D px_cl (px_tys G) px_nw px_over) (x : Int32) (M' : px_M) (o0 : Nat) (x1 : Int32) (x2 : Int32) (x3 : Int32) (kx : ∀ (H : Heap) (locs : List Loc) (ls : Array Slot), px_W bs D px_cl (px_tys G) M' H → va_S (fun q => bs ≤ q) s.heap H locs → lv_has ls 7 [(0, .ref o0), (1, .int x1), (2, .int x2), (3, .int x3), (4, .int x)] → W p l e ⟨2, 0, 0, 41⟩ s m args below meth c H locs 0 0 Q (F0 m 84 ls []))  : ∀ (n : Nat) (x4 : Int32) (M : px_M), f_RR_readNumber_L13 n o0 x1 x2 x3 x4 M = some (x, M') → ∀ (H : Heap) (locs : List Loc) (ls : Array Slot), px_W bs D px_cl (px_tys G) M H → va_S (fun q => bs ≤ q) s.heap H locs → lv_has ls 7 [(0, .ref o0), (1, .int x1), (2, .int x2), (3, .int x3), (4, .int x4)] → W p l e ⟨2, 0, 0, 41⟩ s m args below meth c H locs 0 0 Q (F0 m 13 ls []) := by
  obtain ⟨hx, hb, hr, hml, hown, hnm, hlocks, hts, hK, hN, hO⟩ := C0
  intro n
  induction n with
  | zero => intro x4 M hf; cases hf
  | succ n ih =>
    intro x4 M hf H locs ls hM hS hl
    unfold f_RR_readNumber_L13 at hf
    refine lv_aload_n hx hb d_RR_readNumber_13 rfl (lv_at hl 0 rfl) ?_
    obtain ⟨v6, h7, hf⟩ := px_bind hf
    refine px_rgi hx hb hts cl_RR hown hK hM 2 (by decide) (hts _ w_46) h7 d_RR_readNumber_14 ?_
    refine lv_bipush (v := 100) hx hb d_RR_readNumber_17 (by decide) ?_
    refine lv_icmp_ge (tgt := 84) hx hb d_RR_readNumber_19 (by decide) (fun c8 => ?_) (fun c8 => ?_)
    · have hf := px_ift hf c8
      obtain ⟨rfl, rfl⟩ := px_s2 hf
      exact kx _ _ _ hM hS (lv_sub hl [0, 1, 2, 3, 4] rfl)
    · have hf := px_iff hf c8
      refine lv_aload_n hx hb d_RR_readNumber_22 rfl (lv_at hl 0 rfl) ?_
      obtain ⟨t9, h10, hf⟩ := px_bind hf
      refine px_rgr hx hb hts cl_RR hown hK hM 0 (by decide) (hts _ w_44) h10 d_RR_readNumber_23 ?_
      refine lv_aload_n hx hb d_RR_readNumber_26 rfl (lv_at hl 0 rfl) ?_
      obtain ⟨v11, h12, hf⟩ := px_bind hf
      refine px_rgi hx hb hts cl_RR hown hK hM 2 (by decide) (hts _ w_46) h12 d_RR_readNumber_27 ?_
      obtain ⟨_, h34, hf⟩ := px_bind hf
      obtain ⟨⟨v15, M13⟩, h14, hf⟩ := px_bind hf
      dsimp only at hf
      refine px_calli (va_runV (As := [.int v11]) (rest := []) ⟨hx, hb, hml, hown, hts⟩ (c_TX_signAt l bs D G t9 v11 M h14) (cwV 1 hts (px_gV w_363 w_364 w_365 w_2 w_366) rfl rfl rfl (by decide +kernel) ⟨Nat.le_of_ble_eq_true rfl, Nat.le_of_ble_eq_true rfl⟩) (px_preV px_nwok hK hN hO hM h34 rfl) rfl rfl hl.1 rfl (lv_room (Nat.le_of_ble_eq_true rfl)) d_RR_readNumber_30 ⟨Nat.le_of_ble_eq_true rfl, Nat.le_of_ble_eq_true rfl⟩) hS (fun H locs hM hS => ?_)
      refine lv_bipush (v := 48) hx hb d_RR_readNumber_33 (by decide) ?_
      refine lv_bipush (v := 57) hx hb d_RR_readNumber_35 (by decide) ?_
      obtain ⟨⟨v18, M16⟩, h17, hf⟩ := px_bind hf
      dsimp only at hf
      refine px_calli (va_runSN (host := R_SB) (As := [.int v15, .int 48, .int 57]) (rest := []) ⟨hx, hb, hml, hown, hts⟩ (c_SB_isWithin l bs D G v15 48 57 M13 h17) ⟨va_cnB 3 hts (px_gI w_341) rfl rfl rfl (hN _ n_375) (hts _ w_1) (by decide +kernel) ⟨Nat.le_of_ble_eq_true rfl, Nat.le_of_ble_eq_true rfl⟩, hts _ w_340, trivial⟩ (px_preS px_nwok hK hN hO hM) rfl rfl hl.1 rfl (lv_room (Nat.le_of_ble_eq_true rfl)) d_RR_readNumber_37 ⟨Nat.le_of_ble_eq_true rfl, Nat.le_of_ble_eq_true rfl⟩) hS (fun H locs hM hS => ?_)
      refine lv_if_eq (tgt := 84) hx hb d_RR_readNumber_40 (by decide) (fun c19 => ?_) (fun c19 => ?_)
      · have hf := px_ift hf c19
        obtain ⟨rfl, rfl⟩ := px_s2 hf
        exact kx _ _ _ hM hS (lv_sub hl [0, 1, 2, 3, 4] rfl)
      · have hf := px_iff hf c19
        refine lv_iload hx hb d_RR_readNumber_43 (lv_at hl 4 rfl) ?_
        refine lv_bipush (v := 10) hx hb d_RR_readNumber_45 (by decide) ?_
        refine lv_imul hx hb d_RR_readNumber_47 ?_
        refine lv_aload_n hx hb d_RR_readNumber_48 rfl (lv_at hl 0 rfl) ?_
        obtain ⟨t20, h21, hf⟩ := px_bind hf
        refine px_rgr hx hb hts cl_RR hown hK hM 0 (by decide) (hts _ w_44) h21 d_RR_readNumber_49 ?_
        refine lv_aload_n hx hb d_RR_readNumber_52 rfl (lv_at hl 0 rfl) ?_
        obtain ⟨v22, h23, hf⟩ := px_bind hf
        refine px_rgi hx hb hts cl_RR hown hK hM 2 (by decide) (hts _ w_46) h23 d_RR_readNumber_53 ?_
        obtain ⟨_, h33, hf⟩ := px_bind hf
        obtain ⟨⟨v26, M24⟩, h25, hf⟩ := px_bind hf
        dsimp only at hf
        refine px_calli (va_runV (As := [.int v22]) (rest := [.int (x4 * 10)]) ⟨hx, hb, hml, hown, hts⟩ (c_TX_signAt l bs D G t20 v22 M16 h25) (cwV 1 hts (px_gV w_363 w_364 w_365 w_2 w_366) rfl rfl rfl (by decide +kernel) ⟨Nat.le_of_ble_eq_true rfl, Nat.le_of_ble_eq_true rfl⟩) (px_preV px_nwok hK hN hO hM h33 rfl) rfl rfl hl.1 rfl (lv_room (Nat.le_of_ble_eq_true rfl)) d_RR_readNumber_56 ⟨Nat.le_of_ble_eq_true rfl, Nat.le_of_ble_eq_true rfl⟩) hS (fun H locs hM hS => ?_)
        refine lv_iadd hx hb d_RR_readNumber_59 ?_
        refine lv_bipush (v := 48) hx hb d_RR_readNumber_60 (by decide) ?_
        refine lv_isub hx hb d_RR_readNumber_62 ?_
        refine lv_sipush (v := 1000) hx hb d_RR_readNumber_63 (by decide) ?_
        obtain ⟨v27, h28, hf⟩ := px_bind hf
        refine va_mmin hx hb (by rw [hml]; exact hl.1.symm) hown (hts _ w_376) (hts _ w_377) (hts _ w_13) (hts _ w_378) (Nat.le_of_ble_eq_true rfl) (Nat.le_of_ble_eq_true rfl) (Nat.zero_le _) (Nat.zero_le _) d_RR_readNumber_66 ?_
        rw [Option.some.inj h28]
        refine lv_istore (lv' := [(4, .int v27), (0, .ref o0), (1, .int x1), (2, .int x2), (3, .int x3)]) hx hb d_RR_readNumber_69 hl (by decide) rfl (fun ls hl => ?_)
        refine lv_aload_n hx hb d_RR_readNumber_71 rfl (lv_at hl 1 rfl) ?_
        refine lv_dup hx hb d_RR_readNumber_72 rfl ?_
        obtain ⟨v29, h30, hf⟩ := px_bind hf
        refine px_rgi hx hb hts cl_RR hown hK hM 2 (by decide) (hts _ w_46) h30 d_RR_readNumber_73 ?_
        refine lv_iconst (v := 1) hx hb d_RR_readNumber_76 (by decide) ?_
        refine lv_iadd hx hb d_RR_readNumber_77 ?_
        obtain ⟨M31, h32, hf⟩ := px_bind hf
        refine px_rpt hx hb hts cl_RR hown hK hM hS 2 (by decide) (hts _ w_46) rfl rfl rfl h32 d_RR_readNumber_78 (fun H locs hM hS => ?_)
        refine lv_goto (tgt := 13) hx hb d_RR_readNumber_81 (by decide) ?_
        exact ih v27 M31 hf _ _ _ hM hS (lv_sub hl [1, 2, 3, 4, 0] rfl)
def f_RR_readNumber (o0 : Nat) (x1 : Int32) (M : px_M) : Option (Int32 × px_M) :=
  (px_ob 2 M o0).bind fun _ =>
  (f_RR_nextSign o0 M).bind fun (v3, M1) =>
  (px_gi 2 2 M1 o0).bind fun v4 =>
  (f_RR_readNumber_L13 px_fuel o0 x1 v3 v4 0 M1).bind fun (v37, M35) =>
  (px_gi 2 2 M35 o0).bind fun v38 =>
  if v3 = 48 then
  if (v38 - v4) ≤ 1 then
  if (v38 - v4) < 1 then
  (px_pt 2 2 M35 o0 (.int v4)).bind fun M53 =>
  some ((-1), M53)
  else
  if 3 < (v38 - v4) then
  (px_pt 2 2 M35 o0 (.int v4)).bind fun M56 =>
  some ((-1), M56)
  else
  if x1 ≤ v37 then
  some (v37, M35)
  else
  (px_pt 2 2 M35 o0 (.int v4)).bind fun M60 =>
  some ((-1), M60)
  else
  if (v38 - v4) < 1 then
  (px_pt 2 2 M35 o0 (.int v4)).bind fun M63 =>
  some ((-1), M63)
  else
  if 3 < (v38 - v4) then
  (px_pt 2 2 M35 o0 (.int v4)).bind fun M66 =>
  some ((-1), M66)
  else
  (px_pt 2 2 M35 o0 (.int v4)).bind fun M69 =>
  some ((-1), M69)
  else
  if (v38 - v4) < 1 then
  (px_pt 2 2 M35 o0 (.int v4)).bind fun M42 =>
  some ((-1), M42)
  else
  if 3 < (v38 - v4) then
  (px_pt 2 2 M35 o0 (.int v4)).bind fun M45 =>
  some ((-1), M45)
  else
  if x1 ≤ v37 then
  some (v37, M35)
  else
  (px_pt 2 2 M35 o0 (.int v4)).bind fun M49 =>
  some ((-1), M49)
set_option maxHeartbeats 4000000 in
set_option maxRecDepth 100000 in
theorem c_RR_readNumber (l : Launch) (bs : Nat) (D : va_G) (G : Nat → ClassId) (o0 : Nat) (x1 : Int32) (M : px_M) {r : Int32} {M' : px_M} (hf : f_RR_readNumber o0 x1 M = some (r, M')) : Met l y_RR_readNumber (.code y_RR_readNumber b_RR_readNumber 7 (some .int) :: px_tw) ⟨2, 0, 0, 41⟩ (va_Pc [.ref o0, .int x1] (px_B bs D px_cl (px_tys G) px_nw px_over M)) (px_Qi bs D px_cl (px_tys G) r M') 0 0 (fun q => bs ≤ q) := by
  refine px_of (by decide) (Nat.le_of_ble_eq_true rfl) ?_
  intro p e s m below meth c ls C0 hM hS hl
  obtain ⟨hx, hb, hr, hml, hown, hnm, hlocks, hts, hK, hN, hO⟩ := C0
  have hl : lv_has ls 7 [(0, .ref o0), (1, .int x1)] := hl
  unfold f_RR_readNumber at hf
  refine lv_aload_n hx hb d_RR_readNumber_0 rfl (lv_at hl 0 rfl) ?_
  obtain ⟨_, h71, hf⟩ := px_bind hf
  obtain ⟨⟨v3, M1⟩, h2, hf⟩ := px_bind hf
  dsimp only at hf
  refine px_calli (va_runV (As := []) (rest := []) ⟨hx, hb, hml, hown, hts⟩ (c_RR_nextSign l bs D G o0 M h2) (cwV 0 hts (px_gV w_359 w_361 ws_RR_nextSign w_3 w_362) rfl rfl rfl (by decide +kernel) ⟨Nat.le_of_ble_eq_true rfl, Nat.le_of_ble_eq_true rfl⟩) (px_preV px_nwok hK hN hO hM h71 rfl) rfl rfl hl.1 rfl (lv_room (Nat.le_of_ble_eq_true rfl)) d_RR_readNumber_1 ⟨Nat.le_of_ble_eq_true rfl, Nat.le_of_ble_eq_true rfl⟩) hS (fun H locs hM hS => ?_)
  refine lv_istore_n (lv' := [(2, .int v3), (0, .ref o0), (1, .int x1)]) hx hb d_RR_readNumber_4 rfl hl (by decide) rfl (fun ls hl => ?_)
  refine lv_aload_n hx hb d_RR_readNumber_5 rfl (lv_at hl 1 rfl) ?_
  obtain ⟨v4, h5, hf⟩ := px_bind hf
  refine px_rgi hx hb hts cl_RR hown hK hM 2 (by decide) (hts _ w_46) h5 d_RR_readNumber_6 ?_
  refine lv_istore_n (lv' := [(3, .int v4), (2, .int v3), (0, .ref o0), (1, .int x1)]) hx hb d_RR_readNumber_9 rfl hl (by decide) rfl (fun ls hl => ?_)
  refine lv_iconst (v := 0) hx hb d_RR_readNumber_10 (by decide) ?_
  refine lv_istore (lv' := [(4, .int 0), (3, .int v4), (2, .int v3), (0, .ref o0), (1, .int x1)]) hx hb d_RR_readNumber_11 hl (by decide) rfl (fun ls hl => ?_)
  obtain ⟨⟨v37, M35⟩, h36, hf⟩ := px_bind hf
  dsimp only at hf
  refine lp_RR_readNumber_L13 ⟨hx, hb, hr, hml, hown, hnm, hlocks, hts, hK, hN, hO⟩ _ M35 o0 x1 v3 v4 (fun H locs ls hM hS hl => ?_) px_fuel 0 M1 h36 _ _ _ hM hS (lv_sub hl [3, 4, 2, 1, 0] rfl)
  try dsimp only at hl
  refine lv_aload_n hx hb d_RR_readNumber_84 rfl (lv_at hl 0 rfl) ?_
  obtain ⟨v38, h39, hf⟩ := px_bind hf
  refine px_rgi hx hb hts cl_RR hown hK hM 2 (by decide) (hts _ w_46) h39 d_RR_readNumber_85 ?_
  refine lv_iload_n hx hb d_RR_readNumber_88 rfl (lv_at hl 3 rfl) ?_
  refine lv_isub hx hb d_RR_readNumber_89 ?_
  refine lv_istore (lv' := [(5, .int (v38 - v4)), (0, .ref o0), (1, .int x1), (2, .int v3), (3, .int v4), (4, .int v37)]) hx hb d_RR_readNumber_90 hl (by decide) rfl (fun ls hl => ?_)
  refine lv_iload_n hx hb d_RR_readNumber_92 rfl (lv_at hl 3 rfl) ?_
  refine lv_bipush (v := 48) hx hb d_RR_readNumber_93 (by decide) ?_
  refine lv_icmp_ne (tgt := 108) hx hb d_RR_readNumber_95 (by decide) (fun c40 => ?_) (fun c40 => ?_)
  · have hf := px_iff hf c40
    refine lv_iconst (v := 0) hx hb d_RR_readNumber_108 (by decide) ?_
    refine lv_istore (lv' := [(6, .int 0), (5, .int (v38 - v4)), (0, .ref o0), (1, .int x1), (2, .int v3), (3, .int v4), (4, .int v37)]) hx hb d_RR_readNumber_109 hl (by decide) rfl (fun ls hl => ?_)
    refine lv_iload hx hb d_RR_readNumber_111 (lv_at hl 1 rfl) ?_
    refine lv_iconst (v := 1) hx hb d_RR_readNumber_113 (by decide) ?_
    refine lv_icmp_lt (tgt := 134) hx hb d_RR_readNumber_114 (by decide) (fun c41 => ?_) (fun c41 => ?_)
    · have hf := px_ift hf c41
      refine lv_aload_n hx hb d_RR_readNumber_134 rfl (lv_at hl 2 rfl) ?_
      refine lv_iload_n hx hb d_RR_readNumber_135 rfl (lv_at hl 5 rfl) ?_
      obtain ⟨M42, h43, hf⟩ := px_bind hf
      refine px_rpt hx hb hts cl_RR hown hK hM hS 2 (by decide) (hts _ w_46) rfl rfl rfl h43 d_RR_readNumber_136 (fun H locs hM hS => ?_)
      refine lv_iconst (v := (-1)) hx hb d_RR_readNumber_139 (by decide) ?_
      obtain ⟨rfl, rfl⟩ := px_s2 hf
      exact px_iret hx hb hr hlocks hM hS d_RR_readNumber_140
    · have hf := px_iff hf c41
      refine lv_iload hx hb d_RR_readNumber_117 (lv_at hl 1 rfl) ?_
      refine lv_iconst (v := 3) hx hb d_RR_readNumber_119 (by decide) ?_
      refine lv_icmp_gt (tgt := 134) hx hb d_RR_readNumber_120 (by decide) (fun c44 => ?_) (fun c44 => ?_)
      · have hf := px_ift hf c44
        refine lv_aload_n hx hb d_RR_readNumber_134 rfl (lv_at hl 2 rfl) ?_
        refine lv_iload_n hx hb d_RR_readNumber_135 rfl (lv_at hl 5 rfl) ?_
        obtain ⟨M45, h46, hf⟩ := px_bind hf
        refine px_rpt hx hb hts cl_RR hown hK hM hS 2 (by decide) (hts _ w_46) rfl rfl rfl h46 d_RR_readNumber_136 (fun H locs hM hS => ?_)
        refine lv_iconst (v := (-1)) hx hb d_RR_readNumber_139 (by decide) ?_
        obtain ⟨rfl, rfl⟩ := px_s2 hf
        exact px_iret hx hb hr hlocks hM hS d_RR_readNumber_140
      · have hf := px_iff hf c44
        refine lv_iload hx hb d_RR_readNumber_123 (lv_at hl 0 rfl) ?_
        refine lv_if_ne (tgt := 134) hx hb d_RR_readNumber_125 (by decide) (fun c47 => False.elim (by revert c47; decide)) (fun c47 => ?_)
        refine lv_iload hx hb d_RR_readNumber_128 (lv_at hl 6 rfl) ?_
        refine lv_iload_n hx hb d_RR_readNumber_130 rfl (lv_at hl 3 rfl) ?_
        refine lv_icmp_ge (tgt := 141) hx hb d_RR_readNumber_131 (by decide) (fun c48 => ?_) (fun c48 => ?_)
        · have hf := px_ift hf c48
          refine lv_iload hx hb d_RR_readNumber_141 (lv_at hl 6 rfl) ?_
          obtain ⟨rfl, rfl⟩ := px_s2 hf
          exact px_iret hx hb hr hlocks hM hS d_RR_readNumber_143
        · have hf := px_iff hf c48
          refine lv_aload_n hx hb d_RR_readNumber_134 rfl (lv_at hl 2 rfl) ?_
          refine lv_iload_n hx hb d_RR_readNumber_135 rfl (lv_at hl 5 rfl) ?_
          obtain ⟨M49, h50, hf⟩ := px_bind hf
          refine px_rpt hx hb hts cl_RR hown hK hM hS 2 (by decide) (hts _ w_46) rfl rfl rfl h50 d_RR_readNumber_136 (fun H locs hM hS => ?_)
          refine lv_iconst (v := (-1)) hx hb d_RR_readNumber_139 (by decide) ?_
          obtain ⟨rfl, rfl⟩ := px_s2 hf
          exact px_iret hx hb hr hlocks hM hS d_RR_readNumber_140
  · have hf := px_ift hf c40
    refine lv_iload hx hb d_RR_readNumber_98 (lv_at hl 0 rfl) ?_
    refine lv_iconst (v := 1) hx hb d_RR_readNumber_100 (by decide) ?_
    refine lv_icmp_le (tgt := 108) hx hb d_RR_readNumber_101 (by decide) (fun c51 => ?_) (fun c51 => ?_)
    · have hf := px_ift hf c51
      refine lv_iconst (v := 0) hx hb d_RR_readNumber_108 (by decide) ?_
      refine lv_istore (lv' := [(6, .int 0), (5, .int (v38 - v4)), (0, .ref o0), (1, .int x1), (2, .int v3), (3, .int v4), (4, .int v37)]) hx hb d_RR_readNumber_109 hl (by decide) rfl (fun ls hl => ?_)
      refine lv_iload hx hb d_RR_readNumber_111 (lv_at hl 1 rfl) ?_
      refine lv_iconst (v := 1) hx hb d_RR_readNumber_113 (by decide) ?_
      refine lv_icmp_lt (tgt := 134) hx hb d_RR_readNumber_114 (by decide) (fun c52 => ?_) (fun c52 => ?_)
      · have hf := px_ift hf c52
        refine lv_aload_n hx hb d_RR_readNumber_134 rfl (lv_at hl 2 rfl) ?_
        refine lv_iload_n hx hb d_RR_readNumber_135 rfl (lv_at hl 5 rfl) ?_
        obtain ⟨M53, h54, hf⟩ := px_bind hf
        refine px_rpt hx hb hts cl_RR hown hK hM hS 2 (by decide) (hts _ w_46) rfl rfl rfl h54 d_RR_readNumber_136 (fun H locs hM hS => ?_)
        refine lv_iconst (v := (-1)) hx hb d_RR_readNumber_139 (by decide) ?_
        obtain ⟨rfl, rfl⟩ := px_s2 hf
        exact px_iret hx hb hr hlocks hM hS d_RR_readNumber_140
      · have hf := px_iff hf c52
        refine lv_iload hx hb d_RR_readNumber_117 (lv_at hl 1 rfl) ?_
        refine lv_iconst (v := 3) hx hb d_RR_readNumber_119 (by decide) ?_
        refine lv_icmp_gt (tgt := 134) hx hb d_RR_readNumber_120 (by decide) (fun c55 => ?_) (fun c55 => ?_)
        · have hf := px_ift hf c55
          refine lv_aload_n hx hb d_RR_readNumber_134 rfl (lv_at hl 2 rfl) ?_
          refine lv_iload_n hx hb d_RR_readNumber_135 rfl (lv_at hl 5 rfl) ?_
          obtain ⟨M56, h57, hf⟩ := px_bind hf
          refine px_rpt hx hb hts cl_RR hown hK hM hS 2 (by decide) (hts _ w_46) rfl rfl rfl h57 d_RR_readNumber_136 (fun H locs hM hS => ?_)
          refine lv_iconst (v := (-1)) hx hb d_RR_readNumber_139 (by decide) ?_
          obtain ⟨rfl, rfl⟩ := px_s2 hf
          exact px_iret hx hb hr hlocks hM hS d_RR_readNumber_140
        · have hf := px_iff hf c55
          refine lv_iload hx hb d_RR_readNumber_123 (lv_at hl 0 rfl) ?_
          refine lv_if_ne (tgt := 134) hx hb d_RR_readNumber_125 (by decide) (fun c58 => False.elim (by revert c58; decide)) (fun c58 => ?_)
          refine lv_iload hx hb d_RR_readNumber_128 (lv_at hl 6 rfl) ?_
          refine lv_iload_n hx hb d_RR_readNumber_130 rfl (lv_at hl 3 rfl) ?_
          refine lv_icmp_ge (tgt := 141) hx hb d_RR_readNumber_131 (by decide) (fun c59 => ?_) (fun c59 => ?_)
          · have hf := px_ift hf c59
            refine lv_iload hx hb d_RR_readNumber_141 (lv_at hl 6 rfl) ?_
            obtain ⟨rfl, rfl⟩ := px_s2 hf
            exact px_iret hx hb hr hlocks hM hS d_RR_readNumber_143
          · have hf := px_iff hf c59
            refine lv_aload_n hx hb d_RR_readNumber_134 rfl (lv_at hl 2 rfl) ?_
            refine lv_iload_n hx hb d_RR_readNumber_135 rfl (lv_at hl 5 rfl) ?_
            obtain ⟨M60, h61, hf⟩ := px_bind hf
            refine px_rpt hx hb hts cl_RR hown hK hM hS 2 (by decide) (hts _ w_46) rfl rfl rfl h61 d_RR_readNumber_136 (fun H locs hM hS => ?_)
            refine lv_iconst (v := (-1)) hx hb d_RR_readNumber_139 (by decide) ?_
            obtain ⟨rfl, rfl⟩ := px_s2 hf
            exact px_iret hx hb hr hlocks hM hS d_RR_readNumber_140
    · have hf := px_iff hf c51
      refine lv_iconst (v := 1) hx hb d_RR_readNumber_104 (by decide) ?_
      refine lv_goto (tgt := 109) hx hb d_RR_readNumber_105 (by decide) ?_
      refine lv_istore (lv' := [(6, .int 1), (5, .int (v38 - v4)), (0, .ref o0), (1, .int x1), (2, .int v3), (3, .int v4), (4, .int v37)]) hx hb d_RR_readNumber_109 hl (by decide) rfl (fun ls hl => ?_)
      refine lv_iload hx hb d_RR_readNumber_111 (lv_at hl 1 rfl) ?_
      refine lv_iconst (v := 1) hx hb d_RR_readNumber_113 (by decide) ?_
      refine lv_icmp_lt (tgt := 134) hx hb d_RR_readNumber_114 (by decide) (fun c62 => ?_) (fun c62 => ?_)
      · have hf := px_ift hf c62
        refine lv_aload_n hx hb d_RR_readNumber_134 rfl (lv_at hl 2 rfl) ?_
        refine lv_iload_n hx hb d_RR_readNumber_135 rfl (lv_at hl 5 rfl) ?_
        obtain ⟨M63, h64, hf⟩ := px_bind hf
        refine px_rpt hx hb hts cl_RR hown hK hM hS 2 (by decide) (hts _ w_46) rfl rfl rfl h64 d_RR_readNumber_136 (fun H locs hM hS => ?_)
        refine lv_iconst (v := (-1)) hx hb d_RR_readNumber_139 (by decide) ?_
        obtain ⟨rfl, rfl⟩ := px_s2 hf
        exact px_iret hx hb hr hlocks hM hS d_RR_readNumber_140
      · have hf := px_iff hf c62
        refine lv_iload hx hb d_RR_readNumber_117 (lv_at hl 1 rfl) ?_
        refine lv_iconst (v := 3) hx hb d_RR_readNumber_119 (by decide) ?_
        refine lv_icmp_gt (tgt := 134) hx hb d_RR_readNumber_120 (by decide) (fun c65 => ?_) (fun c65 => ?_)
        · have hf := px_ift hf c65
          refine lv_aload_n hx hb d_RR_readNumber_134 rfl (lv_at hl 2 rfl) ?_
          refine lv_iload_n hx hb d_RR_readNumber_135 rfl (lv_at hl 5 rfl) ?_
          obtain ⟨M66, h67, hf⟩ := px_bind hf
          refine px_rpt hx hb hts cl_RR hown hK hM hS 2 (by decide) (hts _ w_46) rfl rfl rfl h67 d_RR_readNumber_136 (fun H locs hM hS => ?_)
          refine lv_iconst (v := (-1)) hx hb d_RR_readNumber_139 (by decide) ?_
          obtain ⟨rfl, rfl⟩ := px_s2 hf
          exact px_iret hx hb hr hlocks hM hS d_RR_readNumber_140
        · have hf := px_iff hf c65
          refine lv_iload hx hb d_RR_readNumber_123 (lv_at hl 0 rfl) ?_
          refine lv_if_ne (tgt := 134) hx hb d_RR_readNumber_125 (by decide) (fun c68 => ?_) (fun c68 => False.elim (by revert c68; decide))
          refine lv_aload_n hx hb d_RR_readNumber_134 rfl (lv_at hl 2 rfl) ?_
          refine lv_iload_n hx hb d_RR_readNumber_135 rfl (lv_at hl 5 rfl) ?_
          obtain ⟨M69, h70, hf⟩ := px_bind hf
          refine px_rpt hx hb hts cl_RR hown hK hM hS 2 (by decide) (hts _ w_46) rfl rfl rfl h70 d_RR_readNumber_136 (fun H locs hM hS => ?_)
          refine lv_iconst (v := (-1)) hx hb d_RR_readNumber_139 (by decide) ?_
          obtain ⟨rfl, rfl⟩ := px_s2 hf
          exact px_iret hx hb hr hlocks hM hS d_RR_readNumber_140
def f_RR_pass (o0 : Nat) (x1 : Int32) (M : px_M) : Option (Int32 × px_M) :=
  (px_ob 2 M o0).bind fun _ =>
  (f_RR_nextSign o0 M).bind fun (v3, M1) =>
  if v3 = x1 then
  (px_gi 2 2 M1 o0).bind fun v5 =>
  (px_pt 2 2 M1 o0 (.int (v5 + 1))).bind fun M7 =>
  some (1, M7)
  else
  some (0, M1)
set_option maxHeartbeats 4000000 in
set_option maxRecDepth 100000 in
theorem c_RR_pass (l : Launch) (bs : Nat) (D : va_G) (G : Nat → ClassId) (o0 : Nat) (x1 : Int32) (M : px_M) {r : Int32} {M' : px_M} (hf : f_RR_pass o0 x1 M = some (r, M')) : Met l y_RR_pass (.code y_RR_pass b_RR_pass 2 (some .boolean) :: px_tw) ⟨2, 0, 0, 41⟩ (va_Pc [.ref o0, .int x1] (px_B bs D px_cl (px_tys G) px_nw px_over M)) (px_Qi bs D px_cl (px_tys G) r M') 0 0 (fun q => bs ≤ q) := by
  refine px_of (by decide) (Nat.le_of_ble_eq_true rfl) ?_
  intro p e s m below meth c ls C0 hM hS hl
  obtain ⟨hx, hb, hr, hml, hown, hnm, hlocks, hts, hK, hN, hO⟩ := C0
  have hl : lv_has ls 2 [(0, .ref o0), (1, .int x1)] := hl
  unfold f_RR_pass at hf
  refine lv_aload_n hx hb d_RR_pass_0 rfl (lv_at hl 0 rfl) ?_
  obtain ⟨_, h9, hf⟩ := px_bind hf
  obtain ⟨⟨v3, M1⟩, h2, hf⟩ := px_bind hf
  dsimp only at hf
  refine px_calli (va_runV (As := []) (rest := []) ⟨hx, hb, hml, hown, hts⟩ (c_RR_nextSign l bs D G o0 M h2) (cwV 0 hts (px_gV w_359 w_361 ws_RR_nextSign w_3 w_362) rfl rfl rfl (by decide +kernel) ⟨Nat.le_of_ble_eq_true rfl, Nat.le_of_ble_eq_true rfl⟩) (px_preV px_nwok hK hN hO hM h9 rfl) rfl rfl hl.1 rfl (lv_room (Nat.le_of_ble_eq_true rfl)) d_RR_pass_1 ⟨Nat.le_of_ble_eq_true rfl, Nat.le_of_ble_eq_true rfl⟩) hS (fun H locs hM hS => ?_)
  refine lv_iload_n hx hb d_RR_pass_4 rfl (lv_at hl 1 rfl) ?_
  refine lv_icmp_eq (tgt := 10) hx hb d_RR_pass_5 (by decide) (fun c4 => ?_) (fun c4 => ?_)
  · have hf := px_ift hf c4
    refine lv_aload_n hx hb d_RR_pass_10 rfl (lv_at hl 0 rfl) ?_
    refine lv_dup hx hb d_RR_pass_11 rfl ?_
    obtain ⟨v5, h6, hf⟩ := px_bind hf
    refine px_rgi hx hb hts cl_RR hown hK hM 2 (by decide) (hts _ w_46) h6 d_RR_pass_12 ?_
    refine lv_iconst (v := 1) hx hb d_RR_pass_15 (by decide) ?_
    refine lv_iadd hx hb d_RR_pass_16 ?_
    obtain ⟨M7, h8, hf⟩ := px_bind hf
    refine px_rpt hx hb hts cl_RR hown hK hM hS 2 (by decide) (hts _ w_46) rfl rfl rfl h8 d_RR_pass_17 (fun H locs hM hS => ?_)
    refine lv_iconst (v := 1) hx hb d_RR_pass_20 (by decide) ?_
    obtain ⟨rfl, rfl⟩ := px_s2 hf
    exact px_zret hx hb hr rfl hlocks hM hS d_RR_pass_21
  · have hf := px_iff hf c4
    refine lv_iconst (v := 0) hx hb d_RR_pass_8 (by decide) ?_
    obtain ⟨rfl, rfl⟩ := px_s2 hf
    exact px_zret hx hb hr rfl hlocks hM hS d_RR_pass_9
def f_RR_readHeights_L27 : Nat → Nat → Int32 → Int32 → px_M → Option (((Unit) ⊕ Int32) × px_M)
  | 0, _, _, _, _ => none
  | n + 1, o0, x1, x2, M =>
    if 5 ≤ x2 then
    some (.inl (), M)
    else
    (px_ob 2 M o0).bind fun _ =>
    (f_RR_readNumber o0 (x1 + 1) M).bind fun (v36, M34) =>
    if v36 = ((-1)) then
    some (.inr 0, M34)
    else
    (px_ob 2 M34 o0).bind fun _ =>
    (f_RR_readNumber o0 1 M34).bind fun (v40, M38) =>
    if v40 = ((-1)) then
    some (.inr 0, M38)
    else
    (px_gr 2 1 M38 o0).bind fun t42 =>
    (px_ob 3 M38 t42).bind fun _ =>
    (f_RS_addStep t42 v36 v40 M38).bind fun M44 =>
    (px_ob 2 M44 o0).bind fun _ =>
    (f_RR_pass o0 44 M44).bind fun (v48, M46) =>
    if v48 = 0 then
    some (.inr 1, M46)
    else
    f_RR_readHeights_L27 n o0 v36 (x2 + 1) M46
set_option maxHeartbeats 4000000 in
set_option maxRecDepth 100000 in
theorem lp_RR_readHeights_L27 {p : Program} {l : Launch} {e : Env} {s : State} {m : MethodId} {args : Array Value} {below : List Frame} {meth : Method} {c : Code} {bs : Nat} {D : va_G} {G : Nat → ClassId} {Q : State → Prop} (C0 : px_At p s m meth c y_RR_readHeights b_RR_readHeights 4 (some .boolean) args D px_cl (px_tys G) px_nw px_over) (x : (Unit) ⊕ Int32) (M' : px_M) (o0 : Nat) (kx : ∀ u, x = .inl u → ∀ (H : Heap) (locs : List Loc) (ls : Array Slot), px_W bs D px_cl (px_tys G) M' H → va_S (fun q => bs ≤ q) s.heap H locs → lv_has ls 4 [(0, .ref o0)] → W p l e ⟨3, 0, 0, 67⟩ s m args below meth c H locs 0 0 Q (F0 m 88 ls [])) (kr : ∀ r, x = .inr r → narrow .boolean (.int r) = .int r → ∀ (H : Heap) (locs : List Loc) (ls : Array Slot) (pc : Nat), decode b_RR_readHeights pc = .ok (.ireturn, 1) → px_W bs D px_cl (px_tys G) M' H → va_S (fun q => bs ≤ q) s.heap H locs → W p l e ⟨3, 0, 0, 67⟩ s m args below meth c H locs 0 0 Q (F0 m pc ls [.int r])) : ∀ (n : Nat) (x1 : Int32) (x2 : Int32) (M : px_M), f_RR_readHeights_L27 n o0 x1 x2 M = some (x, M') → ∀ (H : Heap) (locs : List Loc) (ls : Array Slot), px_W bs D px_cl (px_tys G) M H → va_S (fun q => bs ≤ q) s.heap H locs → lv_has ls 4 [(0, .ref o0), (1, .int x1), (2, .int x2)] → W p l e ⟨3, 0, 0, 67⟩ s m args below meth c H locs 0 0 Q (F0 m 27 ls []) := by
  obtain ⟨hx, hb, hr, hml, hown, hnm, hlocks, hts, hK, hN, hO⟩ := C0
  intro n
  induction n with
  | zero => intro x1 x2 M hf; cases hf
  | succ n ih =>
    intro x1 x2 M hf H locs ls hM hS hl
    unfold f_RR_readHeights_L27 at hf
    refine lv_iload_n hx hb d_RR_readHeights_27 rfl (lv_at hl 2 rfl) ?_
    refine lv_iconst (v := 5) hx hb d_RR_readHeights_28 (by decide) ?_
    refine lv_icmp_ge (tgt := 88) hx hb d_RR_readHeights_29 (by decide) (fun c33 => ?_) (fun c33 => ?_)
    · have hf := px_ift hf c33
      obtain ⟨rfl, rfl⟩ := px_s2 hf
      exact kx _ rfl _ _ _ hM hS (lv_sub hl [0] rfl)
    · have hf := px_iff hf c33
      refine lv_aload_n hx hb d_RR_readHeights_32 rfl (lv_at hl 0 rfl) ?_
      refine lv_iload_n hx hb d_RR_readHeights_33 rfl (lv_at hl 1 rfl) ?_
      refine lv_iconst (v := 1) hx hb d_RR_readHeights_34 (by decide) ?_
      refine lv_iadd hx hb d_RR_readHeights_35 ?_
      obtain ⟨_, h54, hf⟩ := px_bind hf
      obtain ⟨⟨v36, M34⟩, h35, hf⟩ := px_bind hf
      dsimp only at hf
      refine px_calli (va_runV (As := [.int (x1 + 1)]) (rest := []) ⟨hx, hb, hml, hown, hts⟩ (c_RR_readNumber l bs D G o0 (x1 + 1) M h35) (cwV 1 hts (px_gV w_371 w_373 ws_RR_readNumber w_3 w_374) rfl rfl rfl (by decide +kernel) ⟨Nat.le_of_ble_eq_true rfl, Nat.le_of_ble_eq_true rfl⟩) (px_preV px_nwok hK hN hO hM h54 rfl) rfl rfl hl.1 rfl (lv_room (Nat.le_of_ble_eq_true rfl)) d_RR_readHeights_36 ⟨Nat.le_of_ble_eq_true rfl, Nat.le_of_ble_eq_true rfl⟩) hS (fun H locs hM hS => ?_)
      refine lv_istore_n (lv' := [(1, .int v36), (0, .ref o0), (2, .int x2)]) hx hb d_RR_readHeights_39 rfl hl (by decide) rfl (fun ls hl => ?_)
      refine lv_iload_n hx hb d_RR_readHeights_40 rfl (lv_at hl 0 rfl) ?_
      refine lv_iconst (v := (-1)) hx hb d_RR_readHeights_41 (by decide) ?_
      refine lv_icmp_ne (tgt := 49) hx hb d_RR_readHeights_42 (by decide) (fun c37 => ?_) (fun c37 => ?_)
      · have hf := px_iff hf c37
        refine lv_aload_n hx hb d_RR_readHeights_49 rfl (lv_at hl 1 rfl) ?_
        refine lv_iconst (v := 1) hx hb d_RR_readHeights_50 (by decide) ?_
        obtain ⟨_, h52, hf⟩ := px_bind hf
        obtain ⟨⟨v40, M38⟩, h39, hf⟩ := px_bind hf
        dsimp only at hf
        refine px_calli (va_runV (As := [.int 1]) (rest := []) ⟨hx, hb, hml, hown, hts⟩ (c_RR_readNumber l bs D G o0 1 M34 h39) (cwV 1 hts (px_gV w_371 w_373 ws_RR_readNumber w_3 w_374) rfl rfl rfl (by decide +kernel) ⟨Nat.le_of_ble_eq_true rfl, Nat.le_of_ble_eq_true rfl⟩) (px_preV px_nwok hK hN hO hM h52 rfl) rfl rfl hl.1 rfl (lv_room (Nat.le_of_ble_eq_true rfl)) d_RR_readHeights_51 ⟨Nat.le_of_ble_eq_true rfl, Nat.le_of_ble_eq_true rfl⟩) hS (fun H locs hM hS => ?_)
        refine lv_istore_n (lv' := [(3, .int v40), (1, .int v36), (0, .ref o0), (2, .int x2)]) hx hb d_RR_readHeights_54 rfl hl (by decide) rfl (fun ls hl => ?_)
        refine lv_iload_n hx hb d_RR_readHeights_55 rfl (lv_at hl 0 rfl) ?_
        refine lv_iconst (v := (-1)) hx hb d_RR_readHeights_56 (by decide) ?_
        refine lv_icmp_ne (tgt := 62) hx hb d_RR_readHeights_57 (by decide) (fun c41 => ?_) (fun c41 => ?_)
        · have hf := px_iff hf c41
          refine lv_aload_n hx hb d_RR_readHeights_62 rfl (lv_at hl 2 rfl) ?_
          obtain ⟨t42, h43, hf⟩ := px_bind hf
          refine px_rgr hx hb hts cl_RR hown hK hM 1 (by decide) (hts _ w_45) h43 d_RR_readHeights_63 ?_
          refine lv_iload_n hx hb d_RR_readHeights_66 rfl (lv_at hl 1 rfl) ?_
          refine lv_iload_n hx hb d_RR_readHeights_67 rfl (lv_at hl 0 rfl) ?_
          obtain ⟨_, h51, hf⟩ := px_bind hf
          obtain ⟨M44, h45, hf⟩ := px_bind hf
          refine px_callv (va_runV (As := [.int v36, .int v40]) (rest := []) ⟨hx, hb, hml, hown, hts⟩ (c_RS_addStep l bs D G t42 v36 v40 M38 h45) (cwV 2 hts (px_gV w_379 w_74 w_75 w_4 w_76) rfl rfl rfl (by decide +kernel) ⟨Nat.le_of_ble_eq_true rfl, Nat.le_of_ble_eq_true rfl⟩) (px_preV px_nwok hK hN hO hM h51 rfl) rfl rfl hl.1 rfl (lv_room (Nat.le_of_ble_eq_true rfl)) d_RR_readHeights_68 ⟨Nat.le_of_ble_eq_true rfl, Nat.le_of_ble_eq_true rfl⟩) hS (fun H locs hM hS => ?_)
          refine lv_aload_n hx hb d_RR_readHeights_71 rfl (lv_at hl 2 rfl) ?_
          refine lv_bipush (v := 44) hx hb d_RR_readHeights_72 (by decide) ?_
          obtain ⟨_, h50, hf⟩ := px_bind hf
          obtain ⟨⟨v48, M46⟩, h47, hf⟩ := px_bind hf
          dsimp only at hf
          refine px_calli (va_runV (As := [.int 44]) (rest := []) ⟨hx, hb, hml, hown, hts⟩ (c_RR_pass l bs D G o0 44 M44 h47) (cwV 1 hts (px_gV w_380 w_382 ws_RR_pass w_3 w_383) rfl rfl rfl (by decide +kernel) ⟨Nat.le_of_ble_eq_true rfl, Nat.le_of_ble_eq_true rfl⟩) (px_preV px_nwok hK hN hO hM h50 rfl) rfl rfl hl.1 rfl (lv_room (Nat.le_of_ble_eq_true rfl)) d_RR_readHeights_74 ⟨Nat.le_of_ble_eq_true rfl, Nat.le_of_ble_eq_true rfl⟩) hS (fun H locs hM hS => ?_)
          refine lv_if_ne (tgt := 82) hx hb d_RR_readHeights_77 (by decide) (fun c49 => ?_) (fun c49 => ?_)
          · have hf := px_iff hf c49
            refine lv_iinc (v := x2 + 1) (lv' := [(2, .int (x2 + 1)), (3, .int v40), (1, .int v36), (0, .ref o0)]) hx hb d_RR_readHeights_82 hl (k := 3) rfl (by rfl) (by decide) rfl (fun ls hl => ?_)
            refine lv_goto (tgt := 27) hx hb d_RR_readHeights_85 (by decide) ?_
            exact ih v36 (x2 + 1) M46 hf _ _ _ hM hS (lv_sub hl [3, 2, 0] rfl)
          · have hf := px_ift hf c49
            refine lv_iconst (v := 1) hx hb d_RR_readHeights_80 (by decide) ?_
            obtain ⟨rfl, rfl⟩ := px_s2 hf
            exact kr _ rfl rfl _ _ _ _ d_RR_readHeights_81 hM hS
        · have hf := px_ift hf c41
          refine lv_iconst (v := 0) hx hb d_RR_readHeights_60 (by decide) ?_
          obtain ⟨rfl, rfl⟩ := px_s2 hf
          exact kr _ rfl rfl _ _ _ _ d_RR_readHeights_61 hM hS
      · have hf := px_ift hf c37
        refine lv_iconst (v := (-1)) hx hb d_RR_readHeights_45 (by decide) ?_
        refine lv_goto (tgt := 54) hx hb d_RR_readHeights_46 (by decide) ?_
        refine lv_istore_n (lv' := [(3, .int ((-1))), (1, .int v36), (0, .ref o0), (2, .int x2)]) hx hb d_RR_readHeights_54 rfl hl (by decide) rfl (fun ls hl => ?_)
        refine lv_iload_n hx hb d_RR_readHeights_55 rfl (lv_at hl 0 rfl) ?_
        refine lv_iconst (v := (-1)) hx hb d_RR_readHeights_56 (by decide) ?_
        refine lv_icmp_ne (tgt := 62) hx hb d_RR_readHeights_57 (by decide) (fun c53 => False.elim (by revert c53; decide)) (fun c53 => ?_)
        refine lv_iconst (v := 0) hx hb d_RR_readHeights_60 (by decide) ?_
        obtain ⟨rfl, rfl⟩ := px_s2 hf
        exact kr _ rfl rfl _ _ _ _ d_RR_readHeights_61 hM hS
def f_RR_readHeights (o0 : Nat) (M : px_M) : Option (Int32 × px_M) :=
  (px_pt 2 3 M o0 (.int 1)).bind fun M1 =>
  (px_gi 2 2 M1 o0).bind fun v3 =>
  (px_pt 2 2 M1 o0 (.int (v3 + 1))).bind fun M5 =>
  (px_gr 2 1 M5 o0).bind fun t7 =>
  (px_pt 3 2 M5 t7 (.int 0)).bind fun M9 =>
  (f_RR_readHeights_L27 px_fuel o0 0 0 M9).bind fun yh56 => (match yh56 with
  | (.inl _, M55) =>
  (px_ob 2 M55 o0).bind fun _ =>
  (f_RR_nextSign o0 M55).bind fun (v59, M57) =>
  some (0, M57)
  | (.inr r61, M55) => some (r61, M55))
set_option maxHeartbeats 4000000 in
set_option maxRecDepth 100000 in
theorem c_RR_readHeights (l : Launch) (bs : Nat) (D : va_G) (G : Nat → ClassId) (o0 : Nat) (M : px_M) {r : Int32} {M' : px_M} (hf : f_RR_readHeights o0 M = some (r, M')) : Met l y_RR_readHeights (.code y_RR_readHeights b_RR_readHeights 4 (some .boolean) :: px_tw) ⟨3, 0, 0, 67⟩ (va_Pc [.ref o0] (px_B bs D px_cl (px_tys G) px_nw px_over M)) (px_Qi bs D px_cl (px_tys G) r M') 0 0 (fun q => bs ≤ q) := by
  refine px_of (by decide) (Nat.le_of_ble_eq_true rfl) ?_
  intro p e s m below meth c ls C0 hM hS hl
  obtain ⟨hx, hb, hr, hml, hown, hnm, hlocks, hts, hK, hN, hO⟩ := C0
  have hl : lv_has ls 4 [(0, .ref o0)] := hl
  unfold f_RR_readHeights at hf
  refine lv_aload_n hx hb d_RR_readHeights_0 rfl (lv_at hl 0 rfl) ?_
  refine lv_iconst (v := 1) hx hb d_RR_readHeights_1 (by decide) ?_
  obtain ⟨M1, h2, hf⟩ := px_bind hf
  refine px_rpt hx hb hts cl_RR hown hK hM hS 3 (by decide) (hts _ w_47) rfl rfl rfl h2 d_RR_readHeights_2 (fun H locs hM hS => ?_)
  refine lv_aload_n hx hb d_RR_readHeights_5 rfl (lv_at hl 0 rfl) ?_
  refine lv_dup hx hb d_RR_readHeights_6 rfl ?_
  obtain ⟨v3, h4, hf⟩ := px_bind hf
  refine px_rgi hx hb hts cl_RR hown hK hM 2 (by decide) (hts _ w_46) h4 d_RR_readHeights_7 ?_
  refine lv_iconst (v := 1) hx hb d_RR_readHeights_10 (by decide) ?_
  refine lv_iadd hx hb d_RR_readHeights_11 ?_
  obtain ⟨M5, h6, hf⟩ := px_bind hf
  refine px_rpt hx hb hts cl_RR hown hK hM hS 2 (by decide) (hts _ w_46) rfl rfl rfl h6 d_RR_readHeights_12 (fun H locs hM hS => ?_)
  refine lv_aload_n hx hb d_RR_readHeights_15 rfl (lv_at hl 0 rfl) ?_
  obtain ⟨t7, h8, hf⟩ := px_bind hf
  refine px_rgr hx hb hts cl_RR hown hK hM 1 (by decide) (hts _ w_45) h8 d_RR_readHeights_16 ?_
  refine lv_iconst (v := 0) hx hb d_RR_readHeights_19 (by decide) ?_
  obtain ⟨M9, h10, hf⟩ := px_bind hf
  refine px_rptN hx hb hts cl_RS hown hK hM hS 2 (by decide) (hN _ n_80) rfl rfl rfl h10 d_RR_readHeights_20 (fun H locs hM hS => ?_)
  refine lv_iconst (v := 0) hx hb d_RR_readHeights_23 (by decide) ?_
  refine lv_istore_n (lv' := [(1, .int 0), (0, .ref o0)]) hx hb d_RR_readHeights_24 rfl hl (by decide) rfl (fun ls hl => ?_)
  refine lv_iconst (v := 0) hx hb d_RR_readHeights_25 (by decide) ?_
  refine lv_istore_n (lv' := [(2, .int 0), (1, .int 0), (0, .ref o0)]) hx hb d_RR_readHeights_26 rfl hl (by decide) rfl (fun ls hl => ?_)
  obtain ⟨⟨xh56, M55⟩, h56, hf⟩ := px_bind hf
  refine lp_RR_readHeights_L27 ⟨hx, hb, hr, hml, hown, hnm, hlocks, hts, hK, hN, hO⟩ xh56 M55 o0 (fun uh56 eu H locs ls hM hS hl => ?_) (fun r61 eu hn H locs ls pc hdg hM hS => ?_) px_fuel 0 0 M9 h56 _ _ _ hM hS (lv_sub hl [2, 1, 0] rfl)
  · subst eu
    skip
    dsimp only at hf
    try dsimp only at hl
    refine lv_aload_n hx hb d_RR_readHeights_88 rfl (lv_at hl 0 rfl) ?_
    obtain ⟨_, h60, hf⟩ := px_bind hf
    obtain ⟨⟨v59, M57⟩, h58, hf⟩ := px_bind hf
    dsimp only at hf
    refine px_calli (va_runV (As := []) (rest := []) ⟨hx, hb, hml, hown, hts⟩ (c_RR_nextSign l bs D G o0 M55 h58) (cwV 0 hts (px_gV w_359 w_361 ws_RR_nextSign w_3 w_362) rfl rfl rfl (by decide +kernel) ⟨Nat.le_of_ble_eq_true rfl, Nat.le_of_ble_eq_true rfl⟩) (px_preV px_nwok hK hN hO hM h60 rfl) rfl rfl hl.1 rfl (lv_room (Nat.le_of_ble_eq_true rfl)) d_RR_readHeights_89 ⟨Nat.le_of_ble_eq_true rfl, Nat.le_of_ble_eq_true rfl⟩) hS (fun H locs hM hS => ?_)
    refine lv_pop hx hb d_RR_readHeights_92 rfl ?_
    refine lv_iconst (v := 0) hx hb d_RR_readHeights_93 (by decide) ?_
    obtain ⟨rfl, rfl⟩ := px_s2 hf
    exact px_zret hx hb hr rfl hlocks hM hS d_RR_readHeights_94
  · subst eu
    dsimp only at hf
    obtain ⟨rfl, rfl⟩ := px_s2 hf
    exact px_zret hx hb hr hn hlocks hM hS hdg
def f_RR_readMargin (o0 : Nat) (M : px_M) : Option (Int32 × px_M) :=
  (px_pt 2 4 M o0 (.int 1)).bind fun M1 =>
  (px_gi 2 2 M1 o0).bind fun v3 =>
  (px_pt 2 2 M1 o0 (.int (v3 + 1))).bind fun M5 =>
  (px_ob 2 M5 o0).bind fun _ =>
  (f_RR_readNumber o0 0 M5).bind fun (v9, M7) =>
  if v9 = ((-1)) then
  some (0, M7)
  else
  (px_ob 2 M7 o0).bind fun _ =>
  (f_RR_readNumber o0 0 M7).bind fun (v13, M11) =>
  if v13 = ((-1)) then
  some (0, M11)
  else
  (px_gr 2 1 M11 o0).bind fun t15 =>
  (px_pt 3 3 M11 t15 (.int v9)).bind fun M17 =>
  (px_gr 2 1 M17 o0).bind fun t19 =>
  (px_pt 3 4 M17 t19 (.int v13)).bind fun M21 =>
  some (1, M21)
set_option maxHeartbeats 4000000 in
set_option maxRecDepth 100000 in
theorem c_RR_readMargin (l : Launch) (bs : Nat) (D : va_G) (G : Nat → ClassId) (o0 : Nat) (M : px_M) {r : Int32} {M' : px_M} (hf : f_RR_readMargin o0 M = some (r, M')) : Met l y_RR_readMargin (.code y_RR_readMargin b_RR_readMargin 3 (some .boolean) :: px_tw) ⟨3, 0, 0, 67⟩ (va_Pc [.ref o0] (px_B bs D px_cl (px_tys G) px_nw px_over M)) (px_Qi bs D px_cl (px_tys G) r M') 0 0 (fun q => bs ≤ q) := by
  refine px_of (by decide) (Nat.le_of_ble_eq_true rfl) ?_
  intro p e s m below meth c ls C0 hM hS hl
  obtain ⟨hx, hb, hr, hml, hown, hnm, hlocks, hts, hK, hN, hO⟩ := C0
  have hl : lv_has ls 3 [(0, .ref o0)] := hl
  unfold f_RR_readMargin at hf
  refine lv_aload_n hx hb d_RR_readMargin_0 rfl (lv_at hl 0 rfl) ?_
  refine lv_iconst (v := 1) hx hb d_RR_readMargin_1 (by decide) ?_
  obtain ⟨M1, h2, hf⟩ := px_bind hf
  refine px_rpt hx hb hts cl_RR hown hK hM hS 4 (by decide) (hts _ w_48) rfl rfl rfl h2 d_RR_readMargin_2 (fun H locs hM hS => ?_)
  refine lv_aload_n hx hb d_RR_readMargin_5 rfl (lv_at hl 0 rfl) ?_
  refine lv_dup hx hb d_RR_readMargin_6 rfl ?_
  obtain ⟨v3, h4, hf⟩ := px_bind hf
  refine px_rgi hx hb hts cl_RR hown hK hM 2 (by decide) (hts _ w_46) h4 d_RR_readMargin_7 ?_
  refine lv_iconst (v := 1) hx hb d_RR_readMargin_10 (by decide) ?_
  refine lv_iadd hx hb d_RR_readMargin_11 ?_
  obtain ⟨M5, h6, hf⟩ := px_bind hf
  refine px_rpt hx hb hts cl_RR hown hK hM hS 2 (by decide) (hts _ w_46) rfl rfl rfl h6 d_RR_readMargin_12 (fun H locs hM hS => ?_)
  refine lv_aload_n hx hb d_RR_readMargin_15 rfl (lv_at hl 0 rfl) ?_
  refine lv_iconst (v := 0) hx hb d_RR_readMargin_16 (by decide) ?_
  obtain ⟨_, h25, hf⟩ := px_bind hf
  obtain ⟨⟨v9, M7⟩, h8, hf⟩ := px_bind hf
  dsimp only at hf
  refine px_calli (va_runV (As := [.int 0]) (rest := []) ⟨hx, hb, hml, hown, hts⟩ (c_RR_readNumber l bs D G o0 0 M5 h8) (cwV 1 hts (px_gV w_371 w_373 ws_RR_readNumber w_3 w_374) rfl rfl rfl (by decide +kernel) ⟨Nat.le_of_ble_eq_true rfl, Nat.le_of_ble_eq_true rfl⟩) (px_preV px_nwok hK hN hO hM h25 rfl) rfl rfl hl.1 rfl (lv_room (Nat.le_of_ble_eq_true rfl)) d_RR_readMargin_17 ⟨Nat.le_of_ble_eq_true rfl, Nat.le_of_ble_eq_true rfl⟩) hS (fun H locs hM hS => ?_)
  refine lv_istore_n (lv' := [(1, .int v9), (0, .ref o0)]) hx hb d_RR_readMargin_20 rfl hl (by decide) rfl (fun ls hl => ?_)
  refine lv_iload_n hx hb d_RR_readMargin_21 rfl (lv_at hl 0 rfl) ?_
  refine lv_iconst (v := (-1)) hx hb d_RR_readMargin_22 (by decide) ?_
  refine lv_icmp_ne (tgt := 30) hx hb d_RR_readMargin_23 (by decide) (fun c10 => ?_) (fun c10 => ?_)
  · have hf := px_iff hf c10
    refine lv_aload_n hx hb d_RR_readMargin_30 rfl (lv_at hl 1 rfl) ?_
    refine lv_iconst (v := 0) hx hb d_RR_readMargin_31 (by decide) ?_
    obtain ⟨_, h23, hf⟩ := px_bind hf
    obtain ⟨⟨v13, M11⟩, h12, hf⟩ := px_bind hf
    dsimp only at hf
    refine px_calli (va_runV (As := [.int 0]) (rest := []) ⟨hx, hb, hml, hown, hts⟩ (c_RR_readNumber l bs D G o0 0 M7 h12) (cwV 1 hts (px_gV w_371 w_373 ws_RR_readNumber w_3 w_374) rfl rfl rfl (by decide +kernel) ⟨Nat.le_of_ble_eq_true rfl, Nat.le_of_ble_eq_true rfl⟩) (px_preV px_nwok hK hN hO hM h23 rfl) rfl rfl hl.1 rfl (lv_room (Nat.le_of_ble_eq_true rfl)) d_RR_readMargin_32 ⟨Nat.le_of_ble_eq_true rfl, Nat.le_of_ble_eq_true rfl⟩) hS (fun H locs hM hS => ?_)
    refine lv_istore_n (lv' := [(2, .int v13), (1, .int v9), (0, .ref o0)]) hx hb d_RR_readMargin_35 rfl hl (by decide) rfl (fun ls hl => ?_)
    refine lv_iload_n hx hb d_RR_readMargin_36 rfl (lv_at hl 0 rfl) ?_
    refine lv_iconst (v := (-1)) hx hb d_RR_readMargin_37 (by decide) ?_
    refine lv_icmp_ne (tgt := 43) hx hb d_RR_readMargin_38 (by decide) (fun c14 => ?_) (fun c14 => ?_)
    · have hf := px_iff hf c14
      refine lv_aload_n hx hb d_RR_readMargin_43 rfl (lv_at hl 2 rfl) ?_
      obtain ⟨t15, h16, hf⟩ := px_bind hf
      refine px_rgr hx hb hts cl_RR hown hK hM 1 (by decide) (hts _ w_45) h16 d_RR_readMargin_44 ?_
      refine lv_iload_n hx hb d_RR_readMargin_47 rfl (lv_at hl 1 rfl) ?_
      obtain ⟨M17, h18, hf⟩ := px_bind hf
      refine px_rptN hx hb hts cl_RS hown hK hM hS 3 (by decide) (hN _ n_83) rfl rfl rfl h18 d_RR_readMargin_48 (fun H locs hM hS => ?_)
      refine lv_aload_n hx hb d_RR_readMargin_51 rfl (lv_at hl 2 rfl) ?_
      obtain ⟨t19, h20, hf⟩ := px_bind hf
      refine px_rgr hx hb hts cl_RR hown hK hM 1 (by decide) (hts _ w_45) h20 d_RR_readMargin_52 ?_
      refine lv_iload_n hx hb d_RR_readMargin_55 rfl (lv_at hl 0 rfl) ?_
      obtain ⟨M21, h22, hf⟩ := px_bind hf
      refine px_rptN hx hb hts cl_RS hown hK hM hS 4 (by decide) (hN _ n_86) rfl rfl rfl h22 d_RR_readMargin_56 (fun H locs hM hS => ?_)
      refine lv_iconst (v := 1) hx hb d_RR_readMargin_59 (by decide) ?_
      obtain ⟨rfl, rfl⟩ := px_s2 hf
      exact px_zret hx hb hr rfl hlocks hM hS d_RR_readMargin_60
    · have hf := px_ift hf c14
      refine lv_iconst (v := 0) hx hb d_RR_readMargin_41 (by decide) ?_
      obtain ⟨rfl, rfl⟩ := px_s2 hf
      exact px_zret hx hb hr rfl hlocks hM hS d_RR_readMargin_42
  · have hf := px_ift hf c10
    refine lv_iconst (v := (-1)) hx hb d_RR_readMargin_26 (by decide) ?_
    refine lv_goto (tgt := 35) hx hb d_RR_readMargin_27 (by decide) ?_
    refine lv_istore_n (lv' := [(2, .int ((-1))), (1, .int v9), (0, .ref o0)]) hx hb d_RR_readMargin_35 rfl hl (by decide) rfl (fun ls hl => ?_)
    refine lv_iload_n hx hb d_RR_readMargin_36 rfl (lv_at hl 0 rfl) ?_
    refine lv_iconst (v := (-1)) hx hb d_RR_readMargin_37 (by decide) ?_
    refine lv_icmp_ne (tgt := 43) hx hb d_RR_readMargin_38 (by decide) (fun c24 => False.elim (by revert c24; decide)) (fun c24 => ?_)
    refine lv_iconst (v := 0) hx hb d_RR_readMargin_41 (by decide) ?_
    obtain ⟨rfl, rfl⟩ := px_s2 hf
    exact px_zret hx hb hr rfl hlocks hM hS d_RR_readMargin_42
def f_RR_readOrder (o0 : Nat) (M : px_M) : Option (Int32 × px_M) :=
  (px_pt 2 5 M o0 (.int 1)).bind fun M1 =>
  (px_gi 2 2 M1 o0).bind fun v3 =>
  (px_pt 2 2 M1 o0 (.int (v3 + 1))).bind fun M5 =>
  (px_ob 2 M5 o0).bind fun _ =>
  (f_RR_nextSign o0 M5).bind fun (v9, M7) =>
  if v9 = 110 then
  (px_gr 2 1 M7 o0).bind fun t11 =>
  (px_pt 3 5 M7 t11 (.int v9)).bind fun M13 =>
  (px_gi 2 2 M13 o0).bind fun v15 =>
  (px_pt 2 2 M13 o0 (.int (v15 + 1))).bind fun M17 =>
  some (1, M17)
  else
  if v9 = 102 then
  (px_gr 2 1 M7 o0).bind fun t20 =>
  (px_pt 3 5 M7 t20 (.int v9)).bind fun M22 =>
  (px_gi 2 2 M22 o0).bind fun v24 =>
  (px_pt 2 2 M22 o0 (.int (v24 + 1))).bind fun M26 =>
  some (1, M26)
  else
  if v9 = 97 then
  (px_gr 2 1 M7 o0).bind fun t29 =>
  (px_pt 3 5 M7 t29 (.int v9)).bind fun M31 =>
  (px_gi 2 2 M31 o0).bind fun v33 =>
  (px_pt 2 2 M31 o0 (.int (v33 + 1))).bind fun M35 =>
  some (1, M35)
  else
  if v9 = 116 then
  (px_gr 2 1 M7 o0).bind fun t38 =>
  (px_pt 3 5 M7 t38 (.int v9)).bind fun M40 =>
  (px_gi 2 2 M40 o0).bind fun v42 =>
  (px_pt 2 2 M40 o0 (.int (v42 + 1))).bind fun M44 =>
  some (1, M44)
  else
  some (0, M7)
set_option maxHeartbeats 4000000 in
set_option maxRecDepth 100000 in
theorem c_RR_readOrder (l : Launch) (bs : Nat) (D : va_G) (G : Nat → ClassId) (o0 : Nat) (M : px_M) {r : Int32} {M' : px_M} (hf : f_RR_readOrder o0 M = some (r, M')) : Met l y_RR_readOrder (.code y_RR_readOrder b_RR_readOrder 2 (some .boolean) :: px_tw) ⟨2, 0, 0, 41⟩ (va_Pc [.ref o0] (px_B bs D px_cl (px_tys G) px_nw px_over M)) (px_Qi bs D px_cl (px_tys G) r M') 0 0 (fun q => bs ≤ q) := by
  refine px_of (by decide) (Nat.le_of_ble_eq_true rfl) ?_
  intro p e s m below meth c ls C0 hM hS hl
  obtain ⟨hx, hb, hr, hml, hown, hnm, hlocks, hts, hK, hN, hO⟩ := C0
  have hl : lv_has ls 2 [(0, .ref o0)] := hl
  unfold f_RR_readOrder at hf
  refine lv_aload_n hx hb d_RR_readOrder_0 rfl (lv_at hl 0 rfl) ?_
  refine lv_iconst (v := 1) hx hb d_RR_readOrder_1 (by decide) ?_
  obtain ⟨M1, h2, hf⟩ := px_bind hf
  refine px_rpt hx hb hts cl_RR hown hK hM hS 5 (by decide) (hts _ w_49) rfl rfl rfl h2 d_RR_readOrder_2 (fun H locs hM hS => ?_)
  refine lv_aload_n hx hb d_RR_readOrder_5 rfl (lv_at hl 0 rfl) ?_
  refine lv_dup hx hb d_RR_readOrder_6 rfl ?_
  obtain ⟨v3, h4, hf⟩ := px_bind hf
  refine px_rgi hx hb hts cl_RR hown hK hM 2 (by decide) (hts _ w_46) h4 d_RR_readOrder_7 ?_
  refine lv_iconst (v := 1) hx hb d_RR_readOrder_10 (by decide) ?_
  refine lv_iadd hx hb d_RR_readOrder_11 ?_
  obtain ⟨M5, h6, hf⟩ := px_bind hf
  refine px_rpt hx hb hts cl_RR hown hK hM hS 2 (by decide) (hts _ w_46) rfl rfl rfl h6 d_RR_readOrder_12 (fun H locs hM hS => ?_)
  refine lv_aload_n hx hb d_RR_readOrder_15 rfl (lv_at hl 0 rfl) ?_
  obtain ⟨_, h46, hf⟩ := px_bind hf
  obtain ⟨⟨v9, M7⟩, h8, hf⟩ := px_bind hf
  dsimp only at hf
  refine px_calli (va_runV (As := []) (rest := []) ⟨hx, hb, hml, hown, hts⟩ (c_RR_nextSign l bs D G o0 M5 h8) (cwV 0 hts (px_gV w_359 w_361 ws_RR_nextSign w_3 w_362) rfl rfl rfl (by decide +kernel) ⟨Nat.le_of_ble_eq_true rfl, Nat.le_of_ble_eq_true rfl⟩) (px_preV px_nwok hK hN hO hM h46 rfl) rfl rfl hl.1 rfl (lv_room (Nat.le_of_ble_eq_true rfl)) d_RR_readOrder_16 ⟨Nat.le_of_ble_eq_true rfl, Nat.le_of_ble_eq_true rfl⟩) hS (fun H locs hM hS => ?_)
  refine lv_istore_n (lv' := [(1, .int v9), (0, .ref o0)]) hx hb d_RR_readOrder_19 rfl hl (by decide) rfl (fun ls hl => ?_)
  refine lv_iload_n hx hb d_RR_readOrder_20 rfl (lv_at hl 0 rfl) ?_
  refine lv_bipush (v := 110) hx hb d_RR_readOrder_21 (by decide) ?_
  refine lv_icmp_eq (tgt := 46) hx hb d_RR_readOrder_23 (by decide) (fun c10 => ?_) (fun c10 => ?_)
  · have hf := px_ift hf c10
    refine lv_aload_n hx hb d_RR_readOrder_46 rfl (lv_at hl 1 rfl) ?_
    obtain ⟨t11, h12, hf⟩ := px_bind hf
    refine px_rgr hx hb hts cl_RR hown hK hM 1 (by decide) (hts _ w_45) h12 d_RR_readOrder_47 ?_
    refine lv_iload_n hx hb d_RR_readOrder_50 rfl (lv_at hl 0 rfl) ?_
    obtain ⟨M13, h14, hf⟩ := px_bind hf
    refine px_rptN hx hb hts cl_RS hown hK hM hS 5 (by decide) (hN _ n_88) rfl rfl rfl h14 d_RR_readOrder_51 (fun H locs hM hS => ?_)
    refine lv_aload_n hx hb d_RR_readOrder_54 rfl (lv_at hl 1 rfl) ?_
    refine lv_dup hx hb d_RR_readOrder_55 rfl ?_
    obtain ⟨v15, h16, hf⟩ := px_bind hf
    refine px_rgi hx hb hts cl_RR hown hK hM 2 (by decide) (hts _ w_46) h16 d_RR_readOrder_56 ?_
    refine lv_iconst (v := 1) hx hb d_RR_readOrder_59 (by decide) ?_
    refine lv_iadd hx hb d_RR_readOrder_60 ?_
    obtain ⟨M17, h18, hf⟩ := px_bind hf
    refine px_rpt hx hb hts cl_RR hown hK hM hS 2 (by decide) (hts _ w_46) rfl rfl rfl h18 d_RR_readOrder_61 (fun H locs hM hS => ?_)
    refine lv_iconst (v := 1) hx hb d_RR_readOrder_64 (by decide) ?_
    obtain ⟨rfl, rfl⟩ := px_s2 hf
    exact px_zret hx hb hr rfl hlocks hM hS d_RR_readOrder_65
  · have hf := px_iff hf c10
    refine lv_iload_n hx hb d_RR_readOrder_26 rfl (lv_at hl 0 rfl) ?_
    refine lv_bipush (v := 102) hx hb d_RR_readOrder_27 (by decide) ?_
    refine lv_icmp_eq (tgt := 46) hx hb d_RR_readOrder_29 (by decide) (fun c19 => ?_) (fun c19 => ?_)
    · have hf := px_ift hf c19
      refine lv_aload_n hx hb d_RR_readOrder_46 rfl (lv_at hl 1 rfl) ?_
      obtain ⟨t20, h21, hf⟩ := px_bind hf
      refine px_rgr hx hb hts cl_RR hown hK hM 1 (by decide) (hts _ w_45) h21 d_RR_readOrder_47 ?_
      refine lv_iload_n hx hb d_RR_readOrder_50 rfl (lv_at hl 0 rfl) ?_
      obtain ⟨M22, h23, hf⟩ := px_bind hf
      refine px_rptN hx hb hts cl_RS hown hK hM hS 5 (by decide) (hN _ n_88) rfl rfl rfl h23 d_RR_readOrder_51 (fun H locs hM hS => ?_)
      refine lv_aload_n hx hb d_RR_readOrder_54 rfl (lv_at hl 1 rfl) ?_
      refine lv_dup hx hb d_RR_readOrder_55 rfl ?_
      obtain ⟨v24, h25, hf⟩ := px_bind hf
      refine px_rgi hx hb hts cl_RR hown hK hM 2 (by decide) (hts _ w_46) h25 d_RR_readOrder_56 ?_
      refine lv_iconst (v := 1) hx hb d_RR_readOrder_59 (by decide) ?_
      refine lv_iadd hx hb d_RR_readOrder_60 ?_
      obtain ⟨M26, h27, hf⟩ := px_bind hf
      refine px_rpt hx hb hts cl_RR hown hK hM hS 2 (by decide) (hts _ w_46) rfl rfl rfl h27 d_RR_readOrder_61 (fun H locs hM hS => ?_)
      refine lv_iconst (v := 1) hx hb d_RR_readOrder_64 (by decide) ?_
      obtain ⟨rfl, rfl⟩ := px_s2 hf
      exact px_zret hx hb hr rfl hlocks hM hS d_RR_readOrder_65
    · have hf := px_iff hf c19
      refine lv_iload_n hx hb d_RR_readOrder_32 rfl (lv_at hl 0 rfl) ?_
      refine lv_bipush (v := 97) hx hb d_RR_readOrder_33 (by decide) ?_
      refine lv_icmp_eq (tgt := 46) hx hb d_RR_readOrder_35 (by decide) (fun c28 => ?_) (fun c28 => ?_)
      · have hf := px_ift hf c28
        refine lv_aload_n hx hb d_RR_readOrder_46 rfl (lv_at hl 1 rfl) ?_
        obtain ⟨t29, h30, hf⟩ := px_bind hf
        refine px_rgr hx hb hts cl_RR hown hK hM 1 (by decide) (hts _ w_45) h30 d_RR_readOrder_47 ?_
        refine lv_iload_n hx hb d_RR_readOrder_50 rfl (lv_at hl 0 rfl) ?_
        obtain ⟨M31, h32, hf⟩ := px_bind hf
        refine px_rptN hx hb hts cl_RS hown hK hM hS 5 (by decide) (hN _ n_88) rfl rfl rfl h32 d_RR_readOrder_51 (fun H locs hM hS => ?_)
        refine lv_aload_n hx hb d_RR_readOrder_54 rfl (lv_at hl 1 rfl) ?_
        refine lv_dup hx hb d_RR_readOrder_55 rfl ?_
        obtain ⟨v33, h34, hf⟩ := px_bind hf
        refine px_rgi hx hb hts cl_RR hown hK hM 2 (by decide) (hts _ w_46) h34 d_RR_readOrder_56 ?_
        refine lv_iconst (v := 1) hx hb d_RR_readOrder_59 (by decide) ?_
        refine lv_iadd hx hb d_RR_readOrder_60 ?_
        obtain ⟨M35, h36, hf⟩ := px_bind hf
        refine px_rpt hx hb hts cl_RR hown hK hM hS 2 (by decide) (hts _ w_46) rfl rfl rfl h36 d_RR_readOrder_61 (fun H locs hM hS => ?_)
        refine lv_iconst (v := 1) hx hb d_RR_readOrder_64 (by decide) ?_
        obtain ⟨rfl, rfl⟩ := px_s2 hf
        exact px_zret hx hb hr rfl hlocks hM hS d_RR_readOrder_65
      · have hf := px_iff hf c28
        refine lv_iload_n hx hb d_RR_readOrder_38 rfl (lv_at hl 0 rfl) ?_
        refine lv_bipush (v := 116) hx hb d_RR_readOrder_39 (by decide) ?_
        refine lv_icmp_eq (tgt := 46) hx hb d_RR_readOrder_41 (by decide) (fun c37 => ?_) (fun c37 => ?_)
        · have hf := px_ift hf c37
          refine lv_aload_n hx hb d_RR_readOrder_46 rfl (lv_at hl 1 rfl) ?_
          obtain ⟨t38, h39, hf⟩ := px_bind hf
          refine px_rgr hx hb hts cl_RR hown hK hM 1 (by decide) (hts _ w_45) h39 d_RR_readOrder_47 ?_
          refine lv_iload_n hx hb d_RR_readOrder_50 rfl (lv_at hl 0 rfl) ?_
          obtain ⟨M40, h41, hf⟩ := px_bind hf
          refine px_rptN hx hb hts cl_RS hown hK hM hS 5 (by decide) (hN _ n_88) rfl rfl rfl h41 d_RR_readOrder_51 (fun H locs hM hS => ?_)
          refine lv_aload_n hx hb d_RR_readOrder_54 rfl (lv_at hl 1 rfl) ?_
          refine lv_dup hx hb d_RR_readOrder_55 rfl ?_
          obtain ⟨v42, h43, hf⟩ := px_bind hf
          refine px_rgi hx hb hts cl_RR hown hK hM 2 (by decide) (hts _ w_46) h43 d_RR_readOrder_56 ?_
          refine lv_iconst (v := 1) hx hb d_RR_readOrder_59 (by decide) ?_
          refine lv_iadd hx hb d_RR_readOrder_60 ?_
          obtain ⟨M44, h45, hf⟩ := px_bind hf
          refine px_rpt hx hb hts cl_RR hown hK hM hS 2 (by decide) (hts _ w_46) rfl rfl rfl h45 d_RR_readOrder_61 (fun H locs hM hS => ?_)
          refine lv_iconst (v := 1) hx hb d_RR_readOrder_64 (by decide) ?_
          obtain ⟨rfl, rfl⟩ := px_s2 hf
          exact px_zret hx hb hr rfl hlocks hM hS d_RR_readOrder_65
        · have hf := px_iff hf c37
          refine lv_iconst (v := 0) hx hb d_RR_readOrder_44 (by decide) ?_
          obtain ⟨rfl, rfl⟩ := px_s2 hf
          exact px_zret hx hb hr rfl hlocks hM hS d_RR_readOrder_45
def f_RR_readRule (o0 : Nat) (M : px_M) : Option (Int32 × px_M) :=
  (px_ob 2 M o0).bind fun _ =>
  (f_RR_nextSign o0 M).bind fun (v3, M1) =>
  if v3 = 104 then
  (px_gi 2 3 M1 o0).bind fun v5 =>
  if v5 = 0 then
  (px_ob 2 M1 o0).bind fun _ =>
  (f_RR_readHeights o0 M1).bind fun (v10, M8) =>
  if v10 = 0 then
  some (0, M8)
  else
  some (1, M8)
  else
  some (0, M1)
  else if v3 = 109 then
  (px_gi 2 4 M1 o0).bind fun v14 =>
  if v14 = 0 then
  (px_ob 2 M1 o0).bind fun _ =>
  (f_RR_readMargin o0 M1).bind fun (v19, M17) =>
  if v19 = 0 then
  some (0, M17)
  else
  some (1, M17)
  else
  some (0, M1)
  else if v3 = 111 then
  (px_gi 2 5 M1 o0).bind fun v23 =>
  if v23 = 0 then
  (px_ob 2 M1 o0).bind fun _ =>
  (f_RR_readOrder o0 M1).bind fun (v28, M26) =>
  if v28 = 0 then
  some (0, M26)
  else
  some (1, M26)
  else
  some (0, M1)
  else 
  some (0, M1)
set_option maxHeartbeats 4000000 in
set_option maxRecDepth 100000 in
theorem c_RR_readRule (l : Launch) (bs : Nat) (D : va_G) (G : Nat → ClassId) (o0 : Nat) (M : px_M) {r : Int32} {M' : px_M} (hf : f_RR_readRule o0 M = some (r, M')) : Met l y_RR_readRule (.code y_RR_readRule b_RR_readRule 1 (some .boolean) :: px_tw) ⟨4, 0, 0, 90⟩ (va_Pc [.ref o0] (px_B bs D px_cl (px_tys G) px_nw px_over M)) (px_Qi bs D px_cl (px_tys G) r M') 0 0 (fun q => bs ≤ q) := by
  refine px_of (by decide) (Nat.le_of_ble_eq_true rfl) ?_
  intro p e s m below meth c ls C0 hM hS hl
  obtain ⟨hx, hb, hr, hml, hown, hnm, hlocks, hts, hK, hN, hO⟩ := C0
  have hl : lv_has ls 1 [(0, .ref o0)] := hl
  unfold f_RR_readRule at hf
  refine lv_aload_n hx hb d_RR_readRule_0 rfl (lv_at hl 0 rfl) ?_
  obtain ⟨_, h31, hf⟩ := px_bind hf
  obtain ⟨⟨v3, M1⟩, h2, hf⟩ := px_bind hf
  dsimp only at hf
  refine px_calli (va_runV (As := []) (rest := []) ⟨hx, hb, hml, hown, hts⟩ (c_RR_nextSign l bs D G o0 M h2) (cwV 0 hts (px_gV w_359 w_361 ws_RR_nextSign w_3 w_362) rfl rfl rfl (by decide +kernel) ⟨Nat.le_of_ble_eq_true rfl, Nat.le_of_ble_eq_true rfl⟩) (px_preV px_nwok hK hN hO hM h31 rfl) rfl rfl hl.1 rfl (lv_room (Nat.le_of_ble_eq_true rfl)) d_RR_readRule_1 ⟨Nat.le_of_ble_eq_true rfl, Nat.le_of_ble_eq_true rfl⟩) hS (fun H locs hM hS => ?_)
  by_cases c4 : v3 = 104
  · have hf := px_ift hf c4
    refine lv_lookup (off := 36) (tgt := 40) hx hb d_RR_readRule_4 (by decide) (by rw [c4] <;> rfl) (by decide) ?_
    refine lv_aload_n hx hb d_RR_readRule_40 rfl (lv_at hl 0 rfl) ?_
    obtain ⟨v5, h6, hf⟩ := px_bind hf
    refine px_rgi hx hb hts cl_RR hown hK hM 3 (by decide) (hts _ w_47) h6 d_RR_readRule_41 ?_
    refine lv_if_ne (tgt := 58) hx hb d_RR_readRule_44 (by decide) (fun c7 => ?_) (fun c7 => ?_)
    · have hf := px_iff hf c7
      refine lv_iconst (v := 0) hx hb d_RR_readRule_58 (by decide) ?_
      obtain ⟨rfl, rfl⟩ := px_s2 hf
      exact px_zret hx hb hr rfl hlocks hM hS d_RR_readRule_59
    · have hf := px_ift hf c7
      refine lv_aload_n hx hb d_RR_readRule_47 rfl (lv_at hl 0 rfl) ?_
      obtain ⟨_, h12, hf⟩ := px_bind hf
      obtain ⟨⟨v10, M8⟩, h9, hf⟩ := px_bind hf
      dsimp only at hf
      refine px_calli (va_runV (As := []) (rest := []) ⟨hx, hb, hml, hown, hts⟩ (c_RR_readHeights l bs D G o0 M1 h9) (cwV 0 hts (px_gV w_367 w_369 ws_RR_readHeights w_3 w_370) rfl rfl rfl (by decide +kernel) ⟨Nat.le_of_ble_eq_true rfl, Nat.le_of_ble_eq_true rfl⟩) (px_preV px_nwok hK hN hO hM h12 rfl) rfl rfl hl.1 rfl (lv_room (Nat.le_of_ble_eq_true rfl)) d_RR_readRule_48 ⟨Nat.le_of_ble_eq_true rfl, Nat.le_of_ble_eq_true rfl⟩) hS (fun H locs hM hS => ?_)
      refine lv_if_eq (tgt := 58) hx hb d_RR_readRule_51 (by decide) (fun c11 => ?_) (fun c11 => ?_)
      · have hf := px_ift hf c11
        refine lv_iconst (v := 0) hx hb d_RR_readRule_58 (by decide) ?_
        obtain ⟨rfl, rfl⟩ := px_s2 hf
        exact px_zret hx hb hr rfl hlocks hM hS d_RR_readRule_59
      · have hf := px_iff hf c11
        refine lv_iconst (v := 1) hx hb d_RR_readRule_54 (by decide) ?_
        refine lv_goto (tgt := 59) hx hb d_RR_readRule_55 (by decide) ?_
        obtain ⟨rfl, rfl⟩ := px_s2 hf
        exact px_zret hx hb hr rfl hlocks hM hS d_RR_readRule_59
  · have hf := px_iff hf c4
    by_cases c13 : v3 = 109
    · have hf := px_ift hf c13
      refine lv_lookup (off := 56) (tgt := 60) hx hb d_RR_readRule_4 (by decide) (by rw [c13] <;> rfl) (by decide) ?_
      refine lv_aload_n hx hb d_RR_readRule_60 rfl (lv_at hl 0 rfl) ?_
      obtain ⟨v14, h15, hf⟩ := px_bind hf
      refine px_rgi hx hb hts cl_RR hown hK hM 4 (by decide) (hts _ w_48) h15 d_RR_readRule_61 ?_
      refine lv_if_ne (tgt := 78) hx hb d_RR_readRule_64 (by decide) (fun c16 => ?_) (fun c16 => ?_)
      · have hf := px_iff hf c16
        refine lv_iconst (v := 0) hx hb d_RR_readRule_78 (by decide) ?_
        obtain ⟨rfl, rfl⟩ := px_s2 hf
        exact px_zret hx hb hr rfl hlocks hM hS d_RR_readRule_79
      · have hf := px_ift hf c16
        refine lv_aload_n hx hb d_RR_readRule_67 rfl (lv_at hl 0 rfl) ?_
        obtain ⟨_, h21, hf⟩ := px_bind hf
        obtain ⟨⟨v19, M17⟩, h18, hf⟩ := px_bind hf
        dsimp only at hf
        refine px_calli (va_runV (As := []) (rest := []) ⟨hx, hb, hml, hown, hts⟩ (c_RR_readMargin l bs D G o0 M1 h18) (cwV 0 hts (px_gV w_384 w_386 ws_RR_readMargin w_3 w_387) rfl rfl rfl (by decide +kernel) ⟨Nat.le_of_ble_eq_true rfl, Nat.le_of_ble_eq_true rfl⟩) (px_preV px_nwok hK hN hO hM h21 rfl) rfl rfl hl.1 rfl (lv_room (Nat.le_of_ble_eq_true rfl)) d_RR_readRule_68 ⟨Nat.le_of_ble_eq_true rfl, Nat.le_of_ble_eq_true rfl⟩) hS (fun H locs hM hS => ?_)
        refine lv_if_eq (tgt := 78) hx hb d_RR_readRule_71 (by decide) (fun c20 => ?_) (fun c20 => ?_)
        · have hf := px_ift hf c20
          refine lv_iconst (v := 0) hx hb d_RR_readRule_78 (by decide) ?_
          obtain ⟨rfl, rfl⟩ := px_s2 hf
          exact px_zret hx hb hr rfl hlocks hM hS d_RR_readRule_79
        · have hf := px_iff hf c20
          refine lv_iconst (v := 1) hx hb d_RR_readRule_74 (by decide) ?_
          refine lv_goto (tgt := 79) hx hb d_RR_readRule_75 (by decide) ?_
          obtain ⟨rfl, rfl⟩ := px_s2 hf
          exact px_zret hx hb hr rfl hlocks hM hS d_RR_readRule_79
    · have hf := px_iff hf c13
      by_cases c22 : v3 = 111
      · have hf := px_ift hf c22
        refine lv_lookup (off := 76) (tgt := 80) hx hb d_RR_readRule_4 (by decide) (by rw [c22] <;> rfl) (by decide) ?_
        refine lv_aload_n hx hb d_RR_readRule_80 rfl (lv_at hl 0 rfl) ?_
        obtain ⟨v23, h24, hf⟩ := px_bind hf
        refine px_rgi hx hb hts cl_RR hown hK hM 5 (by decide) (hts _ w_49) h24 d_RR_readRule_81 ?_
        refine lv_if_ne (tgt := 98) hx hb d_RR_readRule_84 (by decide) (fun c25 => ?_) (fun c25 => ?_)
        · have hf := px_iff hf c25
          refine lv_iconst (v := 0) hx hb d_RR_readRule_98 (by decide) ?_
          obtain ⟨rfl, rfl⟩ := px_s2 hf
          exact px_zret hx hb hr rfl hlocks hM hS d_RR_readRule_99
        · have hf := px_ift hf c25
          refine lv_aload_n hx hb d_RR_readRule_87 rfl (lv_at hl 0 rfl) ?_
          obtain ⟨_, h30, hf⟩ := px_bind hf
          obtain ⟨⟨v28, M26⟩, h27, hf⟩ := px_bind hf
          dsimp only at hf
          refine px_calli (va_runV (As := []) (rest := []) ⟨hx, hb, hml, hown, hts⟩ (c_RR_readOrder l bs D G o0 M1 h27) (cwV 0 hts (px_gV w_388 w_390 ws_RR_readOrder w_3 w_391) rfl rfl rfl (by decide +kernel) ⟨Nat.le_of_ble_eq_true rfl, Nat.le_of_ble_eq_true rfl⟩) (px_preV px_nwok hK hN hO hM h30 rfl) rfl rfl hl.1 rfl (lv_room (Nat.le_of_ble_eq_true rfl)) d_RR_readRule_88 ⟨Nat.le_of_ble_eq_true rfl, Nat.le_of_ble_eq_true rfl⟩) hS (fun H locs hM hS => ?_)
          refine lv_if_eq (tgt := 98) hx hb d_RR_readRule_91 (by decide) (fun c29 => ?_) (fun c29 => ?_)
          · have hf := px_ift hf c29
            refine lv_iconst (v := 0) hx hb d_RR_readRule_98 (by decide) ?_
            obtain ⟨rfl, rfl⟩ := px_s2 hf
            exact px_zret hx hb hr rfl hlocks hM hS d_RR_readRule_99
          · have hf := px_iff hf c29
            refine lv_iconst (v := 1) hx hb d_RR_readRule_94 (by decide) ?_
            refine lv_goto (tgt := 99) hx hb d_RR_readRule_95 (by decide) ?_
            obtain ⟨rfl, rfl⟩ := px_s2 hf
            exact px_zret hx hb hr rfl hlocks hM hS d_RR_readRule_99
      · have hf := px_iff hf c22
        refine lv_lookup (off := 96) (tgt := 100) hx hb d_RR_readRule_4 (by decide) (by rw [lv_osw c4 (by decide), lv_osw c13 (by decide), lv_osw c22 (by decide)] <;> rfl) (by decide) ?_
        refine lv_iconst (v := 0) hx hb d_RR_readRule_100 (by decide) ?_
        obtain ⟨rfl, rfl⟩ := px_s2 hf
        exact px_zret hx hb hr rfl hlocks hM hS d_RR_readRule_101
def f_RR_read_L34 : Nat → Nat → Int32 → px_M → Option (((Unit) ⊕ Int32) × px_M)
  | 0, _, _, _ => none
  | n + 1, o0, x2, M =>
    if 4 < x2 then
    some (.inl (), M)
    else
    (px_ob 2 M o0).bind fun _ =>
    (f_RR_readRule o0 M).bind fun (v34, M32) =>
    if v34 = 0 then
    some (.inl (), M32)
    else
    (px_ob 2 M32 o0).bind fun _ =>
    (f_RR_nextSign o0 M32).bind fun (v38, M36) =>
    if v38 = ((-1)) then
    some (.inr x2, M36)
    else
    (px_ob 2 M36 o0).bind fun _ =>
    (f_RR_pass o0 59 M36).bind fun (v42, M40) =>
    if v42 = 0 then
    some (.inl (), M40)
    else
    f_RR_read_L34 n o0 (x2 + 1) M40
set_option maxHeartbeats 4000000 in
set_option maxRecDepth 100000 in
theorem lp_RR_read_L34 {p : Program} {l : Launch} {e : Env} {s : State} {m : MethodId} {args : Array Value} {below : List Frame} {meth : Method} {c : Code} {bs : Nat} {D : va_G} {G : Nat → ClassId} {Q : State → Prop} (C0 : px_At p s m meth c y_RR_read b_RR_read 3 (some .int) args D px_cl (px_tys G) px_nw px_over) (x : (Unit) ⊕ Int32) (M' : px_M) (o0 : Nat) (kx : ∀ u, x = .inl u → ∀ (H : Heap) (locs : List Loc) (ls : Array Slot), px_W bs D px_cl (px_tys G) M' H → va_S (fun q => bs ≤ q) s.heap H locs → lv_has ls 3 [(0, .ref o0)] → W p l e ⟨5, 0, 0, 110⟩ s m args below meth c H locs 0 0 Q (F0 m 77 ls [])) (kr : ∀ r, x = .inr r → narrow .int (.int r) = .int r → ∀ (H : Heap) (locs : List Loc) (ls : Array Slot) (pc : Nat), decode b_RR_read pc = .ok (.ireturn, 1) → px_W bs D px_cl (px_tys G) M' H → va_S (fun q => bs ≤ q) s.heap H locs → W p l e ⟨5, 0, 0, 110⟩ s m args below meth c H locs 0 0 Q (F0 m pc ls [.int r])) : ∀ (n : Nat) (x2 : Int32) (M : px_M), f_RR_read_L34 n o0 x2 M = some (x, M') → ∀ (H : Heap) (locs : List Loc) (ls : Array Slot), px_W bs D px_cl (px_tys G) M H → va_S (fun q => bs ≤ q) s.heap H locs → lv_has ls 3 [(0, .ref o0), (2, .int x2)] → W p l e ⟨5, 0, 0, 110⟩ s m args below meth c H locs 0 0 Q (F0 m 34 ls []) := by
  obtain ⟨hx, hb, hr, hml, hown, hnm, hlocks, hts, hK, hN, hO⟩ := C0
  intro n
  induction n with
  | zero => intro x2 M hf; cases hf
  | succ n ih =>
    intro x2 M hf H locs ls hM hS hl
    unfold f_RR_read_L34 at hf
    refine lv_iload_n hx hb d_RR_read_34 rfl (lv_at hl 1 rfl) ?_
    refine lv_iconst (v := 4) hx hb d_RR_read_35 (by decide) ?_
    refine lv_icmp_gt (tgt := 77) hx hb d_RR_read_36 (by decide) (fun c31 => ?_) (fun c31 => ?_)
    · have hf := px_ift hf c31
      obtain ⟨rfl, rfl⟩ := px_s2 hf
      exact kx _ rfl _ _ _ hM hS (lv_sub hl [0] rfl)
    · have hf := px_iff hf c31
      refine lv_aload_n hx hb d_RR_read_39 rfl (lv_at hl 0 rfl) ?_
      obtain ⟨_, h46, hf⟩ := px_bind hf
      obtain ⟨⟨v34, M32⟩, h33, hf⟩ := px_bind hf
      dsimp only at hf
      refine px_calli (va_runV (As := []) (rest := []) ⟨hx, hb, hml, hown, hts⟩ (c_RR_readRule l bs D G o0 M h33) (cwV 0 hts (px_gV w_355 w_357 ws_RR_readRule w_3 w_358) rfl rfl rfl (by decide +kernel) ⟨Nat.le_of_ble_eq_true rfl, Nat.le_of_ble_eq_true rfl⟩) (px_preV px_nwok hK hN hO hM h46 rfl) rfl rfl hl.1 rfl (lv_room (Nat.le_of_ble_eq_true rfl)) d_RR_read_40 ⟨Nat.le_of_ble_eq_true rfl, Nat.le_of_ble_eq_true rfl⟩) hS (fun H locs hM hS => ?_)
      refine lv_if_ne (tgt := 49) hx hb d_RR_read_43 (by decide) (fun c35 => ?_) (fun c35 => ?_)
      · have hf := px_iff hf c35
        refine lv_aload_n hx hb d_RR_read_49 rfl (lv_at hl 0 rfl) ?_
        obtain ⟨_, h45, hf⟩ := px_bind hf
        obtain ⟨⟨v38, M36⟩, h37, hf⟩ := px_bind hf
        dsimp only at hf
        refine px_calli (va_runV (As := []) (rest := []) ⟨hx, hb, hml, hown, hts⟩ (c_RR_nextSign l bs D G o0 M32 h37) (cwV 0 hts (px_gV w_359 w_361 ws_RR_nextSign w_3 w_362) rfl rfl rfl (by decide +kernel) ⟨Nat.le_of_ble_eq_true rfl, Nat.le_of_ble_eq_true rfl⟩) (px_preV px_nwok hK hN hO hM h45 rfl) rfl rfl hl.1 rfl (lv_room (Nat.le_of_ble_eq_true rfl)) d_RR_read_50 ⟨Nat.le_of_ble_eq_true rfl, Nat.le_of_ble_eq_true rfl⟩) hS (fun H locs hM hS => ?_)
        refine lv_iconst (v := (-1)) hx hb d_RR_read_53 (by decide) ?_
        refine lv_icmp_ne (tgt := 59) hx hb d_RR_read_54 (by decide) (fun c39 => ?_) (fun c39 => ?_)
        · have hf := px_iff hf c39
          refine lv_aload_n hx hb d_RR_read_59 rfl (lv_at hl 0 rfl) ?_
          refine lv_bipush (v := 59) hx hb d_RR_read_60 (by decide) ?_
          obtain ⟨_, h44, hf⟩ := px_bind hf
          obtain ⟨⟨v42, M40⟩, h41, hf⟩ := px_bind hf
          dsimp only at hf
          refine px_calli (va_runV (As := [.int 59]) (rest := []) ⟨hx, hb, hml, hown, hts⟩ (c_RR_pass l bs D G o0 59 M36 h41) (cwV 1 hts (px_gV w_380 w_382 ws_RR_pass w_3 w_383) rfl rfl rfl (by decide +kernel) ⟨Nat.le_of_ble_eq_true rfl, Nat.le_of_ble_eq_true rfl⟩) (px_preV px_nwok hK hN hO hM h44 rfl) rfl rfl hl.1 rfl (lv_room (Nat.le_of_ble_eq_true rfl)) d_RR_read_62 ⟨Nat.le_of_ble_eq_true rfl, Nat.le_of_ble_eq_true rfl⟩) hS (fun H locs hM hS => ?_)
          refine lv_if_ne (tgt := 71) hx hb d_RR_read_65 (by decide) (fun c43 => ?_) (fun c43 => ?_)
          · have hf := px_iff hf c43
            refine lv_iinc (v := x2 + 1) (lv' := [(2, .int (x2 + 1)), (0, .ref o0)]) hx hb d_RR_read_71 hl (k := 1) rfl (by rfl) (by decide) rfl (fun ls hl => ?_)
            refine lv_goto (tgt := 34) hx hb d_RR_read_74 (by decide) ?_
            exact ih (x2 + 1) M40 hf _ _ _ hM hS (lv_sub hl [1, 0] rfl)
          · have hf := px_ift hf c43
            refine lv_goto (tgt := 77) hx hb d_RR_read_68 (by decide) ?_
            obtain ⟨rfl, rfl⟩ := px_s2 hf
            exact kx _ rfl _ _ _ hM hS (lv_sub hl [0] rfl)
        · have hf := px_ift hf c39
          refine lv_iload_n hx hb d_RR_read_57 rfl (lv_at hl 1 rfl) ?_
          obtain ⟨rfl, rfl⟩ := px_s2 hf
          exact kr _ rfl rfl _ _ _ _ d_RR_read_58 hM hS
      · have hf := px_ift hf c35
        refine lv_goto (tgt := 77) hx hb d_RR_read_46 (by decide) ?_
        obtain ⟨rfl, rfl⟩ := px_s2 hf
        exact kx _ rfl _ _ _ hM hS (lv_sub hl [0] rfl)
def f_RR_read (o0 : Nat) (o1 : Nat) (M : px_M) : Option (Int32 × px_M) :=
  (px_pt 2 1 M o0 (.ref o1)).bind fun M1 =>
  (px_gr 2 1 M1 o0).bind fun t3 =>
  (px_ob 3 M1 t3).bind fun _ =>
  (f_RS_setAsAtFirst t3 M1).bind fun M5 =>
  (px_pt 2 2 M5 o0 (.int 0)).bind fun M7 =>
  (px_pt 2 3 M7 o0 (.int 0)).bind fun M9 =>
  (px_pt 2 4 M9 o0 (.int 0)).bind fun M11 =>
  (px_pt 2 5 M11 o0 (.int 0)).bind fun M13 =>
  (f_RR_read_L34 px_fuel o0 1 M13).bind fun yh48 => (match yh48 with
  | (.inl _, M47) =>
  (px_gi 2 2 M47 o0).bind fun v49 =>
  some (((-1)) - v49, M47)
  | (.inr r51, M47) => some (r51, M47))
set_option maxHeartbeats 4000000 in
set_option maxRecDepth 100000 in
theorem c_RR_read (l : Launch) (bs : Nat) (D : va_G) (G : Nat → ClassId) (o0 : Nat) (o1 : Nat) (M : px_M) {r : Int32} {M' : px_M} (hf : f_RR_read o0 o1 M = some (r, M')) : Met l y_RR_read (.code y_RR_read b_RR_read 3 (some .int) :: px_tw) ⟨5, 0, 0, 110⟩ (va_Pc [.ref o0, .ref o1] (px_B bs D px_cl (px_tys G) px_nw px_over M)) (px_Qi bs D px_cl (px_tys G) r M') 0 0 (fun q => bs ≤ q) := by
  refine px_of (by decide) (Nat.le_of_ble_eq_true rfl) ?_
  intro p e s m below meth c ls C0 hM hS hl
  obtain ⟨hx, hb, hr, hml, hown, hnm, hlocks, hts, hK, hN, hO⟩ := C0
  have hl : lv_has ls 3 [(0, .ref o0), (1, .ref o1)] := hl
  unfold f_RR_read at hf
  refine lv_aload_n hx hb d_RR_read_0 rfl (lv_at hl 0 rfl) ?_
  refine lv_aload_n hx hb d_RR_read_1 rfl (lv_at hl 1 rfl) ?_
  obtain ⟨M1, h2, hf⟩ := px_bind hf
  refine px_rpt hx hb hts cl_RR hown hK hM hS 1 (by decide) (hts _ w_45) rfl rfl rfl h2 d_RR_read_2 (fun H locs hM hS => ?_)
  refine lv_aload_n hx hb d_RR_read_5 rfl (lv_at hl 0 rfl) ?_
  obtain ⟨t3, h4, hf⟩ := px_bind hf
  refine px_rgr hx hb hts cl_RR hown hK hM 1 (by decide) (hts _ w_45) h4 d_RR_read_6 ?_
  obtain ⟨_, h52, hf⟩ := px_bind hf
  obtain ⟨M5, h6, hf⟩ := px_bind hf
  refine px_callv (va_runV (As := []) (rest := []) ⟨hx, hb, hml, hown, hts⟩ (c_RS_setAsAtFirst l bs D G t3 M1 h6) (cwV 0 hts (px_gV w_354 w_70 w_71 w_4 w_72) rfl rfl rfl (by decide +kernel) ⟨Nat.le_of_ble_eq_true rfl, Nat.le_of_ble_eq_true rfl⟩) (px_preV px_nwok hK hN hO hM h52 rfl) rfl rfl hl.1 rfl (lv_room (Nat.le_of_ble_eq_true rfl)) d_RR_read_9 ⟨Nat.le_of_ble_eq_true rfl, Nat.le_of_ble_eq_true rfl⟩) hS (fun H locs hM hS => ?_)
  refine lv_aload_n hx hb d_RR_read_12 rfl (lv_at hl 0 rfl) ?_
  refine lv_iconst (v := 0) hx hb d_RR_read_13 (by decide) ?_
  obtain ⟨M7, h8, hf⟩ := px_bind hf
  refine px_rpt hx hb hts cl_RR hown hK hM hS 2 (by decide) (hts _ w_46) rfl rfl rfl h8 d_RR_read_14 (fun H locs hM hS => ?_)
  refine lv_aload_n hx hb d_RR_read_17 rfl (lv_at hl 0 rfl) ?_
  refine lv_iconst (v := 0) hx hb d_RR_read_18 (by decide) ?_
  obtain ⟨M9, h10, hf⟩ := px_bind hf
  refine px_rpt hx hb hts cl_RR hown hK hM hS 3 (by decide) (hts _ w_47) rfl rfl rfl h10 d_RR_read_19 (fun H locs hM hS => ?_)
  refine lv_aload_n hx hb d_RR_read_22 rfl (lv_at hl 0 rfl) ?_
  refine lv_iconst (v := 0) hx hb d_RR_read_23 (by decide) ?_
  obtain ⟨M11, h12, hf⟩ := px_bind hf
  refine px_rpt hx hb hts cl_RR hown hK hM hS 4 (by decide) (hts _ w_48) rfl rfl rfl h12 d_RR_read_24 (fun H locs hM hS => ?_)
  refine lv_aload_n hx hb d_RR_read_27 rfl (lv_at hl 0 rfl) ?_
  refine lv_iconst (v := 0) hx hb d_RR_read_28 (by decide) ?_
  obtain ⟨M13, h14, hf⟩ := px_bind hf
  refine px_rpt hx hb hts cl_RR hown hK hM hS 5 (by decide) (hts _ w_49) rfl rfl rfl h14 d_RR_read_29 (fun H locs hM hS => ?_)
  refine lv_iconst (v := 1) hx hb d_RR_read_32 (by decide) ?_
  refine lv_istore_n (lv' := [(2, .int 1), (0, .ref o0), (1, .ref o1)]) hx hb d_RR_read_33 rfl hl (by decide) rfl (fun ls hl => ?_)
  obtain ⟨⟨xh48, M47⟩, h48, hf⟩ := px_bind hf
  refine lp_RR_read_L34 ⟨hx, hb, hr, hml, hown, hnm, hlocks, hts, hK, hN, hO⟩ xh48 M47 o0 (fun uh48 eu H locs ls hM hS hl => ?_) (fun r51 eu hn H locs ls pc hdg hM hS => ?_) px_fuel 1 M13 h48 _ _ _ hM hS (lv_sub hl [1, 0] rfl)
  · subst eu
    skip
    dsimp only at hf
    try dsimp only at hl
    refine lv_iconst (v := (-1)) hx hb d_RR_read_77 (by decide) ?_
    refine lv_aload_n hx hb d_RR_read_78 rfl (lv_at hl 0 rfl) ?_
    obtain ⟨v49, h50, hf⟩ := px_bind hf
    refine px_rgi hx hb hts cl_RR hown hK hM 2 (by decide) (hts _ w_46) h50 d_RR_read_79 ?_
    refine lv_isub hx hb d_RR_read_82 ?_
    obtain ⟨rfl, rfl⟩ := px_s2 hf
    exact px_iret hx hb hr hlocks hM hS d_RR_read_83
  · subst eu
    dsimp only at hf
    obtain ⟨rfl, rfl⟩ := px_s2 hf
    exact px_zret hx hb hr hn hlocks hM hS hdg
def f_TX_clear (o0 : Nat) (M : px_M) : Option (px_M) :=
  (px_pt 1 1 M o0 (.int 0)).bind fun M1 =>
  some M1
set_option maxHeartbeats 4000000 in
set_option maxRecDepth 100000 in
theorem c_TX_clear (l : Launch) (bs : Nat) (D : va_G) (G : Nat → ClassId) (o0 : Nat) (M : px_M) {M' : px_M} (hf : f_TX_clear o0 M = some M') : Met l y_TX_clear (.code y_TX_clear b_TX_clear 1 none :: px_tw) ⟨0, 0, 0, 0⟩ (va_Pc [.ref o0] (px_B bs D px_cl (px_tys G) px_nw px_over M)) (px_Qv bs D px_cl (px_tys G) M') 0 0 (fun q => bs ≤ q) := by
  refine px_of (by decide) (Nat.le_of_ble_eq_true rfl) ?_
  intro p e s m below meth c ls C0 hM hS hl
  obtain ⟨hx, hb, hr, hml, hown, hnm, hlocks, hts, hK, hN, hO⟩ := C0
  have hl : lv_has ls 1 [(0, .ref o0)] := hl
  unfold f_TX_clear at hf
  refine lv_aload_n hx hb d_TX_clear_0 rfl (lv_at hl 0 rfl) ?_
  refine lv_iconst (v := 0) hx hb d_TX_clear_1 (by decide) ?_
  obtain ⟨M1, h2, hf⟩ := px_bind hf
  refine px_rpt hx hb hts cl_TX hown hK hM hS 1 (by decide) (hts _ w_29) rfl rfl rfl h2 d_TX_clear_2 (fun H locs hM hS => ?_)
  obtain rfl := px_s1 hf
  exact px_vret hx hb hr hlocks hM hS d_TX_clear_5
def f_SB_rules (o0 : Nat) (M : px_M) : Option (Int32 × px_M) :=
  (px_gr 0 1 M o0).bind fun t1 =>
  (px_gr 0 3 M o0).bind fun t3 =>
  (px_ob 2 M t1).bind fun _ =>
  (f_RR_read t1 t3 M).bind fun (v7, M5) =>
  (px_gr 0 0 M5 o0).bind fun t8 =>
  (px_ob 1 M5 t8).bind fun _ =>
  (f_TX_clear t8 M5).bind fun M10 =>
  if v7 ≤ 0 then
  some (v7, M10)
  else
  (px_gr 0 2 M10 o0).bind fun t13 =>
  (px_gr 0 3 M10 o0).bind fun t15 =>
  (px_pt 0 2 M10 o0 (.ref t15)).bind fun M17 =>
  (px_pt 0 3 M17 o0 (.ref t13)).bind fun M19 =>
  some (v7, M19)
set_option maxHeartbeats 4000000 in
set_option maxRecDepth 100000 in
theorem c_SB_rules (l : Launch) (bs : Nat) (D : va_G) (G : Nat → ClassId) (o0 : Nat) (M : px_M) {r : Int32} {M' : px_M} (hf : f_SB_rules o0 M = some (r, M')) : Met l y_SB_rules (.code y_SB_rules b_SB_rules 3 (some .int) :: px_tw) ⟨6, 0, 0, 132⟩ (va_Pc [.ref o0] (px_B bs D px_cl (px_tys G) px_nw px_over M)) (px_Qi bs D px_cl (px_tys G) r M') 0 0 (fun q => bs ≤ q) := by
  refine px_of (by decide) (Nat.le_of_ble_eq_true rfl) ?_
  intro p e s m below meth c ls C0 hM hS hl
  obtain ⟨hx, hb, hr, hml, hown, hnm, hlocks, hts, hK, hN, hO⟩ := C0
  have hl : lv_has ls 3 [(0, .ref o0)] := hl
  unfold f_SB_rules at hf
  refine lv_aload_n hx hb d_SB_rules_0 rfl (lv_at hl 0 rfl) ?_
  obtain ⟨t1, h2, hf⟩ := px_bind hf
  refine px_rgr hx hb hts cl_SB hown hK hM 1 (by decide) (hts _ w_293) h2 d_SB_rules_1 ?_
  refine lv_aload_n hx hb d_SB_rules_4 rfl (lv_at hl 0 rfl) ?_
  obtain ⟨t3, h4, hf⟩ := px_bind hf
  refine px_rgr hx hb hts cl_SB hown hK hM 3 (by decide) (hts _ w_295) h4 d_SB_rules_5 ?_
  obtain ⟨_, h22, hf⟩ := px_bind hf
  obtain ⟨⟨v7, M5⟩, h6, hf⟩ := px_bind hf
  dsimp only at hf
  refine px_calli (va_runV (As := [.ref t3]) (rest := []) ⟨hx, hb, hml, hown, hts⟩ (c_RR_read l bs D G t1 t3 M h6) (cwV 1 hts (px_gV w_350 w_351 w_352 w_3 w_353) rfl rfl rfl (by decide +kernel) ⟨Nat.le_of_ble_eq_true rfl, Nat.le_of_ble_eq_true rfl⟩) (px_preV px_nwok hK hN hO hM h22 rfl) rfl rfl hl.1 rfl (lv_room (Nat.le_of_ble_eq_true rfl)) d_SB_rules_8 ⟨Nat.le_of_ble_eq_true rfl, Nat.le_of_ble_eq_true rfl⟩) hS (fun H locs hM hS => ?_)
  refine lv_istore_n (lv' := [(1, .int v7), (0, .ref o0)]) hx hb d_SB_rules_11 rfl hl (by decide) rfl (fun ls hl => ?_)
  refine lv_aload_n hx hb d_SB_rules_12 rfl (lv_at hl 1 rfl) ?_
  obtain ⟨t8, h9, hf⟩ := px_bind hf
  refine px_rgr hx hb hts cl_SB hown hK hM 0 (by decide) (hts _ w_292) h9 d_SB_rules_13 ?_
  obtain ⟨_, h21, hf⟩ := px_bind hf
  obtain ⟨M10, h11, hf⟩ := px_bind hf
  refine px_callv (va_runV (As := []) (rest := []) ⟨hx, hb, hml, hown, hts⟩ (c_TX_clear l bs D G t8 M5 h11) (cwV 0 hts (px_gV w_392 w_393 w_394 w_2 w_395) rfl rfl rfl (by decide +kernel) ⟨Nat.le_of_ble_eq_true rfl, Nat.le_of_ble_eq_true rfl⟩) (px_preV px_nwok hK hN hO hM h21 rfl) rfl rfl hl.1 rfl (lv_room (Nat.le_of_ble_eq_true rfl)) d_SB_rules_16 ⟨Nat.le_of_ble_eq_true rfl, Nat.le_of_ble_eq_true rfl⟩) hS (fun H locs hM hS => ?_)
  refine lv_iload_n hx hb d_SB_rules_19 rfl (lv_at hl 0 rfl) ?_
  refine lv_if_le (tgt := 41) hx hb d_SB_rules_20 (by decide) (fun c12 => ?_) (fun c12 => ?_)
  · have hf := px_ift hf c12
    refine lv_iload_n hx hb d_SB_rules_41 rfl (lv_at hl 0 rfl) ?_
    obtain ⟨rfl, rfl⟩ := px_s2 hf
    exact px_iret hx hb hr hlocks hM hS d_SB_rules_42
  · have hf := px_iff hf c12
    refine lv_aload_n hx hb d_SB_rules_23 rfl (lv_at hl 1 rfl) ?_
    obtain ⟨t13, h14, hf⟩ := px_bind hf
    refine px_rgr hx hb hts cl_SB hown hK hM 2 (by decide) (hts _ w_294) h14 d_SB_rules_24 ?_
    refine lv_astore_n (lv' := [(2, .ref t13), (1, .int v7), (0, .ref o0)]) hx hb d_SB_rules_27 rfl hl (by decide) rfl (fun ls hl => ?_)
    refine lv_aload_n hx hb d_SB_rules_28 rfl (lv_at hl 2 rfl) ?_
    refine lv_aload_n hx hb d_SB_rules_29 rfl (lv_at hl 2 rfl) ?_
    obtain ⟨t15, h16, hf⟩ := px_bind hf
    refine px_rgr hx hb hts cl_SB hown hK hM 3 (by decide) (hts _ w_295) h16 d_SB_rules_30 ?_
    obtain ⟨M17, h18, hf⟩ := px_bind hf
    refine px_rpt hx hb hts cl_SB hown hK hM hS 2 (by decide) (hts _ w_294) rfl rfl rfl h18 d_SB_rules_33 (fun H locs hM hS => ?_)
    refine lv_aload_n hx hb d_SB_rules_36 rfl (lv_at hl 2 rfl) ?_
    refine lv_aload_n hx hb d_SB_rules_37 rfl (lv_at hl 0 rfl) ?_
    obtain ⟨M19, h20, hf⟩ := px_bind hf
    refine px_rpt hx hb hts cl_SB hown hK hM hS 3 (by decide) (hts _ w_295) rfl rfl rfl h20 d_SB_rules_38 (fun H locs hM hS => ?_)
    refine lv_iload_n hx hb d_SB_rules_41 rfl (lv_at hl 1 rfl) ?_
    obtain ⟨rfl, rfl⟩ := px_s2 hf
    exact px_iret hx hb hr hlocks hM hS d_SB_rules_42
