def f_LO_insert_L3 : Nat → Nat → Nat → Int32 → Int32 → Int32 → px_M → Option ((Int32) × px_M)
  | 0, _, _, _, _, _, _ => none
  | n + 1, o0, o1, x2, x3, x4, M =>
    if x4 ≤ 0 then
    some (x4, M)
    else
    (px_gr 6 2 M o0).bind fun t2 =>
    (px_ai 0 M t2 (x4 - 1)).bind fun v4 =>
    (px_ob 6 M o0).bind fun _ =>
    (f_LO_goesBefore o0 o1 x2 v4 x3 M).bind fun (v8, M6) =>
    if v8 = 0 then
    some (x4, M6)
    else
    (px_gr 6 2 M6 o0).bind fun t10 =>
    (px_gr 6 2 M6 o0).bind fun t12 =>
    (px_ai 0 M6 t12 (x4 - 1)).bind fun v14 =>
    (px_si 0 M6 t10 x4 v14).bind fun M16 =>
    f_LO_insert_L3 n o0 o1 x2 x3 (x4 + (-1)) M16
set_option maxHeartbeats 4000000 in
set_option maxRecDepth 100000 in
theorem lp_LO_insert_L3 {p : Program} {l : Launch} {e : Env} {s : State} {m : MethodId} {args : Array Value} {below : List Frame} {meth : Method} {c : Code} {bs : Nat} {D : va_G} {G : Nat → ClassId} {Q : State → Prop} (C0 : px_At p s m meth c y_LO_insert b_LO_insert 5 none args D px_cl (px_tys G) px_nw px_over) (x : Int32) (M' : px_M) (o0 : Nat) (o1 : Nat) (x2 : Int32) (x3 : Int32) (kx : ∀ (H : Heap) (locs : List Loc) (ls : Array Slot), px_W bs D px_cl (px_tys G) M' H → va_S (fun q => bs ≤ q) s.heap H locs → lv_has ls 5 [(0, .ref o0), (2, .int x2), (4, .int x)] → W p l e ⟨3, 0, 0, 62⟩ s m args below meth c H locs 0 0 Q (F0 m 49 ls []))  : ∀ (n : Nat) (x4 : Int32) (M : px_M), f_LO_insert_L3 n o0 o1 x2 x3 x4 M = some (x, M') → ∀ (H : Heap) (locs : List Loc) (ls : Array Slot), px_W bs D px_cl (px_tys G) M H → va_S (fun q => bs ≤ q) s.heap H locs → lv_has ls 5 [(0, .ref o0), (1, .ref o1), (2, .int x2), (3, .int x3), (4, .int x4)] → W p l e ⟨3, 0, 0, 62⟩ s m args below meth c H locs 0 0 Q (F0 m 3 ls []) := by
  obtain ⟨hx, hb, hr, hml, hown, hnm, hlocks, hts, hK, hN, hO⟩ := C0
  intro n
  induction n with
  | zero => intro x4 M hf; cases hf
  | succ n ih =>
    intro x4 M hf H locs ls hM hS hl
    unfold f_LO_insert_L3 at hf
    refine lv_iload hx hb d_LO_insert_3 (lv_at hl 4 rfl) ?_
    refine lv_if_le (tgt := 49) hx hb d_LO_insert_5 (by decide) (fun c1 => ?_) (fun c1 => ?_)
    · have hf := px_ift hf c1
      obtain ⟨rfl, rfl⟩ := px_s2 hf
      exact kx _ _ _ hM hS (lv_sub hl [0, 2, 4] rfl)
    · have hf := px_iff hf c1
      refine lv_aload_n hx hb d_LO_insert_8 rfl (lv_at hl 0 rfl) ?_
      refine lv_aload_n hx hb d_LO_insert_9 rfl (lv_at hl 1 rfl) ?_
      refine lv_iload_n hx hb d_LO_insert_10 rfl (lv_at hl 2 rfl) ?_
      refine lv_aload_n hx hb d_LO_insert_11 rfl (lv_at hl 0 rfl) ?_
      obtain ⟨t2, h3, hf⟩ := px_bind hf
      refine px_rgr hx hb hts cl_LO hown hK hM 2 (by decide) (hts _ w_168) h3 d_LO_insert_12 ?_
      refine lv_iload hx hb d_LO_insert_15 (lv_at hl 4 rfl) ?_
      refine lv_iconst (v := 1) hx hb d_LO_insert_17 (by decide) ?_
      refine lv_isub hx hb d_LO_insert_18 ?_
      obtain ⟨v4, h5, hf⟩ := px_bind hf
      refine px_rai hx hb hK hM 0 rfl h5 d_LO_insert_19 ?_
      refine lv_iload_n hx hb d_LO_insert_20 rfl (lv_at hl 3 rfl) ?_
      obtain ⟨_, h18, hf⟩ := px_bind hf
      obtain ⟨⟨v8, M6⟩, h7, hf⟩ := px_bind hf
      dsimp only at hf
      refine px_calli (va_runV (As := [.ref o1, .int x2, .int v4, .int x3]) (rest := []) ⟨hx, hb, hml, hown, hts⟩ (c_LO_goesBefore l bs D G o0 o1 x2 v4 x3 M h7) (cwV 4 hts (px_gV w_529 w_531 ws_LO_goesBefore w_7 w_532) rfl rfl rfl (by decide +kernel) ⟨Nat.le_of_ble_eq_true rfl, Nat.le_of_ble_eq_true rfl⟩) (px_preV px_nwok hK hN hO hM h18 rfl) rfl rfl hl.1 rfl (lv_room (Nat.le_of_ble_eq_true rfl)) d_LO_insert_21 ⟨Nat.le_of_ble_eq_true rfl, Nat.le_of_ble_eq_true rfl⟩) hS (fun H locs hM hS => ?_)
      refine lv_if_eq (tgt := 49) hx hb d_LO_insert_24 (by decide) (fun c9 => ?_) (fun c9 => ?_)
      · have hf := px_ift hf c9
        obtain ⟨rfl, rfl⟩ := px_s2 hf
        exact kx _ _ _ hM hS (lv_sub hl [0, 2, 4] rfl)
      · have hf := px_iff hf c9
        refine lv_aload_n hx hb d_LO_insert_27 rfl (lv_at hl 0 rfl) ?_
        obtain ⟨t10, h11, hf⟩ := px_bind hf
        refine px_rgr hx hb hts cl_LO hown hK hM 2 (by decide) (hts _ w_168) h11 d_LO_insert_28 ?_
        refine lv_iload hx hb d_LO_insert_31 (lv_at hl 4 rfl) ?_
        refine lv_aload_n hx hb d_LO_insert_33 rfl (lv_at hl 0 rfl) ?_
        obtain ⟨t12, h13, hf⟩ := px_bind hf
        refine px_rgr hx hb hts cl_LO hown hK hM 2 (by decide) (hts _ w_168) h13 d_LO_insert_34 ?_
        refine lv_iload hx hb d_LO_insert_37 (lv_at hl 4 rfl) ?_
        refine lv_iconst (v := 1) hx hb d_LO_insert_39 (by decide) ?_
        refine lv_isub hx hb d_LO_insert_40 ?_
        obtain ⟨v14, h15, hf⟩ := px_bind hf
        refine px_rai hx hb hK hM 0 rfl h15 d_LO_insert_41 ?_
        obtain ⟨M16, h17, hf⟩ := px_bind hf
        refine px_rsi hx hb hK hM hS 0 rfl h17 d_LO_insert_42 (fun H locs hM hS => ?_)
        refine lv_iinc (v := x4 + (-1)) (lv' := [(4, .int (x4 + (-1))), (0, .ref o0), (1, .ref o1), (2, .int x2), (3, .int x3)]) hx hb d_LO_insert_43 hl (k := 4) rfl (by rfl) (by decide) rfl (fun ls hl => ?_)
        refine lv_goto (tgt := 3) hx hb d_LO_insert_46 (by decide) ?_
        exact ih (x4 + (-1)) M16 hf _ _ _ hM hS (lv_sub hl [1, 2, 3, 4, 0] rfl)
def f_LO_insert (o0 : Nat) (o1 : Nat) (x2 : Int32) (x3 : Int32) (M : px_M) : Option (px_M) :=
  (f_LO_insert_L3 px_fuel o0 o1 x2 x3 x2 M).bind fun (v21, M19) =>
  (px_gr 6 2 M19 o0).bind fun t22 =>
  (px_si 0 M19 t22 v21 x2).bind fun M24 =>
  some M24
set_option maxHeartbeats 4000000 in
set_option maxRecDepth 100000 in
theorem c_LO_insert (l : Launch) (bs : Nat) (D : va_G) (G : Nat → ClassId) (o0 : Nat) (o1 : Nat) (x2 : Int32) (x3 : Int32) (M : px_M) {M' : px_M} (hf : f_LO_insert o0 o1 x2 x3 M = some M') : Met l y_LO_insert (.code y_LO_insert b_LO_insert 5 none :: px_tw) ⟨3, 0, 0, 62⟩ (va_Pc [.ref o0, .ref o1, .int x2, .int x3] (px_B bs D px_cl (px_tys G) px_nw px_over M)) (px_Qv bs D px_cl (px_tys G) M') 0 0 (fun q => bs ≤ q) := by
  refine px_of (by decide) (Nat.le_of_ble_eq_true rfl) ?_
  intro p e s m below meth c ls C0 hM hS hl
  obtain ⟨hx, hb, hr, hml, hown, hnm, hlocks, hts, hK, hN, hO⟩ := C0
  have hl : lv_has ls 5 [(0, .ref o0), (1, .ref o1), (2, .int x2), (3, .int x3)] := hl
  unfold f_LO_insert at hf
  refine lv_iload_n hx hb d_LO_insert_0 rfl (lv_at hl 2 rfl) ?_
  refine lv_istore (lv' := [(4, .int x2), (0, .ref o0), (1, .ref o1), (2, .int x2), (3, .int x3)]) hx hb d_LO_insert_1 hl (by decide) rfl (fun ls hl => ?_)
  obtain ⟨⟨v21, M19⟩, h20, hf⟩ := px_bind hf
  dsimp only at hf
  refine lp_LO_insert_L3 ⟨hx, hb, hr, hml, hown, hnm, hlocks, hts, hK, hN, hO⟩ _ M19 o0 o1 x2 x3 (fun H locs ls hM hS hl => ?_) px_fuel x2 M h20 _ _ _ hM hS (lv_sub hl [1, 2, 3, 4, 0] rfl)
  try dsimp only at hl
  refine lv_aload_n hx hb d_LO_insert_49 rfl (lv_at hl 0 rfl) ?_
  obtain ⟨t22, h23, hf⟩ := px_bind hf
  refine px_rgr hx hb hts cl_LO hown hK hM 2 (by decide) (hts _ w_168) h23 d_LO_insert_50 ?_
  refine lv_iload hx hb d_LO_insert_53 (lv_at hl 2 rfl) ?_
  refine lv_iload_n hx hb d_LO_insert_55 rfl (lv_at hl 1 rfl) ?_
  obtain ⟨M24, h25, hf⟩ := px_bind hf
  refine px_rsi hx hb hK hM hS 0 rfl h25 d_LO_insert_56 (fun H locs hM hS => ?_)
  obtain rfl := px_s1 hf
  exact px_vret hx hb hr hlocks hM hS d_LO_insert_57
def f_LO_arrange_L21 : Nat → Nat → Nat → Int32 → Int32 → px_M → Option ((Unit) × px_M)
  | 0, _, _, _, _, _ => none
  | n + 1, o0, o1, x2, x3, M =>
    (px_gi 10 2 M o1).bind fun v13 =>
    if v13 ≤ x3 then
    some ((), M)
    else
    (px_gr 6 0 M o0).bind fun t16 =>
    (px_gr 10 0 M o1).bind fun t18 =>
    (px_ai 0 M t18 x3).bind fun v20 =>
    (px_ar 1 M t16 v20).bind fun t22 =>
    (px_gi 9 2 M t22).bind fun v24 =>
    (px_gr 6 3 M o0).bind fun t26 =>
    if v24 = ((-1)) then
    (px_si 0 M t26 x3 ((-1))).bind fun M40 =>
    (px_ob 6 M40 o0).bind fun _ =>
    (f_LO_insert o0 o1 x3 x2 M40).bind fun M42 =>
    f_LO_arrange_L21 n o0 o1 x2 (x3 + 1) M42
    else
    (px_gr 6 1 M o0).bind fun t29 =>
    (px_gr 5 4 M t29).bind fun t31 =>
    (px_ai 0 M t31 v24).bind fun v33 =>
    (px_si 0 M t26 x3 v33).bind fun M35 =>
    (px_ob 6 M35 o0).bind fun _ =>
    (f_LO_insert o0 o1 x3 x2 M35).bind fun M37 =>
    f_LO_arrange_L21 n o0 o1 x2 (x3 + 1) M37
set_option maxHeartbeats 4000000 in
set_option maxRecDepth 100000 in
theorem lp_LO_arrange_L21 {p : Program} {l : Launch} {e : Env} {s : State} {m : MethodId} {args : Array Value} {below : List Frame} {meth : Method} {c : Code} {bs : Nat} {D : va_G} {G : Nat → ClassId} {Q : State → Prop} (C0 : px_At p s m meth c y_LO_arrange b_LO_arrange 5 none args D px_cl (px_tys G) px_nw px_over) (x : Unit) (M' : px_M) (o0 : Nat) (o1 : Nat) (x2 : Int32) (kx : ∀ (H : Heap) (locs : List Loc) (ls : Array Slot), px_W bs D px_cl (px_tys G) M' H → va_S (fun q => bs ≤ q) s.heap H locs → lv_has ls 5 [] → W p l e ⟨4, 0, 0, 86⟩ s m args below meth c H locs 0 0 Q (F0 m 84 ls []))  : ∀ (n : Nat) (x3 : Int32) (M : px_M), f_LO_arrange_L21 n o0 o1 x2 x3 M = some (x, M') → ∀ (H : Heap) (locs : List Loc) (ls : Array Slot), px_W bs D px_cl (px_tys G) M H → va_S (fun q => bs ≤ q) s.heap H locs → lv_has ls 5 [(0, .ref o0), (1, .ref o1), (2, .int x2), (3, .int x3)] → W p l e ⟨4, 0, 0, 86⟩ s m args below meth c H locs 0 0 Q (F0 m 21 ls []) := by
  obtain ⟨hx, hb, hr, hml, hown, hnm, hlocks, hts, hK, hN, hO⟩ := C0
  intro n
  induction n with
  | zero => intro x3 M hf; cases hf
  | succ n ih =>
    intro x3 M hf H locs ls hM hS hl
    unfold f_LO_arrange_L21 at hf
    refine lv_iload_n hx hb d_LO_arrange_21 rfl (lv_at hl 3 rfl) ?_
    refine lv_aload_n hx hb d_LO_arrange_22 rfl (lv_at hl 1 rfl) ?_
    obtain ⟨v13, h14, hf⟩ := px_bind hf
    refine px_rgiN hx hb hts cl_BO hown hK hM 2 (by decide) (hN _ n_274) h14 d_LO_arrange_23 ?_
    refine lv_icmp_ge (tgt := 84) hx hb d_LO_arrange_26 (by decide) (fun c15 => ?_) (fun c15 => ?_)
    · have hf := px_ift hf c15
      obtain ⟨rfl, rfl⟩ := px_s2 hf
      exact kx _ _ _ hM hS (lv_sub hl [] rfl)
    · have hf := px_iff hf c15
      refine lv_aload_n hx hb d_LO_arrange_29 rfl (lv_at hl 0 rfl) ?_
      obtain ⟨t16, h17, hf⟩ := px_bind hf
      refine px_rgr hx hb hts cl_LO hown hK hM 0 (by decide) (hts _ w_166) h17 d_LO_arrange_30 ?_
      refine lv_aload_n hx hb d_LO_arrange_33 rfl (lv_at hl 1 rfl) ?_
      obtain ⟨t18, h19, hf⟩ := px_bind hf
      refine px_rgrN hx hb hts cl_BO hown hK hM 0 (by decide) (hN _ n_268) h19 d_LO_arrange_34 ?_
      refine lv_iload_n hx hb d_LO_arrange_37 rfl (lv_at hl 3 rfl) ?_
      obtain ⟨v20, h21, hf⟩ := px_bind hf
      refine px_rai hx hb hK hM 0 rfl h21 d_LO_arrange_38 ?_
      obtain ⟨t22, h23, hf⟩ := px_bind hf
      refine px_rar hx hb hK hM 1 rfl h23 d_LO_arrange_39 ?_
      obtain ⟨v24, h25, hf⟩ := px_bind hf
      refine px_rgiN hx hb hts cl_NA hown hK hM 2 (by decide) (hN _ n_253) h25 d_LO_arrange_40 ?_
      refine lv_istore (lv' := [(4, .int v24), (0, .ref o0), (1, .ref o1), (2, .int x2), (3, .int x3)]) hx hb d_LO_arrange_43 hl (by decide) rfl (fun ls hl => ?_)
      refine lv_aload_n hx hb d_LO_arrange_45 rfl (lv_at hl 1 rfl) ?_
      obtain ⟨t26, h27, hf⟩ := px_bind hf
      refine px_rgr hx hb hts cl_LO hown hK hM 3 (by decide) (hts _ w_169) h27 d_LO_arrange_46 ?_
      refine lv_iload_n hx hb d_LO_arrange_49 rfl (lv_at hl 4 rfl) ?_
      refine lv_iload hx hb d_LO_arrange_50 (lv_at hl 0 rfl) ?_
      refine lv_iconst (v := (-1)) hx hb d_LO_arrange_52 (by decide) ?_
      refine lv_icmp_ne (tgt := 60) hx hb d_LO_arrange_53 (by decide) (fun c28 => ?_) (fun c28 => ?_)
      · have hf := px_iff hf c28
        refine lv_aload_n hx hb d_LO_arrange_60 rfl (lv_at hl 1 rfl) ?_
        obtain ⟨t29, h30, hf⟩ := px_bind hf
        refine px_rgr hx hb hts cl_LO hown hK hM 1 (by decide) (hts _ w_167) h30 d_LO_arrange_61 ?_
        obtain ⟨t31, h32, hf⟩ := px_bind hf
        refine px_rgrN hx hb hts cl_RO hown hK hM 4 (by decide) (hN _ n_141) h32 d_LO_arrange_64 ?_
        refine lv_iload hx hb d_LO_arrange_67 (lv_at hl 0 rfl) ?_
        obtain ⟨v33, h34, hf⟩ := px_bind hf
        refine px_rai hx hb hK hM 0 rfl h34 d_LO_arrange_69 ?_
        obtain ⟨M35, h36, hf⟩ := px_bind hf
        refine px_rsi hx hb hK hM hS 0 rfl h36 d_LO_arrange_70 (fun H locs hM hS => ?_)
        refine lv_aload_n hx hb d_LO_arrange_71 rfl (lv_at hl 1 rfl) ?_
        refine lv_aload_n hx hb d_LO_arrange_72 rfl (lv_at hl 2 rfl) ?_
        refine lv_iload_n hx hb d_LO_arrange_73 rfl (lv_at hl 4 rfl) ?_
        refine lv_iload_n hx hb d_LO_arrange_74 rfl (lv_at hl 3 rfl) ?_
        obtain ⟨_, h39, hf⟩ := px_bind hf
        obtain ⟨M37, h38, hf⟩ := px_bind hf
        refine px_callv (va_runV (As := [.ref o1, .int x3, .int x2]) (rest := []) ⟨hx, hb, hml, hown, hts⟩ (c_LO_insert l bs D G o0 o1 x3 x2 M35 h38) (cwV 3 hts (px_gV w_525 w_527 ws_LO_insert w_7 w_528) rfl rfl rfl (by decide +kernel) ⟨Nat.le_of_ble_eq_true rfl, Nat.le_of_ble_eq_true rfl⟩) (px_preV px_nwok hK hN hO hM h39 rfl) rfl rfl hl.1 rfl (lv_room (Nat.le_of_ble_eq_true rfl)) d_LO_arrange_75 ⟨Nat.le_of_ble_eq_true rfl, Nat.le_of_ble_eq_true rfl⟩) hS (fun H locs hM hS => ?_)
        refine lv_iinc (v := x3 + 1) (lv' := [(3, .int (x3 + 1)), (4, .int v24), (0, .ref o0), (1, .ref o1), (2, .int x2)]) hx hb d_LO_arrange_78 hl (k := 4) rfl (by rfl) (by decide) rfl (fun ls hl => ?_)
        refine lv_goto (tgt := 21) hx hb d_LO_arrange_81 (by decide) ?_
        exact ih (x3 + 1) M37 hf _ _ _ hM hS (lv_sub hl [2, 3, 4, 0] rfl)
      · have hf := px_ift hf c28
        refine lv_iconst (v := (-1)) hx hb d_LO_arrange_56 (by decide) ?_
        refine lv_goto (tgt := 70) hx hb d_LO_arrange_57 (by decide) ?_
        obtain ⟨M40, h41, hf⟩ := px_bind hf
        refine px_rsi hx hb hK hM hS 0 rfl h41 d_LO_arrange_70 (fun H locs hM hS => ?_)
        refine lv_aload_n hx hb d_LO_arrange_71 rfl (lv_at hl 1 rfl) ?_
        refine lv_aload_n hx hb d_LO_arrange_72 rfl (lv_at hl 2 rfl) ?_
        refine lv_iload_n hx hb d_LO_arrange_73 rfl (lv_at hl 4 rfl) ?_
        refine lv_iload_n hx hb d_LO_arrange_74 rfl (lv_at hl 3 rfl) ?_
        obtain ⟨_, h44, hf⟩ := px_bind hf
        obtain ⟨M42, h43, hf⟩ := px_bind hf
        refine px_callv (va_runV (As := [.ref o1, .int x3, .int x2]) (rest := []) ⟨hx, hb, hml, hown, hts⟩ (c_LO_insert l bs D G o0 o1 x3 x2 M40 h43) (cwV 3 hts (px_gV w_525 w_527 ws_LO_insert w_7 w_528) rfl rfl rfl (by decide +kernel) ⟨Nat.le_of_ble_eq_true rfl, Nat.le_of_ble_eq_true rfl⟩) (px_preV px_nwok hK hN hO hM h44 rfl) rfl rfl hl.1 rfl (lv_room (Nat.le_of_ble_eq_true rfl)) d_LO_arrange_75 ⟨Nat.le_of_ble_eq_true rfl, Nat.le_of_ble_eq_true rfl⟩) hS (fun H locs hM hS => ?_)
        refine lv_iinc (v := x3 + 1) (lv' := [(3, .int (x3 + 1)), (4, .int v24), (0, .ref o0), (1, .ref o1), (2, .int x2)]) hx hb d_LO_arrange_78 hl (k := 4) rfl (by rfl) (by decide) rfl (fun ls hl => ?_)
        refine lv_goto (tgt := 21) hx hb d_LO_arrange_81 (by decide) ?_
        exact ih (x3 + 1) M42 hf _ _ _ hM hS (lv_sub hl [2, 3, 4, 0] rfl)
def f_LO_arrange (o0 : Nat) (o1 : Nat) (x2 : Int32) (M : px_M) : Option (px_M) :=
  (px_gr 6 1 M o0).bind fun t1 =>
  (px_gr 6 1 M o0).bind fun t3 =>
  (px_gr 5 1 M t3).bind fun t5 =>
  (px_gi 10 3 M o1).bind fun v7 =>
  (px_ai 0 M t5 v7).bind fun v9 =>
  (px_ob 5 M t1).bind fun _ =>
  (f_RO_measureFrom t1 v9 M).bind fun M11 =>
  (f_LO_arrange_L21 px_fuel o0 o1 x2 0 M11).bind fun (_, M45) =>
  some M45
set_option maxHeartbeats 4000000 in
set_option maxRecDepth 100000 in
theorem c_LO_arrange (l : Launch) (bs : Nat) (D : va_G) (G : Nat → ClassId) (o0 : Nat) (o1 : Nat) (x2 : Int32) (M : px_M) {M' : px_M} (hf : f_LO_arrange o0 o1 x2 M = some M') : Met l y_LO_arrange (.code y_LO_arrange b_LO_arrange 5 none :: px_tw) ⟨4, 0, 0, 86⟩ (va_Pc [.ref o0, .ref o1, .int x2] (px_B bs D px_cl (px_tys G) px_nw px_over M)) (px_Qv bs D px_cl (px_tys G) M') 0 0 (fun q => bs ≤ q) := by
  refine px_of (by decide) (Nat.le_of_ble_eq_true rfl) ?_
  intro p e s m below meth c ls C0 hM hS hl
  obtain ⟨hx, hb, hr, hml, hown, hnm, hlocks, hts, hK, hN, hO⟩ := C0
  have hl : lv_has ls 5 [(0, .ref o0), (1, .ref o1), (2, .int x2)] := hl
  unfold f_LO_arrange at hf
  refine lv_aload_n hx hb d_LO_arrange_0 rfl (lv_at hl 0 rfl) ?_
  obtain ⟨t1, h2, hf⟩ := px_bind hf
  refine px_rgr hx hb hts cl_LO hown hK hM 1 (by decide) (hts _ w_167) h2 d_LO_arrange_1 ?_
  refine lv_aload_n hx hb d_LO_arrange_4 rfl (lv_at hl 0 rfl) ?_
  obtain ⟨t3, h4, hf⟩ := px_bind hf
  refine px_rgr hx hb hts cl_LO hown hK hM 1 (by decide) (hts _ w_167) h4 d_LO_arrange_5 ?_
  obtain ⟨t5, h6, hf⟩ := px_bind hf
  refine px_rgrN hx hb hts cl_RO hown hK hM 1 (by decide) (hN _ n_136) h6 d_LO_arrange_8 ?_
  refine lv_aload_n hx hb d_LO_arrange_11 rfl (lv_at hl 1 rfl) ?_
  obtain ⟨v7, h8, hf⟩ := px_bind hf
  refine px_rgiN hx hb hts cl_BO hown hK hM 3 (by decide) (hN _ n_277) h8 d_LO_arrange_12 ?_
  obtain ⟨v9, h10, hf⟩ := px_bind hf
  refine px_rai hx hb hK hM 0 rfl h10 d_LO_arrange_15 ?_
  obtain ⟨_, h47, hf⟩ := px_bind hf
  obtain ⟨M11, h12, hf⟩ := px_bind hf
  refine px_callv (va_runV (As := [.int v9]) (rest := []) ⟨hx, hb, hml, hown, hts⟩ (c_RO_measureFrom l bs D G t1 v9 M h12) (cwV 1 hts (px_gV w_517 w_518 w_519 w_6 w_520) rfl rfl rfl (by decide +kernel) ⟨Nat.le_of_ble_eq_true rfl, Nat.le_of_ble_eq_true rfl⟩) (px_preV px_nwok hK hN hO hM h47 rfl) rfl rfl hl.1 rfl (lv_room (Nat.le_of_ble_eq_true rfl)) d_LO_arrange_16 ⟨Nat.le_of_ble_eq_true rfl, Nat.le_of_ble_eq_true rfl⟩) hS (fun H locs hM hS => ?_)
  refine lv_iconst (v := 0) hx hb d_LO_arrange_19 (by decide) ?_
  refine lv_istore_n (lv' := [(3, .int 0), (0, .ref o0), (1, .ref o1), (2, .int x2)]) hx hb d_LO_arrange_20 rfl hl (by decide) rfl (fun ls hl => ?_)
  obtain ⟨⟨_, M45⟩, h46, hf⟩ := px_bind hf
  dsimp only at hf
  refine lp_LO_arrange_L21 ⟨hx, hb, hr, hml, hown, hnm, hlocks, hts, hK, hN, hO⟩ _ M45 o0 o1 x2 (fun H locs ls hM hS hl => ?_) px_fuel 0 M11 h46 _ _ _ hM hS (lv_sub hl [1, 2, 3, 0] rfl)
  try dsimp only at hl
  obtain rfl := px_s1 hf
  exact px_vret hx hb hr hlocks hM hS d_LO_arrange_84
def f_LO_lineAt (o0 : Nat) (x1 : Int32) (M : px_M) : Option (Int32 × px_M) :=
  (px_gr 6 2 M o0).bind fun t1 =>
  (px_ai 0 M t1 x1).bind fun v3 =>
  some (v3, M)
set_option maxHeartbeats 4000000 in
set_option maxRecDepth 100000 in
theorem c_LO_lineAt (l : Launch) (bs : Nat) (D : va_G) (G : Nat → ClassId) (o0 : Nat) (x1 : Int32) (M : px_M) {r : Int32} {M' : px_M} (hf : f_LO_lineAt o0 x1 M = some (r, M')) : Met l y_LO_lineAt (.code y_LO_lineAt b_LO_lineAt 2 (some .int) :: px_tw) ⟨0, 0, 0, 0⟩ (va_Pc [.ref o0, .int x1] (px_B bs D px_cl (px_tys G) px_nw px_over M)) (px_Qi bs D px_cl (px_tys G) r M') 0 0 (fun q => bs ≤ q) := by
  refine px_of (by decide) (Nat.le_of_ble_eq_true rfl) ?_
  intro p e s m below meth c ls C0 hM hS hl
  obtain ⟨hx, hb, hr, hml, hown, hnm, hlocks, hts, hK, hN, hO⟩ := C0
  have hl : lv_has ls 2 [(0, .ref o0), (1, .int x1)] := hl
  unfold f_LO_lineAt at hf
  refine lv_aload_n hx hb d_LO_lineAt_0 rfl (lv_at hl 0 rfl) ?_
  obtain ⟨t1, h2, hf⟩ := px_bind hf
  refine px_rgr hx hb hts cl_LO hown hK hM 2 (by decide) (hts _ w_168) h2 d_LO_lineAt_1 ?_
  refine lv_iload_n hx hb d_LO_lineAt_4 rfl (lv_at hl 1 rfl) ?_
  obtain ⟨v3, h4, hf⟩ := px_bind hf
  refine px_rai hx hb hK hM 0 rfl h4 d_LO_lineAt_5 ?_
  obtain ⟨rfl, rfl⟩ := px_s2 hf
  exact px_iret hx hb hr hlocks hM hS d_LO_lineAt_6
def f_SB_row (o0 : Nat) (x1 : Int32) (x2 : Int32) (M : px_M) : Option (Int32 × px_M) :=
  (px_ob 0 M o0).bind fun _ =>
  (f_SB_isLine o0 x1 x2 M).bind fun (v3, M1) =>
  if v3 = 0 then
  some ((-1), M1)
  else
  (px_gr 0 10 M1 o0).bind fun t5 =>
  (px_gr 0 8 M1 o0).bind fun t7 =>
  (px_ar 2 M1 t7 x1).bind fun t9 =>
  (px_gr 0 2 M1 o0).bind fun t11 =>
  (px_gi 3 5 M1 t11).bind fun v13 =>
  (px_ob 6 M1 t5).bind fun _ =>
  (f_LO_arrange t5 t9 v13 M1).bind fun M15 =>
  (px_gr 0 8 M15 o0).bind fun t17 =>
  (px_ar 2 M15 t17 x1).bind fun t19 =>
  (px_gr 10 0 M15 t19).bind fun t21 =>
  (px_gr 0 10 M15 o0).bind fun t23 =>
  (px_ob 6 M15 t23).bind fun _ =>
  (f_LO_lineAt t23 x2 M15).bind fun (v27, M25) =>
  (px_ai 0 M25 t21 v27).bind fun v28 =>
  some (v28, M25)
set_option maxHeartbeats 4000000 in
set_option maxRecDepth 100000 in
theorem c_SB_row (l : Launch) (bs : Nat) (D : va_G) (G : Nat → ClassId) (o0 : Nat) (x1 : Int32) (x2 : Int32) (M : px_M) {r : Int32} {M' : px_M} (hf : f_SB_row o0 x1 x2 M = some (r, M')) : Met l y_SB_row (.code y_SB_row b_SB_row 3 (some .int) :: px_tw) ⟨5, 0, 0, 110⟩ (va_Pc [.ref o0, .int x1, .int x2] (px_B bs D px_cl (px_tys G) px_nw px_over M)) (px_Qi bs D px_cl (px_tys G) r M') 0 0 (fun q => bs ≤ q) := by
  refine px_of (by decide) (Nat.le_of_ble_eq_true rfl) ?_
  intro p e s m below meth c ls C0 hM hS hl
  obtain ⟨hx, hb, hr, hml, hown, hnm, hlocks, hts, hK, hN, hO⟩ := C0
  have hl : lv_has ls 3 [(0, .ref o0), (1, .int x1), (2, .int x2)] := hl
  unfold f_SB_row at hf
  refine lv_aload_n hx hb d_SB_row_0 rfl (lv_at hl 0 rfl) ?_
  refine lv_iload_n hx hb d_SB_row_1 rfl (lv_at hl 1 rfl) ?_
  refine lv_iload_n hx hb d_SB_row_2 rfl (lv_at hl 2 rfl) ?_
  obtain ⟨_, h32, hf⟩ := px_bind hf
  obtain ⟨⟨v3, M1⟩, h2, hf⟩ := px_bind hf
  dsimp only at hf
  refine px_calli (va_runV (As := [.int x1, .int x2]) (rest := []) ⟨hx, hb, hml, hown, hts⟩ (c_SB_isLine l bs D G o0 x1 x2 M h2) (cwV 2 hts (px_gV w_509 w_511 ws_SB_isLine w_1 w_512) rfl rfl rfl (by decide +kernel) ⟨Nat.le_of_ble_eq_true rfl, Nat.le_of_ble_eq_true rfl⟩) (px_preV px_nwok hK hN hO hM h32 rfl) rfl rfl hl.1 rfl (lv_room (Nat.le_of_ble_eq_true rfl)) d_SB_row_3 ⟨Nat.le_of_ble_eq_true rfl, Nat.le_of_ble_eq_true rfl⟩) hS (fun H locs hM hS => ?_)
  refine lv_if_ne (tgt := 11) hx hb d_SB_row_6 (by decide) (fun c4 => ?_) (fun c4 => ?_)
  · have hf := px_iff hf c4
    refine lv_aload_n hx hb d_SB_row_11 rfl (lv_at hl 0 rfl) ?_
    obtain ⟨t5, h6, hf⟩ := px_bind hf
    refine px_rgr hx hb hts cl_SB hown hK hM 10 (by decide) (hts _ w_302) h6 d_SB_row_12 ?_
    refine lv_aload_n hx hb d_SB_row_15 rfl (lv_at hl 0 rfl) ?_
    obtain ⟨t7, h8, hf⟩ := px_bind hf
    refine px_rgr hx hb hts cl_SB hown hK hM 8 (by decide) (hts _ w_300) h8 d_SB_row_16 ?_
    refine lv_iload_n hx hb d_SB_row_19 rfl (lv_at hl 1 rfl) ?_
    obtain ⟨t9, h10, hf⟩ := px_bind hf
    refine px_rar hx hb hK hM 2 rfl h10 d_SB_row_20 ?_
    refine lv_aload_n hx hb d_SB_row_21 rfl (lv_at hl 0 rfl) ?_
    obtain ⟨t11, h12, hf⟩ := px_bind hf
    refine px_rgr hx hb hts cl_SB hown hK hM 2 (by decide) (hts _ w_294) h12 d_SB_row_22 ?_
    obtain ⟨v13, h14, hf⟩ := px_bind hf
    refine px_rgiN hx hb hts cl_RS hown hK hM 5 (by decide) (hN _ n_89) h14 d_SB_row_25 ?_
    obtain ⟨_, h31, hf⟩ := px_bind hf
    obtain ⟨M15, h16, hf⟩ := px_bind hf
    refine px_callv (va_runV (As := [.ref t9, .int v13]) (rest := []) ⟨hx, hb, hml, hown, hts⟩ (c_LO_arrange l bs D G t5 t9 v13 M1 h16) (cwV 2 hts (px_gV w_513 w_514 w_515 w_7 w_516) rfl rfl rfl (by decide +kernel) ⟨Nat.le_of_ble_eq_true rfl, Nat.le_of_ble_eq_true rfl⟩) (px_preV px_nwok hK hN hO hM h31 rfl) rfl rfl hl.1 rfl (lv_room (Nat.le_of_ble_eq_true rfl)) d_SB_row_28 ⟨Nat.le_of_ble_eq_true rfl, Nat.le_of_ble_eq_true rfl⟩) hS (fun H locs hM hS => ?_)
    refine lv_aload_n hx hb d_SB_row_31 rfl (lv_at hl 0 rfl) ?_
    obtain ⟨t17, h18, hf⟩ := px_bind hf
    refine px_rgr hx hb hts cl_SB hown hK hM 8 (by decide) (hts _ w_300) h18 d_SB_row_32 ?_
    refine lv_iload_n hx hb d_SB_row_35 rfl (lv_at hl 1 rfl) ?_
    obtain ⟨t19, h20, hf⟩ := px_bind hf
    refine px_rar hx hb hK hM 2 rfl h20 d_SB_row_36 ?_
    obtain ⟨t21, h22, hf⟩ := px_bind hf
    refine px_rgrN hx hb hts cl_BO hown hK hM 0 (by decide) (hN _ n_270) h22 d_SB_row_37 ?_
    refine lv_aload_n hx hb d_SB_row_40 rfl (lv_at hl 0 rfl) ?_
    obtain ⟨t23, h24, hf⟩ := px_bind hf
    refine px_rgr hx hb hts cl_SB hown hK hM 10 (by decide) (hts _ w_302) h24 d_SB_row_41 ?_
    refine lv_iload_n hx hb d_SB_row_44 rfl (lv_at hl 2 rfl) ?_
    obtain ⟨_, h30, hf⟩ := px_bind hf
    obtain ⟨⟨v27, M25⟩, h26, hf⟩ := px_bind hf
    dsimp only at hf
    refine px_calli (va_runV (As := [.int x2]) (rest := [.ref t21]) ⟨hx, hb, hml, hown, hts⟩ (c_LO_lineAt l bs D G t23 x2 M15 h26) (cwV 1 hts (px_gV w_538 w_539 w_540 w_7 w_541) rfl rfl rfl (by decide +kernel) ⟨Nat.le_of_ble_eq_true rfl, Nat.le_of_ble_eq_true rfl⟩) (px_preV px_nwok hK hN hO hM h30 rfl) rfl rfl hl.1 rfl (lv_room (Nat.le_of_ble_eq_true rfl)) d_SB_row_45 ⟨Nat.le_of_ble_eq_true rfl, Nat.le_of_ble_eq_true rfl⟩) hS (fun H locs hM hS => ?_)
    obtain ⟨v28, h29, hf⟩ := px_bind hf
    refine px_rai hx hb hK hM 0 rfl h29 d_SB_row_48 ?_
    obtain ⟨rfl, rfl⟩ := px_s2 hf
    exact px_iret hx hb hr hlocks hM hS d_SB_row_49
  · have hf := px_ift hf c4
    refine lv_iconst (v := (-1)) hx hb d_SB_row_9 (by decide) ?_
    obtain ⟨rfl, rfl⟩ := px_s2 hf
    exact px_iret hx hb hr hlocks hM hS d_SB_row_10
def f_LO_distanceAt (o0 : Nat) (x1 : Int32) (M : px_M) : Option (Int32 × px_M) :=
  (px_gr 6 3 M o0).bind fun t1 =>
  (px_gr 6 2 M o0).bind fun t3 =>
  (px_ai 0 M t3 x1).bind fun v5 =>
  (px_ai 0 M t1 v5).bind fun v7 =>
  some (v7, M)
set_option maxHeartbeats 4000000 in
set_option maxRecDepth 100000 in
theorem c_LO_distanceAt (l : Launch) (bs : Nat) (D : va_G) (G : Nat → ClassId) (o0 : Nat) (x1 : Int32) (M : px_M) {r : Int32} {M' : px_M} (hf : f_LO_distanceAt o0 x1 M = some (r, M')) : Met l y_LO_distanceAt (.code y_LO_distanceAt b_LO_distanceAt 2 (some .int) :: px_tw) ⟨0, 0, 0, 0⟩ (va_Pc [.ref o0, .int x1] (px_B bs D px_cl (px_tys G) px_nw px_over M)) (px_Qi bs D px_cl (px_tys G) r M') 0 0 (fun q => bs ≤ q) := by
  refine px_of (by decide) (Nat.le_of_ble_eq_true rfl) ?_
  intro p e s m below meth c ls C0 hM hS hl
  obtain ⟨hx, hb, hr, hml, hown, hnm, hlocks, hts, hK, hN, hO⟩ := C0
  have hl : lv_has ls 2 [(0, .ref o0), (1, .int x1)] := hl
  unfold f_LO_distanceAt at hf
  refine lv_aload_n hx hb d_LO_distanceAt_0 rfl (lv_at hl 0 rfl) ?_
  obtain ⟨t1, h2, hf⟩ := px_bind hf
  refine px_rgr hx hb hts cl_LO hown hK hM 3 (by decide) (hts _ w_169) h2 d_LO_distanceAt_1 ?_
  refine lv_aload_n hx hb d_LO_distanceAt_4 rfl (lv_at hl 0 rfl) ?_
  obtain ⟨t3, h4, hf⟩ := px_bind hf
  refine px_rgr hx hb hts cl_LO hown hK hM 2 (by decide) (hts _ w_168) h4 d_LO_distanceAt_5 ?_
  refine lv_iload_n hx hb d_LO_distanceAt_8 rfl (lv_at hl 1 rfl) ?_
  obtain ⟨v5, h6, hf⟩ := px_bind hf
  refine px_rai hx hb hK hM 0 rfl h6 d_LO_distanceAt_9 ?_
  obtain ⟨v7, h8, hf⟩ := px_bind hf
  refine px_rai hx hb hK hM 0 rfl h8 d_LO_distanceAt_10 ?_
  obtain ⟨rfl, rfl⟩ := px_s2 hf
  exact px_iret hx hb hr hlocks hM hS d_LO_distanceAt_11
def f_SB_distance (o0 : Nat) (x1 : Int32) (x2 : Int32) (M : px_M) : Option (Int32 × px_M) :=
  (px_ob 0 M o0).bind fun _ =>
  (f_SB_isLine o0 x1 x2 M).bind fun (v3, M1) =>
  if v3 = 0 then
  some ((-1), M1)
  else
  (px_gr 0 10 M1 o0).bind fun t5 =>
  (px_gr 0 8 M1 o0).bind fun t7 =>
  (px_ar 2 M1 t7 x1).bind fun t9 =>
  (px_gr 0 2 M1 o0).bind fun t11 =>
  (px_gi 3 5 M1 t11).bind fun v13 =>
  (px_ob 6 M1 t5).bind fun _ =>
  (f_LO_arrange t5 t9 v13 M1).bind fun M15 =>
  (px_gr 0 10 M15 o0).bind fun t17 =>
  (px_ob 6 M15 t17).bind fun _ =>
  (f_LO_distanceAt t17 x2 M15).bind fun (v21, M19) =>
  some (v21, M19)
set_option maxHeartbeats 4000000 in
set_option maxRecDepth 100000 in
theorem c_SB_distance (l : Launch) (bs : Nat) (D : va_G) (G : Nat → ClassId) (o0 : Nat) (x1 : Int32) (x2 : Int32) (M : px_M) {r : Int32} {M' : px_M} (hf : f_SB_distance o0 x1 x2 M = some (r, M')) : Met l y_SB_distance (.code y_SB_distance b_SB_distance 3 (some .int) :: px_tw) ⟨5, 0, 0, 110⟩ (va_Pc [.ref o0, .int x1, .int x2] (px_B bs D px_cl (px_tys G) px_nw px_over M)) (px_Qi bs D px_cl (px_tys G) r M') 0 0 (fun q => bs ≤ q) := by
  refine px_of (by decide) (Nat.le_of_ble_eq_true rfl) ?_
  intro p e s m below meth c ls C0 hM hS hl
  obtain ⟨hx, hb, hr, hml, hown, hnm, hlocks, hts, hK, hN, hO⟩ := C0
  have hl : lv_has ls 3 [(0, .ref o0), (1, .int x1), (2, .int x2)] := hl
  unfold f_SB_distance at hf
  refine lv_aload_n hx hb d_SB_distance_0 rfl (lv_at hl 0 rfl) ?_
  refine lv_iload_n hx hb d_SB_distance_1 rfl (lv_at hl 1 rfl) ?_
  refine lv_iload_n hx hb d_SB_distance_2 rfl (lv_at hl 2 rfl) ?_
  obtain ⟨_, h24, hf⟩ := px_bind hf
  obtain ⟨⟨v3, M1⟩, h2, hf⟩ := px_bind hf
  dsimp only at hf
  refine px_calli (va_runV (As := [.int x1, .int x2]) (rest := []) ⟨hx, hb, hml, hown, hts⟩ (c_SB_isLine l bs D G o0 x1 x2 M h2) (cwV 2 hts (px_gV w_509 w_511 ws_SB_isLine w_1 w_512) rfl rfl rfl (by decide +kernel) ⟨Nat.le_of_ble_eq_true rfl, Nat.le_of_ble_eq_true rfl⟩) (px_preV px_nwok hK hN hO hM h24 rfl) rfl rfl hl.1 rfl (lv_room (Nat.le_of_ble_eq_true rfl)) d_SB_distance_3 ⟨Nat.le_of_ble_eq_true rfl, Nat.le_of_ble_eq_true rfl⟩) hS (fun H locs hM hS => ?_)
  refine lv_if_ne (tgt := 11) hx hb d_SB_distance_6 (by decide) (fun c4 => ?_) (fun c4 => ?_)
  · have hf := px_iff hf c4
    refine lv_aload_n hx hb d_SB_distance_11 rfl (lv_at hl 0 rfl) ?_
    obtain ⟨t5, h6, hf⟩ := px_bind hf
    refine px_rgr hx hb hts cl_SB hown hK hM 10 (by decide) (hts _ w_302) h6 d_SB_distance_12 ?_
    refine lv_aload_n hx hb d_SB_distance_15 rfl (lv_at hl 0 rfl) ?_
    obtain ⟨t7, h8, hf⟩ := px_bind hf
    refine px_rgr hx hb hts cl_SB hown hK hM 8 (by decide) (hts _ w_300) h8 d_SB_distance_16 ?_
    refine lv_iload_n hx hb d_SB_distance_19 rfl (lv_at hl 1 rfl) ?_
    obtain ⟨t9, h10, hf⟩ := px_bind hf
    refine px_rar hx hb hK hM 2 rfl h10 d_SB_distance_20 ?_
    refine lv_aload_n hx hb d_SB_distance_21 rfl (lv_at hl 0 rfl) ?_
    obtain ⟨t11, h12, hf⟩ := px_bind hf
    refine px_rgr hx hb hts cl_SB hown hK hM 2 (by decide) (hts _ w_294) h12 d_SB_distance_22 ?_
    obtain ⟨v13, h14, hf⟩ := px_bind hf
    refine px_rgiN hx hb hts cl_RS hown hK hM 5 (by decide) (hN _ n_89) h14 d_SB_distance_25 ?_
    obtain ⟨_, h23, hf⟩ := px_bind hf
    obtain ⟨M15, h16, hf⟩ := px_bind hf
    refine px_callv (va_runV (As := [.ref t9, .int v13]) (rest := []) ⟨hx, hb, hml, hown, hts⟩ (c_LO_arrange l bs D G t5 t9 v13 M1 h16) (cwV 2 hts (px_gV w_513 w_514 w_515 w_7 w_516) rfl rfl rfl (by decide +kernel) ⟨Nat.le_of_ble_eq_true rfl, Nat.le_of_ble_eq_true rfl⟩) (px_preV px_nwok hK hN hO hM h23 rfl) rfl rfl hl.1 rfl (lv_room (Nat.le_of_ble_eq_true rfl)) d_SB_distance_28 ⟨Nat.le_of_ble_eq_true rfl, Nat.le_of_ble_eq_true rfl⟩) hS (fun H locs hM hS => ?_)
    refine lv_aload_n hx hb d_SB_distance_31 rfl (lv_at hl 0 rfl) ?_
    obtain ⟨t17, h18, hf⟩ := px_bind hf
    refine px_rgr hx hb hts cl_SB hown hK hM 10 (by decide) (hts _ w_302) h18 d_SB_distance_32 ?_
    refine lv_iload_n hx hb d_SB_distance_35 rfl (lv_at hl 2 rfl) ?_
    obtain ⟨_, h22, hf⟩ := px_bind hf
    obtain ⟨⟨v21, M19⟩, h20, hf⟩ := px_bind hf
    dsimp only at hf
    refine px_calli (va_runV (As := [.int x2]) (rest := []) ⟨hx, hb, hml, hown, hts⟩ (c_LO_distanceAt l bs D G t17 x2 M15 h20) (cwV 1 hts (px_gV w_546 w_547 w_548 w_7 w_549) rfl rfl rfl (by decide +kernel) ⟨Nat.le_of_ble_eq_true rfl, Nat.le_of_ble_eq_true rfl⟩) (px_preV px_nwok hK hN hO hM h22 rfl) rfl rfl hl.1 rfl (lv_room (Nat.le_of_ble_eq_true rfl)) d_SB_distance_36 ⟨Nat.le_of_ble_eq_true rfl, Nat.le_of_ble_eq_true rfl⟩) hS (fun H locs hM hS => ?_)
    obtain ⟨rfl, rfl⟩ := px_s2 hf
    exact px_iret hx hb hr hlocks hM hS d_SB_distance_39
  · have hf := px_ift hf c4
    refine lv_iconst (v := (-1)) hx hb d_SB_distance_9 (by decide) ?_
    obtain ⟨rfl, rfl⟩ := px_s2 hf
    exact px_iret hx hb hr hlocks hM hS d_SB_distance_10
def f_SH_nameOf (o0 : Nat) (x1 : Int32) (M : px_M) : Option (Nat × px_M) :=
  (px_gr 7 0 M o0).bind fun t1 =>
  (px_gr 7 3 M o0).bind fun t3 =>
  (px_gr 10 0 M t3).bind fun t5 =>
  (px_ai 0 M t5 x1).bind fun v7 =>
  (px_ar 1 M t1 v7).bind fun t9 =>
  some (t9, M)
set_option maxHeartbeats 4000000 in
set_option maxRecDepth 100000 in
theorem c_SH_nameOf (l : Launch) (bs : Nat) (D : va_G) (G : Nat → ClassId) (o0 : Nat) (x1 : Int32) (M : px_M) {r : Nat} {M' : px_M} (hf : f_SH_nameOf o0 x1 M = some (r, M')) : Met l y_SH_nameOf (.code y_SH_nameOf b_SH_nameOf 2 (some (.object "SignBoards$Name")) :: px_tw) ⟨0, 0, 0, 0⟩ (va_Pc [.ref o0, .int x1] (px_B bs D px_cl (px_tys G) px_nw px_over M)) (px_Qr bs D px_cl (px_tys G) r M') 0 0 (fun q => bs ≤ q) := by
  refine px_of (by decide) (Nat.le_of_ble_eq_true rfl) ?_
  intro p e s m below meth c ls C0 hM hS hl
  obtain ⟨hx, hb, hr, hml, hown, hnm, hlocks, hts, hK, hN, hO⟩ := C0
  have hl : lv_has ls 2 [(0, .ref o0), (1, .int x1)] := hl
  unfold f_SH_nameOf at hf
  refine lv_aload_n hx hb d_SH_nameOf_0 rfl (lv_at hl 0 rfl) ?_
  obtain ⟨t1, h2, hf⟩ := px_bind hf
  refine px_rgr hx hb hts cl_SH hown hK hM 0 (by decide) (hts _ w_185) h2 d_SH_nameOf_1 ?_
  refine lv_aload_n hx hb d_SH_nameOf_4 rfl (lv_at hl 0 rfl) ?_
  obtain ⟨t3, h4, hf⟩ := px_bind hf
  refine px_rgr hx hb hts cl_SH hown hK hM 3 (by decide) (hts _ w_188) h4 d_SH_nameOf_5 ?_
  obtain ⟨t5, h6, hf⟩ := px_bind hf
  refine px_rgrN hx hb hts cl_BO hown hK hM 0 (by decide) (hN _ n_269) h6 d_SH_nameOf_8 ?_
  refine lv_iload_n hx hb d_SH_nameOf_11 rfl (lv_at hl 1 rfl) ?_
  obtain ⟨v7, h8, hf⟩ := px_bind hf
  refine px_rai hx hb hK hM 0 rfl h8 d_SH_nameOf_12 ?_
  obtain ⟨t9, h10, hf⟩ := px_bind hf
  refine px_rar hx hb hK hM 1 rfl h10 d_SH_nameOf_13 ?_
  obtain ⟨rfl, rfl⟩ := px_s2 hf
  exact px_aret hx hb hr (Or.inl ⟨_, rfl⟩) hlocks hM hS d_SH_nameOf_14
def f_SH_lineWidth (o0 : Nat) (x1 : Int32) (M : px_M) : Option (Int32 × px_M) :=
  (px_gr 7 2 M o0).bind fun t1 =>
  (px_ai 0 M t1 x1).bind fun v3 =>
  (px_gi 7 7 M o0).bind fun v5 =>
  (px_gi 7 5 M o0).bind fun v7 =>
  some ((v3 + v5) + v7, M)
set_option maxHeartbeats 4000000 in
set_option maxRecDepth 100000 in
theorem c_SH_lineWidth (l : Launch) (bs : Nat) (D : va_G) (G : Nat → ClassId) (o0 : Nat) (x1 : Int32) (M : px_M) {r : Int32} {M' : px_M} (hf : f_SH_lineWidth o0 x1 M = some (r, M')) : Met l y_SH_lineWidth (.code y_SH_lineWidth b_SH_lineWidth 2 (some .int) :: px_tw) ⟨0, 0, 0, 0⟩ (va_Pc [.ref o0, .int x1] (px_B bs D px_cl (px_tys G) px_nw px_over M)) (px_Qi bs D px_cl (px_tys G) r M') 0 0 (fun q => bs ≤ q) := by
  refine px_of (by decide) (Nat.le_of_ble_eq_true rfl) ?_
  intro p e s m below meth c ls C0 hM hS hl
  obtain ⟨hx, hb, hr, hml, hown, hnm, hlocks, hts, hK, hN, hO⟩ := C0
  have hl : lv_has ls 2 [(0, .ref o0), (1, .int x1)] := hl
  unfold f_SH_lineWidth at hf
  refine lv_aload_n hx hb d_SH_lineWidth_0 rfl (lv_at hl 0 rfl) ?_
  obtain ⟨t1, h2, hf⟩ := px_bind hf
  refine px_rgr hx hb hts cl_SH hown hK hM 2 (by decide) (hts _ w_187) h2 d_SH_lineWidth_1 ?_
  refine lv_iload_n hx hb d_SH_lineWidth_4 rfl (lv_at hl 1 rfl) ?_
  obtain ⟨v3, h4, hf⟩ := px_bind hf
  refine px_rai hx hb hK hM 0 rfl h4 d_SH_lineWidth_5 ?_
  refine lv_aload_n hx hb d_SH_lineWidth_6 rfl (lv_at hl 0 rfl) ?_
  obtain ⟨v5, h6, hf⟩ := px_bind hf
  refine px_rgi hx hb hts cl_SH hown hK hM 7 (by decide) (hts _ w_192) h6 d_SH_lineWidth_7 ?_
  refine lv_iadd hx hb d_SH_lineWidth_10 ?_
  refine lv_aload_n hx hb d_SH_lineWidth_11 rfl (lv_at hl 0 rfl) ?_
  obtain ⟨v7, h8, hf⟩ := px_bind hf
  refine px_rgi hx hb hts cl_SH hown hK hM 5 (by decide) (hts _ w_190) h8 d_SH_lineWidth_12 ?_
  refine lv_iadd hx hb d_SH_lineWidth_15 ?_
  obtain ⟨rfl, rfl⟩ := px_s2 hf
  exact px_iret hx hb hr hlocks hM hS d_SH_lineWidth_16
def f_SH_lay_L53 : Nat → Nat → Int32 → Int32 → px_M → Option ((Int32) × px_M)
  | 0, _, _, _, _ => none
  | n + 1, o0, x4, x5, M =>
    (px_gr 7 3 M o0).bind fun t20 =>
    (px_gi 10 2 M t20).bind fun v22 =>
    if v22 ≤ x5 then
    some (x4, M)
    else
    (px_gr 7 2 M o0).bind fun t25 =>
    (px_gr 7 1 M o0).bind fun t27 =>
    (px_ob 7 M o0).bind fun _ =>
    (f_SH_nameOf o0 x5 M).bind fun (t31, M29) =>
    (px_ob 4 M29 t27).bind fun _ =>
    (f_LE_fieldOf t27 t31 M29).bind fun (v34, M32) =>
    (px_gi 7 4 M32 o0).bind fun v35 =>
    (px_si 0 M32 t25 x5 (v34 * v35)).bind fun M37 =>
    if x5 = 0 then
    (px_ob 7 M37 o0).bind fun _ =>
    (f_SH_lineWidth o0 x5 M37).bind fun (v48, M46) =>
    f_SH_lay_L53 n o0 v48 (x5 + 1) M46
    else
    (px_ob 7 M37 o0).bind fun _ =>
    (f_SH_lineWidth o0 x5 M37).bind fun (v42, M40) =>
    (some (if x4 < v42 then v42 else x4)).bind fun v43 =>
    f_SH_lay_L53 n o0 v43 (x5 + 1) M40
set_option maxHeartbeats 4000000 in
set_option maxRecDepth 100000 in
theorem lp_SH_lay_L53 {p : Program} {l : Launch} {e : Env} {s : State} {m : MethodId} {args : Array Value} {below : List Frame} {meth : Method} {c : Code} {bs : Nat} {D : va_G} {G : Nat → ClassId} {Q : State → Prop} (C0 : px_At p s m meth c y_SH_lay b_SH_lay 6 none args D px_cl (px_tys G) px_nw px_over) (x : Int32) (M' : px_M) (o0 : Nat) (kx : ∀ (H : Heap) (locs : List Loc) (ls : Array Slot), px_W bs D px_cl (px_tys G) M' H → va_S (fun q => bs ≤ q) s.heap H locs → lv_has ls 6 [(0, .ref o0), (4, .int x)] → W p l e ⟨4, 0, 0, 91⟩ s m args below meth c H locs 0 0 Q (F0 m 123 ls []))  : ∀ (n : Nat) (x4 : Int32) (x5 : Int32) (M : px_M), f_SH_lay_L53 n o0 x4 x5 M = some (x, M') → ∀ (H : Heap) (locs : List Loc) (ls : Array Slot), px_W bs D px_cl (px_tys G) M H → va_S (fun q => bs ≤ q) s.heap H locs → lv_has ls 6 [(0, .ref o0), (4, .int x4), (5, .int x5)] → W p l e ⟨4, 0, 0, 91⟩ s m args below meth c H locs 0 0 Q (F0 m 53 ls []) := by
  obtain ⟨hx, hb, hr, hml, hown, hnm, hlocks, hts, hK, hN, hO⟩ := C0
  intro n
  induction n with
  | zero => intro x4 x5 M hf; cases hf
  | succ n ih =>
    intro x4 x5 M hf H locs ls hM hS hl
    unfold f_SH_lay_L53 at hf
    refine lv_iload hx hb d_SH_lay_53 (lv_at hl 2 rfl) ?_
    refine lv_aload_n hx hb d_SH_lay_55 rfl (lv_at hl 0 rfl) ?_
    obtain ⟨t20, h21, hf⟩ := px_bind hf
    refine px_rgr hx hb hts cl_SH hown hK hM 3 (by decide) (hts _ w_188) h21 d_SH_lay_56 ?_
    obtain ⟨v22, h23, hf⟩ := px_bind hf
    refine px_rgiN hx hb hts cl_BO hown hK hM 2 (by decide) (hN _ n_275) h23 d_SH_lay_59 ?_
    refine lv_icmp_ge (tgt := 123) hx hb d_SH_lay_62 (by decide) (fun c24 => ?_) (fun c24 => ?_)
    · have hf := px_ift hf c24
      obtain ⟨rfl, rfl⟩ := px_s2 hf
      exact kx _ _ _ hM hS (lv_sub hl [0, 1] rfl)
    · have hf := px_iff hf c24
      refine lv_aload_n hx hb d_SH_lay_65 rfl (lv_at hl 0 rfl) ?_
      obtain ⟨t25, h26, hf⟩ := px_bind hf
      refine px_rgr hx hb hts cl_SH hown hK hM 2 (by decide) (hts _ w_187) h26 d_SH_lay_66 ?_
      refine lv_iload hx hb d_SH_lay_69 (lv_at hl 2 rfl) ?_
      refine lv_aload_n hx hb d_SH_lay_71 rfl (lv_at hl 0 rfl) ?_
      obtain ⟨t27, h28, hf⟩ := px_bind hf
      refine px_rgr hx hb hts cl_SH hown hK hM 1 (by decide) (hts _ w_186) h28 d_SH_lay_72 ?_
      refine lv_aload_n hx hb d_SH_lay_75 rfl (lv_at hl 0 rfl) ?_
      refine lv_iload hx hb d_SH_lay_76 (lv_at hl 2 rfl) ?_
      obtain ⟨_, h51, hf⟩ := px_bind hf
      obtain ⟨⟨t31, M29⟩, h30, hf⟩ := px_bind hf
      dsimp only at hf
      refine px_callr (va_runV (As := [.int x5]) (rest := [.ref t27, .int x5, .ref t25]) ⟨hx, hb, hml, hown, hts⟩ (c_SH_nameOf l bs D G o0 x5 M h30) (cwV 1 hts (px_gV w_559 w_561 ws_SH_nameOf w_8 w_562) rfl rfl rfl (by decide +kernel) ⟨Nat.le_of_ble_eq_true rfl, Nat.le_of_ble_eq_true rfl⟩) (px_preV px_nwok hK hN hO hM h51 rfl) rfl rfl hl.1 rfl (lv_room (Nat.le_of_ble_eq_true rfl)) d_SH_lay_78 ⟨Nat.le_of_ble_eq_true rfl, Nat.le_of_ble_eq_true rfl⟩) hS (fun H locs hM hS => ?_)
      obtain ⟨_, h50, hf⟩ := px_bind hf
      obtain ⟨⟨v34, M32⟩, h33, hf⟩ := px_bind hf
      dsimp only at hf
      refine px_calli (va_runV (As := [.ref t31]) (rest := [.int x5, .ref t25]) ⟨hx, hb, hml, hown, hts⟩ (c_LE_fieldOf l bs D G t27 t31 M29 h33) (cwV 1 hts (px_gV w_563 w_445 w_446 w_5 w_447) rfl rfl rfl (by decide +kernel) ⟨Nat.le_of_ble_eq_true rfl, Nat.le_of_ble_eq_true rfl⟩) (px_preV px_nwok hK hN hO hM h50 rfl) rfl rfl hl.1 rfl (lv_room (Nat.le_of_ble_eq_true rfl)) d_SH_lay_81 ⟨Nat.le_of_ble_eq_true rfl, Nat.le_of_ble_eq_true rfl⟩) hS (fun H locs hM hS => ?_)
      refine lv_aload_n hx hb d_SH_lay_84 rfl (lv_at hl 0 rfl) ?_
      obtain ⟨v35, h36, hf⟩ := px_bind hf
      refine px_rgi hx hb hts cl_SH hown hK hM 4 (by decide) (hts _ w_189) h36 d_SH_lay_85 ?_
      refine lv_imul hx hb d_SH_lay_88 ?_
      obtain ⟨M37, h38, hf⟩ := px_bind hf
      refine px_rsi hx hb hK hM hS 0 rfl h38 d_SH_lay_89 (fun H locs hM hS => ?_)
      refine lv_iload hx hb d_SH_lay_90 (lv_at hl 2 rfl) ?_
      refine lv_if_ne (tgt := 104) hx hb d_SH_lay_92 (by decide) (fun c39 => ?_) (fun c39 => ?_)
      · have hf := px_iff hf c39
        refine lv_iload hx hb d_SH_lay_104 (lv_at hl 1 rfl) ?_
        refine lv_aload_n hx hb d_SH_lay_106 rfl (lv_at hl 0 rfl) ?_
        refine lv_iload hx hb d_SH_lay_107 (lv_at hl 2 rfl) ?_
        obtain ⟨_, h45, hf⟩ := px_bind hf
        obtain ⟨⟨v42, M40⟩, h41, hf⟩ := px_bind hf
        dsimp only at hf
        refine px_calli (va_runV (As := [.int x5]) (rest := [.int x4]) ⟨hx, hb, hml, hown, hts⟩ (c_SH_lineWidth l bs D G o0 x5 M37 h41) (cwV 1 hts (px_gV w_564 w_566 ws_SH_lineWidth w_8 w_567) rfl rfl rfl (by decide +kernel) ⟨Nat.le_of_ble_eq_true rfl, Nat.le_of_ble_eq_true rfl⟩) (px_preV px_nwok hK hN hO hM h45 rfl) rfl rfl hl.1 rfl (lv_room (Nat.le_of_ble_eq_true rfl)) d_SH_lay_109 ⟨Nat.le_of_ble_eq_true rfl, Nat.le_of_ble_eq_true rfl⟩) hS (fun H locs hM hS => ?_)
        obtain ⟨v43, h44, hf⟩ := px_bind hf
        refine va_mmax hx hb (by rw [hml]; exact hl.1.symm) hown (hts _ w_568) (hts _ w_569) (hts _ w_13) (hts _ w_570) (Nat.le_of_ble_eq_true rfl) (Nat.le_of_ble_eq_true rfl) (Nat.zero_le _) (Nat.zero_le _) d_SH_lay_112 ?_
        rw [Option.some.inj h44]
        refine lv_istore (lv' := [(4, .int v43), (0, .ref o0), (5, .int x5)]) hx hb d_SH_lay_115 hl (by decide) rfl (fun ls hl => ?_)
        refine lv_iinc (v := x5 + 1) (lv' := [(5, .int (x5 + 1)), (4, .int v43), (0, .ref o0)]) hx hb d_SH_lay_117 hl (k := 2) rfl (by rfl) (by decide) rfl (fun ls hl => ?_)
        refine lv_goto (tgt := 53) hx hb d_SH_lay_120 (by decide) ?_
        exact ih v43 (x5 + 1) M40 hf _ _ _ hM hS (lv_sub hl [2, 1, 0] rfl)
      · have hf := px_ift hf c39
        refine lv_aload_n hx hb d_SH_lay_95 rfl (lv_at hl 0 rfl) ?_
        refine lv_iload hx hb d_SH_lay_96 (lv_at hl 2 rfl) ?_
        obtain ⟨_, h49, hf⟩ := px_bind hf
        obtain ⟨⟨v48, M46⟩, h47, hf⟩ := px_bind hf
        dsimp only at hf
        refine px_calli (va_runV (As := [.int x5]) (rest := []) ⟨hx, hb, hml, hown, hts⟩ (c_SH_lineWidth l bs D G o0 x5 M37 h47) (cwV 1 hts (px_gV w_564 w_566 ws_SH_lineWidth w_8 w_567) rfl rfl rfl (by decide +kernel) ⟨Nat.le_of_ble_eq_true rfl, Nat.le_of_ble_eq_true rfl⟩) (px_preV px_nwok hK hN hO hM h49 rfl) rfl rfl hl.1 rfl (lv_room (Nat.le_of_ble_eq_true rfl)) d_SH_lay_98 ⟨Nat.le_of_ble_eq_true rfl, Nat.le_of_ble_eq_true rfl⟩) hS (fun H locs hM hS => ?_)
        refine lv_goto (tgt := 115) hx hb d_SH_lay_101 (by decide) ?_
        refine lv_istore (lv' := [(4, .int v48), (0, .ref o0), (5, .int x5)]) hx hb d_SH_lay_115 hl (by decide) rfl (fun ls hl => ?_)
        refine lv_iinc (v := x5 + 1) (lv' := [(5, .int (x5 + 1)), (4, .int v48), (0, .ref o0)]) hx hb d_SH_lay_117 hl (k := 2) rfl (by rfl) (by decide) rfl (fun ls hl => ?_)
        refine lv_goto (tgt := 53) hx hb d_SH_lay_120 (by decide) ?_
        exact ih v48 (x5 + 1) M46 hf _ _ _ hM hS (lv_sub hl [2, 1, 0] rfl)
def f_SH_lay (o0 : Nat) (o1 : Nat) (o2 : Nat) (x3 : Int32) (M : px_M) : Option (px_M) :=
  (px_pt 7 3 M o0 (.ref o1)).bind fun M1 =>
  (px_ob 3 M1 o2).bind fun _ =>
  (f_RS_heightAt o2 x3 M1).bind fun (v5, M3) =>
  (px_pt 7 4 M3 o0 (.int v5)).bind fun M6 =>
  (px_gi 7 4 M6 o0).bind fun v8 =>
  (px_pt 7 5 M6 o0 (.int (v8 * 16))).bind fun M10 =>
  (px_gi 3 3 M10 o2).bind fun v12 =>
  (px_pt 7 6 M10 o0 (.int (v12 * 16))).bind fun M14 =>
  (px_gi 3 4 M14 o2).bind fun v16 =>
  (px_pt 7 7 M14 o0 (.int (v16 * 16))).bind fun M18 =>
  (f_SH_lay_L53 px_fuel o0 0 0 M18).bind fun (v54, M52) =>
  (px_gi 7 6 M52 o0).bind fun v55 =>
  (px_gr 7 3 M52 o0).bind fun t57 =>
  (px_gi 10 4 M52 t57).bind fun v59 =>
  (some (if (v54 + (2 * v55)) < (v59 * 16) then (v59 * 16) else (v54 + (2 * v55)))).bind fun v61 =>
  (px_pt 7 8 M52 o0 (.int v61)).bind fun M63 =>
  some M63
set_option maxHeartbeats 4000000 in
set_option maxRecDepth 100000 in
theorem c_SH_lay (l : Launch) (bs : Nat) (D : va_G) (G : Nat → ClassId) (o0 : Nat) (o1 : Nat) (o2 : Nat) (x3 : Int32) (M : px_M) {M' : px_M} (hf : f_SH_lay o0 o1 o2 x3 M = some M') : Met l y_SH_lay (.code y_SH_lay b_SH_lay 6 none :: px_tw) ⟨4, 0, 0, 91⟩ (va_Pc [.ref o0, .ref o1, .ref o2, .int x3] (px_B bs D px_cl (px_tys G) px_nw px_over M)) (px_Qv bs D px_cl (px_tys G) M') 0 0 (fun q => bs ≤ q) := by
  refine px_of (by decide) (Nat.le_of_ble_eq_true rfl) ?_
  intro p e s m below meth c ls C0 hM hS hl
  obtain ⟨hx, hb, hr, hml, hown, hnm, hlocks, hts, hK, hN, hO⟩ := C0
  have hl : lv_has ls 6 [(0, .ref o0), (1, .ref o1), (2, .ref o2), (3, .int x3)] := hl
  unfold f_SH_lay at hf
  refine lv_aload_n hx hb d_SH_lay_0 rfl (lv_at hl 0 rfl) ?_
  refine lv_aload_n hx hb d_SH_lay_1 rfl (lv_at hl 1 rfl) ?_
  obtain ⟨M1, h2, hf⟩ := px_bind hf
  refine px_rpt hx hb hts cl_SH hown hK hM hS 3 (by decide) (hts _ w_188) rfl rfl rfl h2 d_SH_lay_2 (fun H locs hM hS => ?_)
  refine lv_aload_n hx hb d_SH_lay_5 rfl (lv_at hl 0 rfl) ?_
  refine lv_aload_n hx hb d_SH_lay_6 rfl (lv_at hl 2 rfl) ?_
  refine lv_iload_n hx hb d_SH_lay_7 rfl (lv_at hl 3 rfl) ?_
  obtain ⟨_, h65, hf⟩ := px_bind hf
  obtain ⟨⟨v5, M3⟩, h4, hf⟩ := px_bind hf
  dsimp only at hf
  refine px_calli (va_runV (As := [.int x3]) (rest := [.ref o0]) ⟨hx, hb, hml, hown, hts⟩ (c_RS_heightAt l bs D G o2 x3 M1 h4) (cwV 1 hts (px_gV w_558 w_433 w_434 w_4 w_435) rfl rfl rfl (by decide +kernel) ⟨Nat.le_of_ble_eq_true rfl, Nat.le_of_ble_eq_true rfl⟩) (px_preV px_nwok hK hN hO hM h65 rfl) rfl rfl hl.1 rfl (lv_room (Nat.le_of_ble_eq_true rfl)) d_SH_lay_8 ⟨Nat.le_of_ble_eq_true rfl, Nat.le_of_ble_eq_true rfl⟩) hS (fun H locs hM hS => ?_)
  obtain ⟨M6, h7, hf⟩ := px_bind hf
  refine px_rpt hx hb hts cl_SH hown hK hM hS 4 (by decide) (hts _ w_189) rfl rfl rfl h7 d_SH_lay_11 (fun H locs hM hS => ?_)
  refine lv_aload_n hx hb d_SH_lay_14 rfl (lv_at hl 0 rfl) ?_
  refine lv_aload_n hx hb d_SH_lay_15 rfl (lv_at hl 0 rfl) ?_
  obtain ⟨v8, h9, hf⟩ := px_bind hf
  refine px_rgi hx hb hts cl_SH hown hK hM 4 (by decide) (hts _ w_189) h9 d_SH_lay_16 ?_
  refine lv_bipush (v := 16) hx hb d_SH_lay_19 (by decide) ?_
  refine lv_imul hx hb d_SH_lay_21 ?_
  obtain ⟨M10, h11, hf⟩ := px_bind hf
  refine px_rpt hx hb hts cl_SH hown hK hM hS 5 (by decide) (hts _ w_190) rfl rfl rfl h11 d_SH_lay_22 (fun H locs hM hS => ?_)
  refine lv_aload_n hx hb d_SH_lay_25 rfl (lv_at hl 0 rfl) ?_
  refine lv_aload_n hx hb d_SH_lay_26 rfl (lv_at hl 2 rfl) ?_
  obtain ⟨v12, h13, hf⟩ := px_bind hf
  refine px_rgiN hx hb hts cl_RS hown hK hM 3 (by decide) (hN _ n_82) h13 d_SH_lay_27 ?_
  refine lv_bipush (v := 16) hx hb d_SH_lay_30 (by decide) ?_
  refine lv_imul hx hb d_SH_lay_32 ?_
  obtain ⟨M14, h15, hf⟩ := px_bind hf
  refine px_rpt hx hb hts cl_SH hown hK hM hS 6 (by decide) (hts _ w_191) rfl rfl rfl h15 d_SH_lay_33 (fun H locs hM hS => ?_)
  refine lv_aload_n hx hb d_SH_lay_36 rfl (lv_at hl 0 rfl) ?_
  refine lv_aload_n hx hb d_SH_lay_37 rfl (lv_at hl 2 rfl) ?_
  obtain ⟨v16, h17, hf⟩ := px_bind hf
  refine px_rgiN hx hb hts cl_RS hown hK hM 4 (by decide) (hN _ n_85) h17 d_SH_lay_38 ?_
  refine lv_bipush (v := 16) hx hb d_SH_lay_41 (by decide) ?_
  refine lv_imul hx hb d_SH_lay_43 ?_
  obtain ⟨M18, h19, hf⟩ := px_bind hf
  refine px_rpt hx hb hts cl_SH hown hK hM hS 7 (by decide) (hts _ w_192) rfl rfl rfl h19 d_SH_lay_44 (fun H locs hM hS => ?_)
  refine lv_iconst (v := 0) hx hb d_SH_lay_47 (by decide) ?_
  refine lv_istore (lv' := [(4, .int 0), (0, .ref o0), (1, .ref o1), (2, .ref o2), (3, .int x3)]) hx hb d_SH_lay_48 hl (by decide) rfl (fun ls hl => ?_)
  refine lv_iconst (v := 0) hx hb d_SH_lay_50 (by decide) ?_
  refine lv_istore (lv' := [(5, .int 0), (4, .int 0), (0, .ref o0), (1, .ref o1), (2, .ref o2), (3, .int x3)]) hx hb d_SH_lay_51 hl (by decide) rfl (fun ls hl => ?_)
  obtain ⟨⟨v54, M52⟩, h53, hf⟩ := px_bind hf
  dsimp only at hf
  refine lp_SH_lay_L53 ⟨hx, hb, hr, hml, hown, hnm, hlocks, hts, hK, hN, hO⟩ _ M52 o0 (fun H locs ls hM hS hl => ?_) px_fuel 0 0 M18 h53 _ _ _ hM hS (lv_sub hl [2, 1, 0] rfl)
  try dsimp only at hl
  refine lv_aload_n hx hb d_SH_lay_123 rfl (lv_at hl 0 rfl) ?_
  refine lv_iload hx hb d_SH_lay_124 (lv_at hl 1 rfl) ?_
  refine lv_iconst (v := 2) hx hb d_SH_lay_126 (by decide) ?_
  refine lv_aload_n hx hb d_SH_lay_127 rfl (lv_at hl 0 rfl) ?_
  obtain ⟨v55, h56, hf⟩ := px_bind hf
  refine px_rgi hx hb hts cl_SH hown hK hM 6 (by decide) (hts _ w_191) h56 d_SH_lay_128 ?_
  refine lv_imul hx hb d_SH_lay_131 ?_
  refine lv_iadd hx hb d_SH_lay_132 ?_
  refine lv_aload_n hx hb d_SH_lay_133 rfl (lv_at hl 0 rfl) ?_
  obtain ⟨t57, h58, hf⟩ := px_bind hf
  refine px_rgr hx hb hts cl_SH hown hK hM 3 (by decide) (hts _ w_188) h58 d_SH_lay_134 ?_
  obtain ⟨v59, h60, hf⟩ := px_bind hf
  refine px_rgiN hx hb hts cl_BO hown hK hM 4 (by decide) (hN _ n_279) h60 d_SH_lay_137 ?_
  refine lv_bipush (v := 16) hx hb d_SH_lay_140 (by decide) ?_
  refine lv_imul hx hb d_SH_lay_142 ?_
  obtain ⟨v61, h62, hf⟩ := px_bind hf
  refine va_mmax hx hb (by rw [hml]; exact hl.1.symm) hown (hts _ w_568) (hts _ w_569) (hts _ w_13) (hts _ w_570) (Nat.le_of_ble_eq_true rfl) (Nat.le_of_ble_eq_true rfl) (Nat.zero_le _) (Nat.zero_le _) d_SH_lay_143 ?_
  rw [Option.some.inj h62]
  obtain ⟨M63, h64, hf⟩ := px_bind hf
  refine px_rpt hx hb hts cl_SH hown hK hM hS 8 (by decide) (hts _ w_193) rfl rfl rfl h64 d_SH_lay_146 (fun H locs hM hS => ?_)
  obtain rfl := px_s1 hf
  exact px_vret hx hb hr hlocks hM hS d_SH_lay_149
def f_SH_fullHeight (o0 : Nat) (M : px_M) : Option (Int32 × px_M) :=
  (px_gr 7 3 M o0).bind fun t1 =>
  (px_gi 10 2 M t1).bind fun v3 =>
  (some (if (v3 - 1) < 0 then 0 else (v3 - 1))).bind fun v5 =>
  (px_gr 7 3 M o0).bind fun t7 =>
  (px_gi 10 2 M t7).bind fun v9 =>
  (px_gi 7 5 M o0).bind fun v11 =>
  (px_gi 7 7 M o0).bind fun v13 =>
  (px_gi 7 6 M o0).bind fun v15 =>
  some (((v9 * v11) + (v5 * v13)) + (2 * v15), M)
set_option maxHeartbeats 4000000 in
set_option maxRecDepth 100000 in
theorem c_SH_fullHeight (l : Launch) (bs : Nat) (D : va_G) (G : Nat → ClassId) (o0 : Nat) (M : px_M) {r : Int32} {M' : px_M} (hf : f_SH_fullHeight o0 M = some (r, M')) : Met l y_SH_fullHeight (.code y_SH_fullHeight b_SH_fullHeight 2 (some .int) :: px_tw) ⟨1, 0, 0, 13⟩ (va_Pc [.ref o0] (px_B bs D px_cl (px_tys G) px_nw px_over M)) (px_Qi bs D px_cl (px_tys G) r M') 0 0 (fun q => bs ≤ q) := by
  refine px_of (by decide) (Nat.le_of_ble_eq_true rfl) ?_
  intro p e s m below meth c ls C0 hM hS hl
  obtain ⟨hx, hb, hr, hml, hown, hnm, hlocks, hts, hK, hN, hO⟩ := C0
  have hl : lv_has ls 2 [(0, .ref o0)] := hl
  unfold f_SH_fullHeight at hf
  refine lv_aload_n hx hb d_SH_fullHeight_0 rfl (lv_at hl 0 rfl) ?_
  obtain ⟨t1, h2, hf⟩ := px_bind hf
  refine px_rgr hx hb hts cl_SH hown hK hM 3 (by decide) (hts _ w_188) h2 d_SH_fullHeight_1 ?_
  obtain ⟨v3, h4, hf⟩ := px_bind hf
  refine px_rgiN hx hb hts cl_BO hown hK hM 2 (by decide) (hN _ n_275) h4 d_SH_fullHeight_4 ?_
  refine lv_iconst (v := 1) hx hb d_SH_fullHeight_7 (by decide) ?_
  refine lv_isub hx hb d_SH_fullHeight_8 ?_
  refine lv_iconst (v := 0) hx hb d_SH_fullHeight_9 (by decide) ?_
  obtain ⟨v5, h6, hf⟩ := px_bind hf
  refine va_mmax hx hb (by rw [hml]; exact hl.1.symm) hown (hts _ w_568) (hts _ w_569) (hts _ w_13) (hts _ w_570) (Nat.le_of_ble_eq_true rfl) (Nat.le_of_ble_eq_true rfl) (Nat.zero_le _) (Nat.zero_le _) d_SH_fullHeight_10 ?_
  rw [Option.some.inj h6]
  refine lv_istore_n (lv' := [(1, .int v5), (0, .ref o0)]) hx hb d_SH_fullHeight_13 rfl hl (by decide) rfl (fun ls hl => ?_)
  refine lv_aload_n hx hb d_SH_fullHeight_14 rfl (lv_at hl 1 rfl) ?_
  obtain ⟨t7, h8, hf⟩ := px_bind hf
  refine px_rgr hx hb hts cl_SH hown hK hM 3 (by decide) (hts _ w_188) h8 d_SH_fullHeight_15 ?_
  obtain ⟨v9, h10, hf⟩ := px_bind hf
  refine px_rgiN hx hb hts cl_BO hown hK hM 2 (by decide) (hN _ n_275) h10 d_SH_fullHeight_18 ?_
  refine lv_aload_n hx hb d_SH_fullHeight_21 rfl (lv_at hl 1 rfl) ?_
  obtain ⟨v11, h12, hf⟩ := px_bind hf
  refine px_rgi hx hb hts cl_SH hown hK hM 5 (by decide) (hts _ w_190) h12 d_SH_fullHeight_22 ?_
  refine lv_imul hx hb d_SH_fullHeight_25 ?_
  refine lv_iload_n hx hb d_SH_fullHeight_26 rfl (lv_at hl 0 rfl) ?_
  refine lv_aload_n hx hb d_SH_fullHeight_27 rfl (lv_at hl 1 rfl) ?_
  obtain ⟨v13, h14, hf⟩ := px_bind hf
  refine px_rgi hx hb hts cl_SH hown hK hM 7 (by decide) (hts _ w_192) h14 d_SH_fullHeight_28 ?_
  refine lv_imul hx hb d_SH_fullHeight_31 ?_
  refine lv_iadd hx hb d_SH_fullHeight_32 ?_
  refine lv_iconst (v := 2) hx hb d_SH_fullHeight_33 (by decide) ?_
  refine lv_aload_n hx hb d_SH_fullHeight_34 rfl (lv_at hl 1 rfl) ?_
  obtain ⟨v15, h16, hf⟩ := px_bind hf
  refine px_rgi hx hb hts cl_SH hown hK hM 6 (by decide) (hts _ w_191) h16 d_SH_fullHeight_35 ?_
  refine lv_imul hx hb d_SH_fullHeight_38 ?_
  refine lv_iadd hx hb d_SH_fullHeight_39 ?_
  obtain ⟨rfl, rfl⟩ := px_s2 hf
  exact px_iret hx hb hr hlocks hM hS d_SH_fullHeight_40
def f_SB_size (o0 : Nat) (x1 : Int32) (x2 : Int32) (x3 : Int32) (M : px_M) : Option (Int32 × px_M) :=
  (px_ob 0 M o0).bind fun _ =>
  (f_SB_isBoard o0 x1 M).bind fun (v3, M1) =>
  if v3 = 0 then
  some ((-1), M1)
  else
  (f_SB_isSpeed x3 M1).bind fun (v7, M5) =>
  if v7 = 0 then
  some ((-1), M5)
  else
  (px_gr 0 11 M5 o0).bind fun t9 =>
  (px_gr 0 8 M5 o0).bind fun t11 =>
  (px_ar 2 M5 t11 x1).bind fun t13 =>
  (px_gr 0 2 M5 o0).bind fun t15 =>
  (px_ob 7 M5 t9).bind fun _ =>
  (f_SH_lay t9 t13 t15 x3 M5).bind fun M17 =>
  if x2 = 0 then
  (px_gr 0 11 M17 o0).bind fun t20 =>
  (px_gi 7 8 M17 t20).bind fun v22 =>
  some (v22, M17)
  else if x2 = 1 then
  (px_gr 0 11 M17 o0).bind fun t25 =>
  (px_ob 7 M17 t25).bind fun _ =>
  (f_SH_fullHeight t25 M17).bind fun (v29, M27) =>
  some (v29, M27)
  else 
  some ((-1), M17)
set_option maxHeartbeats 4000000 in
set_option maxRecDepth 100000 in
theorem c_SB_size (l : Launch) (bs : Nat) (D : va_G) (G : Nat → ClassId) (o0 : Nat) (x1 : Int32) (x2 : Int32) (x3 : Int32) (M : px_M) {r : Int32} {M' : px_M} (hf : f_SB_size o0 x1 x2 x3 M = some (r, M')) : Met l y_SB_size (.code y_SB_size b_SB_size 4 (some .int) :: px_tw) ⟨5, 0, 0, 116⟩ (va_Pc [.ref o0, .int x1, .int x2, .int x3] (px_B bs D px_cl (px_tys G) px_nw px_over M)) (px_Qi bs D px_cl (px_tys G) r M') 0 0 (fun q => bs ≤ q) := by
  refine px_of (by decide) (Nat.le_of_ble_eq_true rfl) ?_
  intro p e s m below meth c ls C0 hM hS hl
  obtain ⟨hx, hb, hr, hml, hown, hnm, hlocks, hts, hK, hN, hO⟩ := C0
  have hl : lv_has ls 4 [(0, .ref o0), (1, .int x1), (2, .int x2), (3, .int x3)] := hl
  unfold f_SB_size at hf
  refine lv_aload_n hx hb d_SB_size_0 rfl (lv_at hl 0 rfl) ?_
  refine lv_iload_n hx hb d_SB_size_1 rfl (lv_at hl 1 rfl) ?_
  obtain ⟨_, h32, hf⟩ := px_bind hf
  obtain ⟨⟨v3, M1⟩, h2, hf⟩ := px_bind hf
  dsimp only at hf
  refine px_calli (va_runV (As := [.int x1]) (rest := []) ⟨hx, hb, hml, hown, hts⟩ (c_SB_isBoard l bs D G o0 x1 M h2) (cwV 1 hts (px_gV w_485 w_487 ws_SB_isBoard w_1 w_488) rfl rfl rfl (by decide +kernel) ⟨Nat.le_of_ble_eq_true rfl, Nat.le_of_ble_eq_true rfl⟩) (px_preV px_nwok hK hN hO hM h32 rfl) rfl rfl hl.1 rfl (lv_room (Nat.le_of_ble_eq_true rfl)) d_SB_size_2 ⟨Nat.le_of_ble_eq_true rfl, Nat.le_of_ble_eq_true rfl⟩) hS (fun H locs hM hS => ?_)
  refine lv_if_eq (tgt := 15) hx hb d_SB_size_5 (by decide) (fun c4 => ?_) (fun c4 => ?_)
  · have hf := px_ift hf c4
    refine lv_iconst (v := (-1)) hx hb d_SB_size_15 (by decide) ?_
    obtain ⟨rfl, rfl⟩ := px_s2 hf
    exact px_iret hx hb hr hlocks hM hS d_SB_size_16
  · have hf := px_iff hf c4
    refine lv_iload_n hx hb d_SB_size_8 rfl (lv_at hl 3 rfl) ?_
    obtain ⟨⟨v7, M5⟩, h6, hf⟩ := px_bind hf
    dsimp only at hf
    refine px_calli (va_runS (As := [.int x3]) (rest := []) ⟨hx, hb, hml, hown, hts⟩ (c_SB_isSpeed l bs D G x3 M1 h6) (cwS 1 hts (px_gS w_429 w_430 w_1 w_431) rfl rfl rfl (by decide +kernel) ⟨Nat.le_of_ble_eq_true rfl, Nat.le_of_ble_eq_true rfl⟩) (px_preS px_nwok hK hN hO hM) rfl rfl hl.1 rfl (lv_room (Nat.le_of_ble_eq_true rfl)) d_SB_size_9 ⟨Nat.le_of_ble_eq_true rfl, Nat.le_of_ble_eq_true rfl⟩) hS (fun H locs hM hS => ?_)
    refine lv_if_ne (tgt := 17) hx hb d_SB_size_12 (by decide) (fun c8 => ?_) (fun c8 => ?_)
    · have hf := px_iff hf c8
      refine lv_aload_n hx hb d_SB_size_17 rfl (lv_at hl 0 rfl) ?_
      obtain ⟨t9, h10, hf⟩ := px_bind hf
      refine px_rgr hx hb hts cl_SB hown hK hM 11 (by decide) (hts _ w_303) h10 d_SB_size_18 ?_
      refine lv_aload_n hx hb d_SB_size_21 rfl (lv_at hl 0 rfl) ?_
      obtain ⟨t11, h12, hf⟩ := px_bind hf
      refine px_rgr hx hb hts cl_SB hown hK hM 8 (by decide) (hts _ w_300) h12 d_SB_size_22 ?_
      refine lv_iload_n hx hb d_SB_size_25 rfl (lv_at hl 1 rfl) ?_
      obtain ⟨t13, h14, hf⟩ := px_bind hf
      refine px_rar hx hb hK hM 2 rfl h14 d_SB_size_26 ?_
      refine lv_aload_n hx hb d_SB_size_27 rfl (lv_at hl 0 rfl) ?_
      obtain ⟨t15, h16, hf⟩ := px_bind hf
      refine px_rgr hx hb hts cl_SB hown hK hM 2 (by decide) (hts _ w_294) h16 d_SB_size_28 ?_
      refine lv_iload_n hx hb d_SB_size_31 rfl (lv_at hl 3 rfl) ?_
      obtain ⟨_, h31, hf⟩ := px_bind hf
      obtain ⟨M17, h18, hf⟩ := px_bind hf
      refine px_callv (va_runV (As := [.ref t13, .ref t15, .int x3]) (rest := []) ⟨hx, hb, hml, hown, hts⟩ (c_SH_lay l bs D G t9 t13 t15 x3 M5 h18) (cwV 3 hts (px_gV w_554 w_555 w_556 w_8 w_557) rfl rfl rfl (by decide +kernel) ⟨Nat.le_of_ble_eq_true rfl, Nat.le_of_ble_eq_true rfl⟩) (px_preV px_nwok hK hN hO hM h31 rfl) rfl rfl hl.1 rfl (lv_room (Nat.le_of_ble_eq_true rfl)) d_SB_size_32 ⟨Nat.le_of_ble_eq_true rfl, Nat.le_of_ble_eq_true rfl⟩) hS (fun H locs hM hS => ?_)
      refine lv_iload_n hx hb d_SB_size_35 rfl (lv_at hl 2 rfl) ?_
      by_cases c19 : x2 = 0
      · have hf := px_ift hf c19
        refine lv_lookup (off := 28) (tgt := 64) hx hb d_SB_size_36 (by decide) (by rw [c19] <;> rfl) (by decide) ?_
        refine lv_aload_n hx hb d_SB_size_64 rfl (lv_at hl 0 rfl) ?_
        obtain ⟨t20, h21, hf⟩ := px_bind hf
        refine px_rgr hx hb hts cl_SB hown hK hM 11 (by decide) (hts _ w_303) h21 d_SB_size_65 ?_
        obtain ⟨v22, h23, hf⟩ := px_bind hf
        refine px_rgiN hx hb hts cl_SH hown hK hM 8 (by decide) (hN _ n_194) h23 d_SB_size_68 ?_
        obtain ⟨rfl, rfl⟩ := px_s2 hf
        exact px_iret hx hb hr hlocks hM hS d_SB_size_71
      · have hf := px_iff hf c19
        by_cases c24 : x2 = 1
        · have hf := px_ift hf c24
          refine lv_lookup (off := 36) (tgt := 72) hx hb d_SB_size_36 (by decide) (by rw [c24] <;> rfl) (by decide) ?_
          refine lv_aload_n hx hb d_SB_size_72 rfl (lv_at hl 0 rfl) ?_
          obtain ⟨t25, h26, hf⟩ := px_bind hf
          refine px_rgr hx hb hts cl_SB hown hK hM 11 (by decide) (hts _ w_303) h26 d_SB_size_73 ?_
          obtain ⟨_, h30, hf⟩ := px_bind hf
          obtain ⟨⟨v29, M27⟩, h28, hf⟩ := px_bind hf
          dsimp only at hf
          refine px_calli (va_runV (As := []) (rest := []) ⟨hx, hb, hml, hown, hts⟩ (c_SH_fullHeight l bs D G t25 M17 h28) (cwV 0 hts (px_gV w_571 w_572 w_573 w_8 w_574) rfl rfl rfl (by decide +kernel) ⟨Nat.le_of_ble_eq_true rfl, Nat.le_of_ble_eq_true rfl⟩) (px_preV px_nwok hK hN hO hM h30 rfl) rfl rfl hl.1 rfl (lv_room (Nat.le_of_ble_eq_true rfl)) d_SB_size_76 ⟨Nat.le_of_ble_eq_true rfl, Nat.le_of_ble_eq_true rfl⟩) hS (fun H locs hM hS => ?_)
          obtain ⟨rfl, rfl⟩ := px_s2 hf
          exact px_iret hx hb hr hlocks hM hS d_SB_size_79
        · have hf := px_iff hf c24
          refine lv_lookup (off := 44) (tgt := 80) hx hb d_SB_size_36 (by decide) (by rw [lv_osw c19 (by decide), lv_osw c24 (by decide)] <;> rfl) (by decide) ?_
          refine lv_iconst (v := (-1)) hx hb d_SB_size_80 (by decide) ?_
          obtain ⟨rfl, rfl⟩ := px_s2 hf
          exact px_iret hx hb hr hlocks hM hS d_SB_size_81
    · have hf := px_ift hf c8
      refine lv_iconst (v := (-1)) hx hb d_SB_size_15 (by decide) ?_
      obtain ⟨rfl, rfl⟩ := px_s2 hf
      exact px_iret hx hb hr hlocks hM hS d_SB_size_16
def f_SH_lineLeft (o0 : Nat) (x1 : Int32) (M : px_M) : Option (Int32 × px_M) :=
  (px_gi 7 8 M o0).bind fun v1 =>
  (px_gi 7 6 M o0).bind fun v3 =>
  (px_ob 7 M o0).bind fun _ =>
  (f_SH_lineWidth o0 x1 M).bind fun (v7, M5) =>
  (px_gi 7 6 M5 o0).bind fun v8 =>
  some (v8 + (((v1 - (2 * v3)) - v7) / 2), M5)
set_option maxHeartbeats 4000000 in
set_option maxRecDepth 100000 in
theorem c_SH_lineLeft (l : Launch) (bs : Nat) (D : va_G) (G : Nat → ClassId) (o0 : Nat) (x1 : Int32) (M : px_M) {r : Int32} {M' : px_M} (hf : f_SH_lineLeft o0 x1 M = some (r, M')) : Met l y_SH_lineLeft (.code y_SH_lineLeft b_SH_lineLeft 3 (some .int) :: px_tw) ⟨1, 0, 0, 21⟩ (va_Pc [.ref o0, .int x1] (px_B bs D px_cl (px_tys G) px_nw px_over M)) (px_Qi bs D px_cl (px_tys G) r M') 0 0 (fun q => bs ≤ q) := by
  refine px_of (by decide) (Nat.le_of_ble_eq_true rfl) ?_
  intro p e s m below meth c ls C0 hM hS hl
  obtain ⟨hx, hb, hr, hml, hown, hnm, hlocks, hts, hK, hN, hO⟩ := C0
  have hl : lv_has ls 3 [(0, .ref o0), (1, .int x1)] := hl
  unfold f_SH_lineLeft at hf
  refine lv_aload_n hx hb d_SH_lineLeft_0 rfl (lv_at hl 0 rfl) ?_
  obtain ⟨v1, h2, hf⟩ := px_bind hf
  refine px_rgi hx hb hts cl_SH hown hK hM 8 (by decide) (hts _ w_193) h2 d_SH_lineLeft_1 ?_
  refine lv_iconst (v := 2) hx hb d_SH_lineLeft_4 (by decide) ?_
  refine lv_aload_n hx hb d_SH_lineLeft_5 rfl (lv_at hl 0 rfl) ?_
  obtain ⟨v3, h4, hf⟩ := px_bind hf
  refine px_rgi hx hb hts cl_SH hown hK hM 6 (by decide) (hts _ w_191) h4 d_SH_lineLeft_6 ?_
  refine lv_imul hx hb d_SH_lineLeft_9 ?_
  refine lv_isub hx hb d_SH_lineLeft_10 ?_
  refine lv_aload_n hx hb d_SH_lineLeft_11 rfl (lv_at hl 0 rfl) ?_
  refine lv_iload_n hx hb d_SH_lineLeft_12 rfl (lv_at hl 1 rfl) ?_
  obtain ⟨_, h10, hf⟩ := px_bind hf
  obtain ⟨⟨v7, M5⟩, h6, hf⟩ := px_bind hf
  dsimp only at hf
  refine px_calli (va_runV (As := [.int x1]) (rest := [.int (v1 - (2 * v3))]) ⟨hx, hb, hml, hown, hts⟩ (c_SH_lineWidth l bs D G o0 x1 M h6) (cwV 1 hts (px_gV w_564 w_566 ws_SH_lineWidth w_8 w_567) rfl rfl rfl (by decide +kernel) ⟨Nat.le_of_ble_eq_true rfl, Nat.le_of_ble_eq_true rfl⟩) (px_preV px_nwok hK hN hO hM h10 rfl) rfl rfl hl.1 rfl (lv_room (Nat.le_of_ble_eq_true rfl)) d_SH_lineLeft_13 ⟨Nat.le_of_ble_eq_true rfl, Nat.le_of_ble_eq_true rfl⟩) hS (fun H locs hM hS => ?_)
  refine lv_isub hx hb d_SH_lineLeft_16 ?_
  refine lv_istore_n (lv' := [(2, .int ((v1 - (2 * v3)) - v7)), (0, .ref o0), (1, .int x1)]) hx hb d_SH_lineLeft_17 rfl hl (by decide) rfl (fun ls hl => ?_)
  refine lv_aload_n hx hb d_SH_lineLeft_18 rfl (lv_at hl 1 rfl) ?_
  obtain ⟨v8, h9, hf⟩ := px_bind hf
  refine px_rgi hx hb hts cl_SH hown hK hM 6 (by decide) (hts _ w_191) h9 d_SH_lineLeft_19 ?_
  refine lv_iload_n hx hb d_SH_lineLeft_22 rfl (lv_at hl 0 rfl) ?_
  refine lv_iconst (v := 2) hx hb d_SH_lineLeft_23 (by decide) ?_
  refine lv_idiv hx hb d_SH_lineLeft_24 (by decide) ?_
  refine lv_iadd hx hb d_SH_lineLeft_25 ?_
  obtain ⟨rfl, rfl⟩ := px_s2 hf
  exact px_iret hx hb hr hlocks hM hS d_SH_lineLeft_26
def f_SH_letterLeft (o0 : Nat) (x1 : Int32) (x2 : Int32) (M : px_M) : Option (Int32 × px_M) :=
  (px_ob 7 M o0).bind fun _ =>
  (f_SH_lineLeft o0 x1 M).bind fun (v3, M1) =>
  (px_gr 7 1 M1 o0).bind fun t4 =>
  (px_ob 7 M1 o0).bind fun _ =>
  (f_SH_nameOf o0 x1 M1).bind fun (t8, M6) =>
  (px_ob 4 M6 t4).bind fun _ =>
  (f_LE_startOf t4 t8 x2 M6).bind fun (v11, M9) =>
  (px_gi 7 4 M9 o0).bind fun v12 =>
  (px_gr 7 3 M9 o0).bind fun t14 =>
  (px_gr 10 1 M9 t14).bind fun t16 =>
  (px_ai 0 M9 t16 x1).bind fun v18 =>
  if v18 = 2 then
  some (v3 + (v11 * v12), M9)
  else
  (px_gi 7 5 M9 o0).bind fun v21 =>
  (px_gi 7 7 M9 o0).bind fun v23 =>
  some (((v3 + (v11 * v12)) + v21) + v23, M9)
set_option maxHeartbeats 4000000 in
set_option maxRecDepth 100000 in
theorem c_SH_letterLeft (l : Launch) (bs : Nat) (D : va_G) (G : Nat → ClassId) (o0 : Nat) (x1 : Int32) (x2 : Int32) (M : px_M) {r : Int32} {M' : px_M} (hf : f_SH_letterLeft o0 x1 x2 M = some (r, M')) : Met l y_SH_letterLeft (.code y_SH_letterLeft b_SH_letterLeft 4 (some .int) :: px_tw) ⟨3, 0, 0, 70⟩ (va_Pc [.ref o0, .int x1, .int x2] (px_B bs D px_cl (px_tys G) px_nw px_over M)) (px_Qi bs D px_cl (px_tys G) r M') 0 0 (fun q => bs ≤ q) := by
  refine px_of (by decide) (Nat.le_of_ble_eq_true rfl) ?_
  intro p e s m below meth c ls C0 hM hS hl
  obtain ⟨hx, hb, hr, hml, hown, hnm, hlocks, hts, hK, hN, hO⟩ := C0
  have hl : lv_has ls 4 [(0, .ref o0), (1, .int x1), (2, .int x2)] := hl
  unfold f_SH_letterLeft at hf
  refine lv_aload_n hx hb d_SH_letterLeft_0 rfl (lv_at hl 0 rfl) ?_
  refine lv_iload_n hx hb d_SH_letterLeft_1 rfl (lv_at hl 1 rfl) ?_
  obtain ⟨_, h27, hf⟩ := px_bind hf
  obtain ⟨⟨v3, M1⟩, h2, hf⟩ := px_bind hf
  dsimp only at hf
  refine px_calli (va_runV (As := [.int x1]) (rest := []) ⟨hx, hb, hml, hown, hts⟩ (c_SH_lineLeft l bs D G o0 x1 M h2) (cwV 1 hts (px_gV w_587 w_589 ws_SH_lineLeft w_8 w_590) rfl rfl rfl (by decide +kernel) ⟨Nat.le_of_ble_eq_true rfl, Nat.le_of_ble_eq_true rfl⟩) (px_preV px_nwok hK hN hO hM h27 rfl) rfl rfl hl.1 rfl (lv_room (Nat.le_of_ble_eq_true rfl)) d_SH_letterLeft_2 ⟨Nat.le_of_ble_eq_true rfl, Nat.le_of_ble_eq_true rfl⟩) hS (fun H locs hM hS => ?_)
  refine lv_aload_n hx hb d_SH_letterLeft_5 rfl (lv_at hl 0 rfl) ?_
  obtain ⟨t4, h5, hf⟩ := px_bind hf
  refine px_rgr hx hb hts cl_SH hown hK hM 1 (by decide) (hts _ w_186) h5 d_SH_letterLeft_6 ?_
  refine lv_aload_n hx hb d_SH_letterLeft_9 rfl (lv_at hl 0 rfl) ?_
  refine lv_iload_n hx hb d_SH_letterLeft_10 rfl (lv_at hl 1 rfl) ?_
  obtain ⟨_, h26, hf⟩ := px_bind hf
  obtain ⟨⟨t8, M6⟩, h7, hf⟩ := px_bind hf
  dsimp only at hf
  refine px_callr (va_runV (As := [.int x1]) (rest := [.ref t4, .int v3]) ⟨hx, hb, hml, hown, hts⟩ (c_SH_nameOf l bs D G o0 x1 M1 h7) (cwV 1 hts (px_gV w_559 w_561 ws_SH_nameOf w_8 w_562) rfl rfl rfl (by decide +kernel) ⟨Nat.le_of_ble_eq_true rfl, Nat.le_of_ble_eq_true rfl⟩) (px_preV px_nwok hK hN hO hM h26 rfl) rfl rfl hl.1 rfl (lv_room (Nat.le_of_ble_eq_true rfl)) d_SH_letterLeft_11 ⟨Nat.le_of_ble_eq_true rfl, Nat.le_of_ble_eq_true rfl⟩) hS (fun H locs hM hS => ?_)
  refine lv_iload_n hx hb d_SH_letterLeft_14 rfl (lv_at hl 2 rfl) ?_
  obtain ⟨_, h25, hf⟩ := px_bind hf
  obtain ⟨⟨v11, M9⟩, h10, hf⟩ := px_bind hf
  dsimp only at hf
  refine px_calli (va_runV (As := [.ref t8, .int x2]) (rest := [.int v3]) ⟨hx, hb, hml, hown, hts⟩ (c_LE_startOf l bs D G t4 t8 x2 M6 h10) (cwV 2 hts (px_gV w_595 w_449 w_450 w_5 w_451) rfl rfl rfl (by decide +kernel) ⟨Nat.le_of_ble_eq_true rfl, Nat.le_of_ble_eq_true rfl⟩) (px_preV px_nwok hK hN hO hM h25 rfl) rfl rfl hl.1 rfl (lv_room (Nat.le_of_ble_eq_true rfl)) d_SH_letterLeft_15 ⟨Nat.le_of_ble_eq_true rfl, Nat.le_of_ble_eq_true rfl⟩) hS (fun H locs hM hS => ?_)
  refine lv_aload_n hx hb d_SH_letterLeft_18 rfl (lv_at hl 0 rfl) ?_
  obtain ⟨v12, h13, hf⟩ := px_bind hf
  refine px_rgi hx hb hts cl_SH hown hK hM 4 (by decide) (hts _ w_189) h13 d_SH_letterLeft_19 ?_
  refine lv_imul hx hb d_SH_letterLeft_22 ?_
  refine lv_iadd hx hb d_SH_letterLeft_23 ?_
  refine lv_istore_n (lv' := [(3, .int (v3 + (v11 * v12))), (0, .ref o0), (1, .int x1), (2, .int x2)]) hx hb d_SH_letterLeft_24 rfl hl (by decide) rfl (fun ls hl => ?_)
  refine lv_aload_n hx hb d_SH_letterLeft_25 rfl (lv_at hl 1 rfl) ?_
  obtain ⟨t14, h15, hf⟩ := px_bind hf
  refine px_rgr hx hb hts cl_SH hown hK hM 3 (by decide) (hts _ w_188) h15 d_SH_letterLeft_26 ?_
  obtain ⟨t16, h17, hf⟩ := px_bind hf
  refine px_rgrN hx hb hts cl_BO hown hK hM 1 (by decide) (hN _ n_272) h17 d_SH_letterLeft_29 ?_
  refine lv_iload_n hx hb d_SH_letterLeft_32 rfl (lv_at hl 2 rfl) ?_
  obtain ⟨v18, h19, hf⟩ := px_bind hf
  refine px_rai hx hb hK hM 0 rfl h19 d_SH_letterLeft_33 ?_
  refine lv_iconst (v := 2) hx hb d_SH_letterLeft_34 (by decide) ?_
  refine lv_icmp_ne (tgt := 42) hx hb d_SH_letterLeft_35 (by decide) (fun c20 => ?_) (fun c20 => ?_)
  · have hf := px_iff hf c20
    refine lv_iload_n hx hb d_SH_letterLeft_42 rfl (lv_at hl 0 rfl) ?_
    refine lv_aload_n hx hb d_SH_letterLeft_43 rfl (lv_at hl 1 rfl) ?_
    obtain ⟨v21, h22, hf⟩ := px_bind hf
    refine px_rgi hx hb hts cl_SH hown hK hM 5 (by decide) (hts _ w_190) h22 d_SH_letterLeft_44 ?_
    refine lv_iadd hx hb d_SH_letterLeft_47 ?_
    refine lv_aload_n hx hb d_SH_letterLeft_48 rfl (lv_at hl 1 rfl) ?_
    obtain ⟨v23, h24, hf⟩ := px_bind hf
    refine px_rgi hx hb hts cl_SH hown hK hM 7 (by decide) (hts _ w_192) h24 d_SH_letterLeft_49 ?_
    refine lv_iadd hx hb d_SH_letterLeft_52 ?_
    obtain ⟨rfl, rfl⟩ := px_s2 hf
    exact px_iret hx hb hr hlocks hM hS d_SH_letterLeft_53
  · have hf := px_ift hf c20
    refine lv_iload_n hx hb d_SH_letterLeft_38 rfl (lv_at hl 0 rfl) ?_
    refine lv_goto (tgt := 53) hx hb d_SH_letterLeft_39 (by decide) ?_
    obtain ⟨rfl, rfl⟩ := px_s2 hf
    exact px_iret hx hb hr hlocks hM hS d_SH_letterLeft_53
def f_SH_arrowLeft (o0 : Nat) (x1 : Int32) (M : px_M) : Option (Int32 × px_M) :=
  (px_ob 7 M o0).bind fun _ =>
  (f_SH_lineLeft o0 x1 M).bind fun (v3, M1) =>
  (px_gr 7 3 M1 o0).bind fun t4 =>
  (px_gr 10 1 M1 t4).bind fun t6 =>
  (px_ai 0 M1 t6 x1).bind fun v8 =>
  if v8 = 2 then
  (px_gr 7 2 M1 o0).bind fun t11 =>
  (px_ai 0 M1 t11 x1).bind fun v13 =>
  (px_gi 7 7 M1 o0).bind fun v15 =>
  some ((v3 + v13) + v15, M1)
  else
  some (v3, M1)
set_option maxHeartbeats 4000000 in
set_option maxRecDepth 100000 in
theorem c_SH_arrowLeft (l : Launch) (bs : Nat) (D : va_G) (G : Nat → ClassId) (o0 : Nat) (x1 : Int32) (M : px_M) {r : Int32} {M' : px_M} (hf : f_SH_arrowLeft o0 x1 M = some (r, M')) : Met l y_SH_arrowLeft (.code y_SH_arrowLeft b_SH_arrowLeft 3 (some .int) :: px_tw) ⟨2, 0, 0, 43⟩ (va_Pc [.ref o0, .int x1] (px_B bs D px_cl (px_tys G) px_nw px_over M)) (px_Qi bs D px_cl (px_tys G) r M') 0 0 (fun q => bs ≤ q) := by
  refine px_of (by decide) (Nat.le_of_ble_eq_true rfl) ?_
  intro p e s m below meth c ls C0 hM hS hl
  obtain ⟨hx, hb, hr, hml, hown, hnm, hlocks, hts, hK, hN, hO⟩ := C0
  have hl : lv_has ls 3 [(0, .ref o0), (1, .int x1)] := hl
  unfold f_SH_arrowLeft at hf
  refine lv_aload_n hx hb d_SH_arrowLeft_0 rfl (lv_at hl 0 rfl) ?_
  refine lv_iload_n hx hb d_SH_arrowLeft_1 rfl (lv_at hl 1 rfl) ?_
  obtain ⟨_, h17, hf⟩ := px_bind hf
  obtain ⟨⟨v3, M1⟩, h2, hf⟩ := px_bind hf
  dsimp only at hf
  refine px_calli (va_runV (As := [.int x1]) (rest := []) ⟨hx, hb, hml, hown, hts⟩ (c_SH_lineLeft l bs D G o0 x1 M h2) (cwV 1 hts (px_gV w_587 w_589 ws_SH_lineLeft w_8 w_590) rfl rfl rfl (by decide +kernel) ⟨Nat.le_of_ble_eq_true rfl, Nat.le_of_ble_eq_true rfl⟩) (px_preV px_nwok hK hN hO hM h17 rfl) rfl rfl hl.1 rfl (lv_room (Nat.le_of_ble_eq_true rfl)) d_SH_arrowLeft_2 ⟨Nat.le_of_ble_eq_true rfl, Nat.le_of_ble_eq_true rfl⟩) hS (fun H locs hM hS => ?_)
  refine lv_istore_n (lv' := [(2, .int v3), (0, .ref o0), (1, .int x1)]) hx hb d_SH_arrowLeft_5 rfl hl (by decide) rfl (fun ls hl => ?_)
  refine lv_aload_n hx hb d_SH_arrowLeft_6 rfl (lv_at hl 1 rfl) ?_
  obtain ⟨t4, h5, hf⟩ := px_bind hf
  refine px_rgr hx hb hts cl_SH hown hK hM 3 (by decide) (hts _ w_188) h5 d_SH_arrowLeft_7 ?_
  obtain ⟨t6, h7, hf⟩ := px_bind hf
  refine px_rgrN hx hb hts cl_BO hown hK hM 1 (by decide) (hN _ n_272) h7 d_SH_arrowLeft_10 ?_
  refine lv_iload_n hx hb d_SH_arrowLeft_13 rfl (lv_at hl 2 rfl) ?_
  obtain ⟨v8, h9, hf⟩ := px_bind hf
  refine px_rai hx hb hK hM 0 rfl h9 d_SH_arrowLeft_14 ?_
  refine lv_iconst (v := 2) hx hb d_SH_arrowLeft_15 (by decide) ?_
  refine lv_icmp_ne (tgt := 35) hx hb d_SH_arrowLeft_16 (by decide) (fun c10 => ?_) (fun c10 => ?_)
  · have hf := px_iff hf c10
    refine lv_iload_n hx hb d_SH_arrowLeft_35 rfl (lv_at hl 0 rfl) ?_
    obtain ⟨rfl, rfl⟩ := px_s2 hf
    exact px_iret hx hb hr hlocks hM hS d_SH_arrowLeft_36
  · have hf := px_ift hf c10
    refine lv_iload_n hx hb d_SH_arrowLeft_19 rfl (lv_at hl 0 rfl) ?_
    refine lv_aload_n hx hb d_SH_arrowLeft_20 rfl (lv_at hl 1 rfl) ?_
    obtain ⟨t11, h12, hf⟩ := px_bind hf
    refine px_rgr hx hb hts cl_SH hown hK hM 2 (by decide) (hts _ w_187) h12 d_SH_arrowLeft_21 ?_
    refine lv_iload_n hx hb d_SH_arrowLeft_24 rfl (lv_at hl 2 rfl) ?_
    obtain ⟨v13, h14, hf⟩ := px_bind hf
    refine px_rai hx hb hK hM 0 rfl h14 d_SH_arrowLeft_25 ?_
    refine lv_iadd hx hb d_SH_arrowLeft_26 ?_
    refine lv_aload_n hx hb d_SH_arrowLeft_27 rfl (lv_at hl 1 rfl) ?_
    obtain ⟨v15, h16, hf⟩ := px_bind hf
    refine px_rgi hx hb hts cl_SH hown hK hM 7 (by decide) (hts _ w_192) h16 d_SH_arrowLeft_28 ?_
    refine lv_iadd hx hb d_SH_arrowLeft_31 ?_
    refine lv_goto (tgt := 36) hx hb d_SH_arrowLeft_32 (by decide) ?_
    obtain ⟨rfl, rfl⟩ := px_s2 hf
    exact px_iret hx hb hr hlocks hM hS d_SH_arrowLeft_36
