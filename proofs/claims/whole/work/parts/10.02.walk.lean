def f_NA_take_L10 : Nat → Nat → Nat → Int32 → px_M → Option ((Unit) × px_M)
  | 0, _, _, _, _ => none
  | n + 1, o0, o1, x2, M =>
    (px_gi 9 1 M o0).bind fun v5 =>
    if v5 ≤ x2 then
    some ((), M)
    else
    (px_gr 9 0 M o0).bind fun t8 =>
    (px_ob 1 M o1).bind fun _ =>
    (f_TX_signAt o1 x2 M).bind fun (v12, M10) =>
    (px_si 0 M10 t8 x2 v12).bind fun M13 =>
    f_NA_take_L10 n o0 o1 (x2 + 1) M13
set_option maxHeartbeats 4000000 in
set_option maxRecDepth 100000 in
theorem lp_NA_take_L10 {p : Program} {l : Launch} {e : Env} {s : State} {m : MethodId} {args : Array Value} {below : List Frame} {meth : Method} {c : Code} {bs : Nat} {D : va_G} {G : Nat → ClassId} {Q : State → Prop} (C0 : px_At p s m meth c y_NA_take b_NA_take 3 none args D px_cl (px_tys G) px_nw px_over) (x : Unit) (M' : px_M) (o0 : Nat) (o1 : Nat) (kx : ∀ (H : Heap) (locs : List Loc) (ls : Array Slot), px_W bs D px_cl (px_tys G) M' H → va_S (fun q => bs ≤ q) s.heap H locs → lv_has ls 3 [] → W p l e ⟨1, 0, 0, 21⟩ s m args below meth c H locs 0 0 Q (F0 m 35 ls []))  : ∀ (n : Nat) (x2 : Int32) (M : px_M), f_NA_take_L10 n o0 o1 x2 M = some (x, M') → ∀ (H : Heap) (locs : List Loc) (ls : Array Slot), px_W bs D px_cl (px_tys G) M H → va_S (fun q => bs ≤ q) s.heap H locs → lv_has ls 3 [(0, .ref o0), (1, .ref o1), (2, .int x2)] → W p l e ⟨1, 0, 0, 21⟩ s m args below meth c H locs 0 0 Q (F0 m 10 ls []) := by
  obtain ⟨hx, hb, hr, hml, hown, hnm, hlocks, hts, hK, hN, hO⟩ := C0
  intro n
  induction n with
  | zero => intro x2 M hf; cases hf
  | succ n ih =>
    intro x2 M hf H locs ls hM hS hl
    unfold f_NA_take_L10 at hf
    refine lv_iload_n hx hb d_NA_take_10 rfl (lv_at hl 2 rfl) ?_
    refine lv_aload_n hx hb d_NA_take_11 rfl (lv_at hl 0 rfl) ?_
    obtain ⟨v5, h6, hf⟩ := px_bind hf
    refine px_rgi hx hb hts cl_NA hown hK hM 1 (by decide) (hts _ w_248) h6 d_NA_take_12 ?_
    refine lv_icmp_ge (tgt := 35) hx hb d_NA_take_15 (by decide) (fun c7 => ?_) (fun c7 => ?_)
    · have hf := px_ift hf c7
      obtain ⟨rfl, rfl⟩ := px_s2 hf
      exact kx _ _ _ hM hS (lv_sub hl [] rfl)
    · have hf := px_iff hf c7
      refine lv_aload_n hx hb d_NA_take_18 rfl (lv_at hl 0 rfl) ?_
      obtain ⟨t8, h9, hf⟩ := px_bind hf
      refine px_rgr hx hb hts cl_NA hown hK hM 0 (by decide) (hts _ w_245) h9 d_NA_take_19 ?_
      refine lv_iload_n hx hb d_NA_take_22 rfl (lv_at hl 2 rfl) ?_
      refine lv_aload_n hx hb d_NA_take_23 rfl (lv_at hl 1 rfl) ?_
      refine lv_iload_n hx hb d_NA_take_24 rfl (lv_at hl 2 rfl) ?_
      obtain ⟨_, h15, hf⟩ := px_bind hf
      obtain ⟨⟨v12, M10⟩, h11, hf⟩ := px_bind hf
      dsimp only at hf
      refine px_calli (va_runV (As := [.int x2]) (rest := [.int x2, .ref t8]) ⟨hx, hb, hml, hown, hts⟩ (c_TX_signAt l bs D G o1 x2 M h11) (cwV 1 hts (px_gV w_404 w_364 w_365 w_2 w_366) rfl rfl rfl (by decide +kernel) ⟨Nat.le_of_ble_eq_true rfl, Nat.le_of_ble_eq_true rfl⟩) (px_preV px_nwok hK hN hO hM h15 rfl) rfl rfl hl.1 rfl (lv_room (Nat.le_of_ble_eq_true rfl)) d_NA_take_25 ⟨Nat.le_of_ble_eq_true rfl, Nat.le_of_ble_eq_true rfl⟩) hS (fun H locs hM hS => ?_)
      obtain ⟨M13, h14, hf⟩ := px_bind hf
      refine px_rsi hx hb hK hM hS 0 rfl h14 d_NA_take_28 (fun H locs hM hS => ?_)
      refine lv_iinc (v := x2 + 1) (lv' := [(2, .int (x2 + 1)), (0, .ref o0), (1, .ref o1)]) hx hb d_NA_take_29 hl (k := 2) rfl (by rfl) (by decide) rfl (fun ls hl => ?_)
      refine lv_goto (tgt := 10) hx hb d_NA_take_32 (by decide) ?_
      exact ih (x2 + 1) M13 hf _ _ _ hM hS (lv_sub hl [1, 2, 0] rfl)
def f_NA_take (o0 : Nat) (o1 : Nat) (M : px_M) : Option (px_M) :=
  (px_gi 1 1 M o1).bind fun v1 =>
  (px_pt 9 1 M o0 (.int v1)).bind fun M3 =>
  (f_NA_take_L10 px_fuel o0 o1 0 M3).bind fun (_, M16) =>
  some M16
set_option maxHeartbeats 4000000 in
set_option maxRecDepth 100000 in
theorem c_NA_take (l : Launch) (bs : Nat) (D : va_G) (G : Nat → ClassId) (o0 : Nat) (o1 : Nat) (M : px_M) {M' : px_M} (hf : f_NA_take o0 o1 M = some M') : Met l y_NA_take (.code y_NA_take b_NA_take 3 none :: px_tw) ⟨1, 0, 0, 21⟩ (va_Pc [.ref o0, .ref o1] (px_B bs D px_cl (px_tys G) px_nw px_over M)) (px_Qv bs D px_cl (px_tys G) M') 0 0 (fun q => bs ≤ q) := by
  refine px_of (by decide) (Nat.le_of_ble_eq_true rfl) ?_
  intro p e s m below meth c ls C0 hM hS hl
  obtain ⟨hx, hb, hr, hml, hown, hnm, hlocks, hts, hK, hN, hO⟩ := C0
  have hl : lv_has ls 3 [(0, .ref o0), (1, .ref o1)] := hl
  unfold f_NA_take at hf
  refine lv_aload_n hx hb d_NA_take_0 rfl (lv_at hl 0 rfl) ?_
  refine lv_aload_n hx hb d_NA_take_1 rfl (lv_at hl 1 rfl) ?_
  obtain ⟨v1, h2, hf⟩ := px_bind hf
  refine px_rgiN hx hb hts cl_TX hown hK hM 1 (by decide) (hN _ n_30) h2 d_NA_take_2 ?_
  obtain ⟨M3, h4, hf⟩ := px_bind hf
  refine px_rpt hx hb hts cl_NA hown hK hM hS 1 (by decide) (hts _ w_248) rfl rfl rfl h4 d_NA_take_5 (fun H locs hM hS => ?_)
  refine lv_iconst (v := 0) hx hb d_NA_take_8 (by decide) ?_
  refine lv_istore_n (lv' := [(2, .int 0), (0, .ref o0), (1, .ref o1)]) hx hb d_NA_take_9 rfl hl (by decide) rfl (fun ls hl => ?_)
  obtain ⟨⟨_, M16⟩, h17, hf⟩ := px_bind hf
  dsimp only at hf
  refine lp_NA_take_L10 ⟨hx, hb, hr, hml, hown, hnm, hlocks, hts, hK, hN, hO⟩ _ M16 o0 o1 (fun H locs ls hM hS hl => ?_) px_fuel 0 M3 h17 _ _ _ hM hS (lv_sub hl [1, 2, 0] rfl)
  try dsimp only at hl
  obtain rfl := px_s1 hf
  exact px_vret hx hb hr hlocks hM hS d_NA_take_35
def f_SB_name (o0 : Nat) (M : px_M) : Option (Int32 × px_M) :=
  (px_gr 0 0 M o0).bind fun t1 =>
  (px_gi 1 1 M t1).bind fun v3 =>
  if v3 < 1 then
  (px_gr 0 0 M o0).bind fun t7 =>
  (px_ob 1 M t7).bind fun _ =>
  (f_TX_clear t7 M).bind fun M9 =>
  some ((-1), M9)
  else
  (px_gr 0 0 M o0).bind fun t12 =>
  (px_gi 1 1 M t12).bind fun v14 =>
  if 12 < v14 then
  (px_gr 0 0 M o0).bind fun t18 =>
  (px_ob 1 M t18).bind fun _ =>
  (f_TX_clear t18 M).bind fun M20 =>
  some ((-1), M20)
  else
  (px_gi 0 6 M o0).bind fun v23 =>
  if 10 ≤ v23 then
  (px_gr 0 0 M o0).bind fun t27 =>
  (px_ob 1 M t27).bind fun _ =>
  (f_TX_clear t27 M).bind fun M29 =>
  some ((-1), M29)
  else
  (px_gi 0 6 M o0).bind fun v33 =>
  (px_gr 0 5 M o0).bind fun t35 =>
  (px_ar 1 M t35 v33).bind fun t37 =>
  (px_gr 0 0 M o0).bind fun t39 =>
  (px_ob 9 M t37).bind fun _ =>
  (f_NA_take t37 t39 M).bind fun M41 =>
  (px_gi 0 6 M41 o0).bind fun v43 =>
  (px_pt 0 6 M41 o0 (.int (v43 + 1))).bind fun M45 =>
  (px_gr 0 0 M45 o0).bind fun t47 =>
  (px_ob 1 M45 t47).bind fun _ =>
  (f_TX_clear t47 M45).bind fun M49 =>
  some (v33, M49)
set_option maxHeartbeats 4000000 in
set_option maxRecDepth 100000 in
theorem c_SB_name (l : Launch) (bs : Nat) (D : va_G) (G : Nat → ClassId) (o0 : Nat) (M : px_M) {r : Int32} {M' : px_M} (hf : f_SB_name o0 M = some (r, M')) : Met l y_SB_name (.code y_SB_name b_SB_name 3 (some .int) :: px_tw) ⟨2, 0, 0, 43⟩ (va_Pc [.ref o0] (px_B bs D px_cl (px_tys G) px_nw px_over M)) (px_Qi bs D px_cl (px_tys G) r M') 0 0 (fun q => bs ≤ q) := by
  refine px_of (by decide) (Nat.le_of_ble_eq_true rfl) ?_
  intro p e s m below meth c ls C0 hM hS hl
  obtain ⟨hx, hb, hr, hml, hown, hnm, hlocks, hts, hK, hN, hO⟩ := C0
  have hl : lv_has ls 3 [(0, .ref o0)] := hl
  unfold f_SB_name at hf
  refine lv_aload_n hx hb d_SB_name_0 rfl (lv_at hl 0 rfl) ?_
  obtain ⟨t1, h2, hf⟩ := px_bind hf
  refine px_rgr hx hb hts cl_SB hown hK hM 0 (by decide) (hts _ w_292) h2 d_SB_name_1 ?_
  obtain ⟨v3, h4, hf⟩ := px_bind hf
  refine px_rgiN hx hb hts cl_TX hown hK hM 1 (by decide) (hN _ n_31) h4 d_SB_name_4 ?_
  refine lv_iconst (v := 1) hx hb d_SB_name_7 (by decide) ?_
  refine lv_icmp_lt (tgt := 36) hx hb d_SB_name_8 (by decide) (fun c5 => ?_) (fun c5 => ?_)
  · have hf := px_ift hf c5
    refine lv_iconst (v := 0) hx hb d_SB_name_36 (by decide) ?_
    refine lv_istore_n (lv' := [(1, .int 0), (0, .ref o0)]) hx hb d_SB_name_37 rfl hl (by decide) rfl (fun ls hl => ?_)
    refine lv_iconst (v := (-1)) hx hb d_SB_name_38 (by decide) ?_
    refine lv_istore_n (lv' := [(2, .int ((-1))), (1, .int 0), (0, .ref o0)]) hx hb d_SB_name_39 rfl hl (by decide) rfl (fun ls hl => ?_)
    refine lv_iload_n hx hb d_SB_name_40 rfl (lv_at hl 1 rfl) ?_
    refine lv_if_eq (tgt := 72) hx hb d_SB_name_41 (by decide) (fun c6 => ?_) (fun c6 => False.elim (by revert c6; decide))
    refine lv_aload_n hx hb d_SB_name_72 rfl (lv_at hl 2 rfl) ?_
    obtain ⟨t7, h8, hf⟩ := px_bind hf
    refine px_rgr hx hb hts cl_SB hown hK hM 0 (by decide) (hts _ w_292) h8 d_SB_name_73 ?_
    obtain ⟨_, h11, hf⟩ := px_bind hf
    obtain ⟨M9, h10, hf⟩ := px_bind hf
    refine px_callv (va_runV (As := []) (rest := []) ⟨hx, hb, hml, hown, hts⟩ (c_TX_clear l bs D G t7 M h10) (cwV 0 hts (px_gV w_392 w_393 w_394 w_2 w_395) rfl rfl rfl (by decide +kernel) ⟨Nat.le_of_ble_eq_true rfl, Nat.le_of_ble_eq_true rfl⟩) (px_preV px_nwok hK hN hO hM h11 rfl) rfl rfl hl.1 rfl (lv_room (Nat.le_of_ble_eq_true rfl)) d_SB_name_76 ⟨Nat.le_of_ble_eq_true rfl, Nat.le_of_ble_eq_true rfl⟩) hS (fun H locs hM hS => ?_)
    refine lv_iload_n hx hb d_SB_name_79 rfl (lv_at hl 0 rfl) ?_
    obtain ⟨rfl, rfl⟩ := px_s2 hf
    exact px_iret hx hb hr hlocks hM hS d_SB_name_80
  · have hf := px_iff hf c5
    refine lv_aload_n hx hb d_SB_name_11 rfl (lv_at hl 0 rfl) ?_
    obtain ⟨t12, h13, hf⟩ := px_bind hf
    refine px_rgr hx hb hts cl_SB hown hK hM 0 (by decide) (hts _ w_292) h13 d_SB_name_12 ?_
    obtain ⟨v14, h15, hf⟩ := px_bind hf
    refine px_rgiN hx hb hts cl_TX hown hK hM 1 (by decide) (hN _ n_31) h15 d_SB_name_15 ?_
    refine lv_bipush (v := 12) hx hb d_SB_name_18 (by decide) ?_
    refine lv_icmp_gt (tgt := 36) hx hb d_SB_name_20 (by decide) (fun c16 => ?_) (fun c16 => ?_)
    · have hf := px_ift hf c16
      refine lv_iconst (v := 0) hx hb d_SB_name_36 (by decide) ?_
      refine lv_istore_n (lv' := [(1, .int 0), (0, .ref o0)]) hx hb d_SB_name_37 rfl hl (by decide) rfl (fun ls hl => ?_)
      refine lv_iconst (v := (-1)) hx hb d_SB_name_38 (by decide) ?_
      refine lv_istore_n (lv' := [(2, .int ((-1))), (1, .int 0), (0, .ref o0)]) hx hb d_SB_name_39 rfl hl (by decide) rfl (fun ls hl => ?_)
      refine lv_iload_n hx hb d_SB_name_40 rfl (lv_at hl 1 rfl) ?_
      refine lv_if_eq (tgt := 72) hx hb d_SB_name_41 (by decide) (fun c17 => ?_) (fun c17 => False.elim (by revert c17; decide))
      refine lv_aload_n hx hb d_SB_name_72 rfl (lv_at hl 2 rfl) ?_
      obtain ⟨t18, h19, hf⟩ := px_bind hf
      refine px_rgr hx hb hts cl_SB hown hK hM 0 (by decide) (hts _ w_292) h19 d_SB_name_73 ?_
      obtain ⟨_, h22, hf⟩ := px_bind hf
      obtain ⟨M20, h21, hf⟩ := px_bind hf
      refine px_callv (va_runV (As := []) (rest := []) ⟨hx, hb, hml, hown, hts⟩ (c_TX_clear l bs D G t18 M h21) (cwV 0 hts (px_gV w_392 w_393 w_394 w_2 w_395) rfl rfl rfl (by decide +kernel) ⟨Nat.le_of_ble_eq_true rfl, Nat.le_of_ble_eq_true rfl⟩) (px_preV px_nwok hK hN hO hM h22 rfl) rfl rfl hl.1 rfl (lv_room (Nat.le_of_ble_eq_true rfl)) d_SB_name_76 ⟨Nat.le_of_ble_eq_true rfl, Nat.le_of_ble_eq_true rfl⟩) hS (fun H locs hM hS => ?_)
      refine lv_iload_n hx hb d_SB_name_79 rfl (lv_at hl 0 rfl) ?_
      obtain ⟨rfl, rfl⟩ := px_s2 hf
      exact px_iret hx hb hr hlocks hM hS d_SB_name_80
    · have hf := px_iff hf c16
      refine lv_aload_n hx hb d_SB_name_23 rfl (lv_at hl 0 rfl) ?_
      obtain ⟨v23, h24, hf⟩ := px_bind hf
      refine px_rgi hx hb hts cl_SB hown hK hM 6 (by decide) (hts _ w_298) h24 d_SB_name_24 ?_
      refine lv_bipush (v := 10) hx hb d_SB_name_27 (by decide) ?_
      refine lv_icmp_ge (tgt := 36) hx hb d_SB_name_29 (by decide) (fun c25 => ?_) (fun c25 => ?_)
      · have hf := px_ift hf c25
        refine lv_iconst (v := 0) hx hb d_SB_name_36 (by decide) ?_
        refine lv_istore_n (lv' := [(1, .int 0), (0, .ref o0)]) hx hb d_SB_name_37 rfl hl (by decide) rfl (fun ls hl => ?_)
        refine lv_iconst (v := (-1)) hx hb d_SB_name_38 (by decide) ?_
        refine lv_istore_n (lv' := [(2, .int ((-1))), (1, .int 0), (0, .ref o0)]) hx hb d_SB_name_39 rfl hl (by decide) rfl (fun ls hl => ?_)
        refine lv_iload_n hx hb d_SB_name_40 rfl (lv_at hl 1 rfl) ?_
        refine lv_if_eq (tgt := 72) hx hb d_SB_name_41 (by decide) (fun c26 => ?_) (fun c26 => False.elim (by revert c26; decide))
        refine lv_aload_n hx hb d_SB_name_72 rfl (lv_at hl 2 rfl) ?_
        obtain ⟨t27, h28, hf⟩ := px_bind hf
        refine px_rgr hx hb hts cl_SB hown hK hM 0 (by decide) (hts _ w_292) h28 d_SB_name_73 ?_
        obtain ⟨_, h31, hf⟩ := px_bind hf
        obtain ⟨M29, h30, hf⟩ := px_bind hf
        refine px_callv (va_runV (As := []) (rest := []) ⟨hx, hb, hml, hown, hts⟩ (c_TX_clear l bs D G t27 M h30) (cwV 0 hts (px_gV w_392 w_393 w_394 w_2 w_395) rfl rfl rfl (by decide +kernel) ⟨Nat.le_of_ble_eq_true rfl, Nat.le_of_ble_eq_true rfl⟩) (px_preV px_nwok hK hN hO hM h31 rfl) rfl rfl hl.1 rfl (lv_room (Nat.le_of_ble_eq_true rfl)) d_SB_name_76 ⟨Nat.le_of_ble_eq_true rfl, Nat.le_of_ble_eq_true rfl⟩) hS (fun H locs hM hS => ?_)
        refine lv_iload_n hx hb d_SB_name_79 rfl (lv_at hl 0 rfl) ?_
        obtain ⟨rfl, rfl⟩ := px_s2 hf
        exact px_iret hx hb hr hlocks hM hS d_SB_name_80
      · have hf := px_iff hf c25
        refine lv_iconst (v := 1) hx hb d_SB_name_32 (by decide) ?_
        refine lv_goto (tgt := 37) hx hb d_SB_name_33 (by decide) ?_
        refine lv_istore_n (lv' := [(1, .int 1), (0, .ref o0)]) hx hb d_SB_name_37 rfl hl (by decide) rfl (fun ls hl => ?_)
        refine lv_iconst (v := (-1)) hx hb d_SB_name_38 (by decide) ?_
        refine lv_istore_n (lv' := [(2, .int ((-1))), (1, .int 1), (0, .ref o0)]) hx hb d_SB_name_39 rfl hl (by decide) rfl (fun ls hl => ?_)
        refine lv_iload_n hx hb d_SB_name_40 rfl (lv_at hl 1 rfl) ?_
        refine lv_if_eq (tgt := 72) hx hb d_SB_name_41 (by decide) (fun c32 => False.elim (by revert c32; decide)) (fun c32 => ?_)
        refine lv_aload_n hx hb d_SB_name_44 rfl (lv_at hl 2 rfl) ?_
        obtain ⟨v33, h34, hf⟩ := px_bind hf
        refine px_rgi hx hb hts cl_SB hown hK hM 6 (by decide) (hts _ w_298) h34 d_SB_name_45 ?_
        refine lv_istore_n (lv' := [(2, .int v33), (1, .int 1), (0, .ref o0)]) hx hb d_SB_name_48 rfl hl (by decide) rfl (fun ls hl => ?_)
        refine lv_aload_n hx hb d_SB_name_49 rfl (lv_at hl 2 rfl) ?_
        obtain ⟨t35, h36, hf⟩ := px_bind hf
        refine px_rgr hx hb hts cl_SB hown hK hM 5 (by decide) (hts _ w_297) h36 d_SB_name_50 ?_
        refine lv_iload_n hx hb d_SB_name_53 rfl (lv_at hl 0 rfl) ?_
        obtain ⟨t37, h38, hf⟩ := px_bind hf
        refine px_rar hx hb hK hM 1 rfl h38 d_SB_name_54 ?_
        refine lv_aload_n hx hb d_SB_name_55 rfl (lv_at hl 2 rfl) ?_
        obtain ⟨t39, h40, hf⟩ := px_bind hf
        refine px_rgr hx hb hts cl_SB hown hK hM 0 (by decide) (hts _ w_292) h40 d_SB_name_56 ?_
        obtain ⟨_, h52, hf⟩ := px_bind hf
        obtain ⟨M41, h42, hf⟩ := px_bind hf
        refine px_callv (va_runV (As := [.ref t39]) (rest := []) ⟨hx, hb, hml, hown, hts⟩ (c_NA_take l bs D G t37 t39 M h42) (cwV 1 hts (px_gV w_400 w_401 w_402 w_10 w_403) rfl rfl rfl (by decide +kernel) ⟨Nat.le_of_ble_eq_true rfl, Nat.le_of_ble_eq_true rfl⟩) (px_preV px_nwok hK hN hO hM h52 rfl) rfl rfl hl.1 rfl (lv_room (Nat.le_of_ble_eq_true rfl)) d_SB_name_59 ⟨Nat.le_of_ble_eq_true rfl, Nat.le_of_ble_eq_true rfl⟩) hS (fun H locs hM hS => ?_)
        refine lv_aload_n hx hb d_SB_name_62 rfl (lv_at hl 2 rfl) ?_
        refine lv_dup hx hb d_SB_name_63 rfl ?_
        obtain ⟨v43, h44, hf⟩ := px_bind hf
        refine px_rgi hx hb hts cl_SB hown hK hM 6 (by decide) (hts _ w_298) h44 d_SB_name_64 ?_
        refine lv_iconst (v := 1) hx hb d_SB_name_67 (by decide) ?_
        refine lv_iadd hx hb d_SB_name_68 ?_
        obtain ⟨M45, h46, hf⟩ := px_bind hf
        refine px_rpt hx hb hts cl_SB hown hK hM hS 6 (by decide) (hts _ w_298) rfl rfl rfl h46 d_SB_name_69 (fun H locs hM hS => ?_)
        refine lv_aload_n hx hb d_SB_name_72 rfl (lv_at hl 2 rfl) ?_
        obtain ⟨t47, h48, hf⟩ := px_bind hf
        refine px_rgr hx hb hts cl_SB hown hK hM 0 (by decide) (hts _ w_292) h48 d_SB_name_73 ?_
        obtain ⟨_, h51, hf⟩ := px_bind hf
        obtain ⟨M49, h50, hf⟩ := px_bind hf
        refine px_callv (va_runV (As := []) (rest := []) ⟨hx, hb, hml, hown, hts⟩ (c_TX_clear l bs D G t47 M45 h50) (cwV 0 hts (px_gV w_392 w_393 w_394 w_2 w_395) rfl rfl rfl (by decide +kernel) ⟨Nat.le_of_ble_eq_true rfl, Nat.le_of_ble_eq_true rfl⟩) (px_preV px_nwok hK hN hO hM h51 rfl) rfl rfl hl.1 rfl (lv_room (Nat.le_of_ble_eq_true rfl)) d_SB_name_76 ⟨Nat.le_of_ble_eq_true rfl, Nat.le_of_ble_eq_true rfl⟩) hS (fun H locs hM hS => ?_)
        refine lv_iload_n hx hb d_SB_name_79 rfl (lv_at hl 0 rfl) ?_
        obtain ⟨rfl, rfl⟩ := px_s2 hf
        exact px_iret hx hb hr hlocks hM hS d_SB_name_80
def f_LE_setWidth (o0 : Nat) (x1 : Int32) (x2 : Int32) (M : px_M) : Option (px_M) :=
  (px_gr 4 0 M o0).bind fun t1 =>
  (px_si 0 M t1 (x1 - 32) x2).bind fun M3 =>
  some M3
set_option maxHeartbeats 4000000 in
set_option maxRecDepth 100000 in
theorem c_LE_setWidth (l : Launch) (bs : Nat) (D : va_G) (G : Nat → ClassId) (o0 : Nat) (x1 : Int32) (x2 : Int32) (M : px_M) {M' : px_M} (hf : f_LE_setWidth o0 x1 x2 M = some M') : Met l y_LE_setWidth (.code y_LE_setWidth b_LE_setWidth 3 none :: px_tw) ⟨0, 0, 0, 0⟩ (va_Pc [.ref o0, .int x1, .int x2] (px_B bs D px_cl (px_tys G) px_nw px_over M)) (px_Qv bs D px_cl (px_tys G) M') 0 0 (fun q => bs ≤ q) := by
  refine px_of (by decide) (Nat.le_of_ble_eq_true rfl) ?_
  intro p e s m below meth c ls C0 hM hS hl
  obtain ⟨hx, hb, hr, hml, hown, hnm, hlocks, hts, hK, hN, hO⟩ := C0
  have hl : lv_has ls 3 [(0, .ref o0), (1, .int x1), (2, .int x2)] := hl
  unfold f_LE_setWidth at hf
  refine lv_aload_n hx hb d_LE_setWidth_0 rfl (lv_at hl 0 rfl) ?_
  obtain ⟨t1, h2, hf⟩ := px_bind hf
  refine px_rgr hx hb hts cl_LE hown hK hM 0 (by decide) (hts _ w_109) h2 d_LE_setWidth_1 ?_
  refine lv_iload_n hx hb d_LE_setWidth_4 rfl (lv_at hl 1 rfl) ?_
  refine lv_bipush (v := 32) hx hb d_LE_setWidth_5 (by decide) ?_
  refine lv_isub hx hb d_LE_setWidth_7 ?_
  refine lv_iload_n hx hb d_LE_setWidth_8 rfl (lv_at hl 2 rfl) ?_
  obtain ⟨M3, h4, hf⟩ := px_bind hf
  refine px_rsi hx hb hK hM hS 0 rfl h4 d_LE_setWidth_9 (fun H locs hM hS => ?_)
  obtain rfl := px_s1 hf
  exact px_vret hx hb hr hlocks hM hS d_LE_setWidth_10
def f_SB_glyph (o0 : Nat) (x1 : Int32) (x2 : Int32) (M : px_M) : Option (Int32 × px_M) :=
  (f_SB_isLetter x1 M).bind fun (v3, M1) =>
  if v3 = 0 then
  some (0, M1)
  else
  (f_SB_isWithin x2 0 64 M1).bind fun (v7, M5) =>
  if v7 = 0 then
  some (0, M5)
  else
  (px_gr 0 4 M5 o0).bind fun t9 =>
  (px_ob 4 M5 t9).bind fun _ =>
  (f_LE_setWidth t9 x1 x2 M5).bind fun M11 =>
  some (1, M11)
set_option maxHeartbeats 4000000 in
set_option maxRecDepth 100000 in
theorem c_SB_glyph (l : Launch) (bs : Nat) (D : va_G) (G : Nat → ClassId) (o0 : Nat) (x1 : Int32) (x2 : Int32) (M : px_M) {r : Int32} {M' : px_M} (hf : f_SB_glyph o0 x1 x2 M = some (r, M')) : Met l y_SB_glyph (.code y_SB_glyph b_SB_glyph 3 (some .boolean) :: px_tw) ⟨2, 0, 0, 42⟩ (va_Pc [.ref o0, .int x1, .int x2] (px_B bs D px_cl (px_tys G) px_nw px_over M)) (px_Qi bs D px_cl (px_tys G) r M') 0 0 (fun q => bs ≤ q) := by
  refine px_of (by decide) (Nat.le_of_ble_eq_true rfl) ?_
  intro p e s m below meth c ls C0 hM hS hl
  obtain ⟨hx, hb, hr, hml, hown, hnm, hlocks, hts, hK, hN, hO⟩ := C0
  have hl : lv_has ls 3 [(0, .ref o0), (1, .int x1), (2, .int x2)] := hl
  unfold f_SB_glyph at hf
  refine lv_iload_n hx hb d_SB_glyph_0 rfl (lv_at hl 1 rfl) ?_
  obtain ⟨⟨v3, M1⟩, h2, hf⟩ := px_bind hf
  dsimp only at hf
  refine px_calli (va_runS (As := [.int x1]) (rest := []) ⟨hx, hb, hml, hown, hts⟩ (c_SB_isLetter l bs D G x1 M h2) (cwS 1 hts (px_gS w_336 w_337 w_1 w_338) rfl rfl rfl (by decide +kernel) ⟨Nat.le_of_ble_eq_true rfl, Nat.le_of_ble_eq_true rfl⟩) (px_preS px_nwok hK hN hO hM) rfl rfl hl.1 rfl (lv_room (Nat.le_of_ble_eq_true rfl)) d_SB_glyph_1 ⟨Nat.le_of_ble_eq_true rfl, Nat.le_of_ble_eq_true rfl⟩) hS (fun H locs hM hS => ?_)
  refine lv_if_eq (tgt := 17) hx hb d_SB_glyph_4 (by decide) (fun c4 => ?_) (fun c4 => ?_)
  · have hf := px_ift hf c4
    refine lv_iconst (v := 0) hx hb d_SB_glyph_17 (by decide) ?_
    obtain ⟨rfl, rfl⟩ := px_s2 hf
    exact px_zret hx hb hr rfl hlocks hM hS d_SB_glyph_18
  · have hf := px_iff hf c4
    refine lv_iload_n hx hb d_SB_glyph_7 rfl (lv_at hl 2 rfl) ?_
    refine lv_iconst (v := 0) hx hb d_SB_glyph_8 (by decide) ?_
    refine lv_bipush (v := 64) hx hb d_SB_glyph_9 (by decide) ?_
    obtain ⟨⟨v7, M5⟩, h6, hf⟩ := px_bind hf
    dsimp only at hf
    refine px_calli (va_runS (As := [.int x2, .int 0, .int 64]) (rest := []) ⟨hx, hb, hml, hown, hts⟩ (c_SB_isWithin l bs D G x2 0 64 M1 h6) (cwS 3 hts (px_gS w_339 w_340 w_1 w_341) rfl rfl rfl (by decide +kernel) ⟨Nat.le_of_ble_eq_true rfl, Nat.le_of_ble_eq_true rfl⟩) (px_preS px_nwok hK hN hO hM) rfl rfl hl.1 rfl (lv_room (Nat.le_of_ble_eq_true rfl)) d_SB_glyph_11 ⟨Nat.le_of_ble_eq_true rfl, Nat.le_of_ble_eq_true rfl⟩) hS (fun H locs hM hS => ?_)
    refine lv_if_ne (tgt := 19) hx hb d_SB_glyph_14 (by decide) (fun c8 => ?_) (fun c8 => ?_)
    · have hf := px_iff hf c8
      refine lv_aload_n hx hb d_SB_glyph_19 rfl (lv_at hl 0 rfl) ?_
      obtain ⟨t9, h10, hf⟩ := px_bind hf
      refine px_rgr hx hb hts cl_SB hown hK hM 4 (by decide) (hts _ w_296) h10 d_SB_glyph_20 ?_
      refine lv_iload_n hx hb d_SB_glyph_23 rfl (lv_at hl 1 rfl) ?_
      refine lv_iload_n hx hb d_SB_glyph_24 rfl (lv_at hl 2 rfl) ?_
      obtain ⟨_, h13, hf⟩ := px_bind hf
      obtain ⟨M11, h12, hf⟩ := px_bind hf
      refine px_callv (va_runV (As := [.int x1, .int x2]) (rest := []) ⟨hx, hb, hml, hown, hts⟩ (c_LE_setWidth l bs D G t9 x1 x2 M5 h12) (cwV 2 hts (px_gV w_409 w_410 w_411 w_5 w_412) rfl rfl rfl (by decide +kernel) ⟨Nat.le_of_ble_eq_true rfl, Nat.le_of_ble_eq_true rfl⟩) (px_preV px_nwok hK hN hO hM h13 rfl) rfl rfl hl.1 rfl (lv_room (Nat.le_of_ble_eq_true rfl)) d_SB_glyph_25 ⟨Nat.le_of_ble_eq_true rfl, Nat.le_of_ble_eq_true rfl⟩) hS (fun H locs hM hS => ?_)
      refine lv_iconst (v := 1) hx hb d_SB_glyph_28 (by decide) ?_
      obtain ⟨rfl, rfl⟩ := px_s2 hf
      exact px_zret hx hb hr rfl hlocks hM hS d_SB_glyph_29
    · have hf := px_ift hf c8
      refine lv_iconst (v := 0) hx hb d_SB_glyph_17 (by decide) ?_
      obtain ⟨rfl, rfl⟩ := px_s2 hf
      exact px_zret hx hb hr rfl hlocks hM hS d_SB_glyph_18
def f_LE_pairOf_L2 : Nat → Nat → Int32 → Int32 → Int32 → px_M → Option ((Int32) × px_M)
  | 0, _, _, _, _, _ => none
  | n + 1, o0, x1, x2, x3, M =>
    (px_gi 4 4 M o0).bind fun v1 =>
    if v1 ≤ x3 then
    some (x3, M)
    else
    (px_gr 4 1 M o0).bind fun t4 =>
    (px_ai 0 M t4 x3).bind fun v6 =>
    if v6 = x1 then
    (px_gr 4 2 M o0).bind fun t9 =>
    (px_ai 0 M t9 x3).bind fun v11 =>
    if v11 = x2 then
    some (x3, M)
    else
    f_LE_pairOf_L2 n o0 x1 x2 (x3 + 1) M
    else
    f_LE_pairOf_L2 n o0 x1 x2 (x3 + 1) M
set_option maxHeartbeats 4000000 in
set_option maxRecDepth 100000 in
theorem lp_LE_pairOf_L2 {p : Program} {l : Launch} {e : Env} {s : State} {m : MethodId} {args : Array Value} {below : List Frame} {meth : Method} {c : Code} {bs : Nat} {D : va_G} {G : Nat → ClassId} {Q : State → Prop} (C0 : px_At p s m meth c y_LE_pairOf b_LE_pairOf 4 (some .int) args D px_cl (px_tys G) px_nw px_over) (x : Int32) (M' : px_M) (o0 : Nat) (x1 : Int32) (x2 : Int32) (kx : ∀ (H : Heap) (locs : List Loc) (ls : Array Slot), px_W bs D px_cl (px_tys G) M' H → va_S (fun q => bs ≤ q) s.heap H locs → lv_has ls 4 [(3, .int x)] → W p l e ⟨0, 0, 0, 0⟩ s m args below meth c H locs 0 0 Q (F0 m 36 ls []))  : ∀ (n : Nat) (x3 : Int32) (M : px_M), f_LE_pairOf_L2 n o0 x1 x2 x3 M = some (x, M') → ∀ (H : Heap) (locs : List Loc) (ls : Array Slot), px_W bs D px_cl (px_tys G) M H → va_S (fun q => bs ≤ q) s.heap H locs → lv_has ls 4 [(0, .ref o0), (1, .int x1), (2, .int x2), (3, .int x3)] → W p l e ⟨0, 0, 0, 0⟩ s m args below meth c H locs 0 0 Q (F0 m 2 ls []) := by
  obtain ⟨hx, hb, hr, hml, hown, hnm, hlocks, hts, hK, hN, hO⟩ := C0
  intro n
  induction n with
  | zero => intro x3 M hf; cases hf
  | succ n ih =>
    intro x3 M hf H locs ls hM hS hl
    unfold f_LE_pairOf_L2 at hf
    refine lv_iload_n hx hb d_LE_pairOf_2 rfl (lv_at hl 3 rfl) ?_
    refine lv_aload_n hx hb d_LE_pairOf_3 rfl (lv_at hl 0 rfl) ?_
    obtain ⟨v1, h2, hf⟩ := px_bind hf
    refine px_rgi hx hb hts cl_LE hown hK hM 4 (by decide) (hts _ w_113) h2 d_LE_pairOf_4 ?_
    refine lv_icmp_ge (tgt := 36) hx hb d_LE_pairOf_7 (by decide) (fun c3 => ?_) (fun c3 => ?_)
    · have hf := px_ift hf c3
      obtain ⟨rfl, rfl⟩ := px_s2 hf
      exact kx _ _ _ hM hS (lv_sub hl [3] rfl)
    · have hf := px_iff hf c3
      refine lv_aload_n hx hb d_LE_pairOf_10 rfl (lv_at hl 0 rfl) ?_
      obtain ⟨t4, h5, hf⟩ := px_bind hf
      refine px_rgr hx hb hts cl_LE hown hK hM 1 (by decide) (hts _ w_110) h5 d_LE_pairOf_11 ?_
      refine lv_iload_n hx hb d_LE_pairOf_14 rfl (lv_at hl 3 rfl) ?_
      obtain ⟨v6, h7, hf⟩ := px_bind hf
      refine px_rai hx hb hK hM 0 rfl h7 d_LE_pairOf_15 ?_
      refine lv_iload_n hx hb d_LE_pairOf_16 rfl (lv_at hl 1 rfl) ?_
      refine lv_icmp_ne (tgt := 30) hx hb d_LE_pairOf_17 (by decide) (fun c8 => ?_) (fun c8 => ?_)
      · have hf := px_iff hf c8
        refine lv_iinc (v := x3 + 1) (lv' := [(3, .int (x3 + 1)), (0, .ref o0), (1, .int x1), (2, .int x2)]) hx hb d_LE_pairOf_30 hl (k := 3) rfl (by rfl) (by decide) rfl (fun ls hl => ?_)
        refine lv_goto (tgt := 2) hx hb d_LE_pairOf_33 (by decide) ?_
        exact ih (x3 + 1) M hf _ _ _ hM hS (lv_sub hl [1, 2, 3, 0] rfl)
      · have hf := px_ift hf c8
        refine lv_aload_n hx hb d_LE_pairOf_20 rfl (lv_at hl 0 rfl) ?_
        obtain ⟨t9, h10, hf⟩ := px_bind hf
        refine px_rgr hx hb hts cl_LE hown hK hM 2 (by decide) (hts _ w_111) h10 d_LE_pairOf_21 ?_
        refine lv_iload_n hx hb d_LE_pairOf_24 rfl (lv_at hl 3 rfl) ?_
        obtain ⟨v11, h12, hf⟩ := px_bind hf
        refine px_rai hx hb hK hM 0 rfl h12 d_LE_pairOf_25 ?_
        refine lv_iload_n hx hb d_LE_pairOf_26 rfl (lv_at hl 2 rfl) ?_
        refine lv_icmp_eq (tgt := 36) hx hb d_LE_pairOf_27 (by decide) (fun c13 => ?_) (fun c13 => ?_)
        · have hf := px_ift hf c13
          obtain ⟨rfl, rfl⟩ := px_s2 hf
          exact kx _ _ _ hM hS (lv_sub hl [3] rfl)
        · have hf := px_iff hf c13
          refine lv_iinc (v := x3 + 1) (lv' := [(3, .int (x3 + 1)), (0, .ref o0), (1, .int x1), (2, .int x2)]) hx hb d_LE_pairOf_30 hl (k := 3) rfl (by rfl) (by decide) rfl (fun ls hl => ?_)
          refine lv_goto (tgt := 2) hx hb d_LE_pairOf_33 (by decide) ?_
          exact ih (x3 + 1) M hf _ _ _ hM hS (lv_sub hl [1, 2, 3, 0] rfl)
def f_LE_pairOf (o0 : Nat) (x1 : Int32) (x2 : Int32) (M : px_M) : Option (Int32 × px_M) :=
  (f_LE_pairOf_L2 px_fuel o0 x1 x2 0 M).bind fun (v16, M14) =>
  some (v16, M14)
set_option maxHeartbeats 4000000 in
set_option maxRecDepth 100000 in
theorem c_LE_pairOf (l : Launch) (bs : Nat) (D : va_G) (G : Nat → ClassId) (o0 : Nat) (x1 : Int32) (x2 : Int32) (M : px_M) {r : Int32} {M' : px_M} (hf : f_LE_pairOf o0 x1 x2 M = some (r, M')) : Met l y_LE_pairOf (.code y_LE_pairOf b_LE_pairOf 4 (some .int) :: px_tw) ⟨0, 0, 0, 0⟩ (va_Pc [.ref o0, .int x1, .int x2] (px_B bs D px_cl (px_tys G) px_nw px_over M)) (px_Qi bs D px_cl (px_tys G) r M') 0 0 (fun q => bs ≤ q) := by
  refine px_of (by decide) (Nat.le_of_ble_eq_true rfl) ?_
  intro p e s m below meth c ls C0 hM hS hl
  obtain ⟨hx, hb, hr, hml, hown, hnm, hlocks, hts, hK, hN, hO⟩ := C0
  have hl : lv_has ls 4 [(0, .ref o0), (1, .int x1), (2, .int x2)] := hl
  unfold f_LE_pairOf at hf
  refine lv_iconst (v := 0) hx hb d_LE_pairOf_0 (by decide) ?_
  refine lv_istore_n (lv' := [(3, .int 0), (0, .ref o0), (1, .int x1), (2, .int x2)]) hx hb d_LE_pairOf_1 rfl hl (by decide) rfl (fun ls hl => ?_)
  obtain ⟨⟨v16, M14⟩, h15, hf⟩ := px_bind hf
  dsimp only at hf
  refine lp_LE_pairOf_L2 ⟨hx, hb, hr, hml, hown, hnm, hlocks, hts, hK, hN, hO⟩ _ M14 o0 x1 x2 (fun H locs ls hM hS hl => ?_) px_fuel 0 M h15 _ _ _ hM hS (lv_sub hl [1, 2, 3, 0] rfl)
  try dsimp only at hl
  refine lv_iload_n hx hb d_LE_pairOf_36 rfl (lv_at hl 0 rfl) ?_
  obtain ⟨rfl, rfl⟩ := px_s2 hf
  exact px_iret hx hb hr hlocks hM hS d_LE_pairOf_37
def f_LE_setKern (o0 : Nat) (x1 : Int32) (x2 : Int32) (x3 : Int32) (M : px_M) : Option (Int32 × px_M) :=
  (px_ob 4 M o0).bind fun _ =>
  (f_LE_pairOf o0 x1 x2 M).bind fun (v3, M1) =>
  if v3 < 60 then
  (px_gi 4 4 M1 o0).bind fun v5 =>
  if v3 = v5 then
  (px_gr 4 1 M1 o0).bind fun t12 =>
  (px_si 0 M1 t12 v3 x1).bind fun M14 =>
  (px_gr 4 2 M14 o0).bind fun t16 =>
  (px_si 0 M14 t16 v3 x2).bind fun M18 =>
  (px_gi 4 4 M18 o0).bind fun v20 =>
  (px_pt 4 4 M18 o0 (.int (v20 + 1))).bind fun M22 =>
  (px_gr 4 3 M22 o0).bind fun t24 =>
  (px_si 0 M22 t24 v3 x3).bind fun M26 =>
  some (1, M26)
  else
  (px_gr 4 3 M1 o0).bind fun t8 =>
  (px_si 0 M1 t8 v3 x3).bind fun M10 =>
  some (1, M10)
  else
  some (0, M1)
set_option maxHeartbeats 4000000 in
set_option maxRecDepth 100000 in
theorem c_LE_setKern (l : Launch) (bs : Nat) (D : va_G) (G : Nat → ClassId) (o0 : Nat) (x1 : Int32) (x2 : Int32) (x3 : Int32) (M : px_M) {r : Int32} {M' : px_M} (hf : f_LE_setKern o0 x1 x2 x3 M = some (r, M')) : Met l y_LE_setKern (.code y_LE_setKern b_LE_setKern 5 (some .boolean) :: px_tw) ⟨1, 0, 0, 23⟩ (va_Pc [.ref o0, .int x1, .int x2, .int x3] (px_B bs D px_cl (px_tys G) px_nw px_over M)) (px_Qi bs D px_cl (px_tys G) r M') 0 0 (fun q => bs ≤ q) := by
  refine px_of (by decide) (Nat.le_of_ble_eq_true rfl) ?_
  intro p e s m below meth c ls C0 hM hS hl
  obtain ⟨hx, hb, hr, hml, hown, hnm, hlocks, hts, hK, hN, hO⟩ := C0
  have hl : lv_has ls 5 [(0, .ref o0), (1, .int x1), (2, .int x2), (3, .int x3)] := hl
  unfold f_LE_setKern at hf
  refine lv_aload_n hx hb d_LE_setKern_0 rfl (lv_at hl 0 rfl) ?_
  refine lv_iload_n hx hb d_LE_setKern_1 rfl (lv_at hl 1 rfl) ?_
  refine lv_iload_n hx hb d_LE_setKern_2 rfl (lv_at hl 2 rfl) ?_
  obtain ⟨_, h28, hf⟩ := px_bind hf
  obtain ⟨⟨v3, M1⟩, h2, hf⟩ := px_bind hf
  dsimp only at hf
  refine px_calli (va_runV (As := [.int x1, .int x2]) (rest := []) ⟨hx, hb, hml, hown, hts⟩ (c_LE_pairOf l bs D G o0 x1 x2 M h2) (cwV 2 hts (px_gV w_421 w_423 ws_LE_pairOf w_5 w_424) rfl rfl rfl (by decide +kernel) ⟨Nat.le_of_ble_eq_true rfl, Nat.le_of_ble_eq_true rfl⟩) (px_preV px_nwok hK hN hO hM h28 rfl) rfl rfl hl.1 rfl (lv_room (Nat.le_of_ble_eq_true rfl)) d_LE_setKern_3 ⟨Nat.le_of_ble_eq_true rfl, Nat.le_of_ble_eq_true rfl⟩) hS (fun H locs hM hS => ?_)
  refine lv_istore (lv' := [(4, .int v3), (0, .ref o0), (1, .int x1), (2, .int x2), (3, .int x3)]) hx hb d_LE_setKern_6 hl (by decide) rfl (fun ls hl => ?_)
  refine lv_iload hx hb d_LE_setKern_8 (lv_at hl 0 rfl) ?_
  refine lv_bipush (v := 60) hx hb d_LE_setKern_10 (by decide) ?_
  refine lv_icmp_lt (tgt := 17) hx hb d_LE_setKern_12 (by decide) (fun c4 => ?_) (fun c4 => ?_)
  · have hf := px_ift hf c4
    refine lv_iload hx hb d_LE_setKern_17 (lv_at hl 0 rfl) ?_
    refine lv_aload_n hx hb d_LE_setKern_19 rfl (lv_at hl 1 rfl) ?_
    obtain ⟨v5, h6, hf⟩ := px_bind hf
    refine px_rgi hx hb hts cl_LE hown hK hM 4 (by decide) (hts _ w_113) h6 d_LE_setKern_20 ?_
    refine lv_icmp_ne (tgt := 52) hx hb d_LE_setKern_23 (by decide) (fun c7 => ?_) (fun c7 => ?_)
    · have hf := px_iff hf c7
      refine lv_aload_n hx hb d_LE_setKern_52 rfl (lv_at hl 1 rfl) ?_
      obtain ⟨t8, h9, hf⟩ := px_bind hf
      refine px_rgr hx hb hts cl_LE hown hK hM 3 (by decide) (hts _ w_112) h9 d_LE_setKern_53 ?_
      refine lv_iload hx hb d_LE_setKern_56 (lv_at hl 0 rfl) ?_
      refine lv_iload_n hx hb d_LE_setKern_58 rfl (lv_at hl 4 rfl) ?_
      obtain ⟨M10, h11, hf⟩ := px_bind hf
      refine px_rsi hx hb hK hM hS 0 rfl h11 d_LE_setKern_59 (fun H locs hM hS => ?_)
      refine lv_iconst (v := 1) hx hb d_LE_setKern_60 (by decide) ?_
      obtain ⟨rfl, rfl⟩ := px_s2 hf
      exact px_zret hx hb hr rfl hlocks hM hS d_LE_setKern_61
    · have hf := px_ift hf c7
      refine lv_aload_n hx hb d_LE_setKern_26 rfl (lv_at hl 1 rfl) ?_
      obtain ⟨t12, h13, hf⟩ := px_bind hf
      refine px_rgr hx hb hts cl_LE hown hK hM 1 (by decide) (hts _ w_110) h13 d_LE_setKern_27 ?_
      refine lv_iload hx hb d_LE_setKern_30 (lv_at hl 0 rfl) ?_
      refine lv_iload_n hx hb d_LE_setKern_32 rfl (lv_at hl 2 rfl) ?_
      obtain ⟨M14, h15, hf⟩ := px_bind hf
      refine px_rsi hx hb hK hM hS 0 rfl h15 d_LE_setKern_33 (fun H locs hM hS => ?_)
      refine lv_aload_n hx hb d_LE_setKern_34 rfl (lv_at hl 1 rfl) ?_
      obtain ⟨t16, h17, hf⟩ := px_bind hf
      refine px_rgr hx hb hts cl_LE hown hK hM 2 (by decide) (hts _ w_111) h17 d_LE_setKern_35 ?_
      refine lv_iload hx hb d_LE_setKern_38 (lv_at hl 0 rfl) ?_
      refine lv_iload_n hx hb d_LE_setKern_40 rfl (lv_at hl 3 rfl) ?_
      obtain ⟨M18, h19, hf⟩ := px_bind hf
      refine px_rsi hx hb hK hM hS 0 rfl h19 d_LE_setKern_41 (fun H locs hM hS => ?_)
      refine lv_aload_n hx hb d_LE_setKern_42 rfl (lv_at hl 1 rfl) ?_
      refine lv_dup hx hb d_LE_setKern_43 rfl ?_
      obtain ⟨v20, h21, hf⟩ := px_bind hf
      refine px_rgi hx hb hts cl_LE hown hK hM 4 (by decide) (hts _ w_113) h21 d_LE_setKern_44 ?_
      refine lv_iconst (v := 1) hx hb d_LE_setKern_47 (by decide) ?_
      refine lv_iadd hx hb d_LE_setKern_48 ?_
      obtain ⟨M22, h23, hf⟩ := px_bind hf
      refine px_rpt hx hb hts cl_LE hown hK hM hS 4 (by decide) (hts _ w_113) rfl rfl rfl h23 d_LE_setKern_49 (fun H locs hM hS => ?_)
      refine lv_aload_n hx hb d_LE_setKern_52 rfl (lv_at hl 1 rfl) ?_
      obtain ⟨t24, h25, hf⟩ := px_bind hf
      refine px_rgr hx hb hts cl_LE hown hK hM 3 (by decide) (hts _ w_112) h25 d_LE_setKern_53 ?_
      refine lv_iload hx hb d_LE_setKern_56 (lv_at hl 0 rfl) ?_
      refine lv_iload_n hx hb d_LE_setKern_58 rfl (lv_at hl 4 rfl) ?_
      obtain ⟨M26, h27, hf⟩ := px_bind hf
      refine px_rsi hx hb hK hM hS 0 rfl h27 d_LE_setKern_59 (fun H locs hM hS => ?_)
      refine lv_iconst (v := 1) hx hb d_LE_setKern_60 (by decide) ?_
      obtain ⟨rfl, rfl⟩ := px_s2 hf
      exact px_zret hx hb hr rfl hlocks hM hS d_LE_setKern_61
  · have hf := px_iff hf c4
    refine lv_iconst (v := 0) hx hb d_LE_setKern_15 (by decide) ?_
    obtain ⟨rfl, rfl⟩ := px_s2 hf
    exact px_zret hx hb hr rfl hlocks hM hS d_LE_setKern_16
def f_SB_kern (o0 : Nat) (x1 : Int32) (x2 : Int32) (x3 : Int32) (M : px_M) : Option (Int32 × px_M) :=
  (f_SB_isLetter x1 M).bind fun (v3, M1) =>
  if v3 = 0 then
  some (0, M1)
  else
  (f_SB_isLetter x2 M1).bind fun (v7, M5) =>
  if v7 = 0 then
  some (0, M5)
  else
  (f_SB_isWithin x3 ((-16)) 16 M5).bind fun (v11, M9) =>
  if v11 = 0 then
  some (0, M9)
  else
  (px_gr 0 4 M9 o0).bind fun t13 =>
  (px_ob 4 M9 t13).bind fun _ =>
  (f_LE_setKern t13 x1 x2 x3 M9).bind fun (v17, M15) =>
  if v17 = 0 then
  some (0, M15)
  else
  some (1, M15)
set_option maxHeartbeats 4000000 in
set_option maxRecDepth 100000 in
theorem c_SB_kern (l : Launch) (bs : Nat) (D : va_G) (G : Nat → ClassId) (o0 : Nat) (x1 : Int32) (x2 : Int32) (x3 : Int32) (M : px_M) {r : Int32} {M' : px_M} (hf : f_SB_kern o0 x1 x2 x3 M = some (r, M')) : Met l y_SB_kern (.code y_SB_kern b_SB_kern 4 (some .boolean) :: px_tw) ⟨2, 0, 0, 47⟩ (va_Pc [.ref o0, .int x1, .int x2, .int x3] (px_B bs D px_cl (px_tys G) px_nw px_over M)) (px_Qi bs D px_cl (px_tys G) r M') 0 0 (fun q => bs ≤ q) := by
  refine px_of (by decide) (Nat.le_of_ble_eq_true rfl) ?_
  intro p e s m below meth c ls C0 hM hS hl
  obtain ⟨hx, hb, hr, hml, hown, hnm, hlocks, hts, hK, hN, hO⟩ := C0
  have hl : lv_has ls 4 [(0, .ref o0), (1, .int x1), (2, .int x2), (3, .int x3)] := hl
  unfold f_SB_kern at hf
  refine lv_iload_n hx hb d_SB_kern_0 rfl (lv_at hl 1 rfl) ?_
  obtain ⟨⟨v3, M1⟩, h2, hf⟩ := px_bind hf
  dsimp only at hf
  refine px_calli (va_runS (As := [.int x1]) (rest := []) ⟨hx, hb, hml, hown, hts⟩ (c_SB_isLetter l bs D G x1 M h2) (cwS 1 hts (px_gS w_336 w_337 w_1 w_338) rfl rfl rfl (by decide +kernel) ⟨Nat.le_of_ble_eq_true rfl, Nat.le_of_ble_eq_true rfl⟩) (px_preS px_nwok hK hN hO hM) rfl rfl hl.1 rfl (lv_room (Nat.le_of_ble_eq_true rfl)) d_SB_kern_1 ⟨Nat.le_of_ble_eq_true rfl, Nat.le_of_ble_eq_true rfl⟩) hS (fun H locs hM hS => ?_)
  refine lv_if_eq (tgt := 42) hx hb d_SB_kern_4 (by decide) (fun c4 => ?_) (fun c4 => ?_)
  · have hf := px_ift hf c4
    refine lv_iconst (v := 0) hx hb d_SB_kern_42 (by decide) ?_
    obtain ⟨rfl, rfl⟩ := px_s2 hf
    exact px_zret hx hb hr rfl hlocks hM hS d_SB_kern_43
  · have hf := px_iff hf c4
    refine lv_iload_n hx hb d_SB_kern_7 rfl (lv_at hl 2 rfl) ?_
    obtain ⟨⟨v7, M5⟩, h6, hf⟩ := px_bind hf
    dsimp only at hf
    refine px_calli (va_runS (As := [.int x2]) (rest := []) ⟨hx, hb, hml, hown, hts⟩ (c_SB_isLetter l bs D G x2 M1 h6) (cwS 1 hts (px_gS w_336 w_337 w_1 w_338) rfl rfl rfl (by decide +kernel) ⟨Nat.le_of_ble_eq_true rfl, Nat.le_of_ble_eq_true rfl⟩) (px_preS px_nwok hK hN hO hM) rfl rfl hl.1 rfl (lv_room (Nat.le_of_ble_eq_true rfl)) d_SB_kern_8 ⟨Nat.le_of_ble_eq_true rfl, Nat.le_of_ble_eq_true rfl⟩) hS (fun H locs hM hS => ?_)
    refine lv_if_eq (tgt := 42) hx hb d_SB_kern_11 (by decide) (fun c8 => ?_) (fun c8 => ?_)
    · have hf := px_ift hf c8
      refine lv_iconst (v := 0) hx hb d_SB_kern_42 (by decide) ?_
      obtain ⟨rfl, rfl⟩ := px_s2 hf
      exact px_zret hx hb hr rfl hlocks hM hS d_SB_kern_43
    · have hf := px_iff hf c8
      refine lv_iload_n hx hb d_SB_kern_14 rfl (lv_at hl 3 rfl) ?_
      refine lv_bipush (v := (-16)) hx hb d_SB_kern_15 (by decide) ?_
      refine lv_bipush (v := 16) hx hb d_SB_kern_17 (by decide) ?_
      obtain ⟨⟨v11, M9⟩, h10, hf⟩ := px_bind hf
      dsimp only at hf
      refine px_calli (va_runS (As := [.int x3, .int ((-16)), .int 16]) (rest := []) ⟨hx, hb, hml, hown, hts⟩ (c_SB_isWithin l bs D G x3 ((-16)) 16 M5 h10) (cwS 3 hts (px_gS w_339 w_340 w_1 w_341) rfl rfl rfl (by decide +kernel) ⟨Nat.le_of_ble_eq_true rfl, Nat.le_of_ble_eq_true rfl⟩) (px_preS px_nwok hK hN hO hM) rfl rfl hl.1 rfl (lv_room (Nat.le_of_ble_eq_true rfl)) d_SB_kern_19 ⟨Nat.le_of_ble_eq_true rfl, Nat.le_of_ble_eq_true rfl⟩) hS (fun H locs hM hS => ?_)
      refine lv_if_eq (tgt := 42) hx hb d_SB_kern_22 (by decide) (fun c12 => ?_) (fun c12 => ?_)
      · have hf := px_ift hf c12
        refine lv_iconst (v := 0) hx hb d_SB_kern_42 (by decide) ?_
        obtain ⟨rfl, rfl⟩ := px_s2 hf
        exact px_zret hx hb hr rfl hlocks hM hS d_SB_kern_43
      · have hf := px_iff hf c12
        refine lv_aload_n hx hb d_SB_kern_25 rfl (lv_at hl 0 rfl) ?_
        obtain ⟨t13, h14, hf⟩ := px_bind hf
        refine px_rgr hx hb hts cl_SB hown hK hM 4 (by decide) (hts _ w_296) h14 d_SB_kern_26 ?_
        refine lv_iload_n hx hb d_SB_kern_29 rfl (lv_at hl 1 rfl) ?_
        refine lv_iload_n hx hb d_SB_kern_30 rfl (lv_at hl 2 rfl) ?_
        refine lv_iload_n hx hb d_SB_kern_31 rfl (lv_at hl 3 rfl) ?_
        obtain ⟨_, h19, hf⟩ := px_bind hf
        obtain ⟨⟨v17, M15⟩, h16, hf⟩ := px_bind hf
        dsimp only at hf
        refine px_calli (va_runV (As := [.int x1, .int x2, .int x3]) (rest := []) ⟨hx, hb, hml, hown, hts⟩ (c_LE_setKern l bs D G t13 x1 x2 x3 M9 h16) (cwV 3 hts (px_gV w_417 w_418 w_419 w_5 w_420) rfl rfl rfl (by decide +kernel) ⟨Nat.le_of_ble_eq_true rfl, Nat.le_of_ble_eq_true rfl⟩) (px_preV px_nwok hK hN hO hM h19 rfl) rfl rfl hl.1 rfl (lv_room (Nat.le_of_ble_eq_true rfl)) d_SB_kern_32 ⟨Nat.le_of_ble_eq_true rfl, Nat.le_of_ble_eq_true rfl⟩) hS (fun H locs hM hS => ?_)
        refine lv_if_eq (tgt := 42) hx hb d_SB_kern_35 (by decide) (fun c18 => ?_) (fun c18 => ?_)
        · have hf := px_ift hf c18
          refine lv_iconst (v := 0) hx hb d_SB_kern_42 (by decide) ?_
          obtain ⟨rfl, rfl⟩ := px_s2 hf
          exact px_zret hx hb hr rfl hlocks hM hS d_SB_kern_43
        · have hf := px_iff hf c18
          refine lv_iconst (v := 1) hx hb d_SB_kern_38 (by decide) ?_
          refine lv_goto (tgt := 43) hx hb d_SB_kern_39 (by decide) ?_
          obtain ⟨rfl, rfl⟩ := px_s2 hf
          exact px_zret hx hb hr rfl hlocks hM hS d_SB_kern_43
def f_SB_isSpeed (x0 : Int32) (M : px_M) : Option (Int32 × px_M) :=
  (f_SB_isWithin x0 1 999 M).bind fun (v3, M1) =>
  if v3 = 0 ∨ v3 = 1 then
  some (v3, M1)
  else none
set_option maxHeartbeats 4000000 in
set_option maxRecDepth 100000 in
theorem c_SB_isSpeed (l : Launch) (bs : Nat) (D : va_G) (G : Nat → ClassId) (x0 : Int32) (M : px_M) {r : Int32} {M' : px_M} (hf : f_SB_isSpeed x0 M = some (r, M')) : Met l y_SB_isSpeed (.code y_SB_isSpeed b_SB_isSpeed 1 (some .boolean) :: px_tw) ⟨1, 0, 0, 22⟩ (va_Pc [.int x0] (px_B bs D px_cl (px_tys G) px_nw px_over M)) (px_Qi bs D px_cl (px_tys G) r M') 0 0 (fun q => bs ≤ q) := by
  refine px_of (by decide) (Nat.le_of_ble_eq_true rfl) ?_
  intro p e s m below meth c ls C0 hM hS hl
  obtain ⟨hx, hb, hr, hml, hown, hnm, hlocks, hts, hK, hN, hO⟩ := C0
  have hl : lv_has ls 1 [(0, .int x0)] := hl
  unfold f_SB_isSpeed at hf
  refine lv_iload_n hx hb d_SB_isSpeed_0 rfl (lv_at hl 0 rfl) ?_
  refine lv_iconst (v := 1) hx hb d_SB_isSpeed_1 (by decide) ?_
  refine lv_sipush (v := 999) hx hb d_SB_isSpeed_2 (by decide) ?_
  obtain ⟨⟨v3, M1⟩, h2, hf⟩ := px_bind hf
  dsimp only at hf
  refine px_calli (va_runS (As := [.int x0, .int 1, .int 999]) (rest := []) ⟨hx, hb, hml, hown, hts⟩ (c_SB_isWithin l bs D G x0 1 999 M h2) (cwS 3 hts (px_gS w_339 w_340 w_1 w_341) rfl rfl rfl (by decide +kernel) ⟨Nat.le_of_ble_eq_true rfl, Nat.le_of_ble_eq_true rfl⟩) (px_preS px_nwok hK hN hO hM) rfl rfl hl.1 rfl (lv_room (Nat.le_of_ble_eq_true rfl)) d_SB_isSpeed_5 ⟨Nat.le_of_ble_eq_true rfl, Nat.le_of_ble_eq_true rfl⟩) hS (fun H locs hM hS => ?_)
  have hz : v3 = 0 ∨ v3 = 1 := Classical.byContradiction fun q => (by have q2 := px_iff hf q; cases q2)
  have hf := px_ift hf hz
  obtain ⟨rfl, rfl⟩ := px_s2 hf
  exact px_zret hx hb hr (px_nz hz) hlocks hM hS d_SB_isSpeed_8
def f_RS_heightAt_L4 : Nat → Nat → Int32 → Int32 → Int32 → px_M → Option ((Int32) × px_M)
  | 0, _, _, _, _, _ => none
  | n + 1, o0, x1, x2, x3, M =>
    (px_gi 3 2 M o0).bind fun v1 =>
    if v1 ≤ x3 then
    some (x2, M)
    else
    (px_gr 3 1 M o0).bind fun t4 =>
    (px_ai 0 M t4 x3).bind fun v6 =>
    (px_gr 3 0 M o0).bind fun t8 =>
    (px_ai 0 M t8 x3).bind fun v10 =>
    if v10 < x1 then
    f_RS_heightAt_L4 n o0 x1 v6 (x3 + 1) M
    else
    some (v6, M)
set_option maxHeartbeats 4000000 in
set_option maxRecDepth 100000 in
theorem lp_RS_heightAt_L4 {p : Program} {l : Launch} {e : Env} {s : State} {m : MethodId} {args : Array Value} {below : List Frame} {meth : Method} {c : Code} {bs : Nat} {D : va_G} {G : Nat → ClassId} {Q : State → Prop} (C0 : px_At p s m meth c y_RS_heightAt b_RS_heightAt 4 (some .int) args D px_cl (px_tys G) px_nw px_over) (x : Int32) (M' : px_M) (o0 : Nat) (x1 : Int32) (kx : ∀ (H : Heap) (locs : List Loc) (ls : Array Slot), px_W bs D px_cl (px_tys G) M' H → va_S (fun q => bs ≤ q) s.heap H locs → lv_has ls 4 [(2, .int x)] → W p l e ⟨0, 0, 0, 0⟩ s m args below meth c H locs 0 0 Q (F0 m 38 ls []))  : ∀ (n : Nat) (x2 : Int32) (x3 : Int32) (M : px_M), f_RS_heightAt_L4 n o0 x1 x2 x3 M = some (x, M') → ∀ (H : Heap) (locs : List Loc) (ls : Array Slot), px_W bs D px_cl (px_tys G) M H → va_S (fun q => bs ≤ q) s.heap H locs → lv_has ls 4 [(0, .ref o0), (1, .int x1), (2, .int x2), (3, .int x3)] → W p l e ⟨0, 0, 0, 0⟩ s m args below meth c H locs 0 0 Q (F0 m 4 ls []) := by
  obtain ⟨hx, hb, hr, hml, hown, hnm, hlocks, hts, hK, hN, hO⟩ := C0
  intro n
  induction n with
  | zero => intro x2 x3 M hf; cases hf
  | succ n ih =>
    intro x2 x3 M hf H locs ls hM hS hl
    unfold f_RS_heightAt_L4 at hf
    refine lv_iload_n hx hb d_RS_heightAt_4 rfl (lv_at hl 3 rfl) ?_
    refine lv_aload_n hx hb d_RS_heightAt_5 rfl (lv_at hl 0 rfl) ?_
    obtain ⟨v1, h2, hf⟩ := px_bind hf
    refine px_rgi hx hb hts cl_RS hown hK hM 2 (by decide) (hts _ w_79) h2 d_RS_heightAt_6 ?_
    refine lv_icmp_ge (tgt := 38) hx hb d_RS_heightAt_9 (by decide) (fun c3 => ?_) (fun c3 => ?_)
    · have hf := px_ift hf c3
      obtain ⟨rfl, rfl⟩ := px_s2 hf
      exact kx _ _ _ hM hS (lv_sub hl [2] rfl)
    · have hf := px_iff hf c3
      refine lv_aload_n hx hb d_RS_heightAt_12 rfl (lv_at hl 0 rfl) ?_
      obtain ⟨t4, h5, hf⟩ := px_bind hf
      refine px_rgr hx hb hts cl_RS hown hK hM 1 (by decide) (hts _ w_78) h5 d_RS_heightAt_13 ?_
      refine lv_iload_n hx hb d_RS_heightAt_16 rfl (lv_at hl 3 rfl) ?_
      obtain ⟨v6, h7, hf⟩ := px_bind hf
      refine px_rai hx hb hK hM 0 rfl h7 d_RS_heightAt_17 ?_
      refine lv_istore_n (lv' := [(2, .int v6), (0, .ref o0), (1, .int x1), (3, .int x3)]) hx hb d_RS_heightAt_18 rfl hl (by decide) rfl (fun ls hl => ?_)
      refine lv_aload_n hx hb d_RS_heightAt_19 rfl (lv_at hl 1 rfl) ?_
      obtain ⟨t8, h9, hf⟩ := px_bind hf
      refine px_rgr hx hb hts cl_RS hown hK hM 0 (by decide) (hts _ w_77) h9 d_RS_heightAt_20 ?_
      refine lv_iload_n hx hb d_RS_heightAt_23 rfl (lv_at hl 3 rfl) ?_
      obtain ⟨v10, h11, hf⟩ := px_bind hf
      refine px_rai hx hb hK hM 0 rfl h11 d_RS_heightAt_24 ?_
      refine lv_iload_n hx hb d_RS_heightAt_25 rfl (lv_at hl 2 rfl) ?_
      refine lv_icmp_lt (tgt := 32) hx hb d_RS_heightAt_26 (by decide) (fun c12 => ?_) (fun c12 => ?_)
      · have hf := px_ift hf c12
        refine lv_iinc (v := x3 + 1) (lv' := [(3, .int (x3 + 1)), (2, .int v6), (0, .ref o0), (1, .int x1)]) hx hb d_RS_heightAt_32 hl (k := 3) rfl (by rfl) (by decide) rfl (fun ls hl => ?_)
        refine lv_goto (tgt := 4) hx hb d_RS_heightAt_35 (by decide) ?_
        exact ih v6 (x3 + 1) M hf _ _ _ hM hS (lv_sub hl [2, 3, 1, 0] rfl)
      · have hf := px_iff hf c12
        refine lv_goto (tgt := 38) hx hb d_RS_heightAt_29 (by decide) ?_
        obtain ⟨rfl, rfl⟩ := px_s2 hf
        exact kx _ _ _ hM hS (lv_sub hl [0] rfl)
def f_RS_heightAt (o0 : Nat) (x1 : Int32) (M : px_M) : Option (Int32 × px_M) :=
  (f_RS_heightAt_L4 px_fuel o0 x1 0 0 M).bind fun (v15, M13) =>
  some (v15, M13)
set_option maxHeartbeats 4000000 in
set_option maxRecDepth 100000 in
theorem c_RS_heightAt (l : Launch) (bs : Nat) (D : va_G) (G : Nat → ClassId) (o0 : Nat) (x1 : Int32) (M : px_M) {r : Int32} {M' : px_M} (hf : f_RS_heightAt o0 x1 M = some (r, M')) : Met l y_RS_heightAt (.code y_RS_heightAt b_RS_heightAt 4 (some .int) :: px_tw) ⟨0, 0, 0, 0⟩ (va_Pc [.ref o0, .int x1] (px_B bs D px_cl (px_tys G) px_nw px_over M)) (px_Qi bs D px_cl (px_tys G) r M') 0 0 (fun q => bs ≤ q) := by
  refine px_of (by decide) (Nat.le_of_ble_eq_true rfl) ?_
  intro p e s m below meth c ls C0 hM hS hl
  obtain ⟨hx, hb, hr, hml, hown, hnm, hlocks, hts, hK, hN, hO⟩ := C0
  have hl : lv_has ls 4 [(0, .ref o0), (1, .int x1)] := hl
  unfold f_RS_heightAt at hf
  refine lv_iconst (v := 0) hx hb d_RS_heightAt_0 (by decide) ?_
  refine lv_istore_n (lv' := [(2, .int 0), (0, .ref o0), (1, .int x1)]) hx hb d_RS_heightAt_1 rfl hl (by decide) rfl (fun ls hl => ?_)
  refine lv_iconst (v := 0) hx hb d_RS_heightAt_2 (by decide) ?_
  refine lv_istore_n (lv' := [(3, .int 0), (2, .int 0), (0, .ref o0), (1, .int x1)]) hx hb d_RS_heightAt_3 rfl hl (by decide) rfl (fun ls hl => ?_)
  obtain ⟨⟨v15, M13⟩, h14, hf⟩ := px_bind hf
  dsimp only at hf
  refine lp_RS_heightAt_L4 ⟨hx, hb, hr, hml, hown, hnm, hlocks, hts, hK, hN, hO⟩ _ M13 o0 x1 (fun H locs ls hM hS hl => ?_) px_fuel 0 0 M h14 _ _ _ hM hS (lv_sub hl [2, 3, 1, 0] rfl)
  try dsimp only at hl
  refine lv_iload_n hx hb d_RS_heightAt_38 rfl (lv_at hl 0 rfl) ?_
  obtain ⟨rfl, rfl⟩ := px_s2 hf
  exact px_iret hx hb hr hlocks hM hS d_RS_heightAt_39
def f_SB_height (o0 : Nat) (x1 : Int32) (M : px_M) : Option (Int32 × px_M) :=
  (f_SB_isSpeed x1 M).bind fun (v3, M1) =>
  if v3 = 0 then
  some ((-1), M1)
  else
  (px_gr 0 2 M1 o0).bind fun t5 =>
  (px_ob 3 M1 t5).bind fun _ =>
  (f_RS_heightAt t5 x1 M1).bind fun (v9, M7) =>
  some (v9, M7)
set_option maxHeartbeats 4000000 in
set_option maxRecDepth 100000 in
theorem c_SB_height (l : Launch) (bs : Nat) (D : va_G) (G : Nat → ClassId) (o0 : Nat) (x1 : Int32) (M : px_M) {r : Int32} {M' : px_M} (hf : f_SB_height o0 x1 M = some (r, M')) : Met l y_SB_height (.code y_SB_height b_SB_height 2 (some .int) :: px_tw) ⟨2, 0, 0, 42⟩ (va_Pc [.ref o0, .int x1] (px_B bs D px_cl (px_tys G) px_nw px_over M)) (px_Qi bs D px_cl (px_tys G) r M') 0 0 (fun q => bs ≤ q) := by
  refine px_of (by decide) (Nat.le_of_ble_eq_true rfl) ?_
  intro p e s m below meth c ls C0 hM hS hl
  obtain ⟨hx, hb, hr, hml, hown, hnm, hlocks, hts, hK, hN, hO⟩ := C0
  have hl : lv_has ls 2 [(0, .ref o0), (1, .int x1)] := hl
  unfold f_SB_height at hf
  refine lv_iload_n hx hb d_SB_height_0 rfl (lv_at hl 1 rfl) ?_
  obtain ⟨⟨v3, M1⟩, h2, hf⟩ := px_bind hf
  dsimp only at hf
  refine px_calli (va_runS (As := [.int x1]) (rest := []) ⟨hx, hb, hml, hown, hts⟩ (c_SB_isSpeed l bs D G x1 M h2) (cwS 1 hts (px_gS w_429 w_430 w_1 w_431) rfl rfl rfl (by decide +kernel) ⟨Nat.le_of_ble_eq_true rfl, Nat.le_of_ble_eq_true rfl⟩) (px_preS px_nwok hK hN hO hM) rfl rfl hl.1 rfl (lv_room (Nat.le_of_ble_eq_true rfl)) d_SB_height_1 ⟨Nat.le_of_ble_eq_true rfl, Nat.le_of_ble_eq_true rfl⟩) hS (fun H locs hM hS => ?_)
  refine lv_if_eq (tgt := 18) hx hb d_SB_height_4 (by decide) (fun c4 => ?_) (fun c4 => ?_)
  · have hf := px_ift hf c4
    refine lv_iconst (v := (-1)) hx hb d_SB_height_18 (by decide) ?_
    obtain ⟨rfl, rfl⟩ := px_s2 hf
    exact px_iret hx hb hr hlocks hM hS d_SB_height_19
  · have hf := px_iff hf c4
    refine lv_aload_n hx hb d_SB_height_7 rfl (lv_at hl 0 rfl) ?_
    obtain ⟨t5, h6, hf⟩ := px_bind hf
    refine px_rgr hx hb hts cl_SB hown hK hM 2 (by decide) (hts _ w_294) h6 d_SB_height_8 ?_
    refine lv_iload_n hx hb d_SB_height_11 rfl (lv_at hl 1 rfl) ?_
    obtain ⟨_, h10, hf⟩ := px_bind hf
    obtain ⟨⟨v9, M7⟩, h8, hf⟩ := px_bind hf
    dsimp only at hf
    refine px_calli (va_runV (As := [.int x1]) (rest := []) ⟨hx, hb, hml, hown, hts⟩ (c_RS_heightAt l bs D G t5 x1 M1 h8) (cwV 1 hts (px_gV w_432 w_433 w_434 w_4 w_435) rfl rfl rfl (by decide +kernel) ⟨Nat.le_of_ble_eq_true rfl, Nat.le_of_ble_eq_true rfl⟩) (px_preV px_nwok hK hN hO hM h10 rfl) rfl rfl hl.1 rfl (lv_room (Nat.le_of_ble_eq_true rfl)) d_SB_height_12 ⟨Nat.le_of_ble_eq_true rfl, Nat.le_of_ble_eq_true rfl⟩) hS (fun H locs hM hS => ?_)
    refine lv_goto (tgt := 19) hx hb d_SB_height_15 (by decide) ?_
    obtain ⟨rfl, rfl⟩ := px_s2 hf
    exact px_iret hx hb hr hlocks hM hS d_SB_height_19
def f_SB_isName (o0 : Nat) (x1 : Int32) (M : px_M) : Option (Int32 × px_M) :=
  (px_gi 0 6 M o0).bind fun v1 =>
  (f_SB_isWithin x1 0 (v1 - 1) M).bind fun (v5, M3) =>
  if v5 = 0 ∨ v5 = 1 then
  some (v5, M3)
  else none
set_option maxHeartbeats 4000000 in
set_option maxRecDepth 100000 in
theorem c_SB_isName (l : Launch) (bs : Nat) (D : va_G) (G : Nat → ClassId) (o0 : Nat) (x1 : Int32) (M : px_M) {r : Int32} {M' : px_M} (hf : f_SB_isName o0 x1 M = some (r, M')) : Met l y_SB_isName (.code y_SB_isName b_SB_isName 2 (some .boolean) :: px_tw) ⟨1, 0, 0, 22⟩ (va_Pc [.ref o0, .int x1] (px_B bs D px_cl (px_tys G) px_nw px_over M)) (px_Qi bs D px_cl (px_tys G) r M') 0 0 (fun q => bs ≤ q) := by
  refine px_of (by decide) (Nat.le_of_ble_eq_true rfl) ?_
  intro p e s m below meth c ls C0 hM hS hl
  obtain ⟨hx, hb, hr, hml, hown, hnm, hlocks, hts, hK, hN, hO⟩ := C0
  have hl : lv_has ls 2 [(0, .ref o0), (1, .int x1)] := hl
  unfold f_SB_isName at hf
  refine lv_iload_n hx hb d_SB_isName_0 rfl (lv_at hl 1 rfl) ?_
  refine lv_iconst (v := 0) hx hb d_SB_isName_1 (by decide) ?_
  refine lv_aload_n hx hb d_SB_isName_2 rfl (lv_at hl 0 rfl) ?_
  obtain ⟨v1, h2, hf⟩ := px_bind hf
  refine px_rgi hx hb hts cl_SB hown hK hM 6 (by decide) (hts _ w_298) h2 d_SB_isName_3 ?_
  refine lv_iconst (v := 1) hx hb d_SB_isName_6 (by decide) ?_
  refine lv_isub hx hb d_SB_isName_7 ?_
  obtain ⟨⟨v5, M3⟩, h4, hf⟩ := px_bind hf
  dsimp only at hf
  refine px_calli (va_runS (As := [.int x1, .int 0, .int (v1 - 1)]) (rest := []) ⟨hx, hb, hml, hown, hts⟩ (c_SB_isWithin l bs D G x1 0 (v1 - 1) M h4) (cwS 3 hts (px_gS w_339 w_340 w_1 w_341) rfl rfl rfl (by decide +kernel) ⟨Nat.le_of_ble_eq_true rfl, Nat.le_of_ble_eq_true rfl⟩) (px_preS px_nwok hK hN hO hM) rfl rfl hl.1 rfl (lv_room (Nat.le_of_ble_eq_true rfl)) d_SB_isName_8 ⟨Nat.le_of_ble_eq_true rfl, Nat.le_of_ble_eq_true rfl⟩) hS (fun H locs hM hS => ?_)
  have hz : v5 = 0 ∨ v5 = 1 := Classical.byContradiction fun q => (by have q2 := px_iff hf q; cases q2)
  have hf := px_ift hf hz
  obtain ⟨rfl, rfl⟩ := px_s2 hf
  exact px_zret hx hb hr (px_nz hz) hlocks hM hS d_SB_isName_11
def f_LE_kernOf (o0 : Nat) (x1 : Int32) (x2 : Int32) (M : px_M) : Option (Int32 × px_M) :=
  (px_ob 4 M o0).bind fun _ =>
  (f_LE_pairOf o0 x1 x2 M).bind fun (v3, M1) =>
  (px_gi 4 4 M1 o0).bind fun v4 =>
  if v4 ≤ v3 then
  some (0, M1)
  else
  (px_gr 4 3 M1 o0).bind fun t7 =>
  (px_ai 0 M1 t7 v3).bind fun v9 =>
  some (v9, M1)
set_option maxHeartbeats 4000000 in
set_option maxRecDepth 100000 in
theorem c_LE_kernOf (l : Launch) (bs : Nat) (D : va_G) (G : Nat → ClassId) (o0 : Nat) (x1 : Int32) (x2 : Int32) (M : px_M) {r : Int32} {M' : px_M} (hf : f_LE_kernOf o0 x1 x2 M = some (r, M')) : Met l y_LE_kernOf (.code y_LE_kernOf b_LE_kernOf 4 (some .int) :: px_tw) ⟨1, 0, 0, 23⟩ (va_Pc [.ref o0, .int x1, .int x2] (px_B bs D px_cl (px_tys G) px_nw px_over M)) (px_Qi bs D px_cl (px_tys G) r M') 0 0 (fun q => bs ≤ q) := by
  refine px_of (by decide) (Nat.le_of_ble_eq_true rfl) ?_
  intro p e s m below meth c ls C0 hM hS hl
  obtain ⟨hx, hb, hr, hml, hown, hnm, hlocks, hts, hK, hN, hO⟩ := C0
  have hl : lv_has ls 4 [(0, .ref o0), (1, .int x1), (2, .int x2)] := hl
  unfold f_LE_kernOf at hf
  refine lv_aload_n hx hb d_LE_kernOf_0 rfl (lv_at hl 0 rfl) ?_
  refine lv_iload_n hx hb d_LE_kernOf_1 rfl (lv_at hl 1 rfl) ?_
  refine lv_iload_n hx hb d_LE_kernOf_2 rfl (lv_at hl 2 rfl) ?_
  obtain ⟨_, h11, hf⟩ := px_bind hf
  obtain ⟨⟨v3, M1⟩, h2, hf⟩ := px_bind hf
  dsimp only at hf
  refine px_calli (va_runV (As := [.int x1, .int x2]) (rest := []) ⟨hx, hb, hml, hown, hts⟩ (c_LE_pairOf l bs D G o0 x1 x2 M h2) (cwV 2 hts (px_gV w_421 w_423 ws_LE_pairOf w_5 w_424) rfl rfl rfl (by decide +kernel) ⟨Nat.le_of_ble_eq_true rfl, Nat.le_of_ble_eq_true rfl⟩) (px_preV px_nwok hK hN hO hM h11 rfl) rfl rfl hl.1 rfl (lv_room (Nat.le_of_ble_eq_true rfl)) d_LE_kernOf_3 ⟨Nat.le_of_ble_eq_true rfl, Nat.le_of_ble_eq_true rfl⟩) hS (fun H locs hM hS => ?_)
  refine lv_istore_n (lv' := [(3, .int v3), (0, .ref o0), (1, .int x1), (2, .int x2)]) hx hb d_LE_kernOf_6 rfl hl (by decide) rfl (fun ls hl => ?_)
  refine lv_iload_n hx hb d_LE_kernOf_7 rfl (lv_at hl 0 rfl) ?_
  refine lv_aload_n hx hb d_LE_kernOf_8 rfl (lv_at hl 1 rfl) ?_
  obtain ⟨v4, h5, hf⟩ := px_bind hf
  refine px_rgi hx hb hts cl_LE hown hK hM 4 (by decide) (hts _ w_113) h5 d_LE_kernOf_9 ?_
  refine lv_icmp_ge (tgt := 24) hx hb d_LE_kernOf_12 (by decide) (fun c6 => ?_) (fun c6 => ?_)
  · have hf := px_ift hf c6
    refine lv_iconst (v := 0) hx hb d_LE_kernOf_24 (by decide) ?_
    obtain ⟨rfl, rfl⟩ := px_s2 hf
    exact px_iret hx hb hr hlocks hM hS d_LE_kernOf_25
  · have hf := px_iff hf c6
    refine lv_aload_n hx hb d_LE_kernOf_15 rfl (lv_at hl 1 rfl) ?_
    obtain ⟨t7, h8, hf⟩ := px_bind hf
    refine px_rgr hx hb hts cl_LE hown hK hM 3 (by decide) (hts _ w_112) h8 d_LE_kernOf_16 ?_
    refine lv_iload_n hx hb d_LE_kernOf_19 rfl (lv_at hl 0 rfl) ?_
    obtain ⟨v9, h10, hf⟩ := px_bind hf
    refine px_rai hx hb hK hM 0 rfl h10 d_LE_kernOf_20 ?_
    refine lv_goto (tgt := 25) hx hb d_LE_kernOf_21 (by decide) ?_
    obtain ⟨rfl, rfl⟩ := px_s2 hf
    exact px_iret hx hb hr hlocks hM hS d_LE_kernOf_25
def f_LE_startOf_L5 : Nat → Nat → Nat → Int32 → Int32 → Int32 → px_M → Option ((Int32) × px_M)
  | 0, _, _, _, _, _, _ => none
  | n + 1, o0, o1, x2, x3, x4, M =>
    if x2 ≤ x4 then
    some (x3, M)
    else
    (px_gr 4 0 M o0).bind fun t2 =>
    (px_gr 9 0 M o1).bind fun t4 =>
    (px_ai 0 M t4 x4).bind fun v6 =>
    (px_ai 0 M t2 (v6 - 32)).bind fun v8 =>
    (px_gi 9 1 M o1).bind fun v10 =>
    if v10 ≤ (x4 + 1) then
    f_LE_startOf_L5 n o0 o1 x2 (x3 + v8) (x4 + 1) M
    else
    (px_gr 9 0 M o1).bind fun t13 =>
    (px_ai 0 M t13 x4).bind fun v15 =>
    (px_gr 9 0 M o1).bind fun t17 =>
    (px_ai 0 M t17 (x4 + 1)).bind fun v19 =>
    (px_ob 4 M o0).bind fun _ =>
    (f_LE_kernOf o0 v15 v19 M).bind fun (v23, M21) =>
    f_LE_startOf_L5 n o0 o1 x2 ((x3 + v8) + v23) (x4 + 1) M21
set_option maxHeartbeats 4000000 in
set_option maxRecDepth 100000 in
theorem lp_LE_startOf_L5 {p : Program} {l : Launch} {e : Env} {s : State} {m : MethodId} {args : Array Value} {below : List Frame} {meth : Method} {c : Code} {bs : Nat} {D : va_G} {G : Nat → ClassId} {Q : State → Prop} (C0 : px_At p s m meth c y_LE_startOf b_LE_startOf 5 (some .int) args D px_cl (px_tys G) px_nw px_over) (x : Int32) (M' : px_M) (o0 : Nat) (o1 : Nat) (x2 : Int32) (kx : ∀ (H : Heap) (locs : List Loc) (ls : Array Slot), px_W bs D px_cl (px_tys G) M' H → va_S (fun q => bs ≤ q) s.heap H locs → lv_has ls 5 [(3, .int x)] → W p l e ⟨2, 0, 0, 46⟩ s m args below meth c H locs 0 0 Q (F0 m 69 ls []))  : ∀ (n : Nat) (x3 : Int32) (x4 : Int32) (M : px_M), f_LE_startOf_L5 n o0 o1 x2 x3 x4 M = some (x, M') → ∀ (H : Heap) (locs : List Loc) (ls : Array Slot), px_W bs D px_cl (px_tys G) M H → va_S (fun q => bs ≤ q) s.heap H locs → lv_has ls 5 [(0, .ref o0), (1, .ref o1), (2, .int x2), (3, .int x3), (4, .int x4)] → W p l e ⟨2, 0, 0, 46⟩ s m args below meth c H locs 0 0 Q (F0 m 5 ls []) := by
  obtain ⟨hx, hb, hr, hml, hown, hnm, hlocks, hts, hK, hN, hO⟩ := C0
  intro n
  induction n with
  | zero => intro x3 x4 M hf; cases hf
  | succ n ih =>
    intro x3 x4 M hf H locs ls hM hS hl
    unfold f_LE_startOf_L5 at hf
    refine lv_iload hx hb d_LE_startOf_5 (lv_at hl 4 rfl) ?_
    refine lv_iload_n hx hb d_LE_startOf_7 rfl (lv_at hl 2 rfl) ?_
    refine lv_icmp_ge (tgt := 69) hx hb d_LE_startOf_8 (by decide) (fun c1 => ?_) (fun c1 => ?_)
    · have hf := px_ift hf c1
      obtain ⟨rfl, rfl⟩ := px_s2 hf
      exact kx _ _ _ hM hS (lv_sub hl [3] rfl)
    · have hf := px_iff hf c1
      refine lv_iload_n hx hb d_LE_startOf_11 rfl (lv_at hl 3 rfl) ?_
      refine lv_aload_n hx hb d_LE_startOf_12 rfl (lv_at hl 0 rfl) ?_
      obtain ⟨t2, h3, hf⟩ := px_bind hf
      refine px_rgr hx hb hts cl_LE hown hK hM 0 (by decide) (hts _ w_109) h3 d_LE_startOf_13 ?_
      refine lv_aload_n hx hb d_LE_startOf_16 rfl (lv_at hl 1 rfl) ?_
      obtain ⟨t4, h5, hf⟩ := px_bind hf
      refine px_rgrN hx hb hts cl_NA hown hK hM 0 (by decide) (hN _ n_247) h5 d_LE_startOf_17 ?_
      refine lv_iload hx hb d_LE_startOf_20 (lv_at hl 4 rfl) ?_
      obtain ⟨v6, h7, hf⟩ := px_bind hf
      refine px_rai hx hb hK hM 0 rfl h7 d_LE_startOf_22 ?_
      refine lv_bipush (v := 32) hx hb d_LE_startOf_23 (by decide) ?_
      refine lv_isub hx hb d_LE_startOf_25 ?_
      obtain ⟨v8, h9, hf⟩ := px_bind hf
      refine px_rai hx hb hK hM 0 rfl h9 d_LE_startOf_26 ?_
      refine lv_iadd hx hb d_LE_startOf_27 ?_
      refine lv_istore_n (lv' := [(3, .int (x3 + v8)), (0, .ref o0), (1, .ref o1), (2, .int x2), (4, .int x4)]) hx hb d_LE_startOf_28 rfl hl (by decide) rfl (fun ls hl => ?_)
      refine lv_iload hx hb d_LE_startOf_29 (lv_at hl 4 rfl) ?_
      refine lv_iconst (v := 1) hx hb d_LE_startOf_31 (by decide) ?_
      refine lv_iadd hx hb d_LE_startOf_32 ?_
      refine lv_aload_n hx hb d_LE_startOf_33 rfl (lv_at hl 2 rfl) ?_
      obtain ⟨v10, h11, hf⟩ := px_bind hf
      refine px_rgiN hx hb hts cl_NA hown hK hM 1 (by decide) (hN _ n_249) h11 d_LE_startOf_34 ?_
      refine lv_icmp_ge (tgt := 63) hx hb d_LE_startOf_37 (by decide) (fun c12 => ?_) (fun c12 => ?_)
      · have hf := px_ift hf c12
        refine lv_iinc (v := x4 + 1) (lv' := [(4, .int (x4 + 1)), (3, .int (x3 + v8)), (0, .ref o0), (1, .ref o1), (2, .int x2)]) hx hb d_LE_startOf_63 hl (k := 4) rfl (by rfl) (by decide) rfl (fun ls hl => ?_)
        refine lv_goto (tgt := 5) hx hb d_LE_startOf_66 (by decide) ?_
        exact ih (x3 + v8) (x4 + 1) M hf _ _ _ hM hS (lv_sub hl [2, 3, 4, 1, 0] rfl)
      · have hf := px_iff hf c12
        refine lv_iload_n hx hb d_LE_startOf_40 rfl (lv_at hl 0 rfl) ?_
        refine lv_aload_n hx hb d_LE_startOf_41 rfl (lv_at hl 1 rfl) ?_
        refine lv_aload_n hx hb d_LE_startOf_42 rfl (lv_at hl 2 rfl) ?_
        obtain ⟨t13, h14, hf⟩ := px_bind hf
        refine px_rgrN hx hb hts cl_NA hown hK hM 0 (by decide) (hN _ n_247) h14 d_LE_startOf_43 ?_
        refine lv_iload hx hb d_LE_startOf_46 (lv_at hl 4 rfl) ?_
        obtain ⟨v15, h16, hf⟩ := px_bind hf
        refine px_rai hx hb hK hM 0 rfl h16 d_LE_startOf_48 ?_
        refine lv_aload_n hx hb d_LE_startOf_49 rfl (lv_at hl 2 rfl) ?_
        obtain ⟨t17, h18, hf⟩ := px_bind hf
        refine px_rgrN hx hb hts cl_NA hown hK hM 0 (by decide) (hN _ n_247) h18 d_LE_startOf_50 ?_
        refine lv_iload hx hb d_LE_startOf_53 (lv_at hl 4 rfl) ?_
        refine lv_iconst (v := 1) hx hb d_LE_startOf_55 (by decide) ?_
        refine lv_iadd hx hb d_LE_startOf_56 ?_
        obtain ⟨v19, h20, hf⟩ := px_bind hf
        refine px_rai hx hb hK hM 0 rfl h20 d_LE_startOf_57 ?_
        obtain ⟨_, h24, hf⟩ := px_bind hf
        obtain ⟨⟨v23, M21⟩, h22, hf⟩ := px_bind hf
        dsimp only at hf
        refine px_calli (va_runV (As := [.int v15, .int v19]) (rest := [.int (x3 + v8)]) ⟨hx, hb, hml, hown, hts⟩ (c_LE_kernOf l bs D G o0 v15 v19 M h22) (cwV 2 hts (px_gV w_452 w_454 ws_LE_kernOf w_5 w_455) rfl rfl rfl (by decide +kernel) ⟨Nat.le_of_ble_eq_true rfl, Nat.le_of_ble_eq_true rfl⟩) (px_preV px_nwok hK hN hO hM h24 rfl) rfl rfl hl.1 rfl (lv_room (Nat.le_of_ble_eq_true rfl)) d_LE_startOf_58 ⟨Nat.le_of_ble_eq_true rfl, Nat.le_of_ble_eq_true rfl⟩) hS (fun H locs hM hS => ?_)
        refine lv_iadd hx hb d_LE_startOf_61 ?_
        refine lv_istore_n (lv' := [(3, .int ((x3 + v8) + v23)), (0, .ref o0), (1, .ref o1), (2, .int x2), (4, .int x4)]) hx hb d_LE_startOf_62 rfl hl (by decide) rfl (fun ls hl => ?_)
        refine lv_iinc (v := x4 + 1) (lv' := [(4, .int (x4 + 1)), (3, .int ((x3 + v8) + v23)), (0, .ref o0), (1, .ref o1), (2, .int x2)]) hx hb d_LE_startOf_63 hl (k := 4) rfl (by rfl) (by decide) rfl (fun ls hl => ?_)
        refine lv_goto (tgt := 5) hx hb d_LE_startOf_66 (by decide) ?_
        exact ih ((x3 + v8) + v23) (x4 + 1) M21 hf _ _ _ hM hS (lv_sub hl [2, 3, 4, 1, 0] rfl)
def f_LE_startOf (o0 : Nat) (o1 : Nat) (x2 : Int32) (M : px_M) : Option (Int32 × px_M) :=
  (f_LE_startOf_L5 px_fuel o0 o1 x2 0 0 M).bind fun (v27, M25) =>
  some (v27, M25)
set_option maxHeartbeats 4000000 in
set_option maxRecDepth 100000 in
theorem c_LE_startOf (l : Launch) (bs : Nat) (D : va_G) (G : Nat → ClassId) (o0 : Nat) (o1 : Nat) (x2 : Int32) (M : px_M) {r : Int32} {M' : px_M} (hf : f_LE_startOf o0 o1 x2 M = some (r, M')) : Met l y_LE_startOf (.code y_LE_startOf b_LE_startOf 5 (some .int) :: px_tw) ⟨2, 0, 0, 46⟩ (va_Pc [.ref o0, .ref o1, .int x2] (px_B bs D px_cl (px_tys G) px_nw px_over M)) (px_Qi bs D px_cl (px_tys G) r M') 0 0 (fun q => bs ≤ q) := by
  refine px_of (by decide) (Nat.le_of_ble_eq_true rfl) ?_
  intro p e s m below meth c ls C0 hM hS hl
  obtain ⟨hx, hb, hr, hml, hown, hnm, hlocks, hts, hK, hN, hO⟩ := C0
  have hl : lv_has ls 5 [(0, .ref o0), (1, .ref o1), (2, .int x2)] := hl
  unfold f_LE_startOf at hf
  refine lv_iconst (v := 0) hx hb d_LE_startOf_0 (by decide) ?_
  refine lv_istore_n (lv' := [(3, .int 0), (0, .ref o0), (1, .ref o1), (2, .int x2)]) hx hb d_LE_startOf_1 rfl hl (by decide) rfl (fun ls hl => ?_)
  refine lv_iconst (v := 0) hx hb d_LE_startOf_2 (by decide) ?_
  refine lv_istore (lv' := [(4, .int 0), (3, .int 0), (0, .ref o0), (1, .ref o1), (2, .int x2)]) hx hb d_LE_startOf_3 hl (by decide) rfl (fun ls hl => ?_)
  obtain ⟨⟨v27, M25⟩, h26, hf⟩ := px_bind hf
  dsimp only at hf
  refine lp_LE_startOf_L5 ⟨hx, hb, hr, hml, hown, hnm, hlocks, hts, hK, hN, hO⟩ _ M25 o0 o1 x2 (fun H locs ls hM hS hl => ?_) px_fuel 0 0 M h26 _ _ _ hM hS (lv_sub hl [2, 3, 4, 1, 0] rfl)
  try dsimp only at hl
  refine lv_iload_n hx hb d_LE_startOf_69 rfl (lv_at hl 0 rfl) ?_
  obtain ⟨rfl, rfl⟩ := px_s2 hf
  exact px_iret hx hb hr hlocks hM hS d_LE_startOf_70
def f_LE_fieldOf (o0 : Nat) (o1 : Nat) (M : px_M) : Option (Int32 × px_M) :=
  (px_gi 9 1 M o1).bind fun v1 =>
  (px_ob 4 M o0).bind fun _ =>
  (f_LE_startOf o0 o1 v1 M).bind fun (v5, M3) =>
  some (v5, M3)
set_option maxHeartbeats 4000000 in
set_option maxRecDepth 100000 in
theorem c_LE_fieldOf (l : Launch) (bs : Nat) (D : va_G) (G : Nat → ClassId) (o0 : Nat) (o1 : Nat) (M : px_M) {r : Int32} {M' : px_M} (hf : f_LE_fieldOf o0 o1 M = some (r, M')) : Met l y_LE_fieldOf (.code y_LE_fieldOf b_LE_fieldOf 2 (some .int) :: px_tw) ⟨3, 0, 0, 70⟩ (va_Pc [.ref o0, .ref o1] (px_B bs D px_cl (px_tys G) px_nw px_over M)) (px_Qi bs D px_cl (px_tys G) r M') 0 0 (fun q => bs ≤ q) := by
  refine px_of (by decide) (Nat.le_of_ble_eq_true rfl) ?_
  intro p e s m below meth c ls C0 hM hS hl
  obtain ⟨hx, hb, hr, hml, hown, hnm, hlocks, hts, hK, hN, hO⟩ := C0
  have hl : lv_has ls 2 [(0, .ref o0), (1, .ref o1)] := hl
  unfold f_LE_fieldOf at hf
  refine lv_aload_n hx hb d_LE_fieldOf_0 rfl (lv_at hl 0 rfl) ?_
  refine lv_aload_n hx hb d_LE_fieldOf_1 rfl (lv_at hl 1 rfl) ?_
  refine lv_aload_n hx hb d_LE_fieldOf_2 rfl (lv_at hl 1 rfl) ?_
  obtain ⟨v1, h2, hf⟩ := px_bind hf
  refine px_rgiN hx hb hts cl_NA hown hK hM 1 (by decide) (hN _ n_249) h2 d_LE_fieldOf_3 ?_
  obtain ⟨_, h6, hf⟩ := px_bind hf
  obtain ⟨⟨v5, M3⟩, h4, hf⟩ := px_bind hf
  dsimp only at hf
  refine px_calli (va_runV (As := [.ref o1, .int v1]) (rest := []) ⟨hx, hb, hml, hown, hts⟩ (c_LE_startOf l bs D G o0 o1 v1 M h4) (cwV 2 hts (px_gV w_448 w_449 w_450 w_5 w_451) rfl rfl rfl (by decide +kernel) ⟨Nat.le_of_ble_eq_true rfl, Nat.le_of_ble_eq_true rfl⟩) (px_preV px_nwok hK hN hO hM h6 rfl) rfl rfl hl.1 rfl (lv_room (Nat.le_of_ble_eq_true rfl)) d_LE_fieldOf_6 ⟨Nat.le_of_ble_eq_true rfl, Nat.le_of_ble_eq_true rfl⟩) hS (fun H locs hM hS => ?_)
  obtain ⟨rfl, rfl⟩ := px_s2 hf
  exact px_iret hx hb hr hlocks hM hS d_LE_fieldOf_9
def f_SB_width (o0 : Nat) (x1 : Int32) (x2 : Int32) (M : px_M) : Option (Int32 × px_M) :=
  (px_ob 0 M o0).bind fun _ =>
  (f_SB_isName o0 x1 M).bind fun (v3, M1) =>
  if v3 = 0 then
  some ((-1), M1)
  else
  (f_SB_isSpeed x2 M1).bind fun (v7, M5) =>
  if v7 = 0 then
  some ((-1), M5)
  else
  (px_gr 0 4 M5 o0).bind fun t9 =>
  (px_gr 0 5 M5 o0).bind fun t11 =>
  (px_ar 1 M5 t11 x1).bind fun t13 =>
  (px_ob 4 M5 t9).bind fun _ =>
  (f_LE_fieldOf t9 t13 M5).bind fun (v17, M15) =>
  (px_gr 0 2 M15 o0).bind fun t18 =>
  (px_ob 3 M15 t18).bind fun _ =>
  (f_RS_heightAt t18 x2 M15).bind fun (v22, M20) =>
  some (v17 * v22, M20)
set_option maxHeartbeats 4000000 in
set_option maxRecDepth 100000 in
theorem c_SB_width (l : Launch) (bs : Nat) (D : va_G) (G : Nat → ClassId) (o0 : Nat) (x1 : Int32) (x2 : Int32) (M : px_M) {r : Int32} {M' : px_M} (hf : f_SB_width o0 x1 x2 M = some (r, M')) : Met l y_SB_width (.code y_SB_width b_SB_width 3 (some .int) :: px_tw) ⟨4, 0, 0, 91⟩ (va_Pc [.ref o0, .int x1, .int x2] (px_B bs D px_cl (px_tys G) px_nw px_over M)) (px_Qi bs D px_cl (px_tys G) r M') 0 0 (fun q => bs ≤ q) := by
  refine px_of (by decide) (Nat.le_of_ble_eq_true rfl) ?_
  intro p e s m below meth c ls C0 hM hS hl
  obtain ⟨hx, hb, hr, hml, hown, hnm, hlocks, hts, hK, hN, hO⟩ := C0
  have hl : lv_has ls 3 [(0, .ref o0), (1, .int x1), (2, .int x2)] := hl
  unfold f_SB_width at hf
  refine lv_aload_n hx hb d_SB_width_0 rfl (lv_at hl 0 rfl) ?_
  refine lv_iload_n hx hb d_SB_width_1 rfl (lv_at hl 1 rfl) ?_
  obtain ⟨_, h25, hf⟩ := px_bind hf
  obtain ⟨⟨v3, M1⟩, h2, hf⟩ := px_bind hf
  dsimp only at hf
  refine px_calli (va_runV (As := [.int x1]) (rest := []) ⟨hx, hb, hml, hown, hts⟩ (c_SB_isName l bs D G o0 x1 M h2) (cwV 1 hts (px_gV w_440 w_442 ws_SB_isName w_1 w_443) rfl rfl rfl (by decide +kernel) ⟨Nat.le_of_ble_eq_true rfl, Nat.le_of_ble_eq_true rfl⟩) (px_preV px_nwok hK hN hO hM h25 rfl) rfl rfl hl.1 rfl (lv_room (Nat.le_of_ble_eq_true rfl)) d_SB_width_2 ⟨Nat.le_of_ble_eq_true rfl, Nat.le_of_ble_eq_true rfl⟩) hS (fun H locs hM hS => ?_)
  refine lv_if_eq (tgt := 15) hx hb d_SB_width_5 (by decide) (fun c4 => ?_) (fun c4 => ?_)
  · have hf := px_ift hf c4
    refine lv_iconst (v := (-1)) hx hb d_SB_width_15 (by decide) ?_
    obtain ⟨rfl, rfl⟩ := px_s2 hf
    exact px_iret hx hb hr hlocks hM hS d_SB_width_16
  · have hf := px_iff hf c4
    refine lv_iload_n hx hb d_SB_width_8 rfl (lv_at hl 2 rfl) ?_
    obtain ⟨⟨v7, M5⟩, h6, hf⟩ := px_bind hf
    dsimp only at hf
    refine px_calli (va_runS (As := [.int x2]) (rest := []) ⟨hx, hb, hml, hown, hts⟩ (c_SB_isSpeed l bs D G x2 M1 h6) (cwS 1 hts (px_gS w_429 w_430 w_1 w_431) rfl rfl rfl (by decide +kernel) ⟨Nat.le_of_ble_eq_true rfl, Nat.le_of_ble_eq_true rfl⟩) (px_preS px_nwok hK hN hO hM) rfl rfl hl.1 rfl (lv_room (Nat.le_of_ble_eq_true rfl)) d_SB_width_9 ⟨Nat.le_of_ble_eq_true rfl, Nat.le_of_ble_eq_true rfl⟩) hS (fun H locs hM hS => ?_)
    refine lv_if_ne (tgt := 17) hx hb d_SB_width_12 (by decide) (fun c8 => ?_) (fun c8 => ?_)
    · have hf := px_iff hf c8
      refine lv_aload_n hx hb d_SB_width_17 rfl (lv_at hl 0 rfl) ?_
      obtain ⟨t9, h10, hf⟩ := px_bind hf
      refine px_rgr hx hb hts cl_SB hown hK hM 4 (by decide) (hts _ w_296) h10 d_SB_width_18 ?_
      refine lv_aload_n hx hb d_SB_width_21 rfl (lv_at hl 0 rfl) ?_
      obtain ⟨t11, h12, hf⟩ := px_bind hf
      refine px_rgr hx hb hts cl_SB hown hK hM 5 (by decide) (hts _ w_297) h12 d_SB_width_22 ?_
      refine lv_iload_n hx hb d_SB_width_25 rfl (lv_at hl 1 rfl) ?_
      obtain ⟨t13, h14, hf⟩ := px_bind hf
      refine px_rar hx hb hK hM 1 rfl h14 d_SB_width_26 ?_
      obtain ⟨_, h24, hf⟩ := px_bind hf
      obtain ⟨⟨v17, M15⟩, h16, hf⟩ := px_bind hf
      dsimp only at hf
      refine px_calli (va_runV (As := [.ref t13]) (rest := []) ⟨hx, hb, hml, hown, hts⟩ (c_LE_fieldOf l bs D G t9 t13 M5 h16) (cwV 1 hts (px_gV w_444 w_445 w_446 w_5 w_447) rfl rfl rfl (by decide +kernel) ⟨Nat.le_of_ble_eq_true rfl, Nat.le_of_ble_eq_true rfl⟩) (px_preV px_nwok hK hN hO hM h24 rfl) rfl rfl hl.1 rfl (lv_room (Nat.le_of_ble_eq_true rfl)) d_SB_width_27 ⟨Nat.le_of_ble_eq_true rfl, Nat.le_of_ble_eq_true rfl⟩) hS (fun H locs hM hS => ?_)
      refine lv_aload_n hx hb d_SB_width_30 rfl (lv_at hl 0 rfl) ?_
      obtain ⟨t18, h19, hf⟩ := px_bind hf
      refine px_rgr hx hb hts cl_SB hown hK hM 2 (by decide) (hts _ w_294) h19 d_SB_width_31 ?_
      refine lv_iload_n hx hb d_SB_width_34 rfl (lv_at hl 2 rfl) ?_
      obtain ⟨_, h23, hf⟩ := px_bind hf
      obtain ⟨⟨v22, M20⟩, h21, hf⟩ := px_bind hf
      dsimp only at hf
      refine px_calli (va_runV (As := [.int x2]) (rest := [.int v17]) ⟨hx, hb, hml, hown, hts⟩ (c_RS_heightAt l bs D G t18 x2 M15 h21) (cwV 1 hts (px_gV w_432 w_433 w_434 w_4 w_435) rfl rfl rfl (by decide +kernel) ⟨Nat.le_of_ble_eq_true rfl, Nat.le_of_ble_eq_true rfl⟩) (px_preV px_nwok hK hN hO hM h23 rfl) rfl rfl hl.1 rfl (lv_room (Nat.le_of_ble_eq_true rfl)) d_SB_width_35 ⟨Nat.le_of_ble_eq_true rfl, Nat.le_of_ble_eq_true rfl⟩) hS (fun H locs hM hS => ?_)
      refine lv_imul hx hb d_SB_width_38 ?_
      obtain ⟨rfl, rfl⟩ := px_s2 hf
      exact px_iret hx hb hr hlocks hM hS d_SB_width_39
    · have hf := px_ift hf c8
      refine lv_iconst (v := (-1)) hx hb d_SB_width_15 (by decide) ?_
      obtain ⟨rfl, rfl⟩ := px_s2 hf
      exact px_iret hx hb hr hlocks hM hS d_SB_width_16
def f_SB_isNode (x0 : Int32) (M : px_M) : Option (Int32 × px_M) :=
  (f_SB_isWithin x0 0 9 M).bind fun (v3, M1) =>
  if v3 = 0 ∨ v3 = 1 then
  some (v3, M1)
  else none
set_option maxHeartbeats 4000000 in
set_option maxRecDepth 100000 in
theorem c_SB_isNode (l : Launch) (bs : Nat) (D : va_G) (G : Nat → ClassId) (x0 : Int32) (M : px_M) {r : Int32} {M' : px_M} (hf : f_SB_isNode x0 M = some (r, M')) : Met l y_SB_isNode (.code y_SB_isNode b_SB_isNode 1 (some .boolean) :: px_tw) ⟨1, 0, 0, 22⟩ (va_Pc [.int x0] (px_B bs D px_cl (px_tys G) px_nw px_over M)) (px_Qi bs D px_cl (px_tys G) r M') 0 0 (fun q => bs ≤ q) := by
  refine px_of (by decide) (Nat.le_of_ble_eq_true rfl) ?_
  intro p e s m below meth c ls C0 hM hS hl
  obtain ⟨hx, hb, hr, hml, hown, hnm, hlocks, hts, hK, hN, hO⟩ := C0
  have hl : lv_has ls 1 [(0, .int x0)] := hl
  unfold f_SB_isNode at hf
  refine lv_iload_n hx hb d_SB_isNode_0 rfl (lv_at hl 0 rfl) ?_
  refine lv_iconst (v := 0) hx hb d_SB_isNode_1 (by decide) ?_
  refine lv_bipush (v := 9) hx hb d_SB_isNode_2 (by decide) ?_
  obtain ⟨⟨v3, M1⟩, h2, hf⟩ := px_bind hf
  dsimp only at hf
  refine px_calli (va_runS (As := [.int x0, .int 0, .int 9]) (rest := []) ⟨hx, hb, hml, hown, hts⟩ (c_SB_isWithin l bs D G x0 0 9 M h2) (cwS 3 hts (px_gS w_339 w_340 w_1 w_341) rfl rfl rfl (by decide +kernel) ⟨Nat.le_of_ble_eq_true rfl, Nat.le_of_ble_eq_true rfl⟩) (px_preS px_nwok hK hN hO hM) rfl rfl hl.1 rfl (lv_room (Nat.le_of_ble_eq_true rfl)) d_SB_isNode_4 ⟨Nat.le_of_ble_eq_true rfl, Nat.le_of_ble_eq_true rfl⟩) hS (fun H locs hM hS => ?_)
  have hz : v3 = 0 ∨ v3 = 1 := Classical.byContradiction fun q => (by have q2 := px_iff hf q; cases q2)
  have hf := px_ift hf hz
  obtain ⟨rfl, rfl⟩ := px_s2 hf
  exact px_zret hx hb hr (px_nz hz) hlocks hM hS d_SB_isNode_7
def f_RO_addWay (o0 : Nat) (x1 : Int32) (x2 : Int32) (x3 : Int32) (M : px_M) : Option (Int32 × px_M) :=
  (px_gi 5 5 M o0).bind fun v1 =>
  if v1 < 24 then
  (px_gi 5 5 M o0).bind fun v4 =>
  (px_gr 5 0 M o0).bind fun t6 =>
  (px_si 0 M t6 v4 x1).bind fun M8 =>
  (px_gr 5 1 M8 o0).bind fun t10 =>
  (px_si 0 M8 t10 v4 x2).bind fun M12 =>
  (px_gr 5 2 M12 o0).bind fun t14 =>
  (px_si 0 M12 t14 v4 x3).bind fun M16 =>
  (px_gi 5 5 M16 o0).bind fun v18 =>
  (px_pt 5 5 M16 o0 (.int (v18 + 1))).bind fun M20 =>
  some (v4, M20)
  else
  some ((-1), M)
set_option maxHeartbeats 4000000 in
set_option maxRecDepth 100000 in
theorem c_RO_addWay (l : Launch) (bs : Nat) (D : va_G) (G : Nat → ClassId) (o0 : Nat) (x1 : Int32) (x2 : Int32) (x3 : Int32) (M : px_M) {r : Int32} {M' : px_M} (hf : f_RO_addWay o0 x1 x2 x3 M = some (r, M')) : Met l y_RO_addWay (.code y_RO_addWay b_RO_addWay 5 (some .int) :: px_tw) ⟨0, 0, 0, 0⟩ (va_Pc [.ref o0, .int x1, .int x2, .int x3] (px_B bs D px_cl (px_tys G) px_nw px_over M)) (px_Qi bs D px_cl (px_tys G) r M') 0 0 (fun q => bs ≤ q) := by
  refine px_of (by decide) (Nat.le_of_ble_eq_true rfl) ?_
  intro p e s m below meth c ls C0 hM hS hl
  obtain ⟨hx, hb, hr, hml, hown, hnm, hlocks, hts, hK, hN, hO⟩ := C0
  have hl : lv_has ls 5 [(0, .ref o0), (1, .int x1), (2, .int x2), (3, .int x3)] := hl
  unfold f_RO_addWay at hf
  refine lv_aload_n hx hb d_RO_addWay_0 rfl (lv_at hl 0 rfl) ?_
  obtain ⟨v1, h2, hf⟩ := px_bind hf
  refine px_rgi hx hb hts cl_RO hown hK hM 5 (by decide) (hts _ w_142) h2 d_RO_addWay_1 ?_
  refine lv_bipush (v := 24) hx hb d_RO_addWay_4 (by decide) ?_
  refine lv_icmp_lt (tgt := 11) hx hb d_RO_addWay_6 (by decide) (fun c3 => ?_) (fun c3 => ?_)
  · have hf := px_ift hf c3
    refine lv_aload_n hx hb d_RO_addWay_11 rfl (lv_at hl 0 rfl) ?_
    obtain ⟨v4, h5, hf⟩ := px_bind hf
    refine px_rgi hx hb hts cl_RO hown hK hM 5 (by decide) (hts _ w_142) h5 d_RO_addWay_12 ?_
    refine lv_istore (lv' := [(4, .int v4), (0, .ref o0), (1, .int x1), (2, .int x2), (3, .int x3)]) hx hb d_RO_addWay_15 hl (by decide) rfl (fun ls hl => ?_)
    refine lv_aload_n hx hb d_RO_addWay_17 rfl (lv_at hl 1 rfl) ?_
    obtain ⟨t6, h7, hf⟩ := px_bind hf
    refine px_rgr hx hb hts cl_RO hown hK hM 0 (by decide) (hts _ w_134) h7 d_RO_addWay_18 ?_
    refine lv_iload hx hb d_RO_addWay_21 (lv_at hl 0 rfl) ?_
    refine lv_iload_n hx hb d_RO_addWay_23 rfl (lv_at hl 2 rfl) ?_
    obtain ⟨M8, h9, hf⟩ := px_bind hf
    refine px_rsi hx hb hK hM hS 0 rfl h9 d_RO_addWay_24 (fun H locs hM hS => ?_)
    refine lv_aload_n hx hb d_RO_addWay_25 rfl (lv_at hl 1 rfl) ?_
    obtain ⟨t10, h11, hf⟩ := px_bind hf
    refine px_rgr hx hb hts cl_RO hown hK hM 1 (by decide) (hts _ w_135) h11 d_RO_addWay_26 ?_
    refine lv_iload hx hb d_RO_addWay_29 (lv_at hl 0 rfl) ?_
    refine lv_iload_n hx hb d_RO_addWay_31 rfl (lv_at hl 3 rfl) ?_
    obtain ⟨M12, h13, hf⟩ := px_bind hf
    refine px_rsi hx hb hK hM hS 0 rfl h13 d_RO_addWay_32 (fun H locs hM hS => ?_)
    refine lv_aload_n hx hb d_RO_addWay_33 rfl (lv_at hl 1 rfl) ?_
    obtain ⟨t14, h15, hf⟩ := px_bind hf
    refine px_rgr hx hb hts cl_RO hown hK hM 2 (by decide) (hts _ w_138) h15 d_RO_addWay_34 ?_
    refine lv_iload hx hb d_RO_addWay_37 (lv_at hl 0 rfl) ?_
    refine lv_iload_n hx hb d_RO_addWay_39 rfl (lv_at hl 4 rfl) ?_
    obtain ⟨M16, h17, hf⟩ := px_bind hf
    refine px_rsi hx hb hK hM hS 0 rfl h17 d_RO_addWay_40 (fun H locs hM hS => ?_)
    refine lv_aload_n hx hb d_RO_addWay_41 rfl (lv_at hl 1 rfl) ?_
    refine lv_dup hx hb d_RO_addWay_42 rfl ?_
    obtain ⟨v18, h19, hf⟩ := px_bind hf
    refine px_rgi hx hb hts cl_RO hown hK hM 5 (by decide) (hts _ w_142) h19 d_RO_addWay_43 ?_
    refine lv_iconst (v := 1) hx hb d_RO_addWay_46 (by decide) ?_
    refine lv_iadd hx hb d_RO_addWay_47 ?_
    obtain ⟨M20, h21, hf⟩ := px_bind hf
    refine px_rpt hx hb hts cl_RO hown hK hM hS 5 (by decide) (hts _ w_142) rfl rfl rfl h21 d_RO_addWay_48 (fun H locs hM hS => ?_)
    refine lv_iload hx hb d_RO_addWay_51 (lv_at hl 0 rfl) ?_
    obtain ⟨rfl, rfl⟩ := px_s2 hf
    exact px_iret hx hb hr hlocks hM hS d_RO_addWay_53
  · have hf := px_iff hf c3
    refine lv_iconst (v := (-1)) hx hb d_RO_addWay_9 (by decide) ?_
    obtain ⟨rfl, rfl⟩ := px_s2 hf
    exact px_iret hx hb hr hlocks hM hS d_RO_addWay_10
def f_SB_way (o0 : Nat) (x1 : Int32) (x2 : Int32) (x3 : Int32) (M : px_M) : Option (Int32 × px_M) :=
  (f_SB_isNode x1 M).bind fun (v3, M1) =>
  if v3 = 0 then
  some ((-1), M1)
  else
  (f_SB_isNode x2 M1).bind fun (v7, M5) =>
  if v7 = 0 then
  some ((-1), M5)
  else
  (f_SB_isWithin x3 1 100000 M5).bind fun (v11, M9) =>
  if v11 = 0 then
  some ((-1), M9)
  else
  (px_gr 0 7 M9 o0).bind fun t13 =>
  (px_ob 5 M9 t13).bind fun _ =>
  (f_RO_addWay t13 x1 x2 x3 M9).bind fun (v17, M15) =>
  some (v17, M15)
set_option maxHeartbeats 4000000 in
set_option maxRecDepth 100000 in
theorem c_SB_way (l : Launch) (bs : Nat) (D : va_G) (G : Nat → ClassId) (o0 : Nat) (x1 : Int32) (x2 : Int32) (x3 : Int32) (M : px_M) {r : Int32} {M' : px_M} (hf : f_SB_way o0 x1 x2 x3 M = some (r, M')) : Met l y_SB_way (.code y_SB_way b_SB_way 4 (some .int) :: px_tw) ⟨2, 0, 0, 42⟩ (va_Pc [.ref o0, .int x1, .int x2, .int x3] (px_B bs D px_cl (px_tys G) px_nw px_over M)) (px_Qi bs D px_cl (px_tys G) r M') 0 0 (fun q => bs ≤ q) := by
  refine px_of (by decide) (Nat.le_of_ble_eq_true rfl) ?_
  intro p e s m below meth c ls C0 hM hS hl
  obtain ⟨hx, hb, hr, hml, hown, hnm, hlocks, hts, hK, hN, hO⟩ := C0
  have hl : lv_has ls 4 [(0, .ref o0), (1, .int x1), (2, .int x2), (3, .int x3)] := hl
  unfold f_SB_way at hf
  refine lv_iload_n hx hb d_SB_way_0 rfl (lv_at hl 1 rfl) ?_
  obtain ⟨⟨v3, M1⟩, h2, hf⟩ := px_bind hf
  dsimp only at hf
  refine px_calli (va_runS (As := [.int x1]) (rest := []) ⟨hx, hb, hml, hown, hts⟩ (c_SB_isNode l bs D G x1 M h2) (cwS 1 hts (px_gS w_460 w_461 w_1 w_462) rfl rfl rfl (by decide +kernel) ⟨Nat.le_of_ble_eq_true rfl, Nat.le_of_ble_eq_true rfl⟩) (px_preS px_nwok hK hN hO hM) rfl rfl hl.1 rfl (lv_room (Nat.le_of_ble_eq_true rfl)) d_SB_way_1 ⟨Nat.le_of_ble_eq_true rfl, Nat.le_of_ble_eq_true rfl⟩) hS (fun H locs hM hS => ?_)
  refine lv_if_eq (tgt := 24) hx hb d_SB_way_4 (by decide) (fun c4 => ?_) (fun c4 => ?_)
  · have hf := px_ift hf c4
    refine lv_iconst (v := (-1)) hx hb d_SB_way_24 (by decide) ?_
    obtain ⟨rfl, rfl⟩ := px_s2 hf
    exact px_iret hx hb hr hlocks hM hS d_SB_way_25
  · have hf := px_iff hf c4
    refine lv_iload_n hx hb d_SB_way_7 rfl (lv_at hl 2 rfl) ?_
    obtain ⟨⟨v7, M5⟩, h6, hf⟩ := px_bind hf
    dsimp only at hf
    refine px_calli (va_runS (As := [.int x2]) (rest := []) ⟨hx, hb, hml, hown, hts⟩ (c_SB_isNode l bs D G x2 M1 h6) (cwS 1 hts (px_gS w_460 w_461 w_1 w_462) rfl rfl rfl (by decide +kernel) ⟨Nat.le_of_ble_eq_true rfl, Nat.le_of_ble_eq_true rfl⟩) (px_preS px_nwok hK hN hO hM) rfl rfl hl.1 rfl (lv_room (Nat.le_of_ble_eq_true rfl)) d_SB_way_8 ⟨Nat.le_of_ble_eq_true rfl, Nat.le_of_ble_eq_true rfl⟩) hS (fun H locs hM hS => ?_)
    refine lv_if_eq (tgt := 24) hx hb d_SB_way_11 (by decide) (fun c8 => ?_) (fun c8 => ?_)
    · have hf := px_ift hf c8
      refine lv_iconst (v := (-1)) hx hb d_SB_way_24 (by decide) ?_
      obtain ⟨rfl, rfl⟩ := px_s2 hf
      exact px_iret hx hb hr hlocks hM hS d_SB_way_25
    · have hf := px_iff hf c8
      refine lv_iload_n hx hb d_SB_way_14 rfl (lv_at hl 3 rfl) ?_
      refine lv_iconst (v := 1) hx hb d_SB_way_15 (by decide) ?_
      refine lv_ldc (v := 100000) hx hb hown (hts _ w_463) d_SB_way_16 ?_
      obtain ⟨⟨v11, M9⟩, h10, hf⟩ := px_bind hf
      dsimp only at hf
      refine px_calli (va_runS (As := [.int x3, .int 1, .int 100000]) (rest := []) ⟨hx, hb, hml, hown, hts⟩ (c_SB_isWithin l bs D G x3 1 100000 M5 h10) (cwS 3 hts (px_gS w_339 w_340 w_1 w_341) rfl rfl rfl (by decide +kernel) ⟨Nat.le_of_ble_eq_true rfl, Nat.le_of_ble_eq_true rfl⟩) (px_preS px_nwok hK hN hO hM) rfl rfl hl.1 rfl (lv_room (Nat.le_of_ble_eq_true rfl)) d_SB_way_18 ⟨Nat.le_of_ble_eq_true rfl, Nat.le_of_ble_eq_true rfl⟩) hS (fun H locs hM hS => ?_)
      refine lv_if_ne (tgt := 26) hx hb d_SB_way_21 (by decide) (fun c12 => ?_) (fun c12 => ?_)
      · have hf := px_iff hf c12
        refine lv_aload_n hx hb d_SB_way_26 rfl (lv_at hl 0 rfl) ?_
        obtain ⟨t13, h14, hf⟩ := px_bind hf
        refine px_rgr hx hb hts cl_SB hown hK hM 7 (by decide) (hts _ w_299) h14 d_SB_way_27 ?_
        refine lv_iload_n hx hb d_SB_way_30 rfl (lv_at hl 1 rfl) ?_
        refine lv_iload_n hx hb d_SB_way_31 rfl (lv_at hl 2 rfl) ?_
        refine lv_iload_n hx hb d_SB_way_32 rfl (lv_at hl 3 rfl) ?_
        obtain ⟨_, h18, hf⟩ := px_bind hf
        obtain ⟨⟨v17, M15⟩, h16, hf⟩ := px_bind hf
        dsimp only at hf
        refine px_calli (va_runV (As := [.int x1, .int x2, .int x3]) (rest := []) ⟨hx, hb, hml, hown, hts⟩ (c_RO_addWay l bs D G t13 x1 x2 x3 M9 h16) (cwV 3 hts (px_gV w_464 w_465 w_466 w_6 w_467) rfl rfl rfl (by decide +kernel) ⟨Nat.le_of_ble_eq_true rfl, Nat.le_of_ble_eq_true rfl⟩) (px_preV px_nwok hK hN hO hM h18 rfl) rfl rfl hl.1 rfl (lv_room (Nat.le_of_ble_eq_true rfl)) d_SB_way_33 ⟨Nat.le_of_ble_eq_true rfl, Nat.le_of_ble_eq_true rfl⟩) hS (fun H locs hM hS => ?_)
        obtain ⟨rfl, rfl⟩ := px_s2 hf
        exact px_iret hx hb hr hlocks hM hS d_SB_way_36
      · have hf := px_ift hf c12
        refine lv_iconst (v := (-1)) hx hb d_SB_way_24 (by decide) ?_
        obtain ⟨rfl, rfl⟩ := px_s2 hf
        exact px_iret hx hb hr hlocks hM hS d_SB_way_25
