def f_MO_kern (o0 : Nat) (x1 : Int32) (x2 : Int32) (x3 : Int32) (M : px_M) : Option (Int32 × px_M) :=
  (f_MO_isSign x1 M).bind fun (v3, M1) =>
  if v3 = 0 then
  some (0, M1)
  else
  (f_MO_isSign x2 M1).bind fun (v7, M5) =>
  if v7 = 0 then
  some (0, M5)
  else
  if x3 < ((-16)) then
  some (0, M5)
  else
  if x3 ≤ 16 then
  (px_ob 11 M5 o0).bind fun _ =>
  (f_MO_pairOf o0 x1 x2 M5).bind fun (v13, M11) =>
  if v13 = 60 then
  some (0, M11)
  else
  (px_gr 11 18 M11 o0).bind fun t15 =>
  (px_si 0 M11 t15 v13 x1).bind fun M17 =>
  (px_gr 11 19 M17 o0).bind fun t19 =>
  (px_si 0 M17 t19 v13 x2).bind fun M21 =>
  (px_gr 11 20 M21 o0).bind fun t23 =>
  (px_si 0 M21 t23 v13 x3).bind fun M25 =>
  (px_gi 11 17 M25 o0).bind fun v27 =>
  if v13 = v27 then
  (px_gi 11 17 M25 o0).bind fun v34 =>
  (px_pt 11 17 M25 o0 (.int (v34 + 1))).bind fun M36 =>
  some (1, M36)
  else
  (px_gi 11 17 M25 o0).bind fun v30 =>
  (px_pt 11 17 M25 o0 (.int v30)).bind fun M32 =>
  some (1, M32)
  else
  some (0, M5)
set_option maxHeartbeats 4000000 in
set_option maxRecDepth 100000 in
theorem c_MO_kern (l : Launch) (bs : Nat) (D : va_G) (G : Nat → ClassId) (o0 : Nat) (x1 : Int32) (x2 : Int32) (x3 : Int32) (M : px_M) {r : Int32} {M' : px_M} (hf : f_MO_kern o0 x1 x2 x3 M = some (r, M')) : Met l y_MO_kern (.code y_MO_kern b_MO_kern 5 (some .boolean) :: px_tw) ⟨1, 0, 0, 23⟩ (va_Pc [.ref o0, .int x1, .int x2, .int x3] (px_B bs D px_cl (px_tys G) px_nw px_over M)) (px_Qi bs D px_cl (px_tys G) r M') 0 0 (fun q => bs ≤ q) := by
  refine px_of (by decide) (Nat.le_of_ble_eq_true rfl) ?_
  intro p e s m below meth c ls C0 hM hS hl
  obtain ⟨hx, hb, hr, hml, hown, hnm, hlocks, hts, hK, hN, hO⟩ := C0
  have hl : lv_has ls 5 [(0, .ref o0), (1, .int x1), (2, .int x2), (3, .int x3)] := hl
  unfold f_MO_kern at hf
  refine lv_iload_n hx hb d_MO_kern_0 rfl (lv_at hl 1 rfl) ?_
  obtain ⟨⟨v3, M1⟩, h2, hf⟩ := px_bind hf
  dsimp only at hf
  refine px_calli (va_runS (As := [.int x1]) (rest := []) ⟨hx, hb, hml, hown, hts⟩ (c_MO_isSign l bs D G x1 M h2) (cwS 1 hts (px_gS w_776 w_777 w_12 w_778) rfl rfl rfl (by decide +kernel) ⟨Nat.le_of_ble_eq_true rfl, Nat.le_of_ble_eq_true rfl⟩) (px_preS px_nwok hK hN hO hM) rfl rfl hl.1 rfl (lv_room (Nat.le_of_ble_eq_true rfl)) d_MO_kern_1 ⟨Nat.le_of_ble_eq_true rfl, Nat.le_of_ble_eq_true rfl⟩) hS (fun H locs hM hS => ?_)
  refine lv_if_eq (tgt := 26) hx hb d_MO_kern_4 (by decide) (fun c4 => ?_) (fun c4 => ?_)
  · have hf := px_ift hf c4
    refine lv_iconst (v := 0) hx hb d_MO_kern_26 (by decide) ?_
    obtain ⟨rfl, rfl⟩ := px_s2 hf
    exact px_zret hx hb hr rfl hlocks hM hS d_MO_kern_27
  · have hf := px_iff hf c4
    refine lv_iload_n hx hb d_MO_kern_7 rfl (lv_at hl 2 rfl) ?_
    obtain ⟨⟨v7, M5⟩, h6, hf⟩ := px_bind hf
    dsimp only at hf
    refine px_calli (va_runS (As := [.int x2]) (rest := []) ⟨hx, hb, hml, hown, hts⟩ (c_MO_isSign l bs D G x2 M1 h6) (cwS 1 hts (px_gS w_776 w_777 w_12 w_778) rfl rfl rfl (by decide +kernel) ⟨Nat.le_of_ble_eq_true rfl, Nat.le_of_ble_eq_true rfl⟩) (px_preS px_nwok hK hN hO hM) rfl rfl hl.1 rfl (lv_room (Nat.le_of_ble_eq_true rfl)) d_MO_kern_8 ⟨Nat.le_of_ble_eq_true rfl, Nat.le_of_ble_eq_true rfl⟩) hS (fun H locs hM hS => ?_)
    refine lv_if_eq (tgt := 26) hx hb d_MO_kern_11 (by decide) (fun c8 => ?_) (fun c8 => ?_)
    · have hf := px_ift hf c8
      refine lv_iconst (v := 0) hx hb d_MO_kern_26 (by decide) ?_
      obtain ⟨rfl, rfl⟩ := px_s2 hf
      exact px_zret hx hb hr rfl hlocks hM hS d_MO_kern_27
    · have hf := px_iff hf c8
      refine lv_iload_n hx hb d_MO_kern_14 rfl (lv_at hl 3 rfl) ?_
      refine lv_bipush (v := (-16)) hx hb d_MO_kern_15 (by decide) ?_
      refine lv_icmp_lt (tgt := 26) hx hb d_MO_kern_17 (by decide) (fun c9 => ?_) (fun c9 => ?_)
      · have hf := px_ift hf c9
        refine lv_iconst (v := 0) hx hb d_MO_kern_26 (by decide) ?_
        obtain ⟨rfl, rfl⟩ := px_s2 hf
        exact px_zret hx hb hr rfl hlocks hM hS d_MO_kern_27
      · have hf := px_iff hf c9
        refine lv_iload_n hx hb d_MO_kern_20 rfl (lv_at hl 3 rfl) ?_
        refine lv_bipush (v := 16) hx hb d_MO_kern_21 (by decide) ?_
        refine lv_icmp_le (tgt := 28) hx hb d_MO_kern_23 (by decide) (fun c10 => ?_) (fun c10 => ?_)
        · have hf := px_ift hf c10
          refine lv_aload_n hx hb d_MO_kern_28 rfl (lv_at hl 0 rfl) ?_
          refine lv_iload_n hx hb d_MO_kern_29 rfl (lv_at hl 1 rfl) ?_
          refine lv_iload_n hx hb d_MO_kern_30 rfl (lv_at hl 2 rfl) ?_
          obtain ⟨_, h38, hf⟩ := px_bind hf
          obtain ⟨⟨v13, M11⟩, h12, hf⟩ := px_bind hf
          dsimp only at hf
          refine px_calli (va_runV (As := [.int x1, .int x2]) (rest := []) ⟨hx, hb, hml, hown, hts⟩ (c_MO_pairOf l bs D G o0 x1 x2 M5 h12) (cwV 2 hts (px_gV w_811 w_813 ws_MO_pairOf w_12 w_814) rfl rfl rfl (by decide +kernel) ⟨Nat.le_of_ble_eq_true rfl, Nat.le_of_ble_eq_true rfl⟩) (px_preV px_nwok hK hN hO hM h38 rfl) rfl rfl hl.1 rfl (lv_room (Nat.le_of_ble_eq_true rfl)) d_MO_kern_31 ⟨Nat.le_of_ble_eq_true rfl, Nat.le_of_ble_eq_true rfl⟩) hS (fun H locs hM hS => ?_)
          refine lv_istore (lv' := [(4, .int v13), (0, .ref o0), (1, .int x1), (2, .int x2), (3, .int x3)]) hx hb d_MO_kern_34 hl (by decide) rfl (fun ls hl => ?_)
          refine lv_iload hx hb d_MO_kern_36 (lv_at hl 0 rfl) ?_
          refine lv_bipush (v := 60) hx hb d_MO_kern_38 (by decide) ?_
          refine lv_icmp_ne (tgt := 45) hx hb d_MO_kern_40 (by decide) (fun c14 => ?_) (fun c14 => ?_)
          · have hf := px_iff hf c14
            refine lv_aload_n hx hb d_MO_kern_45 rfl (lv_at hl 1 rfl) ?_
            obtain ⟨t15, h16, hf⟩ := px_bind hf
            refine px_rgr hx hb hts cl_MO hown hK hM 18 (by decide) (hts _ w_663) h16 d_MO_kern_46 ?_
            refine lv_iload hx hb d_MO_kern_49 (lv_at hl 0 rfl) ?_
            refine lv_iload_n hx hb d_MO_kern_51 rfl (lv_at hl 2 rfl) ?_
            obtain ⟨M17, h18, hf⟩ := px_bind hf
            refine px_rsi hx hb hK hM hS 0 rfl h18 d_MO_kern_52 (fun H locs hM hS => ?_)
            refine lv_aload_n hx hb d_MO_kern_53 rfl (lv_at hl 1 rfl) ?_
            obtain ⟨t19, h20, hf⟩ := px_bind hf
            refine px_rgr hx hb hts cl_MO hown hK hM 19 (by decide) (hts _ w_664) h20 d_MO_kern_54 ?_
            refine lv_iload hx hb d_MO_kern_57 (lv_at hl 0 rfl) ?_
            refine lv_iload_n hx hb d_MO_kern_59 rfl (lv_at hl 3 rfl) ?_
            obtain ⟨M21, h22, hf⟩ := px_bind hf
            refine px_rsi hx hb hK hM hS 0 rfl h22 d_MO_kern_60 (fun H locs hM hS => ?_)
            refine lv_aload_n hx hb d_MO_kern_61 rfl (lv_at hl 1 rfl) ?_
            obtain ⟨t23, h24, hf⟩ := px_bind hf
            refine px_rgr hx hb hts cl_MO hown hK hM 20 (by decide) (hts _ w_665) h24 d_MO_kern_62 ?_
            refine lv_iload hx hb d_MO_kern_65 (lv_at hl 0 rfl) ?_
            refine lv_iload_n hx hb d_MO_kern_67 rfl (lv_at hl 4 rfl) ?_
            obtain ⟨M25, h26, hf⟩ := px_bind hf
            refine px_rsi hx hb hK hM hS 0 rfl h26 d_MO_kern_68 (fun H locs hM hS => ?_)
            refine lv_aload_n hx hb d_MO_kern_69 rfl (lv_at hl 1 rfl) ?_
            refine lv_iload hx hb d_MO_kern_70 (lv_at hl 0 rfl) ?_
            refine lv_aload_n hx hb d_MO_kern_72 rfl (lv_at hl 1 rfl) ?_
            obtain ⟨v27, h28, hf⟩ := px_bind hf
            refine px_rgi hx hb hts cl_MO hown hK hM 17 (by decide) (hts _ w_662) h28 d_MO_kern_73 ?_
            refine lv_icmp_ne (tgt := 88) hx hb d_MO_kern_76 (by decide) (fun c29 => ?_) (fun c29 => ?_)
            · have hf := px_iff hf c29
              refine lv_aload_n hx hb d_MO_kern_88 rfl (lv_at hl 1 rfl) ?_
              obtain ⟨v30, h31, hf⟩ := px_bind hf
              refine px_rgi hx hb hts cl_MO hown hK hM 17 (by decide) (hts _ w_662) h31 d_MO_kern_89 ?_
              obtain ⟨M32, h33, hf⟩ := px_bind hf
              refine px_rpt hx hb hts cl_MO hown hK hM hS 17 (by decide) (hts _ w_662) rfl rfl rfl h33 d_MO_kern_92 (fun H locs hM hS => ?_)
              refine lv_iconst (v := 1) hx hb d_MO_kern_95 (by decide) ?_
              obtain ⟨rfl, rfl⟩ := px_s2 hf
              exact px_zret hx hb hr rfl hlocks hM hS d_MO_kern_96
            · have hf := px_ift hf c29
              refine lv_aload_n hx hb d_MO_kern_79 rfl (lv_at hl 1 rfl) ?_
              obtain ⟨v34, h35, hf⟩ := px_bind hf
              refine px_rgi hx hb hts cl_MO hown hK hM 17 (by decide) (hts _ w_662) h35 d_MO_kern_80 ?_
              refine lv_iconst (v := 1) hx hb d_MO_kern_83 (by decide) ?_
              refine lv_iadd hx hb d_MO_kern_84 ?_
              refine lv_goto (tgt := 92) hx hb d_MO_kern_85 (by decide) ?_
              obtain ⟨M36, h37, hf⟩ := px_bind hf
              refine px_rpt hx hb hts cl_MO hown hK hM hS 17 (by decide) (hts _ w_662) rfl rfl rfl h37 d_MO_kern_92 (fun H locs hM hS => ?_)
              refine lv_iconst (v := 1) hx hb d_MO_kern_95 (by decide) ?_
              obtain ⟨rfl, rfl⟩ := px_s2 hf
              exact px_zret hx hb hr rfl hlocks hM hS d_MO_kern_96
          · have hf := px_ift hf c14
            refine lv_iconst (v := 0) hx hb d_MO_kern_43 (by decide) ?_
            obtain ⟨rfl, rfl⟩ := px_s2 hf
            exact px_zret hx hb hr rfl hlocks hM hS d_MO_kern_44
        · have hf := px_iff hf c10
          refine lv_iconst (v := 0) hx hb d_MO_kern_26 (by decide) ?_
          obtain ⟨rfl, rfl⟩ := px_s2 hf
          exact px_zret hx hb hr rfl hlocks hM hS d_MO_kern_27
def f_MO_isSpeed (x0 : Int32) (M : px_M) : Option (Int32 × px_M) :=
  if x0 < 1 then
  some (0, M)
  else
  if 999 < x0 then
  some (0, M)
  else
  some (1, M)
set_option maxHeartbeats 4000000 in
set_option maxRecDepth 100000 in
theorem c_MO_isSpeed (l : Launch) (bs : Nat) (D : va_G) (G : Nat → ClassId) (x0 : Int32) (M : px_M) {r : Int32} {M' : px_M} (hf : f_MO_isSpeed x0 M = some (r, M')) : Met l y_MO_isSpeed (.code y_MO_isSpeed b_MO_isSpeed 1 (some .boolean) :: px_tw) ⟨0, 0, 0, 0⟩ (va_Pc [.int x0] (px_B bs D px_cl (px_tys G) px_nw px_over M)) (px_Qi bs D px_cl (px_tys G) r M') 0 0 (fun q => bs ≤ q) := by
  refine px_of (by decide) (Nat.le_of_ble_eq_true rfl) ?_
  intro p e s m below meth c ls C0 hM hS hl
  obtain ⟨hx, hb, hr, hml, hown, hnm, hlocks, hts, hK, hN, hO⟩ := C0
  have hl : lv_has ls 1 [(0, .int x0)] := hl
  unfold f_MO_isSpeed at hf
  refine lv_iload_n hx hb d_MO_isSpeed_0 rfl (lv_at hl 0 rfl) ?_
  refine lv_iconst (v := 1) hx hb d_MO_isSpeed_1 (by decide) ?_
  refine lv_icmp_lt (tgt := 16) hx hb d_MO_isSpeed_2 (by decide) (fun c1 => ?_) (fun c1 => ?_)
  · have hf := px_ift hf c1
    refine lv_iconst (v := 0) hx hb d_MO_isSpeed_16 (by decide) ?_
    obtain ⟨rfl, rfl⟩ := px_s2 hf
    exact px_zret hx hb hr rfl hlocks hM hS d_MO_isSpeed_17
  · have hf := px_iff hf c1
    refine lv_iload_n hx hb d_MO_isSpeed_5 rfl (lv_at hl 0 rfl) ?_
    refine lv_sipush (v := 999) hx hb d_MO_isSpeed_6 (by decide) ?_
    refine lv_icmp_gt (tgt := 16) hx hb d_MO_isSpeed_9 (by decide) (fun c2 => ?_) (fun c2 => ?_)
    · have hf := px_ift hf c2
      refine lv_iconst (v := 0) hx hb d_MO_isSpeed_16 (by decide) ?_
      obtain ⟨rfl, rfl⟩ := px_s2 hf
      exact px_zret hx hb hr rfl hlocks hM hS d_MO_isSpeed_17
    · have hf := px_iff hf c2
      refine lv_iconst (v := 1) hx hb d_MO_isSpeed_12 (by decide) ?_
      refine lv_goto (tgt := 17) hx hb d_MO_isSpeed_13 (by decide) ?_
      obtain ⟨rfl, rfl⟩ := px_s2 hf
      exact px_zret hx hb hr rfl hlocks hM hS d_MO_isSpeed_17
def f_MO_height_L11 : Nat → Nat → Int32 → Int32 → px_M → Option ((Int32) × px_M)
  | 0, _, _, _, _ => none
  | n + 1, o0, x1, x2, M =>
    (px_gi 11 2 M o0).bind fun v5 =>
    if v5 ≤ (x2 + 1) then
    some (x2, M)
    else
    (px_gr 11 3 M o0).bind fun t8 =>
    (px_ai 0 M t8 x2).bind fun v10 =>
    if x1 ≤ v10 then
    some (x2, M)
    else
    f_MO_height_L11 n o0 x1 (x2 + 1) M
set_option maxHeartbeats 4000000 in
set_option maxRecDepth 100000 in
theorem lp_MO_height_L11 {p : Program} {l : Launch} {e : Env} {s : State} {m : MethodId} {args : Array Value} {below : List Frame} {meth : Method} {c : Code} {bs : Nat} {D : va_G} {G : Nat → ClassId} {Q : State → Prop} (C0 : px_At p s m meth c y_MO_height b_MO_height 3 (some .int) args D px_cl (px_tys G) px_nw px_over) (x : Int32) (M' : px_M) (o0 : Nat) (x1 : Int32) (kx : ∀ (H : Heap) (locs : List Loc) (ls : Array Slot), px_W bs D px_cl (px_tys G) M' H → va_S (fun q => bs ≤ q) s.heap H locs → lv_has ls 3 [(0, .ref o0), (2, .int x)] → W p l e ⟨1, 0, 0, 20⟩ s m args below meth c H locs 0 0 Q (F0 m 37 ls []))  : ∀ (n : Nat) (x2 : Int32) (M : px_M), f_MO_height_L11 n o0 x1 x2 M = some (x, M') → ∀ (H : Heap) (locs : List Loc) (ls : Array Slot), px_W bs D px_cl (px_tys G) M H → va_S (fun q => bs ≤ q) s.heap H locs → lv_has ls 3 [(0, .ref o0), (1, .int x1), (2, .int x2)] → W p l e ⟨1, 0, 0, 20⟩ s m args below meth c H locs 0 0 Q (F0 m 11 ls []) := by
  obtain ⟨hx, hb, hr, hml, hown, hnm, hlocks, hts, hK, hN, hO⟩ := C0
  intro n
  induction n with
  | zero => intro x2 M hf; cases hf
  | succ n ih =>
    intro x2 M hf H locs ls hM hS hl
    unfold f_MO_height_L11 at hf
    refine lv_iload_n hx hb d_MO_height_11 rfl (lv_at hl 2 rfl) ?_
    refine lv_iconst (v := 1) hx hb d_MO_height_12 (by decide) ?_
    refine lv_iadd hx hb d_MO_height_13 ?_
    refine lv_aload_n hx hb d_MO_height_14 rfl (lv_at hl 0 rfl) ?_
    obtain ⟨v5, h6, hf⟩ := px_bind hf
    refine px_rgi hx hb hts cl_MO hown hK hM 2 (by decide) (hts _ w_647) h6 d_MO_height_15 ?_
    refine lv_icmp_ge (tgt := 37) hx hb d_MO_height_18 (by decide) (fun c7 => ?_) (fun c7 => ?_)
    · have hf := px_ift hf c7
      obtain ⟨rfl, rfl⟩ := px_s2 hf
      exact kx _ _ _ hM hS (lv_sub hl [0, 2] rfl)
    · have hf := px_iff hf c7
      refine lv_aload_n hx hb d_MO_height_21 rfl (lv_at hl 0 rfl) ?_
      obtain ⟨t8, h9, hf⟩ := px_bind hf
      refine px_rgr hx hb hts cl_MO hown hK hM 3 (by decide) (hts _ w_648) h9 d_MO_height_22 ?_
      refine lv_iload_n hx hb d_MO_height_25 rfl (lv_at hl 2 rfl) ?_
      obtain ⟨v10, h11, hf⟩ := px_bind hf
      refine px_rai hx hb hK hM 0 rfl h11 d_MO_height_26 ?_
      refine lv_iload_n hx hb d_MO_height_27 rfl (lv_at hl 1 rfl) ?_
      refine lv_icmp_ge (tgt := 37) hx hb d_MO_height_28 (by decide) (fun c12 => ?_) (fun c12 => ?_)
      · have hf := px_ift hf c12
        obtain ⟨rfl, rfl⟩ := px_s2 hf
        exact kx _ _ _ hM hS (lv_sub hl [0, 2] rfl)
      · have hf := px_iff hf c12
        refine lv_iinc (v := x2 + 1) (lv' := [(2, .int (x2 + 1)), (0, .ref o0), (1, .int x1)]) hx hb d_MO_height_31 hl (k := 2) rfl (by rfl) (by decide) rfl (fun ls hl => ?_)
        refine lv_goto (tgt := 11) hx hb d_MO_height_34 (by decide) ?_
        exact ih (x2 + 1) M hf _ _ _ hM hS (lv_sub hl [1, 2, 0] rfl)
def f_MO_height (o0 : Nat) (x1 : Int32) (M : px_M) : Option (Int32 × px_M) :=
  (f_MO_isSpeed x1 M).bind fun (v3, M1) =>
  if v3 = 0 then
  some ((-1), M1)
  else
  (f_MO_height_L11 px_fuel o0 x1 0 M1).bind fun (v15, M13) =>
  (px_gr 11 4 M13 o0).bind fun t16 =>
  (px_ai 0 M13 t16 v15).bind fun v18 =>
  some (v18, M13)
set_option maxHeartbeats 4000000 in
set_option maxRecDepth 100000 in
theorem c_MO_height (l : Launch) (bs : Nat) (D : va_G) (G : Nat → ClassId) (o0 : Nat) (x1 : Int32) (M : px_M) {r : Int32} {M' : px_M} (hf : f_MO_height o0 x1 M = some (r, M')) : Met l y_MO_height (.code y_MO_height b_MO_height 3 (some .int) :: px_tw) ⟨1, 0, 0, 20⟩ (va_Pc [.ref o0, .int x1] (px_B bs D px_cl (px_tys G) px_nw px_over M)) (px_Qi bs D px_cl (px_tys G) r M') 0 0 (fun q => bs ≤ q) := by
  refine px_of (by decide) (Nat.le_of_ble_eq_true rfl) ?_
  intro p e s m below meth c ls C0 hM hS hl
  obtain ⟨hx, hb, hr, hml, hown, hnm, hlocks, hts, hK, hN, hO⟩ := C0
  have hl : lv_has ls 3 [(0, .ref o0), (1, .int x1)] := hl
  unfold f_MO_height at hf
  refine lv_iload_n hx hb d_MO_height_0 rfl (lv_at hl 1 rfl) ?_
  obtain ⟨⟨v3, M1⟩, h2, hf⟩ := px_bind hf
  dsimp only at hf
  refine px_calli (va_runS (As := [.int x1]) (rest := []) ⟨hx, hb, hml, hown, hts⟩ (c_MO_isSpeed l bs D G x1 M h2) (cwS 1 hts (px_gS w_819 w_820 w_12 w_821) rfl rfl rfl (by decide +kernel) ⟨Nat.le_of_ble_eq_true rfl, Nat.le_of_ble_eq_true rfl⟩) (px_preS px_nwok hK hN hO hM) rfl rfl hl.1 rfl (lv_room (Nat.le_of_ble_eq_true rfl)) d_MO_height_1 ⟨Nat.le_of_ble_eq_true rfl, Nat.le_of_ble_eq_true rfl⟩) hS (fun H locs hM hS => ?_)
  refine lv_if_ne (tgt := 9) hx hb d_MO_height_4 (by decide) (fun c4 => ?_) (fun c4 => ?_)
  · have hf := px_iff hf c4
    refine lv_iconst (v := 0) hx hb d_MO_height_9 (by decide) ?_
    refine lv_istore_n (lv' := [(2, .int 0), (0, .ref o0), (1, .int x1)]) hx hb d_MO_height_10 rfl hl (by decide) rfl (fun ls hl => ?_)
    obtain ⟨⟨v15, M13⟩, h14, hf⟩ := px_bind hf
    dsimp only at hf
    refine lp_MO_height_L11 ⟨hx, hb, hr, hml, hown, hnm, hlocks, hts, hK, hN, hO⟩ _ M13 o0 x1 (fun H locs ls hM hS hl => ?_) px_fuel 0 M1 h14 _ _ _ hM hS (lv_sub hl [1, 2, 0] rfl)
    try dsimp only at hl
    refine lv_aload_n hx hb d_MO_height_37 rfl (lv_at hl 0 rfl) ?_
    obtain ⟨t16, h17, hf⟩ := px_bind hf
    refine px_rgr hx hb hts cl_MO hown hK hM 4 (by decide) (hts _ w_649) h17 d_MO_height_38 ?_
    refine lv_iload_n hx hb d_MO_height_41 rfl (lv_at hl 1 rfl) ?_
    obtain ⟨v18, h19, hf⟩ := px_bind hf
    refine px_rai hx hb hK hM 0 rfl h19 d_MO_height_42 ?_
    obtain ⟨rfl, rfl⟩ := px_s2 hf
    exact px_iret hx hb hr hlocks hM hS d_MO_height_43
  · have hf := px_ift hf c4
    refine lv_iconst (v := (-1)) hx hb d_MO_height_7 (by decide) ?_
    obtain ⟨rfl, rfl⟩ := px_s2 hf
    exact px_iret hx hb hr hlocks hM hS d_MO_height_8
def f_MO_isName (o0 : Nat) (x1 : Int32) (M : px_M) : Option (Int32 × px_M) :=
  if x1 < 0 then
  some (0, M)
  else
  (px_gi 11 21 M o0).bind fun v2 =>
  if v2 ≤ x1 then
  some (0, M)
  else
  some (1, M)
set_option maxHeartbeats 4000000 in
set_option maxRecDepth 100000 in
theorem c_MO_isName (l : Launch) (bs : Nat) (D : va_G) (G : Nat → ClassId) (o0 : Nat) (x1 : Int32) (M : px_M) {r : Int32} {M' : px_M} (hf : f_MO_isName o0 x1 M = some (r, M')) : Met l y_MO_isName (.code y_MO_isName b_MO_isName 2 (some .boolean) :: px_tw) ⟨0, 0, 0, 0⟩ (va_Pc [.ref o0, .int x1] (px_B bs D px_cl (px_tys G) px_nw px_over M)) (px_Qi bs D px_cl (px_tys G) r M') 0 0 (fun q => bs ≤ q) := by
  refine px_of (by decide) (Nat.le_of_ble_eq_true rfl) ?_
  intro p e s m below meth c ls C0 hM hS hl
  obtain ⟨hx, hb, hr, hml, hown, hnm, hlocks, hts, hK, hN, hO⟩ := C0
  have hl : lv_has ls 2 [(0, .ref o0), (1, .int x1)] := hl
  unfold f_MO_isName at hf
  refine lv_iload_n hx hb d_MO_isName_0 rfl (lv_at hl 1 rfl) ?_
  refine lv_if_lt (tgt := 16) hx hb d_MO_isName_1 (by decide) (fun c1 => ?_) (fun c1 => ?_)
  · have hf := px_ift hf c1
    refine lv_iconst (v := 0) hx hb d_MO_isName_16 (by decide) ?_
    obtain ⟨rfl, rfl⟩ := px_s2 hf
    exact px_zret hx hb hr rfl hlocks hM hS d_MO_isName_17
  · have hf := px_iff hf c1
    refine lv_iload_n hx hb d_MO_isName_4 rfl (lv_at hl 1 rfl) ?_
    refine lv_aload_n hx hb d_MO_isName_5 rfl (lv_at hl 0 rfl) ?_
    obtain ⟨v2, h3, hf⟩ := px_bind hf
    refine px_rgi hx hb hts cl_MO hown hK hM 21 (by decide) (hts _ w_666) h3 d_MO_isName_6 ?_
    refine lv_icmp_ge (tgt := 16) hx hb d_MO_isName_9 (by decide) (fun c4 => ?_) (fun c4 => ?_)
    · have hf := px_ift hf c4
      refine lv_iconst (v := 0) hx hb d_MO_isName_16 (by decide) ?_
      obtain ⟨rfl, rfl⟩ := px_s2 hf
      exact px_zret hx hb hr rfl hlocks hM hS d_MO_isName_17
    · have hf := px_iff hf c4
      refine lv_iconst (v := 1) hx hb d_MO_isName_12 (by decide) ?_
      refine lv_goto (tgt := 17) hx hb d_MO_isName_13 (by decide) ?_
      obtain ⟨rfl, rfl⟩ := px_s2 hf
      exact px_zret hx hb hr rfl hlocks hM hS d_MO_isName_17
def f_MO_letter (o0 : Nat) (x1 : Int32) (x2 : Int32) (M : px_M) : Option (Int32 × px_M) :=
  (px_gr 11 23 M o0).bind fun t1 =>
  (px_ai 0 M t1 ((12 * x1) + x2)).bind fun v3 =>
  some (v3, M)
set_option maxHeartbeats 4000000 in
set_option maxRecDepth 100000 in
theorem c_MO_letter (l : Launch) (bs : Nat) (D : va_G) (G : Nat → ClassId) (o0 : Nat) (x1 : Int32) (x2 : Int32) (M : px_M) {r : Int32} {M' : px_M} (hf : f_MO_letter o0 x1 x2 M = some (r, M')) : Met l y_MO_letter (.code y_MO_letter b_MO_letter 3 (some .int) :: px_tw) ⟨0, 0, 0, 0⟩ (va_Pc [.ref o0, .int x1, .int x2] (px_B bs D px_cl (px_tys G) px_nw px_over M)) (px_Qi bs D px_cl (px_tys G) r M') 0 0 (fun q => bs ≤ q) := by
  refine px_of (by decide) (Nat.le_of_ble_eq_true rfl) ?_
  intro p e s m below meth c ls C0 hM hS hl
  obtain ⟨hx, hb, hr, hml, hown, hnm, hlocks, hts, hK, hN, hO⟩ := C0
  have hl : lv_has ls 3 [(0, .ref o0), (1, .int x1), (2, .int x2)] := hl
  unfold f_MO_letter at hf
  refine lv_aload_n hx hb d_MO_letter_0 rfl (lv_at hl 0 rfl) ?_
  obtain ⟨t1, h2, hf⟩ := px_bind hf
  refine px_rgr hx hb hts cl_MO hown hK hM 23 (by decide) (hts _ w_668) h2 d_MO_letter_1 ?_
  refine lv_bipush (v := 12) hx hb d_MO_letter_4 (by decide) ?_
  refine lv_iload_n hx hb d_MO_letter_6 rfl (lv_at hl 1 rfl) ?_
  refine lv_imul hx hb d_MO_letter_7 ?_
  refine lv_iload_n hx hb d_MO_letter_8 rfl (lv_at hl 2 rfl) ?_
  refine lv_iadd hx hb d_MO_letter_9 ?_
  obtain ⟨v3, h4, hf⟩ := px_bind hf
  refine px_rai hx hb hK hM 0 rfl h4 d_MO_letter_10 ?_
  obtain ⟨rfl, rfl⟩ := px_s2 hf
  exact px_iret hx hb hr hlocks hM hS d_MO_letter_11
def f_MO_before_L5 : Nat → Nat → Int32 → Int32 → Int32 → Int32 → px_M → Option ((Int32) × px_M)
  | 0, _, _, _, _, _, _ => none
  | n + 1, o0, x1, x2, x3, x4, M =>
    if x2 ≤ x4 then
    some (x3, M)
    else
    (px_gr 11 16 M o0).bind fun t2 =>
    (px_ob 11 M o0).bind fun _ =>
    (f_MO_letter o0 x1 x4 M).bind fun (v6, M4) =>
    (px_ai 0 M4 t2 v6).bind fun v7 =>
    (px_gr 11 22 M4 o0).bind fun t9 =>
    (px_ai 0 M4 t9 x1).bind fun v11 =>
    if v11 ≤ (x4 + 1) then
    f_MO_before_L5 n o0 x1 x2 (x3 + v7) (x4 + 1) M4
    else
    (px_ob 11 M4 o0).bind fun _ =>
    (f_MO_letter o0 x1 x4 M4).bind fun (v16, M14) =>
    (px_ob 11 M14 o0).bind fun _ =>
    (f_MO_letter o0 x1 (x4 + 1) M14).bind fun (v19, M17) =>
    (px_ob 11 M17 o0).bind fun _ =>
    (f_MO_pairOf o0 v16 v19 M17).bind fun (v22, M20) =>
    (px_gi 11 17 M20 o0).bind fun v23 =>
    if v23 ≤ v22 then
    f_MO_before_L5 n o0 x1 x2 ((x3 + v7) + 0) (x4 + 1) M20
    else
    (px_gr 11 20 M20 o0).bind fun t26 =>
    (px_ai 0 M20 t26 v22).bind fun v28 =>
    f_MO_before_L5 n o0 x1 x2 ((x3 + v7) + v28) (x4 + 1) M20
set_option maxHeartbeats 4000000 in
set_option maxRecDepth 100000 in
theorem lp_MO_before_L5 {p : Program} {l : Launch} {e : Env} {s : State} {m : MethodId} {args : Array Value} {below : List Frame} {meth : Method} {c : Code} {bs : Nat} {D : va_G} {G : Nat → ClassId} {Q : State → Prop} (C0 : px_At p s m meth c y_MO_before b_MO_before 6 (some .int) args D px_cl (px_tys G) px_nw px_over) (x : Int32) (M' : px_M) (o0 : Nat) (x1 : Int32) (x2 : Int32) (kx : ∀ (H : Heap) (locs : List Loc) (ls : Array Slot), px_W bs D px_cl (px_tys G) M' H → va_S (fun q => bs ≤ q) s.heap H locs → lv_has ls 6 [(3, .int x)] → W p l e ⟨1, 0, 0, 23⟩ s m args below meth c H locs 0 0 Q (F0 m 90 ls []))  : ∀ (n : Nat) (x3 : Int32) (x4 : Int32) (M : px_M), f_MO_before_L5 n o0 x1 x2 x3 x4 M = some (x, M') → ∀ (H : Heap) (locs : List Loc) (ls : Array Slot), px_W bs D px_cl (px_tys G) M H → va_S (fun q => bs ≤ q) s.heap H locs → lv_has ls 6 [(0, .ref o0), (1, .int x1), (2, .int x2), (3, .int x3), (4, .int x4)] → W p l e ⟨1, 0, 0, 23⟩ s m args below meth c H locs 0 0 Q (F0 m 5 ls []) := by
  obtain ⟨hx, hb, hr, hml, hown, hnm, hlocks, hts, hK, hN, hO⟩ := C0
  intro n
  induction n with
  | zero => intro x3 x4 M hf; cases hf
  | succ n ih =>
    intro x3 x4 M hf H locs ls hM hS hl
    unfold f_MO_before_L5 at hf
    refine lv_iload hx hb d_MO_before_5 (lv_at hl 4 rfl) ?_
    refine lv_iload_n hx hb d_MO_before_7 rfl (lv_at hl 2 rfl) ?_
    refine lv_icmp_ge (tgt := 90) hx hb d_MO_before_8 (by decide) (fun c1 => ?_) (fun c1 => ?_)
    · have hf := px_ift hf c1
      obtain ⟨rfl, rfl⟩ := px_s2 hf
      exact kx _ _ _ hM hS (lv_sub hl [3] rfl)
    · have hf := px_iff hf c1
      refine lv_iload_n hx hb d_MO_before_11 rfl (lv_at hl 3 rfl) ?_
      refine lv_aload_n hx hb d_MO_before_12 rfl (lv_at hl 0 rfl) ?_
      obtain ⟨t2, h3, hf⟩ := px_bind hf
      refine px_rgr hx hb hts cl_MO hown hK hM 16 (by decide) (hts _ w_661) h3 d_MO_before_13 ?_
      refine lv_aload_n hx hb d_MO_before_16 rfl (lv_at hl 0 rfl) ?_
      refine lv_iload_n hx hb d_MO_before_17 rfl (lv_at hl 1 rfl) ?_
      refine lv_iload hx hb d_MO_before_18 (lv_at hl 4 rfl) ?_
      obtain ⟨_, h33, hf⟩ := px_bind hf
      obtain ⟨⟨v6, M4⟩, h5, hf⟩ := px_bind hf
      dsimp only at hf
      refine px_calli (va_runV (As := [.int x1, .int x4]) (rest := [.ref t2, .int x3]) ⟨hx, hb, hml, hown, hts⟩ (c_MO_letter l bs D G o0 x1 x4 M h5) (cwV 2 hts (px_gV w_834 w_836 ws_MO_letter w_12 w_837) rfl rfl rfl (by decide +kernel) ⟨Nat.le_of_ble_eq_true rfl, Nat.le_of_ble_eq_true rfl⟩) (px_preV px_nwok hK hN hO hM h33 rfl) rfl rfl hl.1 rfl (lv_room (Nat.le_of_ble_eq_true rfl)) d_MO_before_20 ⟨Nat.le_of_ble_eq_true rfl, Nat.le_of_ble_eq_true rfl⟩) hS (fun H locs hM hS => ?_)
      obtain ⟨v7, h8, hf⟩ := px_bind hf
      refine px_rai hx hb hK hM 0 rfl h8 d_MO_before_23 ?_
      refine lv_iadd hx hb d_MO_before_24 ?_
      refine lv_istore_n (lv' := [(3, .int (x3 + v7)), (0, .ref o0), (1, .int x1), (2, .int x2), (4, .int x4)]) hx hb d_MO_before_25 rfl hl (by decide) rfl (fun ls hl => ?_)
      refine lv_iload hx hb d_MO_before_26 (lv_at hl 4 rfl) ?_
      refine lv_iconst (v := 1) hx hb d_MO_before_28 (by decide) ?_
      refine lv_iadd hx hb d_MO_before_29 ?_
      refine lv_aload_n hx hb d_MO_before_30 rfl (lv_at hl 1 rfl) ?_
      obtain ⟨t9, h10, hf⟩ := px_bind hf
      refine px_rgr hx hb hts cl_MO hown hK hM 22 (by decide) (hts _ w_667) h10 d_MO_before_31 ?_
      refine lv_iload_n hx hb d_MO_before_34 rfl (lv_at hl 2 rfl) ?_
      obtain ⟨v11, h12, hf⟩ := px_bind hf
      refine px_rai hx hb hK hM 0 rfl h12 d_MO_before_35 ?_
      refine lv_icmp_ge (tgt := 84) hx hb d_MO_before_36 (by decide) (fun c13 => ?_) (fun c13 => ?_)
      · have hf := px_ift hf c13
        refine lv_iinc (v := x4 + 1) (lv' := [(4, .int (x4 + 1)), (3, .int (x3 + v7)), (0, .ref o0), (1, .int x1), (2, .int x2)]) hx hb d_MO_before_84 hl (k := 4) rfl (by rfl) (by decide) rfl (fun ls hl => ?_)
        refine lv_goto (tgt := 5) hx hb d_MO_before_87 (by decide) ?_
        exact ih (x3 + v7) (x4 + 1) M4 hf _ _ _ hM hS (lv_sub hl [2, 3, 4, 1, 0] rfl)
      · have hf := px_iff hf c13
        refine lv_aload_n hx hb d_MO_before_39 rfl (lv_at hl 1 rfl) ?_
        refine lv_aload_n hx hb d_MO_before_40 rfl (lv_at hl 1 rfl) ?_
        refine lv_iload_n hx hb d_MO_before_41 rfl (lv_at hl 2 rfl) ?_
        refine lv_iload hx hb d_MO_before_42 (lv_at hl 4 rfl) ?_
        obtain ⟨_, h32, hf⟩ := px_bind hf
        obtain ⟨⟨v16, M14⟩, h15, hf⟩ := px_bind hf
        dsimp only at hf
        refine px_calli (va_runV (As := [.int x1, .int x4]) (rest := [.ref o0]) ⟨hx, hb, hml, hown, hts⟩ (c_MO_letter l bs D G o0 x1 x4 M4 h15) (cwV 2 hts (px_gV w_834 w_836 ws_MO_letter w_12 w_837) rfl rfl rfl (by decide +kernel) ⟨Nat.le_of_ble_eq_true rfl, Nat.le_of_ble_eq_true rfl⟩) (px_preV px_nwok hK hN hO hM h32 rfl) rfl rfl hl.1 rfl (lv_room (Nat.le_of_ble_eq_true rfl)) d_MO_before_44 ⟨Nat.le_of_ble_eq_true rfl, Nat.le_of_ble_eq_true rfl⟩) hS (fun H locs hM hS => ?_)
        refine lv_aload_n hx hb d_MO_before_47 rfl (lv_at hl 1 rfl) ?_
        refine lv_iload_n hx hb d_MO_before_48 rfl (lv_at hl 2 rfl) ?_
        refine lv_iload hx hb d_MO_before_49 (lv_at hl 4 rfl) ?_
        refine lv_iconst (v := 1) hx hb d_MO_before_51 (by decide) ?_
        refine lv_iadd hx hb d_MO_before_52 ?_
        obtain ⟨_, h31, hf⟩ := px_bind hf
        obtain ⟨⟨v19, M17⟩, h18, hf⟩ := px_bind hf
        dsimp only at hf
        refine px_calli (va_runV (As := [.int x1, .int (x4 + 1)]) (rest := [.int v16, .ref o0]) ⟨hx, hb, hml, hown, hts⟩ (c_MO_letter l bs D G o0 x1 (x4 + 1) M14 h18) (cwV 2 hts (px_gV w_834 w_836 ws_MO_letter w_12 w_837) rfl rfl rfl (by decide +kernel) ⟨Nat.le_of_ble_eq_true rfl, Nat.le_of_ble_eq_true rfl⟩) (px_preV px_nwok hK hN hO hM h31 rfl) rfl rfl hl.1 rfl (lv_room (Nat.le_of_ble_eq_true rfl)) d_MO_before_53 ⟨Nat.le_of_ble_eq_true rfl, Nat.le_of_ble_eq_true rfl⟩) hS (fun H locs hM hS => ?_)
        obtain ⟨_, h30, hf⟩ := px_bind hf
        obtain ⟨⟨v22, M20⟩, h21, hf⟩ := px_bind hf
        dsimp only at hf
        refine px_calli (va_runV (As := [.int v16, .int v19]) (rest := []) ⟨hx, hb, hml, hown, hts⟩ (c_MO_pairOf l bs D G o0 v16 v19 M17 h21) (cwV 2 hts (px_gV w_811 w_813 ws_MO_pairOf w_12 w_814) rfl rfl rfl (by decide +kernel) ⟨Nat.le_of_ble_eq_true rfl, Nat.le_of_ble_eq_true rfl⟩) (px_preV px_nwok hK hN hO hM h30 rfl) rfl rfl hl.1 rfl (lv_room (Nat.le_of_ble_eq_true rfl)) d_MO_before_56 ⟨Nat.le_of_ble_eq_true rfl, Nat.le_of_ble_eq_true rfl⟩) hS (fun H locs hM hS => ?_)
        refine lv_istore (lv' := [(5, .int v22), (3, .int (x3 + v7)), (0, .ref o0), (1, .int x1), (2, .int x2), (4, .int x4)]) hx hb d_MO_before_59 hl (by decide) rfl (fun ls hl => ?_)
        refine lv_iload_n hx hb d_MO_before_61 rfl (lv_at hl 1 rfl) ?_
        refine lv_iload hx hb d_MO_before_62 (lv_at hl 0 rfl) ?_
        refine lv_aload_n hx hb d_MO_before_64 rfl (lv_at hl 2 rfl) ?_
        obtain ⟨v23, h24, hf⟩ := px_bind hf
        refine px_rgi hx hb hts cl_MO hown hK hM 17 (by decide) (hts _ w_662) h24 d_MO_before_65 ?_
        refine lv_icmp_ge (tgt := 81) hx hb d_MO_before_68 (by decide) (fun c25 => ?_) (fun c25 => ?_)
        · have hf := px_ift hf c25
          refine lv_iconst (v := 0) hx hb d_MO_before_81 (by decide) ?_
          refine lv_iadd hx hb d_MO_before_82 ?_
          refine lv_istore_n (lv' := [(3, .int ((x3 + v7) + 0)), (5, .int v22), (0, .ref o0), (1, .int x1), (2, .int x2), (4, .int x4)]) hx hb d_MO_before_83 rfl hl (by decide) rfl (fun ls hl => ?_)
          refine lv_iinc (v := x4 + 1) (lv' := [(4, .int (x4 + 1)), (3, .int ((x3 + v7) + 0)), (5, .int v22), (0, .ref o0), (1, .int x1), (2, .int x2)]) hx hb d_MO_before_84 hl (k := 5) rfl (by rfl) (by decide) rfl (fun ls hl => ?_)
          refine lv_goto (tgt := 5) hx hb d_MO_before_87 (by decide) ?_
          exact ih ((x3 + v7) + 0) (x4 + 1) M20 hf _ _ _ hM hS (lv_sub hl [3, 4, 5, 1, 0] rfl)
        · have hf := px_iff hf c25
          refine lv_aload_n hx hb d_MO_before_71 rfl (lv_at hl 2 rfl) ?_
          obtain ⟨t26, h27, hf⟩ := px_bind hf
          refine px_rgr hx hb hts cl_MO hown hK hM 20 (by decide) (hts _ w_665) h27 d_MO_before_72 ?_
          refine lv_iload hx hb d_MO_before_75 (lv_at hl 0 rfl) ?_
          obtain ⟨v28, h29, hf⟩ := px_bind hf
          refine px_rai hx hb hK hM 0 rfl h29 d_MO_before_77 ?_
          refine lv_goto (tgt := 82) hx hb d_MO_before_78 (by decide) ?_
          refine lv_iadd hx hb d_MO_before_82 ?_
          refine lv_istore_n (lv' := [(3, .int ((x3 + v7) + v28)), (5, .int v22), (0, .ref o0), (1, .int x1), (2, .int x2), (4, .int x4)]) hx hb d_MO_before_83 rfl hl (by decide) rfl (fun ls hl => ?_)
          refine lv_iinc (v := x4 + 1) (lv' := [(4, .int (x4 + 1)), (3, .int ((x3 + v7) + v28)), (5, .int v22), (0, .ref o0), (1, .int x1), (2, .int x2)]) hx hb d_MO_before_84 hl (k := 5) rfl (by rfl) (by decide) rfl (fun ls hl => ?_)
          refine lv_goto (tgt := 5) hx hb d_MO_before_87 (by decide) ?_
          exact ih ((x3 + v7) + v28) (x4 + 1) M20 hf _ _ _ hM hS (lv_sub hl [3, 4, 5, 1, 0] rfl)
def f_MO_before (o0 : Nat) (x1 : Int32) (x2 : Int32) (M : px_M) : Option (Int32 × px_M) :=
  (f_MO_before_L5 px_fuel o0 x1 x2 0 0 M).bind fun (v36, M34) =>
  some (v36, M34)
set_option maxHeartbeats 4000000 in
set_option maxRecDepth 100000 in
theorem c_MO_before (l : Launch) (bs : Nat) (D : va_G) (G : Nat → ClassId) (o0 : Nat) (x1 : Int32) (x2 : Int32) (M : px_M) {r : Int32} {M' : px_M} (hf : f_MO_before o0 x1 x2 M = some (r, M')) : Met l y_MO_before (.code y_MO_before b_MO_before 6 (some .int) :: px_tw) ⟨1, 0, 0, 23⟩ (va_Pc [.ref o0, .int x1, .int x2] (px_B bs D px_cl (px_tys G) px_nw px_over M)) (px_Qi bs D px_cl (px_tys G) r M') 0 0 (fun q => bs ≤ q) := by
  refine px_of (by decide) (Nat.le_of_ble_eq_true rfl) ?_
  intro p e s m below meth c ls C0 hM hS hl
  obtain ⟨hx, hb, hr, hml, hown, hnm, hlocks, hts, hK, hN, hO⟩ := C0
  have hl : lv_has ls 6 [(0, .ref o0), (1, .int x1), (2, .int x2)] := hl
  unfold f_MO_before at hf
  refine lv_iconst (v := 0) hx hb d_MO_before_0 (by decide) ?_
  refine lv_istore_n (lv' := [(3, .int 0), (0, .ref o0), (1, .int x1), (2, .int x2)]) hx hb d_MO_before_1 rfl hl (by decide) rfl (fun ls hl => ?_)
  refine lv_iconst (v := 0) hx hb d_MO_before_2 (by decide) ?_
  refine lv_istore (lv' := [(4, .int 0), (3, .int 0), (0, .ref o0), (1, .int x1), (2, .int x2)]) hx hb d_MO_before_3 hl (by decide) rfl (fun ls hl => ?_)
  obtain ⟨⟨v36, M34⟩, h35, hf⟩ := px_bind hf
  dsimp only at hf
  refine lp_MO_before_L5 ⟨hx, hb, hr, hml, hown, hnm, hlocks, hts, hK, hN, hO⟩ _ M34 o0 x1 x2 (fun H locs ls hM hS hl => ?_) px_fuel 0 0 M h35 _ _ _ hM hS (lv_sub hl [2, 3, 4, 1, 0] rfl)
  try dsimp only at hl
  refine lv_iload_n hx hb d_MO_before_90 rfl (lv_at hl 0 rfl) ?_
  obtain ⟨rfl, rfl⟩ := px_s2 hf
  exact px_iret hx hb hr hlocks hM hS d_MO_before_91
def f_MO_width (o0 : Nat) (x1 : Int32) (x2 : Int32) (M : px_M) : Option (Int32 × px_M) :=
  (px_ob 11 M o0).bind fun _ =>
  (f_MO_isName o0 x1 M).bind fun (v3, M1) =>
  if v3 = 0 then
  some ((-1), M1)
  else
  (f_MO_isSpeed x2 M1).bind fun (v7, M5) =>
  if v7 = 0 then
  some ((-1), M5)
  else
  (px_gr 11 22 M5 o0).bind fun t9 =>
  (px_ai 0 M5 t9 x1).bind fun v11 =>
  (px_ob 11 M5 o0).bind fun _ =>
  (f_MO_before o0 x1 v11 M5).bind fun (v15, M13) =>
  (px_ob 11 M13 o0).bind fun _ =>
  (f_MO_height o0 x2 M13).bind fun (v18, M16) =>
  some (v15 * v18, M16)
set_option maxHeartbeats 4000000 in
set_option maxRecDepth 100000 in
theorem c_MO_width (l : Launch) (bs : Nat) (D : va_G) (G : Nat → ClassId) (o0 : Nat) (x1 : Int32) (x2 : Int32) (M : px_M) {r : Int32} {M' : px_M} (hf : f_MO_width o0 x1 x2 M = some (r, M')) : Met l y_MO_width (.code y_MO_width b_MO_width 3 (some .int) :: px_tw) ⟨2, 0, 0, 48⟩ (va_Pc [.ref o0, .int x1, .int x2] (px_B bs D px_cl (px_tys G) px_nw px_over M)) (px_Qi bs D px_cl (px_tys G) r M') 0 0 (fun q => bs ≤ q) := by
  refine px_of (by decide) (Nat.le_of_ble_eq_true rfl) ?_
  intro p e s m below meth c ls C0 hM hS hl
  obtain ⟨hx, hb, hr, hml, hown, hnm, hlocks, hts, hK, hN, hO⟩ := C0
  have hl : lv_has ls 3 [(0, .ref o0), (1, .int x1), (2, .int x2)] := hl
  unfold f_MO_width at hf
  refine lv_aload_n hx hb d_MO_width_0 rfl (lv_at hl 0 rfl) ?_
  refine lv_iload_n hx hb d_MO_width_1 rfl (lv_at hl 1 rfl) ?_
  obtain ⟨_, h21, hf⟩ := px_bind hf
  obtain ⟨⟨v3, M1⟩, h2, hf⟩ := px_bind hf
  dsimp only at hf
  refine px_calli (va_runV (As := [.int x1]) (rest := []) ⟨hx, hb, hml, hown, hts⟩ (c_MO_isName l bs D G o0 x1 M h2) (cwV 1 hts (px_gV w_826 w_828 ws_MO_isName w_12 w_829) rfl rfl rfl (by decide +kernel) ⟨Nat.le_of_ble_eq_true rfl, Nat.le_of_ble_eq_true rfl⟩) (px_preV px_nwok hK hN hO hM h21 rfl) rfl rfl hl.1 rfl (lv_room (Nat.le_of_ble_eq_true rfl)) d_MO_width_2 ⟨Nat.le_of_ble_eq_true rfl, Nat.le_of_ble_eq_true rfl⟩) hS (fun H locs hM hS => ?_)
  refine lv_if_eq (tgt := 35) hx hb d_MO_width_5 (by decide) (fun c4 => ?_) (fun c4 => ?_)
  · have hf := px_ift hf c4
    refine lv_iconst (v := (-1)) hx hb d_MO_width_35 (by decide) ?_
    obtain ⟨rfl, rfl⟩ := px_s2 hf
    exact px_iret hx hb hr hlocks hM hS d_MO_width_36
  · have hf := px_iff hf c4
    refine lv_iload_n hx hb d_MO_width_8 rfl (lv_at hl 2 rfl) ?_
    obtain ⟨⟨v7, M5⟩, h6, hf⟩ := px_bind hf
    dsimp only at hf
    refine px_calli (va_runS (As := [.int x2]) (rest := []) ⟨hx, hb, hml, hown, hts⟩ (c_MO_isSpeed l bs D G x2 M1 h6) (cwS 1 hts (px_gS w_819 w_820 w_12 w_821) rfl rfl rfl (by decide +kernel) ⟨Nat.le_of_ble_eq_true rfl, Nat.le_of_ble_eq_true rfl⟩) (px_preS px_nwok hK hN hO hM) rfl rfl hl.1 rfl (lv_room (Nat.le_of_ble_eq_true rfl)) d_MO_width_9 ⟨Nat.le_of_ble_eq_true rfl, Nat.le_of_ble_eq_true rfl⟩) hS (fun H locs hM hS => ?_)
    refine lv_if_eq (tgt := 35) hx hb d_MO_width_12 (by decide) (fun c8 => ?_) (fun c8 => ?_)
    · have hf := px_ift hf c8
      refine lv_iconst (v := (-1)) hx hb d_MO_width_35 (by decide) ?_
      obtain ⟨rfl, rfl⟩ := px_s2 hf
      exact px_iret hx hb hr hlocks hM hS d_MO_width_36
    · have hf := px_iff hf c8
      refine lv_aload_n hx hb d_MO_width_15 rfl (lv_at hl 0 rfl) ?_
      refine lv_iload_n hx hb d_MO_width_16 rfl (lv_at hl 1 rfl) ?_
      refine lv_aload_n hx hb d_MO_width_17 rfl (lv_at hl 0 rfl) ?_
      obtain ⟨t9, h10, hf⟩ := px_bind hf
      refine px_rgr hx hb hts cl_MO hown hK hM 22 (by decide) (hts _ w_667) h10 d_MO_width_18 ?_
      refine lv_iload_n hx hb d_MO_width_21 rfl (lv_at hl 1 rfl) ?_
      obtain ⟨v11, h12, hf⟩ := px_bind hf
      refine px_rai hx hb hK hM 0 rfl h12 d_MO_width_22 ?_
      obtain ⟨_, h20, hf⟩ := px_bind hf
      obtain ⟨⟨v15, M13⟩, h14, hf⟩ := px_bind hf
      dsimp only at hf
      refine px_calli (va_runV (As := [.int x1, .int v11]) (rest := []) ⟨hx, hb, hml, hown, hts⟩ (c_MO_before l bs D G o0 x1 v11 M5 h14) (cwV 2 hts (px_gV w_830 w_832 ws_MO_before w_12 w_833) rfl rfl rfl (by decide +kernel) ⟨Nat.le_of_ble_eq_true rfl, Nat.le_of_ble_eq_true rfl⟩) (px_preV px_nwok hK hN hO hM h20 rfl) rfl rfl hl.1 rfl (lv_room (Nat.le_of_ble_eq_true rfl)) d_MO_width_23 ⟨Nat.le_of_ble_eq_true rfl, Nat.le_of_ble_eq_true rfl⟩) hS (fun H locs hM hS => ?_)
      refine lv_aload_n hx hb d_MO_width_26 rfl (lv_at hl 0 rfl) ?_
      refine lv_iload_n hx hb d_MO_width_27 rfl (lv_at hl 2 rfl) ?_
      obtain ⟨_, h19, hf⟩ := px_bind hf
      obtain ⟨⟨v18, M16⟩, h17, hf⟩ := px_bind hf
      dsimp only at hf
      refine px_calli (va_runV (As := [.int x2]) (rest := [.int v15]) ⟨hx, hb, hml, hown, hts⟩ (c_MO_height l bs D G o0 x2 M13 h17) (cwV 1 hts (px_gV w_838 w_816 w_817 w_12 w_818) rfl rfl rfl (by decide +kernel) ⟨Nat.le_of_ble_eq_true rfl, Nat.le_of_ble_eq_true rfl⟩) (px_preV px_nwok hK hN hO hM h19 rfl) rfl rfl hl.1 rfl (lv_room (Nat.le_of_ble_eq_true rfl)) d_MO_width_28 ⟨Nat.le_of_ble_eq_true rfl, Nat.le_of_ble_eq_true rfl⟩) hS (fun H locs hM hS => ?_)
      refine lv_imul hx hb d_MO_width_31 ?_
      refine lv_goto (tgt := 36) hx hb d_MO_width_32 (by decide) ?_
      obtain ⟨rfl, rfl⟩ := px_s2 hf
      exact px_iret hx hb hr hlocks hM hS d_MO_width_36
def f_MO_isNode (x0 : Int32) (M : px_M) : Option (Int32 × px_M) :=
  if x0 < 0 then
  some (0, M)
  else
  if 10 ≤ x0 then
  some (0, M)
  else
  some (1, M)
set_option maxHeartbeats 4000000 in
set_option maxRecDepth 100000 in
theorem c_MO_isNode (l : Launch) (bs : Nat) (D : va_G) (G : Nat → ClassId) (x0 : Int32) (M : px_M) {r : Int32} {M' : px_M} (hf : f_MO_isNode x0 M = some (r, M')) : Met l y_MO_isNode (.code y_MO_isNode b_MO_isNode 1 (some .boolean) :: px_tw) ⟨0, 0, 0, 0⟩ (va_Pc [.int x0] (px_B bs D px_cl (px_tys G) px_nw px_over M)) (px_Qi bs D px_cl (px_tys G) r M') 0 0 (fun q => bs ≤ q) := by
  refine px_of (by decide) (Nat.le_of_ble_eq_true rfl) ?_
  intro p e s m below meth c ls C0 hM hS hl
  obtain ⟨hx, hb, hr, hml, hown, hnm, hlocks, hts, hK, hN, hO⟩ := C0
  have hl : lv_has ls 1 [(0, .int x0)] := hl
  unfold f_MO_isNode at hf
  refine lv_iload_n hx hb d_MO_isNode_0 rfl (lv_at hl 0 rfl) ?_
  refine lv_if_lt (tgt := 14) hx hb d_MO_isNode_1 (by decide) (fun c1 => ?_) (fun c1 => ?_)
  · have hf := px_ift hf c1
    refine lv_iconst (v := 0) hx hb d_MO_isNode_14 (by decide) ?_
    obtain ⟨rfl, rfl⟩ := px_s2 hf
    exact px_zret hx hb hr rfl hlocks hM hS d_MO_isNode_15
  · have hf := px_iff hf c1
    refine lv_iload_n hx hb d_MO_isNode_4 rfl (lv_at hl 0 rfl) ?_
    refine lv_bipush (v := 10) hx hb d_MO_isNode_5 (by decide) ?_
    refine lv_icmp_ge (tgt := 14) hx hb d_MO_isNode_7 (by decide) (fun c2 => ?_) (fun c2 => ?_)
    · have hf := px_ift hf c2
      refine lv_iconst (v := 0) hx hb d_MO_isNode_14 (by decide) ?_
      obtain ⟨rfl, rfl⟩ := px_s2 hf
      exact px_zret hx hb hr rfl hlocks hM hS d_MO_isNode_15
    · have hf := px_iff hf c2
      refine lv_iconst (v := 1) hx hb d_MO_isNode_10 (by decide) ?_
      refine lv_goto (tgt := 15) hx hb d_MO_isNode_11 (by decide) ?_
      obtain ⟨rfl, rfl⟩ := px_s2 hf
      exact px_zret hx hb hr rfl hlocks hM hS d_MO_isNode_15
def f_MO_way (o0 : Nat) (x1 : Int32) (x2 : Int32) (x3 : Int32) (M : px_M) : Option (Int32 × px_M) :=
  (f_MO_isNode x1 M).bind fun (v3, M1) =>
  if v3 = 0 then
  some ((-1), M1)
  else
  (f_MO_isNode x2 M1).bind fun (v7, M5) =>
  if v7 = 0 then
  some ((-1), M5)
  else
  if x3 < 1 then
  some ((-1), M5)
  else
  if 100000 < x3 then
  some ((-1), M5)
  else
  (px_gi 11 25 M5 o0).bind fun v11 =>
  if v11 = 24 then
  some ((-1), M5)
  else
  (px_gr 11 26 M5 o0).bind fun t14 =>
  (px_gi 11 25 M5 o0).bind fun v16 =>
  (px_si 0 M5 t14 v16 x1).bind fun M18 =>
  (px_gr 11 27 M18 o0).bind fun t20 =>
  (px_gi 11 25 M18 o0).bind fun v22 =>
  (px_si 0 M18 t20 v22 x2).bind fun M24 =>
  (px_gr 11 28 M24 o0).bind fun t26 =>
  (px_gi 11 25 M24 o0).bind fun v28 =>
  (px_si 0 M24 t26 v28 x3).bind fun M30 =>
  (px_gi 11 25 M30 o0).bind fun v32 =>
  (px_pt 11 25 M30 o0 (.int (v32 + 1))).bind fun M34 =>
  (px_gi 11 25 M34 o0).bind fun v36 =>
  some (v36 - 1, M34)
set_option maxHeartbeats 4000000 in
set_option maxRecDepth 100000 in
theorem c_MO_way (l : Launch) (bs : Nat) (D : va_G) (G : Nat → ClassId) (o0 : Nat) (x1 : Int32) (x2 : Int32) (x3 : Int32) (M : px_M) {r : Int32} {M' : px_M} (hf : f_MO_way o0 x1 x2 x3 M = some (r, M')) : Met l y_MO_way (.code y_MO_way b_MO_way 4 (some .int) :: px_tw) ⟨1, 0, 0, 20⟩ (va_Pc [.ref o0, .int x1, .int x2, .int x3] (px_B bs D px_cl (px_tys G) px_nw px_over M)) (px_Qi bs D px_cl (px_tys G) r M') 0 0 (fun q => bs ≤ q) := by
  refine px_of (by decide) (Nat.le_of_ble_eq_true rfl) ?_
  intro p e s m below meth c ls C0 hM hS hl
  obtain ⟨hx, hb, hr, hml, hown, hnm, hlocks, hts, hK, hN, hO⟩ := C0
  have hl : lv_has ls 4 [(0, .ref o0), (1, .int x1), (2, .int x2), (3, .int x3)] := hl
  unfold f_MO_way at hf
  refine lv_iload_n hx hb d_MO_way_0 rfl (lv_at hl 1 rfl) ?_
  obtain ⟨⟨v3, M1⟩, h2, hf⟩ := px_bind hf
  dsimp only at hf
  refine px_calli (va_runS (As := [.int x1]) (rest := []) ⟨hx, hb, hml, hown, hts⟩ (c_MO_isNode l bs D G x1 M h2) (cwS 1 hts (px_gS w_843 w_844 w_12 w_845) rfl rfl rfl (by decide +kernel) ⟨Nat.le_of_ble_eq_true rfl, Nat.le_of_ble_eq_true rfl⟩) (px_preS px_nwok hK hN hO hM) rfl rfl hl.1 rfl (lv_room (Nat.le_of_ble_eq_true rfl)) d_MO_way_1 ⟨Nat.le_of_ble_eq_true rfl, Nat.le_of_ble_eq_true rfl⟩) hS (fun H locs hM hS => ?_)
  refine lv_if_eq (tgt := 34) hx hb d_MO_way_4 (by decide) (fun c4 => ?_) (fun c4 => ?_)
  · have hf := px_ift hf c4
    refine lv_iconst (v := (-1)) hx hb d_MO_way_34 (by decide) ?_
    obtain ⟨rfl, rfl⟩ := px_s2 hf
    exact px_iret hx hb hr hlocks hM hS d_MO_way_35
  · have hf := px_iff hf c4
    refine lv_iload_n hx hb d_MO_way_7 rfl (lv_at hl 2 rfl) ?_
    obtain ⟨⟨v7, M5⟩, h6, hf⟩ := px_bind hf
    dsimp only at hf
    refine px_calli (va_runS (As := [.int x2]) (rest := []) ⟨hx, hb, hml, hown, hts⟩ (c_MO_isNode l bs D G x2 M1 h6) (cwS 1 hts (px_gS w_843 w_844 w_12 w_845) rfl rfl rfl (by decide +kernel) ⟨Nat.le_of_ble_eq_true rfl, Nat.le_of_ble_eq_true rfl⟩) (px_preS px_nwok hK hN hO hM) rfl rfl hl.1 rfl (lv_room (Nat.le_of_ble_eq_true rfl)) d_MO_way_8 ⟨Nat.le_of_ble_eq_true rfl, Nat.le_of_ble_eq_true rfl⟩) hS (fun H locs hM hS => ?_)
    refine lv_if_eq (tgt := 34) hx hb d_MO_way_11 (by decide) (fun c8 => ?_) (fun c8 => ?_)
    · have hf := px_ift hf c8
      refine lv_iconst (v := (-1)) hx hb d_MO_way_34 (by decide) ?_
      obtain ⟨rfl, rfl⟩ := px_s2 hf
      exact px_iret hx hb hr hlocks hM hS d_MO_way_35
    · have hf := px_iff hf c8
      refine lv_iload_n hx hb d_MO_way_14 rfl (lv_at hl 3 rfl) ?_
      refine lv_iconst (v := 1) hx hb d_MO_way_15 (by decide) ?_
      refine lv_icmp_lt (tgt := 34) hx hb d_MO_way_16 (by decide) (fun c9 => ?_) (fun c9 => ?_)
      · have hf := px_ift hf c9
        refine lv_iconst (v := (-1)) hx hb d_MO_way_34 (by decide) ?_
        obtain ⟨rfl, rfl⟩ := px_s2 hf
        exact px_iret hx hb hr hlocks hM hS d_MO_way_35
      · have hf := px_iff hf c9
        refine lv_iload_n hx hb d_MO_way_19 rfl (lv_at hl 3 rfl) ?_
        refine lv_ldc (v := 100000) hx hb hown (hts _ w_846) d_MO_way_20 ?_
        refine lv_icmp_gt (tgt := 34) hx hb d_MO_way_22 (by decide) (fun c10 => ?_) (fun c10 => ?_)
        · have hf := px_ift hf c10
          refine lv_iconst (v := (-1)) hx hb d_MO_way_34 (by decide) ?_
          obtain ⟨rfl, rfl⟩ := px_s2 hf
          exact px_iret hx hb hr hlocks hM hS d_MO_way_35
        · have hf := px_iff hf c10
          refine lv_aload_n hx hb d_MO_way_25 rfl (lv_at hl 0 rfl) ?_
          obtain ⟨v11, h12, hf⟩ := px_bind hf
          refine px_rgi hx hb hts cl_MO hown hK hM 25 (by decide) (hts _ w_670) h12 d_MO_way_26 ?_
          refine lv_bipush (v := 24) hx hb d_MO_way_29 (by decide) ?_
          refine lv_icmp_ne (tgt := 36) hx hb d_MO_way_31 (by decide) (fun c13 => ?_) (fun c13 => ?_)
          · have hf := px_iff hf c13
            refine lv_aload_n hx hb d_MO_way_36 rfl (lv_at hl 0 rfl) ?_
            obtain ⟨t14, h15, hf⟩ := px_bind hf
            refine px_rgr hx hb hts cl_MO hown hK hM 26 (by decide) (hts _ w_671) h15 d_MO_way_37 ?_
            refine lv_aload_n hx hb d_MO_way_40 rfl (lv_at hl 0 rfl) ?_
            obtain ⟨v16, h17, hf⟩ := px_bind hf
            refine px_rgi hx hb hts cl_MO hown hK hM 25 (by decide) (hts _ w_670) h17 d_MO_way_41 ?_
            refine lv_iload_n hx hb d_MO_way_44 rfl (lv_at hl 1 rfl) ?_
            obtain ⟨M18, h19, hf⟩ := px_bind hf
            refine px_rsi hx hb hK hM hS 0 rfl h19 d_MO_way_45 (fun H locs hM hS => ?_)
            refine lv_aload_n hx hb d_MO_way_46 rfl (lv_at hl 0 rfl) ?_
            obtain ⟨t20, h21, hf⟩ := px_bind hf
            refine px_rgr hx hb hts cl_MO hown hK hM 27 (by decide) (hts _ w_672) h21 d_MO_way_47 ?_
            refine lv_aload_n hx hb d_MO_way_50 rfl (lv_at hl 0 rfl) ?_
            obtain ⟨v22, h23, hf⟩ := px_bind hf
            refine px_rgi hx hb hts cl_MO hown hK hM 25 (by decide) (hts _ w_670) h23 d_MO_way_51 ?_
            refine lv_iload_n hx hb d_MO_way_54 rfl (lv_at hl 2 rfl) ?_
            obtain ⟨M24, h25, hf⟩ := px_bind hf
            refine px_rsi hx hb hK hM hS 0 rfl h25 d_MO_way_55 (fun H locs hM hS => ?_)
            refine lv_aload_n hx hb d_MO_way_56 rfl (lv_at hl 0 rfl) ?_
            obtain ⟨t26, h27, hf⟩ := px_bind hf
            refine px_rgr hx hb hts cl_MO hown hK hM 28 (by decide) (hts _ w_673) h27 d_MO_way_57 ?_
            refine lv_aload_n hx hb d_MO_way_60 rfl (lv_at hl 0 rfl) ?_
            obtain ⟨v28, h29, hf⟩ := px_bind hf
            refine px_rgi hx hb hts cl_MO hown hK hM 25 (by decide) (hts _ w_670) h29 d_MO_way_61 ?_
            refine lv_iload_n hx hb d_MO_way_64 rfl (lv_at hl 3 rfl) ?_
            obtain ⟨M30, h31, hf⟩ := px_bind hf
            refine px_rsi hx hb hK hM hS 0 rfl h31 d_MO_way_65 (fun H locs hM hS => ?_)
            refine lv_aload_n hx hb d_MO_way_66 rfl (lv_at hl 0 rfl) ?_
            refine lv_dup hx hb d_MO_way_67 rfl ?_
            obtain ⟨v32, h33, hf⟩ := px_bind hf
            refine px_rgi hx hb hts cl_MO hown hK hM 25 (by decide) (hts _ w_670) h33 d_MO_way_68 ?_
            refine lv_iconst (v := 1) hx hb d_MO_way_71 (by decide) ?_
            refine lv_iadd hx hb d_MO_way_72 ?_
            obtain ⟨M34, h35, hf⟩ := px_bind hf
            refine px_rpt hx hb hts cl_MO hown hK hM hS 25 (by decide) (hts _ w_670) rfl rfl rfl h35 d_MO_way_73 (fun H locs hM hS => ?_)
            refine lv_aload_n hx hb d_MO_way_76 rfl (lv_at hl 0 rfl) ?_
            obtain ⟨v36, h37, hf⟩ := px_bind hf
            refine px_rgi hx hb hts cl_MO hown hK hM 25 (by decide) (hts _ w_670) h37 d_MO_way_77 ?_
            refine lv_iconst (v := 1) hx hb d_MO_way_80 (by decide) ?_
            refine lv_isub hx hb d_MO_way_81 ?_
            obtain ⟨rfl, rfl⟩ := px_s2 hf
            exact px_iret hx hb hr hlocks hM hS d_MO_way_82
          · have hf := px_ift hf c13
            refine lv_iconst (v := (-1)) hx hb d_MO_way_34 (by decide) ?_
            obtain ⟨rfl, rfl⟩ := px_s2 hf
            exact px_iret hx hb hr hlocks hM hS d_MO_way_35
def f_MO_goal (o0 : Nat) (x1 : Int32) (x2 : Int32) (M : px_M) : Option (Int32 × px_M) :=
  (px_ob 11 M o0).bind fun _ =>
  (f_MO_isName o0 x1 M).bind fun (v3, M1) =>
  if v3 = 0 then
  some (0, M1)
  else
  if x2 = ((-1)) then
  (px_gr 11 24 M1 o0).bind fun t6 =>
  (px_si 0 M1 t6 x1 x2).bind fun M8 =>
  some (1, M8)
  else
  (f_MO_isNode x2 M1).bind fun (v12, M10) =>
  if v12 = 0 then
  some (0, M10)
  else
  (px_gr 11 24 M10 o0).bind fun t14 =>
  (px_si 0 M10 t14 x1 x2).bind fun M16 =>
  some (1, M16)
set_option maxHeartbeats 4000000 in
set_option maxRecDepth 100000 in
theorem c_MO_goal (l : Launch) (bs : Nat) (D : va_G) (G : Nat → ClassId) (o0 : Nat) (x1 : Int32) (x2 : Int32) (M : px_M) {r : Int32} {M' : px_M} (hf : f_MO_goal o0 x1 x2 M = some (r, M')) : Met l y_MO_goal (.code y_MO_goal b_MO_goal 3 (some .boolean) :: px_tw) ⟨1, 0, 0, 21⟩ (va_Pc [.ref o0, .int x1, .int x2] (px_B bs D px_cl (px_tys G) px_nw px_over M)) (px_Qi bs D px_cl (px_tys G) r M') 0 0 (fun q => bs ≤ q) := by
  refine px_of (by decide) (Nat.le_of_ble_eq_true rfl) ?_
  intro p e s m below meth c ls C0 hM hS hl
  obtain ⟨hx, hb, hr, hml, hown, hnm, hlocks, hts, hK, hN, hO⟩ := C0
  have hl : lv_has ls 3 [(0, .ref o0), (1, .int x1), (2, .int x2)] := hl
  unfold f_MO_goal at hf
  refine lv_aload_n hx hb d_MO_goal_0 rfl (lv_at hl 0 rfl) ?_
  refine lv_iload_n hx hb d_MO_goal_1 rfl (lv_at hl 1 rfl) ?_
  obtain ⟨_, h18, hf⟩ := px_bind hf
  obtain ⟨⟨v3, M1⟩, h2, hf⟩ := px_bind hf
  dsimp only at hf
  refine px_calli (va_runV (As := [.int x1]) (rest := []) ⟨hx, hb, hml, hown, hts⟩ (c_MO_isName l bs D G o0 x1 M h2) (cwV 1 hts (px_gV w_826 w_828 ws_MO_isName w_12 w_829) rfl rfl rfl (by decide +kernel) ⟨Nat.le_of_ble_eq_true rfl, Nat.le_of_ble_eq_true rfl⟩) (px_preV px_nwok hK hN hO hM h18 rfl) rfl rfl hl.1 rfl (lv_room (Nat.le_of_ble_eq_true rfl)) d_MO_goal_2 ⟨Nat.le_of_ble_eq_true rfl, Nat.le_of_ble_eq_true rfl⟩) hS (fun H locs hM hS => ?_)
  refine lv_if_eq (tgt := 20) hx hb d_MO_goal_5 (by decide) (fun c4 => ?_) (fun c4 => ?_)
  · have hf := px_ift hf c4
    refine lv_iconst (v := 0) hx hb d_MO_goal_20 (by decide) ?_
    obtain ⟨rfl, rfl⟩ := px_s2 hf
    exact px_zret hx hb hr rfl hlocks hM hS d_MO_goal_21
  · have hf := px_iff hf c4
    refine lv_iload_n hx hb d_MO_goal_8 rfl (lv_at hl 2 rfl) ?_
    refine lv_iconst (v := (-1)) hx hb d_MO_goal_9 (by decide) ?_
    refine lv_icmp_eq (tgt := 22) hx hb d_MO_goal_10 (by decide) (fun c5 => ?_) (fun c5 => ?_)
    · have hf := px_ift hf c5
      refine lv_aload_n hx hb d_MO_goal_22 rfl (lv_at hl 0 rfl) ?_
      obtain ⟨t6, h7, hf⟩ := px_bind hf
      refine px_rgr hx hb hts cl_MO hown hK hM 24 (by decide) (hts _ w_669) h7 d_MO_goal_23 ?_
      refine lv_iload_n hx hb d_MO_goal_26 rfl (lv_at hl 1 rfl) ?_
      refine lv_iload_n hx hb d_MO_goal_27 rfl (lv_at hl 2 rfl) ?_
      obtain ⟨M8, h9, hf⟩ := px_bind hf
      refine px_rsi hx hb hK hM hS 0 rfl h9 d_MO_goal_28 (fun H locs hM hS => ?_)
      refine lv_iconst (v := 1) hx hb d_MO_goal_29 (by decide) ?_
      obtain ⟨rfl, rfl⟩ := px_s2 hf
      exact px_zret hx hb hr rfl hlocks hM hS d_MO_goal_30
    · have hf := px_iff hf c5
      refine lv_iload_n hx hb d_MO_goal_13 rfl (lv_at hl 2 rfl) ?_
      obtain ⟨⟨v12, M10⟩, h11, hf⟩ := px_bind hf
      dsimp only at hf
      refine px_calli (va_runS (As := [.int x2]) (rest := []) ⟨hx, hb, hml, hown, hts⟩ (c_MO_isNode l bs D G x2 M1 h11) (cwS 1 hts (px_gS w_843 w_844 w_12 w_845) rfl rfl rfl (by decide +kernel) ⟨Nat.le_of_ble_eq_true rfl, Nat.le_of_ble_eq_true rfl⟩) (px_preS px_nwok hK hN hO hM) rfl rfl hl.1 rfl (lv_room (Nat.le_of_ble_eq_true rfl)) d_MO_goal_14 ⟨Nat.le_of_ble_eq_true rfl, Nat.le_of_ble_eq_true rfl⟩) hS (fun H locs hM hS => ?_)
      refine lv_if_ne (tgt := 22) hx hb d_MO_goal_17 (by decide) (fun c13 => ?_) (fun c13 => ?_)
      · have hf := px_iff hf c13
        refine lv_aload_n hx hb d_MO_goal_22 rfl (lv_at hl 0 rfl) ?_
        obtain ⟨t14, h15, hf⟩ := px_bind hf
        refine px_rgr hx hb hts cl_MO hown hK hM 24 (by decide) (hts _ w_669) h15 d_MO_goal_23 ?_
        refine lv_iload_n hx hb d_MO_goal_26 rfl (lv_at hl 1 rfl) ?_
        refine lv_iload_n hx hb d_MO_goal_27 rfl (lv_at hl 2 rfl) ?_
        obtain ⟨M16, h17, hf⟩ := px_bind hf
        refine px_rsi hx hb hK hM hS 0 rfl h17 d_MO_goal_28 (fun H locs hM hS => ?_)
        refine lv_iconst (v := 1) hx hb d_MO_goal_29 (by decide) ?_
        obtain ⟨rfl, rfl⟩ := px_s2 hf
        exact px_zret hx hb hr rfl hlocks hM hS d_MO_goal_30
      · have hf := px_ift hf c13
        refine lv_iconst (v := 0) hx hb d_MO_goal_20 (by decide) ?_
        obtain ⟨rfl, rfl⟩ := px_s2 hf
        exact px_zret hx hb hr rfl hlocks hM hS d_MO_goal_21
def f_MO_board (o0 : Nat) (x1 : Int32) (M : px_M) : Option (Int32 × px_M) :=
  if x1 < 0 then
  some ((-1), M)
  else
  (px_gi 11 25 M o0).bind fun v2 =>
  if v2 ≤ x1 then
  some ((-1), M)
  else
  (px_gi 11 29 M o0).bind fun v5 =>
  if v5 = 8 then
  some ((-1), M)
  else
  (px_gr 11 30 M o0).bind fun t8 =>
  (px_gi 11 29 M o0).bind fun v10 =>
  (px_si 0 M t8 v10 x1).bind fun M12 =>
  (px_gr 11 31 M12 o0).bind fun t14 =>
  (px_gi 11 29 M12 o0).bind fun v16 =>
  (px_si 0 M12 t14 v16 0).bind fun M18 =>
  (px_gr 11 34 M18 o0).bind fun t20 =>
  (px_gi 11 29 M18 o0).bind fun v22 =>
  (px_si 0 M18 t20 v22 0).bind fun M24 =>
  (px_gi 11 29 M24 o0).bind fun v26 =>
  (px_pt 11 29 M24 o0 (.int (v26 + 1))).bind fun M28 =>
  (px_gi 11 29 M28 o0).bind fun v30 =>
  some (v30 - 1, M28)
set_option maxHeartbeats 4000000 in
set_option maxRecDepth 100000 in
theorem c_MO_board (l : Launch) (bs : Nat) (D : va_G) (G : Nat → ClassId) (o0 : Nat) (x1 : Int32) (M : px_M) {r : Int32} {M' : px_M} (hf : f_MO_board o0 x1 M = some (r, M')) : Met l y_MO_board (.code y_MO_board b_MO_board 2 (some .int) :: px_tw) ⟨0, 0, 0, 0⟩ (va_Pc [.ref o0, .int x1] (px_B bs D px_cl (px_tys G) px_nw px_over M)) (px_Qi bs D px_cl (px_tys G) r M') 0 0 (fun q => bs ≤ q) := by
  refine px_of (by decide) (Nat.le_of_ble_eq_true rfl) ?_
  intro p e s m below meth c ls C0 hM hS hl
  obtain ⟨hx, hb, hr, hml, hown, hnm, hlocks, hts, hK, hN, hO⟩ := C0
  have hl : lv_has ls 2 [(0, .ref o0), (1, .int x1)] := hl
  unfold f_MO_board at hf
  refine lv_iload_n hx hb d_MO_board_0 rfl (lv_at hl 1 rfl) ?_
  refine lv_if_lt (tgt := 21) hx hb d_MO_board_1 (by decide) (fun c1 => ?_) (fun c1 => ?_)
  · have hf := px_ift hf c1
    refine lv_iconst (v := (-1)) hx hb d_MO_board_21 (by decide) ?_
    obtain ⟨rfl, rfl⟩ := px_s2 hf
    exact px_iret hx hb hr hlocks hM hS d_MO_board_22
  · have hf := px_iff hf c1
    refine lv_iload_n hx hb d_MO_board_4 rfl (lv_at hl 1 rfl) ?_
    refine lv_aload_n hx hb d_MO_board_5 rfl (lv_at hl 0 rfl) ?_
    obtain ⟨v2, h3, hf⟩ := px_bind hf
    refine px_rgi hx hb hts cl_MO hown hK hM 25 (by decide) (hts _ w_670) h3 d_MO_board_6 ?_
    refine lv_icmp_ge (tgt := 21) hx hb d_MO_board_9 (by decide) (fun c4 => ?_) (fun c4 => ?_)
    · have hf := px_ift hf c4
      refine lv_iconst (v := (-1)) hx hb d_MO_board_21 (by decide) ?_
      obtain ⟨rfl, rfl⟩ := px_s2 hf
      exact px_iret hx hb hr hlocks hM hS d_MO_board_22
    · have hf := px_iff hf c4
      refine lv_aload_n hx hb d_MO_board_12 rfl (lv_at hl 0 rfl) ?_
      obtain ⟨v5, h6, hf⟩ := px_bind hf
      refine px_rgi hx hb hts cl_MO hown hK hM 29 (by decide) (hts _ w_674) h6 d_MO_board_13 ?_
      refine lv_bipush (v := 8) hx hb d_MO_board_16 (by decide) ?_
      refine lv_icmp_ne (tgt := 23) hx hb d_MO_board_18 (by decide) (fun c7 => ?_) (fun c7 => ?_)
      · have hf := px_iff hf c7
        refine lv_aload_n hx hb d_MO_board_23 rfl (lv_at hl 0 rfl) ?_
        obtain ⟨t8, h9, hf⟩ := px_bind hf
        refine px_rgr hx hb hts cl_MO hown hK hM 30 (by decide) (hts _ w_675) h9 d_MO_board_24 ?_
        refine lv_aload_n hx hb d_MO_board_27 rfl (lv_at hl 0 rfl) ?_
        obtain ⟨v10, h11, hf⟩ := px_bind hf
        refine px_rgi hx hb hts cl_MO hown hK hM 29 (by decide) (hts _ w_674) h11 d_MO_board_28 ?_
        refine lv_iload_n hx hb d_MO_board_31 rfl (lv_at hl 1 rfl) ?_
        obtain ⟨M12, h13, hf⟩ := px_bind hf
        refine px_rsi hx hb hK hM hS 0 rfl h13 d_MO_board_32 (fun H locs hM hS => ?_)
        refine lv_aload_n hx hb d_MO_board_33 rfl (lv_at hl 0 rfl) ?_
        obtain ⟨t14, h15, hf⟩ := px_bind hf
        refine px_rgr hx hb hts cl_MO hown hK hM 31 (by decide) (hts _ w_676) h15 d_MO_board_34 ?_
        refine lv_aload_n hx hb d_MO_board_37 rfl (lv_at hl 0 rfl) ?_
        obtain ⟨v16, h17, hf⟩ := px_bind hf
        refine px_rgi hx hb hts cl_MO hown hK hM 29 (by decide) (hts _ w_674) h17 d_MO_board_38 ?_
        refine lv_iconst (v := 0) hx hb d_MO_board_41 (by decide) ?_
        obtain ⟨M18, h19, hf⟩ := px_bind hf
        refine px_rsi hx hb hK hM hS 0 rfl h19 d_MO_board_42 (fun H locs hM hS => ?_)
        refine lv_aload_n hx hb d_MO_board_43 rfl (lv_at hl 0 rfl) ?_
        obtain ⟨t20, h21, hf⟩ := px_bind hf
        refine px_rgr hx hb hts cl_MO hown hK hM 34 (by decide) (hts _ w_679) h21 d_MO_board_44 ?_
        refine lv_aload_n hx hb d_MO_board_47 rfl (lv_at hl 0 rfl) ?_
        obtain ⟨v22, h23, hf⟩ := px_bind hf
        refine px_rgi hx hb hts cl_MO hown hK hM 29 (by decide) (hts _ w_674) h23 d_MO_board_48 ?_
        refine lv_iconst (v := 0) hx hb d_MO_board_51 (by decide) ?_
        obtain ⟨M24, h25, hf⟩ := px_bind hf
        refine px_rsi hx hb hK hM hS 0 rfl h25 d_MO_board_52 (fun H locs hM hS => ?_)
        refine lv_aload_n hx hb d_MO_board_53 rfl (lv_at hl 0 rfl) ?_
        refine lv_dup hx hb d_MO_board_54 rfl ?_
        obtain ⟨v26, h27, hf⟩ := px_bind hf
        refine px_rgi hx hb hts cl_MO hown hK hM 29 (by decide) (hts _ w_674) h27 d_MO_board_55 ?_
        refine lv_iconst (v := 1) hx hb d_MO_board_58 (by decide) ?_
        refine lv_iadd hx hb d_MO_board_59 ?_
        obtain ⟨M28, h29, hf⟩ := px_bind hf
        refine px_rpt hx hb hts cl_MO hown hK hM hS 29 (by decide) (hts _ w_674) rfl rfl rfl h29 d_MO_board_60 (fun H locs hM hS => ?_)
        refine lv_aload_n hx hb d_MO_board_63 rfl (lv_at hl 0 rfl) ?_
        obtain ⟨v30, h31, hf⟩ := px_bind hf
        refine px_rgi hx hb hts cl_MO hown hK hM 29 (by decide) (hts _ w_674) h31 d_MO_board_64 ?_
        refine lv_iconst (v := 1) hx hb d_MO_board_67 (by decide) ?_
        refine lv_isub hx hb d_MO_board_68 ?_
        obtain ⟨rfl, rfl⟩ := px_s2 hf
        exact px_iret hx hb hr hlocks hM hS d_MO_board_69
      · have hf := px_ift hf c7
        refine lv_iconst (v := (-1)) hx hb d_MO_board_21 (by decide) ?_
        obtain ⟨rfl, rfl⟩ := px_s2 hf
        exact px_iret hx hb hr hlocks hM hS d_MO_board_22
def f_MO_isBoard (o0 : Nat) (x1 : Int32) (M : px_M) : Option (Int32 × px_M) :=
  if x1 < 0 then
  some (0, M)
  else
  (px_gi 11 29 M o0).bind fun v2 =>
  if v2 ≤ x1 then
  some (0, M)
  else
  some (1, M)
set_option maxHeartbeats 4000000 in
set_option maxRecDepth 100000 in
theorem c_MO_isBoard (l : Launch) (bs : Nat) (D : va_G) (G : Nat → ClassId) (o0 : Nat) (x1 : Int32) (M : px_M) {r : Int32} {M' : px_M} (hf : f_MO_isBoard o0 x1 M = some (r, M')) : Met l y_MO_isBoard (.code y_MO_isBoard b_MO_isBoard 2 (some .boolean) :: px_tw) ⟨0, 0, 0, 0⟩ (va_Pc [.ref o0, .int x1] (px_B bs D px_cl (px_tys G) px_nw px_over M)) (px_Qi bs D px_cl (px_tys G) r M') 0 0 (fun q => bs ≤ q) := by
  refine px_of (by decide) (Nat.le_of_ble_eq_true rfl) ?_
  intro p e s m below meth c ls C0 hM hS hl
  obtain ⟨hx, hb, hr, hml, hown, hnm, hlocks, hts, hK, hN, hO⟩ := C0
  have hl : lv_has ls 2 [(0, .ref o0), (1, .int x1)] := hl
  unfold f_MO_isBoard at hf
  refine lv_iload_n hx hb d_MO_isBoard_0 rfl (lv_at hl 1 rfl) ?_
  refine lv_if_lt (tgt := 16) hx hb d_MO_isBoard_1 (by decide) (fun c1 => ?_) (fun c1 => ?_)
  · have hf := px_ift hf c1
    refine lv_iconst (v := 0) hx hb d_MO_isBoard_16 (by decide) ?_
    obtain ⟨rfl, rfl⟩ := px_s2 hf
    exact px_zret hx hb hr rfl hlocks hM hS d_MO_isBoard_17
  · have hf := px_iff hf c1
    refine lv_iload_n hx hb d_MO_isBoard_4 rfl (lv_at hl 1 rfl) ?_
    refine lv_aload_n hx hb d_MO_isBoard_5 rfl (lv_at hl 0 rfl) ?_
    obtain ⟨v2, h3, hf⟩ := px_bind hf
    refine px_rgi hx hb hts cl_MO hown hK hM 29 (by decide) (hts _ w_674) h3 d_MO_isBoard_6 ?_
    refine lv_icmp_ge (tgt := 16) hx hb d_MO_isBoard_9 (by decide) (fun c4 => ?_) (fun c4 => ?_)
    · have hf := px_ift hf c4
      refine lv_iconst (v := 0) hx hb d_MO_isBoard_16 (by decide) ?_
      obtain ⟨rfl, rfl⟩ := px_s2 hf
      exact px_zret hx hb hr rfl hlocks hM hS d_MO_isBoard_17
    · have hf := px_iff hf c4
      refine lv_iconst (v := 1) hx hb d_MO_isBoard_12 (by decide) ?_
      refine lv_goto (tgt := 17) hx hb d_MO_isBoard_13 (by decide) ?_
      obtain ⟨rfl, rfl⟩ := px_s2 hf
      exact px_zret hx hb hr rfl hlocks hM hS d_MO_isBoard_17
def f_MO_has_L5 : Nat → Nat → Int32 → Int32 → Int32 → Int32 → px_M → Option ((Int32) × px_M)
  | 0, _, _, _, _, _, _ => none
  | n + 1, o0, x1, x2, x3, x4, M =>
    (px_gr 11 31 M o0).bind fun t1 =>
    (px_ai 0 M t1 x1).bind fun v3 =>
    if v3 ≤ x4 then
    some (x3, M)
    else
    if x3 = 0 then
    (px_gr 11 32 M o0).bind fun t7 =>
    (px_ai 0 M t7 ((5 * x1) + x4)).bind fun v9 =>
    if v9 = x2 then
    f_MO_has_L5 n o0 x1 x2 1 (x4 + 1) M
    else
    f_MO_has_L5 n o0 x1 x2 0 (x4 + 1) M
    else
    f_MO_has_L5 n o0 x1 x2 1 (x4 + 1) M
set_option maxHeartbeats 4000000 in
set_option maxRecDepth 100000 in
theorem lp_MO_has_L5 {p : Program} {l : Launch} {e : Env} {s : State} {m : MethodId} {args : Array Value} {below : List Frame} {meth : Method} {c : Code} {bs : Nat} {D : va_G} {G : Nat → ClassId} {Q : State → Prop} (C0 : px_At p s m meth c y_MO_has b_MO_has 5 (some .boolean) args D px_cl (px_tys G) px_nw px_over) (x : Int32) (M' : px_M) (o0 : Nat) (x1 : Int32) (x2 : Int32) (kx : ∀ (H : Heap) (locs : List Loc) (ls : Array Slot), px_W bs D px_cl (px_tys G) M' H → va_S (fun q => bs ≤ q) s.heap H locs → lv_has ls 5 [(3, .int x)] → W p l e ⟨0, 0, 0, 0⟩ s m args below meth c H locs 0 0 Q (F0 m 47 ls []))  : ∀ (n : Nat) (x3 : Int32) (x4 : Int32) (M : px_M), f_MO_has_L5 n o0 x1 x2 x3 x4 M = some (x, M') → ∀ (H : Heap) (locs : List Loc) (ls : Array Slot), px_W bs D px_cl (px_tys G) M H → va_S (fun q => bs ≤ q) s.heap H locs → lv_has ls 5 [(0, .ref o0), (1, .int x1), (2, .int x2), (3, .int x3), (4, .int x4)] → W p l e ⟨0, 0, 0, 0⟩ s m args below meth c H locs 0 0 Q (F0 m 5 ls []) := by
  obtain ⟨hx, hb, hr, hml, hown, hnm, hlocks, hts, hK, hN, hO⟩ := C0
  intro n
  induction n with
  | zero => intro x3 x4 M hf; cases hf
  | succ n ih =>
    intro x3 x4 M hf H locs ls hM hS hl
    unfold f_MO_has_L5 at hf
    refine lv_iload hx hb d_MO_has_5 (lv_at hl 4 rfl) ?_
    refine lv_aload_n hx hb d_MO_has_7 rfl (lv_at hl 0 rfl) ?_
    obtain ⟨t1, h2, hf⟩ := px_bind hf
    refine px_rgr hx hb hts cl_MO hown hK hM 31 (by decide) (hts _ w_676) h2 d_MO_has_8 ?_
    refine lv_iload_n hx hb d_MO_has_11 rfl (lv_at hl 1 rfl) ?_
    obtain ⟨v3, h4, hf⟩ := px_bind hf
    refine px_rai hx hb hK hM 0 rfl h4 d_MO_has_12 ?_
    refine lv_icmp_ge (tgt := 47) hx hb d_MO_has_13 (by decide) (fun c5 => ?_) (fun c5 => ?_)
    · have hf := px_ift hf c5
      obtain ⟨rfl, rfl⟩ := px_s2 hf
      exact kx _ _ _ hM hS (lv_sub hl [3] rfl)
    · have hf := px_iff hf c5
      refine lv_iload_n hx hb d_MO_has_16 rfl (lv_at hl 3 rfl) ?_
      refine lv_if_ne (tgt := 35) hx hb d_MO_has_17 (by decide) (fun c6 => ?_) (fun c6 => ?_)
      · have hf := px_iff hf c6
        refine lv_iconst (v := 1) hx hb d_MO_has_35 (by decide) ?_
        refine lv_goto (tgt := 40) hx hb d_MO_has_36 (by decide) ?_
        refine lv_istore_n (lv' := [(3, .int 1), (0, .ref o0), (1, .int x1), (2, .int x2), (4, .int x4)]) hx hb d_MO_has_40 rfl hl (by decide) rfl (fun ls hl => ?_)
        refine lv_iinc (v := x4 + 1) (lv' := [(4, .int (x4 + 1)), (3, .int 1), (0, .ref o0), (1, .int x1), (2, .int x2)]) hx hb d_MO_has_41 hl (k := 4) rfl (by rfl) (by decide) rfl (fun ls hl => ?_)
        refine lv_goto (tgt := 5) hx hb d_MO_has_44 (by decide) ?_
        exact ih 1 (x4 + 1) M hf _ _ _ hM hS (lv_sub hl [2, 3, 4, 1, 0] rfl)
      · have hf := px_ift hf c6
        refine lv_aload_n hx hb d_MO_has_20 rfl (lv_at hl 0 rfl) ?_
        obtain ⟨t7, h8, hf⟩ := px_bind hf
        refine px_rgr hx hb hts cl_MO hown hK hM 32 (by decide) (hts _ w_677) h8 d_MO_has_21 ?_
        refine lv_iconst (v := 5) hx hb d_MO_has_24 (by decide) ?_
        refine lv_iload_n hx hb d_MO_has_25 rfl (lv_at hl 1 rfl) ?_
        refine lv_imul hx hb d_MO_has_26 ?_
        refine lv_iload hx hb d_MO_has_27 (lv_at hl 4 rfl) ?_
        refine lv_iadd hx hb d_MO_has_29 ?_
        obtain ⟨v9, h10, hf⟩ := px_bind hf
        refine px_rai hx hb hK hM 0 rfl h10 d_MO_has_30 ?_
        refine lv_iload_n hx hb d_MO_has_31 rfl (lv_at hl 2 rfl) ?_
        refine lv_icmp_ne (tgt := 39) hx hb d_MO_has_32 (by decide) (fun c11 => ?_) (fun c11 => ?_)
        · have hf := px_iff hf c11
          refine lv_iconst (v := 0) hx hb d_MO_has_39 (by decide) ?_
          refine lv_istore_n (lv' := [(3, .int 0), (0, .ref o0), (1, .int x1), (2, .int x2), (4, .int x4)]) hx hb d_MO_has_40 rfl hl (by decide) rfl (fun ls hl => ?_)
          refine lv_iinc (v := x4 + 1) (lv' := [(4, .int (x4 + 1)), (3, .int 0), (0, .ref o0), (1, .int x1), (2, .int x2)]) hx hb d_MO_has_41 hl (k := 4) rfl (by rfl) (by decide) rfl (fun ls hl => ?_)
          refine lv_goto (tgt := 5) hx hb d_MO_has_44 (by decide) ?_
          exact ih 0 (x4 + 1) M hf _ _ _ hM hS (lv_sub hl [2, 3, 4, 1, 0] rfl)
        · have hf := px_ift hf c11
          refine lv_iconst (v := 1) hx hb d_MO_has_35 (by decide) ?_
          refine lv_goto (tgt := 40) hx hb d_MO_has_36 (by decide) ?_
          refine lv_istore_n (lv' := [(3, .int 1), (0, .ref o0), (1, .int x1), (2, .int x2), (4, .int x4)]) hx hb d_MO_has_40 rfl hl (by decide) rfl (fun ls hl => ?_)
          refine lv_iinc (v := x4 + 1) (lv' := [(4, .int (x4 + 1)), (3, .int 1), (0, .ref o0), (1, .int x1), (2, .int x2)]) hx hb d_MO_has_41 hl (k := 4) rfl (by rfl) (by decide) rfl (fun ls hl => ?_)
          refine lv_goto (tgt := 5) hx hb d_MO_has_44 (by decide) ?_
          exact ih 1 (x4 + 1) M hf _ _ _ hM hS (lv_sub hl [2, 3, 4, 1, 0] rfl)
def f_MO_has (o0 : Nat) (x1 : Int32) (x2 : Int32) (M : px_M) : Option (Int32 × px_M) :=
  (f_MO_has_L5 px_fuel o0 x1 x2 0 0 M).bind fun (v14, M12) =>
  if v14 = 0 ∨ v14 = 1 then
  some (v14, M12)
  else none
set_option maxHeartbeats 4000000 in
set_option maxRecDepth 100000 in
theorem c_MO_has (l : Launch) (bs : Nat) (D : va_G) (G : Nat → ClassId) (o0 : Nat) (x1 : Int32) (x2 : Int32) (M : px_M) {r : Int32} {M' : px_M} (hf : f_MO_has o0 x1 x2 M = some (r, M')) : Met l y_MO_has (.code y_MO_has b_MO_has 5 (some .boolean) :: px_tw) ⟨0, 0, 0, 0⟩ (va_Pc [.ref o0, .int x1, .int x2] (px_B bs D px_cl (px_tys G) px_nw px_over M)) (px_Qi bs D px_cl (px_tys G) r M') 0 0 (fun q => bs ≤ q) := by
  refine px_of (by decide) (Nat.le_of_ble_eq_true rfl) ?_
  intro p e s m below meth c ls C0 hM hS hl
  obtain ⟨hx, hb, hr, hml, hown, hnm, hlocks, hts, hK, hN, hO⟩ := C0
  have hl : lv_has ls 5 [(0, .ref o0), (1, .int x1), (2, .int x2)] := hl
  unfold f_MO_has at hf
  refine lv_iconst (v := 0) hx hb d_MO_has_0 (by decide) ?_
  refine lv_istore_n (lv' := [(3, .int 0), (0, .ref o0), (1, .int x1), (2, .int x2)]) hx hb d_MO_has_1 rfl hl (by decide) rfl (fun ls hl => ?_)
  refine lv_iconst (v := 0) hx hb d_MO_has_2 (by decide) ?_
  refine lv_istore (lv' := [(4, .int 0), (3, .int 0), (0, .ref o0), (1, .int x1), (2, .int x2)]) hx hb d_MO_has_3 hl (by decide) rfl (fun ls hl => ?_)
  obtain ⟨⟨v14, M12⟩, h13, hf⟩ := px_bind hf
  dsimp only at hf
  refine lp_MO_has_L5 ⟨hx, hb, hr, hml, hown, hnm, hlocks, hts, hK, hN, hO⟩ _ M12 o0 x1 x2 (fun H locs ls hM hS hl => ?_) px_fuel 0 0 M h13 _ _ _ hM hS (lv_sub hl [2, 3, 4, 1, 0] rfl)
  try dsimp only at hl
  refine lv_iload_n hx hb d_MO_has_47 rfl (lv_at hl 0 rfl) ?_
  have hz : v14 = 0 ∨ v14 = 1 := Classical.byContradiction fun q => (by have q2 := px_iff hf q; cases q2)
  have hf := px_ift hf hz
  obtain ⟨rfl, rfl⟩ := px_s2 hf
  exact px_zret hx hb hr (px_nz hz) hlocks hM hS d_MO_has_48
def f_MO_on (o0 : Nat) (x1 : Int32) (x2 : Int32) (x3 : Int32) (M : px_M) : Option (Int32 × px_M) :=
  (px_ob 11 M o0).bind fun _ =>
  (f_MO_isBoard o0 x1 M).bind fun (v3, M1) =>
  if v3 = 0 then
  some (0, M1)
  else
  (px_ob 11 M1 o0).bind fun _ =>
  (f_MO_isName o0 x2 M1).bind fun (v7, M5) =>
  if v7 = 0 then
  some (0, M5)
  else
  if x3 < 0 then
  some (0, M5)
  else
  if 2 < x3 then
  some (0, M5)
  else
  (px_gr 11 31 M5 o0).bind fun t11 =>
  (px_ai 0 M5 t11 x1).bind fun v13 =>
  if v13 = 5 then
  some (0, M5)
  else
  (px_ob 11 M5 o0).bind fun _ =>
  (f_MO_has o0 x1 x2 M5).bind fun (v18, M16) =>
  if v18 = 0 then
  (px_gr 11 32 M16 o0).bind fun t20 =>
  (px_gr 11 31 M16 o0).bind fun t22 =>
  (px_ai 0 M16 t22 x1).bind fun v24 =>
  (px_si 0 M16 t20 ((5 * x1) + v24) x2).bind fun M26 =>
  (px_gr 11 33 M26 o0).bind fun t28 =>
  (px_gr 11 31 M26 o0).bind fun t30 =>
  (px_ai 0 M26 t30 x1).bind fun v32 =>
  (px_si 0 M26 t28 ((5 * x1) + v32) x3).bind fun M34 =>
  (px_gr 11 31 M34 o0).bind fun t36 =>
  (px_ai 0 M34 t36 x1).bind fun v38 =>
  (px_si 0 M34 t36 x1 (v38 + 1)).bind fun M40 =>
  some (1, M40)
  else
  some (0, M16)
set_option maxHeartbeats 4000000 in
set_option maxRecDepth 100000 in
theorem c_MO_on (l : Launch) (bs : Nat) (D : va_G) (G : Nat → ClassId) (o0 : Nat) (x1 : Int32) (x2 : Int32) (x3 : Int32) (M : px_M) {r : Int32} {M' : px_M} (hf : f_MO_on o0 x1 x2 x3 M = some (r, M')) : Met l y_MO_on (.code y_MO_on b_MO_on 4 (some .boolean) :: px_tw) ⟨1, 0, 0, 24⟩ (va_Pc [.ref o0, .int x1, .int x2, .int x3] (px_B bs D px_cl (px_tys G) px_nw px_over M)) (px_Qi bs D px_cl (px_tys G) r M') 0 0 (fun q => bs ≤ q) := by
  refine px_of (by decide) (Nat.le_of_ble_eq_true rfl) ?_
  intro p e s m below meth c ls C0 hM hS hl
  obtain ⟨hx, hb, hr, hml, hown, hnm, hlocks, hts, hK, hN, hO⟩ := C0
  have hl : lv_has ls 4 [(0, .ref o0), (1, .int x1), (2, .int x2), (3, .int x3)] := hl
  unfold f_MO_on at hf
  refine lv_aload_n hx hb d_MO_on_0 rfl (lv_at hl 0 rfl) ?_
  refine lv_iload_n hx hb d_MO_on_1 rfl (lv_at hl 1 rfl) ?_
  obtain ⟨_, h44, hf⟩ := px_bind hf
  obtain ⟨⟨v3, M1⟩, h2, hf⟩ := px_bind hf
  dsimp only at hf
  refine px_calli (va_runV (As := [.int x1]) (rest := []) ⟨hx, hb, hml, hown, hts⟩ (c_MO_isBoard l bs D G o0 x1 M h2) (cwV 1 hts (px_gV w_859 w_861 ws_MO_isBoard w_12 w_862) rfl rfl rfl (by decide +kernel) ⟨Nat.le_of_ble_eq_true rfl, Nat.le_of_ble_eq_true rfl⟩) (px_preV px_nwok hK hN hO hM h44 rfl) rfl rfl hl.1 rfl (lv_room (Nat.le_of_ble_eq_true rfl)) d_MO_on_2 ⟨Nat.le_of_ble_eq_true rfl, Nat.le_of_ble_eq_true rfl⟩) hS (fun H locs hM hS => ?_)
  refine lv_if_eq (tgt := 44) hx hb d_MO_on_5 (by decide) (fun c4 => ?_) (fun c4 => ?_)
  · have hf := px_ift hf c4
    refine lv_iconst (v := 0) hx hb d_MO_on_44 (by decide) ?_
    obtain ⟨rfl, rfl⟩ := px_s2 hf
    exact px_zret hx hb hr rfl hlocks hM hS d_MO_on_45
  · have hf := px_iff hf c4
    refine lv_aload_n hx hb d_MO_on_8 rfl (lv_at hl 0 rfl) ?_
    refine lv_iload_n hx hb d_MO_on_9 rfl (lv_at hl 2 rfl) ?_
    obtain ⟨_, h43, hf⟩ := px_bind hf
    obtain ⟨⟨v7, M5⟩, h6, hf⟩ := px_bind hf
    dsimp only at hf
    refine px_calli (va_runV (As := [.int x2]) (rest := []) ⟨hx, hb, hml, hown, hts⟩ (c_MO_isName l bs D G o0 x2 M1 h6) (cwV 1 hts (px_gV w_826 w_828 ws_MO_isName w_12 w_829) rfl rfl rfl (by decide +kernel) ⟨Nat.le_of_ble_eq_true rfl, Nat.le_of_ble_eq_true rfl⟩) (px_preV px_nwok hK hN hO hM h43 rfl) rfl rfl hl.1 rfl (lv_room (Nat.le_of_ble_eq_true rfl)) d_MO_on_10 ⟨Nat.le_of_ble_eq_true rfl, Nat.le_of_ble_eq_true rfl⟩) hS (fun H locs hM hS => ?_)
    refine lv_if_eq (tgt := 44) hx hb d_MO_on_13 (by decide) (fun c8 => ?_) (fun c8 => ?_)
    · have hf := px_ift hf c8
      refine lv_iconst (v := 0) hx hb d_MO_on_44 (by decide) ?_
      obtain ⟨rfl, rfl⟩ := px_s2 hf
      exact px_zret hx hb hr rfl hlocks hM hS d_MO_on_45
    · have hf := px_iff hf c8
      refine lv_iload_n hx hb d_MO_on_16 rfl (lv_at hl 3 rfl) ?_
      refine lv_if_lt (tgt := 44) hx hb d_MO_on_17 (by decide) (fun c9 => ?_) (fun c9 => ?_)
      · have hf := px_ift hf c9
        refine lv_iconst (v := 0) hx hb d_MO_on_44 (by decide) ?_
        obtain ⟨rfl, rfl⟩ := px_s2 hf
        exact px_zret hx hb hr rfl hlocks hM hS d_MO_on_45
      · have hf := px_iff hf c9
        refine lv_iload_n hx hb d_MO_on_20 rfl (lv_at hl 3 rfl) ?_
        refine lv_iconst (v := 2) hx hb d_MO_on_21 (by decide) ?_
        refine lv_icmp_gt (tgt := 44) hx hb d_MO_on_22 (by decide) (fun c10 => ?_) (fun c10 => ?_)
        · have hf := px_ift hf c10
          refine lv_iconst (v := 0) hx hb d_MO_on_44 (by decide) ?_
          obtain ⟨rfl, rfl⟩ := px_s2 hf
          exact px_zret hx hb hr rfl hlocks hM hS d_MO_on_45
        · have hf := px_iff hf c10
          refine lv_aload_n hx hb d_MO_on_25 rfl (lv_at hl 0 rfl) ?_
          obtain ⟨t11, h12, hf⟩ := px_bind hf
          refine px_rgr hx hb hts cl_MO hown hK hM 31 (by decide) (hts _ w_676) h12 d_MO_on_26 ?_
          refine lv_iload_n hx hb d_MO_on_29 rfl (lv_at hl 1 rfl) ?_
          obtain ⟨v13, h14, hf⟩ := px_bind hf
          refine px_rai hx hb hK hM 0 rfl h14 d_MO_on_30 ?_
          refine lv_iconst (v := 5) hx hb d_MO_on_31 (by decide) ?_
          refine lv_icmp_eq (tgt := 44) hx hb d_MO_on_32 (by decide) (fun c15 => ?_) (fun c15 => ?_)
          · have hf := px_ift hf c15
            refine lv_iconst (v := 0) hx hb d_MO_on_44 (by decide) ?_
            obtain ⟨rfl, rfl⟩ := px_s2 hf
            exact px_zret hx hb hr rfl hlocks hM hS d_MO_on_45
          · have hf := px_iff hf c15
            refine lv_aload_n hx hb d_MO_on_35 rfl (lv_at hl 0 rfl) ?_
            refine lv_iload_n hx hb d_MO_on_36 rfl (lv_at hl 1 rfl) ?_
            refine lv_iload_n hx hb d_MO_on_37 rfl (lv_at hl 2 rfl) ?_
            obtain ⟨_, h42, hf⟩ := px_bind hf
            obtain ⟨⟨v18, M16⟩, h17, hf⟩ := px_bind hf
            dsimp only at hf
            refine px_calli (va_runV (As := [.int x1, .int x2]) (rest := []) ⟨hx, hb, hml, hown, hts⟩ (c_MO_has l bs D G o0 x1 x2 M5 h17) (cwV 2 hts (px_gV w_863 w_865 ws_MO_has w_12 w_866) rfl rfl rfl (by decide +kernel) ⟨Nat.le_of_ble_eq_true rfl, Nat.le_of_ble_eq_true rfl⟩) (px_preV px_nwok hK hN hO hM h42 rfl) rfl rfl hl.1 rfl (lv_room (Nat.le_of_ble_eq_true rfl)) d_MO_on_38 ⟨Nat.le_of_ble_eq_true rfl, Nat.le_of_ble_eq_true rfl⟩) hS (fun H locs hM hS => ?_)
            refine lv_if_eq (tgt := 46) hx hb d_MO_on_41 (by decide) (fun c19 => ?_) (fun c19 => ?_)
            · have hf := px_ift hf c19
              refine lv_aload_n hx hb d_MO_on_46 rfl (lv_at hl 0 rfl) ?_
              obtain ⟨t20, h21, hf⟩ := px_bind hf
              refine px_rgr hx hb hts cl_MO hown hK hM 32 (by decide) (hts _ w_677) h21 d_MO_on_47 ?_
              refine lv_iconst (v := 5) hx hb d_MO_on_50 (by decide) ?_
              refine lv_iload_n hx hb d_MO_on_51 rfl (lv_at hl 1 rfl) ?_
              refine lv_imul hx hb d_MO_on_52 ?_
              refine lv_aload_n hx hb d_MO_on_53 rfl (lv_at hl 0 rfl) ?_
              obtain ⟨t22, h23, hf⟩ := px_bind hf
              refine px_rgr hx hb hts cl_MO hown hK hM 31 (by decide) (hts _ w_676) h23 d_MO_on_54 ?_
              refine lv_iload_n hx hb d_MO_on_57 rfl (lv_at hl 1 rfl) ?_
              obtain ⟨v24, h25, hf⟩ := px_bind hf
              refine px_rai hx hb hK hM 0 rfl h25 d_MO_on_58 ?_
              refine lv_iadd hx hb d_MO_on_59 ?_
              refine lv_iload_n hx hb d_MO_on_60 rfl (lv_at hl 2 rfl) ?_
              obtain ⟨M26, h27, hf⟩ := px_bind hf
              refine px_rsi hx hb hK hM hS 0 rfl h27 d_MO_on_61 (fun H locs hM hS => ?_)
              refine lv_aload_n hx hb d_MO_on_62 rfl (lv_at hl 0 rfl) ?_
              obtain ⟨t28, h29, hf⟩ := px_bind hf
              refine px_rgr hx hb hts cl_MO hown hK hM 33 (by decide) (hts _ w_678) h29 d_MO_on_63 ?_
              refine lv_iconst (v := 5) hx hb d_MO_on_66 (by decide) ?_
              refine lv_iload_n hx hb d_MO_on_67 rfl (lv_at hl 1 rfl) ?_
              refine lv_imul hx hb d_MO_on_68 ?_
              refine lv_aload_n hx hb d_MO_on_69 rfl (lv_at hl 0 rfl) ?_
              obtain ⟨t30, h31, hf⟩ := px_bind hf
              refine px_rgr hx hb hts cl_MO hown hK hM 31 (by decide) (hts _ w_676) h31 d_MO_on_70 ?_
              refine lv_iload_n hx hb d_MO_on_73 rfl (lv_at hl 1 rfl) ?_
              obtain ⟨v32, h33, hf⟩ := px_bind hf
              refine px_rai hx hb hK hM 0 rfl h33 d_MO_on_74 ?_
              refine lv_iadd hx hb d_MO_on_75 ?_
              refine lv_iload_n hx hb d_MO_on_76 rfl (lv_at hl 3 rfl) ?_
              obtain ⟨M34, h35, hf⟩ := px_bind hf
              refine px_rsi hx hb hK hM hS 0 rfl h35 d_MO_on_77 (fun H locs hM hS => ?_)
              refine lv_aload_n hx hb d_MO_on_78 rfl (lv_at hl 0 rfl) ?_
              obtain ⟨t36, h37, hf⟩ := px_bind hf
              refine px_rgr hx hb hts cl_MO hown hK hM 31 (by decide) (hts _ w_676) h37 d_MO_on_79 ?_
              refine lv_iload_n hx hb d_MO_on_82 rfl (lv_at hl 1 rfl) ?_
              refine lv_dup2_11 hx hb d_MO_on_83 rfl rfl ?_
              obtain ⟨v38, h39, hf⟩ := px_bind hf
              refine px_rai hx hb hK hM 0 rfl h39 d_MO_on_84 ?_
              refine lv_iconst (v := 1) hx hb d_MO_on_85 (by decide) ?_
              refine lv_iadd hx hb d_MO_on_86 ?_
              obtain ⟨M40, h41, hf⟩ := px_bind hf
              refine px_rsi hx hb hK hM hS 0 rfl h41 d_MO_on_87 (fun H locs hM hS => ?_)
              refine lv_iconst (v := 1) hx hb d_MO_on_88 (by decide) ?_
              obtain ⟨rfl, rfl⟩ := px_s2 hf
              exact px_zret hx hb hr rfl hlocks hM hS d_MO_on_89
            · have hf := px_iff hf c19
              refine lv_iconst (v := 0) hx hb d_MO_on_44 (by decide) ?_
              obtain ⟨rfl, rfl⟩ := px_s2 hf
              exact px_zret hx hb hr rfl hlocks hM hS d_MO_on_45
