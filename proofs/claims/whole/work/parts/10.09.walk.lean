def f_MO_wide (o0 : Nat) (x1 : Int32) (x2 : Int32) (M : px_M) : Option (Int32 × px_M) :=
  (px_ob 11 M o0).bind fun _ =>
  (f_MO_isBoard o0 x1 M).bind fun (v3, M1) =>
  if v3 = 0 then
  some (0, M1)
  else
  if x2 < 0 then
  some (0, M1)
  else
  if x2 ≤ 10000 then
  (px_gr 11 34 M1 o0).bind fun t7 =>
  (px_si 0 M1 t7 x1 x2).bind fun M9 =>
  some (1, M9)
  else
  some (0, M1)
set_option maxHeartbeats 4000000 in
set_option maxRecDepth 100000 in
theorem c_MO_wide (l : Launch) (bs : Nat) (D : va_G) (G : Nat → ClassId) (o0 : Nat) (x1 : Int32) (x2 : Int32) (M : px_M) {r : Int32} {M' : px_M} (hf : f_MO_wide o0 x1 x2 M = some (r, M')) : Met l y_MO_wide (.code y_MO_wide b_MO_wide 3 (some .boolean) :: px_tw) ⟨1, 0, 0, 21⟩ (va_Pc [.ref o0, .int x1, .int x2] (px_B bs D px_cl (px_tys G) px_nw px_over M)) (px_Qi bs D px_cl (px_tys G) r M') 0 0 (fun q => bs ≤ q) := by
  refine px_of (by decide) (Nat.le_of_ble_eq_true rfl) ?_
  intro p e s m below meth c ls C0 hM hS hl
  obtain ⟨hx, hb, hr, hml, hown, hnm, hlocks, hts, hK, hN, hO⟩ := C0
  have hl : lv_has ls 3 [(0, .ref o0), (1, .int x1), (2, .int x2)] := hl
  unfold f_MO_wide at hf
  refine lv_aload_n hx hb d_MO_wide_0 rfl (lv_at hl 0 rfl) ?_
  refine lv_iload_n hx hb d_MO_wide_1 rfl (lv_at hl 1 rfl) ?_
  obtain ⟨_, h11, hf⟩ := px_bind hf
  obtain ⟨⟨v3, M1⟩, h2, hf⟩ := px_bind hf
  dsimp only at hf
  refine px_calli (va_runV (As := [.int x1]) (rest := []) ⟨hx, hb, hml, hown, hts⟩ (c_MO_isBoard l bs D G o0 x1 M h2) (cwV 1 hts (px_gV w_859 w_861 ws_MO_isBoard w_12 w_862) rfl rfl rfl (by decide +kernel) ⟨Nat.le_of_ble_eq_true rfl, Nat.le_of_ble_eq_true rfl⟩) (px_preV px_nwok hK hN hO hM h11 rfl) rfl rfl hl.1 rfl (lv_room (Nat.le_of_ble_eq_true rfl)) d_MO_wide_2 ⟨Nat.le_of_ble_eq_true rfl, Nat.le_of_ble_eq_true rfl⟩) hS (fun H locs hM hS => ?_)
  refine lv_if_eq (tgt := 19) hx hb d_MO_wide_5 (by decide) (fun c4 => ?_) (fun c4 => ?_)
  · have hf := px_ift hf c4
    refine lv_iconst (v := 0) hx hb d_MO_wide_19 (by decide) ?_
    obtain ⟨rfl, rfl⟩ := px_s2 hf
    exact px_zret hx hb hr rfl hlocks hM hS d_MO_wide_20
  · have hf := px_iff hf c4
    refine lv_iload_n hx hb d_MO_wide_8 rfl (lv_at hl 2 rfl) ?_
    refine lv_if_lt (tgt := 19) hx hb d_MO_wide_9 (by decide) (fun c5 => ?_) (fun c5 => ?_)
    · have hf := px_ift hf c5
      refine lv_iconst (v := 0) hx hb d_MO_wide_19 (by decide) ?_
      obtain ⟨rfl, rfl⟩ := px_s2 hf
      exact px_zret hx hb hr rfl hlocks hM hS d_MO_wide_20
    · have hf := px_iff hf c5
      refine lv_iload_n hx hb d_MO_wide_12 rfl (lv_at hl 2 rfl) ?_
      refine lv_sipush (v := 10000) hx hb d_MO_wide_13 (by decide) ?_
      refine lv_icmp_le (tgt := 21) hx hb d_MO_wide_16 (by decide) (fun c6 => ?_) (fun c6 => ?_)
      · have hf := px_ift hf c6
        refine lv_aload_n hx hb d_MO_wide_21 rfl (lv_at hl 0 rfl) ?_
        obtain ⟨t7, h8, hf⟩ := px_bind hf
        refine px_rgr hx hb hts cl_MO hown hK hM 34 (by decide) (hts _ w_679) h8 d_MO_wide_22 ?_
        refine lv_iload_n hx hb d_MO_wide_25 rfl (lv_at hl 1 rfl) ?_
        refine lv_iload_n hx hb d_MO_wide_26 rfl (lv_at hl 2 rfl) ?_
        obtain ⟨M9, h10, hf⟩ := px_bind hf
        refine px_rsi hx hb hK hM hS 0 rfl h10 d_MO_wide_27 (fun H locs hM hS => ?_)
        refine lv_iconst (v := 1) hx hb d_MO_wide_28 (by decide) ?_
        obtain ⟨rfl, rfl⟩ := px_s2 hf
        exact px_zret hx hb hr rfl hlocks hM hS d_MO_wide_29
      · have hf := px_iff hf c6
        refine lv_iconst (v := 0) hx hb d_MO_wide_19 (by decide) ?_
        obtain ⟨rfl, rfl⟩ := px_s2 hf
        exact px_zret hx hb hr rfl hlocks hM hS d_MO_wide_20
def f_MO_isShown_L5 : Nat → Nat → Int32 → Int32 → Int32 → Int32 → px_M → Option ((Int32) × px_M)
  | 0, _, _, _, _, _, _ => none
  | n + 1, o0, x1, x2, x3, x4, M =>
    (px_gi 11 29 M o0).bind fun v1 =>
    if v1 ≤ x4 then
    some (x3, M)
    else
    if x3 = 0 then
    (px_gr 11 30 M o0).bind fun t5 =>
    (px_ai 0 M t5 x4).bind fun v7 =>
    if v7 = x1 then
    (px_ob 11 M o0).bind fun _ =>
    (f_MO_has o0 x4 x2 M).bind fun (v12, M10) =>
    if v12 = 0 then
    f_MO_isShown_L5 n o0 x1 x2 0 (x4 + 1) M10
    else
    f_MO_isShown_L5 n o0 x1 x2 1 (x4 + 1) M10
    else
    f_MO_isShown_L5 n o0 x1 x2 0 (x4 + 1) M
    else
    f_MO_isShown_L5 n o0 x1 x2 1 (x4 + 1) M
set_option maxHeartbeats 4000000 in
set_option maxRecDepth 100000 in
theorem lp_MO_isShown_L5 {p : Program} {l : Launch} {e : Env} {s : State} {m : MethodId} {args : Array Value} {below : List Frame} {meth : Method} {c : Code} {bs : Nat} {D : va_G} {G : Nat → ClassId} {Q : State → Prop} (C0 : px_At p s m meth c y_MO_isShown b_MO_isShown 5 (some .boolean) args D px_cl (px_tys G) px_nw px_over) (x : Int32) (M' : px_M) (o0 : Nat) (x1 : Int32) (x2 : Int32) (kx : ∀ (H : Heap) (locs : List Loc) (ls : Array Slot), px_W bs D px_cl (px_tys G) M' H → va_S (fun q => bs ≤ q) s.heap H locs → lv_has ls 5 [(3, .int x)] → W p l e ⟨1, 0, 0, 24⟩ s m args below meth c H locs 0 0 Q (F0 m 51 ls []))  : ∀ (n : Nat) (x3 : Int32) (x4 : Int32) (M : px_M), f_MO_isShown_L5 n o0 x1 x2 x3 x4 M = some (x, M') → ∀ (H : Heap) (locs : List Loc) (ls : Array Slot), px_W bs D px_cl (px_tys G) M H → va_S (fun q => bs ≤ q) s.heap H locs → lv_has ls 5 [(0, .ref o0), (1, .int x1), (2, .int x2), (3, .int x3), (4, .int x4)] → W p l e ⟨1, 0, 0, 24⟩ s m args below meth c H locs 0 0 Q (F0 m 5 ls []) := by
  obtain ⟨hx, hb, hr, hml, hown, hnm, hlocks, hts, hK, hN, hO⟩ := C0
  intro n
  induction n with
  | zero => intro x3 x4 M hf; cases hf
  | succ n ih =>
    intro x3 x4 M hf H locs ls hM hS hl
    unfold f_MO_isShown_L5 at hf
    refine lv_iload hx hb d_MO_isShown_5 (lv_at hl 4 rfl) ?_
    refine lv_aload_n hx hb d_MO_isShown_7 rfl (lv_at hl 0 rfl) ?_
    obtain ⟨v1, h2, hf⟩ := px_bind hf
    refine px_rgi hx hb hts cl_MO hown hK hM 29 (by decide) (hts _ w_674) h2 d_MO_isShown_8 ?_
    refine lv_icmp_ge (tgt := 51) hx hb d_MO_isShown_11 (by decide) (fun c3 => ?_) (fun c3 => ?_)
    · have hf := px_ift hf c3
      obtain ⟨rfl, rfl⟩ := px_s2 hf
      exact kx _ _ _ hM hS (lv_sub hl [3] rfl)
    · have hf := px_iff hf c3
      refine lv_iload_n hx hb d_MO_isShown_14 rfl (lv_at hl 3 rfl) ?_
      refine lv_if_ne (tgt := 39) hx hb d_MO_isShown_15 (by decide) (fun c4 => ?_) (fun c4 => ?_)
      · have hf := px_iff hf c4
        refine lv_iconst (v := 1) hx hb d_MO_isShown_39 (by decide) ?_
        refine lv_goto (tgt := 44) hx hb d_MO_isShown_40 (by decide) ?_
        refine lv_istore_n (lv' := [(3, .int 1), (0, .ref o0), (1, .int x1), (2, .int x2), (4, .int x4)]) hx hb d_MO_isShown_44 rfl hl (by decide) rfl (fun ls hl => ?_)
        refine lv_iinc (v := x4 + 1) (lv' := [(4, .int (x4 + 1)), (3, .int 1), (0, .ref o0), (1, .int x1), (2, .int x2)]) hx hb d_MO_isShown_45 hl (k := 4) rfl (by rfl) (by decide) rfl (fun ls hl => ?_)
        refine lv_goto (tgt := 5) hx hb d_MO_isShown_48 (by decide) ?_
        exact ih 1 (x4 + 1) M hf _ _ _ hM hS (lv_sub hl [2, 3, 4, 1, 0] rfl)
      · have hf := px_ift hf c4
        refine lv_aload_n hx hb d_MO_isShown_18 rfl (lv_at hl 0 rfl) ?_
        obtain ⟨t5, h6, hf⟩ := px_bind hf
        refine px_rgr hx hb hts cl_MO hown hK hM 30 (by decide) (hts _ w_675) h6 d_MO_isShown_19 ?_
        refine lv_iload hx hb d_MO_isShown_22 (lv_at hl 4 rfl) ?_
        obtain ⟨v7, h8, hf⟩ := px_bind hf
        refine px_rai hx hb hK hM 0 rfl h8 d_MO_isShown_24 ?_
        refine lv_iload_n hx hb d_MO_isShown_25 rfl (lv_at hl 1 rfl) ?_
        refine lv_icmp_ne (tgt := 43) hx hb d_MO_isShown_26 (by decide) (fun c9 => ?_) (fun c9 => ?_)
        · have hf := px_iff hf c9
          refine lv_iconst (v := 0) hx hb d_MO_isShown_43 (by decide) ?_
          refine lv_istore_n (lv' := [(3, .int 0), (0, .ref o0), (1, .int x1), (2, .int x2), (4, .int x4)]) hx hb d_MO_isShown_44 rfl hl (by decide) rfl (fun ls hl => ?_)
          refine lv_iinc (v := x4 + 1) (lv' := [(4, .int (x4 + 1)), (3, .int 0), (0, .ref o0), (1, .int x1), (2, .int x2)]) hx hb d_MO_isShown_45 hl (k := 4) rfl (by rfl) (by decide) rfl (fun ls hl => ?_)
          refine lv_goto (tgt := 5) hx hb d_MO_isShown_48 (by decide) ?_
          exact ih 0 (x4 + 1) M hf _ _ _ hM hS (lv_sub hl [2, 3, 4, 1, 0] rfl)
        · have hf := px_ift hf c9
          refine lv_aload_n hx hb d_MO_isShown_29 rfl (lv_at hl 0 rfl) ?_
          refine lv_iload hx hb d_MO_isShown_30 (lv_at hl 4 rfl) ?_
          refine lv_iload_n hx hb d_MO_isShown_32 rfl (lv_at hl 2 rfl) ?_
          obtain ⟨_, h14, hf⟩ := px_bind hf
          obtain ⟨⟨v12, M10⟩, h11, hf⟩ := px_bind hf
          dsimp only at hf
          refine px_calli (va_runV (As := [.int x4, .int x2]) (rest := []) ⟨hx, hb, hml, hown, hts⟩ (c_MO_has l bs D G o0 x4 x2 M h11) (cwV 2 hts (px_gV w_863 w_865 ws_MO_has w_12 w_866) rfl rfl rfl (by decide +kernel) ⟨Nat.le_of_ble_eq_true rfl, Nat.le_of_ble_eq_true rfl⟩) (px_preV px_nwok hK hN hO hM h14 rfl) rfl rfl hl.1 rfl (lv_room (Nat.le_of_ble_eq_true rfl)) d_MO_isShown_33 ⟨Nat.le_of_ble_eq_true rfl, Nat.le_of_ble_eq_true rfl⟩) hS (fun H locs hM hS => ?_)
          refine lv_if_eq (tgt := 43) hx hb d_MO_isShown_36 (by decide) (fun c13 => ?_) (fun c13 => ?_)
          · have hf := px_ift hf c13
            refine lv_iconst (v := 0) hx hb d_MO_isShown_43 (by decide) ?_
            refine lv_istore_n (lv' := [(3, .int 0), (0, .ref o0), (1, .int x1), (2, .int x2), (4, .int x4)]) hx hb d_MO_isShown_44 rfl hl (by decide) rfl (fun ls hl => ?_)
            refine lv_iinc (v := x4 + 1) (lv' := [(4, .int (x4 + 1)), (3, .int 0), (0, .ref o0), (1, .int x1), (2, .int x2)]) hx hb d_MO_isShown_45 hl (k := 4) rfl (by rfl) (by decide) rfl (fun ls hl => ?_)
            refine lv_goto (tgt := 5) hx hb d_MO_isShown_48 (by decide) ?_
            exact ih 0 (x4 + 1) M10 hf _ _ _ hM hS (lv_sub hl [2, 3, 4, 1, 0] rfl)
          · have hf := px_iff hf c13
            refine lv_iconst (v := 1) hx hb d_MO_isShown_39 (by decide) ?_
            refine lv_goto (tgt := 44) hx hb d_MO_isShown_40 (by decide) ?_
            refine lv_istore_n (lv' := [(3, .int 1), (0, .ref o0), (1, .int x1), (2, .int x2), (4, .int x4)]) hx hb d_MO_isShown_44 rfl hl (by decide) rfl (fun ls hl => ?_)
            refine lv_iinc (v := x4 + 1) (lv' := [(4, .int (x4 + 1)), (3, .int 1), (0, .ref o0), (1, .int x1), (2, .int x2)]) hx hb d_MO_isShown_45 hl (k := 4) rfl (by rfl) (by decide) rfl (fun ls hl => ?_)
            refine lv_goto (tgt := 5) hx hb d_MO_isShown_48 (by decide) ?_
            exact ih 1 (x4 + 1) M10 hf _ _ _ hM hS (lv_sub hl [2, 3, 4, 1, 0] rfl)
def f_MO_isShown (o0 : Nat) (x1 : Int32) (x2 : Int32) (M : px_M) : Option (Int32 × px_M) :=
  (f_MO_isShown_L5 px_fuel o0 x1 x2 0 0 M).bind fun (v17, M15) =>
  if v17 = 0 ∨ v17 = 1 then
  some (v17, M15)
  else none
set_option maxHeartbeats 4000000 in
set_option maxRecDepth 100000 in
theorem c_MO_isShown (l : Launch) (bs : Nat) (D : va_G) (G : Nat → ClassId) (o0 : Nat) (x1 : Int32) (x2 : Int32) (M : px_M) {r : Int32} {M' : px_M} (hf : f_MO_isShown o0 x1 x2 M = some (r, M')) : Met l y_MO_isShown (.code y_MO_isShown b_MO_isShown 5 (some .boolean) :: px_tw) ⟨1, 0, 0, 24⟩ (va_Pc [.ref o0, .int x1, .int x2] (px_B bs D px_cl (px_tys G) px_nw px_over M)) (px_Qi bs D px_cl (px_tys G) r M') 0 0 (fun q => bs ≤ q) := by
  refine px_of (by decide) (Nat.le_of_ble_eq_true rfl) ?_
  intro p e s m below meth c ls C0 hM hS hl
  obtain ⟨hx, hb, hr, hml, hown, hnm, hlocks, hts, hK, hN, hO⟩ := C0
  have hl : lv_has ls 5 [(0, .ref o0), (1, .int x1), (2, .int x2)] := hl
  unfold f_MO_isShown at hf
  refine lv_iconst (v := 0) hx hb d_MO_isShown_0 (by decide) ?_
  refine lv_istore_n (lv' := [(3, .int 0), (0, .ref o0), (1, .int x1), (2, .int x2)]) hx hb d_MO_isShown_1 rfl hl (by decide) rfl (fun ls hl => ?_)
  refine lv_iconst (v := 0) hx hb d_MO_isShown_2 (by decide) ?_
  refine lv_istore (lv' := [(4, .int 0), (3, .int 0), (0, .ref o0), (1, .int x1), (2, .int x2)]) hx hb d_MO_isShown_3 hl (by decide) rfl (fun ls hl => ?_)
  obtain ⟨⟨v17, M15⟩, h16, hf⟩ := px_bind hf
  dsimp only at hf
  refine lp_MO_isShown_L5 ⟨hx, hb, hr, hml, hown, hnm, hlocks, hts, hK, hN, hO⟩ _ M15 o0 x1 x2 (fun H locs ls hM hS hl => ?_) px_fuel 0 0 M h16 _ _ _ hM hS (lv_sub hl [2, 3, 4, 1, 0] rfl)
  try dsimp only at hl
  refine lv_iload_n hx hb d_MO_isShown_51 rfl (lv_at hl 0 rfl) ?_
  have hz : v17 = 0 ∨ v17 = 1 := Classical.byContradiction fun q => (by have q2 := px_iff hf q; cases q2)
  have hf := px_ift hf hz
  obtain ⟨rfl, rfl⟩ := px_s2 hf
  exact px_zret hx hb hr (px_nz hz) hlocks hM hS d_MO_isShown_52
def f_MO_measure_L2 : Nat → Nat → Int32 → Int32 → Int32 → px_M → Option ((Unit) × px_M)
  | 0, _, _, _, _, _ => none
  | n + 1, o0, x1, x2, x3, M =>
    if 10 ≤ x3 then
    some ((), M)
    else
    (px_gr 11 35 M o0).bind fun t2 =>
    if x3 = x1 then
    (px_si 0 M t2 x3 0).bind fun M7 =>
    f_MO_measure_L2 n o0 x1 x2 (x3 + 1) M7
    else
    (px_si 0 M t2 x3 100000000).bind fun M5 =>
    f_MO_measure_L2 n o0 x1 x2 (x3 + 1) M5
set_option maxHeartbeats 4000000 in
set_option maxRecDepth 100000 in
theorem lp_MO_measure_L2 {p : Program} {l : Launch} {e : Env} {s : State} {m : MethodId} {args : Array Value} {below : List Frame} {meth : Method} {c : Code} {bs : Nat} {D : va_G} {G : Nat → ClassId} {Q : State → Prop} (C0 : px_At p s m meth c y_MO_measure b_MO_measure 6 none args D px_cl (px_tys G) px_nw px_over) (x : Unit) (M' : px_M) (o0 : Nat) (x1 : Int32) (x2 : Int32) (kx : ∀ (H : Heap) (locs : List Loc) (ls : Array Slot), px_W bs D px_cl (px_tys G) M' H → va_S (fun q => bs ≤ q) s.heap H locs → lv_has ls 6 [(0, .ref o0), (2, .int x2)] → W p l e ⟨2, 0, 0, 48⟩ s m args below meth c H locs 0 0 Q (F0 m 31 ls []))  : ∀ (n : Nat) (x3 : Int32) (M : px_M), f_MO_measure_L2 n o0 x1 x2 x3 M = some (x, M') → ∀ (H : Heap) (locs : List Loc) (ls : Array Slot), px_W bs D px_cl (px_tys G) M H → va_S (fun q => bs ≤ q) s.heap H locs → lv_has ls 6 [(0, .ref o0), (1, .int x1), (2, .int x2), (3, .int x3)] → W p l e ⟨2, 0, 0, 48⟩ s m args below meth c H locs 0 0 Q (F0 m 2 ls []) := by
  obtain ⟨hx, hb, hr, hml, hown, hnm, hlocks, hts, hK, hN, hO⟩ := C0
  intro n
  induction n with
  | zero => intro x3 M hf; cases hf
  | succ n ih =>
    intro x3 M hf H locs ls hM hS hl
    unfold f_MO_measure_L2 at hf
    refine lv_iload_n hx hb d_MO_measure_2 rfl (lv_at hl 3 rfl) ?_
    refine lv_bipush (v := 10) hx hb d_MO_measure_3 (by decide) ?_
    refine lv_icmp_ge (tgt := 31) hx hb d_MO_measure_5 (by decide) (fun c1 => ?_) (fun c1 => ?_)
    · have hf := px_ift hf c1
      obtain ⟨rfl, rfl⟩ := px_s2 hf
      exact kx _ _ _ hM hS (lv_sub hl [0, 2] rfl)
    · have hf := px_iff hf c1
      refine lv_aload_n hx hb d_MO_measure_8 rfl (lv_at hl 0 rfl) ?_
      obtain ⟨t2, h3, hf⟩ := px_bind hf
      refine px_rgr hx hb hts cl_MO hown hK hM 35 (by decide) (hts _ w_680) h3 d_MO_measure_9 ?_
      refine lv_iload_n hx hb d_MO_measure_12 rfl (lv_at hl 3 rfl) ?_
      refine lv_iload_n hx hb d_MO_measure_13 rfl (lv_at hl 3 rfl) ?_
      refine lv_iload_n hx hb d_MO_measure_14 rfl (lv_at hl 1 rfl) ?_
      refine lv_icmp_ne (tgt := 22) hx hb d_MO_measure_15 (by decide) (fun c4 => ?_) (fun c4 => ?_)
      · have hf := px_iff hf c4
        refine lv_ldc (v := 100000000) hx hb hown (hts _ w_891) d_MO_measure_22 ?_
        obtain ⟨M5, h6, hf⟩ := px_bind hf
        refine px_rsi hx hb hK hM hS 0 rfl h6 d_MO_measure_24 (fun H locs hM hS => ?_)
        refine lv_iinc (v := x3 + 1) (lv' := [(3, .int (x3 + 1)), (0, .ref o0), (1, .int x1), (2, .int x2)]) hx hb d_MO_measure_25 hl (k := 3) rfl (by rfl) (by decide) rfl (fun ls hl => ?_)
        refine lv_goto (tgt := 2) hx hb d_MO_measure_28 (by decide) ?_
        exact ih (x3 + 1) M5 hf _ _ _ hM hS (lv_sub hl [1, 2, 3, 0] rfl)
      · have hf := px_ift hf c4
        refine lv_iconst (v := 0) hx hb d_MO_measure_18 (by decide) ?_
        refine lv_goto (tgt := 24) hx hb d_MO_measure_19 (by decide) ?_
        obtain ⟨M7, h8, hf⟩ := px_bind hf
        refine px_rsi hx hb hK hM hS 0 rfl h8 d_MO_measure_24 (fun H locs hM hS => ?_)
        refine lv_iinc (v := x3 + 1) (lv' := [(3, .int (x3 + 1)), (0, .ref o0), (1, .int x1), (2, .int x2)]) hx hb d_MO_measure_25 hl (k := 3) rfl (by rfl) (by decide) rfl (fun ls hl => ?_)
        refine lv_goto (tgt := 2) hx hb d_MO_measure_28 (by decide) ?_
        exact ih (x3 + 1) M7 hf _ _ _ hM hS (lv_sub hl [1, 2, 3, 0] rfl)
def f_MO_measure_L42 : Nat → Nat → Int32 → Int32 → Int32 → px_M → Option ((Unit) × px_M)
  | 0, _, _, _, _, _ => none
  | n + 1, o0, x2, x3, x4, M =>
    (px_gi 11 25 M o0).bind fun v12 =>
    if v12 ≤ x4 then
    some ((), M)
    else
    (px_gr 11 35 M o0).bind fun t15 =>
    (px_gr 11 27 M o0).bind fun t17 =>
    (px_ai 0 M t17 x4).bind fun v19 =>
    (px_ai 0 M t15 v19).bind fun v21 =>
    (px_gr 11 28 M o0).bind fun t23 =>
    (px_ai 0 M t23 x4).bind fun v25 =>
    if x2 = ((-1)) then
    (px_gr 11 35 M o0).bind fun t28 =>
    (px_gr 11 26 M o0).bind fun t30 =>
    (px_ai 0 M t30 x4).bind fun v32 =>
    (px_ai 0 M t28 v32).bind fun v34 =>
    if v34 ≤ (v21 + v25) then
    f_MO_measure_L42 n o0 x2 x3 (x4 + 1) M
    else
    (px_gr 11 35 M o0).bind fun t37 =>
    (px_gr 11 26 M o0).bind fun t39 =>
    (px_ai 0 M t39 x4).bind fun v41 =>
    (px_si 0 M t37 v41 (v21 + v25)).bind fun M43 =>
    f_MO_measure_L42 n o0 x2 x3 (x4 + 1) M43
    else
    (px_ob 11 M o0).bind fun _ =>
    (f_MO_isShown o0 x4 x2 M).bind fun (v47, M45) =>
    if v47 = 0 then
    f_MO_measure_L42 n o0 x2 x3 (x4 + 1) M45
    else
    (px_gr 11 35 M45 o0).bind fun t49 =>
    (px_gr 11 26 M45 o0).bind fun t51 =>
    (px_ai 0 M45 t51 x4).bind fun v53 =>
    (px_ai 0 M45 t49 v53).bind fun v55 =>
    if v55 ≤ (v21 + v25) then
    f_MO_measure_L42 n o0 x2 x3 (x4 + 1) M45
    else
    (px_gr 11 35 M45 o0).bind fun t58 =>
    (px_gr 11 26 M45 o0).bind fun t60 =>
    (px_ai 0 M45 t60 x4).bind fun v62 =>
    (px_si 0 M45 t58 v62 (v21 + v25)).bind fun M64 =>
    f_MO_measure_L42 n o0 x2 x3 (x4 + 1) M64
set_option maxHeartbeats 4000000 in
set_option maxRecDepth 100000 in
theorem lp_MO_measure_L42 {p : Program} {l : Launch} {e : Env} {s : State} {m : MethodId} {args : Array Value} {below : List Frame} {meth : Method} {c : Code} {bs : Nat} {D : va_G} {G : Nat → ClassId} {Q : State → Prop} (C0 : px_At p s m meth c y_MO_measure b_MO_measure 6 none args D px_cl (px_tys G) px_nw px_over) (x : Unit) (M' : px_M) (o0 : Nat) (x2 : Int32) (x3 : Int32) (kx : ∀ (H : Heap) (locs : List Loc) (ls : Array Slot), px_W bs D px_cl (px_tys G) M' H → va_S (fun q => bs ≤ q) s.heap H locs → lv_has ls 6 [(0, .ref o0), (2, .int x2), (3, .int x3)] → W p l e ⟨2, 0, 0, 48⟩ s m args below meth c H locs 0 0 Q (F0 m 125 ls []))  : ∀ (n : Nat) (x4 : Int32) (M : px_M), f_MO_measure_L42 n o0 x2 x3 x4 M = some (x, M') → ∀ (H : Heap) (locs : List Loc) (ls : Array Slot), px_W bs D px_cl (px_tys G) M H → va_S (fun q => bs ≤ q) s.heap H locs → lv_has ls 6 [(0, .ref o0), (2, .int x2), (3, .int x3), (4, .int x4)] → W p l e ⟨2, 0, 0, 48⟩ s m args below meth c H locs 0 0 Q (F0 m 42 ls []) := by
  obtain ⟨hx, hb, hr, hml, hown, hnm, hlocks, hts, hK, hN, hO⟩ := C0
  intro n
  induction n with
  | zero => intro x4 M hf; cases hf
  | succ n ih =>
    intro x4 M hf H locs ls hM hS hl
    unfold f_MO_measure_L42 at hf
    refine lv_iload hx hb d_MO_measure_42 (lv_at hl 3 rfl) ?_
    refine lv_aload_n hx hb d_MO_measure_44 rfl (lv_at hl 0 rfl) ?_
    obtain ⟨v12, h13, hf⟩ := px_bind hf
    refine px_rgi hx hb hts cl_MO hown hK hM 25 (by decide) (hts _ w_670) h13 d_MO_measure_45 ?_
    refine lv_icmp_ge (tgt := 125) hx hb d_MO_measure_48 (by decide) (fun c14 => ?_) (fun c14 => ?_)
    · have hf := px_ift hf c14
      obtain ⟨rfl, rfl⟩ := px_s2 hf
      exact kx _ _ _ hM hS (lv_sub hl [0, 1, 2] rfl)
    · have hf := px_iff hf c14
      refine lv_aload_n hx hb d_MO_measure_51 rfl (lv_at hl 0 rfl) ?_
      obtain ⟨t15, h16, hf⟩ := px_bind hf
      refine px_rgr hx hb hts cl_MO hown hK hM 35 (by decide) (hts _ w_680) h16 d_MO_measure_52 ?_
      refine lv_aload_n hx hb d_MO_measure_55 rfl (lv_at hl 0 rfl) ?_
      obtain ⟨t17, h18, hf⟩ := px_bind hf
      refine px_rgr hx hb hts cl_MO hown hK hM 27 (by decide) (hts _ w_672) h18 d_MO_measure_56 ?_
      refine lv_iload hx hb d_MO_measure_59 (lv_at hl 3 rfl) ?_
      obtain ⟨v19, h20, hf⟩ := px_bind hf
      refine px_rai hx hb hK hM 0 rfl h20 d_MO_measure_61 ?_
      obtain ⟨v21, h22, hf⟩ := px_bind hf
      refine px_rai hx hb hK hM 0 rfl h22 d_MO_measure_62 ?_
      refine lv_aload_n hx hb d_MO_measure_63 rfl (lv_at hl 0 rfl) ?_
      obtain ⟨t23, h24, hf⟩ := px_bind hf
      refine px_rgr hx hb hts cl_MO hown hK hM 28 (by decide) (hts _ w_673) h24 d_MO_measure_64 ?_
      refine lv_iload hx hb d_MO_measure_67 (lv_at hl 3 rfl) ?_
      obtain ⟨v25, h26, hf⟩ := px_bind hf
      refine px_rai hx hb hK hM 0 rfl h26 d_MO_measure_69 ?_
      refine lv_iadd hx hb d_MO_measure_70 ?_
      refine lv_istore (lv' := [(5, .int (v21 + v25)), (0, .ref o0), (2, .int x2), (3, .int x3), (4, .int x4)]) hx hb d_MO_measure_71 hl (by decide) rfl (fun ls hl => ?_)
      refine lv_iload_n hx hb d_MO_measure_73 rfl (lv_at hl 2 rfl) ?_
      refine lv_iconst (v := (-1)) hx hb d_MO_measure_74 (by decide) ?_
      refine lv_icmp_eq (tgt := 88) hx hb d_MO_measure_75 (by decide) (fun c27 => ?_) (fun c27 => ?_)
      · have hf := px_ift hf c27
        refine lv_iload hx hb d_MO_measure_88 (lv_at hl 0 rfl) ?_
        refine lv_aload_n hx hb d_MO_measure_90 rfl (lv_at hl 1 rfl) ?_
        obtain ⟨t28, h29, hf⟩ := px_bind hf
        refine px_rgr hx hb hts cl_MO hown hK hM 35 (by decide) (hts _ w_680) h29 d_MO_measure_91 ?_
        refine lv_aload_n hx hb d_MO_measure_94 rfl (lv_at hl 1 rfl) ?_
        obtain ⟨t30, h31, hf⟩ := px_bind hf
        refine px_rgr hx hb hts cl_MO hown hK hM 26 (by decide) (hts _ w_671) h31 d_MO_measure_95 ?_
        refine lv_iload hx hb d_MO_measure_98 (lv_at hl 4 rfl) ?_
        obtain ⟨v32, h33, hf⟩ := px_bind hf
        refine px_rai hx hb hK hM 0 rfl h33 d_MO_measure_100 ?_
        obtain ⟨v34, h35, hf⟩ := px_bind hf
        refine px_rai hx hb hK hM 0 rfl h35 d_MO_measure_101 ?_
        refine lv_icmp_ge (tgt := 119) hx hb d_MO_measure_102 (by decide) (fun c36 => ?_) (fun c36 => ?_)
        · have hf := px_ift hf c36
          refine lv_iinc (v := x4 + 1) (lv' := [(4, .int (x4 + 1)), (5, .int (v21 + v25)), (0, .ref o0), (2, .int x2), (3, .int x3)]) hx hb d_MO_measure_119 hl (k := 4) rfl (by rfl) (by decide) rfl (fun ls hl => ?_)
          refine lv_goto (tgt := 42) hx hb d_MO_measure_122 (by decide) ?_
          exact ih (x4 + 1) M hf _ _ _ hM hS (lv_sub hl [2, 3, 4, 0] rfl)
        · have hf := px_iff hf c36
          refine lv_aload_n hx hb d_MO_measure_105 rfl (lv_at hl 1 rfl) ?_
          obtain ⟨t37, h38, hf⟩ := px_bind hf
          refine px_rgr hx hb hts cl_MO hown hK hM 35 (by decide) (hts _ w_680) h38 d_MO_measure_106 ?_
          refine lv_aload_n hx hb d_MO_measure_109 rfl (lv_at hl 1 rfl) ?_
          obtain ⟨t39, h40, hf⟩ := px_bind hf
          refine px_rgr hx hb hts cl_MO hown hK hM 26 (by decide) (hts _ w_671) h40 d_MO_measure_110 ?_
          refine lv_iload hx hb d_MO_measure_113 (lv_at hl 4 rfl) ?_
          obtain ⟨v41, h42, hf⟩ := px_bind hf
          refine px_rai hx hb hK hM 0 rfl h42 d_MO_measure_115 ?_
          refine lv_iload hx hb d_MO_measure_116 (lv_at hl 0 rfl) ?_
          obtain ⟨M43, h44, hf⟩ := px_bind hf
          refine px_rsi hx hb hK hM hS 0 rfl h44 d_MO_measure_118 (fun H locs hM hS => ?_)
          refine lv_iinc (v := x4 + 1) (lv' := [(4, .int (x4 + 1)), (5, .int (v21 + v25)), (0, .ref o0), (2, .int x2), (3, .int x3)]) hx hb d_MO_measure_119 hl (k := 4) rfl (by rfl) (by decide) rfl (fun ls hl => ?_)
          refine lv_goto (tgt := 42) hx hb d_MO_measure_122 (by decide) ?_
          exact ih (x4 + 1) M43 hf _ _ _ hM hS (lv_sub hl [2, 3, 4, 0] rfl)
      · have hf := px_iff hf c27
        refine lv_aload_n hx hb d_MO_measure_78 rfl (lv_at hl 1 rfl) ?_
        refine lv_iload hx hb d_MO_measure_79 (lv_at hl 4 rfl) ?_
        refine lv_iload_n hx hb d_MO_measure_81 rfl (lv_at hl 2 rfl) ?_
        obtain ⟨_, h66, hf⟩ := px_bind hf
        obtain ⟨⟨v47, M45⟩, h46, hf⟩ := px_bind hf
        dsimp only at hf
        refine px_calli (va_runV (As := [.int x4, .int x2]) (rest := []) ⟨hx, hb, hml, hown, hts⟩ (c_MO_isShown l bs D G o0 x4 x2 M h46) (cwV 2 hts (px_gV w_892 w_894 ws_MO_isShown w_12 w_895) rfl rfl rfl (by decide +kernel) ⟨Nat.le_of_ble_eq_true rfl, Nat.le_of_ble_eq_true rfl⟩) (px_preV px_nwok hK hN hO hM h66 rfl) rfl rfl hl.1 rfl (lv_room (Nat.le_of_ble_eq_true rfl)) d_MO_measure_82 ⟨Nat.le_of_ble_eq_true rfl, Nat.le_of_ble_eq_true rfl⟩) hS (fun H locs hM hS => ?_)
        refine lv_if_eq (tgt := 119) hx hb d_MO_measure_85 (by decide) (fun c48 => ?_) (fun c48 => ?_)
        · have hf := px_ift hf c48
          refine lv_iinc (v := x4 + 1) (lv' := [(4, .int (x4 + 1)), (5, .int (v21 + v25)), (0, .ref o0), (2, .int x2), (3, .int x3)]) hx hb d_MO_measure_119 hl (k := 4) rfl (by rfl) (by decide) rfl (fun ls hl => ?_)
          refine lv_goto (tgt := 42) hx hb d_MO_measure_122 (by decide) ?_
          exact ih (x4 + 1) M45 hf _ _ _ hM hS (lv_sub hl [2, 3, 4, 0] rfl)
        · have hf := px_iff hf c48
          refine lv_iload hx hb d_MO_measure_88 (lv_at hl 0 rfl) ?_
          refine lv_aload_n hx hb d_MO_measure_90 rfl (lv_at hl 1 rfl) ?_
          obtain ⟨t49, h50, hf⟩ := px_bind hf
          refine px_rgr hx hb hts cl_MO hown hK hM 35 (by decide) (hts _ w_680) h50 d_MO_measure_91 ?_
          refine lv_aload_n hx hb d_MO_measure_94 rfl (lv_at hl 1 rfl) ?_
          obtain ⟨t51, h52, hf⟩ := px_bind hf
          refine px_rgr hx hb hts cl_MO hown hK hM 26 (by decide) (hts _ w_671) h52 d_MO_measure_95 ?_
          refine lv_iload hx hb d_MO_measure_98 (lv_at hl 4 rfl) ?_
          obtain ⟨v53, h54, hf⟩ := px_bind hf
          refine px_rai hx hb hK hM 0 rfl h54 d_MO_measure_100 ?_
          obtain ⟨v55, h56, hf⟩ := px_bind hf
          refine px_rai hx hb hK hM 0 rfl h56 d_MO_measure_101 ?_
          refine lv_icmp_ge (tgt := 119) hx hb d_MO_measure_102 (by decide) (fun c57 => ?_) (fun c57 => ?_)
          · have hf := px_ift hf c57
            refine lv_iinc (v := x4 + 1) (lv' := [(4, .int (x4 + 1)), (5, .int (v21 + v25)), (0, .ref o0), (2, .int x2), (3, .int x3)]) hx hb d_MO_measure_119 hl (k := 4) rfl (by rfl) (by decide) rfl (fun ls hl => ?_)
            refine lv_goto (tgt := 42) hx hb d_MO_measure_122 (by decide) ?_
            exact ih (x4 + 1) M45 hf _ _ _ hM hS (lv_sub hl [2, 3, 4, 0] rfl)
          · have hf := px_iff hf c57
            refine lv_aload_n hx hb d_MO_measure_105 rfl (lv_at hl 1 rfl) ?_
            obtain ⟨t58, h59, hf⟩ := px_bind hf
            refine px_rgr hx hb hts cl_MO hown hK hM 35 (by decide) (hts _ w_680) h59 d_MO_measure_106 ?_
            refine lv_aload_n hx hb d_MO_measure_109 rfl (lv_at hl 1 rfl) ?_
            obtain ⟨t60, h61, hf⟩ := px_bind hf
            refine px_rgr hx hb hts cl_MO hown hK hM 26 (by decide) (hts _ w_671) h61 d_MO_measure_110 ?_
            refine lv_iload hx hb d_MO_measure_113 (lv_at hl 4 rfl) ?_
            obtain ⟨v62, h63, hf⟩ := px_bind hf
            refine px_rai hx hb hK hM 0 rfl h63 d_MO_measure_115 ?_
            refine lv_iload hx hb d_MO_measure_116 (lv_at hl 0 rfl) ?_
            obtain ⟨M64, h65, hf⟩ := px_bind hf
            refine px_rsi hx hb hK hM hS 0 rfl h65 d_MO_measure_118 (fun H locs hM hS => ?_)
            refine lv_iinc (v := x4 + 1) (lv' := [(4, .int (x4 + 1)), (5, .int (v21 + v25)), (0, .ref o0), (2, .int x2), (3, .int x3)]) hx hb d_MO_measure_119 hl (k := 4) rfl (by rfl) (by decide) rfl (fun ls hl => ?_)
            refine lv_goto (tgt := 42) hx hb d_MO_measure_122 (by decide) ?_
            exact ih (x4 + 1) M64 hf _ _ _ hM hS (lv_sub hl [2, 3, 4, 0] rfl)
def f_MO_measure_L33 : Nat → Nat → Int32 → Int32 → px_M → Option ((Unit) × px_M)
  | 0, _, _, _, _ => none
  | n + 1, o0, x2, x3, M =>
    if 10 ≤ x3 then
    some ((), M)
    else
    (f_MO_measure_L42 px_fuel o0 x2 x3 0 M).bind fun (_, M67) =>
    f_MO_measure_L33 n o0 x2 (x3 + 1) M67
set_option maxHeartbeats 4000000 in
set_option maxRecDepth 100000 in
theorem lp_MO_measure_L33 {p : Program} {l : Launch} {e : Env} {s : State} {m : MethodId} {args : Array Value} {below : List Frame} {meth : Method} {c : Code} {bs : Nat} {D : va_G} {G : Nat → ClassId} {Q : State → Prop} (C0 : px_At p s m meth c y_MO_measure b_MO_measure 6 none args D px_cl (px_tys G) px_nw px_over) (x : Unit) (M' : px_M) (o0 : Nat) (x2 : Int32) (kx : ∀ (H : Heap) (locs : List Loc) (ls : Array Slot), px_W bs D px_cl (px_tys G) M' H → va_S (fun q => bs ≤ q) s.heap H locs → lv_has ls 6 [] → W p l e ⟨2, 0, 0, 48⟩ s m args below meth c H locs 0 0 Q (F0 m 131 ls []))  : ∀ (n : Nat) (x3 : Int32) (M : px_M), f_MO_measure_L33 n o0 x2 x3 M = some (x, M') → ∀ (H : Heap) (locs : List Loc) (ls : Array Slot), px_W bs D px_cl (px_tys G) M H → va_S (fun q => bs ≤ q) s.heap H locs → lv_has ls 6 [(0, .ref o0), (2, .int x2), (3, .int x3)] → W p l e ⟨2, 0, 0, 48⟩ s m args below meth c H locs 0 0 Q (F0 m 33 ls []) := by
  obtain ⟨hx, hb, hr, hml, hown, hnm, hlocks, hts, hK, hN, hO⟩ := C0
  intro n
  induction n with
  | zero => intro x3 M hf; cases hf
  | succ n ih =>
    intro x3 M hf H locs ls hM hS hl
    unfold f_MO_measure_L33 at hf
    refine lv_iload_n hx hb d_MO_measure_33 rfl (lv_at hl 2 rfl) ?_
    refine lv_bipush (v := 10) hx hb d_MO_measure_34 (by decide) ?_
    refine lv_icmp_ge (tgt := 131) hx hb d_MO_measure_36 (by decide) (fun c11 => ?_) (fun c11 => ?_)
    · have hf := px_ift hf c11
      obtain ⟨rfl, rfl⟩ := px_s2 hf
      exact kx _ _ _ hM hS (lv_sub hl [] rfl)
    · have hf := px_iff hf c11
      refine lv_iconst (v := 0) hx hb d_MO_measure_39 (by decide) ?_
      refine lv_istore (lv' := [(4, .int 0), (0, .ref o0), (2, .int x2), (3, .int x3)]) hx hb d_MO_measure_40 hl (by decide) rfl (fun ls hl => ?_)
      obtain ⟨⟨_, M67⟩, h68, hf⟩ := px_bind hf
      dsimp only at hf
      refine lp_MO_measure_L42 ⟨hx, hb, hr, hml, hown, hnm, hlocks, hts, hK, hN, hO⟩ _ M67 o0 x2 x3 (fun H locs ls hM hS hl => ?_) px_fuel 0 M h68 _ _ _ hM hS (lv_sub hl [1, 2, 3, 0] rfl)
      try dsimp only at hl
      refine lv_iinc (v := x3 + 1) (lv' := [(3, .int (x3 + 1)), (0, .ref o0), (2, .int x2)]) hx hb d_MO_measure_125 hl (k := 2) rfl (by rfl) (by decide) rfl (fun ls hl => ?_)
      refine lv_goto (tgt := 33) hx hb d_MO_measure_128 (by decide) ?_
      exact ih (x3 + 1) M67 hf _ _ _ hM hS (lv_sub hl [1, 2, 0] rfl)
def f_MO_measure (o0 : Nat) (x1 : Int32) (x2 : Int32) (M : px_M) : Option (px_M) :=
  (f_MO_measure_L2 px_fuel o0 x1 x2 0 M).bind fun (_, M9) =>
  (f_MO_measure_L33 px_fuel o0 x2 0 M9).bind fun (_, M69) =>
  some M69
set_option maxHeartbeats 4000000 in
set_option maxRecDepth 100000 in
theorem c_MO_measure (l : Launch) (bs : Nat) (D : va_G) (G : Nat → ClassId) (o0 : Nat) (x1 : Int32) (x2 : Int32) (M : px_M) {M' : px_M} (hf : f_MO_measure o0 x1 x2 M = some M') : Met l y_MO_measure (.code y_MO_measure b_MO_measure 6 none :: px_tw) ⟨2, 0, 0, 48⟩ (va_Pc [.ref o0, .int x1, .int x2] (px_B bs D px_cl (px_tys G) px_nw px_over M)) (px_Qv bs D px_cl (px_tys G) M') 0 0 (fun q => bs ≤ q) := by
  refine px_of (by decide) (Nat.le_of_ble_eq_true rfl) ?_
  intro p e s m below meth c ls C0 hM hS hl
  obtain ⟨hx, hb, hr, hml, hown, hnm, hlocks, hts, hK, hN, hO⟩ := C0
  have hl : lv_has ls 6 [(0, .ref o0), (1, .int x1), (2, .int x2)] := hl
  unfold f_MO_measure at hf
  refine lv_iconst (v := 0) hx hb d_MO_measure_0 (by decide) ?_
  refine lv_istore_n (lv' := [(3, .int 0), (0, .ref o0), (1, .int x1), (2, .int x2)]) hx hb d_MO_measure_1 rfl hl (by decide) rfl (fun ls hl => ?_)
  obtain ⟨⟨_, M9⟩, h10, hf⟩ := px_bind hf
  dsimp only at hf
  refine lp_MO_measure_L2 ⟨hx, hb, hr, hml, hown, hnm, hlocks, hts, hK, hN, hO⟩ _ M9 o0 x1 x2 (fun H locs ls hM hS hl => ?_) px_fuel 0 M h10 _ _ _ hM hS (lv_sub hl [1, 2, 3, 0] rfl)
  try dsimp only at hl
  refine lv_iconst (v := 0) hx hb d_MO_measure_31 (by decide) ?_
  refine lv_istore_n (lv' := [(3, .int 0), (0, .ref o0), (2, .int x2)]) hx hb d_MO_measure_32 rfl hl (by decide) rfl (fun ls hl => ?_)
  obtain ⟨⟨_, M69⟩, h70, hf⟩ := px_bind hf
  dsimp only at hf
  refine lp_MO_measure_L33 ⟨hx, hb, hr, hml, hown, hnm, hlocks, hts, hK, hN, hO⟩ _ M69 o0 x2 (fun H locs ls hM hS hl => ?_) px_fuel 0 M9 h70 _ _ _ hM hS (lv_sub hl [1, 2, 0] rfl)
  try dsimp only at hl
  obtain rfl := px_s1 hf
  exact px_vret hx hb hr hlocks hM hS d_MO_measure_131
def f_MO_distanceOf (o0 : Nat) (x1 : Int32) (x2 : Int32) (M : px_M) : Option (Int32 × px_M) :=
  (px_gr 11 24 M o0).bind fun t1 =>
  (px_gr 11 32 M o0).bind fun t3 =>
  (px_ai 0 M t3 ((5 * x1) + x2)).bind fun v5 =>
  (px_ai 0 M t1 v5).bind fun v7 =>
  if v7 = ((-1)) then
  some ((-1), M)
  else
  (px_ob 11 M o0).bind fun _ =>
  (f_MO_measure o0 v7 ((-1)) M).bind fun M10 =>
  (px_gr 11 35 M10 o0).bind fun t12 =>
  (px_gr 11 27 M10 o0).bind fun t14 =>
  (px_gr 11 30 M10 o0).bind fun t16 =>
  (px_ai 0 M10 t16 x1).bind fun v18 =>
  (px_ai 0 M10 t14 v18).bind fun v20 =>
  (px_ai 0 M10 t12 v20).bind fun v22 =>
  if v22 < 100000000 then
  some (v22, M10)
  else
  some ((-1), M10)
set_option maxHeartbeats 4000000 in
set_option maxRecDepth 100000 in
theorem c_MO_distanceOf (l : Launch) (bs : Nat) (D : va_G) (G : Nat → ClassId) (o0 : Nat) (x1 : Int32) (x2 : Int32) (M : px_M) {r : Int32} {M' : px_M} (hf : f_MO_distanceOf o0 x1 x2 M = some (r, M')) : Met l y_MO_distanceOf (.code y_MO_distanceOf b_MO_distanceOf 5 (some .int) :: px_tw) ⟨3, 0, 0, 73⟩ (va_Pc [.ref o0, .int x1, .int x2] (px_B bs D px_cl (px_tys G) px_nw px_over M)) (px_Qi bs D px_cl (px_tys G) r M') 0 0 (fun q => bs ≤ q) := by
  refine px_of (by decide) (Nat.le_of_ble_eq_true rfl) ?_
  intro p e s m below meth c ls C0 hM hS hl
  obtain ⟨hx, hb, hr, hml, hown, hnm, hlocks, hts, hK, hN, hO⟩ := C0
  have hl : lv_has ls 5 [(0, .ref o0), (1, .int x1), (2, .int x2)] := hl
  unfold f_MO_distanceOf at hf
  refine lv_aload_n hx hb d_MO_distanceOf_0 rfl (lv_at hl 0 rfl) ?_
  obtain ⟨t1, h2, hf⟩ := px_bind hf
  refine px_rgr hx hb hts cl_MO hown hK hM 24 (by decide) (hts _ w_669) h2 d_MO_distanceOf_1 ?_
  refine lv_aload_n hx hb d_MO_distanceOf_4 rfl (lv_at hl 0 rfl) ?_
  obtain ⟨t3, h4, hf⟩ := px_bind hf
  refine px_rgr hx hb hts cl_MO hown hK hM 32 (by decide) (hts _ w_677) h4 d_MO_distanceOf_5 ?_
  refine lv_iconst (v := 5) hx hb d_MO_distanceOf_8 (by decide) ?_
  refine lv_iload_n hx hb d_MO_distanceOf_9 rfl (lv_at hl 1 rfl) ?_
  refine lv_imul hx hb d_MO_distanceOf_10 ?_
  refine lv_iload_n hx hb d_MO_distanceOf_11 rfl (lv_at hl 2 rfl) ?_
  refine lv_iadd hx hb d_MO_distanceOf_12 ?_
  obtain ⟨v5, h6, hf⟩ := px_bind hf
  refine px_rai hx hb hK hM 0 rfl h6 d_MO_distanceOf_13 ?_
  obtain ⟨v7, h8, hf⟩ := px_bind hf
  refine px_rai hx hb hK hM 0 rfl h8 d_MO_distanceOf_14 ?_
  refine lv_istore_n (lv' := [(3, .int v7), (0, .ref o0), (1, .int x1), (2, .int x2)]) hx hb d_MO_distanceOf_15 rfl hl (by decide) rfl (fun ls hl => ?_)
  refine lv_iload_n hx hb d_MO_distanceOf_16 rfl (lv_at hl 0 rfl) ?_
  refine lv_iconst (v := (-1)) hx hb d_MO_distanceOf_17 (by decide) ?_
  refine lv_icmp_ne (tgt := 23) hx hb d_MO_distanceOf_18 (by decide) (fun c9 => ?_) (fun c9 => ?_)
  · have hf := px_iff hf c9
    refine lv_aload_n hx hb d_MO_distanceOf_23 rfl (lv_at hl 1 rfl) ?_
    refine lv_iload_n hx hb d_MO_distanceOf_24 rfl (lv_at hl 0 rfl) ?_
    refine lv_iconst (v := (-1)) hx hb d_MO_distanceOf_25 (by decide) ?_
    obtain ⟨_, h25, hf⟩ := px_bind hf
    obtain ⟨M10, h11, hf⟩ := px_bind hf
    refine px_callv (va_runV (As := [.int v7, .int ((-1))]) (rest := []) ⟨hx, hb, hml, hown, hts⟩ (c_MO_measure l bs D G o0 v7 ((-1)) M h11) (cwV 2 hts (px_gV w_887 w_889 ws_MO_measure w_12 w_890) rfl rfl rfl (by decide +kernel) ⟨Nat.le_of_ble_eq_true rfl, Nat.le_of_ble_eq_true rfl⟩) (px_preV px_nwok hK hN hO hM h25 rfl) rfl rfl hl.1 rfl (lv_room (Nat.le_of_ble_eq_true rfl)) d_MO_distanceOf_26 ⟨Nat.le_of_ble_eq_true rfl, Nat.le_of_ble_eq_true rfl⟩) hS (fun H locs hM hS => ?_)
    refine lv_aload_n hx hb d_MO_distanceOf_29 rfl (lv_at hl 1 rfl) ?_
    obtain ⟨t12, h13, hf⟩ := px_bind hf
    refine px_rgr hx hb hts cl_MO hown hK hM 35 (by decide) (hts _ w_680) h13 d_MO_distanceOf_30 ?_
    refine lv_aload_n hx hb d_MO_distanceOf_33 rfl (lv_at hl 1 rfl) ?_
    obtain ⟨t14, h15, hf⟩ := px_bind hf
    refine px_rgr hx hb hts cl_MO hown hK hM 27 (by decide) (hts _ w_672) h15 d_MO_distanceOf_34 ?_
    refine lv_aload_n hx hb d_MO_distanceOf_37 rfl (lv_at hl 1 rfl) ?_
    obtain ⟨t16, h17, hf⟩ := px_bind hf
    refine px_rgr hx hb hts cl_MO hown hK hM 30 (by decide) (hts _ w_675) h17 d_MO_distanceOf_38 ?_
    refine lv_iload_n hx hb d_MO_distanceOf_41 rfl (lv_at hl 2 rfl) ?_
    obtain ⟨v18, h19, hf⟩ := px_bind hf
    refine px_rai hx hb hK hM 0 rfl h19 d_MO_distanceOf_42 ?_
    obtain ⟨v20, h21, hf⟩ := px_bind hf
    refine px_rai hx hb hK hM 0 rfl h21 d_MO_distanceOf_43 ?_
    obtain ⟨v22, h23, hf⟩ := px_bind hf
    refine px_rai hx hb hK hM 0 rfl h23 d_MO_distanceOf_44 ?_
    refine lv_istore (lv' := [(4, .int v22), (3, .int v7), (0, .ref o0), (1, .int x1), (2, .int x2)]) hx hb d_MO_distanceOf_45 hl (by decide) rfl (fun ls hl => ?_)
    refine lv_iload hx hb d_MO_distanceOf_47 (lv_at hl 0 rfl) ?_
    refine lv_ldc (v := 100000000) hx hb hown (hts _ w_891) d_MO_distanceOf_49 ?_
    refine lv_icmp_lt (tgt := 58) hx hb d_MO_distanceOf_51 (by decide) (fun c24 => ?_) (fun c24 => ?_)
    · have hf := px_ift hf c24
      refine lv_iload hx hb d_MO_distanceOf_58 (lv_at hl 0 rfl) ?_
      obtain ⟨rfl, rfl⟩ := px_s2 hf
      exact px_iret hx hb hr hlocks hM hS d_MO_distanceOf_60
    · have hf := px_iff hf c24
      refine lv_iconst (v := (-1)) hx hb d_MO_distanceOf_54 (by decide) ?_
      refine lv_goto (tgt := 60) hx hb d_MO_distanceOf_55 (by decide) ?_
      obtain ⟨rfl, rfl⟩ := px_s2 hf
      exact px_iret hx hb hr hlocks hM hS d_MO_distanceOf_60
  · have hf := px_ift hf c9
    refine lv_iconst (v := (-1)) hx hb d_MO_distanceOf_21 (by decide) ?_
    obtain ⟨rfl, rfl⟩ := px_s2 hf
    exact px_iret hx hb hr hlocks hM hS d_MO_distanceOf_22
def f_MO_isLess_L2 : Nat → Nat → Int32 → Int32 → Int32 → px_M → Option ((Int32) × px_M)
  | 0, _, _, _, _, _ => none
  | n + 1, o0, x1, x2, x3, M =>
    (px_gr 11 22 M o0).bind fun t1 =>
    (px_ai 0 M t1 x1).bind fun v3 =>
    if v3 ≤ x3 then
    some (x3, M)
    else
    (px_gr 11 22 M o0).bind fun t6 =>
    (px_ai 0 M t6 x2).bind fun v8 =>
    if v8 ≤ x3 then
    some (x3, M)
    else
    (px_ob 11 M o0).bind fun _ =>
    (f_MO_letter o0 x1 x3 M).bind fun (v13, M11) =>
    (px_ob 11 M11 o0).bind fun _ =>
    (f_MO_letter o0 x2 x3 M11).bind fun (v16, M14) =>
    if v13 = v16 then
    f_MO_isLess_L2 n o0 x1 x2 (x3 + 1) M14
    else
    some (x3, M14)
set_option maxHeartbeats 4000000 in
set_option maxRecDepth 100000 in
theorem lp_MO_isLess_L2 {p : Program} {l : Launch} {e : Env} {s : State} {m : MethodId} {args : Array Value} {below : List Frame} {meth : Method} {c : Code} {bs : Nat} {D : va_G} {G : Nat → ClassId} {Q : State → Prop} (C0 : px_At p s m meth c y_MO_isLess b_MO_isLess 4 (some .boolean) args D px_cl (px_tys G) px_nw px_over) (x : Int32) (M' : px_M) (o0 : Nat) (x1 : Int32) (x2 : Int32) (kx : ∀ (H : Heap) (locs : List Loc) (ls : Array Slot), px_W bs D px_cl (px_tys G) M' H → va_S (fun q => bs ≤ q) s.heap H locs → lv_has ls 4 [(0, .ref o0), (1, .int x1), (2, .int x2), (3, .int x)] → W p l e ⟨1, 0, 0, 22⟩ s m args below meth c H locs 0 0 Q (F0 m 43 ls []))  : ∀ (n : Nat) (x3 : Int32) (M : px_M), f_MO_isLess_L2 n o0 x1 x2 x3 M = some (x, M') → ∀ (H : Heap) (locs : List Loc) (ls : Array Slot), px_W bs D px_cl (px_tys G) M H → va_S (fun q => bs ≤ q) s.heap H locs → lv_has ls 4 [(0, .ref o0), (1, .int x1), (2, .int x2), (3, .int x3)] → W p l e ⟨1, 0, 0, 22⟩ s m args below meth c H locs 0 0 Q (F0 m 2 ls []) := by
  obtain ⟨hx, hb, hr, hml, hown, hnm, hlocks, hts, hK, hN, hO⟩ := C0
  intro n
  induction n with
  | zero => intro x3 M hf; cases hf
  | succ n ih =>
    intro x3 M hf H locs ls hM hS hl
    unfold f_MO_isLess_L2 at hf
    refine lv_iload_n hx hb d_MO_isLess_2 rfl (lv_at hl 3 rfl) ?_
    refine lv_aload_n hx hb d_MO_isLess_3 rfl (lv_at hl 0 rfl) ?_
    obtain ⟨t1, h2, hf⟩ := px_bind hf
    refine px_rgr hx hb hts cl_MO hown hK hM 22 (by decide) (hts _ w_667) h2 d_MO_isLess_4 ?_
    refine lv_iload_n hx hb d_MO_isLess_7 rfl (lv_at hl 1 rfl) ?_
    obtain ⟨v3, h4, hf⟩ := px_bind hf
    refine px_rai hx hb hK hM 0 rfl h4 d_MO_isLess_8 ?_
    refine lv_icmp_ge (tgt := 43) hx hb d_MO_isLess_9 (by decide) (fun c5 => ?_) (fun c5 => ?_)
    · have hf := px_ift hf c5
      obtain ⟨rfl, rfl⟩ := px_s2 hf
      exact kx _ _ _ hM hS (lv_sub hl [0, 1, 2, 3] rfl)
    · have hf := px_iff hf c5
      refine lv_iload_n hx hb d_MO_isLess_12 rfl (lv_at hl 3 rfl) ?_
      refine lv_aload_n hx hb d_MO_isLess_13 rfl (lv_at hl 0 rfl) ?_
      obtain ⟨t6, h7, hf⟩ := px_bind hf
      refine px_rgr hx hb hts cl_MO hown hK hM 22 (by decide) (hts _ w_667) h7 d_MO_isLess_14 ?_
      refine lv_iload_n hx hb d_MO_isLess_17 rfl (lv_at hl 2 rfl) ?_
      obtain ⟨v8, h9, hf⟩ := px_bind hf
      refine px_rai hx hb hK hM 0 rfl h9 d_MO_isLess_18 ?_
      refine lv_icmp_ge (tgt := 43) hx hb d_MO_isLess_19 (by decide) (fun c10 => ?_) (fun c10 => ?_)
      · have hf := px_ift hf c10
        obtain ⟨rfl, rfl⟩ := px_s2 hf
        exact kx _ _ _ hM hS (lv_sub hl [0, 1, 2, 3] rfl)
      · have hf := px_iff hf c10
        refine lv_aload_n hx hb d_MO_isLess_22 rfl (lv_at hl 0 rfl) ?_
        refine lv_iload_n hx hb d_MO_isLess_23 rfl (lv_at hl 1 rfl) ?_
        refine lv_iload_n hx hb d_MO_isLess_24 rfl (lv_at hl 3 rfl) ?_
        obtain ⟨_, h19, hf⟩ := px_bind hf
        obtain ⟨⟨v13, M11⟩, h12, hf⟩ := px_bind hf
        dsimp only at hf
        refine px_calli (va_runV (As := [.int x1, .int x3]) (rest := []) ⟨hx, hb, hml, hown, hts⟩ (c_MO_letter l bs D G o0 x1 x3 M h12) (cwV 2 hts (px_gV w_834 w_836 ws_MO_letter w_12 w_837) rfl rfl rfl (by decide +kernel) ⟨Nat.le_of_ble_eq_true rfl, Nat.le_of_ble_eq_true rfl⟩) (px_preV px_nwok hK hN hO hM h19 rfl) rfl rfl hl.1 rfl (lv_room (Nat.le_of_ble_eq_true rfl)) d_MO_isLess_25 ⟨Nat.le_of_ble_eq_true rfl, Nat.le_of_ble_eq_true rfl⟩) hS (fun H locs hM hS => ?_)
        refine lv_aload_n hx hb d_MO_isLess_28 rfl (lv_at hl 0 rfl) ?_
        refine lv_iload_n hx hb d_MO_isLess_29 rfl (lv_at hl 2 rfl) ?_
        refine lv_iload_n hx hb d_MO_isLess_30 rfl (lv_at hl 3 rfl) ?_
        obtain ⟨_, h18, hf⟩ := px_bind hf
        obtain ⟨⟨v16, M14⟩, h15, hf⟩ := px_bind hf
        dsimp only at hf
        refine px_calli (va_runV (As := [.int x2, .int x3]) (rest := [.int v13]) ⟨hx, hb, hml, hown, hts⟩ (c_MO_letter l bs D G o0 x2 x3 M11 h15) (cwV 2 hts (px_gV w_834 w_836 ws_MO_letter w_12 w_837) rfl rfl rfl (by decide +kernel) ⟨Nat.le_of_ble_eq_true rfl, Nat.le_of_ble_eq_true rfl⟩) (px_preV px_nwok hK hN hO hM h18 rfl) rfl rfl hl.1 rfl (lv_room (Nat.le_of_ble_eq_true rfl)) d_MO_isLess_31 ⟨Nat.le_of_ble_eq_true rfl, Nat.le_of_ble_eq_true rfl⟩) hS (fun H locs hM hS => ?_)
        refine lv_icmp_ne (tgt := 43) hx hb d_MO_isLess_34 (by decide) (fun c17 => ?_) (fun c17 => ?_)
        · have hf := px_iff hf c17
          obtain ⟨rfl, rfl⟩ := px_s2 hf
          exact kx _ _ _ hM hS (lv_sub hl [0, 1, 2, 3] rfl)
        · have hf := px_ift hf c17
          refine lv_iinc (v := x3 + 1) (lv' := [(3, .int (x3 + 1)), (0, .ref o0), (1, .int x1), (2, .int x2)]) hx hb d_MO_isLess_37 hl (k := 3) rfl (by rfl) (by decide) rfl (fun ls hl => ?_)
          refine lv_goto (tgt := 2) hx hb d_MO_isLess_40 (by decide) ?_
          exact ih (x3 + 1) M14 hf _ _ _ hM hS (lv_sub hl [1, 2, 3, 0] rfl)
def f_MO_isLess (o0 : Nat) (x1 : Int32) (x2 : Int32) (M : px_M) : Option (Int32 × px_M) :=
  (f_MO_isLess_L2 px_fuel o0 x1 x2 0 M).bind fun (v22, M20) =>
  (px_gr 11 22 M20 o0).bind fun t23 =>
  (px_ai 0 M20 t23 x2).bind fun v25 =>
  if v25 ≤ v22 then
  some (0, M20)
  else
  (px_gr 11 22 M20 o0).bind fun t28 =>
  (px_ai 0 M20 t28 x1).bind fun v30 =>
  if v22 = v30 then
  some (1, M20)
  else
  (px_ob 11 M20 o0).bind fun _ =>
  (f_MO_letter o0 x1 v22 M20).bind fun (v35, M33) =>
  (px_ob 11 M33 o0).bind fun _ =>
  (f_MO_letter o0 x2 v22 M33).bind fun (v38, M36) =>
  if v38 ≤ v35 then
  some (0, M36)
  else
  some (1, M36)
set_option maxHeartbeats 4000000 in
set_option maxRecDepth 100000 in
theorem c_MO_isLess (l : Launch) (bs : Nat) (D : va_G) (G : Nat → ClassId) (o0 : Nat) (x1 : Int32) (x2 : Int32) (M : px_M) {r : Int32} {M' : px_M} (hf : f_MO_isLess o0 x1 x2 M = some (r, M')) : Met l y_MO_isLess (.code y_MO_isLess b_MO_isLess 4 (some .boolean) :: px_tw) ⟨1, 0, 0, 22⟩ (va_Pc [.ref o0, .int x1, .int x2] (px_B bs D px_cl (px_tys G) px_nw px_over M)) (px_Qi bs D px_cl (px_tys G) r M') 0 0 (fun q => bs ≤ q) := by
  refine px_of (by decide) (Nat.le_of_ble_eq_true rfl) ?_
  intro p e s m below meth c ls C0 hM hS hl
  obtain ⟨hx, hb, hr, hml, hown, hnm, hlocks, hts, hK, hN, hO⟩ := C0
  have hl : lv_has ls 4 [(0, .ref o0), (1, .int x1), (2, .int x2)] := hl
  unfold f_MO_isLess at hf
  refine lv_iconst (v := 0) hx hb d_MO_isLess_0 (by decide) ?_
  refine lv_istore_n (lv' := [(3, .int 0), (0, .ref o0), (1, .int x1), (2, .int x2)]) hx hb d_MO_isLess_1 rfl hl (by decide) rfl (fun ls hl => ?_)
  obtain ⟨⟨v22, M20⟩, h21, hf⟩ := px_bind hf
  dsimp only at hf
  refine lp_MO_isLess_L2 ⟨hx, hb, hr, hml, hown, hnm, hlocks, hts, hK, hN, hO⟩ _ M20 o0 x1 x2 (fun H locs ls hM hS hl => ?_) px_fuel 0 M h21 _ _ _ hM hS (lv_sub hl [1, 2, 3, 0] rfl)
  try dsimp only at hl
  refine lv_iload_n hx hb d_MO_isLess_43 rfl (lv_at hl 3 rfl) ?_
  refine lv_aload_n hx hb d_MO_isLess_44 rfl (lv_at hl 0 rfl) ?_
  obtain ⟨t23, h24, hf⟩ := px_bind hf
  refine px_rgr hx hb hts cl_MO hown hK hM 22 (by decide) (hts _ w_667) h24 d_MO_isLess_45 ?_
  refine lv_iload_n hx hb d_MO_isLess_48 rfl (lv_at hl 2 rfl) ?_
  obtain ⟨v25, h26, hf⟩ := px_bind hf
  refine px_rai hx hb hK hM 0 rfl h26 d_MO_isLess_49 ?_
  refine lv_icmp_ge (tgt := 82) hx hb d_MO_isLess_50 (by decide) (fun c27 => ?_) (fun c27 => ?_)
  · have hf := px_ift hf c27
    refine lv_iconst (v := 0) hx hb d_MO_isLess_82 (by decide) ?_
    obtain ⟨rfl, rfl⟩ := px_s2 hf
    exact px_zret hx hb hr rfl hlocks hM hS d_MO_isLess_83
  · have hf := px_iff hf c27
    refine lv_iload_n hx hb d_MO_isLess_53 rfl (lv_at hl 3 rfl) ?_
    refine lv_aload_n hx hb d_MO_isLess_54 rfl (lv_at hl 0 rfl) ?_
    obtain ⟨t28, h29, hf⟩ := px_bind hf
    refine px_rgr hx hb hts cl_MO hown hK hM 22 (by decide) (hts _ w_667) h29 d_MO_isLess_55 ?_
    refine lv_iload_n hx hb d_MO_isLess_58 rfl (lv_at hl 1 rfl) ?_
    obtain ⟨v30, h31, hf⟩ := px_bind hf
    refine px_rai hx hb hK hM 0 rfl h31 d_MO_isLess_59 ?_
    refine lv_icmp_eq (tgt := 78) hx hb d_MO_isLess_60 (by decide) (fun c32 => ?_) (fun c32 => ?_)
    · have hf := px_ift hf c32
      refine lv_iconst (v := 1) hx hb d_MO_isLess_78 (by decide) ?_
      refine lv_goto (tgt := 83) hx hb d_MO_isLess_79 (by decide) ?_
      obtain ⟨rfl, rfl⟩ := px_s2 hf
      exact px_zret hx hb hr rfl hlocks hM hS d_MO_isLess_83
    · have hf := px_iff hf c32
      refine lv_aload_n hx hb d_MO_isLess_63 rfl (lv_at hl 0 rfl) ?_
      refine lv_iload_n hx hb d_MO_isLess_64 rfl (lv_at hl 1 rfl) ?_
      refine lv_iload_n hx hb d_MO_isLess_65 rfl (lv_at hl 3 rfl) ?_
      obtain ⟨_, h41, hf⟩ := px_bind hf
      obtain ⟨⟨v35, M33⟩, h34, hf⟩ := px_bind hf
      dsimp only at hf
      refine px_calli (va_runV (As := [.int x1, .int v22]) (rest := []) ⟨hx, hb, hml, hown, hts⟩ (c_MO_letter l bs D G o0 x1 v22 M20 h34) (cwV 2 hts (px_gV w_834 w_836 ws_MO_letter w_12 w_837) rfl rfl rfl (by decide +kernel) ⟨Nat.le_of_ble_eq_true rfl, Nat.le_of_ble_eq_true rfl⟩) (px_preV px_nwok hK hN hO hM h41 rfl) rfl rfl hl.1 rfl (lv_room (Nat.le_of_ble_eq_true rfl)) d_MO_isLess_66 ⟨Nat.le_of_ble_eq_true rfl, Nat.le_of_ble_eq_true rfl⟩) hS (fun H locs hM hS => ?_)
      refine lv_aload_n hx hb d_MO_isLess_69 rfl (lv_at hl 0 rfl) ?_
      refine lv_iload_n hx hb d_MO_isLess_70 rfl (lv_at hl 2 rfl) ?_
      refine lv_iload_n hx hb d_MO_isLess_71 rfl (lv_at hl 3 rfl) ?_
      obtain ⟨_, h40, hf⟩ := px_bind hf
      obtain ⟨⟨v38, M36⟩, h37, hf⟩ := px_bind hf
      dsimp only at hf
      refine px_calli (va_runV (As := [.int x2, .int v22]) (rest := [.int v35]) ⟨hx, hb, hml, hown, hts⟩ (c_MO_letter l bs D G o0 x2 v22 M33 h37) (cwV 2 hts (px_gV w_834 w_836 ws_MO_letter w_12 w_837) rfl rfl rfl (by decide +kernel) ⟨Nat.le_of_ble_eq_true rfl, Nat.le_of_ble_eq_true rfl⟩) (px_preV px_nwok hK hN hO hM h40 rfl) rfl rfl hl.1 rfl (lv_room (Nat.le_of_ble_eq_true rfl)) d_MO_isLess_72 ⟨Nat.le_of_ble_eq_true rfl, Nat.le_of_ble_eq_true rfl⟩) hS (fun H locs hM hS => ?_)
      refine lv_icmp_ge (tgt := 82) hx hb d_MO_isLess_75 (by decide) (fun c39 => ?_) (fun c39 => ?_)
      · have hf := px_ift hf c39
        refine lv_iconst (v := 0) hx hb d_MO_isLess_82 (by decide) ?_
        obtain ⟨rfl, rfl⟩ := px_s2 hf
        exact px_zret hx hb hr rfl hlocks hM hS d_MO_isLess_83
      · have hf := px_iff hf c39
        refine lv_iconst (v := 1) hx hb d_MO_isLess_78 (by decide) ?_
        refine lv_goto (tgt := 83) hx hb d_MO_isLess_79 (by decide) ?_
        obtain ⟨rfl, rfl⟩ := px_s2 hf
        exact px_zret hx hb hr rfl hlocks hM hS d_MO_isLess_83
def f_MO_goesBefore (o0 : Nat) (x1 : Int32) (x2 : Int32) (x3 : Int32) (M : px_M) : Option (Int32 × px_M) :=
  (px_gi 11 7 M o0).bind fun v1 =>
  if v1 = 97 then
  (px_gr 11 32 M o0).bind fun t38 =>
  (px_ai 0 M t38 ((5 * x1) + x2)).bind fun v40 =>
  (px_gr 11 32 M o0).bind fun t42 =>
  (px_ai 0 M t42 ((5 * x1) + x3)).bind fun v44 =>
  (px_ob 11 M o0).bind fun _ =>
  (f_MO_isLess o0 v40 v44 M).bind fun (v48, M46) =>
  if v48 = 0 ∨ v48 = 1 then
  some (v48, M46)
  else none
  else
  (px_gi 11 7 M o0).bind fun v4 =>
  if v4 = 116 then
  some (0, M)
  else
  (px_gr 11 36 M o0).bind fun t7 =>
  (px_ai 0 M t7 x2).bind fun v9 =>
  if v9 = ((-1)) then
  some (0, M)
  else
  (px_gr 11 36 M o0).bind fun t12 =>
  (px_ai 0 M t12 x3).bind fun v14 =>
  if v14 = ((-1)) then
  some (1, M)
  else
  (px_gi 11 7 M o0).bind fun v17 =>
  if v17 = 110 then
  (px_gr 11 36 M o0).bind fun t29 =>
  (px_ai 0 M t29 x2).bind fun v31 =>
  (px_gr 11 36 M o0).bind fun t33 =>
  (px_ai 0 M t33 x3).bind fun v35 =>
  if v35 ≤ v31 then
  some (0, M)
  else
  some (1, M)
  else
  (px_gr 11 36 M o0).bind fun t20 =>
  (px_ai 0 M t20 x2).bind fun v22 =>
  (px_gr 11 36 M o0).bind fun t24 =>
  (px_ai 0 M t24 x3).bind fun v26 =>
  if v22 ≤ v26 then
  some (0, M)
  else
  some (1, M)
set_option maxHeartbeats 4000000 in
set_option maxRecDepth 100000 in
theorem c_MO_goesBefore (l : Launch) (bs : Nat) (D : va_G) (G : Nat → ClassId) (o0 : Nat) (x1 : Int32) (x2 : Int32) (x3 : Int32) (M : px_M) {r : Int32} {M' : px_M} (hf : f_MO_goesBefore o0 x1 x2 x3 M = some (r, M')) : Met l y_MO_goesBefore (.code y_MO_goesBefore b_MO_goesBefore 4 (some .boolean) :: px_tw) ⟨2, 0, 0, 45⟩ (va_Pc [.ref o0, .int x1, .int x2, .int x3] (px_B bs D px_cl (px_tys G) px_nw px_over M)) (px_Qi bs D px_cl (px_tys G) r M') 0 0 (fun q => bs ≤ q) := by
  refine px_of (by decide) (Nat.le_of_ble_eq_true rfl) ?_
  intro p e s m below meth c ls C0 hM hS hl
  obtain ⟨hx, hb, hr, hml, hown, hnm, hlocks, hts, hK, hN, hO⟩ := C0
  have hl : lv_has ls 4 [(0, .ref o0), (1, .int x1), (2, .int x2), (3, .int x3)] := hl
  unfold f_MO_goesBefore at hf
  refine lv_aload_n hx hb d_MO_goesBefore_0 rfl (lv_at hl 0 rfl) ?_
  obtain ⟨v1, h2, hf⟩ := px_bind hf
  refine px_rgi hx hb hts cl_MO hown hK hM 7 (by decide) (hts _ w_652) h2 d_MO_goesBefore_1 ?_
  refine lv_bipush (v := 97) hx hb d_MO_goesBefore_4 (by decide) ?_
  refine lv_icmp_ne (tgt := 34) hx hb d_MO_goesBefore_6 (by decide) (fun c3 => ?_) (fun c3 => ?_)
  · have hf := px_iff hf c3
    refine lv_aload_n hx hb d_MO_goesBefore_34 rfl (lv_at hl 0 rfl) ?_
    obtain ⟨v4, h5, hf⟩ := px_bind hf
    refine px_rgi hx hb hts cl_MO hown hK hM 7 (by decide) (hts _ w_652) h5 d_MO_goesBefore_35 ?_
    refine lv_bipush (v := 116) hx hb d_MO_goesBefore_38 (by decide) ?_
    refine lv_icmp_eq (tgt := 53) hx hb d_MO_goesBefore_40 (by decide) (fun c6 => ?_) (fun c6 => ?_)
    · have hf := px_ift hf c6
      refine lv_iconst (v := 0) hx hb d_MO_goesBefore_53 (by decide) ?_
      obtain ⟨rfl, rfl⟩ := px_s2 hf
      exact px_zret hx hb hr rfl hlocks hM hS d_MO_goesBefore_54
    · have hf := px_iff hf c6
      refine lv_aload_n hx hb d_MO_goesBefore_43 rfl (lv_at hl 0 rfl) ?_
      obtain ⟨t7, h8, hf⟩ := px_bind hf
      refine px_rgr hx hb hts cl_MO hown hK hM 36 (by decide) (hts _ w_681) h8 d_MO_goesBefore_44 ?_
      refine lv_iload_n hx hb d_MO_goesBefore_47 rfl (lv_at hl 2 rfl) ?_
      obtain ⟨v9, h10, hf⟩ := px_bind hf
      refine px_rai hx hb hK hM 0 rfl h10 d_MO_goesBefore_48 ?_
      refine lv_iconst (v := (-1)) hx hb d_MO_goesBefore_49 (by decide) ?_
      refine lv_icmp_ne (tgt := 55) hx hb d_MO_goesBefore_50 (by decide) (fun c11 => ?_) (fun c11 => ?_)
      · have hf := px_iff hf c11
        refine lv_aload_n hx hb d_MO_goesBefore_55 rfl (lv_at hl 0 rfl) ?_
        obtain ⟨t12, h13, hf⟩ := px_bind hf
        refine px_rgr hx hb hts cl_MO hown hK hM 36 (by decide) (hts _ w_681) h13 d_MO_goesBefore_56 ?_
        refine lv_iload_n hx hb d_MO_goesBefore_59 rfl (lv_at hl 3 rfl) ?_
        obtain ⟨v14, h15, hf⟩ := px_bind hf
        refine px_rai hx hb hK hM 0 rfl h15 d_MO_goesBefore_60 ?_
        refine lv_iconst (v := (-1)) hx hb d_MO_goesBefore_61 (by decide) ?_
        refine lv_icmp_eq (tgt := 107) hx hb d_MO_goesBefore_62 (by decide) (fun c16 => ?_) (fun c16 => ?_)
        · have hf := px_ift hf c16
          refine lv_iconst (v := 1) hx hb d_MO_goesBefore_107 (by decide) ?_
          refine lv_goto (tgt := 112) hx hb d_MO_goesBefore_108 (by decide) ?_
          obtain ⟨rfl, rfl⟩ := px_s2 hf
          exact px_zret hx hb hr rfl hlocks hM hS d_MO_goesBefore_112
        · have hf := px_iff hf c16
          refine lv_aload_n hx hb d_MO_goesBefore_65 rfl (lv_at hl 0 rfl) ?_
          obtain ⟨v17, h18, hf⟩ := px_bind hf
          refine px_rgi hx hb hts cl_MO hown hK hM 7 (by decide) (hts _ w_652) h18 d_MO_goesBefore_66 ?_
          refine lv_bipush (v := 110) hx hb d_MO_goesBefore_69 (by decide) ?_
          refine lv_icmp_ne (tgt := 92) hx hb d_MO_goesBefore_71 (by decide) (fun c19 => ?_) (fun c19 => ?_)
          · have hf := px_iff hf c19
            refine lv_aload_n hx hb d_MO_goesBefore_92 rfl (lv_at hl 0 rfl) ?_
            obtain ⟨t20, h21, hf⟩ := px_bind hf
            refine px_rgr hx hb hts cl_MO hown hK hM 36 (by decide) (hts _ w_681) h21 d_MO_goesBefore_93 ?_
            refine lv_iload_n hx hb d_MO_goesBefore_96 rfl (lv_at hl 2 rfl) ?_
            obtain ⟨v22, h23, hf⟩ := px_bind hf
            refine px_rai hx hb hK hM 0 rfl h23 d_MO_goesBefore_97 ?_
            refine lv_aload_n hx hb d_MO_goesBefore_98 rfl (lv_at hl 0 rfl) ?_
            obtain ⟨t24, h25, hf⟩ := px_bind hf
            refine px_rgr hx hb hts cl_MO hown hK hM 36 (by decide) (hts _ w_681) h25 d_MO_goesBefore_99 ?_
            refine lv_iload_n hx hb d_MO_goesBefore_102 rfl (lv_at hl 3 rfl) ?_
            obtain ⟨v26, h27, hf⟩ := px_bind hf
            refine px_rai hx hb hK hM 0 rfl h27 d_MO_goesBefore_103 ?_
            refine lv_icmp_le (tgt := 111) hx hb d_MO_goesBefore_104 (by decide) (fun c28 => ?_) (fun c28 => ?_)
            · have hf := px_ift hf c28
              refine lv_iconst (v := 0) hx hb d_MO_goesBefore_111 (by decide) ?_
              obtain ⟨rfl, rfl⟩ := px_s2 hf
              exact px_zret hx hb hr rfl hlocks hM hS d_MO_goesBefore_112
            · have hf := px_iff hf c28
              refine lv_iconst (v := 1) hx hb d_MO_goesBefore_107 (by decide) ?_
              refine lv_goto (tgt := 112) hx hb d_MO_goesBefore_108 (by decide) ?_
              obtain ⟨rfl, rfl⟩ := px_s2 hf
              exact px_zret hx hb hr rfl hlocks hM hS d_MO_goesBefore_112
          · have hf := px_ift hf c19
            refine lv_aload_n hx hb d_MO_goesBefore_74 rfl (lv_at hl 0 rfl) ?_
            obtain ⟨t29, h30, hf⟩ := px_bind hf
            refine px_rgr hx hb hts cl_MO hown hK hM 36 (by decide) (hts _ w_681) h30 d_MO_goesBefore_75 ?_
            refine lv_iload_n hx hb d_MO_goesBefore_78 rfl (lv_at hl 2 rfl) ?_
            obtain ⟨v31, h32, hf⟩ := px_bind hf
            refine px_rai hx hb hK hM 0 rfl h32 d_MO_goesBefore_79 ?_
            refine lv_aload_n hx hb d_MO_goesBefore_80 rfl (lv_at hl 0 rfl) ?_
            obtain ⟨t33, h34, hf⟩ := px_bind hf
            refine px_rgr hx hb hts cl_MO hown hK hM 36 (by decide) (hts _ w_681) h34 d_MO_goesBefore_81 ?_
            refine lv_iload_n hx hb d_MO_goesBefore_84 rfl (lv_at hl 3 rfl) ?_
            obtain ⟨v35, h36, hf⟩ := px_bind hf
            refine px_rai hx hb hK hM 0 rfl h36 d_MO_goesBefore_85 ?_
            refine lv_icmp_ge (tgt := 111) hx hb d_MO_goesBefore_86 (by decide) (fun c37 => ?_) (fun c37 => ?_)
            · have hf := px_ift hf c37
              refine lv_iconst (v := 0) hx hb d_MO_goesBefore_111 (by decide) ?_
              obtain ⟨rfl, rfl⟩ := px_s2 hf
              exact px_zret hx hb hr rfl hlocks hM hS d_MO_goesBefore_112
            · have hf := px_iff hf c37
              refine lv_goto (tgt := 107) hx hb d_MO_goesBefore_89 (by decide) ?_
              refine lv_iconst (v := 1) hx hb d_MO_goesBefore_107 (by decide) ?_
              refine lv_goto (tgt := 112) hx hb d_MO_goesBefore_108 (by decide) ?_
              obtain ⟨rfl, rfl⟩ := px_s2 hf
              exact px_zret hx hb hr rfl hlocks hM hS d_MO_goesBefore_112
      · have hf := px_ift hf c11
        refine lv_iconst (v := 0) hx hb d_MO_goesBefore_53 (by decide) ?_
        obtain ⟨rfl, rfl⟩ := px_s2 hf
        exact px_zret hx hb hr rfl hlocks hM hS d_MO_goesBefore_54
  · have hf := px_ift hf c3
    refine lv_aload_n hx hb d_MO_goesBefore_9 rfl (lv_at hl 0 rfl) ?_
    refine lv_aload_n hx hb d_MO_goesBefore_10 rfl (lv_at hl 0 rfl) ?_
    obtain ⟨t38, h39, hf⟩ := px_bind hf
    refine px_rgr hx hb hts cl_MO hown hK hM 32 (by decide) (hts _ w_677) h39 d_MO_goesBefore_11 ?_
    refine lv_iconst (v := 5) hx hb d_MO_goesBefore_14 (by decide) ?_
    refine lv_iload_n hx hb d_MO_goesBefore_15 rfl (lv_at hl 1 rfl) ?_
    refine lv_imul hx hb d_MO_goesBefore_16 ?_
    refine lv_iload_n hx hb d_MO_goesBefore_17 rfl (lv_at hl 2 rfl) ?_
    refine lv_iadd hx hb d_MO_goesBefore_18 ?_
    obtain ⟨v40, h41, hf⟩ := px_bind hf
    refine px_rai hx hb hK hM 0 rfl h41 d_MO_goesBefore_19 ?_
    refine lv_aload_n hx hb d_MO_goesBefore_20 rfl (lv_at hl 0 rfl) ?_
    obtain ⟨t42, h43, hf⟩ := px_bind hf
    refine px_rgr hx hb hts cl_MO hown hK hM 32 (by decide) (hts _ w_677) h43 d_MO_goesBefore_21 ?_
    refine lv_iconst (v := 5) hx hb d_MO_goesBefore_24 (by decide) ?_
    refine lv_iload_n hx hb d_MO_goesBefore_25 rfl (lv_at hl 1 rfl) ?_
    refine lv_imul hx hb d_MO_goesBefore_26 ?_
    refine lv_iload_n hx hb d_MO_goesBefore_27 rfl (lv_at hl 3 rfl) ?_
    refine lv_iadd hx hb d_MO_goesBefore_28 ?_
    obtain ⟨v44, h45, hf⟩ := px_bind hf
    refine px_rai hx hb hK hM 0 rfl h45 d_MO_goesBefore_29 ?_
    obtain ⟨_, h49, hf⟩ := px_bind hf
    obtain ⟨⟨v48, M46⟩, h47, hf⟩ := px_bind hf
    dsimp only at hf
    refine px_calli (va_runV (As := [.int v40, .int v44]) (rest := []) ⟨hx, hb, hml, hown, hts⟩ (c_MO_isLess l bs D G o0 v40 v44 M h47) (cwV 2 hts (px_gV w_900 w_902 ws_MO_isLess w_12 w_903) rfl rfl rfl (by decide +kernel) ⟨Nat.le_of_ble_eq_true rfl, Nat.le_of_ble_eq_true rfl⟩) (px_preV px_nwok hK hN hO hM h49 rfl) rfl rfl hl.1 rfl (lv_room (Nat.le_of_ble_eq_true rfl)) d_MO_goesBefore_30 ⟨Nat.le_of_ble_eq_true rfl, Nat.le_of_ble_eq_true rfl⟩) hS (fun H locs hM hS => ?_)
    have hz : v48 = 0 ∨ v48 = 1 := Classical.byContradiction fun q => (by have q2 := px_iff hf q; cases q2)
    have hf := px_ift hf hz
    obtain ⟨rfl, rfl⟩ := px_s2 hf
    exact px_zret hx hb hr (px_nz hz) hlocks hM hS d_MO_goesBefore_33
def f_MO_rankAll_L2 : Nat → Nat → Int32 → Int32 → px_M → Option ((Unit) × px_M)
  | 0, _, _, _, _ => none
  | n + 1, o0, x1, x2, M =>
    (px_gr 11 31 M o0).bind fun t1 =>
    (px_ai 0 M t1 x1).bind fun v3 =>
    if v3 ≤ x2 then
    some ((), M)
    else
    (px_gr 11 36 M o0).bind fun t6 =>
    (px_ob 11 M o0).bind fun _ =>
    (f_MO_distanceOf o0 x1 x2 M).bind fun (v10, M8) =>
    (px_si 0 M8 t6 x2 v10).bind fun M11 =>
    f_MO_rankAll_L2 n o0 x1 (x2 + 1) M11
set_option maxHeartbeats 4000000 in
set_option maxRecDepth 100000 in
theorem lp_MO_rankAll_L2 {p : Program} {l : Launch} {e : Env} {s : State} {m : MethodId} {args : Array Value} {below : List Frame} {meth : Method} {c : Code} {bs : Nat} {D : va_G} {G : Nat → ClassId} {Q : State → Prop} (C0 : px_At p s m meth c y_MO_rankAll b_MO_rankAll 4 none args D px_cl (px_tys G) px_nw px_over) (x : Unit) (M' : px_M) (o0 : Nat) (x1 : Int32) (kx : ∀ (H : Heap) (locs : List Loc) (ls : Array Slot), px_W bs D px_cl (px_tys G) M' H → va_S (fun q => bs ≤ q) s.heap H locs → lv_has ls 4 [(0, .ref o0), (1, .int x1)] → W p l e ⟨4, 0, 0, 97⟩ s m args below meth c H locs 0 0 Q (F0 m 30 ls []))  : ∀ (n : Nat) (x2 : Int32) (M : px_M), f_MO_rankAll_L2 n o0 x1 x2 M = some (x, M') → ∀ (H : Heap) (locs : List Loc) (ls : Array Slot), px_W bs D px_cl (px_tys G) M H → va_S (fun q => bs ≤ q) s.heap H locs → lv_has ls 4 [(0, .ref o0), (1, .int x1), (2, .int x2)] → W p l e ⟨4, 0, 0, 97⟩ s m args below meth c H locs 0 0 Q (F0 m 2 ls []) := by
  obtain ⟨hx, hb, hr, hml, hown, hnm, hlocks, hts, hK, hN, hO⟩ := C0
  intro n
  induction n with
  | zero => intro x2 M hf; cases hf
  | succ n ih =>
    intro x2 M hf H locs ls hM hS hl
    unfold f_MO_rankAll_L2 at hf
    refine lv_iload_n hx hb d_MO_rankAll_2 rfl (lv_at hl 2 rfl) ?_
    refine lv_aload_n hx hb d_MO_rankAll_3 rfl (lv_at hl 0 rfl) ?_
    obtain ⟨t1, h2, hf⟩ := px_bind hf
    refine px_rgr hx hb hts cl_MO hown hK hM 31 (by decide) (hts _ w_676) h2 d_MO_rankAll_4 ?_
    refine lv_iload_n hx hb d_MO_rankAll_7 rfl (lv_at hl 1 rfl) ?_
    obtain ⟨v3, h4, hf⟩ := px_bind hf
    refine px_rai hx hb hK hM 0 rfl h4 d_MO_rankAll_8 ?_
    refine lv_icmp_ge (tgt := 30) hx hb d_MO_rankAll_9 (by decide) (fun c5 => ?_) (fun c5 => ?_)
    · have hf := px_ift hf c5
      obtain ⟨rfl, rfl⟩ := px_s2 hf
      exact kx _ _ _ hM hS (lv_sub hl [0, 1] rfl)
    · have hf := px_iff hf c5
      refine lv_aload_n hx hb d_MO_rankAll_12 rfl (lv_at hl 0 rfl) ?_
      obtain ⟨t6, h7, hf⟩ := px_bind hf
      refine px_rgr hx hb hts cl_MO hown hK hM 36 (by decide) (hts _ w_681) h7 d_MO_rankAll_13 ?_
      refine lv_iload_n hx hb d_MO_rankAll_16 rfl (lv_at hl 2 rfl) ?_
      refine lv_aload_n hx hb d_MO_rankAll_17 rfl (lv_at hl 0 rfl) ?_
      refine lv_iload_n hx hb d_MO_rankAll_18 rfl (lv_at hl 1 rfl) ?_
      refine lv_iload_n hx hb d_MO_rankAll_19 rfl (lv_at hl 2 rfl) ?_
      obtain ⟨_, h13, hf⟩ := px_bind hf
      obtain ⟨⟨v10, M8⟩, h9, hf⟩ := px_bind hf
      dsimp only at hf
      refine px_calli (va_runV (As := [.int x1, .int x2]) (rest := [.int x2, .ref t6]) ⟨hx, hb, hml, hown, hts⟩ (c_MO_distanceOf l bs D G o0 x1 x2 M h9) (cwV 2 hts (px_gV w_883 w_885 ws_MO_distanceOf w_12 w_886) rfl rfl rfl (by decide +kernel) ⟨Nat.le_of_ble_eq_true rfl, Nat.le_of_ble_eq_true rfl⟩) (px_preV px_nwok hK hN hO hM h13 rfl) rfl rfl hl.1 rfl (lv_room (Nat.le_of_ble_eq_true rfl)) d_MO_rankAll_20 ⟨Nat.le_of_ble_eq_true rfl, Nat.le_of_ble_eq_true rfl⟩) hS (fun H locs hM hS => ?_)
      obtain ⟨M11, h12, hf⟩ := px_bind hf
      refine px_rsi hx hb hK hM hS 0 rfl h12 d_MO_rankAll_23 (fun H locs hM hS => ?_)
      refine lv_iinc (v := x2 + 1) (lv' := [(2, .int (x2 + 1)), (0, .ref o0), (1, .int x1)]) hx hb d_MO_rankAll_24 hl (k := 2) rfl (by rfl) (by decide) rfl (fun ls hl => ?_)
      refine lv_goto (tgt := 2) hx hb d_MO_rankAll_27 (by decide) ?_
      exact ih (x2 + 1) M11 hf _ _ _ hM hS (lv_sub hl [1, 2, 0] rfl)
def f_MO_rankAll_L44 : Nat → Nat → Int32 → Int32 → Int32 → px_M → Option ((Int32) × px_M)
  | 0, _, _, _, _, _ => none
  | n + 1, o0, x1, x2, x3, M =>
    if x3 ≤ 0 then
    some (x3, M)
    else
    (px_gr 11 37 M o0).bind fun t22 =>
    (px_ai 0 M t22 (x3 - 1)).bind fun v24 =>
    (px_ob 11 M o0).bind fun _ =>
    (f_MO_goesBefore o0 x1 x2 v24 M).bind fun (v28, M26) =>
    if v28 = 0 then
    some (x3, M26)
    else
    (px_gr 11 37 M26 o0).bind fun t30 =>
    (px_gr 11 37 M26 o0).bind fun t32 =>
    (px_ai 0 M26 t32 (x3 - 1)).bind fun v34 =>
    (px_si 0 M26 t30 x3 v34).bind fun M36 =>
    f_MO_rankAll_L44 n o0 x1 x2 (x3 + (-1)) M36
set_option maxHeartbeats 4000000 in
set_option maxRecDepth 100000 in
theorem lp_MO_rankAll_L44 {p : Program} {l : Launch} {e : Env} {s : State} {m : MethodId} {args : Array Value} {below : List Frame} {meth : Method} {c : Code} {bs : Nat} {D : va_G} {G : Nat → ClassId} {Q : State → Prop} (C0 : px_At p s m meth c y_MO_rankAll b_MO_rankAll 4 none args D px_cl (px_tys G) px_nw px_over) (x : Int32) (M' : px_M) (o0 : Nat) (x1 : Int32) (x2 : Int32) (kx : ∀ (H : Heap) (locs : List Loc) (ls : Array Slot), px_W bs D px_cl (px_tys G) M' H → va_S (fun q => bs ≤ q) s.heap H locs → lv_has ls 4 [(0, .ref o0), (1, .int x1), (2, .int x2), (3, .int x)] → W p l e ⟨4, 0, 0, 97⟩ s m args below meth c H locs 0 0 Q (F0 m 85 ls []))  : ∀ (n : Nat) (x3 : Int32) (M : px_M), f_MO_rankAll_L44 n o0 x1 x2 x3 M = some (x, M') → ∀ (H : Heap) (locs : List Loc) (ls : Array Slot), px_W bs D px_cl (px_tys G) M H → va_S (fun q => bs ≤ q) s.heap H locs → lv_has ls 4 [(0, .ref o0), (1, .int x1), (2, .int x2), (3, .int x3)] → W p l e ⟨4, 0, 0, 97⟩ s m args below meth c H locs 0 0 Q (F0 m 44 ls []) := by
  obtain ⟨hx, hb, hr, hml, hown, hnm, hlocks, hts, hK, hN, hO⟩ := C0
  intro n
  induction n with
  | zero => intro x3 M hf; cases hf
  | succ n ih =>
    intro x3 M hf H locs ls hM hS hl
    unfold f_MO_rankAll_L44 at hf
    refine lv_iload_n hx hb d_MO_rankAll_44 rfl (lv_at hl 3 rfl) ?_
    refine lv_if_le (tgt := 85) hx hb d_MO_rankAll_45 (by decide) (fun c21 => ?_) (fun c21 => ?_)
    · have hf := px_ift hf c21
      obtain ⟨rfl, rfl⟩ := px_s2 hf
      exact kx _ _ _ hM hS (lv_sub hl [0, 1, 2, 3] rfl)
    · have hf := px_iff hf c21
      refine lv_aload_n hx hb d_MO_rankAll_48 rfl (lv_at hl 0 rfl) ?_
      refine lv_iload_n hx hb d_MO_rankAll_49 rfl (lv_at hl 1 rfl) ?_
      refine lv_iload_n hx hb d_MO_rankAll_50 rfl (lv_at hl 2 rfl) ?_
      refine lv_aload_n hx hb d_MO_rankAll_51 rfl (lv_at hl 0 rfl) ?_
      obtain ⟨t22, h23, hf⟩ := px_bind hf
      refine px_rgr hx hb hts cl_MO hown hK hM 37 (by decide) (hts _ w_682) h23 d_MO_rankAll_52 ?_
      refine lv_iload_n hx hb d_MO_rankAll_55 rfl (lv_at hl 3 rfl) ?_
      refine lv_iconst (v := 1) hx hb d_MO_rankAll_56 (by decide) ?_
      refine lv_isub hx hb d_MO_rankAll_57 ?_
      obtain ⟨v24, h25, hf⟩ := px_bind hf
      refine px_rai hx hb hK hM 0 rfl h25 d_MO_rankAll_58 ?_
      obtain ⟨_, h38, hf⟩ := px_bind hf
      obtain ⟨⟨v28, M26⟩, h27, hf⟩ := px_bind hf
      dsimp only at hf
      refine px_calli (va_runV (As := [.int x1, .int x2, .int v24]) (rest := []) ⟨hx, hb, hml, hown, hts⟩ (c_MO_goesBefore l bs D G o0 x1 x2 v24 M h27) (cwV 3 hts (px_gV w_896 w_898 ws_MO_goesBefore w_12 w_899) rfl rfl rfl (by decide +kernel) ⟨Nat.le_of_ble_eq_true rfl, Nat.le_of_ble_eq_true rfl⟩) (px_preV px_nwok hK hN hO hM h38 rfl) rfl rfl hl.1 rfl (lv_room (Nat.le_of_ble_eq_true rfl)) d_MO_rankAll_59 ⟨Nat.le_of_ble_eq_true rfl, Nat.le_of_ble_eq_true rfl⟩) hS (fun H locs hM hS => ?_)
      refine lv_if_eq (tgt := 85) hx hb d_MO_rankAll_62 (by decide) (fun c29 => ?_) (fun c29 => ?_)
      · have hf := px_ift hf c29
        obtain ⟨rfl, rfl⟩ := px_s2 hf
        exact kx _ _ _ hM hS (lv_sub hl [0, 1, 2, 3] rfl)
      · have hf := px_iff hf c29
        refine lv_aload_n hx hb d_MO_rankAll_65 rfl (lv_at hl 0 rfl) ?_
        obtain ⟨t30, h31, hf⟩ := px_bind hf
        refine px_rgr hx hb hts cl_MO hown hK hM 37 (by decide) (hts _ w_682) h31 d_MO_rankAll_66 ?_
        refine lv_iload_n hx hb d_MO_rankAll_69 rfl (lv_at hl 3 rfl) ?_
        refine lv_aload_n hx hb d_MO_rankAll_70 rfl (lv_at hl 0 rfl) ?_
        obtain ⟨t32, h33, hf⟩ := px_bind hf
        refine px_rgr hx hb hts cl_MO hown hK hM 37 (by decide) (hts _ w_682) h33 d_MO_rankAll_71 ?_
        refine lv_iload_n hx hb d_MO_rankAll_74 rfl (lv_at hl 3 rfl) ?_
        refine lv_iconst (v := 1) hx hb d_MO_rankAll_75 (by decide) ?_
        refine lv_isub hx hb d_MO_rankAll_76 ?_
        obtain ⟨v34, h35, hf⟩ := px_bind hf
        refine px_rai hx hb hK hM 0 rfl h35 d_MO_rankAll_77 ?_
        obtain ⟨M36, h37, hf⟩ := px_bind hf
        refine px_rsi hx hb hK hM hS 0 rfl h37 d_MO_rankAll_78 (fun H locs hM hS => ?_)
        refine lv_iinc (v := x3 + (-1)) (lv' := [(3, .int (x3 + (-1))), (0, .ref o0), (1, .int x1), (2, .int x2)]) hx hb d_MO_rankAll_79 hl (k := 3) rfl (by rfl) (by decide) rfl (fun ls hl => ?_)
        refine lv_goto (tgt := 44) hx hb d_MO_rankAll_82 (by decide) ?_
        exact ih (x3 + (-1)) M36 hf _ _ _ hM hS (lv_sub hl [1, 2, 3, 0] rfl)
def f_MO_rankAll_L32 : Nat → Nat → Int32 → Int32 → px_M → Option ((Unit) × px_M)
  | 0, _, _, _, _ => none
  | n + 1, o0, x1, x2, M =>
    (px_gr 11 31 M o0).bind fun t16 =>
    (px_ai 0 M t16 x1).bind fun v18 =>
    if v18 ≤ x2 then
    some ((), M)
    else
    (f_MO_rankAll_L44 px_fuel o0 x1 x2 x2 M).bind fun (v41, M39) =>
    (px_gr 11 37 M39 o0).bind fun t42 =>
    (px_si 0 M39 t42 v41 x2).bind fun M44 =>
    f_MO_rankAll_L32 n o0 x1 (x2 + 1) M44
set_option maxHeartbeats 4000000 in
set_option maxRecDepth 100000 in
theorem lp_MO_rankAll_L32 {p : Program} {l : Launch} {e : Env} {s : State} {m : MethodId} {args : Array Value} {below : List Frame} {meth : Method} {c : Code} {bs : Nat} {D : va_G} {G : Nat → ClassId} {Q : State → Prop} (C0 : px_At p s m meth c y_MO_rankAll b_MO_rankAll 4 none args D px_cl (px_tys G) px_nw px_over) (x : Unit) (M' : px_M) (o0 : Nat) (x1 : Int32) (kx : ∀ (H : Heap) (locs : List Loc) (ls : Array Slot), px_W bs D px_cl (px_tys G) M' H → va_S (fun q => bs ≤ q) s.heap H locs → lv_has ls 4 [] → W p l e ⟨4, 0, 0, 97⟩ s m args below meth c H locs 0 0 Q (F0 m 98 ls []))  : ∀ (n : Nat) (x2 : Int32) (M : px_M), f_MO_rankAll_L32 n o0 x1 x2 M = some (x, M') → ∀ (H : Heap) (locs : List Loc) (ls : Array Slot), px_W bs D px_cl (px_tys G) M H → va_S (fun q => bs ≤ q) s.heap H locs → lv_has ls 4 [(0, .ref o0), (1, .int x1), (2, .int x2)] → W p l e ⟨4, 0, 0, 97⟩ s m args below meth c H locs 0 0 Q (F0 m 32 ls []) := by
  obtain ⟨hx, hb, hr, hml, hown, hnm, hlocks, hts, hK, hN, hO⟩ := C0
  intro n
  induction n with
  | zero => intro x2 M hf; cases hf
  | succ n ih =>
    intro x2 M hf H locs ls hM hS hl
    unfold f_MO_rankAll_L32 at hf
    refine lv_iload_n hx hb d_MO_rankAll_32 rfl (lv_at hl 2 rfl) ?_
    refine lv_aload_n hx hb d_MO_rankAll_33 rfl (lv_at hl 0 rfl) ?_
    obtain ⟨t16, h17, hf⟩ := px_bind hf
    refine px_rgr hx hb hts cl_MO hown hK hM 31 (by decide) (hts _ w_676) h17 d_MO_rankAll_34 ?_
    refine lv_iload_n hx hb d_MO_rankAll_37 rfl (lv_at hl 1 rfl) ?_
    obtain ⟨v18, h19, hf⟩ := px_bind hf
    refine px_rai hx hb hK hM 0 rfl h19 d_MO_rankAll_38 ?_
    refine lv_icmp_ge (tgt := 98) hx hb d_MO_rankAll_39 (by decide) (fun c20 => ?_) (fun c20 => ?_)
    · have hf := px_ift hf c20
      obtain ⟨rfl, rfl⟩ := px_s2 hf
      exact kx _ _ _ hM hS (lv_sub hl [] rfl)
    · have hf := px_iff hf c20
      refine lv_iload_n hx hb d_MO_rankAll_42 rfl (lv_at hl 2 rfl) ?_
      refine lv_istore_n (lv' := [(3, .int x2), (0, .ref o0), (1, .int x1), (2, .int x2)]) hx hb d_MO_rankAll_43 rfl hl (by decide) rfl (fun ls hl => ?_)
      obtain ⟨⟨v41, M39⟩, h40, hf⟩ := px_bind hf
      dsimp only at hf
      refine lp_MO_rankAll_L44 ⟨hx, hb, hr, hml, hown, hnm, hlocks, hts, hK, hN, hO⟩ _ M39 o0 x1 x2 (fun H locs ls hM hS hl => ?_) px_fuel x2 M h40 _ _ _ hM hS (lv_sub hl [1, 2, 3, 0] rfl)
      try dsimp only at hl
      refine lv_aload_n hx hb d_MO_rankAll_85 rfl (lv_at hl 0 rfl) ?_
      obtain ⟨t42, h43, hf⟩ := px_bind hf
      refine px_rgr hx hb hts cl_MO hown hK hM 37 (by decide) (hts _ w_682) h43 d_MO_rankAll_86 ?_
      refine lv_iload_n hx hb d_MO_rankAll_89 rfl (lv_at hl 3 rfl) ?_
      refine lv_iload_n hx hb d_MO_rankAll_90 rfl (lv_at hl 2 rfl) ?_
      obtain ⟨M44, h45, hf⟩ := px_bind hf
      refine px_rsi hx hb hK hM hS 0 rfl h45 d_MO_rankAll_91 (fun H locs hM hS => ?_)
      refine lv_iinc (v := x2 + 1) (lv' := [(2, .int (x2 + 1)), (0, .ref o0), (1, .int x1), (3, .int v41)]) hx hb d_MO_rankAll_92 hl (k := 2) rfl (by rfl) (by decide) rfl (fun ls hl => ?_)
      refine lv_goto (tgt := 32) hx hb d_MO_rankAll_95 (by decide) ?_
      exact ih (x2 + 1) M44 hf _ _ _ hM hS (lv_sub hl [1, 2, 0] rfl)
def f_MO_rankAll (o0 : Nat) (x1 : Int32) (M : px_M) : Option (px_M) :=
  (f_MO_rankAll_L2 px_fuel o0 x1 0 M).bind fun (_, M14) =>
  (f_MO_rankAll_L32 px_fuel o0 x1 0 M14).bind fun (_, M46) =>
  some M46
set_option maxHeartbeats 4000000 in
set_option maxRecDepth 100000 in
theorem c_MO_rankAll (l : Launch) (bs : Nat) (D : va_G) (G : Nat → ClassId) (o0 : Nat) (x1 : Int32) (M : px_M) {M' : px_M} (hf : f_MO_rankAll o0 x1 M = some M') : Met l y_MO_rankAll (.code y_MO_rankAll b_MO_rankAll 4 none :: px_tw) ⟨4, 0, 0, 97⟩ (va_Pc [.ref o0, .int x1] (px_B bs D px_cl (px_tys G) px_nw px_over M)) (px_Qv bs D px_cl (px_tys G) M') 0 0 (fun q => bs ≤ q) := by
  refine px_of (by decide) (Nat.le_of_ble_eq_true rfl) ?_
  intro p e s m below meth c ls C0 hM hS hl
  obtain ⟨hx, hb, hr, hml, hown, hnm, hlocks, hts, hK, hN, hO⟩ := C0
  have hl : lv_has ls 4 [(0, .ref o0), (1, .int x1)] := hl
  unfold f_MO_rankAll at hf
  refine lv_iconst (v := 0) hx hb d_MO_rankAll_0 (by decide) ?_
  refine lv_istore_n (lv' := [(2, .int 0), (0, .ref o0), (1, .int x1)]) hx hb d_MO_rankAll_1 rfl hl (by decide) rfl (fun ls hl => ?_)
  obtain ⟨⟨_, M14⟩, h15, hf⟩ := px_bind hf
  dsimp only at hf
  refine lp_MO_rankAll_L2 ⟨hx, hb, hr, hml, hown, hnm, hlocks, hts, hK, hN, hO⟩ _ M14 o0 x1 (fun H locs ls hM hS hl => ?_) px_fuel 0 M h15 _ _ _ hM hS (lv_sub hl [1, 2, 0] rfl)
  try dsimp only at hl
  refine lv_iconst (v := 0) hx hb d_MO_rankAll_30 (by decide) ?_
  refine lv_istore_n (lv' := [(2, .int 0), (0, .ref o0), (1, .int x1)]) hx hb d_MO_rankAll_31 rfl hl (by decide) rfl (fun ls hl => ?_)
  obtain ⟨⟨_, M46⟩, h47, hf⟩ := px_bind hf
  dsimp only at hf
  refine lp_MO_rankAll_L32 ⟨hx, hb, hr, hml, hown, hnm, hlocks, hts, hK, hN, hO⟩ _ M46 o0 x1 (fun H locs ls hM hS hl => ?_) px_fuel 0 M14 h47 _ _ _ hM hS (lv_sub hl [1, 2, 0] rfl)
  try dsimp only at hl
  obtain rfl := px_s1 hf
  exact px_vret hx hb hr hlocks hM hS d_MO_rankAll_98
def f_MO_isLine (o0 : Nat) (x1 : Int32) (x2 : Int32) (M : px_M) : Option (Int32 × px_M) :=
  (px_ob 11 M o0).bind fun _ =>
  (f_MO_isBoard o0 x1 M).bind fun (v3, M1) =>
  if v3 = 0 then
  some (0, M1)
  else
  if x2 < 0 then
  some (0, M1)
  else
  (px_gr 11 31 M1 o0).bind fun t6 =>
  (px_ai 0 M1 t6 x1).bind fun v8 =>
  if v8 ≤ x2 then
  some (0, M1)
  else
  some (1, M1)
set_option maxHeartbeats 4000000 in
set_option maxRecDepth 100000 in
theorem c_MO_isLine (l : Launch) (bs : Nat) (D : va_G) (G : Nat → ClassId) (o0 : Nat) (x1 : Int32) (x2 : Int32) (M : px_M) {r : Int32} {M' : px_M} (hf : f_MO_isLine o0 x1 x2 M = some (r, M')) : Met l y_MO_isLine (.code y_MO_isLine b_MO_isLine 3 (some .boolean) :: px_tw) ⟨1, 0, 0, 21⟩ (va_Pc [.ref o0, .int x1, .int x2] (px_B bs D px_cl (px_tys G) px_nw px_over M)) (px_Qi bs D px_cl (px_tys G) r M') 0 0 (fun q => bs ≤ q) := by
  refine px_of (by decide) (Nat.le_of_ble_eq_true rfl) ?_
  intro p e s m below meth c ls C0 hM hS hl
  obtain ⟨hx, hb, hr, hml, hown, hnm, hlocks, hts, hK, hN, hO⟩ := C0
  have hl : lv_has ls 3 [(0, .ref o0), (1, .int x1), (2, .int x2)] := hl
  unfold f_MO_isLine at hf
  refine lv_aload_n hx hb d_MO_isLine_0 rfl (lv_at hl 0 rfl) ?_
  refine lv_iload_n hx hb d_MO_isLine_1 rfl (lv_at hl 1 rfl) ?_
  obtain ⟨_, h11, hf⟩ := px_bind hf
  obtain ⟨⟨v3, M1⟩, h2, hf⟩ := px_bind hf
  dsimp only at hf
  refine px_calli (va_runV (As := [.int x1]) (rest := []) ⟨hx, hb, hml, hown, hts⟩ (c_MO_isBoard l bs D G o0 x1 M h2) (cwV 1 hts (px_gV w_859 w_861 ws_MO_isBoard w_12 w_862) rfl rfl rfl (by decide +kernel) ⟨Nat.le_of_ble_eq_true rfl, Nat.le_of_ble_eq_true rfl⟩) (px_preV px_nwok hK hN hO hM h11 rfl) rfl rfl hl.1 rfl (lv_room (Nat.le_of_ble_eq_true rfl)) d_MO_isLine_2 ⟨Nat.le_of_ble_eq_true rfl, Nat.le_of_ble_eq_true rfl⟩) hS (fun H locs hM hS => ?_)
  refine lv_if_eq (tgt := 26) hx hb d_MO_isLine_5 (by decide) (fun c4 => ?_) (fun c4 => ?_)
  · have hf := px_ift hf c4
    refine lv_iconst (v := 0) hx hb d_MO_isLine_26 (by decide) ?_
    obtain ⟨rfl, rfl⟩ := px_s2 hf
    exact px_zret hx hb hr rfl hlocks hM hS d_MO_isLine_27
  · have hf := px_iff hf c4
    refine lv_iload_n hx hb d_MO_isLine_8 rfl (lv_at hl 2 rfl) ?_
    refine lv_if_lt (tgt := 26) hx hb d_MO_isLine_9 (by decide) (fun c5 => ?_) (fun c5 => ?_)
    · have hf := px_ift hf c5
      refine lv_iconst (v := 0) hx hb d_MO_isLine_26 (by decide) ?_
      obtain ⟨rfl, rfl⟩ := px_s2 hf
      exact px_zret hx hb hr rfl hlocks hM hS d_MO_isLine_27
    · have hf := px_iff hf c5
      refine lv_iload_n hx hb d_MO_isLine_12 rfl (lv_at hl 2 rfl) ?_
      refine lv_aload_n hx hb d_MO_isLine_13 rfl (lv_at hl 0 rfl) ?_
      obtain ⟨t6, h7, hf⟩ := px_bind hf
      refine px_rgr hx hb hts cl_MO hown hK hM 31 (by decide) (hts _ w_676) h7 d_MO_isLine_14 ?_
      refine lv_iload_n hx hb d_MO_isLine_17 rfl (lv_at hl 1 rfl) ?_
      obtain ⟨v8, h9, hf⟩ := px_bind hf
      refine px_rai hx hb hK hM 0 rfl h9 d_MO_isLine_18 ?_
      refine lv_icmp_ge (tgt := 26) hx hb d_MO_isLine_19 (by decide) (fun c10 => ?_) (fun c10 => ?_)
      · have hf := px_ift hf c10
        refine lv_iconst (v := 0) hx hb d_MO_isLine_26 (by decide) ?_
        obtain ⟨rfl, rfl⟩ := px_s2 hf
        exact px_zret hx hb hr rfl hlocks hM hS d_MO_isLine_27
      · have hf := px_iff hf c10
        refine lv_iconst (v := 1) hx hb d_MO_isLine_22 (by decide) ?_
        refine lv_goto (tgt := 27) hx hb d_MO_isLine_23 (by decide) ?_
        obtain ⟨rfl, rfl⟩ := px_s2 hf
        exact px_zret hx hb hr rfl hlocks hM hS d_MO_isLine_27
