def f_SH_itemOf (o0 : Nat) (x1 : Int32) (x2 : Int32) (x3 : Int32) (x4 : Int32) (M : px_M) : Option (Int32 × px_M) :=
  if x4 = 0 then
  if x3 = 0 then
  (px_gr 7 3 M o0).bind fun t11 =>
  (px_gr 10 1 M t11).bind fun t13 =>
  (px_ai 0 M t13 x1).bind fun v15 =>
  some (200 + v15, M)
  else
  (px_ob 7 M o0).bind fun _ =>
  (f_SH_nameOf o0 x1 M).bind fun (t5, M3) =>
  (px_gr 9 0 M3 t5).bind fun t6 =>
  (px_ai 0 M3 t6 (x3 - 1)).bind fun v8 =>
  some (v8, M3)
  else if x4 = 1 then
  if x3 = 0 then
  (px_ob 7 M o0).bind fun _ =>
  (f_SH_arrowLeft o0 x1 M).bind fun (v25, M23) =>
  some (v25, M23)
  else
  (px_ob 7 M o0).bind fun _ =>
  (f_SH_letterLeft o0 x1 (x3 - 1) M).bind fun (v21, M19) =>
  some (v21, M19)
  else if x4 = 2 then
  (px_gi 7 6 M o0).bind fun v28 =>
  (px_gi 7 5 M o0).bind fun v30 =>
  (px_gi 7 7 M o0).bind fun v32 =>
  some (v28 + (x2 * (v30 + v32)), M)
  else 
  some ((-1), M)
set_option maxHeartbeats 4000000 in
set_option maxRecDepth 100000 in
theorem c_SH_itemOf (l : Launch) (bs : Nat) (D : va_G) (G : Nat → ClassId) (o0 : Nat) (x1 : Int32) (x2 : Int32) (x3 : Int32) (x4 : Int32) (M : px_M) {r : Int32} {M' : px_M} (hf : f_SH_itemOf o0 x1 x2 x3 x4 M = some (r, M')) : Met l y_SH_itemOf (.code y_SH_itemOf b_SH_itemOf 5 (some .int) :: px_tw) ⟨4, 0, 0, 93⟩ (va_Pc [.ref o0, .int x1, .int x2, .int x3, .int x4] (px_B bs D px_cl (px_tys G) px_nw px_over M)) (px_Qi bs D px_cl (px_tys G) r M') 0 0 (fun q => bs ≤ q) := by
  refine px_of (by decide) (Nat.le_of_ble_eq_true rfl) ?_
  intro p e s m below meth c ls C0 hM hS hl
  obtain ⟨hx, hb, hr, hml, hown, hnm, hlocks, hts, hK, hN, hO⟩ := C0
  have hl : lv_has ls 5 [(0, .ref o0), (1, .int x1), (2, .int x2), (3, .int x3), (4, .int x4)] := hl
  unfold f_SH_itemOf at hf
  refine lv_iload hx hb d_SH_itemOf_0 (lv_at hl 4 rfl) ?_
  by_cases c1 : x4 = 0
  · have hf := px_ift hf c1
    refine lv_tableIn (tgt := 28) hx hb d_SH_itemOf_2 (by rw [c1] <;> decide) (by rw [c1] <;> decide) (by rw [c1] <;> rfl) (by decide) ?_
    refine lv_iload_n hx hb d_SH_itemOf_28 rfl (lv_at hl 3 rfl) ?_
    refine lv_if_ne (tgt := 48) hx hb d_SH_itemOf_29 (by decide) (fun c2 => ?_) (fun c2 => ?_)
    · have hf := px_iff hf c2
      refine lv_aload_n hx hb d_SH_itemOf_48 rfl (lv_at hl 0 rfl) ?_
      refine lv_iload_n hx hb d_SH_itemOf_49 rfl (lv_at hl 1 rfl) ?_
      obtain ⟨_, h10, hf⟩ := px_bind hf
      obtain ⟨⟨t5, M3⟩, h4, hf⟩ := px_bind hf
      dsimp only at hf
      refine px_callr (va_runV (As := [.int x1]) (rest := []) ⟨hx, hb, hml, hown, hts⟩ (c_SH_nameOf l bs D G o0 x1 M h4) (cwV 1 hts (px_gV w_559 w_561 ws_SH_nameOf w_8 w_562) rfl rfl rfl (by decide +kernel) ⟨Nat.le_of_ble_eq_true rfl, Nat.le_of_ble_eq_true rfl⟩) (px_preV px_nwok hK hN hO hM h10 rfl) rfl rfl hl.1 rfl (lv_room (Nat.le_of_ble_eq_true rfl)) d_SH_itemOf_50 ⟨Nat.le_of_ble_eq_true rfl, Nat.le_of_ble_eq_true rfl⟩) hS (fun H locs hM hS => ?_)
      obtain ⟨t6, h7, hf⟩ := px_bind hf
      refine px_rgrN hx hb hts cl_NA hown hK hM 0 (by decide) (hN _ n_246) h7 d_SH_itemOf_53 ?_
      refine lv_iload_n hx hb d_SH_itemOf_56 rfl (lv_at hl 3 rfl) ?_
      refine lv_iconst (v := 1) hx hb d_SH_itemOf_57 (by decide) ?_
      refine lv_isub hx hb d_SH_itemOf_58 ?_
      obtain ⟨v8, h9, hf⟩ := px_bind hf
      refine px_rai hx hb hK hM 0 rfl h9 d_SH_itemOf_59 ?_
      obtain ⟨rfl, rfl⟩ := px_s2 hf
      exact px_iret hx hb hr hlocks hM hS d_SH_itemOf_60
    · have hf := px_ift hf c2
      refine lv_sipush (v := 200) hx hb d_SH_itemOf_32 (by decide) ?_
      refine lv_aload_n hx hb d_SH_itemOf_35 rfl (lv_at hl 0 rfl) ?_
      obtain ⟨t11, h12, hf⟩ := px_bind hf
      refine px_rgr hx hb hts cl_SH hown hK hM 3 (by decide) (hts _ w_188) h12 d_SH_itemOf_36 ?_
      obtain ⟨t13, h14, hf⟩ := px_bind hf
      refine px_rgrN hx hb hts cl_BO hown hK hM 1 (by decide) (hN _ n_272) h14 d_SH_itemOf_39 ?_
      refine lv_iload_n hx hb d_SH_itemOf_42 rfl (lv_at hl 1 rfl) ?_
      obtain ⟨v15, h16, hf⟩ := px_bind hf
      refine px_rai hx hb hK hM 0 rfl h16 d_SH_itemOf_43 ?_
      refine lv_iadd hx hb d_SH_itemOf_44 ?_
      refine lv_goto (tgt := 60) hx hb d_SH_itemOf_45 (by decide) ?_
      obtain ⟨rfl, rfl⟩ := px_s2 hf
      exact px_iret hx hb hr hlocks hM hS d_SH_itemOf_60
  · have hf := px_iff hf c1
    by_cases c17 : x4 = 1
    · have hf := px_ift hf c17
      refine lv_tableIn (tgt := 61) hx hb d_SH_itemOf_2 (by rw [c17] <;> decide) (by rw [c17] <;> decide) (by rw [c17] <;> rfl) (by decide) ?_
      refine lv_iload_n hx hb d_SH_itemOf_61 rfl (lv_at hl 3 rfl) ?_
      refine lv_if_ne (tgt := 73) hx hb d_SH_itemOf_62 (by decide) (fun c18 => ?_) (fun c18 => ?_)
      · have hf := px_iff hf c18
        refine lv_aload_n hx hb d_SH_itemOf_73 rfl (lv_at hl 0 rfl) ?_
        refine lv_iload_n hx hb d_SH_itemOf_74 rfl (lv_at hl 1 rfl) ?_
        refine lv_iload_n hx hb d_SH_itemOf_75 rfl (lv_at hl 3 rfl) ?_
        refine lv_iconst (v := 1) hx hb d_SH_itemOf_76 (by decide) ?_
        refine lv_isub hx hb d_SH_itemOf_77 ?_
        obtain ⟨_, h22, hf⟩ := px_bind hf
        obtain ⟨⟨v21, M19⟩, h20, hf⟩ := px_bind hf
        dsimp only at hf
        refine px_calli (va_runV (As := [.int x1, .int (x3 - 1)]) (rest := []) ⟨hx, hb, hml, hown, hts⟩ (c_SH_letterLeft l bs D G o0 x1 (x3 - 1) M h20) (cwV 2 hts (px_gV w_591 w_593 ws_SH_letterLeft w_8 w_594) rfl rfl rfl (by decide +kernel) ⟨Nat.le_of_ble_eq_true rfl, Nat.le_of_ble_eq_true rfl⟩) (px_preV px_nwok hK hN hO hM h22 rfl) rfl rfl hl.1 rfl (lv_room (Nat.le_of_ble_eq_true rfl)) d_SH_itemOf_78 ⟨Nat.le_of_ble_eq_true rfl, Nat.le_of_ble_eq_true rfl⟩) hS (fun H locs hM hS => ?_)
        obtain ⟨rfl, rfl⟩ := px_s2 hf
        exact px_iret hx hb hr hlocks hM hS d_SH_itemOf_81
      · have hf := px_ift hf c18
        refine lv_aload_n hx hb d_SH_itemOf_65 rfl (lv_at hl 0 rfl) ?_
        refine lv_iload_n hx hb d_SH_itemOf_66 rfl (lv_at hl 1 rfl) ?_
        obtain ⟨_, h26, hf⟩ := px_bind hf
        obtain ⟨⟨v25, M23⟩, h24, hf⟩ := px_bind hf
        dsimp only at hf
        refine px_calli (va_runV (As := [.int x1]) (rest := []) ⟨hx, hb, hml, hown, hts⟩ (c_SH_arrowLeft l bs D G o0 x1 M h24) (cwV 1 hts (px_gV w_583 w_585 ws_SH_arrowLeft w_8 w_586) rfl rfl rfl (by decide +kernel) ⟨Nat.le_of_ble_eq_true rfl, Nat.le_of_ble_eq_true rfl⟩) (px_preV px_nwok hK hN hO hM h26 rfl) rfl rfl hl.1 rfl (lv_room (Nat.le_of_ble_eq_true rfl)) d_SH_itemOf_67 ⟨Nat.le_of_ble_eq_true rfl, Nat.le_of_ble_eq_true rfl⟩) hS (fun H locs hM hS => ?_)
        refine lv_goto (tgt := 81) hx hb d_SH_itemOf_70 (by decide) ?_
        obtain ⟨rfl, rfl⟩ := px_s2 hf
        exact px_iret hx hb hr hlocks hM hS d_SH_itemOf_81
    · have hf := px_iff hf c17
      by_cases c27 : x4 = 2
      · have hf := px_ift hf c27
        refine lv_tableIn (tgt := 82) hx hb d_SH_itemOf_2 (by rw [c27] <;> decide) (by rw [c27] <;> decide) (by rw [c27] <;> rfl) (by decide) ?_
        refine lv_aload_n hx hb d_SH_itemOf_82 rfl (lv_at hl 0 rfl) ?_
        obtain ⟨v28, h29, hf⟩ := px_bind hf
        refine px_rgi hx hb hts cl_SH hown hK hM 6 (by decide) (hts _ w_191) h29 d_SH_itemOf_83 ?_
        refine lv_iload_n hx hb d_SH_itemOf_86 rfl (lv_at hl 2 rfl) ?_
        refine lv_aload_n hx hb d_SH_itemOf_87 rfl (lv_at hl 0 rfl) ?_
        obtain ⟨v30, h31, hf⟩ := px_bind hf
        refine px_rgi hx hb hts cl_SH hown hK hM 5 (by decide) (hts _ w_190) h31 d_SH_itemOf_88 ?_
        refine lv_aload_n hx hb d_SH_itemOf_91 rfl (lv_at hl 0 rfl) ?_
        obtain ⟨v32, h33, hf⟩ := px_bind hf
        refine px_rgi hx hb hts cl_SH hown hK hM 7 (by decide) (hts _ w_192) h33 d_SH_itemOf_92 ?_
        refine lv_iadd hx hb d_SH_itemOf_95 ?_
        refine lv_imul hx hb d_SH_itemOf_96 ?_
        refine lv_iadd hx hb d_SH_itemOf_97 ?_
        obtain ⟨rfl, rfl⟩ := px_s2 hf
        exact px_iret hx hb hr hlocks hM hS d_SH_itemOf_98
      · have hf := px_iff hf c27
        refine lv_tableOut (tgt := 99) hx hb d_SH_itemOf_2 (px_out3 c1 c17 c27) (by decide) ?_
        refine lv_iconst (v := (-1)) hx hb d_SH_itemOf_99 (by decide) ?_
        obtain ⟨rfl, rfl⟩ := px_s2 hf
        exact px_iret hx hb hr hlocks hM hS d_SH_itemOf_100
def f_SB_drawn_L65 : Nat → Nat → Int32 → Nat → Int32 → Int32 → px_M → Option (((Unit) ⊕ Int32) × px_M)
  | 0, _, _, _, _, _, _ => none
  | n + 1, o0, x4, o5, x6, x7, M =>
    (px_gi 10 2 M o5).bind fun v54 =>
    if v54 ≤ x7 then
    some (.inl (), M)
    else
    (px_gr 0 10 M o0).bind fun t57 =>
    (px_ob 6 M t57).bind fun _ =>
    (f_LO_lineAt t57 x7 M).bind fun (v61, M59) =>
    (px_gr 0 5 M59 o0).bind fun t62 =>
    (px_gr 10 0 M59 o5).bind fun t64 =>
    (px_ai 0 M59 t64 v61).bind fun v66 =>
    (px_ar 1 M59 t62 v66).bind fun t68 =>
    (px_gi 9 1 M59 t68).bind fun v70 =>
    if (1 + v70) ≤ x6 then
    f_SB_drawn_L65 n o0 x4 o5 (x6 - (1 + v70)) (x7 + 1) M59
    else
    (px_gr 0 11 M59 o0).bind fun t73 =>
    (px_ob 7 M59 t73).bind fun _ =>
    (f_SH_itemOf t73 v61 x7 x6 x4 M59).bind fun (v77, M75) =>
    some (.inr v77, M75)
set_option maxHeartbeats 4000000 in
set_option maxRecDepth 100000 in
theorem lp_SB_drawn_L65 {p : Program} {l : Launch} {e : Env} {s : State} {m : MethodId} {args : Array Value} {below : List Frame} {meth : Method} {c : Code} {bs : Nat} {D : va_G} {G : Nat → ClassId} {Q : State → Prop} (C0 : px_At p s m meth c y_SB_drawn b_SB_drawn 10 (some .int) args D px_cl (px_tys G) px_nw px_over) (x : (Unit) ⊕ Int32) (M' : px_M) (o0 : Nat) (x4 : Int32) (o5 : Nat) (kx : ∀ u, x = .inl u → ∀ (H : Heap) (locs : List Loc) (ls : Array Slot), px_W bs D px_cl (px_tys G) M' H → va_S (fun q => bs ≤ q) s.heap H locs → lv_has ls 10 [] → W p l e ⟨5, 0, 0, 117⟩ s m args below meth c H locs 0 0 Q (F0 m 142 ls [])) (kr : ∀ r, x = .inr r → narrow .int (.int r) = .int r → ∀ (H : Heap) (locs : List Loc) (ls : Array Slot) (pc : Nat), decode b_SB_drawn pc = .ok (.ireturn, 1) → px_W bs D px_cl (px_tys G) M' H → va_S (fun q => bs ≤ q) s.heap H locs → W p l e ⟨5, 0, 0, 117⟩ s m args below meth c H locs 0 0 Q (F0 m pc ls [.int r])) : ∀ (n : Nat) (x6 : Int32) (x7 : Int32) (M : px_M), f_SB_drawn_L65 n o0 x4 o5 x6 x7 M = some (x, M') → ∀ (H : Heap) (locs : List Loc) (ls : Array Slot), px_W bs D px_cl (px_tys G) M H → va_S (fun q => bs ≤ q) s.heap H locs → lv_has ls 10 [(0, .ref o0), (4, .int x4), (5, .ref o5), (6, .int x6), (7, .int x7)] → W p l e ⟨5, 0, 0, 117⟩ s m args below meth c H locs 0 0 Q (F0 m 65 ls []) := by
  obtain ⟨hx, hb, hr, hml, hown, hnm, hlocks, hts, hK, hN, hO⟩ := C0
  intro n
  induction n with
  | zero => intro x6 x7 M hf; cases hf
  | succ n ih =>
    intro x6 x7 M hf H locs ls hM hS hl
    unfold f_SB_drawn_L65 at hf
    refine lv_iload hx hb d_SB_drawn_65 (lv_at hl 4 rfl) ?_
    refine lv_aload hx hb d_SB_drawn_67 (lv_at hl 2 rfl) ?_
    obtain ⟨v54, h55, hf⟩ := px_bind hf
    refine px_rgiN hx hb hts cl_BO hown hK hM 2 (by decide) (hN _ n_276) h55 d_SB_drawn_69 ?_
    refine lv_icmp_ge (tgt := 142) hx hb d_SB_drawn_72 (by decide) (fun c56 => ?_) (fun c56 => ?_)
    · have hf := px_ift hf c56
      obtain ⟨rfl, rfl⟩ := px_s2 hf
      exact kx _ rfl _ _ _ hM hS (lv_sub hl [] rfl)
    · have hf := px_iff hf c56
      refine lv_aload_n hx hb d_SB_drawn_75 rfl (lv_at hl 0 rfl) ?_
      obtain ⟨t57, h58, hf⟩ := px_bind hf
      refine px_rgr hx hb hts cl_SB hown hK hM 10 (by decide) (hts _ w_302) h58 d_SB_drawn_76 ?_
      refine lv_iload hx hb d_SB_drawn_79 (lv_at hl 4 rfl) ?_
      obtain ⟨_, h79, hf⟩ := px_bind hf
      obtain ⟨⟨v61, M59⟩, h60, hf⟩ := px_bind hf
      dsimp only at hf
      refine px_calli (va_runV (As := [.int x7]) (rest := []) ⟨hx, hb, hml, hown, hts⟩ (c_LO_lineAt l bs D G t57 x7 M h60) (cwV 1 hts (px_gV w_538 w_539 w_540 w_7 w_541) rfl rfl rfl (by decide +kernel) ⟨Nat.le_of_ble_eq_true rfl, Nat.le_of_ble_eq_true rfl⟩) (px_preV px_nwok hK hN hO hM h79 rfl) rfl rfl hl.1 rfl (lv_room (Nat.le_of_ble_eq_true rfl)) d_SB_drawn_81 ⟨Nat.le_of_ble_eq_true rfl, Nat.le_of_ble_eq_true rfl⟩) hS (fun H locs hM hS => ?_)
      refine lv_istore (lv' := [(8, .int v61), (0, .ref o0), (4, .int x4), (5, .ref o5), (6, .int x6), (7, .int x7)]) hx hb d_SB_drawn_84 hl (by decide) rfl (fun ls hl => ?_)
      refine lv_iconst (v := 1) hx hb d_SB_drawn_86 (by decide) ?_
      refine lv_aload_n hx hb d_SB_drawn_87 rfl (lv_at hl 1 rfl) ?_
      obtain ⟨t62, h63, hf⟩ := px_bind hf
      refine px_rgr hx hb hts cl_SB hown hK hM 5 (by decide) (hts _ w_297) h63 d_SB_drawn_88 ?_
      refine lv_aload hx hb d_SB_drawn_91 (lv_at hl 3 rfl) ?_
      obtain ⟨t64, h65, hf⟩ := px_bind hf
      refine px_rgrN hx hb hts cl_BO hown hK hM 0 (by decide) (hN _ n_270) h65 d_SB_drawn_93 ?_
      refine lv_iload hx hb d_SB_drawn_96 (lv_at hl 0 rfl) ?_
      obtain ⟨v66, h67, hf⟩ := px_bind hf
      refine px_rai hx hb hK hM 0 rfl h67 d_SB_drawn_98 ?_
      obtain ⟨t68, h69, hf⟩ := px_bind hf
      refine px_rar hx hb hK hM 1 rfl h69 d_SB_drawn_99 ?_
      obtain ⟨v70, h71, hf⟩ := px_bind hf
      refine px_rgiN hx hb hts cl_NA hown hK hM 1 (by decide) (hN _ n_250) h71 d_SB_drawn_100 ?_
      refine lv_iadd hx hb d_SB_drawn_103 ?_
      refine lv_istore (lv' := [(9, .int (1 + v70)), (8, .int v61), (0, .ref o0), (4, .int x4), (5, .ref o5), (6, .int x6), (7, .int x7)]) hx hb d_SB_drawn_104 hl (by decide) rfl (fun ls hl => ?_)
      refine lv_iload hx hb d_SB_drawn_106 (lv_at hl 5 rfl) ?_
      refine lv_iload hx hb d_SB_drawn_108 (lv_at hl 0 rfl) ?_
      refine lv_icmp_ge (tgt := 129) hx hb d_SB_drawn_110 (by decide) (fun c72 => ?_) (fun c72 => ?_)
      · have hf := px_ift hf c72
        refine lv_iload hx hb d_SB_drawn_129 (lv_at hl 5 rfl) ?_
        refine lv_iload hx hb d_SB_drawn_131 (lv_at hl 0 rfl) ?_
        refine lv_isub hx hb d_SB_drawn_133 ?_
        refine lv_istore (lv' := [(6, .int (x6 - (1 + v70))), (9, .int (1 + v70)), (8, .int v61), (0, .ref o0), (4, .int x4), (5, .ref o5), (7, .int x7)]) hx hb d_SB_drawn_134 hl (by decide) rfl (fun ls hl => ?_)
        refine lv_iinc (v := x7 + 1) (lv' := [(7, .int (x7 + 1)), (6, .int (x6 - (1 + v70))), (9, .int (1 + v70)), (8, .int v61), (0, .ref o0), (4, .int x4), (5, .ref o5)]) hx hb d_SB_drawn_136 hl (k := 6) rfl (by rfl) (by decide) rfl (fun ls hl => ?_)
        refine lv_goto (tgt := 65) hx hb d_SB_drawn_139 (by decide) ?_
        exact ih (x6 - (1 + v70)) (x7 + 1) M59 hf _ _ _ hM hS (lv_sub hl [4, 5, 6, 1, 0] rfl)
      · have hf := px_iff hf c72
        refine lv_aload_n hx hb d_SB_drawn_113 rfl (lv_at hl 2 rfl) ?_
        obtain ⟨t73, h74, hf⟩ := px_bind hf
        refine px_rgr hx hb hts cl_SB hown hK hM 11 (by decide) (hts _ w_303) h74 d_SB_drawn_114 ?_
        refine lv_iload hx hb d_SB_drawn_117 (lv_at hl 1 rfl) ?_
        refine lv_iload hx hb d_SB_drawn_119 (lv_at hl 6 rfl) ?_
        refine lv_iload hx hb d_SB_drawn_121 (lv_at hl 5 rfl) ?_
        refine lv_iload hx hb d_SB_drawn_123 (lv_at hl 3 rfl) ?_
        obtain ⟨_, h78, hf⟩ := px_bind hf
        obtain ⟨⟨v77, M75⟩, h76, hf⟩ := px_bind hf
        dsimp only at hf
        refine px_calli (va_runV (As := [.int v61, .int x7, .int x6, .int x4]) (rest := []) ⟨hx, hb, hml, hown, hts⟩ (c_SH_itemOf l bs D G t73 v61 x7 x6 x4 M59 h76) (cwV 4 hts (px_gV w_579 w_580 w_581 w_8 w_582) rfl rfl rfl (by decide +kernel) ⟨Nat.le_of_ble_eq_true rfl, Nat.le_of_ble_eq_true rfl⟩) (px_preV px_nwok hK hN hO hM h78 rfl) rfl rfl hl.1 rfl (lv_room (Nat.le_of_ble_eq_true rfl)) d_SB_drawn_125 ⟨Nat.le_of_ble_eq_true rfl, Nat.le_of_ble_eq_true rfl⟩) hS (fun H locs hM hS => ?_)
        obtain ⟨rfl, rfl⟩ := px_s2 hf
        exact kr _ rfl rfl _ _ _ _ d_SB_drawn_128 hM hS
def f_SB_drawn (o0 : Nat) (x1 : Int32) (x2 : Int32) (x3 : Int32) (x4 : Int32) (M : px_M) : Option (Int32 × px_M) :=
  (px_ob 0 M o0).bind fun _ =>
  (f_SB_isBoard o0 x1 M).bind fun (v3, M1) =>
  if v3 = 0 then
  some ((-1), M1)
  else
  (f_SB_isSpeed x2 M1).bind fun (v7, M5) =>
  if v7 = 0 then
  some ((-1), M5)
  else
  if 0 ≤ x3 then
  (px_gr 0 8 M5 o0).bind fun t10 =>
  (px_ar 2 M5 t10 x1).bind fun t12 =>
  (px_gr 0 10 M5 o0).bind fun t14 =>
  (px_gr 0 2 M5 o0).bind fun t16 =>
  (px_gi 3 5 M5 t16).bind fun v18 =>
  (px_ob 6 M5 t14).bind fun _ =>
  (f_LO_arrange t14 t12 v18 M5).bind fun M20 =>
  (px_gr 0 11 M20 o0).bind fun t22 =>
  (px_gr 0 2 M20 o0).bind fun t24 =>
  (px_ob 7 M20 t22).bind fun _ =>
  (f_SH_lay t22 t12 t24 x2 M20).bind fun M26 =>
  (f_SB_drawn_L65 px_fuel o0 x4 t12 x3 0 M26).bind fun yh81 => (match yh81 with
  | (.inl _, M80) =>
  some ((-1), M80)
  | (.inr r82, M80) => some (r82, M80))
  else
  some ((-1), M5)
set_option maxHeartbeats 4000000 in
set_option maxRecDepth 100000 in
theorem c_SB_drawn (l : Launch) (bs : Nat) (D : va_G) (G : Nat → ClassId) (o0 : Nat) (x1 : Int32) (x2 : Int32) (x3 : Int32) (x4 : Int32) (M : px_M) {r : Int32} {M' : px_M} (hf : f_SB_drawn o0 x1 x2 x3 x4 M = some (r, M')) : Met l y_SB_drawn (.code y_SB_drawn b_SB_drawn 10 (some .int) :: px_tw) ⟨5, 0, 0, 117⟩ (va_Pc [.ref o0, .int x1, .int x2, .int x3, .int x4] (px_B bs D px_cl (px_tys G) px_nw px_over M)) (px_Qi bs D px_cl (px_tys G) r M') 0 0 (fun q => bs ≤ q) := by
  refine px_of (by decide) (Nat.le_of_ble_eq_true rfl) ?_
  intro p e s m below meth c ls C0 hM hS hl
  obtain ⟨hx, hb, hr, hml, hown, hnm, hlocks, hts, hK, hN, hO⟩ := C0
  have hl : lv_has ls 10 [(0, .ref o0), (1, .int x1), (2, .int x2), (3, .int x3), (4, .int x4)] := hl
  unfold f_SB_drawn at hf
  refine lv_aload_n hx hb d_SB_drawn_0 rfl (lv_at hl 0 rfl) ?_
  refine lv_iload_n hx hb d_SB_drawn_1 rfl (lv_at hl 1 rfl) ?_
  obtain ⟨_, h85, hf⟩ := px_bind hf
  obtain ⟨⟨v3, M1⟩, h2, hf⟩ := px_bind hf
  dsimp only at hf
  refine px_calli (va_runV (As := [.int x1]) (rest := []) ⟨hx, hb, hml, hown, hts⟩ (c_SB_isBoard l bs D G o0 x1 M h2) (cwV 1 hts (px_gV w_485 w_487 ws_SB_isBoard w_1 w_488) rfl rfl rfl (by decide +kernel) ⟨Nat.le_of_ble_eq_true rfl, Nat.le_of_ble_eq_true rfl⟩) (px_preV px_nwok hK hN hO hM h85 rfl) rfl rfl hl.1 rfl (lv_room (Nat.le_of_ble_eq_true rfl)) d_SB_drawn_2 ⟨Nat.le_of_ble_eq_true rfl, Nat.le_of_ble_eq_true rfl⟩) hS (fun H locs hM hS => ?_)
  refine lv_if_eq (tgt := 19) hx hb d_SB_drawn_5 (by decide) (fun c4 => ?_) (fun c4 => ?_)
  · have hf := px_ift hf c4
    refine lv_iconst (v := (-1)) hx hb d_SB_drawn_19 (by decide) ?_
    obtain ⟨rfl, rfl⟩ := px_s2 hf
    exact px_iret hx hb hr hlocks hM hS d_SB_drawn_20
  · have hf := px_iff hf c4
    refine lv_iload_n hx hb d_SB_drawn_8 rfl (lv_at hl 2 rfl) ?_
    obtain ⟨⟨v7, M5⟩, h6, hf⟩ := px_bind hf
    dsimp only at hf
    refine px_calli (va_runS (As := [.int x2]) (rest := []) ⟨hx, hb, hml, hown, hts⟩ (c_SB_isSpeed l bs D G x2 M1 h6) (cwS 1 hts (px_gS w_429 w_430 w_1 w_431) rfl rfl rfl (by decide +kernel) ⟨Nat.le_of_ble_eq_true rfl, Nat.le_of_ble_eq_true rfl⟩) (px_preS px_nwok hK hN hO hM) rfl rfl hl.1 rfl (lv_room (Nat.le_of_ble_eq_true rfl)) d_SB_drawn_9 ⟨Nat.le_of_ble_eq_true rfl, Nat.le_of_ble_eq_true rfl⟩) hS (fun H locs hM hS => ?_)
    refine lv_if_eq (tgt := 19) hx hb d_SB_drawn_12 (by decide) (fun c8 => ?_) (fun c8 => ?_)
    · have hf := px_ift hf c8
      refine lv_iconst (v := (-1)) hx hb d_SB_drawn_19 (by decide) ?_
      obtain ⟨rfl, rfl⟩ := px_s2 hf
      exact px_iret hx hb hr hlocks hM hS d_SB_drawn_20
    · have hf := px_iff hf c8
      refine lv_iload_n hx hb d_SB_drawn_15 rfl (lv_at hl 3 rfl) ?_
      refine lv_if_ge (tgt := 21) hx hb d_SB_drawn_16 (by decide) (fun c9 => ?_) (fun c9 => ?_)
      · have hf := px_ift hf c9
        refine lv_aload_n hx hb d_SB_drawn_21 rfl (lv_at hl 0 rfl) ?_
        obtain ⟨t10, h11, hf⟩ := px_bind hf
        refine px_rgr hx hb hts cl_SB hown hK hM 8 (by decide) (hts _ w_300) h11 d_SB_drawn_22 ?_
        refine lv_iload_n hx hb d_SB_drawn_25 rfl (lv_at hl 1 rfl) ?_
        obtain ⟨t12, h13, hf⟩ := px_bind hf
        refine px_rar hx hb hK hM 2 rfl h13 d_SB_drawn_26 ?_
        refine lv_astore (lv' := [(5, .ref t12), (0, .ref o0), (1, .int x1), (2, .int x2), (3, .int x3), (4, .int x4)]) hx hb d_SB_drawn_27 hl (by decide) rfl (fun ls hl => ?_)
        refine lv_aload_n hx hb d_SB_drawn_29 rfl (lv_at hl 1 rfl) ?_
        obtain ⟨t14, h15, hf⟩ := px_bind hf
        refine px_rgr hx hb hts cl_SB hown hK hM 10 (by decide) (hts _ w_302) h15 d_SB_drawn_30 ?_
        refine lv_aload hx hb d_SB_drawn_33 (lv_at hl 0 rfl) ?_
        refine lv_aload_n hx hb d_SB_drawn_35 rfl (lv_at hl 1 rfl) ?_
        obtain ⟨t16, h17, hf⟩ := px_bind hf
        refine px_rgr hx hb hts cl_SB hown hK hM 2 (by decide) (hts _ w_294) h17 d_SB_drawn_36 ?_
        obtain ⟨v18, h19, hf⟩ := px_bind hf
        refine px_rgiN hx hb hts cl_RS hown hK hM 5 (by decide) (hN _ n_89) h19 d_SB_drawn_39 ?_
        obtain ⟨_, h84, hf⟩ := px_bind hf
        obtain ⟨M20, h21, hf⟩ := px_bind hf
        refine px_callv (va_runV (As := [.ref t12, .int v18]) (rest := []) ⟨hx, hb, hml, hown, hts⟩ (c_LO_arrange l bs D G t14 t12 v18 M5 h21) (cwV 2 hts (px_gV w_513 w_514 w_515 w_7 w_516) rfl rfl rfl (by decide +kernel) ⟨Nat.le_of_ble_eq_true rfl, Nat.le_of_ble_eq_true rfl⟩) (px_preV px_nwok hK hN hO hM h84 rfl) rfl rfl hl.1 rfl (lv_room (Nat.le_of_ble_eq_true rfl)) d_SB_drawn_42 ⟨Nat.le_of_ble_eq_true rfl, Nat.le_of_ble_eq_true rfl⟩) hS (fun H locs hM hS => ?_)
        refine lv_aload_n hx hb d_SB_drawn_45 rfl (lv_at hl 1 rfl) ?_
        obtain ⟨t22, h23, hf⟩ := px_bind hf
        refine px_rgr hx hb hts cl_SB hown hK hM 11 (by decide) (hts _ w_303) h23 d_SB_drawn_46 ?_
        refine lv_aload hx hb d_SB_drawn_49 (lv_at hl 0 rfl) ?_
        refine lv_aload_n hx hb d_SB_drawn_51 rfl (lv_at hl 1 rfl) ?_
        obtain ⟨t24, h25, hf⟩ := px_bind hf
        refine px_rgr hx hb hts cl_SB hown hK hM 2 (by decide) (hts _ w_294) h25 d_SB_drawn_52 ?_
        refine lv_iload_n hx hb d_SB_drawn_55 rfl (lv_at hl 3 rfl) ?_
        obtain ⟨_, h83, hf⟩ := px_bind hf
        obtain ⟨M26, h27, hf⟩ := px_bind hf
        refine px_callv (va_runV (As := [.ref t12, .ref t24, .int x2]) (rest := []) ⟨hx, hb, hml, hown, hts⟩ (c_SH_lay l bs D G t22 t12 t24 x2 M20 h27) (cwV 3 hts (px_gV w_554 w_555 w_556 w_8 w_557) rfl rfl rfl (by decide +kernel) ⟨Nat.le_of_ble_eq_true rfl, Nat.le_of_ble_eq_true rfl⟩) (px_preV px_nwok hK hN hO hM h83 rfl) rfl rfl hl.1 rfl (lv_room (Nat.le_of_ble_eq_true rfl)) d_SB_drawn_56 ⟨Nat.le_of_ble_eq_true rfl, Nat.le_of_ble_eq_true rfl⟩) hS (fun H locs hM hS => ?_)
        refine lv_iload_n hx hb d_SB_drawn_59 rfl (lv_at hl 4 rfl) ?_
        refine lv_istore (lv' := [(6, .int x3), (5, .ref t12), (0, .ref o0), (1, .int x1), (2, .int x2), (3, .int x3), (4, .int x4)]) hx hb d_SB_drawn_60 hl (by decide) rfl (fun ls hl => ?_)
        refine lv_iconst (v := 0) hx hb d_SB_drawn_62 (by decide) ?_
        refine lv_istore (lv' := [(7, .int 0), (6, .int x3), (5, .ref t12), (0, .ref o0), (1, .int x1), (2, .int x2), (3, .int x3), (4, .int x4)]) hx hb d_SB_drawn_63 hl (by decide) rfl (fun ls hl => ?_)
        obtain ⟨⟨xh81, M80⟩, h81, hf⟩ := px_bind hf
        refine lp_SB_drawn_L65 ⟨hx, hb, hr, hml, hown, hnm, hlocks, hts, hK, hN, hO⟩ xh81 M80 o0 x4 t12 (fun uh81 eu H locs ls hM hS hl => ?_) (fun r82 eu hn H locs ls pc hdg hM hS => ?_) px_fuel x3 0 M26 h81 _ _ _ hM hS (lv_sub hl [3, 7, 2, 1, 0] rfl)
        · subst eu
          skip
          dsimp only at hf
          try dsimp only at hl
          refine lv_iconst (v := (-1)) hx hb d_SB_drawn_142 (by decide) ?_
          obtain ⟨rfl, rfl⟩ := px_s2 hf
          exact px_iret hx hb hr hlocks hM hS d_SB_drawn_143
        · subst eu
          dsimp only at hf
          obtain ⟨rfl, rfl⟩ := px_s2 hf
          exact px_zret hx hb hr hn hlocks hM hS hdg
      · have hf := px_iff hf c9
        refine lv_iconst (v := (-1)) hx hb d_SB_drawn_19 (by decide) ?_
        obtain ⟨rfl, rfl⟩ := px_s2 hf
        exact px_iret hx hb hr hlocks hM hS d_SB_drawn_20
def f_RO_isShown (o0 : Nat) (x1 : Int32) (x2 : Int32) (M : px_M) : Option (Int32 × px_M) :=
  (px_gr 5 3 M o0).bind fun t1 =>
  (px_ai 0 M t1 x1).bind fun v3 =>
  if (v3 &&& (1 <<< (x2 &&& 31))) = 0 then
  some (0, M)
  else
  some (1, M)
set_option maxHeartbeats 4000000 in
set_option maxRecDepth 100000 in
theorem c_RO_isShown (l : Launch) (bs : Nat) (D : va_G) (G : Nat → ClassId) (o0 : Nat) (x1 : Int32) (x2 : Int32) (M : px_M) {r : Int32} {M' : px_M} (hf : f_RO_isShown o0 x1 x2 M = some (r, M')) : Met l y_RO_isShown (.code y_RO_isShown b_RO_isShown 3 (some .boolean) :: px_tw) ⟨0, 0, 0, 0⟩ (va_Pc [.ref o0, .int x1, .int x2] (px_B bs D px_cl (px_tys G) px_nw px_over M)) (px_Qi bs D px_cl (px_tys G) r M') 0 0 (fun q => bs ≤ q) := by
  refine px_of (by decide) (Nat.le_of_ble_eq_true rfl) ?_
  intro p e s m below meth c ls C0 hM hS hl
  obtain ⟨hx, hb, hr, hml, hown, hnm, hlocks, hts, hK, hN, hO⟩ := C0
  have hl : lv_has ls 3 [(0, .ref o0), (1, .int x1), (2, .int x2)] := hl
  unfold f_RO_isShown at hf
  refine lv_aload_n hx hb d_RO_isShown_0 rfl (lv_at hl 0 rfl) ?_
  obtain ⟨t1, h2, hf⟩ := px_bind hf
  refine px_rgr hx hb hts cl_RO hown hK hM 3 (by decide) (hts _ w_139) h2 d_RO_isShown_1 ?_
  refine lv_iload_n hx hb d_RO_isShown_4 rfl (lv_at hl 1 rfl) ?_
  obtain ⟨v3, h4, hf⟩ := px_bind hf
  refine px_rai hx hb hK hM 0 rfl h4 d_RO_isShown_5 ?_
  refine lv_iconst (v := 1) hx hb d_RO_isShown_6 (by decide) ?_
  refine lv_iload_n hx hb d_RO_isShown_7 rfl (lv_at hl 2 rfl) ?_
  refine lv_ishl hx hb d_RO_isShown_8 ?_
  refine lv_iand hx hb d_RO_isShown_9 ?_
  refine lv_if_eq (tgt := 17) hx hb d_RO_isShown_10 (by decide) (fun c5 => ?_) (fun c5 => ?_)
  · have hf := px_ift hf c5
    refine lv_iconst (v := 0) hx hb d_RO_isShown_17 (by decide) ?_
    obtain ⟨rfl, rfl⟩ := px_s2 hf
    exact px_zret hx hb hr rfl hlocks hM hS d_RO_isShown_18
  · have hf := px_iff hf c5
    refine lv_iconst (v := 1) hx hb d_RO_isShown_13 (by decide) ?_
    refine lv_goto (tgt := 18) hx hb d_RO_isShown_14 (by decide) ?_
    obtain ⟨rfl, rfl⟩ := px_s2 hf
    exact px_zret hx hb hr rfl hlocks hM hS d_RO_isShown_18
def f_SB_shows (o0 : Nat) (x1 : Int32) (x2 : Int32) (M : px_M) : Option (Int32 × px_M) :=
  (px_gr 0 7 M o0).bind fun t1 =>
  (px_ob 5 M t1).bind fun _ =>
  (f_RO_isWay t1 x1 M).bind fun (v5, M3) =>
  if v5 = 0 then
  some (0, M3)
  else
  (px_ob 0 M3 o0).bind fun _ =>
  (f_SB_isName o0 x2 M3).bind fun (v9, M7) =>
  if v9 = 0 then
  some (0, M7)
  else
  (px_gr 0 7 M7 o0).bind fun t11 =>
  (px_ob 5 M7 t11).bind fun _ =>
  (f_RO_isShown t11 x1 x2 M7).bind fun (v15, M13) =>
  if v15 = 0 then
  some (0, M13)
  else
  some (1, M13)
set_option maxHeartbeats 4000000 in
set_option maxRecDepth 100000 in
theorem c_SB_shows (l : Launch) (bs : Nat) (D : va_G) (G : Nat → ClassId) (o0 : Nat) (x1 : Int32) (x2 : Int32) (M : px_M) {r : Int32} {M' : px_M} (hf : f_SB_shows o0 x1 x2 M = some (r, M')) : Met l y_SB_shows (.code y_SB_shows b_SB_shows 3 (some .boolean) :: px_tw) ⟨2, 0, 0, 43⟩ (va_Pc [.ref o0, .int x1, .int x2] (px_B bs D px_cl (px_tys G) px_nw px_over M)) (px_Qi bs D px_cl (px_tys G) r M') 0 0 (fun q => bs ≤ q) := by
  refine px_of (by decide) (Nat.le_of_ble_eq_true rfl) ?_
  intro p e s m below meth c ls C0 hM hS hl
  obtain ⟨hx, hb, hr, hml, hown, hnm, hlocks, hts, hK, hN, hO⟩ := C0
  have hl : lv_has ls 3 [(0, .ref o0), (1, .int x1), (2, .int x2)] := hl
  unfold f_SB_shows at hf
  refine lv_aload_n hx hb d_SB_shows_0 rfl (lv_at hl 0 rfl) ?_
  obtain ⟨t1, h2, hf⟩ := px_bind hf
  refine px_rgr hx hb hts cl_SB hown hK hM 7 (by decide) (hts _ w_299) h2 d_SB_shows_1 ?_
  refine lv_iload_n hx hb d_SB_shows_4 rfl (lv_at hl 1 rfl) ?_
  obtain ⟨_, h19, hf⟩ := px_bind hf
  obtain ⟨⟨v5, M3⟩, h4, hf⟩ := px_bind hf
  dsimp only at hf
  refine px_calli (va_runV (As := [.int x1]) (rest := []) ⟨hx, hb, hml, hown, hts⟩ (c_RO_isWay l bs D G t1 x1 M h4) (cwV 1 hts (px_gV w_476 w_477 w_478 w_6 w_479) rfl rfl rfl (by decide +kernel) ⟨Nat.le_of_ble_eq_true rfl, Nat.le_of_ble_eq_true rfl⟩) (px_preV px_nwok hK hN hO hM h19 rfl) rfl rfl hl.1 rfl (lv_room (Nat.le_of_ble_eq_true rfl)) d_SB_shows_5 ⟨Nat.le_of_ble_eq_true rfl, Nat.le_of_ble_eq_true rfl⟩) hS (fun H locs hM hS => ?_)
  refine lv_if_eq (tgt := 35) hx hb d_SB_shows_8 (by decide) (fun c6 => ?_) (fun c6 => ?_)
  · have hf := px_ift hf c6
    refine lv_iconst (v := 0) hx hb d_SB_shows_35 (by decide) ?_
    obtain ⟨rfl, rfl⟩ := px_s2 hf
    exact px_zret hx hb hr rfl hlocks hM hS d_SB_shows_36
  · have hf := px_iff hf c6
    refine lv_aload_n hx hb d_SB_shows_11 rfl (lv_at hl 0 rfl) ?_
    refine lv_iload_n hx hb d_SB_shows_12 rfl (lv_at hl 2 rfl) ?_
    obtain ⟨_, h18, hf⟩ := px_bind hf
    obtain ⟨⟨v9, M7⟩, h8, hf⟩ := px_bind hf
    dsimp only at hf
    refine px_calli (va_runV (As := [.int x2]) (rest := []) ⟨hx, hb, hml, hown, hts⟩ (c_SB_isName l bs D G o0 x2 M3 h8) (cwV 1 hts (px_gV w_440 w_442 ws_SB_isName w_1 w_443) rfl rfl rfl (by decide +kernel) ⟨Nat.le_of_ble_eq_true rfl, Nat.le_of_ble_eq_true rfl⟩) (px_preV px_nwok hK hN hO hM h18 rfl) rfl rfl hl.1 rfl (lv_room (Nat.le_of_ble_eq_true rfl)) d_SB_shows_13 ⟨Nat.le_of_ble_eq_true rfl, Nat.le_of_ble_eq_true rfl⟩) hS (fun H locs hM hS => ?_)
    refine lv_if_eq (tgt := 35) hx hb d_SB_shows_16 (by decide) (fun c10 => ?_) (fun c10 => ?_)
    · have hf := px_ift hf c10
      refine lv_iconst (v := 0) hx hb d_SB_shows_35 (by decide) ?_
      obtain ⟨rfl, rfl⟩ := px_s2 hf
      exact px_zret hx hb hr rfl hlocks hM hS d_SB_shows_36
    · have hf := px_iff hf c10
      refine lv_aload_n hx hb d_SB_shows_19 rfl (lv_at hl 0 rfl) ?_
      obtain ⟨t11, h12, hf⟩ := px_bind hf
      refine px_rgr hx hb hts cl_SB hown hK hM 7 (by decide) (hts _ w_299) h12 d_SB_shows_20 ?_
      refine lv_iload_n hx hb d_SB_shows_23 rfl (lv_at hl 1 rfl) ?_
      refine lv_iload_n hx hb d_SB_shows_24 rfl (lv_at hl 2 rfl) ?_
      obtain ⟨_, h17, hf⟩ := px_bind hf
      obtain ⟨⟨v15, M13⟩, h14, hf⟩ := px_bind hf
      dsimp only at hf
      refine px_calli (va_runV (As := [.int x1, .int x2]) (rest := []) ⟨hx, hb, hml, hown, hts⟩ (c_RO_isShown l bs D G t11 x1 x2 M7 h14) (cwV 2 hts (px_gV w_600 w_601 w_602 w_6 w_603) rfl rfl rfl (by decide +kernel) ⟨Nat.le_of_ble_eq_true rfl, Nat.le_of_ble_eq_true rfl⟩) (px_preV px_nwok hK hN hO hM h17 rfl) rfl rfl hl.1 rfl (lv_room (Nat.le_of_ble_eq_true rfl)) d_SB_shows_25 ⟨Nat.le_of_ble_eq_true rfl, Nat.le_of_ble_eq_true rfl⟩) hS (fun H locs hM hS => ?_)
      refine lv_if_eq (tgt := 35) hx hb d_SB_shows_28 (by decide) (fun c16 => ?_) (fun c16 => ?_)
      · have hf := px_ift hf c16
        refine lv_iconst (v := 0) hx hb d_SB_shows_35 (by decide) ?_
        obtain ⟨rfl, rfl⟩ := px_s2 hf
        exact px_zret hx hb hr rfl hlocks hM hS d_SB_shows_36
      · have hf := px_iff hf c16
        refine lv_iconst (v := 1) hx hb d_SB_shows_31 (by decide) ?_
        refine lv_goto (tgt := 36) hx hb d_SB_shows_32 (by decide) ?_
        obtain ⟨rfl, rfl⟩ := px_s2 hf
        exact px_zret hx hb hr rfl hlocks hM hS d_SB_shows_36
def f_RO_nodesLedTo_L29 : Nat → Nat → Int32 → Int32 → Int32 → Int32 → Int32 → px_M → Option ((Int32) × px_M)
  | 0, _, _, _, _, _, _, _ => none
  | n + 1, o0, x2, x4, x5, x3, x6, M =>
    (px_gi 5 5 M o0).bind fun v3 =>
    if v3 ≤ x6 then
    some (x3, M)
    else
    (px_ob 5 M o0).bind fun _ =>
    (f_RO_isShown o0 x6 x2 M).bind fun (v8, M6) =>
    if v8 = 0 then
    f_RO_nodesLedTo_L29 n o0 x2 x4 x5 x3 (x6 + 1) M6
    else
    (px_gr 5 1 M6 o0).bind fun t10 =>
    (px_ai 0 M6 t10 x6).bind fun v12 =>
    if (x3 &&& (1 <<< (v12 &&& 31))) = 0 then
    f_RO_nodesLedTo_L29 n o0 x2 x4 x5 x3 (x6 + 1) M6
    else
    (px_gr 5 0 M6 o0).bind fun t15 =>
    (px_ai 0 M6 t15 x6).bind fun v17 =>
    f_RO_nodesLedTo_L29 n o0 x2 x4 x5 (x3 ||| (1 <<< (v17 &&& 31))) (x6 + 1) M6
set_option maxHeartbeats 4000000 in
set_option maxRecDepth 100000 in
theorem lp_RO_nodesLedTo_L29 {p : Program} {l : Launch} {e : Env} {s : State} {m : MethodId} {args : Array Value} {below : List Frame} {meth : Method} {c : Code} {bs : Nat} {D : va_G} {G : Nat → ClassId} {Q : State → Prop} (C0 : px_At p s m meth c y_RO_nodesLedTo b_RO_nodesLedTo 7 (some .int) args D px_cl (px_tys G) px_nw px_over) (x : Int32) (M' : px_M) (o0 : Nat) (x2 : Int32) (x4 : Int32) (x5 : Int32) (kx : ∀ (H : Heap) (locs : List Loc) (ls : Array Slot), px_W bs D px_cl (px_tys G) M' H → va_S (fun q => bs ≤ q) s.heap H locs → lv_has ls 7 [(0, .ref o0), (2, .int x2), (3, .int x), (4, .int x4), (5, .int x5)] → W p l e ⟨1, 0, 0, 22⟩ s m args below meth c H locs 0 0 Q (F0 m 80 ls []))  : ∀ (n : Nat) (x3 : Int32) (x6 : Int32) (M : px_M), f_RO_nodesLedTo_L29 n o0 x2 x4 x5 x3 x6 M = some (x, M') → ∀ (H : Heap) (locs : List Loc) (ls : Array Slot), px_W bs D px_cl (px_tys G) M H → va_S (fun q => bs ≤ q) s.heap H locs → lv_has ls 7 [(0, .ref o0), (2, .int x2), (3, .int x3), (4, .int x4), (5, .int x5), (6, .int x6)] → W p l e ⟨1, 0, 0, 22⟩ s m args below meth c H locs 0 0 Q (F0 m 29 ls []) := by
  obtain ⟨hx, hb, hr, hml, hown, hnm, hlocks, hts, hK, hN, hO⟩ := C0
  intro n
  induction n with
  | zero => intro x3 x6 M hf; cases hf
  | succ n ih =>
    intro x3 x6 M hf H locs ls hM hS hl
    unfold f_RO_nodesLedTo_L29 at hf
    refine lv_iload hx hb d_RO_nodesLedTo_29 (lv_at hl 5 rfl) ?_
    refine lv_aload_n hx hb d_RO_nodesLedTo_31 rfl (lv_at hl 0 rfl) ?_
    obtain ⟨v3, h4, hf⟩ := px_bind hf
    refine px_rgi hx hb hts cl_RO hown hK hM 5 (by decide) (hts _ w_142) h4 d_RO_nodesLedTo_32 ?_
    refine lv_icmp_ge (tgt := 80) hx hb d_RO_nodesLedTo_35 (by decide) (fun c5 => ?_) (fun c5 => ?_)
    · have hf := px_ift hf c5
      obtain ⟨rfl, rfl⟩ := px_s2 hf
      exact kx _ _ _ hM hS (lv_sub hl [0, 1, 2, 3, 4] rfl)
    · have hf := px_iff hf c5
      refine lv_aload_n hx hb d_RO_nodesLedTo_38 rfl (lv_at hl 0 rfl) ?_
      refine lv_iload hx hb d_RO_nodesLedTo_39 (lv_at hl 5 rfl) ?_
      refine lv_iload_n hx hb d_RO_nodesLedTo_41 rfl (lv_at hl 1 rfl) ?_
      obtain ⟨_, h19, hf⟩ := px_bind hf
      obtain ⟨⟨v8, M6⟩, h7, hf⟩ := px_bind hf
      dsimp only at hf
      refine px_calli (va_runV (As := [.int x6, .int x2]) (rest := []) ⟨hx, hb, hml, hown, hts⟩ (c_RO_isShown l bs D G o0 x6 x2 M h7) (cwV 2 hts (px_gV w_620 w_601 w_602 w_6 w_603) rfl rfl rfl (by decide +kernel) ⟨Nat.le_of_ble_eq_true rfl, Nat.le_of_ble_eq_true rfl⟩) (px_preV px_nwok hK hN hO hM h19 rfl) rfl rfl hl.1 rfl (lv_room (Nat.le_of_ble_eq_true rfl)) d_RO_nodesLedTo_42 ⟨Nat.le_of_ble_eq_true rfl, Nat.le_of_ble_eq_true rfl⟩) hS (fun H locs hM hS => ?_)
      refine lv_if_eq (tgt := 74) hx hb d_RO_nodesLedTo_45 (by decide) (fun c9 => ?_) (fun c9 => ?_)
      · have hf := px_ift hf c9
        refine lv_iinc (v := x6 + 1) (lv' := [(6, .int (x6 + 1)), (0, .ref o0), (2, .int x2), (3, .int x3), (4, .int x4), (5, .int x5)]) hx hb d_RO_nodesLedTo_74 hl (k := 5) rfl (by rfl) (by decide) rfl (fun ls hl => ?_)
        refine lv_goto (tgt := 29) hx hb d_RO_nodesLedTo_77 (by decide) ?_
        exact ih x3 (x6 + 1) M6 hf _ _ _ hM hS (lv_sub hl [1, 2, 3, 4, 5, 0] rfl)
      · have hf := px_iff hf c9
        refine lv_iload_n hx hb d_RO_nodesLedTo_48 rfl (lv_at hl 2 rfl) ?_
        refine lv_iconst (v := 1) hx hb d_RO_nodesLedTo_49 (by decide) ?_
        refine lv_aload_n hx hb d_RO_nodesLedTo_50 rfl (lv_at hl 0 rfl) ?_
        obtain ⟨t10, h11, hf⟩ := px_bind hf
        refine px_rgr hx hb hts cl_RO hown hK hM 1 (by decide) (hts _ w_135) h11 d_RO_nodesLedTo_51 ?_
        refine lv_iload hx hb d_RO_nodesLedTo_54 (lv_at hl 5 rfl) ?_
        obtain ⟨v12, h13, hf⟩ := px_bind hf
        refine px_rai hx hb hK hM 0 rfl h13 d_RO_nodesLedTo_56 ?_
        refine lv_ishl hx hb d_RO_nodesLedTo_57 ?_
        refine lv_iand hx hb d_RO_nodesLedTo_58 ?_
        refine lv_if_eq (tgt := 74) hx hb d_RO_nodesLedTo_59 (by decide) (fun c14 => ?_) (fun c14 => ?_)
        · have hf := px_ift hf c14
          refine lv_iinc (v := x6 + 1) (lv' := [(6, .int (x6 + 1)), (0, .ref o0), (2, .int x2), (3, .int x3), (4, .int x4), (5, .int x5)]) hx hb d_RO_nodesLedTo_74 hl (k := 5) rfl (by rfl) (by decide) rfl (fun ls hl => ?_)
          refine lv_goto (tgt := 29) hx hb d_RO_nodesLedTo_77 (by decide) ?_
          exact ih x3 (x6 + 1) M6 hf _ _ _ hM hS (lv_sub hl [1, 2, 3, 4, 5, 0] rfl)
        · have hf := px_iff hf c14
          refine lv_iload_n hx hb d_RO_nodesLedTo_62 rfl (lv_at hl 2 rfl) ?_
          refine lv_iconst (v := 1) hx hb d_RO_nodesLedTo_63 (by decide) ?_
          refine lv_aload_n hx hb d_RO_nodesLedTo_64 rfl (lv_at hl 0 rfl) ?_
          obtain ⟨t15, h16, hf⟩ := px_bind hf
          refine px_rgr hx hb hts cl_RO hown hK hM 0 (by decide) (hts _ w_134) h16 d_RO_nodesLedTo_65 ?_
          refine lv_iload hx hb d_RO_nodesLedTo_68 (lv_at hl 5 rfl) ?_
          obtain ⟨v17, h18, hf⟩ := px_bind hf
          refine px_rai hx hb hK hM 0 rfl h18 d_RO_nodesLedTo_70 ?_
          refine lv_ishl hx hb d_RO_nodesLedTo_71 ?_
          refine lv_ior hx hb d_RO_nodesLedTo_72 ?_
          refine lv_istore_n (lv' := [(3, .int (x3 ||| (1 <<< (v17 &&& 31)))), (0, .ref o0), (2, .int x2), (4, .int x4), (5, .int x5), (6, .int x6)]) hx hb d_RO_nodesLedTo_73 rfl hl (by decide) rfl (fun ls hl => ?_)
          refine lv_iinc (v := x6 + 1) (lv' := [(6, .int (x6 + 1)), (3, .int (x3 ||| (1 <<< (v17 &&& 31)))), (0, .ref o0), (2, .int x2), (4, .int x4), (5, .int x5)]) hx hb d_RO_nodesLedTo_74 hl (k := 5) rfl (by rfl) (by decide) rfl (fun ls hl => ?_)
          refine lv_goto (tgt := 29) hx hb d_RO_nodesLedTo_77 (by decide) ?_
          exact ih (x3 ||| (1 <<< (v17 &&& 31))) (x6 + 1) M6 hf _ _ _ hM hS (lv_sub hl [2, 3, 1, 4, 5, 0] rfl)
def f_RO_nodesLedTo_L10 : Nat → Nat → Int32 → Int32 → Int32 → Int32 → px_M → Option ((Int32) × px_M)
  | 0, _, _, _, _, _, _ => none
  | n + 1, o0, x2, x3, x4, x5, M =>
    if 10 ≤ x5 then
    some (x3, M)
    else
    if x3 = x4 then
    some (x3, M)
    else
    (f_RO_nodesLedTo_L29 px_fuel o0 x2 x3 x5 x3 0 M).bind fun (v22, M20) =>
    f_RO_nodesLedTo_L10 n o0 x2 v22 x3 (x5 + 1) M20
set_option maxHeartbeats 4000000 in
set_option maxRecDepth 100000 in
theorem lp_RO_nodesLedTo_L10 {p : Program} {l : Launch} {e : Env} {s : State} {m : MethodId} {args : Array Value} {below : List Frame} {meth : Method} {c : Code} {bs : Nat} {D : va_G} {G : Nat → ClassId} {Q : State → Prop} (C0 : px_At p s m meth c y_RO_nodesLedTo b_RO_nodesLedTo 7 (some .int) args D px_cl (px_tys G) px_nw px_over) (x : Int32) (M' : px_M) (o0 : Nat) (x2 : Int32) (kx : ∀ (H : Heap) (locs : List Loc) (ls : Array Slot), px_W bs D px_cl (px_tys G) M' H → va_S (fun q => bs ≤ q) s.heap H locs → lv_has ls 7 [(3, .int x)] → W p l e ⟨1, 0, 0, 22⟩ s m args below meth c H locs 0 0 Q (F0 m 86 ls []))  : ∀ (n : Nat) (x3 : Int32) (x4 : Int32) (x5 : Int32) (M : px_M), f_RO_nodesLedTo_L10 n o0 x2 x3 x4 x5 M = some (x, M') → ∀ (H : Heap) (locs : List Loc) (ls : Array Slot), px_W bs D px_cl (px_tys G) M H → va_S (fun q => bs ≤ q) s.heap H locs → lv_has ls 7 [(0, .ref o0), (2, .int x2), (3, .int x3), (4, .int x4), (5, .int x5)] → W p l e ⟨1, 0, 0, 22⟩ s m args below meth c H locs 0 0 Q (F0 m 10 ls []) := by
  obtain ⟨hx, hb, hr, hml, hown, hnm, hlocks, hts, hK, hN, hO⟩ := C0
  intro n
  induction n with
  | zero => intro x3 x4 x5 M hf; cases hf
  | succ n ih =>
    intro x3 x4 x5 M hf H locs ls hM hS hl
    unfold f_RO_nodesLedTo_L10 at hf
    refine lv_iload hx hb d_RO_nodesLedTo_10 (lv_at hl 4 rfl) ?_
    refine lv_bipush (v := 10) hx hb d_RO_nodesLedTo_12 (by decide) ?_
    refine lv_icmp_ge (tgt := 86) hx hb d_RO_nodesLedTo_14 (by decide) (fun c1 => ?_) (fun c1 => ?_)
    · have hf := px_ift hf c1
      obtain ⟨rfl, rfl⟩ := px_s2 hf
      exact kx _ _ _ hM hS (lv_sub hl [2] rfl)
    · have hf := px_iff hf c1
      refine lv_iload_n hx hb d_RO_nodesLedTo_17 rfl (lv_at hl 2 rfl) ?_
      refine lv_iload hx hb d_RO_nodesLedTo_18 (lv_at hl 3 rfl) ?_
      refine lv_icmp_eq (tgt := 86) hx hb d_RO_nodesLedTo_20 (by decide) (fun c2 => ?_) (fun c2 => ?_)
      · have hf := px_ift hf c2
        obtain ⟨rfl, rfl⟩ := px_s2 hf
        exact kx _ _ _ hM hS (lv_sub hl [2] rfl)
      · have hf := px_iff hf c2
        refine lv_iload_n hx hb d_RO_nodesLedTo_23 rfl (lv_at hl 2 rfl) ?_
        refine lv_istore (lv' := [(4, .int x3), (0, .ref o0), (2, .int x2), (3, .int x3), (5, .int x5)]) hx hb d_RO_nodesLedTo_24 hl (by decide) rfl (fun ls hl => ?_)
        refine lv_iconst (v := 0) hx hb d_RO_nodesLedTo_26 (by decide) ?_
        refine lv_istore (lv' := [(6, .int 0), (4, .int x3), (0, .ref o0), (2, .int x2), (3, .int x3), (5, .int x5)]) hx hb d_RO_nodesLedTo_27 hl (by decide) rfl (fun ls hl => ?_)
        obtain ⟨⟨v22, M20⟩, h21, hf⟩ := px_bind hf
        dsimp only at hf
        refine lp_RO_nodesLedTo_L29 ⟨hx, hb, hr, hml, hown, hnm, hlocks, hts, hK, hN, hO⟩ _ M20 o0 x2 x3 x5 (fun H locs ls hM hS hl => ?_) px_fuel x3 0 M h21 _ _ _ hM hS (lv_sub hl [2, 3, 4, 1, 5, 0] rfl)
        try dsimp only at hl
        refine lv_iinc (v := x5 + 1) (lv' := [(5, .int (x5 + 1)), (0, .ref o0), (2, .int x2), (3, .int v22), (4, .int x3)]) hx hb d_RO_nodesLedTo_80 hl (k := 4) rfl (by rfl) (by decide) rfl (fun ls hl => ?_)
        refine lv_goto (tgt := 10) hx hb d_RO_nodesLedTo_83 (by decide) ?_
        exact ih v22 x3 (x5 + 1) M20 hf _ _ _ hM hS (lv_sub hl [1, 2, 3, 4, 0] rfl)
def f_RO_nodesLedTo (o0 : Nat) (x1 : Int32) (x2 : Int32) (M : px_M) : Option (Int32 × px_M) :=
  (f_RO_nodesLedTo_L10 px_fuel o0 x2 (1 <<< (x1 &&& 31)) 0 0 M).bind fun (v25, M23) =>
  some (v25, M23)
set_option maxHeartbeats 4000000 in
set_option maxRecDepth 100000 in
theorem c_RO_nodesLedTo (l : Launch) (bs : Nat) (D : va_G) (G : Nat → ClassId) (o0 : Nat) (x1 : Int32) (x2 : Int32) (M : px_M) {r : Int32} {M' : px_M} (hf : f_RO_nodesLedTo o0 x1 x2 M = some (r, M')) : Met l y_RO_nodesLedTo (.code y_RO_nodesLedTo b_RO_nodesLedTo 7 (some .int) :: px_tw) ⟨1, 0, 0, 22⟩ (va_Pc [.ref o0, .int x1, .int x2] (px_B bs D px_cl (px_tys G) px_nw px_over M)) (px_Qi bs D px_cl (px_tys G) r M') 0 0 (fun q => bs ≤ q) := by
  refine px_of (by decide) (Nat.le_of_ble_eq_true rfl) ?_
  intro p e s m below meth c ls C0 hM hS hl
  obtain ⟨hx, hb, hr, hml, hown, hnm, hlocks, hts, hK, hN, hO⟩ := C0
  have hl : lv_has ls 7 [(0, .ref o0), (1, .int x1), (2, .int x2)] := hl
  unfold f_RO_nodesLedTo at hf
  refine lv_iconst (v := 1) hx hb d_RO_nodesLedTo_0 (by decide) ?_
  refine lv_iload_n hx hb d_RO_nodesLedTo_1 rfl (lv_at hl 1 rfl) ?_
  refine lv_ishl hx hb d_RO_nodesLedTo_2 ?_
  refine lv_istore_n (lv' := [(3, .int (1 <<< (x1 &&& 31))), (0, .ref o0), (1, .int x1), (2, .int x2)]) hx hb d_RO_nodesLedTo_3 rfl hl (by decide) rfl (fun ls hl => ?_)
  refine lv_iconst (v := 0) hx hb d_RO_nodesLedTo_4 (by decide) ?_
  refine lv_istore (lv' := [(4, .int 0), (3, .int (1 <<< (x1 &&& 31))), (0, .ref o0), (1, .int x1), (2, .int x2)]) hx hb d_RO_nodesLedTo_5 hl (by decide) rfl (fun ls hl => ?_)
  refine lv_iconst (v := 0) hx hb d_RO_nodesLedTo_7 (by decide) ?_
  refine lv_istore (lv' := [(5, .int 0), (4, .int 0), (3, .int (1 <<< (x1 &&& 31))), (0, .ref o0), (1, .int x1), (2, .int x2)]) hx hb d_RO_nodesLedTo_8 hl (by decide) rfl (fun ls hl => ?_)
  obtain ⟨⟨v25, M23⟩, h24, hf⟩ := px_bind hf
  dsimp only at hf
  refine lp_RO_nodesLedTo_L10 ⟨hx, hb, hr, hml, hown, hnm, hlocks, hts, hK, hN, hO⟩ _ M23 o0 x2 (fun H locs ls hM hS hl => ?_) px_fuel (1 <<< (x1 &&& 31)) 0 0 M h24 _ _ _ hM hS (lv_sub hl [3, 5, 2, 1, 0] rfl)
  try dsimp only at hl
  refine lv_iload_n hx hb d_RO_nodesLedTo_86 rfl (lv_at hl 0 rfl) ?_
  obtain ⟨rfl, rfl⟩ := px_s2 hf
  exact px_iret hx hb hr hlocks hM hS d_RO_nodesLedTo_87
def f_RO_isShownFrom_L2 : Nat → Nat → Int32 → Int32 → Int32 → px_M → Option (((Unit) ⊕ Int32) × px_M)
  | 0, _, _, _, _, _ => none
  | n + 1, o0, x1, x2, x3, M =>
    (px_gi 5 5 M o0).bind fun v14 =>
    if v14 ≤ x3 then
    some (.inl (), M)
    else
    (px_gr 5 0 M o0).bind fun t17 =>
    (px_ai 0 M t17 x3).bind fun v19 =>
    if v19 = x1 then
    (px_ob 5 M o0).bind fun _ =>
    (f_RO_isShown o0 x3 x2 M).bind fun (v24, M22) =>
    if v24 = 0 then
    f_RO_isShownFrom_L2 n o0 x1 x2 (x3 + 1) M22
    else
    some (.inr 1, M22)
    else
    f_RO_isShownFrom_L2 n o0 x1 x2 (x3 + 1) M
set_option maxHeartbeats 4000000 in
set_option maxRecDepth 100000 in
theorem lp_RO_isShownFrom_L2 {p : Program} {l : Launch} {e : Env} {s : State} {m : MethodId} {args : Array Value} {below : List Frame} {meth : Method} {c : Code} {bs : Nat} {D : va_G} {G : Nat → ClassId} {Q : State → Prop} (C0 : px_At p s m meth c y_RO_isShownFrom b_RO_isShownFrom 4 (some .boolean) args D px_cl (px_tys G) px_nw px_over) (x : (Unit) ⊕ Int32) (M' : px_M) (o0 : Nat) (x1 : Int32) (x2 : Int32) (kx : ∀ u, x = .inl u → ∀ (H : Heap) (locs : List Loc) (ls : Array Slot), px_W bs D px_cl (px_tys G) M' H → va_S (fun q => bs ≤ q) s.heap H locs → lv_has ls 4 [] → W p l e ⟨1, 0, 0, 22⟩ s m args below meth c H locs 0 0 Q (F0 m 37 ls [])) (kr : ∀ r, x = .inr r → narrow .boolean (.int r) = .int r → ∀ (H : Heap) (locs : List Loc) (ls : Array Slot) (pc : Nat), decode b_RO_isShownFrom pc = .ok (.ireturn, 1) → px_W bs D px_cl (px_tys G) M' H → va_S (fun q => bs ≤ q) s.heap H locs → W p l e ⟨1, 0, 0, 22⟩ s m args below meth c H locs 0 0 Q (F0 m pc ls [.int r])) : ∀ (n : Nat) (x3 : Int32) (M : px_M), f_RO_isShownFrom_L2 n o0 x1 x2 x3 M = some (x, M') → ∀ (H : Heap) (locs : List Loc) (ls : Array Slot), px_W bs D px_cl (px_tys G) M H → va_S (fun q => bs ≤ q) s.heap H locs → lv_has ls 4 [(0, .ref o0), (1, .int x1), (2, .int x2), (3, .int x3)] → W p l e ⟨1, 0, 0, 22⟩ s m args below meth c H locs 0 0 Q (F0 m 2 ls []) := by
  obtain ⟨hx, hb, hr, hml, hown, hnm, hlocks, hts, hK, hN, hO⟩ := C0
  intro n
  induction n with
  | zero => intro x3 M hf; cases hf
  | succ n ih =>
    intro x3 M hf H locs ls hM hS hl
    unfold f_RO_isShownFrom_L2 at hf
    refine lv_iload_n hx hb d_RO_isShownFrom_2 rfl (lv_at hl 3 rfl) ?_
    refine lv_aload_n hx hb d_RO_isShownFrom_3 rfl (lv_at hl 0 rfl) ?_
    obtain ⟨v14, h15, hf⟩ := px_bind hf
    refine px_rgi hx hb hts cl_RO hown hK hM 5 (by decide) (hts _ w_142) h15 d_RO_isShownFrom_4 ?_
    refine lv_icmp_ge (tgt := 37) hx hb d_RO_isShownFrom_7 (by decide) (fun c16 => ?_) (fun c16 => ?_)
    · have hf := px_ift hf c16
      obtain ⟨rfl, rfl⟩ := px_s2 hf
      exact kx _ rfl _ _ _ hM hS (lv_sub hl [] rfl)
    · have hf := px_iff hf c16
      refine lv_aload_n hx hb d_RO_isShownFrom_10 rfl (lv_at hl 0 rfl) ?_
      obtain ⟨t17, h18, hf⟩ := px_bind hf
      refine px_rgr hx hb hts cl_RO hown hK hM 0 (by decide) (hts _ w_134) h18 d_RO_isShownFrom_11 ?_
      refine lv_iload_n hx hb d_RO_isShownFrom_14 rfl (lv_at hl 3 rfl) ?_
      obtain ⟨v19, h20, hf⟩ := px_bind hf
      refine px_rai hx hb hK hM 0 rfl h20 d_RO_isShownFrom_15 ?_
      refine lv_iload_n hx hb d_RO_isShownFrom_16 rfl (lv_at hl 1 rfl) ?_
      refine lv_icmp_ne (tgt := 31) hx hb d_RO_isShownFrom_17 (by decide) (fun c21 => ?_) (fun c21 => ?_)
      · have hf := px_iff hf c21
        refine lv_iinc (v := x3 + 1) (lv' := [(3, .int (x3 + 1)), (0, .ref o0), (1, .int x1), (2, .int x2)]) hx hb d_RO_isShownFrom_31 hl (k := 3) rfl (by rfl) (by decide) rfl (fun ls hl => ?_)
        refine lv_goto (tgt := 2) hx hb d_RO_isShownFrom_34 (by decide) ?_
        exact ih (x3 + 1) M hf _ _ _ hM hS (lv_sub hl [1, 2, 3, 0] rfl)
      · have hf := px_ift hf c21
        refine lv_aload_n hx hb d_RO_isShownFrom_20 rfl (lv_at hl 0 rfl) ?_
        refine lv_iload_n hx hb d_RO_isShownFrom_21 rfl (lv_at hl 3 rfl) ?_
        refine lv_iload_n hx hb d_RO_isShownFrom_22 rfl (lv_at hl 2 rfl) ?_
        obtain ⟨_, h26, hf⟩ := px_bind hf
        obtain ⟨⟨v24, M22⟩, h23, hf⟩ := px_bind hf
        dsimp only at hf
        refine px_calli (va_runV (As := [.int x3, .int x2]) (rest := []) ⟨hx, hb, hml, hown, hts⟩ (c_RO_isShown l bs D G o0 x3 x2 M h23) (cwV 2 hts (px_gV w_620 w_601 w_602 w_6 w_603) rfl rfl rfl (by decide +kernel) ⟨Nat.le_of_ble_eq_true rfl, Nat.le_of_ble_eq_true rfl⟩) (px_preV px_nwok hK hN hO hM h26 rfl) rfl rfl hl.1 rfl (lv_room (Nat.le_of_ble_eq_true rfl)) d_RO_isShownFrom_23 ⟨Nat.le_of_ble_eq_true rfl, Nat.le_of_ble_eq_true rfl⟩) hS (fun H locs hM hS => ?_)
        refine lv_if_eq (tgt := 31) hx hb d_RO_isShownFrom_26 (by decide) (fun c25 => ?_) (fun c25 => ?_)
        · have hf := px_ift hf c25
          refine lv_iinc (v := x3 + 1) (lv' := [(3, .int (x3 + 1)), (0, .ref o0), (1, .int x1), (2, .int x2)]) hx hb d_RO_isShownFrom_31 hl (k := 3) rfl (by rfl) (by decide) rfl (fun ls hl => ?_)
          refine lv_goto (tgt := 2) hx hb d_RO_isShownFrom_34 (by decide) ?_
          exact ih (x3 + 1) M22 hf _ _ _ hM hS (lv_sub hl [1, 2, 3, 0] rfl)
        · have hf := px_iff hf c25
          refine lv_iconst (v := 1) hx hb d_RO_isShownFrom_29 (by decide) ?_
          obtain ⟨rfl, rfl⟩ := px_s2 hf
          exact kr _ rfl rfl _ _ _ _ d_RO_isShownFrom_30 hM hS
def f_RO_isShownFrom (o0 : Nat) (x1 : Int32) (x2 : Int32) (M : px_M) : Option (Int32 × px_M) :=
  (f_RO_isShownFrom_L2 px_fuel o0 x1 x2 0 M).bind fun yh28 => (match yh28 with
  | (.inl _, M27) =>
  some (0, M27)
  | (.inr r29, M27) => some (r29, M27))
set_option maxHeartbeats 4000000 in
set_option maxRecDepth 100000 in
theorem c_RO_isShownFrom (l : Launch) (bs : Nat) (D : va_G) (G : Nat → ClassId) (o0 : Nat) (x1 : Int32) (x2 : Int32) (M : px_M) {r : Int32} {M' : px_M} (hf : f_RO_isShownFrom o0 x1 x2 M = some (r, M')) : Met l y_RO_isShownFrom (.code y_RO_isShownFrom b_RO_isShownFrom 4 (some .boolean) :: px_tw) ⟨1, 0, 0, 22⟩ (va_Pc [.ref o0, .int x1, .int x2] (px_B bs D px_cl (px_tys G) px_nw px_over M)) (px_Qi bs D px_cl (px_tys G) r M') 0 0 (fun q => bs ≤ q) := by
  refine px_of (by decide) (Nat.le_of_ble_eq_true rfl) ?_
  intro p e s m below meth c ls C0 hM hS hl
  obtain ⟨hx, hb, hr, hml, hown, hnm, hlocks, hts, hK, hN, hO⟩ := C0
  have hl : lv_has ls 4 [(0, .ref o0), (1, .int x1), (2, .int x2)] := hl
  unfold f_RO_isShownFrom at hf
  refine lv_iconst (v := 0) hx hb d_RO_isShownFrom_0 (by decide) ?_
  refine lv_istore_n (lv' := [(3, .int 0), (0, .ref o0), (1, .int x1), (2, .int x2)]) hx hb d_RO_isShownFrom_1 rfl hl (by decide) rfl (fun ls hl => ?_)
  obtain ⟨⟨xh28, M27⟩, h28, hf⟩ := px_bind hf
  refine lp_RO_isShownFrom_L2 ⟨hx, hb, hr, hml, hown, hnm, hlocks, hts, hK, hN, hO⟩ xh28 M27 o0 x1 x2 (fun uh28 eu H locs ls hM hS hl => ?_) (fun r29 eu hn H locs ls pc hdg hM hS => ?_) px_fuel 0 M h28 _ _ _ hM hS (lv_sub hl [1, 2, 3, 0] rfl)
  · subst eu
    skip
    dsimp only at hf
    try dsimp only at hl
    refine lv_iconst (v := 0) hx hb d_RO_isShownFrom_37 (by decide) ?_
    obtain ⟨rfl, rfl⟩ := px_s2 hf
    exact px_zret hx hb hr rfl hlocks hM hS d_RO_isShownFrom_38
  · subst eu
    dsimp only at hf
    obtain ⟨rfl, rfl⟩ := px_s2 hf
    exact px_zret hx hb hr hn hlocks hM hS hdg
def f_BL_add (o0 : Nat) (x1 : Int32) (x2 : Int32) (x3 : Int32) (M : px_M) : Option (px_M) :=
  (px_gi 8 5 M o0).bind fun v1 =>
  if 40 ≤ v1 then
  some M
  else
  (px_gr 8 2 M o0).bind fun t4 =>
  (px_gi 8 5 M o0).bind fun v6 =>
  (px_si 0 M t4 v6 x1).bind fun M8 =>
  (px_gr 8 3 M8 o0).bind fun t10 =>
  (px_gi 8 5 M8 o0).bind fun v12 =>
  (px_si 0 M8 t10 v12 x2).bind fun M14 =>
  (px_gr 8 4 M14 o0).bind fun t16 =>
  (px_gi 8 5 M14 o0).bind fun v18 =>
  (px_si 0 M14 t16 v18 x3).bind fun M20 =>
  (px_gi 8 5 M20 o0).bind fun v22 =>
  (px_pt 8 5 M20 o0 (.int (v22 + 1))).bind fun M24 =>
  some M24
set_option maxHeartbeats 4000000 in
set_option maxRecDepth 100000 in
theorem c_BL_add (l : Launch) (bs : Nat) (D : va_G) (G : Nat → ClassId) (o0 : Nat) (x1 : Int32) (x2 : Int32) (x3 : Int32) (M : px_M) {M' : px_M} (hf : f_BL_add o0 x1 x2 x3 M = some M') : Met l y_BL_add (.code y_BL_add b_BL_add 4 none :: px_tw) ⟨0, 0, 0, 0⟩ (va_Pc [.ref o0, .int x1, .int x2, .int x3] (px_B bs D px_cl (px_tys G) px_nw px_over M)) (px_Qv bs D px_cl (px_tys G) M') 0 0 (fun q => bs ≤ q) := by
  refine px_of (by decide) (Nat.le_of_ble_eq_true rfl) ?_
  intro p e s m below meth c ls C0 hM hS hl
  obtain ⟨hx, hb, hr, hml, hown, hnm, hlocks, hts, hK, hN, hO⟩ := C0
  have hl : lv_has ls 4 [(0, .ref o0), (1, .int x1), (2, .int x2), (3, .int x3)] := hl
  unfold f_BL_add at hf
  refine lv_aload_n hx hb d_BL_add_0 rfl (lv_at hl 0 rfl) ?_
  obtain ⟨v1, h2, hf⟩ := px_bind hf
  refine px_rgi hx hb hts cl_BL hown hK hM 5 (by decide) (hts _ w_225) h2 d_BL_add_1 ?_
  refine lv_bipush (v := 40) hx hb d_BL_add_4 (by decide) ?_
  refine lv_icmp_ge (tgt := 49) hx hb d_BL_add_6 (by decide) (fun c3 => ?_) (fun c3 => ?_)
  · have hf := px_ift hf c3
    obtain rfl := px_s1 hf
    exact px_vret hx hb hr hlocks hM hS d_BL_add_49
  · have hf := px_iff hf c3
    refine lv_aload_n hx hb d_BL_add_9 rfl (lv_at hl 0 rfl) ?_
    obtain ⟨t4, h5, hf⟩ := px_bind hf
    refine px_rgr hx hb hts cl_BL hown hK hM 2 (by decide) (hts _ w_222) h5 d_BL_add_10 ?_
    refine lv_aload_n hx hb d_BL_add_13 rfl (lv_at hl 0 rfl) ?_
    obtain ⟨v6, h7, hf⟩ := px_bind hf
    refine px_rgi hx hb hts cl_BL hown hK hM 5 (by decide) (hts _ w_225) h7 d_BL_add_14 ?_
    refine lv_iload_n hx hb d_BL_add_17 rfl (lv_at hl 1 rfl) ?_
    obtain ⟨M8, h9, hf⟩ := px_bind hf
    refine px_rsi hx hb hK hM hS 0 rfl h9 d_BL_add_18 (fun H locs hM hS => ?_)
    refine lv_aload_n hx hb d_BL_add_19 rfl (lv_at hl 0 rfl) ?_
    obtain ⟨t10, h11, hf⟩ := px_bind hf
    refine px_rgr hx hb hts cl_BL hown hK hM 3 (by decide) (hts _ w_223) h11 d_BL_add_20 ?_
    refine lv_aload_n hx hb d_BL_add_23 rfl (lv_at hl 0 rfl) ?_
    obtain ⟨v12, h13, hf⟩ := px_bind hf
    refine px_rgi hx hb hts cl_BL hown hK hM 5 (by decide) (hts _ w_225) h13 d_BL_add_24 ?_
    refine lv_iload_n hx hb d_BL_add_27 rfl (lv_at hl 2 rfl) ?_
    obtain ⟨M14, h15, hf⟩ := px_bind hf
    refine px_rsi hx hb hK hM hS 0 rfl h15 d_BL_add_28 (fun H locs hM hS => ?_)
    refine lv_aload_n hx hb d_BL_add_29 rfl (lv_at hl 0 rfl) ?_
    obtain ⟨t16, h17, hf⟩ := px_bind hf
    refine px_rgr hx hb hts cl_BL hown hK hM 4 (by decide) (hts _ w_224) h17 d_BL_add_30 ?_
    refine lv_aload_n hx hb d_BL_add_33 rfl (lv_at hl 0 rfl) ?_
    obtain ⟨v18, h19, hf⟩ := px_bind hf
    refine px_rgi hx hb hts cl_BL hown hK hM 5 (by decide) (hts _ w_225) h19 d_BL_add_34 ?_
    refine lv_iload_n hx hb d_BL_add_37 rfl (lv_at hl 3 rfl) ?_
    obtain ⟨M20, h21, hf⟩ := px_bind hf
    refine px_rsi hx hb hK hM hS 0 rfl h21 d_BL_add_38 (fun H locs hM hS => ?_)
    refine lv_aload_n hx hb d_BL_add_39 rfl (lv_at hl 0 rfl) ?_
    refine lv_dup hx hb d_BL_add_40 rfl ?_
    obtain ⟨v22, h23, hf⟩ := px_bind hf
    refine px_rgi hx hb hts cl_BL hown hK hM 5 (by decide) (hts _ w_225) h23 d_BL_add_41 ?_
    refine lv_iconst (v := 1) hx hb d_BL_add_44 (by decide) ?_
    refine lv_iadd hx hb d_BL_add_45 ?_
    obtain ⟨M24, h25, hf⟩ := px_bind hf
    refine px_rpt hx hb hts cl_BL hown hK hM hS 5 (by decide) (hts _ w_225) rfl rfl rfl h25 d_BL_add_46 (fun H locs hM hS => ?_)
    obtain rfl := px_s1 hf
    exact px_vret hx hb hr hlocks hM hS d_BL_add_49
def f_BL_gatherOf_L13 : Nat → Nat → Int32 → Int32 → Int32 → px_M → Option ((Unit) × px_M)
  | 0, _, _, _, _, _ => none
  | n + 1, o0, x1, x3, x4, M =>
    (px_gr 8 1 M o0).bind fun t6 =>
    (px_gi 5 5 M t6).bind fun v8 =>
    if v8 ≤ x4 then
    some ((), M)
    else
    (px_gr 8 1 M o0).bind fun t11 =>
    (px_gr 5 1 M t11).bind fun t13 =>
    (px_ai 0 M t13 x4).bind fun v15 =>
    (px_gr 8 1 M o0).bind fun t17 =>
    (px_ob 5 M t17).bind fun _ =>
    (f_RO_isShown t17 x4 x1 M).bind fun (v21, M19) =>
    if v21 = 0 then
    f_BL_gatherOf_L13 n o0 x1 x3 (x4 + 1) M19
    else
    if (x3 &&& (1 <<< (v15 &&& 31))) = 0 then
    (px_gr 8 1 M19 o0).bind fun t24 =>
    (px_ob 5 M19 t24).bind fun _ =>
    (f_RO_isShownFrom t24 v15 x1 M19).bind fun (v28, M26) =>
    if v28 = 0 then
    (px_ob 8 M26 o0).bind fun _ =>
    (f_BL_add o0 x1 x4 0 M26).bind fun M30 =>
    f_BL_gatherOf_L13 n o0 x1 x3 (x4 + 1) M30
    else
    (px_ob 8 M26 o0).bind fun _ =>
    (f_BL_add o0 x1 x4 1 M26).bind fun M33 =>
    f_BL_gatherOf_L13 n o0 x1 x3 (x4 + 1) M33
    else
    f_BL_gatherOf_L13 n o0 x1 x3 (x4 + 1) M19
set_option maxHeartbeats 4000000 in
set_option maxRecDepth 100000 in
theorem lp_BL_gatherOf_L13 {p : Program} {l : Launch} {e : Env} {s : State} {m : MethodId} {args : Array Value} {below : List Frame} {meth : Method} {c : Code} {bs : Nat} {D : va_G} {G : Nat → ClassId} {Q : State → Prop} (C0 : px_At p s m meth c y_BL_gatherOf b_BL_gatherOf 6 none args D px_cl (px_tys G) px_nw px_over) (x : Unit) (M' : px_M) (o0 : Nat) (x1 : Int32) (x3 : Int32) (kx : ∀ (H : Heap) (locs : List Loc) (ls : Array Slot), px_W bs D px_cl (px_tys G) M' H → va_S (fun q => bs ≤ q) s.heap H locs → lv_has ls 6 [] → W p l e ⟨2, 0, 0, 48⟩ s m args below meth c H locs 0 0 Q (F0 m 90 ls []))  : ∀ (n : Nat) (x4 : Int32) (M : px_M), f_BL_gatherOf_L13 n o0 x1 x3 x4 M = some (x, M') → ∀ (H : Heap) (locs : List Loc) (ls : Array Slot), px_W bs D px_cl (px_tys G) M H → va_S (fun q => bs ≤ q) s.heap H locs → lv_has ls 6 [(0, .ref o0), (1, .int x1), (3, .int x3), (4, .int x4)] → W p l e ⟨2, 0, 0, 48⟩ s m args below meth c H locs 0 0 Q (F0 m 13 ls []) := by
  obtain ⟨hx, hb, hr, hml, hown, hnm, hlocks, hts, hK, hN, hO⟩ := C0
  intro n
  induction n with
  | zero => intro x4 M hf; cases hf
  | succ n ih =>
    intro x4 M hf H locs ls hM hS hl
    unfold f_BL_gatherOf_L13 at hf
    refine lv_iload hx hb d_BL_gatherOf_13 (lv_at hl 3 rfl) ?_
    refine lv_aload_n hx hb d_BL_gatherOf_15 rfl (lv_at hl 0 rfl) ?_
    obtain ⟨t6, h7, hf⟩ := px_bind hf
    refine px_rgr hx hb hts cl_BL hown hK hM 1 (by decide) (hts _ w_221) h7 d_BL_gatherOf_16 ?_
    obtain ⟨v8, h9, hf⟩ := px_bind hf
    refine px_rgiN hx hb hts cl_RO hown hK hM 5 (by decide) (hN _ n_143) h9 d_BL_gatherOf_19 ?_
    refine lv_icmp_ge (tgt := 90) hx hb d_BL_gatherOf_22 (by decide) (fun c10 => ?_) (fun c10 => ?_)
    · have hf := px_ift hf c10
      obtain ⟨rfl, rfl⟩ := px_s2 hf
      exact kx _ _ _ hM hS (lv_sub hl [] rfl)
    · have hf := px_iff hf c10
      refine lv_aload_n hx hb d_BL_gatherOf_25 rfl (lv_at hl 0 rfl) ?_
      obtain ⟨t11, h12, hf⟩ := px_bind hf
      refine px_rgr hx hb hts cl_BL hown hK hM 1 (by decide) (hts _ w_221) h12 d_BL_gatherOf_26 ?_
      obtain ⟨t13, h14, hf⟩ := px_bind hf
      refine px_rgrN hx hb hts cl_RO hown hK hM 1 (by decide) (hN _ n_137) h14 d_BL_gatherOf_29 ?_
      refine lv_iload hx hb d_BL_gatherOf_32 (lv_at hl 3 rfl) ?_
      obtain ⟨v15, h16, hf⟩ := px_bind hf
      refine px_rai hx hb hK hM 0 rfl h16 d_BL_gatherOf_34 ?_
      refine lv_istore (lv' := [(5, .int v15), (0, .ref o0), (1, .int x1), (3, .int x3), (4, .int x4)]) hx hb d_BL_gatherOf_35 hl (by decide) rfl (fun ls hl => ?_)
      refine lv_aload_n hx hb d_BL_gatherOf_37 rfl (lv_at hl 1 rfl) ?_
      obtain ⟨t17, h18, hf⟩ := px_bind hf
      refine px_rgr hx hb hts cl_BL hown hK hM 1 (by decide) (hts _ w_221) h18 d_BL_gatherOf_38 ?_
      refine lv_iload hx hb d_BL_gatherOf_41 (lv_at hl 4 rfl) ?_
      refine lv_iload_n hx hb d_BL_gatherOf_43 rfl (lv_at hl 2 rfl) ?_
      obtain ⟨_, h37, hf⟩ := px_bind hf
      obtain ⟨⟨v21, M19⟩, h20, hf⟩ := px_bind hf
      dsimp only at hf
      refine px_calli (va_runV (As := [.int x4, .int x1]) (rest := []) ⟨hx, hb, hml, hown, hts⟩ (c_RO_isShown l bs D G t17 x4 x1 M h20) (cwV 2 hts (px_gV w_621 w_601 w_602 w_6 w_603) rfl rfl rfl (by decide +kernel) ⟨Nat.le_of_ble_eq_true rfl, Nat.le_of_ble_eq_true rfl⟩) (px_preV px_nwok hK hN hO hM h37 rfl) rfl rfl hl.1 rfl (lv_room (Nat.le_of_ble_eq_true rfl)) d_BL_gatherOf_44 ⟨Nat.le_of_ble_eq_true rfl, Nat.le_of_ble_eq_true rfl⟩) hS (fun H locs hM hS => ?_)
      refine lv_if_eq (tgt := 84) hx hb d_BL_gatherOf_47 (by decide) (fun c22 => ?_) (fun c22 => ?_)
      · have hf := px_ift hf c22
        refine lv_iinc (v := x4 + 1) (lv' := [(4, .int (x4 + 1)), (5, .int v15), (0, .ref o0), (1, .int x1), (3, .int x3)]) hx hb d_BL_gatherOf_84 hl (k := 4) rfl (by rfl) (by decide) rfl (fun ls hl => ?_)
        refine lv_goto (tgt := 13) hx hb d_BL_gatherOf_87 (by decide) ?_
        exact ih (x4 + 1) M19 hf _ _ _ hM hS (lv_sub hl [2, 3, 4, 0] rfl)
      · have hf := px_iff hf c22
        refine lv_iload_n hx hb d_BL_gatherOf_50 rfl (lv_at hl 3 rfl) ?_
        refine lv_iconst (v := 1) hx hb d_BL_gatherOf_51 (by decide) ?_
        refine lv_iload hx hb d_BL_gatherOf_52 (lv_at hl 0 rfl) ?_
        refine lv_ishl hx hb d_BL_gatherOf_54 ?_
        refine lv_iand hx hb d_BL_gatherOf_55 ?_
        refine lv_if_ne (tgt := 84) hx hb d_BL_gatherOf_56 (by decide) (fun c23 => ?_) (fun c23 => ?_)
        · have hf := px_iff hf c23
          refine lv_iinc (v := x4 + 1) (lv' := [(4, .int (x4 + 1)), (5, .int v15), (0, .ref o0), (1, .int x1), (3, .int x3)]) hx hb d_BL_gatherOf_84 hl (k := 4) rfl (by rfl) (by decide) rfl (fun ls hl => ?_)
          refine lv_goto (tgt := 13) hx hb d_BL_gatherOf_87 (by decide) ?_
          exact ih (x4 + 1) M19 hf _ _ _ hM hS (lv_sub hl [2, 3, 4, 0] rfl)
        · have hf := px_ift hf c23
          refine lv_aload_n hx hb d_BL_gatherOf_59 rfl (lv_at hl 1 rfl) ?_
          refine lv_iload_n hx hb d_BL_gatherOf_60 rfl (lv_at hl 2 rfl) ?_
          refine lv_iload hx hb d_BL_gatherOf_61 (lv_at hl 4 rfl) ?_
          refine lv_aload_n hx hb d_BL_gatherOf_63 rfl (lv_at hl 1 rfl) ?_
          obtain ⟨t24, h25, hf⟩ := px_bind hf
          refine px_rgr hx hb hts cl_BL hown hK hM 1 (by decide) (hts _ w_221) h25 d_BL_gatherOf_64 ?_
          refine lv_iload hx hb d_BL_gatherOf_67 (lv_at hl 0 rfl) ?_
          refine lv_iload_n hx hb d_BL_gatherOf_69 rfl (lv_at hl 2 rfl) ?_
          obtain ⟨_, h36, hf⟩ := px_bind hf
          obtain ⟨⟨v28, M26⟩, h27, hf⟩ := px_bind hf
          dsimp only at hf
          refine px_calli (va_runV (As := [.int v15, .int x1]) (rest := [.int x4, .int x1, .ref o0]) ⟨hx, hb, hml, hown, hts⟩ (c_RO_isShownFrom l bs D G t24 v15 x1 M19 h27) (cwV 2 hts (px_gV w_622 w_623 w_624 w_6 w_625) rfl rfl rfl (by decide +kernel) ⟨Nat.le_of_ble_eq_true rfl, Nat.le_of_ble_eq_true rfl⟩) (px_preV px_nwok hK hN hO hM h36 rfl) rfl rfl hl.1 rfl (lv_room (Nat.le_of_ble_eq_true rfl)) d_BL_gatherOf_70 ⟨Nat.le_of_ble_eq_true rfl, Nat.le_of_ble_eq_true rfl⟩) hS (fun H locs hM hS => ?_)
          refine lv_if_eq (tgt := 80) hx hb d_BL_gatherOf_73 (by decide) (fun c29 => ?_) (fun c29 => ?_)
          · have hf := px_ift hf c29
            refine lv_iconst (v := 0) hx hb d_BL_gatherOf_80 (by decide) ?_
            obtain ⟨_, h32, hf⟩ := px_bind hf
            obtain ⟨M30, h31, hf⟩ := px_bind hf
            refine px_callv (va_runV (As := [.int x1, .int x4, .int 0]) (rest := []) ⟨hx, hb, hml, hown, hts⟩ (c_BL_add l bs D G o0 x1 x4 0 M26 h31) (cwV 3 hts (px_gV w_626 w_628 ws_BL_add w_9 w_629) rfl rfl rfl (by decide +kernel) ⟨Nat.le_of_ble_eq_true rfl, Nat.le_of_ble_eq_true rfl⟩) (px_preV px_nwok hK hN hO hM h32 rfl) rfl rfl hl.1 rfl (lv_room (Nat.le_of_ble_eq_true rfl)) d_BL_gatherOf_81 ⟨Nat.le_of_ble_eq_true rfl, Nat.le_of_ble_eq_true rfl⟩) hS (fun H locs hM hS => ?_)
            refine lv_iinc (v := x4 + 1) (lv' := [(4, .int (x4 + 1)), (5, .int v15), (0, .ref o0), (1, .int x1), (3, .int x3)]) hx hb d_BL_gatherOf_84 hl (k := 4) rfl (by rfl) (by decide) rfl (fun ls hl => ?_)
            refine lv_goto (tgt := 13) hx hb d_BL_gatherOf_87 (by decide) ?_
            exact ih (x4 + 1) M30 hf _ _ _ hM hS (lv_sub hl [2, 3, 4, 0] rfl)
          · have hf := px_iff hf c29
            refine lv_iconst (v := 1) hx hb d_BL_gatherOf_76 (by decide) ?_
            refine lv_goto (tgt := 81) hx hb d_BL_gatherOf_77 (by decide) ?_
            obtain ⟨_, h35, hf⟩ := px_bind hf
            obtain ⟨M33, h34, hf⟩ := px_bind hf
            refine px_callv (va_runV (As := [.int x1, .int x4, .int 1]) (rest := []) ⟨hx, hb, hml, hown, hts⟩ (c_BL_add l bs D G o0 x1 x4 1 M26 h34) (cwV 3 hts (px_gV w_626 w_628 ws_BL_add w_9 w_629) rfl rfl rfl (by decide +kernel) ⟨Nat.le_of_ble_eq_true rfl, Nat.le_of_ble_eq_true rfl⟩) (px_preV px_nwok hK hN hO hM h35 rfl) rfl rfl hl.1 rfl (lv_room (Nat.le_of_ble_eq_true rfl)) d_BL_gatherOf_81 ⟨Nat.le_of_ble_eq_true rfl, Nat.le_of_ble_eq_true rfl⟩) hS (fun H locs hM hS => ?_)
            refine lv_iinc (v := x4 + 1) (lv' := [(4, .int (x4 + 1)), (5, .int v15), (0, .ref o0), (1, .int x1), (3, .int x3)]) hx hb d_BL_gatherOf_84 hl (k := 4) rfl (by rfl) (by decide) rfl (fun ls hl => ?_)
            refine lv_goto (tgt := 13) hx hb d_BL_gatherOf_87 (by decide) ?_
            exact ih (x4 + 1) M33 hf _ _ _ hM hS (lv_sub hl [2, 3, 4, 0] rfl)
def f_BL_gatherOf (o0 : Nat) (x1 : Int32) (x2 : Int32) (M : px_M) : Option (px_M) :=
  (px_gr 8 1 M o0).bind fun t1 =>
  (px_ob 5 M t1).bind fun _ =>
  (f_RO_nodesLedTo t1 x2 x1 M).bind fun (v5, M3) =>
  (f_BL_gatherOf_L13 px_fuel o0 x1 v5 0 M3).bind fun (_, M38) =>
  some M38
set_option maxHeartbeats 4000000 in
set_option maxRecDepth 100000 in
theorem c_BL_gatherOf (l : Launch) (bs : Nat) (D : va_G) (G : Nat → ClassId) (o0 : Nat) (x1 : Int32) (x2 : Int32) (M : px_M) {M' : px_M} (hf : f_BL_gatherOf o0 x1 x2 M = some M') : Met l y_BL_gatherOf (.code y_BL_gatherOf b_BL_gatherOf 6 none :: px_tw) ⟨2, 0, 0, 48⟩ (va_Pc [.ref o0, .int x1, .int x2] (px_B bs D px_cl (px_tys G) px_nw px_over M)) (px_Qv bs D px_cl (px_tys G) M') 0 0 (fun q => bs ≤ q) := by
  refine px_of (by decide) (Nat.le_of_ble_eq_true rfl) ?_
  intro p e s m below meth c ls C0 hM hS hl
  obtain ⟨hx, hb, hr, hml, hown, hnm, hlocks, hts, hK, hN, hO⟩ := C0
  have hl : lv_has ls 6 [(0, .ref o0), (1, .int x1), (2, .int x2)] := hl
  unfold f_BL_gatherOf at hf
  refine lv_aload_n hx hb d_BL_gatherOf_0 rfl (lv_at hl 0 rfl) ?_
  obtain ⟨t1, h2, hf⟩ := px_bind hf
  refine px_rgr hx hb hts cl_BL hown hK hM 1 (by decide) (hts _ w_221) h2 d_BL_gatherOf_1 ?_
  refine lv_iload_n hx hb d_BL_gatherOf_4 rfl (lv_at hl 2 rfl) ?_
  refine lv_iload_n hx hb d_BL_gatherOf_5 rfl (lv_at hl 1 rfl) ?_
  obtain ⟨_, h40, hf⟩ := px_bind hf
  obtain ⟨⟨v5, M3⟩, h4, hf⟩ := px_bind hf
  dsimp only at hf
  refine px_calli (va_runV (As := [.int x2, .int x1]) (rest := []) ⟨hx, hb, hml, hown, hts⟩ (c_RO_nodesLedTo l bs D G t1 x2 x1 M h4) (cwV 2 hts (px_gV w_616 w_617 w_618 w_6 w_619) rfl rfl rfl (by decide +kernel) ⟨Nat.le_of_ble_eq_true rfl, Nat.le_of_ble_eq_true rfl⟩) (px_preV px_nwok hK hN hO hM h40 rfl) rfl rfl hl.1 rfl (lv_room (Nat.le_of_ble_eq_true rfl)) d_BL_gatherOf_6 ⟨Nat.le_of_ble_eq_true rfl, Nat.le_of_ble_eq_true rfl⟩) hS (fun H locs hM hS => ?_)
  refine lv_istore_n (lv' := [(3, .int v5), (0, .ref o0), (1, .int x1), (2, .int x2)]) hx hb d_BL_gatherOf_9 rfl hl (by decide) rfl (fun ls hl => ?_)
  refine lv_iconst (v := 0) hx hb d_BL_gatherOf_10 (by decide) ?_
  refine lv_istore (lv' := [(4, .int 0), (3, .int v5), (0, .ref o0), (1, .int x1), (2, .int x2)]) hx hb d_BL_gatherOf_11 hl (by decide) rfl (fun ls hl => ?_)
  obtain ⟨⟨_, M38⟩, h39, hf⟩ := px_bind hf
  dsimp only at hf
  refine lp_BL_gatherOf_L13 ⟨hx, hb, hr, hml, hown, hnm, hlocks, hts, hK, hN, hO⟩ _ M38 o0 x1 v5 (fun H locs ls hM hS hl => ?_) px_fuel 0 M3 h39 _ _ _ hM hS (lv_sub hl [2, 3, 1, 0] rfl)
  try dsimp only at hl
  obtain rfl := px_s1 hf
  exact px_vret hx hb hr hlocks hM hS d_BL_gatherOf_90
def f_BL_gather_L7 : Nat → Nat → Int32 → Int32 → px_M → Option ((Unit) × px_M)
  | 0, _, _, _, _ => none
  | n + 1, o0, x1, x2, M =>
    if x1 ≤ x2 then
    some ((), M)
    else
    (px_gr 8 0 M o0).bind fun t4 =>
    (px_ar 1 M t4 x2).bind fun t6 =>
    (px_gi 9 2 M t6).bind fun v8 =>
    if v8 = ((-1)) then
    f_BL_gather_L7 n o0 x1 (x2 + 1) M
    else
    (px_gr 8 0 M o0).bind fun t11 =>
    (px_ar 1 M t11 x2).bind fun t13 =>
    (px_gi 9 2 M t13).bind fun v15 =>
    (px_ob 8 M o0).bind fun _ =>
    (f_BL_gatherOf o0 x2 v15 M).bind fun M17 =>
    f_BL_gather_L7 n o0 x1 (x2 + 1) M17
set_option maxHeartbeats 4000000 in
set_option maxRecDepth 100000 in
theorem lp_BL_gather_L7 {p : Program} {l : Launch} {e : Env} {s : State} {m : MethodId} {args : Array Value} {below : List Frame} {meth : Method} {c : Code} {bs : Nat} {D : va_G} {G : Nat → ClassId} {Q : State → Prop} (C0 : px_At p s m meth c y_BL_gather b_BL_gather 3 none args D px_cl (px_tys G) px_nw px_over) (x : Unit) (M' : px_M) (o0 : Nat) (x1 : Int32) (kx : ∀ (H : Heap) (locs : List Loc) (ls : Array Slot), px_W bs D px_cl (px_tys G) M' H → va_S (fun q => bs ≤ q) s.heap H locs → lv_has ls 3 [] → W p l e ⟨3, 0, 0, 73⟩ s m args below meth c H locs 0 0 Q (F0 m 45 ls []))  : ∀ (n : Nat) (x2 : Int32) (M : px_M), f_BL_gather_L7 n o0 x1 x2 M = some (x, M') → ∀ (H : Heap) (locs : List Loc) (ls : Array Slot), px_W bs D px_cl (px_tys G) M H → va_S (fun q => bs ≤ q) s.heap H locs → lv_has ls 3 [(0, .ref o0), (1, .int x1), (2, .int x2)] → W p l e ⟨3, 0, 0, 73⟩ s m args below meth c H locs 0 0 Q (F0 m 7 ls []) := by
  obtain ⟨hx, hb, hr, hml, hown, hnm, hlocks, hts, hK, hN, hO⟩ := C0
  intro n
  induction n with
  | zero => intro x2 M hf; cases hf
  | succ n ih =>
    intro x2 M hf H locs ls hM hS hl
    unfold f_BL_gather_L7 at hf
    refine lv_iload_n hx hb d_BL_gather_7 rfl (lv_at hl 2 rfl) ?_
    refine lv_iload_n hx hb d_BL_gather_8 rfl (lv_at hl 1 rfl) ?_
    refine lv_icmp_ge (tgt := 45) hx hb d_BL_gather_9 (by decide) (fun c3 => ?_) (fun c3 => ?_)
    · have hf := px_ift hf c3
      obtain ⟨rfl, rfl⟩ := px_s2 hf
      exact kx _ _ _ hM hS (lv_sub hl [] rfl)
    · have hf := px_iff hf c3
      refine lv_aload_n hx hb d_BL_gather_12 rfl (lv_at hl 0 rfl) ?_
      obtain ⟨t4, h5, hf⟩ := px_bind hf
      refine px_rgr hx hb hts cl_BL hown hK hM 0 (by decide) (hts _ w_220) h5 d_BL_gather_13 ?_
      refine lv_iload_n hx hb d_BL_gather_16 rfl (lv_at hl 2 rfl) ?_
      obtain ⟨t6, h7, hf⟩ := px_bind hf
      refine px_rar hx hb hK hM 1 rfl h7 d_BL_gather_17 ?_
      obtain ⟨v8, h9, hf⟩ := px_bind hf
      refine px_rgiN hx hb hts cl_NA hown hK hM 2 (by decide) (hN _ n_252) h9 d_BL_gather_18 ?_
      refine lv_iconst (v := (-1)) hx hb d_BL_gather_21 (by decide) ?_
      refine lv_icmp_eq (tgt := 39) hx hb d_BL_gather_22 (by decide) (fun c10 => ?_) (fun c10 => ?_)
      · have hf := px_ift hf c10
        refine lv_iinc (v := x2 + 1) (lv' := [(2, .int (x2 + 1)), (0, .ref o0), (1, .int x1)]) hx hb d_BL_gather_39 hl (k := 2) rfl (by rfl) (by decide) rfl (fun ls hl => ?_)
        refine lv_goto (tgt := 7) hx hb d_BL_gather_42 (by decide) ?_
        exact ih (x2 + 1) M hf _ _ _ hM hS (lv_sub hl [1, 2, 0] rfl)
      · have hf := px_iff hf c10
        refine lv_aload_n hx hb d_BL_gather_25 rfl (lv_at hl 0 rfl) ?_
        refine lv_iload_n hx hb d_BL_gather_26 rfl (lv_at hl 2 rfl) ?_
        refine lv_aload_n hx hb d_BL_gather_27 rfl (lv_at hl 0 rfl) ?_
        obtain ⟨t11, h12, hf⟩ := px_bind hf
        refine px_rgr hx hb hts cl_BL hown hK hM 0 (by decide) (hts _ w_220) h12 d_BL_gather_28 ?_
        refine lv_iload_n hx hb d_BL_gather_31 rfl (lv_at hl 2 rfl) ?_
        obtain ⟨t13, h14, hf⟩ := px_bind hf
        refine px_rar hx hb hK hM 1 rfl h14 d_BL_gather_32 ?_
        obtain ⟨v15, h16, hf⟩ := px_bind hf
        refine px_rgiN hx hb hts cl_NA hown hK hM 2 (by decide) (hN _ n_252) h16 d_BL_gather_33 ?_
        obtain ⟨_, h19, hf⟩ := px_bind hf
        obtain ⟨M17, h18, hf⟩ := px_bind hf
        refine px_callv (va_runV (As := [.int x2, .int v15]) (rest := []) ⟨hx, hb, hml, hown, hts⟩ (c_BL_gatherOf l bs D G o0 x2 v15 M h18) (cwV 2 hts (px_gV w_612 w_614 ws_BL_gatherOf w_9 w_615) rfl rfl rfl (by decide +kernel) ⟨Nat.le_of_ble_eq_true rfl, Nat.le_of_ble_eq_true rfl⟩) (px_preV px_nwok hK hN hO hM h19 rfl) rfl rfl hl.1 rfl (lv_room (Nat.le_of_ble_eq_true rfl)) d_BL_gather_36 ⟨Nat.le_of_ble_eq_true rfl, Nat.le_of_ble_eq_true rfl⟩) hS (fun H locs hM hS => ?_)
        refine lv_iinc (v := x2 + 1) (lv' := [(2, .int (x2 + 1)), (0, .ref o0), (1, .int x1)]) hx hb d_BL_gather_39 hl (k := 2) rfl (by rfl) (by decide) rfl (fun ls hl => ?_)
        refine lv_goto (tgt := 7) hx hb d_BL_gather_42 (by decide) ?_
        exact ih (x2 + 1) M17 hf _ _ _ hM hS (lv_sub hl [1, 2, 0] rfl)
def f_BL_gather (o0 : Nat) (x1 : Int32) (M : px_M) : Option (px_M) :=
  (px_pt 8 5 M o0 (.int 0)).bind fun M1 =>
  (f_BL_gather_L7 px_fuel o0 x1 0 M1).bind fun (_, M20) =>
  some M20
set_option maxHeartbeats 4000000 in
set_option maxRecDepth 100000 in
theorem c_BL_gather (l : Launch) (bs : Nat) (D : va_G) (G : Nat → ClassId) (o0 : Nat) (x1 : Int32) (M : px_M) {M' : px_M} (hf : f_BL_gather o0 x1 M = some M') : Met l y_BL_gather (.code y_BL_gather b_BL_gather 3 none :: px_tw) ⟨3, 0, 0, 73⟩ (va_Pc [.ref o0, .int x1] (px_B bs D px_cl (px_tys G) px_nw px_over M)) (px_Qv bs D px_cl (px_tys G) M') 0 0 (fun q => bs ≤ q) := by
  refine px_of (by decide) (Nat.le_of_ble_eq_true rfl) ?_
  intro p e s m below meth c ls C0 hM hS hl
  obtain ⟨hx, hb, hr, hml, hown, hnm, hlocks, hts, hK, hN, hO⟩ := C0
  have hl : lv_has ls 3 [(0, .ref o0), (1, .int x1)] := hl
  unfold f_BL_gather at hf
  refine lv_aload_n hx hb d_BL_gather_0 rfl (lv_at hl 0 rfl) ?_
  refine lv_iconst (v := 0) hx hb d_BL_gather_1 (by decide) ?_
  obtain ⟨M1, h2, hf⟩ := px_bind hf
  refine px_rpt hx hb hts cl_BL hown hK hM hS 5 (by decide) (hts _ w_225) rfl rfl rfl h2 d_BL_gather_2 (fun H locs hM hS => ?_)
  refine lv_iconst (v := 0) hx hb d_BL_gather_5 (by decide) ?_
  refine lv_istore_n (lv' := [(2, .int 0), (0, .ref o0), (1, .int x1)]) hx hb d_BL_gather_6 rfl hl (by decide) rfl (fun ls hl => ?_)
  obtain ⟨⟨_, M20⟩, h21, hf⟩ := px_bind hf
  dsimp only at hf
  refine lp_BL_gather_L7 ⟨hx, hb, hr, hml, hown, hnm, hlocks, hts, hK, hN, hO⟩ _ M20 o0 x1 (fun H locs ls hM hS hl => ?_) px_fuel 0 M1 h21 _ _ _ hM hS (lv_sub hl [1, 2, 0] rfl)
  try dsimp only at hl
  obtain rfl := px_s1 hf
  exact px_vret hx hb hr hlocks hM hS d_BL_gather_45
def f_BL_part (o0 : Nat) (x1 : Int32) (x2 : Int32) (M : px_M) : Option (Int32 × px_M) :=
  (px_gi 8 5 M o0).bind fun v1 =>
  (f_SB_isWithin x1 0 (v1 - 1) M).bind fun (v5, M3) =>
  if v5 = 0 then
  some ((-1), M3)
  else
  if x2 = 0 then
  (px_gr 8 2 M3 o0).bind fun t8 =>
  (px_ai 0 M3 t8 x1).bind fun v10 =>
  some (v10, M3)
  else if x2 = 1 then
  (px_gr 8 3 M3 o0).bind fun t13 =>
  (px_ai 0 M3 t13 x1).bind fun v15 =>
  some (v15, M3)
  else if x2 = 2 then
  (px_gr 8 4 M3 o0).bind fun t18 =>
  (px_ai 0 M3 t18 x1).bind fun v20 =>
  some (v20, M3)
  else 
  some ((-1), M3)
set_option maxHeartbeats 4000000 in
set_option maxRecDepth 100000 in
theorem c_BL_part (l : Launch) (bs : Nat) (D : va_G) (G : Nat → ClassId) (o0 : Nat) (x1 : Int32) (x2 : Int32) (M : px_M) {r : Int32} {M' : px_M} (hf : f_BL_part o0 x1 x2 M = some (r, M')) : Met l y_BL_part (.code y_BL_part b_BL_part 3 (some .int) :: px_tw) ⟨1, 0, 0, 22⟩ (va_Pc [.ref o0, .int x1, .int x2] (px_B bs D px_cl (px_tys G) px_nw px_over M)) (px_Qi bs D px_cl (px_tys G) r M') 0 0 (fun q => bs ≤ q) := by
  refine px_of (by decide) (Nat.le_of_ble_eq_true rfl) ?_
  intro p e s m below meth c ls C0 hM hS hl
  obtain ⟨hx, hb, hr, hml, hown, hnm, hlocks, hts, hK, hN, hO⟩ := C0
  have hl : lv_has ls 3 [(0, .ref o0), (1, .int x1), (2, .int x2)] := hl
  unfold f_BL_part at hf
  refine lv_iload_n hx hb d_BL_part_0 rfl (lv_at hl 1 rfl) ?_
  refine lv_iconst (v := 0) hx hb d_BL_part_1 (by decide) ?_
  refine lv_aload_n hx hb d_BL_part_2 rfl (lv_at hl 0 rfl) ?_
  obtain ⟨v1, h2, hf⟩ := px_bind hf
  refine px_rgi hx hb hts cl_BL hown hK hM 5 (by decide) (hts _ w_225) h2 d_BL_part_3 ?_
  refine lv_iconst (v := 1) hx hb d_BL_part_6 (by decide) ?_
  refine lv_isub hx hb d_BL_part_7 ?_
  obtain ⟨⟨v5, M3⟩, h4, hf⟩ := px_bind hf
  dsimp only at hf
  refine px_calli (va_runSN (host := R_SB) (As := [.int x1, .int 0, .int (v1 - 1)]) (rest := []) ⟨hx, hb, hml, hown, hts⟩ (c_SB_isWithin l bs D G x1 0 (v1 - 1) M h4) ⟨va_cnB 3 hts (px_gI w_341) rfl rfl rfl (hN _ n_634) (hts _ w_1) (by decide +kernel) ⟨Nat.le_of_ble_eq_true rfl, Nat.le_of_ble_eq_true rfl⟩, hts _ w_340, trivial⟩ (px_preS px_nwok hK hN hO hM) rfl rfl hl.1 rfl (lv_room (Nat.le_of_ble_eq_true rfl)) d_BL_part_8 ⟨Nat.le_of_ble_eq_true rfl, Nat.le_of_ble_eq_true rfl⟩) hS (fun H locs hM hS => ?_)
  refine lv_if_ne (tgt := 16) hx hb d_BL_part_11 (by decide) (fun c6 => ?_) (fun c6 => ?_)
  · have hf := px_iff hf c6
    refine lv_iload_n hx hb d_BL_part_16 rfl (lv_at hl 2 rfl) ?_
    by_cases c7 : x2 = 0
    · have hf := px_ift hf c7
      refine lv_tableIn (tgt := 44) hx hb d_BL_part_17 (by rw [c7] <;> decide) (by rw [c7] <;> decide) (by rw [c7] <;> rfl) (by decide) ?_
      refine lv_aload_n hx hb d_BL_part_44 rfl (lv_at hl 0 rfl) ?_
      obtain ⟨t8, h9, hf⟩ := px_bind hf
      refine px_rgr hx hb hts cl_BL hown hK hM 2 (by decide) (hts _ w_222) h9 d_BL_part_45 ?_
      refine lv_iload_n hx hb d_BL_part_48 rfl (lv_at hl 1 rfl) ?_
      obtain ⟨v10, h11, hf⟩ := px_bind hf
      refine px_rai hx hb hK hM 0 rfl h11 d_BL_part_49 ?_
      obtain ⟨rfl, rfl⟩ := px_s2 hf
      exact px_iret hx hb hr hlocks hM hS d_BL_part_50
    · have hf := px_iff hf c7
      by_cases c12 : x2 = 1
      · have hf := px_ift hf c12
        refine lv_tableIn (tgt := 51) hx hb d_BL_part_17 (by rw [c12] <;> decide) (by rw [c12] <;> decide) (by rw [c12] <;> rfl) (by decide) ?_
        refine lv_aload_n hx hb d_BL_part_51 rfl (lv_at hl 0 rfl) ?_
        obtain ⟨t13, h14, hf⟩ := px_bind hf
        refine px_rgr hx hb hts cl_BL hown hK hM 3 (by decide) (hts _ w_223) h14 d_BL_part_52 ?_
        refine lv_iload_n hx hb d_BL_part_55 rfl (lv_at hl 1 rfl) ?_
        obtain ⟨v15, h16, hf⟩ := px_bind hf
        refine px_rai hx hb hK hM 0 rfl h16 d_BL_part_56 ?_
        obtain ⟨rfl, rfl⟩ := px_s2 hf
        exact px_iret hx hb hr hlocks hM hS d_BL_part_57
      · have hf := px_iff hf c12
        by_cases c17 : x2 = 2
        · have hf := px_ift hf c17
          refine lv_tableIn (tgt := 58) hx hb d_BL_part_17 (by rw [c17] <;> decide) (by rw [c17] <;> decide) (by rw [c17] <;> rfl) (by decide) ?_
          refine lv_aload_n hx hb d_BL_part_58 rfl (lv_at hl 0 rfl) ?_
          obtain ⟨t18, h19, hf⟩ := px_bind hf
          refine px_rgr hx hb hts cl_BL hown hK hM 4 (by decide) (hts _ w_224) h19 d_BL_part_59 ?_
          refine lv_iload_n hx hb d_BL_part_62 rfl (lv_at hl 1 rfl) ?_
          obtain ⟨v20, h21, hf⟩ := px_bind hf
          refine px_rai hx hb hK hM 0 rfl h21 d_BL_part_63 ?_
          obtain ⟨rfl, rfl⟩ := px_s2 hf
          exact px_iret hx hb hr hlocks hM hS d_BL_part_64
        · have hf := px_iff hf c17
          refine lv_tableOut (tgt := 65) hx hb d_BL_part_17 (px_out3 c7 c12 c17) (by decide) ?_
          refine lv_iconst (v := (-1)) hx hb d_BL_part_65 (by decide) ?_
          obtain ⟨rfl, rfl⟩ := px_s2 hf
          exact px_iret hx hb hr hlocks hM hS d_BL_part_66
  · have hf := px_ift hf c6
    refine lv_iconst (v := (-1)) hx hb d_BL_part_14 (by decide) ?_
    obtain ⟨rfl, rfl⟩ := px_s2 hf
    exact px_iret hx hb hr hlocks hM hS d_BL_part_15
