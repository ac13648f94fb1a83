def f_MO_readRule (o0 : Nat) (x1 : Int32) (M : px_M) : Option (px_M) :=
  (px_gi 11 14 M o0).bind fun v1 =>
  (px_pt 11 14 M o0 (.int (v1 + 1))).bind fun M3 =>
  if x1 = 104 then
  (px_ob 11 M3 o0).bind fun _ =>
  (f_MO_readHeights o0 M3).bind fun M97 =>
  some M97
  else
  if x1 = 109 then
  (px_ob 11 M3 o0).bind fun _ =>
  (f_MO_number o0 0 M3).bind fun (v82, M80) =>
  (px_pt 11 11 M80 o0 (.int v82)).bind fun M83 =>
  (px_gi 11 15 M83 o0).bind fun v85 =>
  if v85 = 0 then
  (px_ob 11 M83 o0).bind fun _ =>
  (f_MO_number o0 0 M83).bind fun (v90, M88) =>
  (px_pt 11 12 M88 o0 (.int v90)).bind fun M91 =>
  some M91
  else
  (px_pt 11 12 M83 o0 (.int 0)).bind fun M94 =>
  some M94
  else
  (px_ob 11 M3 o0).bind fun _ =>
  (f_MO_look o0 M3).bind fun (v9, M7) =>
  (px_pt 11 13 M7 o0 (.int v9)).bind fun M10 =>
  (px_gi 11 13 M10 o0).bind fun v12 =>
  if v12 = 110 then
  (px_pt 11 15 M10 o0 (.int 0)).bind fun M15 =>
  (px_gi 11 14 M15 o0).bind fun v17 =>
  (px_gi 11 15 M15 o0).bind fun v19 =>
  if v19 = 0 then
  (px_pt 11 14 M15 o0 (.int (v17 + 1))).bind fun M22 =>
  some M22
  else
  (px_pt 11 14 M15 o0 (.int (v17 + 0))).bind fun M24 =>
  some M24
  else
  (px_gi 11 13 M10 o0).bind fun v26 =>
  if v26 = 102 then
  (px_pt 11 15 M10 o0 (.int 0)).bind fun M29 =>
  (px_gi 11 14 M29 o0).bind fun v31 =>
  (px_gi 11 15 M29 o0).bind fun v33 =>
  if v33 = 0 then
  (px_pt 11 14 M29 o0 (.int (v31 + 1))).bind fun M36 =>
  some M36
  else
  (px_pt 11 14 M29 o0 (.int (v31 + 0))).bind fun M38 =>
  some M38
  else
  (px_gi 11 13 M10 o0).bind fun v40 =>
  if v40 = 97 then
  (px_pt 11 15 M10 o0 (.int 0)).bind fun M43 =>
  (px_gi 11 14 M43 o0).bind fun v45 =>
  (px_gi 11 15 M43 o0).bind fun v47 =>
  if v47 = 0 then
  (px_pt 11 14 M43 o0 (.int (v45 + 1))).bind fun M50 =>
  some M50
  else
  (px_pt 11 14 M43 o0 (.int (v45 + 0))).bind fun M52 =>
  some M52
  else
  (px_gi 11 13 M10 o0).bind fun v54 =>
  if v54 = 116 then
  (px_pt 11 15 M10 o0 (.int 0)).bind fun M57 =>
  (px_gi 11 14 M57 o0).bind fun v59 =>
  (px_gi 11 15 M57 o0).bind fun v61 =>
  if v61 = 0 then
  (px_pt 11 14 M57 o0 (.int (v59 + 1))).bind fun M64 =>
  some M64
  else
  (px_pt 11 14 M57 o0 (.int (v59 + 0))).bind fun M66 =>
  some M66
  else
  (px_pt 11 15 M10 o0 (.int 1)).bind fun M68 =>
  (px_gi 11 14 M68 o0).bind fun v70 =>
  (px_gi 11 15 M68 o0).bind fun v72 =>
  if v72 = 0 then
  (px_pt 11 14 M68 o0 (.int (v70 + 1))).bind fun M75 =>
  some M75
  else
  (px_pt 11 14 M68 o0 (.int (v70 + 0))).bind fun M77 =>
  some M77
set_option maxHeartbeats 4000000 in
set_option maxRecDepth 100000 in
theorem c_MO_readRule (l : Launch) (bs : Nat) (D : va_G) (G : Nat → ClassId) (o0 : Nat) (x1 : Int32) (M : px_M) {M' : px_M} (hf : f_MO_readRule o0 x1 M = some M') : Met l y_MO_readRule (.code y_MO_readRule b_MO_readRule 2 none :: px_tw) ⟨3, 0, 0, 69⟩ (va_Pc [.ref o0, .int x1] (px_B bs D px_cl (px_tys G) px_nw px_over M)) (px_Qv bs D px_cl (px_tys G) M') 0 0 (fun q => bs ≤ q) := by
  refine px_of (by decide) (Nat.le_of_ble_eq_true rfl) ?_
  intro p e s m below meth c ls C0 hM hS hl
  obtain ⟨hx, hb, hr, hml, hown, hnm, hlocks, hts, hK, hN, hO⟩ := C0
  have hl : lv_has ls 2 [(0, .ref o0), (1, .int x1)] := hl
  unfold f_MO_readRule at hf
  refine lv_aload_n hx hb d_MO_readRule_0 rfl (lv_at hl 0 rfl) ?_
  refine lv_dup hx hb d_MO_readRule_1 rfl ?_
  obtain ⟨v1, h2, hf⟩ := px_bind hf
  refine px_rgi hx hb hts cl_MO hown hK hM 14 (by decide) (hts _ w_659) h2 d_MO_readRule_2 ?_
  refine lv_iconst (v := 1) hx hb d_MO_readRule_5 (by decide) ?_
  refine lv_iadd hx hb d_MO_readRule_6 ?_
  obtain ⟨M3, h4, hf⟩ := px_bind hf
  refine px_rpt hx hb hts cl_MO hown hK hM hS 14 (by decide) (hts _ w_659) rfl rfl rfl h4 d_MO_readRule_7 (fun H locs hM hS => ?_)
  refine lv_iload_n hx hb d_MO_readRule_10 rfl (lv_at hl 1 rfl) ?_
  refine lv_bipush (v := 104) hx hb d_MO_readRule_11 (by decide) ?_
  refine lv_icmp_ne (tgt := 23) hx hb d_MO_readRule_13 (by decide) (fun c5 => ?_) (fun c5 => ?_)
  · have hf := px_iff hf c5
    refine lv_iload_n hx hb d_MO_readRule_23 rfl (lv_at hl 1 rfl) ?_
    refine lv_bipush (v := 109) hx hb d_MO_readRule_24 (by decide) ?_
    refine lv_icmp_ne (tgt := 61) hx hb d_MO_readRule_26 (by decide) (fun c6 => ?_) (fun c6 => ?_)
    · have hf := px_iff hf c6
      refine lv_aload_n hx hb d_MO_readRule_61 rfl (lv_at hl 0 rfl) ?_
      refine lv_aload_n hx hb d_MO_readRule_62 rfl (lv_at hl 0 rfl) ?_
      obtain ⟨_, h79, hf⟩ := px_bind hf
      obtain ⟨⟨v9, M7⟩, h8, hf⟩ := px_bind hf
      dsimp only at hf
      refine px_calli (va_runV (As := []) (rest := [.ref o0]) ⟨hx, hb, hml, hown, hts⟩ (c_MO_look l bs D G o0 M3 h8) (cwV 0 hts (px_gV w_783 w_785 ws_MO_look w_12 w_786) rfl rfl rfl (by decide +kernel) ⟨Nat.le_of_ble_eq_true rfl, Nat.le_of_ble_eq_true rfl⟩) (px_preV px_nwok hK hN hO hM h79 rfl) rfl rfl hl.1 rfl (lv_room (Nat.le_of_ble_eq_true rfl)) d_MO_readRule_63 ⟨Nat.le_of_ble_eq_true rfl, Nat.le_of_ble_eq_true rfl⟩) hS (fun H locs hM hS => ?_)
      obtain ⟨M10, h11, hf⟩ := px_bind hf
      refine px_rpt hx hb hts cl_MO hown hK hM hS 13 (by decide) (hts _ w_658) rfl rfl rfl h11 d_MO_readRule_66 (fun H locs hM hS => ?_)
      refine lv_aload_n hx hb d_MO_readRule_69 rfl (lv_at hl 0 rfl) ?_
      refine lv_aload_n hx hb d_MO_readRule_70 rfl (lv_at hl 0 rfl) ?_
      obtain ⟨v12, h13, hf⟩ := px_bind hf
      refine px_rgi hx hb hts cl_MO hown hK hM 13 (by decide) (hts _ w_658) h13 d_MO_readRule_71 ?_
      refine lv_bipush (v := 110) hx hb d_MO_readRule_74 (by decide) ?_
      refine lv_icmp_eq (tgt := 110) hx hb d_MO_readRule_76 (by decide) (fun c14 => ?_) (fun c14 => ?_)
      · have hf := px_ift hf c14
        refine lv_iconst (v := 0) hx hb d_MO_readRule_110 (by decide) ?_
        obtain ⟨M15, h16, hf⟩ := px_bind hf
        refine px_rpt hx hb hts cl_MO hown hK hM hS 15 (by decide) (hts _ w_660) rfl rfl rfl h16 d_MO_readRule_111 (fun H locs hM hS => ?_)
        refine lv_aload_n hx hb d_MO_readRule_114 rfl (lv_at hl 0 rfl) ?_
        refine lv_dup hx hb d_MO_readRule_115 rfl ?_
        obtain ⟨v17, h18, hf⟩ := px_bind hf
        refine px_rgi hx hb hts cl_MO hown hK hM 14 (by decide) (hts _ w_659) h18 d_MO_readRule_116 ?_
        refine lv_aload_n hx hb d_MO_readRule_119 rfl (lv_at hl 0 rfl) ?_
        obtain ⟨v19, h20, hf⟩ := px_bind hf
        refine px_rgi hx hb hts cl_MO hown hK hM 15 (by decide) (hts _ w_660) h20 d_MO_readRule_120 ?_
        refine lv_if_eq (tgt := 130) hx hb d_MO_readRule_123 (by decide) (fun c21 => ?_) (fun c21 => ?_)
        · have hf := px_ift hf c21
          refine lv_iconst (v := 1) hx hb d_MO_readRule_130 (by decide) ?_
          refine lv_iadd hx hb d_MO_readRule_131 ?_
          obtain ⟨M22, h23, hf⟩ := px_bind hf
          refine px_rpt hx hb hts cl_MO hown hK hM hS 14 (by decide) (hts _ w_659) rfl rfl rfl h23 d_MO_readRule_132 (fun H locs hM hS => ?_)
          obtain rfl := px_s1 hf
          exact px_vret hx hb hr hlocks hM hS d_MO_readRule_135
        · have hf := px_iff hf c21
          refine lv_iconst (v := 0) hx hb d_MO_readRule_126 (by decide) ?_
          refine lv_goto (tgt := 131) hx hb d_MO_readRule_127 (by decide) ?_
          refine lv_iadd hx hb d_MO_readRule_131 ?_
          obtain ⟨M24, h25, hf⟩ := px_bind hf
          refine px_rpt hx hb hts cl_MO hown hK hM hS 14 (by decide) (hts _ w_659) rfl rfl rfl h25 d_MO_readRule_132 (fun H locs hM hS => ?_)
          obtain rfl := px_s1 hf
          exact px_vret hx hb hr hlocks hM hS d_MO_readRule_135
      · have hf := px_iff hf c14
        refine lv_aload_n hx hb d_MO_readRule_79 rfl (lv_at hl 0 rfl) ?_
        obtain ⟨v26, h27, hf⟩ := px_bind hf
        refine px_rgi hx hb hts cl_MO hown hK hM 13 (by decide) (hts _ w_658) h27 d_MO_readRule_80 ?_
        refine lv_bipush (v := 102) hx hb d_MO_readRule_83 (by decide) ?_
        refine lv_icmp_eq (tgt := 110) hx hb d_MO_readRule_85 (by decide) (fun c28 => ?_) (fun c28 => ?_)
        · have hf := px_ift hf c28
          refine lv_iconst (v := 0) hx hb d_MO_readRule_110 (by decide) ?_
          obtain ⟨M29, h30, hf⟩ := px_bind hf
          refine px_rpt hx hb hts cl_MO hown hK hM hS 15 (by decide) (hts _ w_660) rfl rfl rfl h30 d_MO_readRule_111 (fun H locs hM hS => ?_)
          refine lv_aload_n hx hb d_MO_readRule_114 rfl (lv_at hl 0 rfl) ?_
          refine lv_dup hx hb d_MO_readRule_115 rfl ?_
          obtain ⟨v31, h32, hf⟩ := px_bind hf
          refine px_rgi hx hb hts cl_MO hown hK hM 14 (by decide) (hts _ w_659) h32 d_MO_readRule_116 ?_
          refine lv_aload_n hx hb d_MO_readRule_119 rfl (lv_at hl 0 rfl) ?_
          obtain ⟨v33, h34, hf⟩ := px_bind hf
          refine px_rgi hx hb hts cl_MO hown hK hM 15 (by decide) (hts _ w_660) h34 d_MO_readRule_120 ?_
          refine lv_if_eq (tgt := 130) hx hb d_MO_readRule_123 (by decide) (fun c35 => ?_) (fun c35 => ?_)
          · have hf := px_ift hf c35
            refine lv_iconst (v := 1) hx hb d_MO_readRule_130 (by decide) ?_
            refine lv_iadd hx hb d_MO_readRule_131 ?_
            obtain ⟨M36, h37, hf⟩ := px_bind hf
            refine px_rpt hx hb hts cl_MO hown hK hM hS 14 (by decide) (hts _ w_659) rfl rfl rfl h37 d_MO_readRule_132 (fun H locs hM hS => ?_)
            obtain rfl := px_s1 hf
            exact px_vret hx hb hr hlocks hM hS d_MO_readRule_135
          · have hf := px_iff hf c35
            refine lv_iconst (v := 0) hx hb d_MO_readRule_126 (by decide) ?_
            refine lv_goto (tgt := 131) hx hb d_MO_readRule_127 (by decide) ?_
            refine lv_iadd hx hb d_MO_readRule_131 ?_
            obtain ⟨M38, h39, hf⟩ := px_bind hf
            refine px_rpt hx hb hts cl_MO hown hK hM hS 14 (by decide) (hts _ w_659) rfl rfl rfl h39 d_MO_readRule_132 (fun H locs hM hS => ?_)
            obtain rfl := px_s1 hf
            exact px_vret hx hb hr hlocks hM hS d_MO_readRule_135
        · have hf := px_iff hf c28
          refine lv_aload_n hx hb d_MO_readRule_88 rfl (lv_at hl 0 rfl) ?_
          obtain ⟨v40, h41, hf⟩ := px_bind hf
          refine px_rgi hx hb hts cl_MO hown hK hM 13 (by decide) (hts _ w_658) h41 d_MO_readRule_89 ?_
          refine lv_bipush (v := 97) hx hb d_MO_readRule_92 (by decide) ?_
          refine lv_icmp_eq (tgt := 110) hx hb d_MO_readRule_94 (by decide) (fun c42 => ?_) (fun c42 => ?_)
          · have hf := px_ift hf c42
            refine lv_iconst (v := 0) hx hb d_MO_readRule_110 (by decide) ?_
            obtain ⟨M43, h44, hf⟩ := px_bind hf
            refine px_rpt hx hb hts cl_MO hown hK hM hS 15 (by decide) (hts _ w_660) rfl rfl rfl h44 d_MO_readRule_111 (fun H locs hM hS => ?_)
            refine lv_aload_n hx hb d_MO_readRule_114 rfl (lv_at hl 0 rfl) ?_
            refine lv_dup hx hb d_MO_readRule_115 rfl ?_
            obtain ⟨v45, h46, hf⟩ := px_bind hf
            refine px_rgi hx hb hts cl_MO hown hK hM 14 (by decide) (hts _ w_659) h46 d_MO_readRule_116 ?_
            refine lv_aload_n hx hb d_MO_readRule_119 rfl (lv_at hl 0 rfl) ?_
            obtain ⟨v47, h48, hf⟩ := px_bind hf
            refine px_rgi hx hb hts cl_MO hown hK hM 15 (by decide) (hts _ w_660) h48 d_MO_readRule_120 ?_
            refine lv_if_eq (tgt := 130) hx hb d_MO_readRule_123 (by decide) (fun c49 => ?_) (fun c49 => ?_)
            · have hf := px_ift hf c49
              refine lv_iconst (v := 1) hx hb d_MO_readRule_130 (by decide) ?_
              refine lv_iadd hx hb d_MO_readRule_131 ?_
              obtain ⟨M50, h51, hf⟩ := px_bind hf
              refine px_rpt hx hb hts cl_MO hown hK hM hS 14 (by decide) (hts _ w_659) rfl rfl rfl h51 d_MO_readRule_132 (fun H locs hM hS => ?_)
              obtain rfl := px_s1 hf
              exact px_vret hx hb hr hlocks hM hS d_MO_readRule_135
            · have hf := px_iff hf c49
              refine lv_iconst (v := 0) hx hb d_MO_readRule_126 (by decide) ?_
              refine lv_goto (tgt := 131) hx hb d_MO_readRule_127 (by decide) ?_
              refine lv_iadd hx hb d_MO_readRule_131 ?_
              obtain ⟨M52, h53, hf⟩ := px_bind hf
              refine px_rpt hx hb hts cl_MO hown hK hM hS 14 (by decide) (hts _ w_659) rfl rfl rfl h53 d_MO_readRule_132 (fun H locs hM hS => ?_)
              obtain rfl := px_s1 hf
              exact px_vret hx hb hr hlocks hM hS d_MO_readRule_135
          · have hf := px_iff hf c42
            refine lv_aload_n hx hb d_MO_readRule_97 rfl (lv_at hl 0 rfl) ?_
            obtain ⟨v54, h55, hf⟩ := px_bind hf
            refine px_rgi hx hb hts cl_MO hown hK hM 13 (by decide) (hts _ w_658) h55 d_MO_readRule_98 ?_
            refine lv_bipush (v := 116) hx hb d_MO_readRule_101 (by decide) ?_
            refine lv_icmp_eq (tgt := 110) hx hb d_MO_readRule_103 (by decide) (fun c56 => ?_) (fun c56 => ?_)
            · have hf := px_ift hf c56
              refine lv_iconst (v := 0) hx hb d_MO_readRule_110 (by decide) ?_
              obtain ⟨M57, h58, hf⟩ := px_bind hf
              refine px_rpt hx hb hts cl_MO hown hK hM hS 15 (by decide) (hts _ w_660) rfl rfl rfl h58 d_MO_readRule_111 (fun H locs hM hS => ?_)
              refine lv_aload_n hx hb d_MO_readRule_114 rfl (lv_at hl 0 rfl) ?_
              refine lv_dup hx hb d_MO_readRule_115 rfl ?_
              obtain ⟨v59, h60, hf⟩ := px_bind hf
              refine px_rgi hx hb hts cl_MO hown hK hM 14 (by decide) (hts _ w_659) h60 d_MO_readRule_116 ?_
              refine lv_aload_n hx hb d_MO_readRule_119 rfl (lv_at hl 0 rfl) ?_
              obtain ⟨v61, h62, hf⟩ := px_bind hf
              refine px_rgi hx hb hts cl_MO hown hK hM 15 (by decide) (hts _ w_660) h62 d_MO_readRule_120 ?_
              refine lv_if_eq (tgt := 130) hx hb d_MO_readRule_123 (by decide) (fun c63 => ?_) (fun c63 => ?_)
              · have hf := px_ift hf c63
                refine lv_iconst (v := 1) hx hb d_MO_readRule_130 (by decide) ?_
                refine lv_iadd hx hb d_MO_readRule_131 ?_
                obtain ⟨M64, h65, hf⟩ := px_bind hf
                refine px_rpt hx hb hts cl_MO hown hK hM hS 14 (by decide) (hts _ w_659) rfl rfl rfl h65 d_MO_readRule_132 (fun H locs hM hS => ?_)
                obtain rfl := px_s1 hf
                exact px_vret hx hb hr hlocks hM hS d_MO_readRule_135
              · have hf := px_iff hf c63
                refine lv_iconst (v := 0) hx hb d_MO_readRule_126 (by decide) ?_
                refine lv_goto (tgt := 131) hx hb d_MO_readRule_127 (by decide) ?_
                refine lv_iadd hx hb d_MO_readRule_131 ?_
                obtain ⟨M66, h67, hf⟩ := px_bind hf
                refine px_rpt hx hb hts cl_MO hown hK hM hS 14 (by decide) (hts _ w_659) rfl rfl rfl h67 d_MO_readRule_132 (fun H locs hM hS => ?_)
                obtain rfl := px_s1 hf
                exact px_vret hx hb hr hlocks hM hS d_MO_readRule_135
            · have hf := px_iff hf c56
              refine lv_iconst (v := 1) hx hb d_MO_readRule_106 (by decide) ?_
              refine lv_goto (tgt := 111) hx hb d_MO_readRule_107 (by decide) ?_
              obtain ⟨M68, h69, hf⟩ := px_bind hf
              refine px_rpt hx hb hts cl_MO hown hK hM hS 15 (by decide) (hts _ w_660) rfl rfl rfl h69 d_MO_readRule_111 (fun H locs hM hS => ?_)
              refine lv_aload_n hx hb d_MO_readRule_114 rfl (lv_at hl 0 rfl) ?_
              refine lv_dup hx hb d_MO_readRule_115 rfl ?_
              obtain ⟨v70, h71, hf⟩ := px_bind hf
              refine px_rgi hx hb hts cl_MO hown hK hM 14 (by decide) (hts _ w_659) h71 d_MO_readRule_116 ?_
              refine lv_aload_n hx hb d_MO_readRule_119 rfl (lv_at hl 0 rfl) ?_
              obtain ⟨v72, h73, hf⟩ := px_bind hf
              refine px_rgi hx hb hts cl_MO hown hK hM 15 (by decide) (hts _ w_660) h73 d_MO_readRule_120 ?_
              refine lv_if_eq (tgt := 130) hx hb d_MO_readRule_123 (by decide) (fun c74 => ?_) (fun c74 => ?_)
              · have hf := px_ift hf c74
                refine lv_iconst (v := 1) hx hb d_MO_readRule_130 (by decide) ?_
                refine lv_iadd hx hb d_MO_readRule_131 ?_
                obtain ⟨M75, h76, hf⟩ := px_bind hf
                refine px_rpt hx hb hts cl_MO hown hK hM hS 14 (by decide) (hts _ w_659) rfl rfl rfl h76 d_MO_readRule_132 (fun H locs hM hS => ?_)
                obtain rfl := px_s1 hf
                exact px_vret hx hb hr hlocks hM hS d_MO_readRule_135
              · have hf := px_iff hf c74
                refine lv_iconst (v := 0) hx hb d_MO_readRule_126 (by decide) ?_
                refine lv_goto (tgt := 131) hx hb d_MO_readRule_127 (by decide) ?_
                refine lv_iadd hx hb d_MO_readRule_131 ?_
                obtain ⟨M77, h78, hf⟩ := px_bind hf
                refine px_rpt hx hb hts cl_MO hown hK hM hS 14 (by decide) (hts _ w_659) rfl rfl rfl h78 d_MO_readRule_132 (fun H locs hM hS => ?_)
                obtain rfl := px_s1 hf
                exact px_vret hx hb hr hlocks hM hS d_MO_readRule_135
    · have hf := px_ift hf c6
      refine lv_aload_n hx hb d_MO_readRule_29 rfl (lv_at hl 0 rfl) ?_
      refine lv_aload_n hx hb d_MO_readRule_30 rfl (lv_at hl 0 rfl) ?_
      refine lv_iconst (v := 0) hx hb d_MO_readRule_31 (by decide) ?_
      obtain ⟨_, h96, hf⟩ := px_bind hf
      obtain ⟨⟨v82, M80⟩, h81, hf⟩ := px_bind hf
      dsimp only at hf
      refine px_calli (va_runV (As := [.int 0]) (rest := [.ref o0]) ⟨hx, hb, hml, hown, hts⟩ (c_MO_number l bs D G o0 0 M3 h81) (cwV 1 hts (px_gV w_795 w_797 ws_MO_number w_12 w_798) rfl rfl rfl (by decide +kernel) ⟨Nat.le_of_ble_eq_true rfl, Nat.le_of_ble_eq_true rfl⟩) (px_preV px_nwok hK hN hO hM h96 rfl) rfl rfl hl.1 rfl (lv_room (Nat.le_of_ble_eq_true rfl)) d_MO_readRule_32 ⟨Nat.le_of_ble_eq_true rfl, Nat.le_of_ble_eq_true rfl⟩) hS (fun H locs hM hS => ?_)
      obtain ⟨M83, h84, hf⟩ := px_bind hf
      refine px_rpt hx hb hts cl_MO hown hK hM hS 11 (by decide) (hts _ w_656) rfl rfl rfl h84 d_MO_readRule_35 (fun H locs hM hS => ?_)
      refine lv_aload_n hx hb d_MO_readRule_38 rfl (lv_at hl 0 rfl) ?_
      refine lv_aload_n hx hb d_MO_readRule_39 rfl (lv_at hl 0 rfl) ?_
      obtain ⟨v85, h86, hf⟩ := px_bind hf
      refine px_rgi hx hb hts cl_MO hown hK hM 15 (by decide) (hts _ w_660) h86 d_MO_readRule_40 ?_
      refine lv_if_eq (tgt := 50) hx hb d_MO_readRule_43 (by decide) (fun c87 => ?_) (fun c87 => ?_)
      · have hf := px_ift hf c87
        refine lv_aload_n hx hb d_MO_readRule_50 rfl (lv_at hl 0 rfl) ?_
        refine lv_iconst (v := 0) hx hb d_MO_readRule_51 (by decide) ?_
        obtain ⟨_, h93, hf⟩ := px_bind hf
        obtain ⟨⟨v90, M88⟩, h89, hf⟩ := px_bind hf
        dsimp only at hf
        refine px_calli (va_runV (As := [.int 0]) (rest := [.ref o0]) ⟨hx, hb, hml, hown, hts⟩ (c_MO_number l bs D G o0 0 M83 h89) (cwV 1 hts (px_gV w_795 w_797 ws_MO_number w_12 w_798) rfl rfl rfl (by decide +kernel) ⟨Nat.le_of_ble_eq_true rfl, Nat.le_of_ble_eq_true rfl⟩) (px_preV px_nwok hK hN hO hM h93 rfl) rfl rfl hl.1 rfl (lv_room (Nat.le_of_ble_eq_true rfl)) d_MO_readRule_52 ⟨Nat.le_of_ble_eq_true rfl, Nat.le_of_ble_eq_true rfl⟩) hS (fun H locs hM hS => ?_)
        obtain ⟨M91, h92, hf⟩ := px_bind hf
        refine px_rpt hx hb hts cl_MO hown hK hM hS 12 (by decide) (hts _ w_657) rfl rfl rfl h92 d_MO_readRule_55 (fun H locs hM hS => ?_)
        refine lv_goto (tgt := 135) hx hb d_MO_readRule_58 (by decide) ?_
        obtain rfl := px_s1 hf
        exact px_vret hx hb hr hlocks hM hS d_MO_readRule_135
      · have hf := px_iff hf c87
        refine lv_iconst (v := 0) hx hb d_MO_readRule_46 (by decide) ?_
        refine lv_goto (tgt := 55) hx hb d_MO_readRule_47 (by decide) ?_
        obtain ⟨M94, h95, hf⟩ := px_bind hf
        refine px_rpt hx hb hts cl_MO hown hK hM hS 12 (by decide) (hts _ w_657) rfl rfl rfl h95 d_MO_readRule_55 (fun H locs hM hS => ?_)
        refine lv_goto (tgt := 135) hx hb d_MO_readRule_58 (by decide) ?_
        obtain rfl := px_s1 hf
        exact px_vret hx hb hr hlocks hM hS d_MO_readRule_135
  · have hf := px_ift hf c5
    refine lv_aload_n hx hb d_MO_readRule_16 rfl (lv_at hl 0 rfl) ?_
    obtain ⟨_, h99, hf⟩ := px_bind hf
    obtain ⟨M97, h98, hf⟩ := px_bind hf
    refine px_callv (va_runV (As := []) (rest := []) ⟨hx, hb, hml, hown, hts⟩ (c_MO_readHeights l bs D G o0 M3 h98) (cwV 0 hts (px_gV w_791 w_793 ws_MO_readHeights w_12 w_794) rfl rfl rfl (by decide +kernel) ⟨Nat.le_of_ble_eq_true rfl, Nat.le_of_ble_eq_true rfl⟩) (px_preV px_nwok hK hN hO hM h99 rfl) rfl rfl hl.1 rfl (lv_room (Nat.le_of_ble_eq_true rfl)) d_MO_readRule_17 ⟨Nat.le_of_ble_eq_true rfl, Nat.le_of_ble_eq_true rfl⟩) hS (fun H locs hM hS => ?_)
    refine lv_goto (tgt := 135) hx hb d_MO_readRule_20 (by decide) ?_
    obtain rfl := px_s1 hf
    exact px_vret hx hb hr hlocks hM hS d_MO_readRule_135
def f_MO_rules_J238 (rec : Int32 → Int32 → Int32 → Int32 → Int32 → px_M → Option ((Int32) × px_M)) (o0 : Nat) (x1 : Int32) (x2 : Int32) (x3 : Int32) (x4 : Int32) (x7 : Int32) (s0 : Int32) (p1 : Nat) (M : px_M) : Option ((Int32) × px_M) :=
  if s0 = 0 ∨ s0 = 1 then
  (px_pt 11 15 M p1 (.int s0)).bind fun M44 =>
  if x7 = 59 then
  (px_gi 11 14 M44 o0).bind fun v52 =>
  (px_pt 11 14 M44 o0 (.int (v52 + 1))).bind fun M55 =>
  rec x1 x2 x3 x4 1 M55
  else
  (px_gi 11 14 M44 o0).bind fun v47 =>
  (px_pt 11 14 M44 o0 (.int (v47 + 0))).bind fun M50 =>
  rec x1 x2 x3 x4 0 M50
  else none
set_option maxHeartbeats 4000000 in
set_option maxRecDepth 100000 in
theorem jn_MO_rules_J238 {p : Program} {l : Launch} {e : Env} {s : State} {m : MethodId} {args : Array Value} {below : List Frame} {meth : Method} {c : Code} {bs : Nat} {D : va_G} {G : Nat → ClassId} {Q : State → Prop} (C0 : px_At p s m meth c y_MO_rules b_MO_rules 8 (some .int) args D px_cl (px_tys G) px_nw px_over) (x : Int32) (M' : px_M) (o0 : Nat) (kx : ∀ (H : Heap) (locs : List Loc) (ls : Array Slot), px_W bs D px_cl (px_tys G) M' H → va_S (fun q => bs ≤ q) s.heap H locs → lv_has ls 8 [(0, .ref o0), (4, .int x)] → W p l e ⟨4, 0, 0, 90⟩ s m args below meth c H locs 0 0 Q (F0 m 277 ls []))  (rec : Int32 → Int32 → Int32 → Int32 → Int32 → px_M → Option ((Int32) × px_M)) (ih : ∀ (x1 : Int32) (x2 : Int32) (x3 : Int32) (x4 : Int32) (x5 : Int32) (M : px_M), rec x1 x2 x3 x4 x5 M = some (x, M') → ∀ (H : Heap) (locs : List Loc) (ls : Array Slot), px_W bs D px_cl (px_tys G) M H → va_S (fun q => bs ≤ q) s.heap H locs → lv_has ls 8 [(0, .ref o0), (1, .int x1), (2, .int x2), (3, .int x3), (4, .int x4), (5, .int x5)] → W p l e ⟨4, 0, 0, 90⟩ s m args below meth c H locs 0 0 Q (F0 m 59 ls [])) : ∀ (x1 : Int32) (x2 : Int32) (x3 : Int32) (x4 : Int32) (x7 : Int32) (s0 : Int32) (p1 : Nat) (M : px_M), f_MO_rules_J238 rec o0 x1 x2 x3 x4 x7 s0 p1 M = some (x, M') → ∀ (H : Heap) (locs : List Loc) (ls : Array Slot), px_W bs D px_cl (px_tys G) M H → va_S (fun q => bs ≤ q) s.heap H locs → lv_has ls 8 [(0, .ref o0), (1, .int x1), (2, .int x2), (3, .int x3), (4, .int x4), (7, .int x7)] → W p l e ⟨4, 0, 0, 90⟩ s m args below meth c H locs 0 0 Q (F0 m 238 ls [.int s0, .ref p1]) := by
  obtain ⟨hx, hb, hr, hml, hown, hnm, hlocks, hts, hK, hN, hO⟩ := C0
  intro x1 x2 x3 x4 x7 s0 p1 M hf H locs ls hM hS hl
  unfold f_MO_rules_J238 at hf
  have hz : s0 = 0 ∨ s0 = 1 := Classical.byContradiction fun q => (by have q2 := px_iff hf q; cases q2)
  have hf := px_ift hf hz
  obtain ⟨M44, h45, hf⟩ := px_bind hf
  refine px_rpt hx hb hts cl_MO hown hK hM hS 15 (by decide) (hts _ w_660) rfl (px_nz hz) (px_fz hz) h45 d_MO_rules_238 (fun H locs hM hS => ?_)
  refine lv_iload hx hb d_MO_rules_241 (lv_at hl 5 rfl) ?_
  refine lv_bipush (v := 59) hx hb d_MO_rules_243 (by decide) ?_
  refine lv_icmp_ne (tgt := 252) hx hb d_MO_rules_245 (by decide) (fun c46 => ?_) (fun c46 => ?_)
  · have hf := px_iff hf c46
    refine lv_iconst (v := 0) hx hb d_MO_rules_252 (by decide) ?_
    refine lv_istore (lv' := [(5, .int 0), (0, .ref o0), (1, .int x1), (2, .int x2), (3, .int x3), (4, .int x4), (7, .int x7)]) hx hb d_MO_rules_253 hl (by decide) rfl (fun ls hl => ?_)
    refine lv_aload_n hx hb d_MO_rules_255 rfl (lv_at hl 1 rfl) ?_
    refine lv_dup hx hb d_MO_rules_256 rfl ?_
    obtain ⟨v47, h48, hf⟩ := px_bind hf
    refine px_rgi hx hb hts cl_MO hown hK hM 14 (by decide) (hts _ w_659) h48 d_MO_rules_257 ?_
    refine lv_iload hx hb d_MO_rules_260 (lv_at hl 0 rfl) ?_
    refine lv_if_eq (tgt := 269) hx hb d_MO_rules_262 (by decide) (fun c49 => ?_) (fun c49 => False.elim (by revert c49; decide))
    refine lv_iconst (v := 0) hx hb d_MO_rules_269 (by decide) ?_
    refine lv_iadd hx hb d_MO_rules_270 ?_
    obtain ⟨M50, h51, hf⟩ := px_bind hf
    refine px_rpt hx hb hts cl_MO hown hK hM hS 14 (by decide) (hts _ w_659) rfl rfl rfl h51 d_MO_rules_271 (fun H locs hM hS => ?_)
    refine lv_goto (tgt := 59) hx hb d_MO_rules_274 (by decide) ?_
    exact ih x1 x2 x3 x4 0 M50 hf _ _ _ hM hS (lv_sub hl [1, 2, 3, 4, 5, 0] rfl)
  · have hf := px_ift hf c46
    refine lv_iconst (v := 1) hx hb d_MO_rules_248 (by decide) ?_
    refine lv_goto (tgt := 253) hx hb d_MO_rules_249 (by decide) ?_
    refine lv_istore (lv' := [(5, .int 1), (0, .ref o0), (1, .int x1), (2, .int x2), (3, .int x3), (4, .int x4), (7, .int x7)]) hx hb d_MO_rules_253 hl (by decide) rfl (fun ls hl => ?_)
    refine lv_aload_n hx hb d_MO_rules_255 rfl (lv_at hl 1 rfl) ?_
    refine lv_dup hx hb d_MO_rules_256 rfl ?_
    obtain ⟨v52, h53, hf⟩ := px_bind hf
    refine px_rgi hx hb hts cl_MO hown hK hM 14 (by decide) (hts _ w_659) h53 d_MO_rules_257 ?_
    refine lv_iload hx hb d_MO_rules_260 (lv_at hl 0 rfl) ?_
    refine lv_if_eq (tgt := 269) hx hb d_MO_rules_262 (by decide) (fun c54 => False.elim (by revert c54; decide)) (fun c54 => ?_)
    refine lv_iconst (v := 1) hx hb d_MO_rules_265 (by decide) ?_
    refine lv_goto (tgt := 270) hx hb d_MO_rules_266 (by decide) ?_
    refine lv_iadd hx hb d_MO_rules_270 ?_
    obtain ⟨M55, h56, hf⟩ := px_bind hf
    refine px_rpt hx hb hts cl_MO hown hK hM hS 14 (by decide) (hts _ w_659) rfl rfl rfl h56 d_MO_rules_271 (fun H locs hM hS => ?_)
    refine lv_goto (tgt := 59) hx hb d_MO_rules_274 (by decide) ?_
    exact ih x1 x2 x3 x4 1 M55 hf _ _ _ hM hS (lv_sub hl [1, 2, 3, 4, 5, 0] rfl)
def f_MO_rules_J207 (rec : Int32 → Int32 → Int32 → Int32 → Int32 → px_M → Option ((Int32) × px_M)) (o0 : Nat) (x1 : Int32) (x2 : Int32) (x3 : Int32) (x4 : Int32) (x5 : Int32)  (M : px_M) : Option ((Int32) × px_M) :=
  (px_gi 11 15 M o0).bind fun v37 =>
  if v37 = 0 then
  (px_ob 11 M o0).bind fun _ =>
  (f_MO_look o0 M).bind fun (v42, M40) =>
  if v42 = 0 then
  f_MO_rules_J238 rec o0 x1 x2 x3 x4 v42 0 o0 M40
  else
  if v42 = 59 then
  f_MO_rules_J238 rec o0 x1 x2 x3 x4 v42 0 o0 M40
  else
  f_MO_rules_J238 rec o0 x1 x2 x3 x4 v42 1 o0 M40
  else
  rec x1 x2 x3 x4 x5 M
set_option maxHeartbeats 4000000 in
set_option maxRecDepth 100000 in
theorem jn_MO_rules_J207 {p : Program} {l : Launch} {e : Env} {s : State} {m : MethodId} {args : Array Value} {below : List Frame} {meth : Method} {c : Code} {bs : Nat} {D : va_G} {G : Nat → ClassId} {Q : State → Prop} (C0 : px_At p s m meth c y_MO_rules b_MO_rules 8 (some .int) args D px_cl (px_tys G) px_nw px_over) (x : Int32) (M' : px_M) (o0 : Nat) (kx : ∀ (H : Heap) (locs : List Loc) (ls : Array Slot), px_W bs D px_cl (px_tys G) M' H → va_S (fun q => bs ≤ q) s.heap H locs → lv_has ls 8 [(0, .ref o0), (4, .int x)] → W p l e ⟨4, 0, 0, 90⟩ s m args below meth c H locs 0 0 Q (F0 m 277 ls []))  (rec : Int32 → Int32 → Int32 → Int32 → Int32 → px_M → Option ((Int32) × px_M)) (ih : ∀ (x1 : Int32) (x2 : Int32) (x3 : Int32) (x4 : Int32) (x5 : Int32) (M : px_M), rec x1 x2 x3 x4 x5 M = some (x, M') → ∀ (H : Heap) (locs : List Loc) (ls : Array Slot), px_W bs D px_cl (px_tys G) M H → va_S (fun q => bs ≤ q) s.heap H locs → lv_has ls 8 [(0, .ref o0), (1, .int x1), (2, .int x2), (3, .int x3), (4, .int x4), (5, .int x5)] → W p l e ⟨4, 0, 0, 90⟩ s m args below meth c H locs 0 0 Q (F0 m 59 ls [])) : ∀ (x1 : Int32) (x2 : Int32) (x3 : Int32) (x4 : Int32) (x5 : Int32)  (M : px_M), f_MO_rules_J207 rec o0 x1 x2 x3 x4 x5 M = some (x, M') → ∀ (H : Heap) (locs : List Loc) (ls : Array Slot), px_W bs D px_cl (px_tys G) M H → va_S (fun q => bs ≤ q) s.heap H locs → lv_has ls 8 [(0, .ref o0), (1, .int x1), (2, .int x2), (3, .int x3), (4, .int x4), (5, .int x5)] → W p l e ⟨4, 0, 0, 90⟩ s m args below meth c H locs 0 0 Q (F0 m 207 ls []) := by
  obtain ⟨hx, hb, hr, hml, hown, hnm, hlocks, hts, hK, hN, hO⟩ := C0
  intro x1 x2 x3 x4 x5 M hf H locs ls hM hS hl
  unfold f_MO_rules_J207 at hf
  refine lv_aload_n hx hb d_MO_rules_207 rfl (lv_at hl 0 rfl) ?_
  obtain ⟨v37, h38, hf⟩ := px_bind hf
  refine px_rgi hx hb hts cl_MO hown hK hM 15 (by decide) (hts _ w_660) h38 d_MO_rules_208 ?_
  refine lv_if_ne (tgt := 274) hx hb d_MO_rules_211 (by decide) (fun c39 => ?_) (fun c39 => ?_)
  · have hf := px_iff hf c39
    refine lv_goto (tgt := 59) hx hb d_MO_rules_274 (by decide) ?_
    exact ih x1 x2 x3 x4 x5 M hf _ _ _ hM hS (lv_sub hl [0, 1, 2, 3, 4, 5] rfl)
  · have hf := px_ift hf c39
    refine lv_aload_n hx hb d_MO_rules_214 rfl (lv_at hl 0 rfl) ?_
    obtain ⟨_, h58, hf⟩ := px_bind hf
    obtain ⟨⟨v42, M40⟩, h41, hf⟩ := px_bind hf
    dsimp only at hf
    refine px_calli (va_runV (As := []) (rest := []) ⟨hx, hb, hml, hown, hts⟩ (c_MO_look l bs D G o0 M h41) (cwV 0 hts (px_gV w_783 w_785 ws_MO_look w_12 w_786) rfl rfl rfl (by decide +kernel) ⟨Nat.le_of_ble_eq_true rfl, Nat.le_of_ble_eq_true rfl⟩) (px_preV px_nwok hK hN hO hM h58 rfl) rfl rfl hl.1 rfl (lv_room (Nat.le_of_ble_eq_true rfl)) d_MO_rules_215 ⟨Nat.le_of_ble_eq_true rfl, Nat.le_of_ble_eq_true rfl⟩) hS (fun H locs hM hS => ?_)
    refine lv_istore (lv' := [(7, .int v42), (0, .ref o0), (1, .int x1), (2, .int x2), (3, .int x3), (4, .int x4), (5, .int x5)]) hx hb d_MO_rules_218 hl (by decide) rfl (fun ls hl => ?_)
    refine lv_aload_n hx hb d_MO_rules_220 rfl (lv_at hl 1 rfl) ?_
    refine lv_iload hx hb d_MO_rules_221 (lv_at hl 0 rfl) ?_
    refine lv_if_eq (tgt := 237) hx hb d_MO_rules_223 (by decide) (fun c43 => ?_) (fun c43 => ?_)
    · have hf := px_ift hf c43
      refine lv_iconst (v := 0) hx hb d_MO_rules_237 (by decide) ?_
      exact jn_MO_rules_J238 ⟨hx, hb, hr, hml, hown, hnm, hlocks, hts, hK, hN, hO⟩ x M' o0 kx rec ih x1 x2 x3 x4 v42 0 o0 M40 hf _ _ _ hM hS (lv_sub hl [1, 2, 3, 4, 5, 0] rfl)
    · have hf := px_iff hf c43
      refine lv_iload hx hb d_MO_rules_226 (lv_at hl 0 rfl) ?_
      refine lv_bipush (v := 59) hx hb d_MO_rules_228 (by decide) ?_
      refine lv_icmp_eq (tgt := 237) hx hb d_MO_rules_230 (by decide) (fun c57 => ?_) (fun c57 => ?_)
      · have hf := px_ift hf c57
        refine lv_iconst (v := 0) hx hb d_MO_rules_237 (by decide) ?_
        exact jn_MO_rules_J238 ⟨hx, hb, hr, hml, hown, hnm, hlocks, hts, hK, hN, hO⟩ x M' o0 kx rec ih x1 x2 x3 x4 v42 0 o0 M40 hf _ _ _ hM hS (lv_sub hl [1, 2, 3, 4, 5, 0] rfl)
      · have hf := px_iff hf c57
        refine lv_iconst (v := 1) hx hb d_MO_rules_233 (by decide) ?_
        refine lv_goto (tgt := 238) hx hb d_MO_rules_234 (by decide) ?_
        exact jn_MO_rules_J238 ⟨hx, hb, hr, hml, hown, hnm, hlocks, hts, hK, hN, hO⟩ x M' o0 kx rec ih x1 x2 x3 x4 v42 1 o0 M40 hf _ _ _ hM hS (lv_sub hl [1, 2, 3, 4, 5, 0] rfl)
def f_MO_rules_J197 (rec : Int32 → Int32 → Int32 → Int32 → Int32 → px_M → Option ((Int32) × px_M)) (o0 : Nat) (x1 : Int32) (x2 : Int32) (x4 : Int32) (x5 : Int32) (x6 : Int32) (s0 : Int32) (M : px_M) : Option ((Int32) × px_M) :=
  (px_ob 11 M o0).bind fun _ =>
  (f_MO_readRule o0 x6 M).bind fun M62 =>
  f_MO_rules_J207 rec o0 x1 x2 s0 (x4 + 1) x5 M62
set_option maxHeartbeats 4000000 in
set_option maxRecDepth 100000 in
theorem jn_MO_rules_J197 {p : Program} {l : Launch} {e : Env} {s : State} {m : MethodId} {args : Array Value} {below : List Frame} {meth : Method} {c : Code} {bs : Nat} {D : va_G} {G : Nat → ClassId} {Q : State → Prop} (C0 : px_At p s m meth c y_MO_rules b_MO_rules 8 (some .int) args D px_cl (px_tys G) px_nw px_over) (x : Int32) (M' : px_M) (o0 : Nat) (kx : ∀ (H : Heap) (locs : List Loc) (ls : Array Slot), px_W bs D px_cl (px_tys G) M' H → va_S (fun q => bs ≤ q) s.heap H locs → lv_has ls 8 [(0, .ref o0), (4, .int x)] → W p l e ⟨4, 0, 0, 90⟩ s m args below meth c H locs 0 0 Q (F0 m 277 ls []))  (rec : Int32 → Int32 → Int32 → Int32 → Int32 → px_M → Option ((Int32) × px_M)) (ih : ∀ (x1 : Int32) (x2 : Int32) (x3 : Int32) (x4 : Int32) (x5 : Int32) (M : px_M), rec x1 x2 x3 x4 x5 M = some (x, M') → ∀ (H : Heap) (locs : List Loc) (ls : Array Slot), px_W bs D px_cl (px_tys G) M H → va_S (fun q => bs ≤ q) s.heap H locs → lv_has ls 8 [(0, .ref o0), (1, .int x1), (2, .int x2), (3, .int x3), (4, .int x4), (5, .int x5)] → W p l e ⟨4, 0, 0, 90⟩ s m args below meth c H locs 0 0 Q (F0 m 59 ls [])) : ∀ (x1 : Int32) (x2 : Int32) (x4 : Int32) (x5 : Int32) (x6 : Int32) (s0 : Int32) (M : px_M), f_MO_rules_J197 rec o0 x1 x2 x4 x5 x6 s0 M = some (x, M') → ∀ (H : Heap) (locs : List Loc) (ls : Array Slot), px_W bs D px_cl (px_tys G) M H → va_S (fun q => bs ≤ q) s.heap H locs → lv_has ls 8 [(0, .ref o0), (1, .int x1), (2, .int x2), (4, .int x4), (5, .int x5), (6, .int x6)] → W p l e ⟨4, 0, 0, 90⟩ s m args below meth c H locs 0 0 Q (F0 m 197 ls [.int s0]) := by
  obtain ⟨hx, hb, hr, hml, hown, hnm, hlocks, hts, hK, hN, hO⟩ := C0
  intro x1 x2 x4 x5 x6 s0 M hf H locs ls hM hS hl
  unfold f_MO_rules_J197 at hf
  refine lv_istore_n (lv' := [(3, .int s0), (0, .ref o0), (1, .int x1), (2, .int x2), (4, .int x4), (5, .int x5), (6, .int x6)]) hx hb d_MO_rules_197 rfl hl (by decide) rfl (fun ls hl => ?_)
  refine lv_aload_n hx hb d_MO_rules_198 rfl (lv_at hl 1 rfl) ?_
  refine lv_iload hx hb d_MO_rules_199 (lv_at hl 6 rfl) ?_
  obtain ⟨_, h64, hf⟩ := px_bind hf
  obtain ⟨M62, h63, hf⟩ := px_bind hf
  refine px_callv (va_runV (As := [.int x6]) (rest := []) ⟨hx, hb, hml, hown, hts⟩ (c_MO_readRule l bs D G o0 x6 M h63) (cwV 1 hts (px_gV w_787 w_789 ws_MO_readRule w_12 w_790) rfl rfl rfl (by decide +kernel) ⟨Nat.le_of_ble_eq_true rfl, Nat.le_of_ble_eq_true rfl⟩) (px_preV px_nwok hK hN hO hM h64 rfl) rfl rfl hl.1 rfl (lv_room (Nat.le_of_ble_eq_true rfl)) d_MO_rules_201 ⟨Nat.le_of_ble_eq_true rfl, Nat.le_of_ble_eq_true rfl⟩) hS (fun H locs hM hS => ?_)
  refine lv_iinc (v := x4 + 1) (lv' := [(4, .int (x4 + 1)), (3, .int s0), (0, .ref o0), (1, .int x1), (2, .int x2), (5, .int x5), (6, .int x6)]) hx hb d_MO_rules_204 hl (k := 4) rfl (by rfl) (by decide) rfl (fun ls hl => ?_)
  exact jn_MO_rules_J207 ⟨hx, hb, hr, hml, hown, hnm, hlocks, hts, hK, hN, hO⟩ x M' o0 kx rec ih x1 x2 s0 (x4 + 1) x5  M62 hf _ _ _ hM hS (lv_sub hl [2, 3, 4, 1, 0, 5] rfl)
def f_MO_rules_J180 (rec : Int32 → Int32 → Int32 → Int32 → Int32 → px_M → Option ((Int32) × px_M)) (o0 : Nat) (x1 : Int32) (x3 : Int32) (x4 : Int32) (x5 : Int32) (x6 : Int32) (s0 : Int32) (M : px_M) : Option ((Int32) × px_M) :=
  if x3 = 0 then
  if x6 = 111 then
  f_MO_rules_J197 rec o0 x1 s0 x4 x5 x6 1 M
  else
  f_MO_rules_J197 rec o0 x1 s0 x4 x5 x6 0 M
  else
  f_MO_rules_J197 rec o0 x1 s0 x4 x5 x6 1 M
set_option maxHeartbeats 4000000 in
set_option maxRecDepth 100000 in
theorem jn_MO_rules_J180 {p : Program} {l : Launch} {e : Env} {s : State} {m : MethodId} {args : Array Value} {below : List Frame} {meth : Method} {c : Code} {bs : Nat} {D : va_G} {G : Nat → ClassId} {Q : State → Prop} (C0 : px_At p s m meth c y_MO_rules b_MO_rules 8 (some .int) args D px_cl (px_tys G) px_nw px_over) (x : Int32) (M' : px_M) (o0 : Nat) (kx : ∀ (H : Heap) (locs : List Loc) (ls : Array Slot), px_W bs D px_cl (px_tys G) M' H → va_S (fun q => bs ≤ q) s.heap H locs → lv_has ls 8 [(0, .ref o0), (4, .int x)] → W p l e ⟨4, 0, 0, 90⟩ s m args below meth c H locs 0 0 Q (F0 m 277 ls []))  (rec : Int32 → Int32 → Int32 → Int32 → Int32 → px_M → Option ((Int32) × px_M)) (ih : ∀ (x1 : Int32) (x2 : Int32) (x3 : Int32) (x4 : Int32) (x5 : Int32) (M : px_M), rec x1 x2 x3 x4 x5 M = some (x, M') → ∀ (H : Heap) (locs : List Loc) (ls : Array Slot), px_W bs D px_cl (px_tys G) M H → va_S (fun q => bs ≤ q) s.heap H locs → lv_has ls 8 [(0, .ref o0), (1, .int x1), (2, .int x2), (3, .int x3), (4, .int x4), (5, .int x5)] → W p l e ⟨4, 0, 0, 90⟩ s m args below meth c H locs 0 0 Q (F0 m 59 ls [])) : ∀ (x1 : Int32) (x3 : Int32) (x4 : Int32) (x5 : Int32) (x6 : Int32) (s0 : Int32) (M : px_M), f_MO_rules_J180 rec o0 x1 x3 x4 x5 x6 s0 M = some (x, M') → ∀ (H : Heap) (locs : List Loc) (ls : Array Slot), px_W bs D px_cl (px_tys G) M H → va_S (fun q => bs ≤ q) s.heap H locs → lv_has ls 8 [(0, .ref o0), (1, .int x1), (3, .int x3), (4, .int x4), (5, .int x5), (6, .int x6)] → W p l e ⟨4, 0, 0, 90⟩ s m args below meth c H locs 0 0 Q (F0 m 180 ls [.int s0]) := by
  obtain ⟨hx, hb, hr, hml, hown, hnm, hlocks, hts, hK, hN, hO⟩ := C0
  intro x1 x3 x4 x5 x6 s0 M hf H locs ls hM hS hl
  unfold f_MO_rules_J180 at hf
  refine lv_istore_n (lv' := [(2, .int s0), (0, .ref o0), (1, .int x1), (3, .int x3), (4, .int x4), (5, .int x5), (6, .int x6)]) hx hb d_MO_rules_180 rfl hl (by decide) rfl (fun ls hl => ?_)
  refine lv_iload_n hx hb d_MO_rules_181 rfl (lv_at hl 3 rfl) ?_
  refine lv_if_ne (tgt := 192) hx hb d_MO_rules_182 (by decide) (fun c61 => ?_) (fun c61 => ?_)
  · have hf := px_iff hf c61
    refine lv_iconst (v := 1) hx hb d_MO_rules_192 (by decide) ?_
    refine lv_goto (tgt := 197) hx hb d_MO_rules_193 (by decide) ?_
    exact jn_MO_rules_J197 ⟨hx, hb, hr, hml, hown, hnm, hlocks, hts, hK, hN, hO⟩ x M' o0 kx rec ih x1 s0 x4 x5 x6 1 M hf _ _ _ hM hS (lv_sub hl [1, 2, 0, 4, 5, 6] rfl)
  · have hf := px_ift hf c61
    refine lv_iload hx hb d_MO_rules_185 (lv_at hl 6 rfl) ?_
    refine lv_bipush (v := 111) hx hb d_MO_rules_187 (by decide) ?_
    refine lv_icmp_ne (tgt := 196) hx hb d_MO_rules_189 (by decide) (fun c65 => ?_) (fun c65 => ?_)
    · have hf := px_iff hf c65
      refine lv_iconst (v := 0) hx hb d_MO_rules_196 (by decide) ?_
      exact jn_MO_rules_J197 ⟨hx, hb, hr, hml, hown, hnm, hlocks, hts, hK, hN, hO⟩ x M' o0 kx rec ih x1 s0 x4 x5 x6 0 M hf _ _ _ hM hS (lv_sub hl [1, 2, 0, 4, 5, 6] rfl)
    · have hf := px_ift hf c65
      refine lv_iconst (v := 1) hx hb d_MO_rules_192 (by decide) ?_
      refine lv_goto (tgt := 197) hx hb d_MO_rules_193 (by decide) ?_
      exact jn_MO_rules_J197 ⟨hx, hb, hr, hml, hown, hnm, hlocks, hts, hK, hN, hO⟩ x M' o0 kx rec ih x1 s0 x4 x5 x6 1 M hf _ _ _ hM hS (lv_sub hl [1, 2, 0, 4, 5, 6] rfl)
def f_MO_rules_J163 (rec : Int32 → Int32 → Int32 → Int32 → Int32 → px_M → Option ((Int32) × px_M)) (o0 : Nat) (x2 : Int32) (x3 : Int32) (x4 : Int32) (x5 : Int32) (x6 : Int32) (s0 : Int32) (M : px_M) : Option ((Int32) × px_M) :=
  if x2 = 0 then
  if x6 = 109 then
  f_MO_rules_J180 rec o0 s0 x3 x4 x5 x6 1 M
  else
  f_MO_rules_J180 rec o0 s0 x3 x4 x5 x6 0 M
  else
  f_MO_rules_J180 rec o0 s0 x3 x4 x5 x6 1 M
set_option maxHeartbeats 4000000 in
set_option maxRecDepth 100000 in
theorem jn_MO_rules_J163 {p : Program} {l : Launch} {e : Env} {s : State} {m : MethodId} {args : Array Value} {below : List Frame} {meth : Method} {c : Code} {bs : Nat} {D : va_G} {G : Nat → ClassId} {Q : State → Prop} (C0 : px_At p s m meth c y_MO_rules b_MO_rules 8 (some .int) args D px_cl (px_tys G) px_nw px_over) (x : Int32) (M' : px_M) (o0 : Nat) (kx : ∀ (H : Heap) (locs : List Loc) (ls : Array Slot), px_W bs D px_cl (px_tys G) M' H → va_S (fun q => bs ≤ q) s.heap H locs → lv_has ls 8 [(0, .ref o0), (4, .int x)] → W p l e ⟨4, 0, 0, 90⟩ s m args below meth c H locs 0 0 Q (F0 m 277 ls []))  (rec : Int32 → Int32 → Int32 → Int32 → Int32 → px_M → Option ((Int32) × px_M)) (ih : ∀ (x1 : Int32) (x2 : Int32) (x3 : Int32) (x4 : Int32) (x5 : Int32) (M : px_M), rec x1 x2 x3 x4 x5 M = some (x, M') → ∀ (H : Heap) (locs : List Loc) (ls : Array Slot), px_W bs D px_cl (px_tys G) M H → va_S (fun q => bs ≤ q) s.heap H locs → lv_has ls 8 [(0, .ref o0), (1, .int x1), (2, .int x2), (3, .int x3), (4, .int x4), (5, .int x5)] → W p l e ⟨4, 0, 0, 90⟩ s m args below meth c H locs 0 0 Q (F0 m 59 ls [])) : ∀ (x2 : Int32) (x3 : Int32) (x4 : Int32) (x5 : Int32) (x6 : Int32) (s0 : Int32) (M : px_M), f_MO_rules_J163 rec o0 x2 x3 x4 x5 x6 s0 M = some (x, M') → ∀ (H : Heap) (locs : List Loc) (ls : Array Slot), px_W bs D px_cl (px_tys G) M H → va_S (fun q => bs ≤ q) s.heap H locs → lv_has ls 8 [(0, .ref o0), (2, .int x2), (3, .int x3), (4, .int x4), (5, .int x5), (6, .int x6)] → W p l e ⟨4, 0, 0, 90⟩ s m args below meth c H locs 0 0 Q (F0 m 163 ls [.int s0]) := by
  obtain ⟨hx, hb, hr, hml, hown, hnm, hlocks, hts, hK, hN, hO⟩ := C0
  intro x2 x3 x4 x5 x6 s0 M hf H locs ls hM hS hl
  unfold f_MO_rules_J163 at hf
  refine lv_istore_n (lv' := [(1, .int s0), (0, .ref o0), (2, .int x2), (3, .int x3), (4, .int x4), (5, .int x5), (6, .int x6)]) hx hb d_MO_rules_163 rfl hl (by decide) rfl (fun ls hl => ?_)
  refine lv_iload_n hx hb d_MO_rules_164 rfl (lv_at hl 2 rfl) ?_
  refine lv_if_ne (tgt := 175) hx hb d_MO_rules_165 (by decide) (fun c60 => ?_) (fun c60 => ?_)
  · have hf := px_iff hf c60
    refine lv_iconst (v := 1) hx hb d_MO_rules_175 (by decide) ?_
    refine lv_goto (tgt := 180) hx hb d_MO_rules_176 (by decide) ?_
    exact jn_MO_rules_J180 ⟨hx, hb, hr, hml, hown, hnm, hlocks, hts, hK, hN, hO⟩ x M' o0 kx rec ih s0 x3 x4 x5 x6 1 M hf _ _ _ hM hS (lv_sub hl [1, 0, 3, 4, 5, 6] rfl)
  · have hf := px_ift hf c60
    refine lv_iload hx hb d_MO_rules_168 (lv_at hl 6 rfl) ?_
    refine lv_bipush (v := 109) hx hb d_MO_rules_170 (by decide) ?_
    refine lv_icmp_ne (tgt := 179) hx hb d_MO_rules_172 (by decide) (fun c66 => ?_) (fun c66 => ?_)
    · have hf := px_iff hf c66
      refine lv_iconst (v := 0) hx hb d_MO_rules_179 (by decide) ?_
      exact jn_MO_rules_J180 ⟨hx, hb, hr, hml, hown, hnm, hlocks, hts, hK, hN, hO⟩ x M' o0 kx rec ih s0 x3 x4 x5 x6 0 M hf _ _ _ hM hS (lv_sub hl [1, 0, 3, 4, 5, 6] rfl)
    · have hf := px_ift hf c66
      refine lv_iconst (v := 1) hx hb d_MO_rules_175 (by decide) ?_
      refine lv_goto (tgt := 180) hx hb d_MO_rules_176 (by decide) ?_
      exact jn_MO_rules_J180 ⟨hx, hb, hr, hml, hown, hnm, hlocks, hts, hK, hN, hO⟩ x M' o0 kx rec ih s0 x3 x4 x5 x6 1 M hf _ _ _ hM hS (lv_sub hl [1, 0, 3, 4, 5, 6] rfl)
def f_MO_rules_J137 (rec : Int32 → Int32 → Int32 → Int32 → Int32 → px_M → Option ((Int32) × px_M)) (o0 : Nat) (x1 : Int32) (x2 : Int32) (x3 : Int32) (x4 : Int32) (x5 : Int32) (x6 : Int32) (s0 : Int32) (p1 : Nat) (M : px_M) : Option ((Int32) × px_M) :=
  if s0 = 0 ∨ s0 = 1 then
  (px_pt 11 15 M p1 (.int s0)).bind fun M32 =>
  (px_gi 11 15 M32 o0).bind fun v34 =>
  if v34 = 0 then
  if x1 = 0 then
  if x6 = 104 then
  f_MO_rules_J163 rec o0 x2 x3 x4 x5 x6 1 M32
  else
  f_MO_rules_J163 rec o0 x2 x3 x4 x5 x6 0 M32
  else
  f_MO_rules_J163 rec o0 x2 x3 x4 x5 x6 1 M32
  else
  f_MO_rules_J207 rec o0 x1 x2 x3 x4 x5 M32
  else none
set_option maxHeartbeats 4000000 in
set_option maxRecDepth 100000 in
theorem jn_MO_rules_J137 {p : Program} {l : Launch} {e : Env} {s : State} {m : MethodId} {args : Array Value} {below : List Frame} {meth : Method} {c : Code} {bs : Nat} {D : va_G} {G : Nat → ClassId} {Q : State → Prop} (C0 : px_At p s m meth c y_MO_rules b_MO_rules 8 (some .int) args D px_cl (px_tys G) px_nw px_over) (x : Int32) (M' : px_M) (o0 : Nat) (kx : ∀ (H : Heap) (locs : List Loc) (ls : Array Slot), px_W bs D px_cl (px_tys G) M' H → va_S (fun q => bs ≤ q) s.heap H locs → lv_has ls 8 [(0, .ref o0), (4, .int x)] → W p l e ⟨4, 0, 0, 90⟩ s m args below meth c H locs 0 0 Q (F0 m 277 ls []))  (rec : Int32 → Int32 → Int32 → Int32 → Int32 → px_M → Option ((Int32) × px_M)) (ih : ∀ (x1 : Int32) (x2 : Int32) (x3 : Int32) (x4 : Int32) (x5 : Int32) (M : px_M), rec x1 x2 x3 x4 x5 M = some (x, M') → ∀ (H : Heap) (locs : List Loc) (ls : Array Slot), px_W bs D px_cl (px_tys G) M H → va_S (fun q => bs ≤ q) s.heap H locs → lv_has ls 8 [(0, .ref o0), (1, .int x1), (2, .int x2), (3, .int x3), (4, .int x4), (5, .int x5)] → W p l e ⟨4, 0, 0, 90⟩ s m args below meth c H locs 0 0 Q (F0 m 59 ls [])) : ∀ (x1 : Int32) (x2 : Int32) (x3 : Int32) (x4 : Int32) (x5 : Int32) (x6 : Int32) (s0 : Int32) (p1 : Nat) (M : px_M), f_MO_rules_J137 rec o0 x1 x2 x3 x4 x5 x6 s0 p1 M = some (x, M') → ∀ (H : Heap) (locs : List Loc) (ls : Array Slot), px_W bs D px_cl (px_tys G) M H → va_S (fun q => bs ≤ q) s.heap H locs → lv_has ls 8 [(0, .ref o0), (1, .int x1), (2, .int x2), (3, .int x3), (4, .int x4), (5, .int x5), (6, .int x6)] → W p l e ⟨4, 0, 0, 90⟩ s m args below meth c H locs 0 0 Q (F0 m 137 ls [.int s0, .ref p1]) := by
  obtain ⟨hx, hb, hr, hml, hown, hnm, hlocks, hts, hK, hN, hO⟩ := C0
  intro x1 x2 x3 x4 x5 x6 s0 p1 M hf H locs ls hM hS hl
  unfold f_MO_rules_J137 at hf
  have hz : s0 = 0 ∨ s0 = 1 := Classical.byContradiction fun q => (by have q2 := px_iff hf q; cases q2)
  have hf := px_ift hf hz
  obtain ⟨M32, h33, hf⟩ := px_bind hf
  refine px_rpt hx hb hts cl_MO hown hK hM hS 15 (by decide) (hts _ w_660) rfl (px_nz hz) (px_fz hz) h33 d_MO_rules_137 (fun H locs hM hS => ?_)
  refine lv_aload_n hx hb d_MO_rules_140 rfl (lv_at hl 0 rfl) ?_
  obtain ⟨v34, h35, hf⟩ := px_bind hf
  refine px_rgi hx hb hts cl_MO hown hK hM 15 (by decide) (hts _ w_660) h35 d_MO_rules_141 ?_
  refine lv_if_ne (tgt := 207) hx hb d_MO_rules_144 (by decide) (fun c36 => ?_) (fun c36 => ?_)
  · have hf := px_iff hf c36
    exact jn_MO_rules_J207 ⟨hx, hb, hr, hml, hown, hnm, hlocks, hts, hK, hN, hO⟩ x M' o0 kx rec ih x1 x2 x3 x4 x5  M32 hf _ _ _ hM hS (lv_sub hl [0, 1, 2, 3, 4, 5] rfl)
  · have hf := px_ift hf c36
    refine lv_iload_n hx hb d_MO_rules_147 rfl (lv_at hl 1 rfl) ?_
    refine lv_if_ne (tgt := 158) hx hb d_MO_rules_148 (by decide) (fun c59 => ?_) (fun c59 => ?_)
    · have hf := px_iff hf c59
      refine lv_iconst (v := 1) hx hb d_MO_rules_158 (by decide) ?_
      refine lv_goto (tgt := 163) hx hb d_MO_rules_159 (by decide) ?_
      exact jn_MO_rules_J163 ⟨hx, hb, hr, hml, hown, hnm, hlocks, hts, hK, hN, hO⟩ x M' o0 kx rec ih x2 x3 x4 x5 x6 1 M32 hf _ _ _ hM hS (lv_sub hl [0, 2, 3, 4, 5, 6] rfl)
    · have hf := px_ift hf c59
      refine lv_iload hx hb d_MO_rules_151 (lv_at hl 6 rfl) ?_
      refine lv_bipush (v := 104) hx hb d_MO_rules_153 (by decide) ?_
      refine lv_icmp_ne (tgt := 162) hx hb d_MO_rules_155 (by decide) (fun c67 => ?_) (fun c67 => ?_)
      · have hf := px_iff hf c67
        refine lv_iconst (v := 0) hx hb d_MO_rules_162 (by decide) ?_
        exact jn_MO_rules_J163 ⟨hx, hb, hr, hml, hown, hnm, hlocks, hts, hK, hN, hO⟩ x M' o0 kx rec ih x2 x3 x4 x5 x6 0 M32 hf _ _ _ hM hS (lv_sub hl [0, 2, 3, 4, 5, 6] rfl)
      · have hf := px_ift hf c67
        refine lv_iconst (v := 1) hx hb d_MO_rules_158 (by decide) ?_
        refine lv_goto (tgt := 163) hx hb d_MO_rules_159 (by decide) ?_
        exact jn_MO_rules_J163 ⟨hx, hb, hr, hml, hown, hnm, hlocks, hts, hK, hN, hO⟩ x M' o0 kx rec ih x2 x3 x4 x5 x6 1 M32 hf _ _ _ hM hS (lv_sub hl [0, 2, 3, 4, 5, 6] rfl)
def f_MO_rules_L59 : Nat → Nat → Int32 → Int32 → Int32 → Int32 → Int32 → px_M → Option ((Int32) × px_M)
  | 0, _, _, _, _, _, _, _ => none
  | n + 1, o0, x1, x2, x3, x4, x5, M =>
    if x5 = 0 then
    some (x4, M)
    else
    (px_gi 11 15 M o0).bind fun v22 =>
    if v22 = 0 then
    (px_ob 11 M o0).bind fun _ =>
    (f_MO_look o0 M).bind fun (v27, M25) =>
    if v27 = 104 then
    if v27 = 104 then
    if x1 = 0 then
    if v27 = 109 then
    if x2 = 0 then
    if v27 = 111 then
    if x3 = 0 then
    f_MO_rules_J137 (f_MO_rules_L59 n o0) o0 x1 x2 x3 x4 x5 v27 0 o0 M25
    else
    f_MO_rules_J137 (f_MO_rules_L59 n o0) o0 x1 x2 x3 x4 x5 v27 1 o0 M25
    else
    f_MO_rules_J137 (f_MO_rules_L59 n o0) o0 x1 x2 x3 x4 x5 v27 0 o0 M25
    else
    f_MO_rules_J137 (f_MO_rules_L59 n o0) o0 x1 x2 x3 x4 x5 v27 1 o0 M25
    else
    if v27 = 111 then
    if x3 = 0 then
    f_MO_rules_J137 (f_MO_rules_L59 n o0) o0 x1 x2 x3 x4 x5 v27 0 o0 M25
    else
    f_MO_rules_J137 (f_MO_rules_L59 n o0) o0 x1 x2 x3 x4 x5 v27 1 o0 M25
    else
    f_MO_rules_J137 (f_MO_rules_L59 n o0) o0 x1 x2 x3 x4 x5 v27 0 o0 M25
    else
    f_MO_rules_J137 (f_MO_rules_L59 n o0) o0 x1 x2 x3 x4 x5 v27 1 o0 M25
    else
    if v27 = 109 then
    if x2 = 0 then
    if v27 = 111 then
    if x3 = 0 then
    f_MO_rules_J137 (f_MO_rules_L59 n o0) o0 x1 x2 x3 x4 x5 v27 0 o0 M25
    else
    f_MO_rules_J137 (f_MO_rules_L59 n o0) o0 x1 x2 x3 x4 x5 v27 1 o0 M25
    else
    f_MO_rules_J137 (f_MO_rules_L59 n o0) o0 x1 x2 x3 x4 x5 v27 0 o0 M25
    else
    f_MO_rules_J137 (f_MO_rules_L59 n o0) o0 x1 x2 x3 x4 x5 v27 1 o0 M25
    else
    if v27 = 111 then
    if x3 = 0 then
    f_MO_rules_J137 (f_MO_rules_L59 n o0) o0 x1 x2 x3 x4 x5 v27 0 o0 M25
    else
    f_MO_rules_J137 (f_MO_rules_L59 n o0) o0 x1 x2 x3 x4 x5 v27 1 o0 M25
    else
    f_MO_rules_J137 (f_MO_rules_L59 n o0) o0 x1 x2 x3 x4 x5 v27 0 o0 M25
    else
    if v27 = 109 then
    if v27 = 104 then
    if x1 = 0 then
    if v27 = 109 then
    if x2 = 0 then
    if v27 = 111 then
    if x3 = 0 then
    f_MO_rules_J137 (f_MO_rules_L59 n o0) o0 x1 x2 x3 x4 x5 v27 0 o0 M25
    else
    f_MO_rules_J137 (f_MO_rules_L59 n o0) o0 x1 x2 x3 x4 x5 v27 1 o0 M25
    else
    f_MO_rules_J137 (f_MO_rules_L59 n o0) o0 x1 x2 x3 x4 x5 v27 0 o0 M25
    else
    f_MO_rules_J137 (f_MO_rules_L59 n o0) o0 x1 x2 x3 x4 x5 v27 1 o0 M25
    else
    if v27 = 111 then
    if x3 = 0 then
    f_MO_rules_J137 (f_MO_rules_L59 n o0) o0 x1 x2 x3 x4 x5 v27 0 o0 M25
    else
    f_MO_rules_J137 (f_MO_rules_L59 n o0) o0 x1 x2 x3 x4 x5 v27 1 o0 M25
    else
    f_MO_rules_J137 (f_MO_rules_L59 n o0) o0 x1 x2 x3 x4 x5 v27 0 o0 M25
    else
    f_MO_rules_J137 (f_MO_rules_L59 n o0) o0 x1 x2 x3 x4 x5 v27 1 o0 M25
    else
    if v27 = 109 then
    if x2 = 0 then
    if v27 = 111 then
    if x3 = 0 then
    f_MO_rules_J137 (f_MO_rules_L59 n o0) o0 x1 x2 x3 x4 x5 v27 0 o0 M25
    else
    f_MO_rules_J137 (f_MO_rules_L59 n o0) o0 x1 x2 x3 x4 x5 v27 1 o0 M25
    else
    f_MO_rules_J137 (f_MO_rules_L59 n o0) o0 x1 x2 x3 x4 x5 v27 0 o0 M25
    else
    f_MO_rules_J137 (f_MO_rules_L59 n o0) o0 x1 x2 x3 x4 x5 v27 1 o0 M25
    else
    if v27 = 111 then
    if x3 = 0 then
    f_MO_rules_J137 (f_MO_rules_L59 n o0) o0 x1 x2 x3 x4 x5 v27 0 o0 M25
    else
    f_MO_rules_J137 (f_MO_rules_L59 n o0) o0 x1 x2 x3 x4 x5 v27 1 o0 M25
    else
    f_MO_rules_J137 (f_MO_rules_L59 n o0) o0 x1 x2 x3 x4 x5 v27 0 o0 M25
    else
    if v27 = 111 then
    if v27 = 104 then
    if x1 = 0 then
    if v27 = 109 then
    if x2 = 0 then
    if v27 = 111 then
    if x3 = 0 then
    f_MO_rules_J137 (f_MO_rules_L59 n o0) o0 x1 x2 x3 x4 x5 v27 0 o0 M25
    else
    f_MO_rules_J137 (f_MO_rules_L59 n o0) o0 x1 x2 x3 x4 x5 v27 1 o0 M25
    else
    f_MO_rules_J137 (f_MO_rules_L59 n o0) o0 x1 x2 x3 x4 x5 v27 0 o0 M25
    else
    f_MO_rules_J137 (f_MO_rules_L59 n o0) o0 x1 x2 x3 x4 x5 v27 1 o0 M25
    else
    if v27 = 111 then
    if x3 = 0 then
    f_MO_rules_J137 (f_MO_rules_L59 n o0) o0 x1 x2 x3 x4 x5 v27 0 o0 M25
    else
    f_MO_rules_J137 (f_MO_rules_L59 n o0) o0 x1 x2 x3 x4 x5 v27 1 o0 M25
    else
    f_MO_rules_J137 (f_MO_rules_L59 n o0) o0 x1 x2 x3 x4 x5 v27 0 o0 M25
    else
    f_MO_rules_J137 (f_MO_rules_L59 n o0) o0 x1 x2 x3 x4 x5 v27 1 o0 M25
    else
    if v27 = 109 then
    if x2 = 0 then
    if v27 = 111 then
    if x3 = 0 then
    f_MO_rules_J137 (f_MO_rules_L59 n o0) o0 x1 x2 x3 x4 x5 v27 0 o0 M25
    else
    f_MO_rules_J137 (f_MO_rules_L59 n o0) o0 x1 x2 x3 x4 x5 v27 1 o0 M25
    else
    f_MO_rules_J137 (f_MO_rules_L59 n o0) o0 x1 x2 x3 x4 x5 v27 0 o0 M25
    else
    f_MO_rules_J137 (f_MO_rules_L59 n o0) o0 x1 x2 x3 x4 x5 v27 1 o0 M25
    else
    if v27 = 111 then
    if x3 = 0 then
    f_MO_rules_J137 (f_MO_rules_L59 n o0) o0 x1 x2 x3 x4 x5 v27 0 o0 M25
    else
    f_MO_rules_J137 (f_MO_rules_L59 n o0) o0 x1 x2 x3 x4 x5 v27 1 o0 M25
    else
    f_MO_rules_J137 (f_MO_rules_L59 n o0) o0 x1 x2 x3 x4 x5 v27 0 o0 M25
    else
    f_MO_rules_J137 (f_MO_rules_L59 n o0) o0 x1 x2 x3 x4 x5 v27 1 o0 M25
    else
    some (x4, M)
set_option maxHeartbeats 4000000 in
set_option maxRecDepth 100000 in
theorem lp_MO_rules_L59 {p : Program} {l : Launch} {e : Env} {s : State} {m : MethodId} {args : Array Value} {below : List Frame} {meth : Method} {c : Code} {bs : Nat} {D : va_G} {G : Nat → ClassId} {Q : State → Prop} (C0 : px_At p s m meth c y_MO_rules b_MO_rules 8 (some .int) args D px_cl (px_tys G) px_nw px_over) (x : Int32) (M' : px_M) (o0 : Nat) (kx : ∀ (H : Heap) (locs : List Loc) (ls : Array Slot), px_W bs D px_cl (px_tys G) M' H → va_S (fun q => bs ≤ q) s.heap H locs → lv_has ls 8 [(0, .ref o0), (4, .int x)] → W p l e ⟨4, 0, 0, 90⟩ s m args below meth c H locs 0 0 Q (F0 m 277 ls []))  : ∀ (n : Nat) (x1 : Int32) (x2 : Int32) (x3 : Int32) (x4 : Int32) (x5 : Int32) (M : px_M), f_MO_rules_L59 n o0 x1 x2 x3 x4 x5 M = some (x, M') → ∀ (H : Heap) (locs : List Loc) (ls : Array Slot), px_W bs D px_cl (px_tys G) M H → va_S (fun q => bs ≤ q) s.heap H locs → lv_has ls 8 [(0, .ref o0), (1, .int x1), (2, .int x2), (3, .int x3), (4, .int x4), (5, .int x5)] → W p l e ⟨4, 0, 0, 90⟩ s m args below meth c H locs 0 0 Q (F0 m 59 ls []) := by
  obtain ⟨hx, hb, hr, hml, hown, hnm, hlocks, hts, hK, hN, hO⟩ := C0
  intro n
  induction n with
  | zero => intro x1 x2 x3 x4 x5 M hf; cases hf
  | succ n ih =>
    intro x1 x2 x3 x4 x5 M hf H locs ls hM hS hl
    unfold f_MO_rules_L59 at hf
    refine lv_iload hx hb d_MO_rules_59 (lv_at hl 5 rfl) ?_
    refine lv_if_eq (tgt := 277) hx hb d_MO_rules_61 (by decide) (fun c21 => ?_) (fun c21 => ?_)
    · have hf := px_ift hf c21
      obtain ⟨rfl, rfl⟩ := px_s2 hf
      exact kx _ _ _ hM hS (lv_sub hl [0, 4] rfl)
    · have hf := px_iff hf c21
      refine lv_aload_n hx hb d_MO_rules_64 rfl (lv_at hl 0 rfl) ?_
      obtain ⟨v22, h23, hf⟩ := px_bind hf
      refine px_rgi hx hb hts cl_MO hown hK hM 15 (by decide) (hts _ w_660) h23 d_MO_rules_65 ?_
      refine lv_if_ne (tgt := 277) hx hb d_MO_rules_68 (by decide) (fun c24 => ?_) (fun c24 => ?_)
      · have hf := px_iff hf c24
        obtain ⟨rfl, rfl⟩ := px_s2 hf
        exact kx _ _ _ hM hS (lv_sub hl [0, 4] rfl)
      · have hf := px_ift hf c24
        refine lv_aload_n hx hb d_MO_rules_71 rfl (lv_at hl 0 rfl) ?_
        obtain ⟨_, h109, hf⟩ := px_bind hf
        obtain ⟨⟨v27, M25⟩, h26, hf⟩ := px_bind hf
        dsimp only at hf
        refine px_calli (va_runV (As := []) (rest := []) ⟨hx, hb, hml, hown, hts⟩ (c_MO_look l bs D G o0 M h26) (cwV 0 hts (px_gV w_783 w_785 ws_MO_look w_12 w_786) rfl rfl rfl (by decide +kernel) ⟨Nat.le_of_ble_eq_true rfl, Nat.le_of_ble_eq_true rfl⟩) (px_preV px_nwok hK hN hO hM h109 rfl) rfl rfl hl.1 rfl (lv_room (Nat.le_of_ble_eq_true rfl)) d_MO_rules_72 ⟨Nat.le_of_ble_eq_true rfl, Nat.le_of_ble_eq_true rfl⟩) hS (fun H locs hM hS => ?_)
        refine lv_istore (lv' := [(6, .int v27), (0, .ref o0), (1, .int x1), (2, .int x2), (3, .int x3), (4, .int x4), (5, .int x5)]) hx hb d_MO_rules_75 hl (by decide) rfl (fun ls hl => ?_)
        refine lv_aload_n hx hb d_MO_rules_77 rfl (lv_at hl 1 rfl) ?_
        refine lv_iload hx hb d_MO_rules_78 (lv_at hl 0 rfl) ?_
        refine lv_bipush (v := 104) hx hb d_MO_rules_80 (by decide) ?_
        refine lv_icmp_eq (tgt := 99) hx hb d_MO_rules_82 (by decide) (fun c28 => ?_) (fun c28 => ?_)
        · have hf := px_ift hf c28
          refine lv_iload hx hb d_MO_rules_99 (lv_at hl 0 rfl) ?_
          refine lv_bipush (v := 104) hx hb d_MO_rules_101 (by decide) ?_
          refine lv_icmp_ne (tgt := 110) hx hb d_MO_rules_103 (by decide) (fun c29 => ?_) (fun c29 => ?_)
          · have hf := px_iff hf c29
            refine lv_iload hx hb d_MO_rules_110 (lv_at hl 0 rfl) ?_
            refine lv_bipush (v := 109) hx hb d_MO_rules_112 (by decide) ?_
            refine lv_icmp_ne (tgt := 121) hx hb d_MO_rules_114 (by decide) (fun c30 => ?_) (fun c30 => ?_)
            · have hf := px_iff hf c30
              refine lv_iload hx hb d_MO_rules_121 (lv_at hl 0 rfl) ?_
              refine lv_bipush (v := 111) hx hb d_MO_rules_123 (by decide) ?_
              refine lv_icmp_ne (tgt := 136) hx hb d_MO_rules_125 (by decide) (fun c31 => ?_) (fun c31 => ?_)
              · have hf := px_iff hf c31
                refine lv_iconst (v := 0) hx hb d_MO_rules_136 (by decide) ?_
                exact jn_MO_rules_J137 ⟨hx, hb, hr, hml, hown, hnm, hlocks, hts, hK, hN, hO⟩ x M' o0 kx (f_MO_rules_L59 n o0) ih x1 x2 x3 x4 x5 v27 0 o0 M25 hf _ _ _ hM hS (lv_sub hl [1, 2, 3, 4, 5, 6, 0] rfl)
              · have hf := px_ift hf c31
                refine lv_iload_n hx hb d_MO_rules_128 rfl (lv_at hl 4 rfl) ?_
                refine lv_if_eq (tgt := 136) hx hb d_MO_rules_129 (by decide) (fun c68 => ?_) (fun c68 => ?_)
                · have hf := px_ift hf c68
                  refine lv_iconst (v := 0) hx hb d_MO_rules_136 (by decide) ?_
                  exact jn_MO_rules_J137 ⟨hx, hb, hr, hml, hown, hnm, hlocks, hts, hK, hN, hO⟩ x M' o0 kx (f_MO_rules_L59 n o0) ih x1 x2 x3 x4 x5 v27 0 o0 M25 hf _ _ _ hM hS (lv_sub hl [1, 2, 3, 4, 5, 6, 0] rfl)
                · have hf := px_iff hf c68
                  refine lv_iconst (v := 1) hx hb d_MO_rules_132 (by decide) ?_
                  refine lv_goto (tgt := 137) hx hb d_MO_rules_133 (by decide) ?_
                  exact jn_MO_rules_J137 ⟨hx, hb, hr, hml, hown, hnm, hlocks, hts, hK, hN, hO⟩ x M' o0 kx (f_MO_rules_L59 n o0) ih x1 x2 x3 x4 x5 v27 1 o0 M25 hf _ _ _ hM hS (lv_sub hl [1, 2, 3, 4, 5, 6, 0] rfl)
            · have hf := px_ift hf c30
              refine lv_iload_n hx hb d_MO_rules_117 rfl (lv_at hl 3 rfl) ?_
              refine lv_if_ne (tgt := 132) hx hb d_MO_rules_118 (by decide) (fun c69 => ?_) (fun c69 => ?_)
              · have hf := px_iff hf c69
                refine lv_iconst (v := 1) hx hb d_MO_rules_132 (by decide) ?_
                refine lv_goto (tgt := 137) hx hb d_MO_rules_133 (by decide) ?_
                exact jn_MO_rules_J137 ⟨hx, hb, hr, hml, hown, hnm, hlocks, hts, hK, hN, hO⟩ x M' o0 kx (f_MO_rules_L59 n o0) ih x1 x2 x3 x4 x5 v27 1 o0 M25 hf _ _ _ hM hS (lv_sub hl [1, 2, 3, 4, 5, 6, 0] rfl)
              · have hf := px_ift hf c69
                refine lv_iload hx hb d_MO_rules_121 (lv_at hl 0 rfl) ?_
                refine lv_bipush (v := 111) hx hb d_MO_rules_123 (by decide) ?_
                refine lv_icmp_ne (tgt := 136) hx hb d_MO_rules_125 (by decide) (fun c70 => ?_) (fun c70 => ?_)
                · have hf := px_iff hf c70
                  refine lv_iconst (v := 0) hx hb d_MO_rules_136 (by decide) ?_
                  exact jn_MO_rules_J137 ⟨hx, hb, hr, hml, hown, hnm, hlocks, hts, hK, hN, hO⟩ x M' o0 kx (f_MO_rules_L59 n o0) ih x1 x2 x3 x4 x5 v27 0 o0 M25 hf _ _ _ hM hS (lv_sub hl [1, 2, 3, 4, 5, 6, 0] rfl)
                · have hf := px_ift hf c70
                  refine lv_iload_n hx hb d_MO_rules_128 rfl (lv_at hl 4 rfl) ?_
                  refine lv_if_eq (tgt := 136) hx hb d_MO_rules_129 (by decide) (fun c71 => ?_) (fun c71 => ?_)
                  · have hf := px_ift hf c71
                    refine lv_iconst (v := 0) hx hb d_MO_rules_136 (by decide) ?_
                    exact jn_MO_rules_J137 ⟨hx, hb, hr, hml, hown, hnm, hlocks, hts, hK, hN, hO⟩ x M' o0 kx (f_MO_rules_L59 n o0) ih x1 x2 x3 x4 x5 v27 0 o0 M25 hf _ _ _ hM hS (lv_sub hl [1, 2, 3, 4, 5, 6, 0] rfl)
                  · have hf := px_iff hf c71
                    refine lv_iconst (v := 1) hx hb d_MO_rules_132 (by decide) ?_
                    refine lv_goto (tgt := 137) hx hb d_MO_rules_133 (by decide) ?_
                    exact jn_MO_rules_J137 ⟨hx, hb, hr, hml, hown, hnm, hlocks, hts, hK, hN, hO⟩ x M' o0 kx (f_MO_rules_L59 n o0) ih x1 x2 x3 x4 x5 v27 1 o0 M25 hf _ _ _ hM hS (lv_sub hl [1, 2, 3, 4, 5, 6, 0] rfl)
          · have hf := px_ift hf c29
            refine lv_iload_n hx hb d_MO_rules_106 rfl (lv_at hl 2 rfl) ?_
            refine lv_if_ne (tgt := 132) hx hb d_MO_rules_107 (by decide) (fun c72 => ?_) (fun c72 => ?_)
            · have hf := px_iff hf c72
              refine lv_iconst (v := 1) hx hb d_MO_rules_132 (by decide) ?_
              refine lv_goto (tgt := 137) hx hb d_MO_rules_133 (by decide) ?_
              exact jn_MO_rules_J137 ⟨hx, hb, hr, hml, hown, hnm, hlocks, hts, hK, hN, hO⟩ x M' o0 kx (f_MO_rules_L59 n o0) ih x1 x2 x3 x4 x5 v27 1 o0 M25 hf _ _ _ hM hS (lv_sub hl [1, 2, 3, 4, 5, 6, 0] rfl)
            · have hf := px_ift hf c72
              refine lv_iload hx hb d_MO_rules_110 (lv_at hl 0 rfl) ?_
              refine lv_bipush (v := 109) hx hb d_MO_rules_112 (by decide) ?_
              refine lv_icmp_ne (tgt := 121) hx hb d_MO_rules_114 (by decide) (fun c73 => ?_) (fun c73 => ?_)
              · have hf := px_iff hf c73
                refine lv_iload hx hb d_MO_rules_121 (lv_at hl 0 rfl) ?_
                refine lv_bipush (v := 111) hx hb d_MO_rules_123 (by decide) ?_
                refine lv_icmp_ne (tgt := 136) hx hb d_MO_rules_125 (by decide) (fun c74 => ?_) (fun c74 => ?_)
                · have hf := px_iff hf c74
                  refine lv_iconst (v := 0) hx hb d_MO_rules_136 (by decide) ?_
                  exact jn_MO_rules_J137 ⟨hx, hb, hr, hml, hown, hnm, hlocks, hts, hK, hN, hO⟩ x M' o0 kx (f_MO_rules_L59 n o0) ih x1 x2 x3 x4 x5 v27 0 o0 M25 hf _ _ _ hM hS (lv_sub hl [1, 2, 3, 4, 5, 6, 0] rfl)
                · have hf := px_ift hf c74
                  refine lv_iload_n hx hb d_MO_rules_128 rfl (lv_at hl 4 rfl) ?_
                  refine lv_if_eq (tgt := 136) hx hb d_MO_rules_129 (by decide) (fun c75 => ?_) (fun c75 => ?_)
                  · have hf := px_ift hf c75
                    refine lv_iconst (v := 0) hx hb d_MO_rules_136 (by decide) ?_
                    exact jn_MO_rules_J137 ⟨hx, hb, hr, hml, hown, hnm, hlocks, hts, hK, hN, hO⟩ x M' o0 kx (f_MO_rules_L59 n o0) ih x1 x2 x3 x4 x5 v27 0 o0 M25 hf _ _ _ hM hS (lv_sub hl [1, 2, 3, 4, 5, 6, 0] rfl)
                  · have hf := px_iff hf c75
                    refine lv_iconst (v := 1) hx hb d_MO_rules_132 (by decide) ?_
                    refine lv_goto (tgt := 137) hx hb d_MO_rules_133 (by decide) ?_
                    exact jn_MO_rules_J137 ⟨hx, hb, hr, hml, hown, hnm, hlocks, hts, hK, hN, hO⟩ x M' o0 kx (f_MO_rules_L59 n o0) ih x1 x2 x3 x4 x5 v27 1 o0 M25 hf _ _ _ hM hS (lv_sub hl [1, 2, 3, 4, 5, 6, 0] rfl)
              · have hf := px_ift hf c73
                refine lv_iload_n hx hb d_MO_rules_117 rfl (lv_at hl 3 rfl) ?_
                refine lv_if_ne (tgt := 132) hx hb d_MO_rules_118 (by decide) (fun c76 => ?_) (fun c76 => ?_)
                · have hf := px_iff hf c76
                  refine lv_iconst (v := 1) hx hb d_MO_rules_132 (by decide) ?_
                  refine lv_goto (tgt := 137) hx hb d_MO_rules_133 (by decide) ?_
                  exact jn_MO_rules_J137 ⟨hx, hb, hr, hml, hown, hnm, hlocks, hts, hK, hN, hO⟩ x M' o0 kx (f_MO_rules_L59 n o0) ih x1 x2 x3 x4 x5 v27 1 o0 M25 hf _ _ _ hM hS (lv_sub hl [1, 2, 3, 4, 5, 6, 0] rfl)
                · have hf := px_ift hf c76
                  refine lv_iload hx hb d_MO_rules_121 (lv_at hl 0 rfl) ?_
                  refine lv_bipush (v := 111) hx hb d_MO_rules_123 (by decide) ?_
                  refine lv_icmp_ne (tgt := 136) hx hb d_MO_rules_125 (by decide) (fun c77 => ?_) (fun c77 => ?_)
                  · have hf := px_iff hf c77
                    refine lv_iconst (v := 0) hx hb d_MO_rules_136 (by decide) ?_
                    exact jn_MO_rules_J137 ⟨hx, hb, hr, hml, hown, hnm, hlocks, hts, hK, hN, hO⟩ x M' o0 kx (f_MO_rules_L59 n o0) ih x1 x2 x3 x4 x5 v27 0 o0 M25 hf _ _ _ hM hS (lv_sub hl [1, 2, 3, 4, 5, 6, 0] rfl)
                  · have hf := px_ift hf c77
                    refine lv_iload_n hx hb d_MO_rules_128 rfl (lv_at hl 4 rfl) ?_
                    refine lv_if_eq (tgt := 136) hx hb d_MO_rules_129 (by decide) (fun c78 => ?_) (fun c78 => ?_)
                    · have hf := px_ift hf c78
                      refine lv_iconst (v := 0) hx hb d_MO_rules_136 (by decide) ?_
                      exact jn_MO_rules_J137 ⟨hx, hb, hr, hml, hown, hnm, hlocks, hts, hK, hN, hO⟩ x M' o0 kx (f_MO_rules_L59 n o0) ih x1 x2 x3 x4 x5 v27 0 o0 M25 hf _ _ _ hM hS (lv_sub hl [1, 2, 3, 4, 5, 6, 0] rfl)
                    · have hf := px_iff hf c78
                      refine lv_iconst (v := 1) hx hb d_MO_rules_132 (by decide) ?_
                      refine lv_goto (tgt := 137) hx hb d_MO_rules_133 (by decide) ?_
                      exact jn_MO_rules_J137 ⟨hx, hb, hr, hml, hown, hnm, hlocks, hts, hK, hN, hO⟩ x M' o0 kx (f_MO_rules_L59 n o0) ih x1 x2 x3 x4 x5 v27 1 o0 M25 hf _ _ _ hM hS (lv_sub hl [1, 2, 3, 4, 5, 6, 0] rfl)
        · have hf := px_iff hf c28
          refine lv_iload hx hb d_MO_rules_85 (lv_at hl 0 rfl) ?_
          refine lv_bipush (v := 109) hx hb d_MO_rules_87 (by decide) ?_
          refine lv_icmp_eq (tgt := 99) hx hb d_MO_rules_89 (by decide) (fun c79 => ?_) (fun c79 => ?_)
          · have hf := px_ift hf c79
            refine lv_iload hx hb d_MO_rules_99 (lv_at hl 0 rfl) ?_
            refine lv_bipush (v := 104) hx hb d_MO_rules_101 (by decide) ?_
            refine lv_icmp_ne (tgt := 110) hx hb d_MO_rules_103 (by decide) (fun c80 => ?_) (fun c80 => ?_)
            · have hf := px_iff hf c80
              refine lv_iload hx hb d_MO_rules_110 (lv_at hl 0 rfl) ?_
              refine lv_bipush (v := 109) hx hb d_MO_rules_112 (by decide) ?_
              refine lv_icmp_ne (tgt := 121) hx hb d_MO_rules_114 (by decide) (fun c81 => ?_) (fun c81 => ?_)
              · have hf := px_iff hf c81
                refine lv_iload hx hb d_MO_rules_121 (lv_at hl 0 rfl) ?_
                refine lv_bipush (v := 111) hx hb d_MO_rules_123 (by decide) ?_
                refine lv_icmp_ne (tgt := 136) hx hb d_MO_rules_125 (by decide) (fun c82 => ?_) (fun c82 => ?_)
                · have hf := px_iff hf c82
                  refine lv_iconst (v := 0) hx hb d_MO_rules_136 (by decide) ?_
                  exact jn_MO_rules_J137 ⟨hx, hb, hr, hml, hown, hnm, hlocks, hts, hK, hN, hO⟩ x M' o0 kx (f_MO_rules_L59 n o0) ih x1 x2 x3 x4 x5 v27 0 o0 M25 hf _ _ _ hM hS (lv_sub hl [1, 2, 3, 4, 5, 6, 0] rfl)
                · have hf := px_ift hf c82
                  refine lv_iload_n hx hb d_MO_rules_128 rfl (lv_at hl 4 rfl) ?_
                  refine lv_if_eq (tgt := 136) hx hb d_MO_rules_129 (by decide) (fun c83 => ?_) (fun c83 => ?_)
                  · have hf := px_ift hf c83
                    refine lv_iconst (v := 0) hx hb d_MO_rules_136 (by decide) ?_
                    exact jn_MO_rules_J137 ⟨hx, hb, hr, hml, hown, hnm, hlocks, hts, hK, hN, hO⟩ x M' o0 kx (f_MO_rules_L59 n o0) ih x1 x2 x3 x4 x5 v27 0 o0 M25 hf _ _ _ hM hS (lv_sub hl [1, 2, 3, 4, 5, 6, 0] rfl)
                  · have hf := px_iff hf c83
                    refine lv_iconst (v := 1) hx hb d_MO_rules_132 (by decide) ?_
                    refine lv_goto (tgt := 137) hx hb d_MO_rules_133 (by decide) ?_
                    exact jn_MO_rules_J137 ⟨hx, hb, hr, hml, hown, hnm, hlocks, hts, hK, hN, hO⟩ x M' o0 kx (f_MO_rules_L59 n o0) ih x1 x2 x3 x4 x5 v27 1 o0 M25 hf _ _ _ hM hS (lv_sub hl [1, 2, 3, 4, 5, 6, 0] rfl)
              · have hf := px_ift hf c81
                refine lv_iload_n hx hb d_MO_rules_117 rfl (lv_at hl 3 rfl) ?_
                refine lv_if_ne (tgt := 132) hx hb d_MO_rules_118 (by decide) (fun c84 => ?_) (fun c84 => ?_)
                · have hf := px_iff hf c84
                  refine lv_iconst (v := 1) hx hb d_MO_rules_132 (by decide) ?_
                  refine lv_goto (tgt := 137) hx hb d_MO_rules_133 (by decide) ?_
                  exact jn_MO_rules_J137 ⟨hx, hb, hr, hml, hown, hnm, hlocks, hts, hK, hN, hO⟩ x M' o0 kx (f_MO_rules_L59 n o0) ih x1 x2 x3 x4 x5 v27 1 o0 M25 hf _ _ _ hM hS (lv_sub hl [1, 2, 3, 4, 5, 6, 0] rfl)
                · have hf := px_ift hf c84
                  refine lv_iload hx hb d_MO_rules_121 (lv_at hl 0 rfl) ?_
                  refine lv_bipush (v := 111) hx hb d_MO_rules_123 (by decide) ?_
                  refine lv_icmp_ne (tgt := 136) hx hb d_MO_rules_125 (by decide) (fun c85 => ?_) (fun c85 => ?_)
                  · have hf := px_iff hf c85
                    refine lv_iconst (v := 0) hx hb d_MO_rules_136 (by decide) ?_
                    exact jn_MO_rules_J137 ⟨hx, hb, hr, hml, hown, hnm, hlocks, hts, hK, hN, hO⟩ x M' o0 kx (f_MO_rules_L59 n o0) ih x1 x2 x3 x4 x5 v27 0 o0 M25 hf _ _ _ hM hS (lv_sub hl [1, 2, 3, 4, 5, 6, 0] rfl)
                  · have hf := px_ift hf c85
                    refine lv_iload_n hx hb d_MO_rules_128 rfl (lv_at hl 4 rfl) ?_
                    refine lv_if_eq (tgt := 136) hx hb d_MO_rules_129 (by decide) (fun c86 => ?_) (fun c86 => ?_)
                    · have hf := px_ift hf c86
                      refine lv_iconst (v := 0) hx hb d_MO_rules_136 (by decide) ?_
                      exact jn_MO_rules_J137 ⟨hx, hb, hr, hml, hown, hnm, hlocks, hts, hK, hN, hO⟩ x M' o0 kx (f_MO_rules_L59 n o0) ih x1 x2 x3 x4 x5 v27 0 o0 M25 hf _ _ _ hM hS (lv_sub hl [1, 2, 3, 4, 5, 6, 0] rfl)
                    · have hf := px_iff hf c86
                      refine lv_iconst (v := 1) hx hb d_MO_rules_132 (by decide) ?_
                      refine lv_goto (tgt := 137) hx hb d_MO_rules_133 (by decide) ?_
                      exact jn_MO_rules_J137 ⟨hx, hb, hr, hml, hown, hnm, hlocks, hts, hK, hN, hO⟩ x M' o0 kx (f_MO_rules_L59 n o0) ih x1 x2 x3 x4 x5 v27 1 o0 M25 hf _ _ _ hM hS (lv_sub hl [1, 2, 3, 4, 5, 6, 0] rfl)
            · have hf := px_ift hf c80
              refine lv_iload_n hx hb d_MO_rules_106 rfl (lv_at hl 2 rfl) ?_
              refine lv_if_ne (tgt := 132) hx hb d_MO_rules_107 (by decide) (fun c87 => ?_) (fun c87 => ?_)
              · have hf := px_iff hf c87
                refine lv_iconst (v := 1) hx hb d_MO_rules_132 (by decide) ?_
                refine lv_goto (tgt := 137) hx hb d_MO_rules_133 (by decide) ?_
                exact jn_MO_rules_J137 ⟨hx, hb, hr, hml, hown, hnm, hlocks, hts, hK, hN, hO⟩ x M' o0 kx (f_MO_rules_L59 n o0) ih x1 x2 x3 x4 x5 v27 1 o0 M25 hf _ _ _ hM hS (lv_sub hl [1, 2, 3, 4, 5, 6, 0] rfl)
              · have hf := px_ift hf c87
                refine lv_iload hx hb d_MO_rules_110 (lv_at hl 0 rfl) ?_
                refine lv_bipush (v := 109) hx hb d_MO_rules_112 (by decide) ?_
                refine lv_icmp_ne (tgt := 121) hx hb d_MO_rules_114 (by decide) (fun c88 => ?_) (fun c88 => ?_)
                · have hf := px_iff hf c88
                  refine lv_iload hx hb d_MO_rules_121 (lv_at hl 0 rfl) ?_
                  refine lv_bipush (v := 111) hx hb d_MO_rules_123 (by decide) ?_
                  refine lv_icmp_ne (tgt := 136) hx hb d_MO_rules_125 (by decide) (fun c89 => ?_) (fun c89 => ?_)
                  · have hf := px_iff hf c89
                    refine lv_iconst (v := 0) hx hb d_MO_rules_136 (by decide) ?_
                    exact jn_MO_rules_J137 ⟨hx, hb, hr, hml, hown, hnm, hlocks, hts, hK, hN, hO⟩ x M' o0 kx (f_MO_rules_L59 n o0) ih x1 x2 x3 x4 x5 v27 0 o0 M25 hf _ _ _ hM hS (lv_sub hl [1, 2, 3, 4, 5, 6, 0] rfl)
                  · have hf := px_ift hf c89
                    refine lv_iload_n hx hb d_MO_rules_128 rfl (lv_at hl 4 rfl) ?_
                    refine lv_if_eq (tgt := 136) hx hb d_MO_rules_129 (by decide) (fun c90 => ?_) (fun c90 => ?_)
                    · have hf := px_ift hf c90
                      refine lv_iconst (v := 0) hx hb d_MO_rules_136 (by decide) ?_
                      exact jn_MO_rules_J137 ⟨hx, hb, hr, hml, hown, hnm, hlocks, hts, hK, hN, hO⟩ x M' o0 kx (f_MO_rules_L59 n o0) ih x1 x2 x3 x4 x5 v27 0 o0 M25 hf _ _ _ hM hS (lv_sub hl [1, 2, 3, 4, 5, 6, 0] rfl)
                    · have hf := px_iff hf c90
                      refine lv_iconst (v := 1) hx hb d_MO_rules_132 (by decide) ?_
                      refine lv_goto (tgt := 137) hx hb d_MO_rules_133 (by decide) ?_
                      exact jn_MO_rules_J137 ⟨hx, hb, hr, hml, hown, hnm, hlocks, hts, hK, hN, hO⟩ x M' o0 kx (f_MO_rules_L59 n o0) ih x1 x2 x3 x4 x5 v27 1 o0 M25 hf _ _ _ hM hS (lv_sub hl [1, 2, 3, 4, 5, 6, 0] rfl)
                · have hf := px_ift hf c88
                  refine lv_iload_n hx hb d_MO_rules_117 rfl (lv_at hl 3 rfl) ?_
                  refine lv_if_ne (tgt := 132) hx hb d_MO_rules_118 (by decide) (fun c91 => ?_) (fun c91 => ?_)
                  · have hf := px_iff hf c91
                    refine lv_iconst (v := 1) hx hb d_MO_rules_132 (by decide) ?_
                    refine lv_goto (tgt := 137) hx hb d_MO_rules_133 (by decide) ?_
                    exact jn_MO_rules_J137 ⟨hx, hb, hr, hml, hown, hnm, hlocks, hts, hK, hN, hO⟩ x M' o0 kx (f_MO_rules_L59 n o0) ih x1 x2 x3 x4 x5 v27 1 o0 M25 hf _ _ _ hM hS (lv_sub hl [1, 2, 3, 4, 5, 6, 0] rfl)
                  · have hf := px_ift hf c91
                    refine lv_iload hx hb d_MO_rules_121 (lv_at hl 0 rfl) ?_
                    refine lv_bipush (v := 111) hx hb d_MO_rules_123 (by decide) ?_
                    refine lv_icmp_ne (tgt := 136) hx hb d_MO_rules_125 (by decide) (fun c92 => ?_) (fun c92 => ?_)
                    · have hf := px_iff hf c92
                      refine lv_iconst (v := 0) hx hb d_MO_rules_136 (by decide) ?_
                      exact jn_MO_rules_J137 ⟨hx, hb, hr, hml, hown, hnm, hlocks, hts, hK, hN, hO⟩ x M' o0 kx (f_MO_rules_L59 n o0) ih x1 x2 x3 x4 x5 v27 0 o0 M25 hf _ _ _ hM hS (lv_sub hl [1, 2, 3, 4, 5, 6, 0] rfl)
                    · have hf := px_ift hf c92
                      refine lv_iload_n hx hb d_MO_rules_128 rfl (lv_at hl 4 rfl) ?_
                      refine lv_if_eq (tgt := 136) hx hb d_MO_rules_129 (by decide) (fun c93 => ?_) (fun c93 => ?_)
                      · have hf := px_ift hf c93
                        refine lv_iconst (v := 0) hx hb d_MO_rules_136 (by decide) ?_
                        exact jn_MO_rules_J137 ⟨hx, hb, hr, hml, hown, hnm, hlocks, hts, hK, hN, hO⟩ x M' o0 kx (f_MO_rules_L59 n o0) ih x1 x2 x3 x4 x5 v27 0 o0 M25 hf _ _ _ hM hS (lv_sub hl [1, 2, 3, 4, 5, 6, 0] rfl)
                      · have hf := px_iff hf c93
                        refine lv_iconst (v := 1) hx hb d_MO_rules_132 (by decide) ?_
                        refine lv_goto (tgt := 137) hx hb d_MO_rules_133 (by decide) ?_
                        exact jn_MO_rules_J137 ⟨hx, hb, hr, hml, hown, hnm, hlocks, hts, hK, hN, hO⟩ x M' o0 kx (f_MO_rules_L59 n o0) ih x1 x2 x3 x4 x5 v27 1 o0 M25 hf _ _ _ hM hS (lv_sub hl [1, 2, 3, 4, 5, 6, 0] rfl)
          · have hf := px_iff hf c79
            refine lv_iload hx hb d_MO_rules_92 (lv_at hl 0 rfl) ?_
            refine lv_bipush (v := 111) hx hb d_MO_rules_94 (by decide) ?_
            refine lv_icmp_ne (tgt := 132) hx hb d_MO_rules_96 (by decide) (fun c94 => ?_) (fun c94 => ?_)
            · have hf := px_iff hf c94
              refine lv_iconst (v := 1) hx hb d_MO_rules_132 (by decide) ?_
              refine lv_goto (tgt := 137) hx hb d_MO_rules_133 (by decide) ?_
              exact jn_MO_rules_J137 ⟨hx, hb, hr, hml, hown, hnm, hlocks, hts, hK, hN, hO⟩ x M' o0 kx (f_MO_rules_L59 n o0) ih x1 x2 x3 x4 x5 v27 1 o0 M25 hf _ _ _ hM hS (lv_sub hl [1, 2, 3, 4, 5, 6, 0] rfl)
            · have hf := px_ift hf c94
              refine lv_iload hx hb d_MO_rules_99 (lv_at hl 0 rfl) ?_
              refine lv_bipush (v := 104) hx hb d_MO_rules_101 (by decide) ?_
              refine lv_icmp_ne (tgt := 110) hx hb d_MO_rules_103 (by decide) (fun c95 => ?_) (fun c95 => ?_)
              · have hf := px_iff hf c95
                refine lv_iload hx hb d_MO_rules_110 (lv_at hl 0 rfl) ?_
                refine lv_bipush (v := 109) hx hb d_MO_rules_112 (by decide) ?_
                refine lv_icmp_ne (tgt := 121) hx hb d_MO_rules_114 (by decide) (fun c96 => ?_) (fun c96 => ?_)
                · have hf := px_iff hf c96
                  refine lv_iload hx hb d_MO_rules_121 (lv_at hl 0 rfl) ?_
                  refine lv_bipush (v := 111) hx hb d_MO_rules_123 (by decide) ?_
                  refine lv_icmp_ne (tgt := 136) hx hb d_MO_rules_125 (by decide) (fun c97 => ?_) (fun c97 => ?_)
                  · have hf := px_iff hf c97
                    refine lv_iconst (v := 0) hx hb d_MO_rules_136 (by decide) ?_
                    exact jn_MO_rules_J137 ⟨hx, hb, hr, hml, hown, hnm, hlocks, hts, hK, hN, hO⟩ x M' o0 kx (f_MO_rules_L59 n o0) ih x1 x2 x3 x4 x5 v27 0 o0 M25 hf _ _ _ hM hS (lv_sub hl [1, 2, 3, 4, 5, 6, 0] rfl)
                  · have hf := px_ift hf c97
                    refine lv_iload_n hx hb d_MO_rules_128 rfl (lv_at hl 4 rfl) ?_
                    refine lv_if_eq (tgt := 136) hx hb d_MO_rules_129 (by decide) (fun c98 => ?_) (fun c98 => ?_)
                    · have hf := px_ift hf c98
                      refine lv_iconst (v := 0) hx hb d_MO_rules_136 (by decide) ?_
                      exact jn_MO_rules_J137 ⟨hx, hb, hr, hml, hown, hnm, hlocks, hts, hK, hN, hO⟩ x M' o0 kx (f_MO_rules_L59 n o0) ih x1 x2 x3 x4 x5 v27 0 o0 M25 hf _ _ _ hM hS (lv_sub hl [1, 2, 3, 4, 5, 6, 0] rfl)
                    · have hf := px_iff hf c98
                      refine lv_iconst (v := 1) hx hb d_MO_rules_132 (by decide) ?_
                      refine lv_goto (tgt := 137) hx hb d_MO_rules_133 (by decide) ?_
                      exact jn_MO_rules_J137 ⟨hx, hb, hr, hml, hown, hnm, hlocks, hts, hK, hN, hO⟩ x M' o0 kx (f_MO_rules_L59 n o0) ih x1 x2 x3 x4 x5 v27 1 o0 M25 hf _ _ _ hM hS (lv_sub hl [1, 2, 3, 4, 5, 6, 0] rfl)
                · have hf := px_ift hf c96
                  refine lv_iload_n hx hb d_MO_rules_117 rfl (lv_at hl 3 rfl) ?_
                  refine lv_if_ne (tgt := 132) hx hb d_MO_rules_118 (by decide) (fun c99 => ?_) (fun c99 => ?_)
                  · have hf := px_iff hf c99
                    refine lv_iconst (v := 1) hx hb d_MO_rules_132 (by decide) ?_
                    refine lv_goto (tgt := 137) hx hb d_MO_rules_133 (by decide) ?_
                    exact jn_MO_rules_J137 ⟨hx, hb, hr, hml, hown, hnm, hlocks, hts, hK, hN, hO⟩ x M' o0 kx (f_MO_rules_L59 n o0) ih x1 x2 x3 x4 x5 v27 1 o0 M25 hf _ _ _ hM hS (lv_sub hl [1, 2, 3, 4, 5, 6, 0] rfl)
                  · have hf := px_ift hf c99
                    refine lv_iload hx hb d_MO_rules_121 (lv_at hl 0 rfl) ?_
                    refine lv_bipush (v := 111) hx hb d_MO_rules_123 (by decide) ?_
                    refine lv_icmp_ne (tgt := 136) hx hb d_MO_rules_125 (by decide) (fun c100 => ?_) (fun c100 => ?_)
                    · have hf := px_iff hf c100
                      refine lv_iconst (v := 0) hx hb d_MO_rules_136 (by decide) ?_
                      exact jn_MO_rules_J137 ⟨hx, hb, hr, hml, hown, hnm, hlocks, hts, hK, hN, hO⟩ x M' o0 kx (f_MO_rules_L59 n o0) ih x1 x2 x3 x4 x5 v27 0 o0 M25 hf _ _ _ hM hS (lv_sub hl [1, 2, 3, 4, 5, 6, 0] rfl)
                    · have hf := px_ift hf c100
                      refine lv_iload_n hx hb d_MO_rules_128 rfl (lv_at hl 4 rfl) ?_
                      refine lv_if_eq (tgt := 136) hx hb d_MO_rules_129 (by decide) (fun c101 => ?_) (fun c101 => ?_)
                      · have hf := px_ift hf c101
                        refine lv_iconst (v := 0) hx hb d_MO_rules_136 (by decide) ?_
                        exact jn_MO_rules_J137 ⟨hx, hb, hr, hml, hown, hnm, hlocks, hts, hK, hN, hO⟩ x M' o0 kx (f_MO_rules_L59 n o0) ih x1 x2 x3 x4 x5 v27 0 o0 M25 hf _ _ _ hM hS (lv_sub hl [1, 2, 3, 4, 5, 6, 0] rfl)
                      · have hf := px_iff hf c101
                        refine lv_iconst (v := 1) hx hb d_MO_rules_132 (by decide) ?_
                        refine lv_goto (tgt := 137) hx hb d_MO_rules_133 (by decide) ?_
                        exact jn_MO_rules_J137 ⟨hx, hb, hr, hml, hown, hnm, hlocks, hts, hK, hN, hO⟩ x M' o0 kx (f_MO_rules_L59 n o0) ih x1 x2 x3 x4 x5 v27 1 o0 M25 hf _ _ _ hM hS (lv_sub hl [1, 2, 3, 4, 5, 6, 0] rfl)
              · have hf := px_ift hf c95
                refine lv_iload_n hx hb d_MO_rules_106 rfl (lv_at hl 2 rfl) ?_
                refine lv_if_ne (tgt := 132) hx hb d_MO_rules_107 (by decide) (fun c102 => ?_) (fun c102 => ?_)
                · have hf := px_iff hf c102
                  refine lv_iconst (v := 1) hx hb d_MO_rules_132 (by decide) ?_
                  refine lv_goto (tgt := 137) hx hb d_MO_rules_133 (by decide) ?_
                  exact jn_MO_rules_J137 ⟨hx, hb, hr, hml, hown, hnm, hlocks, hts, hK, hN, hO⟩ x M' o0 kx (f_MO_rules_L59 n o0) ih x1 x2 x3 x4 x5 v27 1 o0 M25 hf _ _ _ hM hS (lv_sub hl [1, 2, 3, 4, 5, 6, 0] rfl)
                · have hf := px_ift hf c102
                  refine lv_iload hx hb d_MO_rules_110 (lv_at hl 0 rfl) ?_
                  refine lv_bipush (v := 109) hx hb d_MO_rules_112 (by decide) ?_
                  refine lv_icmp_ne (tgt := 121) hx hb d_MO_rules_114 (by decide) (fun c103 => ?_) (fun c103 => ?_)
                  · have hf := px_iff hf c103
                    refine lv_iload hx hb d_MO_rules_121 (lv_at hl 0 rfl) ?_
                    refine lv_bipush (v := 111) hx hb d_MO_rules_123 (by decide) ?_
                    refine lv_icmp_ne (tgt := 136) hx hb d_MO_rules_125 (by decide) (fun c104 => ?_) (fun c104 => ?_)
                    · have hf := px_iff hf c104
                      refine lv_iconst (v := 0) hx hb d_MO_rules_136 (by decide) ?_
                      exact jn_MO_rules_J137 ⟨hx, hb, hr, hml, hown, hnm, hlocks, hts, hK, hN, hO⟩ x M' o0 kx (f_MO_rules_L59 n o0) ih x1 x2 x3 x4 x5 v27 0 o0 M25 hf _ _ _ hM hS (lv_sub hl [1, 2, 3, 4, 5, 6, 0] rfl)
                    · have hf := px_ift hf c104
                      refine lv_iload_n hx hb d_MO_rules_128 rfl (lv_at hl 4 rfl) ?_
                      refine lv_if_eq (tgt := 136) hx hb d_MO_rules_129 (by decide) (fun c105 => ?_) (fun c105 => ?_)
                      · have hf := px_ift hf c105
                        refine lv_iconst (v := 0) hx hb d_MO_rules_136 (by decide) ?_
                        exact jn_MO_rules_J137 ⟨hx, hb, hr, hml, hown, hnm, hlocks, hts, hK, hN, hO⟩ x M' o0 kx (f_MO_rules_L59 n o0) ih x1 x2 x3 x4 x5 v27 0 o0 M25 hf _ _ _ hM hS (lv_sub hl [1, 2, 3, 4, 5, 6, 0] rfl)
                      · have hf := px_iff hf c105
                        refine lv_iconst (v := 1) hx hb d_MO_rules_132 (by decide) ?_
                        refine lv_goto (tgt := 137) hx hb d_MO_rules_133 (by decide) ?_
                        exact jn_MO_rules_J137 ⟨hx, hb, hr, hml, hown, hnm, hlocks, hts, hK, hN, hO⟩ x M' o0 kx (f_MO_rules_L59 n o0) ih x1 x2 x3 x4 x5 v27 1 o0 M25 hf _ _ _ hM hS (lv_sub hl [1, 2, 3, 4, 5, 6, 0] rfl)
                  · have hf := px_ift hf c103
                    refine lv_iload_n hx hb d_MO_rules_117 rfl (lv_at hl 3 rfl) ?_
                    refine lv_if_ne (tgt := 132) hx hb d_MO_rules_118 (by decide) (fun c106 => ?_) (fun c106 => ?_)
                    · have hf := px_iff hf c106
                      refine lv_iconst (v := 1) hx hb d_MO_rules_132 (by decide) ?_
                      refine lv_goto (tgt := 137) hx hb d_MO_rules_133 (by decide) ?_
                      exact jn_MO_rules_J137 ⟨hx, hb, hr, hml, hown, hnm, hlocks, hts, hK, hN, hO⟩ x M' o0 kx (f_MO_rules_L59 n o0) ih x1 x2 x3 x4 x5 v27 1 o0 M25 hf _ _ _ hM hS (lv_sub hl [1, 2, 3, 4, 5, 6, 0] rfl)
                    · have hf := px_ift hf c106
                      refine lv_iload hx hb d_MO_rules_121 (lv_at hl 0 rfl) ?_
                      refine lv_bipush (v := 111) hx hb d_MO_rules_123 (by decide) ?_
                      refine lv_icmp_ne (tgt := 136) hx hb d_MO_rules_125 (by decide) (fun c107 => ?_) (fun c107 => ?_)
                      · have hf := px_iff hf c107
                        refine lv_iconst (v := 0) hx hb d_MO_rules_136 (by decide) ?_
                        exact jn_MO_rules_J137 ⟨hx, hb, hr, hml, hown, hnm, hlocks, hts, hK, hN, hO⟩ x M' o0 kx (f_MO_rules_L59 n o0) ih x1 x2 x3 x4 x5 v27 0 o0 M25 hf _ _ _ hM hS (lv_sub hl [1, 2, 3, 4, 5, 6, 0] rfl)
                      · have hf := px_ift hf c107
                        refine lv_iload_n hx hb d_MO_rules_128 rfl (lv_at hl 4 rfl) ?_
                        refine lv_if_eq (tgt := 136) hx hb d_MO_rules_129 (by decide) (fun c108 => ?_) (fun c108 => ?_)
                        · have hf := px_ift hf c108
                          refine lv_iconst (v := 0) hx hb d_MO_rules_136 (by decide) ?_
                          exact jn_MO_rules_J137 ⟨hx, hb, hr, hml, hown, hnm, hlocks, hts, hK, hN, hO⟩ x M' o0 kx (f_MO_rules_L59 n o0) ih x1 x2 x3 x4 x5 v27 0 o0 M25 hf _ _ _ hM hS (lv_sub hl [1, 2, 3, 4, 5, 6, 0] rfl)
                        · have hf := px_iff hf c108
                          refine lv_iconst (v := 1) hx hb d_MO_rules_132 (by decide) ?_
                          refine lv_goto (tgt := 137) hx hb d_MO_rules_133 (by decide) ?_
                          exact jn_MO_rules_J137 ⟨hx, hb, hr, hml, hown, hnm, hlocks, hts, hK, hN, hO⟩ x M' o0 kx (f_MO_rules_L59 n o0) ih x1 x2 x3 x4 x5 v27 1 o0 M25 hf _ _ _ hM hS (lv_sub hl [1, 2, 3, 4, 5, 6, 0] rfl)
def f_MO_rules_L307 : Nat → Nat → Int32 → Int32 → px_M → Option ((Unit) × px_M)
  | 0, _, _, _, _ => none
  | n + 1, o0, x4, x6, M =>
    (px_gi 11 2 M o0).bind fun v122 =>
    if v122 ≤ x6 then
    some ((), M)
    else
    (px_gr 11 3 M o0).bind fun t125 =>
    (px_gr 11 9 M o0).bind fun t127 =>
    (px_ai 0 M t127 x6).bind fun v129 =>
    (px_si 0 M t125 x6 v129).bind fun M131 =>
    (px_gr 11 4 M131 o0).bind fun t133 =>
    (px_gr 11 10 M131 o0).bind fun t135 =>
    (px_ai 0 M131 t135 x6).bind fun v137 =>
    (px_si 0 M131 t133 x6 v137).bind fun M139 =>
    f_MO_rules_L307 n o0 x4 (x6 + 1) M139
set_option maxHeartbeats 4000000 in
set_option maxRecDepth 100000 in
theorem lp_MO_rules_L307 {p : Program} {l : Launch} {e : Env} {s : State} {m : MethodId} {args : Array Value} {below : List Frame} {meth : Method} {c : Code} {bs : Nat} {D : va_G} {G : Nat → ClassId} {Q : State → Prop} (C0 : px_At p s m meth c y_MO_rules b_MO_rules 8 (some .int) args D px_cl (px_tys G) px_nw px_over) (x : Unit) (M' : px_M) (o0 : Nat) (x4 : Int32) (kx : ∀ (H : Heap) (locs : List Loc) (ls : Array Slot), px_W bs D px_cl (px_tys G) M' H → va_S (fun q => bs ≤ q) s.heap H locs → lv_has ls 8 [(0, .ref o0), (4, .int x4)] → W p l e ⟨4, 0, 0, 90⟩ s m args below meth c H locs 0 0 Q (F0 m 350 ls []))  : ∀ (n : Nat) (x6 : Int32) (M : px_M), f_MO_rules_L307 n o0 x4 x6 M = some (x, M') → ∀ (H : Heap) (locs : List Loc) (ls : Array Slot), px_W bs D px_cl (px_tys G) M H → va_S (fun q => bs ≤ q) s.heap H locs → lv_has ls 8 [(0, .ref o0), (4, .int x4), (6, .int x6)] → W p l e ⟨4, 0, 0, 90⟩ s m args below meth c H locs 0 0 Q (F0 m 307 ls []) := by
  obtain ⟨hx, hb, hr, hml, hown, hnm, hlocks, hts, hK, hN, hO⟩ := C0
  intro n
  induction n with
  | zero => intro x6 M hf; cases hf
  | succ n ih =>
    intro x6 M hf H locs ls hM hS hl
    unfold f_MO_rules_L307 at hf
    refine lv_iload hx hb d_MO_rules_307 (lv_at hl 2 rfl) ?_
    refine lv_aload_n hx hb d_MO_rules_309 rfl (lv_at hl 0 rfl) ?_
    obtain ⟨v122, h123, hf⟩ := px_bind hf
    refine px_rgi hx hb hts cl_MO hown hK hM 2 (by decide) (hts _ w_647) h123 d_MO_rules_310 ?_
    refine lv_icmp_ge (tgt := 350) hx hb d_MO_rules_313 (by decide) (fun c124 => ?_) (fun c124 => ?_)
    · have hf := px_ift hf c124
      obtain ⟨rfl, rfl⟩ := px_s2 hf
      exact kx _ _ _ hM hS (lv_sub hl [0, 1] rfl)
    · have hf := px_iff hf c124
      refine lv_aload_n hx hb d_MO_rules_316 rfl (lv_at hl 0 rfl) ?_
      obtain ⟨t125, h126, hf⟩ := px_bind hf
      refine px_rgr hx hb hts cl_MO hown hK hM 3 (by decide) (hts _ w_648) h126 d_MO_rules_317 ?_
      refine lv_iload hx hb d_MO_rules_320 (lv_at hl 2 rfl) ?_
      refine lv_aload_n hx hb d_MO_rules_322 rfl (lv_at hl 0 rfl) ?_
      obtain ⟨t127, h128, hf⟩ := px_bind hf
      refine px_rgr hx hb hts cl_MO hown hK hM 9 (by decide) (hts _ w_654) h128 d_MO_rules_323 ?_
      refine lv_iload hx hb d_MO_rules_326 (lv_at hl 2 rfl) ?_
      obtain ⟨v129, h130, hf⟩ := px_bind hf
      refine px_rai hx hb hK hM 0 rfl h130 d_MO_rules_328 ?_
      obtain ⟨M131, h132, hf⟩ := px_bind hf
      refine px_rsi hx hb hK hM hS 0 rfl h132 d_MO_rules_329 (fun H locs hM hS => ?_)
      refine lv_aload_n hx hb d_MO_rules_330 rfl (lv_at hl 0 rfl) ?_
      obtain ⟨t133, h134, hf⟩ := px_bind hf
      refine px_rgr hx hb hts cl_MO hown hK hM 4 (by decide) (hts _ w_649) h134 d_MO_rules_331 ?_
      refine lv_iload hx hb d_MO_rules_334 (lv_at hl 2 rfl) ?_
      refine lv_aload_n hx hb d_MO_rules_336 rfl (lv_at hl 0 rfl) ?_
      obtain ⟨t135, h136, hf⟩ := px_bind hf
      refine px_rgr hx hb hts cl_MO hown hK hM 10 (by decide) (hts _ w_655) h136 d_MO_rules_337 ?_
      refine lv_iload hx hb d_MO_rules_340 (lv_at hl 2 rfl) ?_
      obtain ⟨v137, h138, hf⟩ := px_bind hf
      refine px_rai hx hb hK hM 0 rfl h138 d_MO_rules_342 ?_
      obtain ⟨M139, h140, hf⟩ := px_bind hf
      refine px_rsi hx hb hK hM hS 0 rfl h140 d_MO_rules_343 (fun H locs hM hS => ?_)
      refine lv_iinc (v := x6 + 1) (lv' := [(6, .int (x6 + 1)), (0, .ref o0), (4, .int x4)]) hx hb d_MO_rules_344 hl (k := 2) rfl (by rfl) (by decide) rfl (fun ls hl => ?_)
      refine lv_goto (tgt := 307) hx hb d_MO_rules_347 (by decide) ?_
      exact ih (x6 + 1) M139 hf _ _ _ hM hS (lv_sub hl [1, 2, 0] rfl)
def f_MO_rules (o0 : Nat) (M : px_M) : Option (Int32 × px_M) :=
  (px_pt 11 14 M o0 (.int 0)).bind fun M1 =>
  (px_pt 11 15 M1 o0 (.int 0)).bind fun M3 =>
  (px_pt 11 8 M3 o0 (.int 1)).bind fun M5 =>
  (px_gr 11 9 M5 o0).bind fun t7 =>
  (px_si 0 M5 t7 0 50).bind fun M9 =>
  (px_gr 11 10 M9 o0).bind fun t11 =>
  (px_si 0 M9 t11 0 100).bind fun M13 =>
  (px_pt 11 11 M13 o0 (.int 0)).bind fun M15 =>
  (px_pt 11 12 M15 o0 (.int 0)).bind fun M17 =>
  (px_pt 11 13 M17 o0 (.int 116)).bind fun M19 =>
  (f_MO_rules_L59 px_fuel o0 0 0 0 0 1 M19).bind fun (v112, M110) =>
  (px_pt 11 0 M110 o0 (.int 0)).bind fun M113 =>
  (px_gi 11 15 M113 o0).bind fun v115 =>
  if v115 = 0 then
  (px_gi 11 8 M113 o0).bind fun v118 =>
  (px_pt 11 2 M113 o0 (.int v118)).bind fun M120 =>
  (f_MO_rules_L307 px_fuel o0 v112 0 M120).bind fun (_, M141) =>
  (px_gi 11 11 M141 o0).bind fun v143 =>
  (px_pt 11 5 M141 o0 (.int v143)).bind fun M145 =>
  (px_gi 11 12 M145 o0).bind fun v147 =>
  (px_pt 11 6 M145 o0 (.int v147)).bind fun M149 =>
  (px_gi 11 13 M149 o0).bind fun v151 =>
  (px_pt 11 7 M149 o0 (.int v151)).bind fun M153 =>
  some (v112, M153)
  else
  (px_gi 11 14 M113 o0).bind fun v155 =>
  some (((-1)) - v155, M113)
set_option maxHeartbeats 4000000 in
set_option maxRecDepth 100000 in
theorem c_MO_rules (l : Launch) (bs : Nat) (D : va_G) (G : Nat → ClassId) (o0 : Nat) (M : px_M) {r : Int32} {M' : px_M} (hf : f_MO_rules o0 M = some (r, M')) : Met l y_MO_rules (.code y_MO_rules b_MO_rules 8 (some .int) :: px_tw) ⟨4, 0, 0, 90⟩ (va_Pc [.ref o0] (px_B bs D px_cl (px_tys G) px_nw px_over M)) (px_Qi bs D px_cl (px_tys G) r M') 0 0 (fun q => bs ≤ q) := by
  refine px_of (by decide) (Nat.le_of_ble_eq_true rfl) ?_
  intro p e s m below meth c ls C0 hM hS hl
  obtain ⟨hx, hb, hr, hml, hown, hnm, hlocks, hts, hK, hN, hO⟩ := C0
  have hl : lv_has ls 8 [(0, .ref o0)] := hl
  unfold f_MO_rules at hf
  refine lv_aload_n hx hb d_MO_rules_0 rfl (lv_at hl 0 rfl) ?_
  refine lv_iconst (v := 0) hx hb d_MO_rules_1 (by decide) ?_
  obtain ⟨M1, h2, hf⟩ := px_bind hf
  refine px_rpt hx hb hts cl_MO hown hK hM hS 14 (by decide) (hts _ w_659) rfl rfl rfl h2 d_MO_rules_2 (fun H locs hM hS => ?_)
  refine lv_aload_n hx hb d_MO_rules_5 rfl (lv_at hl 0 rfl) ?_
  refine lv_iconst (v := 0) hx hb d_MO_rules_6 (by decide) ?_
  obtain ⟨M3, h4, hf⟩ := px_bind hf
  refine px_rpt hx hb hts cl_MO hown hK hM hS 15 (by decide) (hts _ w_660) rfl rfl rfl h4 d_MO_rules_7 (fun H locs hM hS => ?_)
  refine lv_aload_n hx hb d_MO_rules_10 rfl (lv_at hl 0 rfl) ?_
  refine lv_iconst (v := 1) hx hb d_MO_rules_11 (by decide) ?_
  obtain ⟨M5, h6, hf⟩ := px_bind hf
  refine px_rpt hx hb hts cl_MO hown hK hM hS 8 (by decide) (hts _ w_653) rfl rfl rfl h6 d_MO_rules_12 (fun H locs hM hS => ?_)
  refine lv_aload_n hx hb d_MO_rules_15 rfl (lv_at hl 0 rfl) ?_
  obtain ⟨t7, h8, hf⟩ := px_bind hf
  refine px_rgr hx hb hts cl_MO hown hK hM 9 (by decide) (hts _ w_654) h8 d_MO_rules_16 ?_
  refine lv_iconst (v := 0) hx hb d_MO_rules_19 (by decide) ?_
  refine lv_bipush (v := 50) hx hb d_MO_rules_20 (by decide) ?_
  obtain ⟨M9, h10, hf⟩ := px_bind hf
  refine px_rsi hx hb hK hM hS 0 rfl h10 d_MO_rules_22 (fun H locs hM hS => ?_)
  refine lv_aload_n hx hb d_MO_rules_23 rfl (lv_at hl 0 rfl) ?_
  obtain ⟨t11, h12, hf⟩ := px_bind hf
  refine px_rgr hx hb hts cl_MO hown hK hM 10 (by decide) (hts _ w_655) h12 d_MO_rules_24 ?_
  refine lv_iconst (v := 0) hx hb d_MO_rules_27 (by decide) ?_
  refine lv_bipush (v := 100) hx hb d_MO_rules_28 (by decide) ?_
  obtain ⟨M13, h14, hf⟩ := px_bind hf
  refine px_rsi hx hb hK hM hS 0 rfl h14 d_MO_rules_30 (fun H locs hM hS => ?_)
  refine lv_aload_n hx hb d_MO_rules_31 rfl (lv_at hl 0 rfl) ?_
  refine lv_iconst (v := 0) hx hb d_MO_rules_32 (by decide) ?_
  obtain ⟨M15, h16, hf⟩ := px_bind hf
  refine px_rpt hx hb hts cl_MO hown hK hM hS 11 (by decide) (hts _ w_656) rfl rfl rfl h16 d_MO_rules_33 (fun H locs hM hS => ?_)
  refine lv_aload_n hx hb d_MO_rules_36 rfl (lv_at hl 0 rfl) ?_
  refine lv_iconst (v := 0) hx hb d_MO_rules_37 (by decide) ?_
  obtain ⟨M17, h18, hf⟩ := px_bind hf
  refine px_rpt hx hb hts cl_MO hown hK hM hS 12 (by decide) (hts _ w_657) rfl rfl rfl h18 d_MO_rules_38 (fun H locs hM hS => ?_)
  refine lv_aload_n hx hb d_MO_rules_41 rfl (lv_at hl 0 rfl) ?_
  refine lv_bipush (v := 116) hx hb d_MO_rules_42 (by decide) ?_
  obtain ⟨M19, h20, hf⟩ := px_bind hf
  refine px_rpt hx hb hts cl_MO hown hK hM hS 13 (by decide) (hts _ w_658) rfl rfl rfl h20 d_MO_rules_44 (fun H locs hM hS => ?_)
  refine lv_iconst (v := 0) hx hb d_MO_rules_47 (by decide) ?_
  refine lv_istore_n (lv' := [(1, .int 0), (0, .ref o0)]) hx hb d_MO_rules_48 rfl hl (by decide) rfl (fun ls hl => ?_)
  refine lv_iconst (v := 0) hx hb d_MO_rules_49 (by decide) ?_
  refine lv_istore_n (lv' := [(2, .int 0), (1, .int 0), (0, .ref o0)]) hx hb d_MO_rules_50 rfl hl (by decide) rfl (fun ls hl => ?_)
  refine lv_iconst (v := 0) hx hb d_MO_rules_51 (by decide) ?_
  refine lv_istore_n (lv' := [(3, .int 0), (2, .int 0), (1, .int 0), (0, .ref o0)]) hx hb d_MO_rules_52 rfl hl (by decide) rfl (fun ls hl => ?_)
  refine lv_iconst (v := 0) hx hb d_MO_rules_53 (by decide) ?_
  refine lv_istore (lv' := [(4, .int 0), (3, .int 0), (2, .int 0), (1, .int 0), (0, .ref o0)]) hx hb d_MO_rules_54 hl (by decide) rfl (fun ls hl => ?_)
  refine lv_iconst (v := 1) hx hb d_MO_rules_56 (by decide) ?_
  refine lv_istore (lv' := [(5, .int 1), (4, .int 0), (3, .int 0), (2, .int 0), (1, .int 0), (0, .ref o0)]) hx hb d_MO_rules_57 hl (by decide) rfl (fun ls hl => ?_)
  obtain ⟨⟨v112, M110⟩, h111, hf⟩ := px_bind hf
  dsimp only at hf
  refine lp_MO_rules_L59 ⟨hx, hb, hr, hml, hown, hnm, hlocks, hts, hK, hN, hO⟩ _ M110 o0 (fun H locs ls hM hS hl => ?_) px_fuel 0 0 0 0 1 M19 h111 _ _ _ hM hS (lv_sub hl [5, 4, 3, 2, 1, 0] rfl)
  try dsimp only at hl
  refine lv_aload_n hx hb d_MO_rules_277 rfl (lv_at hl 0 rfl) ?_
  refine lv_iconst (v := 0) hx hb d_MO_rules_278 (by decide) ?_
  obtain ⟨M113, h114, hf⟩ := px_bind hf
  refine px_rpt hx hb hts cl_MO hown hK hM hS 0 (by decide) (hts _ w_645) rfl rfl rfl h114 d_MO_rules_279 (fun H locs hM hS => ?_)
  refine lv_aload_n hx hb d_MO_rules_282 rfl (lv_at hl 0 rfl) ?_
  obtain ⟨v115, h116, hf⟩ := px_bind hf
  refine px_rgi hx hb hts cl_MO hown hK hM 15 (by decide) (hts _ w_660) h116 d_MO_rules_283 ?_
  refine lv_if_eq (tgt := 296) hx hb d_MO_rules_286 (by decide) (fun c117 => ?_) (fun c117 => ?_)
  · have hf := px_ift hf c117
    refine lv_aload_n hx hb d_MO_rules_296 rfl (lv_at hl 0 rfl) ?_
    refine lv_aload_n hx hb d_MO_rules_297 rfl (lv_at hl 0 rfl) ?_
    obtain ⟨v118, h119, hf⟩ := px_bind hf
    refine px_rgi hx hb hts cl_MO hown hK hM 8 (by decide) (hts _ w_653) h119 d_MO_rules_298 ?_
    obtain ⟨M120, h121, hf⟩ := px_bind hf
    refine px_rpt hx hb hts cl_MO hown hK hM hS 2 (by decide) (hts _ w_647) rfl rfl rfl h121 d_MO_rules_301 (fun H locs hM hS => ?_)
    refine lv_iconst (v := 0) hx hb d_MO_rules_304 (by decide) ?_
    refine lv_istore (lv' := [(6, .int 0), (0, .ref o0), (4, .int v112)]) hx hb d_MO_rules_305 hl (by decide) rfl (fun ls hl => ?_)
    obtain ⟨⟨_, M141⟩, h142, hf⟩ := px_bind hf
    dsimp only at hf
    refine lp_MO_rules_L307 ⟨hx, hb, hr, hml, hown, hnm, hlocks, hts, hK, hN, hO⟩ _ M141 o0 v112 (fun H locs ls hM hS hl => ?_) px_fuel 0 M120 h142 _ _ _ hM hS (lv_sub hl [1, 2, 0] rfl)
    try dsimp only at hl
    refine lv_aload_n hx hb d_MO_rules_350 rfl (lv_at hl 0 rfl) ?_
    refine lv_aload_n hx hb d_MO_rules_351 rfl (lv_at hl 0 rfl) ?_
    obtain ⟨v143, h144, hf⟩ := px_bind hf
    refine px_rgi hx hb hts cl_MO hown hK hM 11 (by decide) (hts _ w_656) h144 d_MO_rules_352 ?_
    obtain ⟨M145, h146, hf⟩ := px_bind hf
    refine px_rpt hx hb hts cl_MO hown hK hM hS 5 (by decide) (hts _ w_650) rfl rfl rfl h146 d_MO_rules_355 (fun H locs hM hS => ?_)
    refine lv_aload_n hx hb d_MO_rules_358 rfl (lv_at hl 0 rfl) ?_
    refine lv_aload_n hx hb d_MO_rules_359 rfl (lv_at hl 0 rfl) ?_
    obtain ⟨v147, h148, hf⟩ := px_bind hf
    refine px_rgi hx hb hts cl_MO hown hK hM 12 (by decide) (hts _ w_657) h148 d_MO_rules_360 ?_
    obtain ⟨M149, h150, hf⟩ := px_bind hf
    refine px_rpt hx hb hts cl_MO hown hK hM hS 6 (by decide) (hts _ w_651) rfl rfl rfl h150 d_MO_rules_363 (fun H locs hM hS => ?_)
    refine lv_aload_n hx hb d_MO_rules_366 rfl (lv_at hl 0 rfl) ?_
    refine lv_aload_n hx hb d_MO_rules_367 rfl (lv_at hl 0 rfl) ?_
    obtain ⟨v151, h152, hf⟩ := px_bind hf
    refine px_rgi hx hb hts cl_MO hown hK hM 13 (by decide) (hts _ w_658) h152 d_MO_rules_368 ?_
    obtain ⟨M153, h154, hf⟩ := px_bind hf
    refine px_rpt hx hb hts cl_MO hown hK hM hS 7 (by decide) (hts _ w_652) rfl rfl rfl h154 d_MO_rules_371 (fun H locs hM hS => ?_)
    refine lv_iload hx hb d_MO_rules_374 (lv_at hl 1 rfl) ?_
    obtain ⟨rfl, rfl⟩ := px_s2 hf
    exact px_iret hx hb hr hlocks hM hS d_MO_rules_376
  · have hf := px_iff hf c117
    refine lv_iconst (v := (-1)) hx hb d_MO_rules_289 (by decide) ?_
    refine lv_aload_n hx hb d_MO_rules_290 rfl (lv_at hl 0 rfl) ?_
    obtain ⟨v155, h156, hf⟩ := px_bind hf
    refine px_rgi hx hb hts cl_MO hown hK hM 14 (by decide) (hts _ w_659) h156 d_MO_rules_291 ?_
    refine lv_isub hx hb d_MO_rules_294 ?_
    obtain ⟨rfl, rfl⟩ := px_s2 hf
    exact px_iret hx hb hr hlocks hM hS d_MO_rules_295
def f_MO_name_L35 : Nat → Nat → Int32 → px_M → Option ((Unit) × px_M)
  | 0, _, _, _ => none
  | n + 1, o0, x1, M =>
    (px_gi 11 0 M o0).bind fun v14 =>
    if v14 ≤ x1 then
    some ((), M)
    else
    (px_gr 11 23 M o0).bind fun t17 =>
    (px_gi 11 21 M o0).bind fun v19 =>
    (px_gr 11 1 M o0).bind fun t21 =>
    (px_ai 0 M t21 x1).bind fun v23 =>
    (px_si 0 M t17 ((12 * v19) + x1) v23).bind fun M25 =>
    f_MO_name_L35 n o0 (x1 + 1) M25
set_option maxHeartbeats 4000000 in
set_option maxRecDepth 100000 in
theorem lp_MO_name_L35 {p : Program} {l : Launch} {e : Env} {s : State} {m : MethodId} {args : Array Value} {below : List Frame} {meth : Method} {c : Code} {bs : Nat} {D : va_G} {G : Nat → ClassId} {Q : State → Prop} (C0 : px_At p s m meth c y_MO_name b_MO_name 2 (some .int) args D px_cl (px_tys G) px_nw px_over) (x : Unit) (M' : px_M) (o0 : Nat) (kx : ∀ (H : Heap) (locs : List Loc) (ls : Array Slot), px_W bs D px_cl (px_tys G) M' H → va_S (fun q => bs ≤ q) s.heap H locs → lv_has ls 2 [(0, .ref o0)] → W p l e ⟨0, 0, 0, 0⟩ s m args below meth c H locs 0 0 Q (F0 m 69 ls []))  : ∀ (n : Nat) (x1 : Int32) (M : px_M), f_MO_name_L35 n o0 x1 M = some (x, M') → ∀ (H : Heap) (locs : List Loc) (ls : Array Slot), px_W bs D px_cl (px_tys G) M H → va_S (fun q => bs ≤ q) s.heap H locs → lv_has ls 2 [(0, .ref o0), (1, .int x1)] → W p l e ⟨0, 0, 0, 0⟩ s m args below meth c H locs 0 0 Q (F0 m 35 ls []) := by
  obtain ⟨hx, hb, hr, hml, hown, hnm, hlocks, hts, hK, hN, hO⟩ := C0
  intro n
  induction n with
  | zero => intro x1 M hf; cases hf
  | succ n ih =>
    intro x1 M hf H locs ls hM hS hl
    unfold f_MO_name_L35 at hf
    refine lv_iload_n hx hb d_MO_name_35 rfl (lv_at hl 1 rfl) ?_
    refine lv_aload_n hx hb d_MO_name_36 rfl (lv_at hl 0 rfl) ?_
    obtain ⟨v14, h15, hf⟩ := px_bind hf
    refine px_rgi hx hb hts cl_MO hown hK hM 0 (by decide) (hts _ w_645) h15 d_MO_name_37 ?_
    refine lv_icmp_ge (tgt := 69) hx hb d_MO_name_40 (by decide) (fun c16 => ?_) (fun c16 => ?_)
    · have hf := px_ift hf c16
      obtain ⟨rfl, rfl⟩ := px_s2 hf
      exact kx _ _ _ hM hS (lv_sub hl [0] rfl)
    · have hf := px_iff hf c16
      refine lv_aload_n hx hb d_MO_name_43 rfl (lv_at hl 0 rfl) ?_
      obtain ⟨t17, h18, hf⟩ := px_bind hf
      refine px_rgr hx hb hts cl_MO hown hK hM 23 (by decide) (hts _ w_668) h18 d_MO_name_44 ?_
      refine lv_bipush (v := 12) hx hb d_MO_name_47 (by decide) ?_
      refine lv_aload_n hx hb d_MO_name_49 rfl (lv_at hl 0 rfl) ?_
      obtain ⟨v19, h20, hf⟩ := px_bind hf
      refine px_rgi hx hb hts cl_MO hown hK hM 21 (by decide) (hts _ w_666) h20 d_MO_name_50 ?_
      refine lv_imul hx hb d_MO_name_53 ?_
      refine lv_iload_n hx hb d_MO_name_54 rfl (lv_at hl 1 rfl) ?_
      refine lv_iadd hx hb d_MO_name_55 ?_
      refine lv_aload_n hx hb d_MO_name_56 rfl (lv_at hl 0 rfl) ?_
      obtain ⟨t21, h22, hf⟩ := px_bind hf
      refine px_rgr hx hb hts cl_MO hown hK hM 1 (by decide) (hts _ w_646) h22 d_MO_name_57 ?_
      refine lv_iload_n hx hb d_MO_name_60 rfl (lv_at hl 1 rfl) ?_
      obtain ⟨v23, h24, hf⟩ := px_bind hf
      refine px_rai hx hb hK hM 0 rfl h24 d_MO_name_61 ?_
      obtain ⟨M25, h26, hf⟩ := px_bind hf
      refine px_rsi hx hb hK hM hS 0 rfl h26 d_MO_name_62 (fun H locs hM hS => ?_)
      refine lv_iinc (v := x1 + 1) (lv' := [(1, .int (x1 + 1)), (0, .ref o0)]) hx hb d_MO_name_63 hl (k := 1) rfl (by rfl) (by decide) rfl (fun ls hl => ?_)
      refine lv_goto (tgt := 35) hx hb d_MO_name_66 (by decide) ?_
      exact ih (x1 + 1) M25 hf _ _ _ hM hS (lv_sub hl [1, 0] rfl)
def f_MO_name (o0 : Nat) (M : px_M) : Option (Int32 × px_M) :=
  (px_gi 11 0 M o0).bind fun v1 =>
  if v1 < 1 then
  (px_pt 11 0 M o0 (.int 0)).bind fun M4 =>
  some ((-1), M4)
  else
  (px_gi 11 0 M o0).bind fun v6 =>
  if 12 < v6 then
  (px_pt 11 0 M o0 (.int 0)).bind fun M9 =>
  some ((-1), M9)
  else
  (px_gi 11 21 M o0).bind fun v11 =>
  if v11 = 10 then
  (px_pt 11 0 M o0 (.int 0)).bind fun M51 =>
  some ((-1), M51)
  else
  (f_MO_name_L35 px_fuel o0 0 M).bind fun (_, M27) =>
  (px_gr 11 22 M27 o0).bind fun t29 =>
  (px_gi 11 21 M27 o0).bind fun v31 =>
  (px_gi 11 0 M27 o0).bind fun v33 =>
  (px_si 0 M27 t29 v31 v33).bind fun M35 =>
  (px_gr 11 24 M35 o0).bind fun t37 =>
  (px_gi 11 21 M35 o0).bind fun v39 =>
  (px_si 0 M35 t37 v39 ((-1))).bind fun M41 =>
  (px_pt 11 0 M41 o0 (.int 0)).bind fun M43 =>
  (px_gi 11 21 M43 o0).bind fun v45 =>
  (px_pt 11 21 M43 o0 (.int (v45 + 1))).bind fun M47 =>
  (px_gi 11 21 M47 o0).bind fun v49 =>
  some (v49 - 1, M47)
set_option maxHeartbeats 4000000 in
set_option maxRecDepth 100000 in
theorem c_MO_name (l : Launch) (bs : Nat) (D : va_G) (G : Nat → ClassId) (o0 : Nat) (M : px_M) {r : Int32} {M' : px_M} (hf : f_MO_name o0 M = some (r, M')) : Met l y_MO_name (.code y_MO_name b_MO_name 2 (some .int) :: px_tw) ⟨0, 0, 0, 0⟩ (va_Pc [.ref o0] (px_B bs D px_cl (px_tys G) px_nw px_over M)) (px_Qi bs D px_cl (px_tys G) r M') 0 0 (fun q => bs ≤ q) := by
  refine px_of (by decide) (Nat.le_of_ble_eq_true rfl) ?_
  intro p e s m below meth c ls C0 hM hS hl
  obtain ⟨hx, hb, hr, hml, hown, hnm, hlocks, hts, hK, hN, hO⟩ := C0
  have hl : lv_has ls 2 [(0, .ref o0)] := hl
  unfold f_MO_name at hf
  refine lv_aload_n hx hb d_MO_name_0 rfl (lv_at hl 0 rfl) ?_
  obtain ⟨v1, h2, hf⟩ := px_bind hf
  refine px_rgi hx hb hts cl_MO hown hK hM 0 (by decide) (hts _ w_645) h2 d_MO_name_1 ?_
  refine lv_iconst (v := 1) hx hb d_MO_name_4 (by decide) ?_
  refine lv_icmp_lt (tgt := 26) hx hb d_MO_name_5 (by decide) (fun c3 => ?_) (fun c3 => ?_)
  · have hf := px_ift hf c3
    refine lv_aload_n hx hb d_MO_name_26 rfl (lv_at hl 0 rfl) ?_
    refine lv_iconst (v := 0) hx hb d_MO_name_27 (by decide) ?_
    obtain ⟨M4, h5, hf⟩ := px_bind hf
    refine px_rpt hx hb hts cl_MO hown hK hM hS 0 (by decide) (hts _ w_645) rfl rfl rfl h5 d_MO_name_28 (fun H locs hM hS => ?_)
    refine lv_iconst (v := (-1)) hx hb d_MO_name_31 (by decide) ?_
    obtain ⟨rfl, rfl⟩ := px_s2 hf
    exact px_iret hx hb hr hlocks hM hS d_MO_name_32
  · have hf := px_iff hf c3
    refine lv_aload_n hx hb d_MO_name_8 rfl (lv_at hl 0 rfl) ?_
    obtain ⟨v6, h7, hf⟩ := px_bind hf
    refine px_rgi hx hb hts cl_MO hown hK hM 0 (by decide) (hts _ w_645) h7 d_MO_name_9 ?_
    refine lv_bipush (v := 12) hx hb d_MO_name_12 (by decide) ?_
    refine lv_icmp_gt (tgt := 26) hx hb d_MO_name_14 (by decide) (fun c8 => ?_) (fun c8 => ?_)
    · have hf := px_ift hf c8
      refine lv_aload_n hx hb d_MO_name_26 rfl (lv_at hl 0 rfl) ?_
      refine lv_iconst (v := 0) hx hb d_MO_name_27 (by decide) ?_
      obtain ⟨M9, h10, hf⟩ := px_bind hf
      refine px_rpt hx hb hts cl_MO hown hK hM hS 0 (by decide) (hts _ w_645) rfl rfl rfl h10 d_MO_name_28 (fun H locs hM hS => ?_)
      refine lv_iconst (v := (-1)) hx hb d_MO_name_31 (by decide) ?_
      obtain ⟨rfl, rfl⟩ := px_s2 hf
      exact px_iret hx hb hr hlocks hM hS d_MO_name_32
    · have hf := px_iff hf c8
      refine lv_aload_n hx hb d_MO_name_17 rfl (lv_at hl 0 rfl) ?_
      obtain ⟨v11, h12, hf⟩ := px_bind hf
      refine px_rgi hx hb hts cl_MO hown hK hM 21 (by decide) (hts _ w_666) h12 d_MO_name_18 ?_
      refine lv_bipush (v := 10) hx hb d_MO_name_21 (by decide) ?_
      refine lv_icmp_ne (tgt := 33) hx hb d_MO_name_23 (by decide) (fun c13 => ?_) (fun c13 => ?_)
      · have hf := px_iff hf c13
        refine lv_iconst (v := 0) hx hb d_MO_name_33 (by decide) ?_
        refine lv_istore_n (lv' := [(1, .int 0), (0, .ref o0)]) hx hb d_MO_name_34 rfl hl (by decide) rfl (fun ls hl => ?_)
        obtain ⟨⟨_, M27⟩, h28, hf⟩ := px_bind hf
        dsimp only at hf
        refine lp_MO_name_L35 ⟨hx, hb, hr, hml, hown, hnm, hlocks, hts, hK, hN, hO⟩ _ M27 o0 (fun H locs ls hM hS hl => ?_) px_fuel 0 M h28 _ _ _ hM hS (lv_sub hl [1, 0] rfl)
        try dsimp only at hl
        refine lv_aload_n hx hb d_MO_name_69 rfl (lv_at hl 0 rfl) ?_
        obtain ⟨t29, h30, hf⟩ := px_bind hf
        refine px_rgr hx hb hts cl_MO hown hK hM 22 (by decide) (hts _ w_667) h30 d_MO_name_70 ?_
        refine lv_aload_n hx hb d_MO_name_73 rfl (lv_at hl 0 rfl) ?_
        obtain ⟨v31, h32, hf⟩ := px_bind hf
        refine px_rgi hx hb hts cl_MO hown hK hM 21 (by decide) (hts _ w_666) h32 d_MO_name_74 ?_
        refine lv_aload_n hx hb d_MO_name_77 rfl (lv_at hl 0 rfl) ?_
        obtain ⟨v33, h34, hf⟩ := px_bind hf
        refine px_rgi hx hb hts cl_MO hown hK hM 0 (by decide) (hts _ w_645) h34 d_MO_name_78 ?_
        obtain ⟨M35, h36, hf⟩ := px_bind hf
        refine px_rsi hx hb hK hM hS 0 rfl h36 d_MO_name_81 (fun H locs hM hS => ?_)
        refine lv_aload_n hx hb d_MO_name_82 rfl (lv_at hl 0 rfl) ?_
        obtain ⟨t37, h38, hf⟩ := px_bind hf
        refine px_rgr hx hb hts cl_MO hown hK hM 24 (by decide) (hts _ w_669) h38 d_MO_name_83 ?_
        refine lv_aload_n hx hb d_MO_name_86 rfl (lv_at hl 0 rfl) ?_
        obtain ⟨v39, h40, hf⟩ := px_bind hf
        refine px_rgi hx hb hts cl_MO hown hK hM 21 (by decide) (hts _ w_666) h40 d_MO_name_87 ?_
        refine lv_iconst (v := (-1)) hx hb d_MO_name_90 (by decide) ?_
        obtain ⟨M41, h42, hf⟩ := px_bind hf
        refine px_rsi hx hb hK hM hS 0 rfl h42 d_MO_name_91 (fun H locs hM hS => ?_)
        refine lv_aload_n hx hb d_MO_name_92 rfl (lv_at hl 0 rfl) ?_
        refine lv_iconst (v := 0) hx hb d_MO_name_93 (by decide) ?_
        obtain ⟨M43, h44, hf⟩ := px_bind hf
        refine px_rpt hx hb hts cl_MO hown hK hM hS 0 (by decide) (hts _ w_645) rfl rfl rfl h44 d_MO_name_94 (fun H locs hM hS => ?_)
        refine lv_aload_n hx hb d_MO_name_97 rfl (lv_at hl 0 rfl) ?_
        refine lv_dup hx hb d_MO_name_98 rfl ?_
        obtain ⟨v45, h46, hf⟩ := px_bind hf
        refine px_rgi hx hb hts cl_MO hown hK hM 21 (by decide) (hts _ w_666) h46 d_MO_name_99 ?_
        refine lv_iconst (v := 1) hx hb d_MO_name_102 (by decide) ?_
        refine lv_iadd hx hb d_MO_name_103 ?_
        obtain ⟨M47, h48, hf⟩ := px_bind hf
        refine px_rpt hx hb hts cl_MO hown hK hM hS 21 (by decide) (hts _ w_666) rfl rfl rfl h48 d_MO_name_104 (fun H locs hM hS => ?_)
        refine lv_aload_n hx hb d_MO_name_107 rfl (lv_at hl 0 rfl) ?_
        obtain ⟨v49, h50, hf⟩ := px_bind hf
        refine px_rgi hx hb hts cl_MO hown hK hM 21 (by decide) (hts _ w_666) h50 d_MO_name_108 ?_
        refine lv_iconst (v := 1) hx hb d_MO_name_111 (by decide) ?_
        refine lv_isub hx hb d_MO_name_112 ?_
        obtain ⟨rfl, rfl⟩ := px_s2 hf
        exact px_iret hx hb hr hlocks hM hS d_MO_name_113
      · have hf := px_ift hf c13
        refine lv_aload_n hx hb d_MO_name_26 rfl (lv_at hl 0 rfl) ?_
        refine lv_iconst (v := 0) hx hb d_MO_name_27 (by decide) ?_
        obtain ⟨M51, h52, hf⟩ := px_bind hf
        refine px_rpt hx hb hts cl_MO hown hK hM hS 0 (by decide) (hts _ w_645) rfl rfl rfl h52 d_MO_name_28 (fun H locs hM hS => ?_)
        refine lv_iconst (v := (-1)) hx hb d_MO_name_31 (by decide) ?_
        obtain ⟨rfl, rfl⟩ := px_s2 hf
        exact px_iret hx hb hr hlocks hM hS d_MO_name_32
def f_MO_glyph (o0 : Nat) (x1 : Int32) (x2 : Int32) (M : px_M) : Option (Int32 × px_M) :=
  (f_MO_isSign x1 M).bind fun (v3, M1) =>
  if v3 = 0 then
  some (0, M1)
  else
  if x2 < 0 then
  some (0, M1)
  else
  if x2 ≤ 64 then
  (px_gr 11 16 M1 o0).bind fun t7 =>
  (px_si 0 M1 t7 x1 x2).bind fun M9 =>
  some (1, M9)
  else
  some (0, M1)
set_option maxHeartbeats 4000000 in
set_option maxRecDepth 100000 in
theorem c_MO_glyph (l : Launch) (bs : Nat) (D : va_G) (G : Nat → ClassId) (o0 : Nat) (x1 : Int32) (x2 : Int32) (M : px_M) {r : Int32} {M' : px_M} (hf : f_MO_glyph o0 x1 x2 M = some (r, M')) : Met l y_MO_glyph (.code y_MO_glyph b_MO_glyph 3 (some .boolean) :: px_tw) ⟨1, 0, 0, 20⟩ (va_Pc [.ref o0, .int x1, .int x2] (px_B bs D px_cl (px_tys G) px_nw px_over M)) (px_Qi bs D px_cl (px_tys G) r M') 0 0 (fun q => bs ≤ q) := by
  refine px_of (by decide) (Nat.le_of_ble_eq_true rfl) ?_
  intro p e s m below meth c ls C0 hM hS hl
  obtain ⟨hx, hb, hr, hml, hown, hnm, hlocks, hts, hK, hN, hO⟩ := C0
  have hl : lv_has ls 3 [(0, .ref o0), (1, .int x1), (2, .int x2)] := hl
  unfold f_MO_glyph at hf
  refine lv_iload_n hx hb d_MO_glyph_0 rfl (lv_at hl 1 rfl) ?_
  obtain ⟨⟨v3, M1⟩, h2, hf⟩ := px_bind hf
  dsimp only at hf
  refine px_calli (va_runS (As := [.int x1]) (rest := []) ⟨hx, hb, hml, hown, hts⟩ (c_MO_isSign l bs D G x1 M h2) (cwS 1 hts (px_gS w_776 w_777 w_12 w_778) rfl rfl rfl (by decide +kernel) ⟨Nat.le_of_ble_eq_true rfl, Nat.le_of_ble_eq_true rfl⟩) (px_preS px_nwok hK hN hO hM) rfl rfl hl.1 rfl (lv_room (Nat.le_of_ble_eq_true rfl)) d_MO_glyph_1 ⟨Nat.le_of_ble_eq_true rfl, Nat.le_of_ble_eq_true rfl⟩) hS (fun H locs hM hS => ?_)
  refine lv_if_eq (tgt := 17) hx hb d_MO_glyph_4 (by decide) (fun c4 => ?_) (fun c4 => ?_)
  · have hf := px_ift hf c4
    refine lv_iconst (v := 0) hx hb d_MO_glyph_17 (by decide) ?_
    obtain ⟨rfl, rfl⟩ := px_s2 hf
    exact px_zret hx hb hr rfl hlocks hM hS d_MO_glyph_18
  · have hf := px_iff hf c4
    refine lv_iload_n hx hb d_MO_glyph_7 rfl (lv_at hl 2 rfl) ?_
    refine lv_if_lt (tgt := 17) hx hb d_MO_glyph_8 (by decide) (fun c5 => ?_) (fun c5 => ?_)
    · have hf := px_ift hf c5
      refine lv_iconst (v := 0) hx hb d_MO_glyph_17 (by decide) ?_
      obtain ⟨rfl, rfl⟩ := px_s2 hf
      exact px_zret hx hb hr rfl hlocks hM hS d_MO_glyph_18
    · have hf := px_iff hf c5
      refine lv_iload_n hx hb d_MO_glyph_11 rfl (lv_at hl 2 rfl) ?_
      refine lv_bipush (v := 64) hx hb d_MO_glyph_12 (by decide) ?_
      refine lv_icmp_le (tgt := 19) hx hb d_MO_glyph_14 (by decide) (fun c6 => ?_) (fun c6 => ?_)
      · have hf := px_ift hf c6
        refine lv_aload_n hx hb d_MO_glyph_19 rfl (lv_at hl 0 rfl) ?_
        obtain ⟨t7, h8, hf⟩ := px_bind hf
        refine px_rgr hx hb hts cl_MO hown hK hM 16 (by decide) (hts _ w_661) h8 d_MO_glyph_20 ?_
        refine lv_iload_n hx hb d_MO_glyph_23 rfl (lv_at hl 1 rfl) ?_
        refine lv_iload_n hx hb d_MO_glyph_24 rfl (lv_at hl 2 rfl) ?_
        obtain ⟨M9, h10, hf⟩ := px_bind hf
        refine px_rsi hx hb hK hM hS 0 rfl h10 d_MO_glyph_25 (fun H locs hM hS => ?_)
        refine lv_iconst (v := 1) hx hb d_MO_glyph_26 (by decide) ?_
        obtain ⟨rfl, rfl⟩ := px_s2 hf
        exact px_zret hx hb hr rfl hlocks hM hS d_MO_glyph_27
      · have hf := px_iff hf c6
        refine lv_iconst (v := 0) hx hb d_MO_glyph_17 (by decide) ?_
        obtain ⟨rfl, rfl⟩ := px_s2 hf
        exact px_zret hx hb hr rfl hlocks hM hS d_MO_glyph_18
def f_MO_pairOf_L2 : Nat → Nat → Int32 → Int32 → Int32 → px_M → Option ((Int32) × px_M)
  | 0, _, _, _, _, _ => none
  | n + 1, o0, x1, x2, x3, M =>
    (px_gi 11 17 M o0).bind fun v1 =>
    if v1 ≤ x3 then
    some (x3, M)
    else
    (px_gr 11 18 M o0).bind fun t4 =>
    (px_ai 0 M t4 x3).bind fun v6 =>
    if v6 = x1 then
    (px_gr 11 19 M o0).bind fun t9 =>
    (px_ai 0 M t9 x3).bind fun v11 =>
    if v11 = x2 then
    some (x3, M)
    else
    f_MO_pairOf_L2 n o0 x1 x2 (x3 + 1) M
    else
    f_MO_pairOf_L2 n o0 x1 x2 (x3 + 1) M
set_option maxHeartbeats 4000000 in
set_option maxRecDepth 100000 in
theorem lp_MO_pairOf_L2 {p : Program} {l : Launch} {e : Env} {s : State} {m : MethodId} {args : Array Value} {below : List Frame} {meth : Method} {c : Code} {bs : Nat} {D : va_G} {G : Nat → ClassId} {Q : State → Prop} (C0 : px_At p s m meth c y_MO_pairOf b_MO_pairOf 4 (some .int) args D px_cl (px_tys G) px_nw px_over) (x : Int32) (M' : px_M) (o0 : Nat) (x1 : Int32) (x2 : Int32) (kx : ∀ (H : Heap) (locs : List Loc) (ls : Array Slot), px_W bs D px_cl (px_tys G) M' H → va_S (fun q => bs ≤ q) s.heap H locs → lv_has ls 4 [(3, .int x)] → W p l e ⟨0, 0, 0, 0⟩ s m args below meth c H locs 0 0 Q (F0 m 36 ls []))  : ∀ (n : Nat) (x3 : Int32) (M : px_M), f_MO_pairOf_L2 n o0 x1 x2 x3 M = some (x, M') → ∀ (H : Heap) (locs : List Loc) (ls : Array Slot), px_W bs D px_cl (px_tys G) M H → va_S (fun q => bs ≤ q) s.heap H locs → lv_has ls 4 [(0, .ref o0), (1, .int x1), (2, .int x2), (3, .int x3)] → W p l e ⟨0, 0, 0, 0⟩ s m args below meth c H locs 0 0 Q (F0 m 2 ls []) := by
  obtain ⟨hx, hb, hr, hml, hown, hnm, hlocks, hts, hK, hN, hO⟩ := C0
  intro n
  induction n with
  | zero => intro x3 M hf; cases hf
  | succ n ih =>
    intro x3 M hf H locs ls hM hS hl
    unfold f_MO_pairOf_L2 at hf
    refine lv_iload_n hx hb d_MO_pairOf_2 rfl (lv_at hl 3 rfl) ?_
    refine lv_aload_n hx hb d_MO_pairOf_3 rfl (lv_at hl 0 rfl) ?_
    obtain ⟨v1, h2, hf⟩ := px_bind hf
    refine px_rgi hx hb hts cl_MO hown hK hM 17 (by decide) (hts _ w_662) h2 d_MO_pairOf_4 ?_
    refine lv_icmp_ge (tgt := 36) hx hb d_MO_pairOf_7 (by decide) (fun c3 => ?_) (fun c3 => ?_)
    · have hf := px_ift hf c3
      obtain ⟨rfl, rfl⟩ := px_s2 hf
      exact kx _ _ _ hM hS (lv_sub hl [3] rfl)
    · have hf := px_iff hf c3
      refine lv_aload_n hx hb d_MO_pairOf_10 rfl (lv_at hl 0 rfl) ?_
      obtain ⟨t4, h5, hf⟩ := px_bind hf
      refine px_rgr hx hb hts cl_MO hown hK hM 18 (by decide) (hts _ w_663) h5 d_MO_pairOf_11 ?_
      refine lv_iload_n hx hb d_MO_pairOf_14 rfl (lv_at hl 3 rfl) ?_
      obtain ⟨v6, h7, hf⟩ := px_bind hf
      refine px_rai hx hb hK hM 0 rfl h7 d_MO_pairOf_15 ?_
      refine lv_iload_n hx hb d_MO_pairOf_16 rfl (lv_at hl 1 rfl) ?_
      refine lv_icmp_ne (tgt := 30) hx hb d_MO_pairOf_17 (by decide) (fun c8 => ?_) (fun c8 => ?_)
      · have hf := px_iff hf c8
        refine lv_iinc (v := x3 + 1) (lv' := [(3, .int (x3 + 1)), (0, .ref o0), (1, .int x1), (2, .int x2)]) hx hb d_MO_pairOf_30 hl (k := 3) rfl (by rfl) (by decide) rfl (fun ls hl => ?_)
        refine lv_goto (tgt := 2) hx hb d_MO_pairOf_33 (by decide) ?_
        exact ih (x3 + 1) M hf _ _ _ hM hS (lv_sub hl [1, 2, 3, 0] rfl)
      · have hf := px_ift hf c8
        refine lv_aload_n hx hb d_MO_pairOf_20 rfl (lv_at hl 0 rfl) ?_
        obtain ⟨t9, h10, hf⟩ := px_bind hf
        refine px_rgr hx hb hts cl_MO hown hK hM 19 (by decide) (hts _ w_664) h10 d_MO_pairOf_21 ?_
        refine lv_iload_n hx hb d_MO_pairOf_24 rfl (lv_at hl 3 rfl) ?_
        obtain ⟨v11, h12, hf⟩ := px_bind hf
        refine px_rai hx hb hK hM 0 rfl h12 d_MO_pairOf_25 ?_
        refine lv_iload_n hx hb d_MO_pairOf_26 rfl (lv_at hl 2 rfl) ?_
        refine lv_icmp_eq (tgt := 36) hx hb d_MO_pairOf_27 (by decide) (fun c13 => ?_) (fun c13 => ?_)
        · have hf := px_ift hf c13
          obtain ⟨rfl, rfl⟩ := px_s2 hf
          exact kx _ _ _ hM hS (lv_sub hl [3] rfl)
        · have hf := px_iff hf c13
          refine lv_iinc (v := x3 + 1) (lv' := [(3, .int (x3 + 1)), (0, .ref o0), (1, .int x1), (2, .int x2)]) hx hb d_MO_pairOf_30 hl (k := 3) rfl (by rfl) (by decide) rfl (fun ls hl => ?_)
          refine lv_goto (tgt := 2) hx hb d_MO_pairOf_33 (by decide) ?_
          exact ih (x3 + 1) M hf _ _ _ hM hS (lv_sub hl [1, 2, 3, 0] rfl)
def f_MO_pairOf (o0 : Nat) (x1 : Int32) (x2 : Int32) (M : px_M) : Option (Int32 × px_M) :=
  (f_MO_pairOf_L2 px_fuel o0 x1 x2 0 M).bind fun (v16, M14) =>
  some (v16, M14)
set_option maxHeartbeats 4000000 in
set_option maxRecDepth 100000 in
theorem c_MO_pairOf (l : Launch) (bs : Nat) (D : va_G) (G : Nat → ClassId) (o0 : Nat) (x1 : Int32) (x2 : Int32) (M : px_M) {r : Int32} {M' : px_M} (hf : f_MO_pairOf o0 x1 x2 M = some (r, M')) : Met l y_MO_pairOf (.code y_MO_pairOf b_MO_pairOf 4 (some .int) :: px_tw) ⟨0, 0, 0, 0⟩ (va_Pc [.ref o0, .int x1, .int x2] (px_B bs D px_cl (px_tys G) px_nw px_over M)) (px_Qi bs D px_cl (px_tys G) r M') 0 0 (fun q => bs ≤ q) := by
  refine px_of (by decide) (Nat.le_of_ble_eq_true rfl) ?_
  intro p e s m below meth c ls C0 hM hS hl
  obtain ⟨hx, hb, hr, hml, hown, hnm, hlocks, hts, hK, hN, hO⟩ := C0
  have hl : lv_has ls 4 [(0, .ref o0), (1, .int x1), (2, .int x2)] := hl
  unfold f_MO_pairOf at hf
  refine lv_iconst (v := 0) hx hb d_MO_pairOf_0 (by decide) ?_
  refine lv_istore_n (lv' := [(3, .int 0), (0, .ref o0), (1, .int x1), (2, .int x2)]) hx hb d_MO_pairOf_1 rfl hl (by decide) rfl (fun ls hl => ?_)
  obtain ⟨⟨v16, M14⟩, h15, hf⟩ := px_bind hf
  dsimp only at hf
  refine lp_MO_pairOf_L2 ⟨hx, hb, hr, hml, hown, hnm, hlocks, hts, hK, hN, hO⟩ _ M14 o0 x1 x2 (fun H locs ls hM hS hl => ?_) px_fuel 0 M h15 _ _ _ hM hS (lv_sub hl [1, 2, 3, 0] rfl)
  try dsimp only at hl
  refine lv_iload_n hx hb d_MO_pairOf_36 rfl (lv_at hl 0 rfl) ?_
  obtain ⟨rfl, rfl⟩ := px_s2 hf
  exact px_iret hx hb hr hlocks hM hS d_MO_pairOf_37
