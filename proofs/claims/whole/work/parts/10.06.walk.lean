def f_SB_breaks (o0 : Nat) (x1 : Int32) (x2 : Int32) (M : px_M) : Option (Int32 × px_M) :=
  (px_gr 0 12 M o0).bind fun t1 =>
  (px_gi 0 6 M o0).bind fun v3 =>
  (px_ob 8 M t1).bind fun _ =>
  (f_BL_gather t1 v3 M).bind fun M5 =>
  (px_gr 0 12 M5 o0).bind fun t7 =>
  (px_ob 8 M5 t7).bind fun _ =>
  (f_BL_part t7 x1 x2 M5).bind fun (v11, M9) =>
  some (v11, M9)
set_option maxHeartbeats 4000000 in
set_option maxRecDepth 100000 in
theorem c_SB_breaks (l : Launch) (bs : Nat) (D : va_G) (G : Nat → ClassId) (o0 : Nat) (x1 : Int32) (x2 : Int32) (M : px_M) {r : Int32} {M' : px_M} (hf : f_SB_breaks o0 x1 x2 M = some (r, M')) : Met l y_SB_breaks (.code y_SB_breaks b_SB_breaks 3 (some .int) :: px_tw) ⟨4, 0, 0, 95⟩ (va_Pc [.ref o0, .int x1, .int x2] (px_B bs D px_cl (px_tys G) px_nw px_over M)) (px_Qi bs D px_cl (px_tys G) r M') 0 0 (fun q => bs ≤ q) := by
  refine px_of (by decide) (Nat.le_of_ble_eq_true rfl) ?_
  intro p e s m below meth c ls C0 hM hS hl
  obtain ⟨hx, hb, hr, hml, hown, hnm, hlocks, hts, hK, hN, hO⟩ := C0
  have hl : lv_has ls 3 [(0, .ref o0), (1, .int x1), (2, .int x2)] := hl
  unfold f_SB_breaks at hf
  refine lv_aload_n hx hb d_SB_breaks_0 rfl (lv_at hl 0 rfl) ?_
  obtain ⟨t1, h2, hf⟩ := px_bind hf
  refine px_rgr hx hb hts cl_SB hown hK hM 12 (by decide) (hts _ w_304) h2 d_SB_breaks_1 ?_
  refine lv_aload_n hx hb d_SB_breaks_4 rfl (lv_at hl 0 rfl) ?_
  obtain ⟨v3, h4, hf⟩ := px_bind hf
  refine px_rgi hx hb hts cl_SB hown hK hM 6 (by decide) (hts _ w_298) h4 d_SB_breaks_5 ?_
  obtain ⟨_, h13, hf⟩ := px_bind hf
  obtain ⟨M5, h6, hf⟩ := px_bind hf
  refine px_callv (va_runV (As := [.int v3]) (rest := []) ⟨hx, hb, hml, hown, hts⟩ (c_BL_gather l bs D G t1 v3 M h6) (cwV 1 hts (px_gV w_608 w_609 w_610 w_9 w_611) rfl rfl rfl (by decide +kernel) ⟨Nat.le_of_ble_eq_true rfl, Nat.le_of_ble_eq_true rfl⟩) (px_preV px_nwok hK hN hO hM h13 rfl) rfl rfl hl.1 rfl (lv_room (Nat.le_of_ble_eq_true rfl)) d_SB_breaks_8 ⟨Nat.le_of_ble_eq_true rfl, Nat.le_of_ble_eq_true rfl⟩) hS (fun H locs hM hS => ?_)
  refine lv_aload_n hx hb d_SB_breaks_11 rfl (lv_at hl 0 rfl) ?_
  obtain ⟨t7, h8, hf⟩ := px_bind hf
  refine px_rgr hx hb hts cl_SB hown hK hM 12 (by decide) (hts _ w_304) h8 d_SB_breaks_12 ?_
  refine lv_iload_n hx hb d_SB_breaks_15 rfl (lv_at hl 1 rfl) ?_
  refine lv_iload_n hx hb d_SB_breaks_16 rfl (lv_at hl 2 rfl) ?_
  obtain ⟨_, h12, hf⟩ := px_bind hf
  obtain ⟨⟨v11, M9⟩, h10, hf⟩ := px_bind hf
  dsimp only at hf
  refine px_calli (va_runV (As := [.int x1, .int x2]) (rest := []) ⟨hx, hb, hml, hown, hts⟩ (c_BL_part l bs D G t7 x1 x2 M5 h10) (cwV 2 hts (px_gV w_630 w_631 w_632 w_9 w_633) rfl rfl rfl (by decide +kernel) ⟨Nat.le_of_ble_eq_true rfl, Nat.le_of_ble_eq_true rfl⟩) (px_preV px_nwok hK hN hO hM h12 rfl) rfl rfl hl.1 rfl (lv_room (Nat.le_of_ble_eq_true rfl)) d_SB_breaks_17 ⟨Nat.le_of_ble_eq_true rfl, Nat.le_of_ble_eq_true rfl⟩) hS (fun H locs hM hS => ?_)
  obtain ⟨rfl, rfl⟩ := px_s2 hf
  exact px_iret hx hb hr hlocks hM hS d_SB_breaks_20
def f_SB_count (o0 : Nat) (x1 : Int32) (M : px_M) : Option (Int32 × px_M) :=
  if x1 = 0 then
  (px_gi 0 6 M o0).bind fun v2 =>
  some (v2, M)
  else if x1 = 1 then
  (px_gr 0 7 M o0).bind fun t5 =>
  (px_gi 5 5 M t5).bind fun v7 =>
  some (v7, M)
  else if x1 = 2 then
  (px_gi 0 9 M o0).bind fun v10 =>
  some (v10, M)
  else if x1 = 3 then
  (px_gr 0 4 M o0).bind fun t13 =>
  (px_gi 4 4 M t13).bind fun v15 =>
  some (v15, M)
  else if x1 = 4 then
  (px_gr 0 12 M o0).bind fun t18 =>
  (px_gi 0 6 M o0).bind fun v20 =>
  (px_ob 8 M t18).bind fun _ =>
  (f_BL_gather t18 v20 M).bind fun M22 =>
  (px_gr 0 12 M22 o0).bind fun t24 =>
  (px_gi 8 5 M22 t24).bind fun v26 =>
  some (v26, M22)
  else if x1 = 5 then
  (px_gr 0 0 M o0).bind fun t30 =>
  (px_gi 1 1 M t30).bind fun v32 =>
  some (v32, M)
  else 
  some ((-1), M)
set_option maxHeartbeats 4000000 in
set_option maxRecDepth 100000 in
theorem c_SB_count (l : Launch) (bs : Nat) (D : va_G) (G : Nat → ClassId) (o0 : Nat) (x1 : Int32) (M : px_M) {r : Int32} {M' : px_M} (hf : f_SB_count o0 x1 M = some (r, M')) : Met l y_SB_count (.code y_SB_count b_SB_count 2 (some .int) :: px_tw) ⟨4, 0, 0, 95⟩ (va_Pc [.ref o0, .int x1] (px_B bs D px_cl (px_tys G) px_nw px_over M)) (px_Qi bs D px_cl (px_tys G) r M') 0 0 (fun q => bs ≤ q) := by
  refine px_of (by decide) (Nat.le_of_ble_eq_true rfl) ?_
  intro p e s m below meth c ls C0 hM hS hl
  obtain ⟨hx, hb, hr, hml, hown, hnm, hlocks, hts, hK, hN, hO⟩ := C0
  have hl : lv_has ls 2 [(0, .ref o0), (1, .int x1)] := hl
  unfold f_SB_count at hf
  refine lv_iload_n hx hb d_SB_count_0 rfl (lv_at hl 1 rfl) ?_
  by_cases c1 : x1 = 0
  · have hf := px_ift hf c1
    refine lv_tableIn (tgt := 40) hx hb d_SB_count_1 (by rw [c1] <;> decide) (by rw [c1] <;> decide) (by rw [c1] <;> rfl) (by decide) ?_
    refine lv_aload_n hx hb d_SB_count_40 rfl (lv_at hl 0 rfl) ?_
    obtain ⟨v2, h3, hf⟩ := px_bind hf
    refine px_rgi hx hb hts cl_SB hown hK hM 6 (by decide) (hts _ w_298) h3 d_SB_count_41 ?_
    obtain ⟨rfl, rfl⟩ := px_s2 hf
    exact px_iret hx hb hr hlocks hM hS d_SB_count_44
  · have hf := px_iff hf c1
    by_cases c4 : x1 = 1
    · have hf := px_ift hf c4
      refine lv_tableIn (tgt := 45) hx hb d_SB_count_1 (by rw [c4] <;> decide) (by rw [c4] <;> decide) (by rw [c4] <;> rfl) (by decide) ?_
      refine lv_aload_n hx hb d_SB_count_45 rfl (lv_at hl 0 rfl) ?_
      obtain ⟨t5, h6, hf⟩ := px_bind hf
      refine px_rgr hx hb hts cl_SB hown hK hM 7 (by decide) (hts _ w_299) h6 d_SB_count_46 ?_
      obtain ⟨v7, h8, hf⟩ := px_bind hf
      refine px_rgiN hx hb hts cl_RO hown hK hM 5 (by decide) (hN _ n_144) h8 d_SB_count_49 ?_
      obtain ⟨rfl, rfl⟩ := px_s2 hf
      exact px_iret hx hb hr hlocks hM hS d_SB_count_52
    · have hf := px_iff hf c4
      by_cases c9 : x1 = 2
      · have hf := px_ift hf c9
        refine lv_tableIn (tgt := 53) hx hb d_SB_count_1 (by rw [c9] <;> decide) (by rw [c9] <;> decide) (by rw [c9] <;> rfl) (by decide) ?_
        refine lv_aload_n hx hb d_SB_count_53 rfl (lv_at hl 0 rfl) ?_
        obtain ⟨v10, h11, hf⟩ := px_bind hf
        refine px_rgi hx hb hts cl_SB hown hK hM 9 (by decide) (hts _ w_301) h11 d_SB_count_54 ?_
        obtain ⟨rfl, rfl⟩ := px_s2 hf
        exact px_iret hx hb hr hlocks hM hS d_SB_count_57
      · have hf := px_iff hf c9
        by_cases c12 : x1 = 3
        · have hf := px_ift hf c12
          refine lv_tableIn (tgt := 58) hx hb d_SB_count_1 (by rw [c12] <;> decide) (by rw [c12] <;> decide) (by rw [c12] <;> rfl) (by decide) ?_
          refine lv_aload_n hx hb d_SB_count_58 rfl (lv_at hl 0 rfl) ?_
          obtain ⟨t13, h14, hf⟩ := px_bind hf
          refine px_rgr hx hb hts cl_SB hown hK hM 4 (by decide) (hts _ w_296) h14 d_SB_count_59 ?_
          obtain ⟨v15, h16, hf⟩ := px_bind hf
          refine px_rgiN hx hb hts cl_LE hown hK hM 4 (by decide) (hN _ n_114) h16 d_SB_count_62 ?_
          obtain ⟨rfl, rfl⟩ := px_s2 hf
          exact px_iret hx hb hr hlocks hM hS d_SB_count_65
        · have hf := px_iff hf c12
          by_cases c17 : x1 = 4
          · have hf := px_ift hf c17
            refine lv_tableIn (tgt := 66) hx hb d_SB_count_1 (by rw [c17] <;> decide) (by rw [c17] <;> decide) (by rw [c17] <;> rfl) (by decide) ?_
            refine lv_aload_n hx hb d_SB_count_66 rfl (lv_at hl 0 rfl) ?_
            obtain ⟨t18, h19, hf⟩ := px_bind hf
            refine px_rgr hx hb hts cl_SB hown hK hM 12 (by decide) (hts _ w_304) h19 d_SB_count_67 ?_
            refine lv_aload_n hx hb d_SB_count_70 rfl (lv_at hl 0 rfl) ?_
            obtain ⟨v20, h21, hf⟩ := px_bind hf
            refine px_rgi hx hb hts cl_SB hown hK hM 6 (by decide) (hts _ w_298) h21 d_SB_count_71 ?_
            obtain ⟨_, h28, hf⟩ := px_bind hf
            obtain ⟨M22, h23, hf⟩ := px_bind hf
            refine px_callv (va_runV (As := [.int v20]) (rest := []) ⟨hx, hb, hml, hown, hts⟩ (c_BL_gather l bs D G t18 v20 M h23) (cwV 1 hts (px_gV w_608 w_609 w_610 w_9 w_611) rfl rfl rfl (by decide +kernel) ⟨Nat.le_of_ble_eq_true rfl, Nat.le_of_ble_eq_true rfl⟩) (px_preV px_nwok hK hN hO hM h28 rfl) rfl rfl hl.1 rfl (lv_room (Nat.le_of_ble_eq_true rfl)) d_SB_count_74 ⟨Nat.le_of_ble_eq_true rfl, Nat.le_of_ble_eq_true rfl⟩) hS (fun H locs hM hS => ?_)
            refine lv_aload_n hx hb d_SB_count_77 rfl (lv_at hl 0 rfl) ?_
            obtain ⟨t24, h25, hf⟩ := px_bind hf
            refine px_rgr hx hb hts cl_SB hown hK hM 12 (by decide) (hts _ w_304) h25 d_SB_count_78 ?_
            obtain ⟨v26, h27, hf⟩ := px_bind hf
            refine px_rgiN hx hb hts cl_BL hown hK hM 5 (by decide) (hN _ n_226) h27 d_SB_count_81 ?_
            obtain ⟨rfl, rfl⟩ := px_s2 hf
            exact px_iret hx hb hr hlocks hM hS d_SB_count_84
          · have hf := px_iff hf c17
            by_cases c29 : x1 = 5
            · have hf := px_ift hf c29
              refine lv_tableIn (tgt := 85) hx hb d_SB_count_1 (by rw [c29] <;> decide) (by rw [c29] <;> decide) (by rw [c29] <;> rfl) (by decide) ?_
              refine lv_aload_n hx hb d_SB_count_85 rfl (lv_at hl 0 rfl) ?_
              obtain ⟨t30, h31, hf⟩ := px_bind hf
              refine px_rgr hx hb hts cl_SB hown hK hM 0 (by decide) (hts _ w_292) h31 d_SB_count_86 ?_
              obtain ⟨v32, h33, hf⟩ := px_bind hf
              refine px_rgiN hx hb hts cl_TX hown hK hM 1 (by decide) (hN _ n_31) h33 d_SB_count_89 ?_
              obtain ⟨rfl, rfl⟩ := px_s2 hf
              exact px_iret hx hb hr hlocks hM hS d_SB_count_92
            · have hf := px_iff hf c29
              refine lv_tableOut (tgt := 93) hx hb d_SB_count_1 (px_out6 c1 c4 c9 c12 c17 c29) (by decide) ?_
              refine lv_iconst (v := (-1)) hx hb d_SB_count_93 (by decide) ?_
              obtain ⟨rfl, rfl⟩ := px_s2 hf
              exact px_iret hx hb hr hlocks hM hS d_SB_count_94
def f_MO_init_L216 : Nat → Nat → Int32 → px_M → Option ((Unit) × px_M)
  | 0, _, _, _ => none
  | n + 1, o0, x1, M =>
    if 128 ≤ x1 then
    some ((), M)
    else
    (px_gr 11 16 M o0).bind fun t83 =>
    (px_si 0 M t83 x1 8).bind fun M85 =>
    f_MO_init_L216 n o0 (x1 + 1) M85
set_option maxHeartbeats 4000000 in
set_option maxRecDepth 100000 in
theorem lp_MO_init_L216 {p : Program} {l : Launch} {e : Env} {s : State} {m : MethodId} {args : Array Value} {below : List Frame} {meth : Method} {c : Code} {bs : Nat} {D : va_G} {G : Nat → ClassId} {Q : State → Prop} {cells slots : Nat} (C0 : px_At p s m meth c y_MO_init b_MO_init 2 none args D px_cl (px_tys G) px_nw px_over) (x : Unit) (M' : px_M) (o0 : Nat) (kx : ∀ (H : Heap) (locs : List Loc) (ls : Array Slot), px_W bs D px_cl (px_tys G) M' H → va_S (fun q => bs ≤ q) s.heap H locs → lv_has ls 2 [] → W p l e ⟨1, 23, 768, 12⟩ s m args below meth c H locs cells slots Q (F0 m 237 ls []))  : ∀ (n : Nat) (x1 : Int32) (M : px_M), f_MO_init_L216 n o0 x1 M = some (x, M') → ∀ (H : Heap) (locs : List Loc) (ls : Array Slot), px_W bs D px_cl (px_tys G) M H → va_S (fun q => bs ≤ q) s.heap H locs → lv_has ls 2 [(0, .ref o0), (1, .int x1)] → W p l e ⟨1, 23, 768, 12⟩ s m args below meth c H locs cells slots Q (F0 m 216 ls []) := by
  obtain ⟨hx, hb, hr, hml, hown, hnm, hlocks, hts, hK, hN, hO⟩ := C0
  intro n
  induction n with
  | zero => intro x1 M hf; cases hf
  | succ n ih =>
    intro x1 M hf H locs ls hM hS hl
    unfold f_MO_init_L216 at hf
    refine lv_iload_n hx hb d_MO_init_216 rfl (lv_at hl 1 rfl) ?_
    refine lv_sipush (v := 128) hx hb d_MO_init_217 (by decide) ?_
    refine lv_icmp_ge (tgt := 237) hx hb d_MO_init_220 (by decide) (fun c82 => ?_) (fun c82 => ?_)
    · have hf := px_ift hf c82
      obtain ⟨rfl, rfl⟩ := px_s2 hf
      exact kx _ _ _ hM hS (lv_sub hl [] rfl)
    · have hf := px_iff hf c82
      refine lv_aload_n hx hb d_MO_init_223 rfl (lv_at hl 0 rfl) ?_
      obtain ⟨t83, h84, hf⟩ := px_bind hf
      refine px_rgr hx hb hts cl_MO hown hK hM 16 (by decide) (hts _ w_661) h84 d_MO_init_224 ?_
      refine lv_iload_n hx hb d_MO_init_227 rfl (lv_at hl 1 rfl) ?_
      refine lv_bipush (v := 8) hx hb d_MO_init_228 (by decide) ?_
      obtain ⟨M85, h86, hf⟩ := px_bind hf
      refine px_rsi hx hb hK hM hS 0 rfl h86 d_MO_init_230 (fun H locs hM hS => ?_)
      refine lv_iinc (v := x1 + 1) (lv' := [(1, .int (x1 + 1)), (0, .ref o0)]) hx hb d_MO_init_231 hl (k := 1) rfl (by rfl) (by decide) rfl (fun ls hl => ?_)
      refine lv_goto (tgt := 216) hx hb d_MO_init_234 (by decide) ?_
      exact ih (x1 + 1) M85 hf _ _ _ hM hS (lv_sub hl [1, 0] rfl)
def f_MO_init (o0 : Nat) (M : px_M) : Option (px_M) :=
  (some (px_push M (.inl (0, 100, .inl (fun _ => 0))))).bind fun M1 =>
  (px_pt 11 1 M1 o0 (.ref M.2)).bind fun M2 =>
  (px_pt 11 2 M2 o0 (.int 1)).bind fun M4 =>
  (some (px_push M4 (.inl (0, 6, .inl (fun _ => 0))))).bind fun M6 =>
  (px_pt 11 3 M6 o0 (.ref M4.2)).bind fun M7 =>
  (some (px_push M7 (.inl (0, 6, .inl (fun _ => 0))))).bind fun M9 =>
  (px_pt 11 4 M9 o0 (.ref M7.2)).bind fun M10 =>
  (px_pt 11 7 M10 o0 (.int 116)).bind fun M12 =>
  (some (px_push M12 (.inl (0, 6, .inl (fun _ => 0))))).bind fun M14 =>
  (px_pt 11 9 M14 o0 (.ref M12.2)).bind fun M15 =>
  (some (px_push M15 (.inl (0, 6, .inl (fun _ => 0))))).bind fun M17 =>
  (px_pt 11 10 M17 o0 (.ref M15.2)).bind fun M18 =>
  (some (px_push M18 (.inl (0, 128, .inl (fun _ => 0))))).bind fun M20 =>
  (px_pt 11 16 M20 o0 (.ref M18.2)).bind fun M21 =>
  (some (px_push M21 (.inl (0, 60, .inl (fun _ => 0))))).bind fun M23 =>
  (px_pt 11 18 M23 o0 (.ref M21.2)).bind fun M24 =>
  (some (px_push M24 (.inl (0, 60, .inl (fun _ => 0))))).bind fun M26 =>
  (px_pt 11 19 M26 o0 (.ref M24.2)).bind fun M27 =>
  (some (px_push M27 (.inl (0, 60, .inl (fun _ => 0))))).bind fun M29 =>
  (px_pt 11 20 M29 o0 (.ref M27.2)).bind fun M30 =>
  (some (px_push M30 (.inl (0, 10, .inl (fun _ => 0))))).bind fun M32 =>
  (px_pt 11 22 M32 o0 (.ref M30.2)).bind fun M33 =>
  (some (px_push M33 (.inl (0, 120, .inl (fun _ => 0))))).bind fun M35 =>
  (px_pt 11 23 M35 o0 (.ref M33.2)).bind fun M36 =>
  (some (px_push M36 (.inl (0, 10, .inl (fun _ => 0))))).bind fun M38 =>
  (px_pt 11 24 M38 o0 (.ref M36.2)).bind fun M39 =>
  (some (px_push M39 (.inl (0, 24, .inl (fun _ => 0))))).bind fun M41 =>
  (px_pt 11 26 M41 o0 (.ref M39.2)).bind fun M42 =>
  (some (px_push M42 (.inl (0, 24, .inl (fun _ => 0))))).bind fun M44 =>
  (px_pt 11 27 M44 o0 (.ref M42.2)).bind fun M45 =>
  (some (px_push M45 (.inl (0, 24, .inl (fun _ => 0))))).bind fun M47 =>
  (px_pt 11 28 M47 o0 (.ref M45.2)).bind fun M48 =>
  (some (px_push M48 (.inl (0, 8, .inl (fun _ => 0))))).bind fun M50 =>
  (px_pt 11 30 M50 o0 (.ref M48.2)).bind fun M51 =>
  (some (px_push M51 (.inl (0, 8, .inl (fun _ => 0))))).bind fun M53 =>
  (px_pt 11 31 M53 o0 (.ref M51.2)).bind fun M54 =>
  (some (px_push M54 (.inl (0, 40, .inl (fun _ => 0))))).bind fun M56 =>
  (px_pt 11 32 M56 o0 (.ref M54.2)).bind fun M57 =>
  (some (px_push M57 (.inl (0, 40, .inl (fun _ => 0))))).bind fun M59 =>
  (px_pt 11 33 M59 o0 (.ref M57.2)).bind fun M60 =>
  (some (px_push M60 (.inl (0, 8, .inl (fun _ => 0))))).bind fun M62 =>
  (px_pt 11 34 M62 o0 (.ref M60.2)).bind fun M63 =>
  (some (px_push M63 (.inl (0, 10, .inl (fun _ => 0))))).bind fun M65 =>
  (px_pt 11 35 M65 o0 (.ref M63.2)).bind fun M66 =>
  (some (px_push M66 (.inl (0, 5, .inl (fun _ => 0))))).bind fun M68 =>
  (px_pt 11 36 M68 o0 (.ref M66.2)).bind fun M69 =>
  (some (px_push M69 (.inl (0, 5, .inl (fun _ => 0))))).bind fun M71 =>
  (px_pt 11 37 M71 o0 (.ref M69.2)).bind fun M72 =>
  (px_gr 11 3 M72 o0).bind fun t74 =>
  (px_si 0 M72 t74 0 50).bind fun M76 =>
  (px_gr 11 4 M76 o0).bind fun t78 =>
  (px_si 0 M76 t78 0 100).bind fun M80 =>
  (f_MO_init_L216 px_fuel o0 0 M80).bind fun (_, M87) =>
  some M87
set_option maxHeartbeats 4000000 in
set_option maxRecDepth 100000 in
theorem c_MO_init (l : Launch) (bs : Nat) (D : va_G) (G : Nat → ClassId) (o0 : Nat) (M : px_M) {M' : px_M} (hf : f_MO_init o0 M = some M') : Met l y_MO_init (.code y_MO_init b_MO_init 2 none :: px_tw) ⟨1, 23, 768, 12⟩ (va_Pc [.ref o0] (px_B bs D px_cl (px_tys G) px_nw px_over M)) (px_Qv bs D px_cl (px_tys G) M') 23 768 (fun q => bs ≤ q) := by
  refine px_of (by decide) (Nat.le_of_ble_eq_true rfl) ?_
  intro p e s m below meth c ls C0 hM hS hl
  obtain ⟨hx, hb, hr, hml, hown, hnm, hlocks, hts, hK, hN, hO⟩ := C0
  have hl : lv_has ls 2 [(0, .ref o0)] := hl
  unfold f_MO_init at hf
  refine lv_aload_n hx hb d_MO_init_0 rfl (lv_at hl 0 rfl) ?_
  refine W.objInit hx hb hown (hts _ w_644) (hts _ w_20) (hts _ w_21) rfl (by rw [hml]; exact hl.1) rfl d_MO_init_1 (Nat.le_of_ble_eq_true rfl) (Nat.le_of_ble_eq_true rfl) ?_
  refine W.eq (g2 := F0 m 4 ls []) rfl ?_
  refine lv_aload_n hx hb d_MO_init_4 rfl (lv_at hl 0 rfl) ?_
  refine lv_bipush (v := 100) hx hb d_MO_init_5 (by decide) ?_
  obtain ⟨M1, eM1, hf⟩ := px_bind hf
  refine px_rnewa hx hb (hts _ w_37) 0 hK rfl hM hS (N' := 100) (by decide) (by decide) (by decide) (by decide) (by decide) d_MO_init_7 (fun H hM hS => ?_)
  rw [Option.some.inj eM1] at hM
  obtain ⟨M2, h3, hf⟩ := px_bind hf
  refine px_rptF hx hb hts cl_MO hown hK hM hS 1 (by decide) (hts _ w_646) rfl hnm rfl rfl rfl h3 d_MO_init_9 (fun H locs hM hS => ?_)
  refine lv_aload_n hx hb d_MO_init_12 rfl (lv_at hl 0 rfl) ?_
  refine lv_iconst (v := 1) hx hb d_MO_init_13 (by decide) ?_
  obtain ⟨M4, h5, hf⟩ := px_bind hf
  refine px_rpt hx hb hts cl_MO hown hK hM hS 2 (by decide) (hts _ w_647) rfl rfl rfl h5 d_MO_init_14 (fun H locs hM hS => ?_)
  refine lv_aload_n hx hb d_MO_init_17 rfl (lv_at hl 0 rfl) ?_
  refine lv_bipush (v := 6) hx hb d_MO_init_18 (by decide) ?_
  obtain ⟨M6, eM6, hf⟩ := px_bind hf
  refine px_rnewa hx hb (hts _ w_37) 0 hK rfl hM hS (N' := 6) (by decide) (by decide) (by decide) (by decide) (by decide) d_MO_init_20 (fun H hM hS => ?_)
  rw [Option.some.inj eM6] at hM
  obtain ⟨M7, h8, hf⟩ := px_bind hf
  refine px_rptF hx hb hts cl_MO hown hK hM hS 3 (by decide) (hts _ w_648) rfl hnm rfl rfl rfl h8 d_MO_init_22 (fun H locs hM hS => ?_)
  refine lv_aload_n hx hb d_MO_init_25 rfl (lv_at hl 0 rfl) ?_
  refine lv_bipush (v := 6) hx hb d_MO_init_26 (by decide) ?_
  obtain ⟨M9, eM9, hf⟩ := px_bind hf
  refine px_rnewa hx hb (hts _ w_37) 0 hK rfl hM hS (N' := 6) (by decide) (by decide) (by decide) (by decide) (by decide) d_MO_init_28 (fun H hM hS => ?_)
  rw [Option.some.inj eM9] at hM
  obtain ⟨M10, h11, hf⟩ := px_bind hf
  refine px_rptF hx hb hts cl_MO hown hK hM hS 4 (by decide) (hts _ w_649) rfl hnm rfl rfl rfl h11 d_MO_init_30 (fun H locs hM hS => ?_)
  refine lv_aload_n hx hb d_MO_init_33 rfl (lv_at hl 0 rfl) ?_
  refine lv_bipush (v := 116) hx hb d_MO_init_34 (by decide) ?_
  obtain ⟨M12, h13, hf⟩ := px_bind hf
  refine px_rpt hx hb hts cl_MO hown hK hM hS 7 (by decide) (hts _ w_652) rfl rfl rfl h13 d_MO_init_36 (fun H locs hM hS => ?_)
  refine lv_aload_n hx hb d_MO_init_39 rfl (lv_at hl 0 rfl) ?_
  refine lv_bipush (v := 6) hx hb d_MO_init_40 (by decide) ?_
  obtain ⟨M14, eM14, hf⟩ := px_bind hf
  refine px_rnewa hx hb (hts _ w_37) 0 hK rfl hM hS (N' := 6) (by decide) (by decide) (by decide) (by decide) (by decide) d_MO_init_42 (fun H hM hS => ?_)
  rw [Option.some.inj eM14] at hM
  obtain ⟨M15, h16, hf⟩ := px_bind hf
  refine px_rptF hx hb hts cl_MO hown hK hM hS 9 (by decide) (hts _ w_654) rfl hnm rfl rfl rfl h16 d_MO_init_44 (fun H locs hM hS => ?_)
  refine lv_aload_n hx hb d_MO_init_47 rfl (lv_at hl 0 rfl) ?_
  refine lv_bipush (v := 6) hx hb d_MO_init_48 (by decide) ?_
  obtain ⟨M17, eM17, hf⟩ := px_bind hf
  refine px_rnewa hx hb (hts _ w_37) 0 hK rfl hM hS (N' := 6) (by decide) (by decide) (by decide) (by decide) (by decide) d_MO_init_50 (fun H hM hS => ?_)
  rw [Option.some.inj eM17] at hM
  obtain ⟨M18, h19, hf⟩ := px_bind hf
  refine px_rptF hx hb hts cl_MO hown hK hM hS 10 (by decide) (hts _ w_655) rfl hnm rfl rfl rfl h19 d_MO_init_52 (fun H locs hM hS => ?_)
  refine lv_aload_n hx hb d_MO_init_55 rfl (lv_at hl 0 rfl) ?_
  refine lv_sipush (v := 128) hx hb d_MO_init_56 (by decide) ?_
  obtain ⟨M20, eM20, hf⟩ := px_bind hf
  refine px_rnewa hx hb (hts _ w_37) 0 hK rfl hM hS (N' := 128) (by decide) (by decide) (by decide) (by decide) (by decide) d_MO_init_59 (fun H hM hS => ?_)
  rw [Option.some.inj eM20] at hM
  obtain ⟨M21, h22, hf⟩ := px_bind hf
  refine px_rptF hx hb hts cl_MO hown hK hM hS 16 (by decide) (hts _ w_661) rfl hnm rfl rfl rfl h22 d_MO_init_61 (fun H locs hM hS => ?_)
  refine lv_aload_n hx hb d_MO_init_64 rfl (lv_at hl 0 rfl) ?_
  refine lv_bipush (v := 60) hx hb d_MO_init_65 (by decide) ?_
  obtain ⟨M23, eM23, hf⟩ := px_bind hf
  refine px_rnewa hx hb (hts _ w_37) 0 hK rfl hM hS (N' := 60) (by decide) (by decide) (by decide) (by decide) (by decide) d_MO_init_67 (fun H hM hS => ?_)
  rw [Option.some.inj eM23] at hM
  obtain ⟨M24, h25, hf⟩ := px_bind hf
  refine px_rptF hx hb hts cl_MO hown hK hM hS 18 (by decide) (hts _ w_663) rfl hnm rfl rfl rfl h25 d_MO_init_69 (fun H locs hM hS => ?_)
  refine lv_aload_n hx hb d_MO_init_72 rfl (lv_at hl 0 rfl) ?_
  refine lv_bipush (v := 60) hx hb d_MO_init_73 (by decide) ?_
  obtain ⟨M26, eM26, hf⟩ := px_bind hf
  refine px_rnewa hx hb (hts _ w_37) 0 hK rfl hM hS (N' := 60) (by decide) (by decide) (by decide) (by decide) (by decide) d_MO_init_75 (fun H hM hS => ?_)
  rw [Option.some.inj eM26] at hM
  obtain ⟨M27, h28, hf⟩ := px_bind hf
  refine px_rptF hx hb hts cl_MO hown hK hM hS 19 (by decide) (hts _ w_664) rfl hnm rfl rfl rfl h28 d_MO_init_77 (fun H locs hM hS => ?_)
  refine lv_aload_n hx hb d_MO_init_80 rfl (lv_at hl 0 rfl) ?_
  refine lv_bipush (v := 60) hx hb d_MO_init_81 (by decide) ?_
  obtain ⟨M29, eM29, hf⟩ := px_bind hf
  refine px_rnewa hx hb (hts _ w_37) 0 hK rfl hM hS (N' := 60) (by decide) (by decide) (by decide) (by decide) (by decide) d_MO_init_83 (fun H hM hS => ?_)
  rw [Option.some.inj eM29] at hM
  obtain ⟨M30, h31, hf⟩ := px_bind hf
  refine px_rptF hx hb hts cl_MO hown hK hM hS 20 (by decide) (hts _ w_665) rfl hnm rfl rfl rfl h31 d_MO_init_85 (fun H locs hM hS => ?_)
  refine lv_aload_n hx hb d_MO_init_88 rfl (lv_at hl 0 rfl) ?_
  refine lv_bipush (v := 10) hx hb d_MO_init_89 (by decide) ?_
  obtain ⟨M32, eM32, hf⟩ := px_bind hf
  refine px_rnewa hx hb (hts _ w_37) 0 hK rfl hM hS (N' := 10) (by decide) (by decide) (by decide) (by decide) (by decide) d_MO_init_91 (fun H hM hS => ?_)
  rw [Option.some.inj eM32] at hM
  obtain ⟨M33, h34, hf⟩ := px_bind hf
  refine px_rptF hx hb hts cl_MO hown hK hM hS 22 (by decide) (hts _ w_667) rfl hnm rfl rfl rfl h34 d_MO_init_93 (fun H locs hM hS => ?_)
  refine lv_aload_n hx hb d_MO_init_96 rfl (lv_at hl 0 rfl) ?_
  refine lv_bipush (v := 120) hx hb d_MO_init_97 (by decide) ?_
  obtain ⟨M35, eM35, hf⟩ := px_bind hf
  refine px_rnewa hx hb (hts _ w_37) 0 hK rfl hM hS (N' := 120) (by decide) (by decide) (by decide) (by decide) (by decide) d_MO_init_99 (fun H hM hS => ?_)
  rw [Option.some.inj eM35] at hM
  obtain ⟨M36, h37, hf⟩ := px_bind hf
  refine px_rptF hx hb hts cl_MO hown hK hM hS 23 (by decide) (hts _ w_668) rfl hnm rfl rfl rfl h37 d_MO_init_101 (fun H locs hM hS => ?_)
  refine lv_aload_n hx hb d_MO_init_104 rfl (lv_at hl 0 rfl) ?_
  refine lv_bipush (v := 10) hx hb d_MO_init_105 (by decide) ?_
  obtain ⟨M38, eM38, hf⟩ := px_bind hf
  refine px_rnewa hx hb (hts _ w_37) 0 hK rfl hM hS (N' := 10) (by decide) (by decide) (by decide) (by decide) (by decide) d_MO_init_107 (fun H hM hS => ?_)
  rw [Option.some.inj eM38] at hM
  obtain ⟨M39, h40, hf⟩ := px_bind hf
  refine px_rptF hx hb hts cl_MO hown hK hM hS 24 (by decide) (hts _ w_669) rfl hnm rfl rfl rfl h40 d_MO_init_109 (fun H locs hM hS => ?_)
  refine lv_aload_n hx hb d_MO_init_112 rfl (lv_at hl 0 rfl) ?_
  refine lv_bipush (v := 24) hx hb d_MO_init_113 (by decide) ?_
  obtain ⟨M41, eM41, hf⟩ := px_bind hf
  refine px_rnewa hx hb (hts _ w_37) 0 hK rfl hM hS (N' := 24) (by decide) (by decide) (by decide) (by decide) (by decide) d_MO_init_115 (fun H hM hS => ?_)
  rw [Option.some.inj eM41] at hM
  obtain ⟨M42, h43, hf⟩ := px_bind hf
  refine px_rptF hx hb hts cl_MO hown hK hM hS 26 (by decide) (hts _ w_671) rfl hnm rfl rfl rfl h43 d_MO_init_117 (fun H locs hM hS => ?_)
  refine lv_aload_n hx hb d_MO_init_120 rfl (lv_at hl 0 rfl) ?_
  refine lv_bipush (v := 24) hx hb d_MO_init_121 (by decide) ?_
  obtain ⟨M44, eM44, hf⟩ := px_bind hf
  refine px_rnewa hx hb (hts _ w_37) 0 hK rfl hM hS (N' := 24) (by decide) (by decide) (by decide) (by decide) (by decide) d_MO_init_123 (fun H hM hS => ?_)
  rw [Option.some.inj eM44] at hM
  obtain ⟨M45, h46, hf⟩ := px_bind hf
  refine px_rptF hx hb hts cl_MO hown hK hM hS 27 (by decide) (hts _ w_672) rfl hnm rfl rfl rfl h46 d_MO_init_125 (fun H locs hM hS => ?_)
  refine lv_aload_n hx hb d_MO_init_128 rfl (lv_at hl 0 rfl) ?_
  refine lv_bipush (v := 24) hx hb d_MO_init_129 (by decide) ?_
  obtain ⟨M47, eM47, hf⟩ := px_bind hf
  refine px_rnewa hx hb (hts _ w_37) 0 hK rfl hM hS (N' := 24) (by decide) (by decide) (by decide) (by decide) (by decide) d_MO_init_131 (fun H hM hS => ?_)
  rw [Option.some.inj eM47] at hM
  obtain ⟨M48, h49, hf⟩ := px_bind hf
  refine px_rptF hx hb hts cl_MO hown hK hM hS 28 (by decide) (hts _ w_673) rfl hnm rfl rfl rfl h49 d_MO_init_133 (fun H locs hM hS => ?_)
  refine lv_aload_n hx hb d_MO_init_136 rfl (lv_at hl 0 rfl) ?_
  refine lv_bipush (v := 8) hx hb d_MO_init_137 (by decide) ?_
  obtain ⟨M50, eM50, hf⟩ := px_bind hf
  refine px_rnewa hx hb (hts _ w_37) 0 hK rfl hM hS (N' := 8) (by decide) (by decide) (by decide) (by decide) (by decide) d_MO_init_139 (fun H hM hS => ?_)
  rw [Option.some.inj eM50] at hM
  obtain ⟨M51, h52, hf⟩ := px_bind hf
  refine px_rptF hx hb hts cl_MO hown hK hM hS 30 (by decide) (hts _ w_675) rfl hnm rfl rfl rfl h52 d_MO_init_141 (fun H locs hM hS => ?_)
  refine lv_aload_n hx hb d_MO_init_144 rfl (lv_at hl 0 rfl) ?_
  refine lv_bipush (v := 8) hx hb d_MO_init_145 (by decide) ?_
  obtain ⟨M53, eM53, hf⟩ := px_bind hf
  refine px_rnewa hx hb (hts _ w_37) 0 hK rfl hM hS (N' := 8) (by decide) (by decide) (by decide) (by decide) (by decide) d_MO_init_147 (fun H hM hS => ?_)
  rw [Option.some.inj eM53] at hM
  obtain ⟨M54, h55, hf⟩ := px_bind hf
  refine px_rptF hx hb hts cl_MO hown hK hM hS 31 (by decide) (hts _ w_676) rfl hnm rfl rfl rfl h55 d_MO_init_149 (fun H locs hM hS => ?_)
  refine lv_aload_n hx hb d_MO_init_152 rfl (lv_at hl 0 rfl) ?_
  refine lv_bipush (v := 40) hx hb d_MO_init_153 (by decide) ?_
  obtain ⟨M56, eM56, hf⟩ := px_bind hf
  refine px_rnewa hx hb (hts _ w_37) 0 hK rfl hM hS (N' := 40) (by decide) (by decide) (by decide) (by decide) (by decide) d_MO_init_155 (fun H hM hS => ?_)
  rw [Option.some.inj eM56] at hM
  obtain ⟨M57, h58, hf⟩ := px_bind hf
  refine px_rptF hx hb hts cl_MO hown hK hM hS 32 (by decide) (hts _ w_677) rfl hnm rfl rfl rfl h58 d_MO_init_157 (fun H locs hM hS => ?_)
  refine lv_aload_n hx hb d_MO_init_160 rfl (lv_at hl 0 rfl) ?_
  refine lv_bipush (v := 40) hx hb d_MO_init_161 (by decide) ?_
  obtain ⟨M59, eM59, hf⟩ := px_bind hf
  refine px_rnewa hx hb (hts _ w_37) 0 hK rfl hM hS (N' := 40) (by decide) (by decide) (by decide) (by decide) (by decide) d_MO_init_163 (fun H hM hS => ?_)
  rw [Option.some.inj eM59] at hM
  obtain ⟨M60, h61, hf⟩ := px_bind hf
  refine px_rptF hx hb hts cl_MO hown hK hM hS 33 (by decide) (hts _ w_678) rfl hnm rfl rfl rfl h61 d_MO_init_165 (fun H locs hM hS => ?_)
  refine lv_aload_n hx hb d_MO_init_168 rfl (lv_at hl 0 rfl) ?_
  refine lv_bipush (v := 8) hx hb d_MO_init_169 (by decide) ?_
  obtain ⟨M62, eM62, hf⟩ := px_bind hf
  refine px_rnewa hx hb (hts _ w_37) 0 hK rfl hM hS (N' := 8) (by decide) (by decide) (by decide) (by decide) (by decide) d_MO_init_171 (fun H hM hS => ?_)
  rw [Option.some.inj eM62] at hM
  obtain ⟨M63, h64, hf⟩ := px_bind hf
  refine px_rptF hx hb hts cl_MO hown hK hM hS 34 (by decide) (hts _ w_679) rfl hnm rfl rfl rfl h64 d_MO_init_173 (fun H locs hM hS => ?_)
  refine lv_aload_n hx hb d_MO_init_176 rfl (lv_at hl 0 rfl) ?_
  refine lv_bipush (v := 10) hx hb d_MO_init_177 (by decide) ?_
  obtain ⟨M65, eM65, hf⟩ := px_bind hf
  refine px_rnewa hx hb (hts _ w_37) 0 hK rfl hM hS (N' := 10) (by decide) (by decide) (by decide) (by decide) (by decide) d_MO_init_179 (fun H hM hS => ?_)
  rw [Option.some.inj eM65] at hM
  obtain ⟨M66, h67, hf⟩ := px_bind hf
  refine px_rptF hx hb hts cl_MO hown hK hM hS 35 (by decide) (hts _ w_680) rfl hnm rfl rfl rfl h67 d_MO_init_181 (fun H locs hM hS => ?_)
  refine lv_aload_n hx hb d_MO_init_184 rfl (lv_at hl 0 rfl) ?_
  refine lv_iconst (v := 5) hx hb d_MO_init_185 (by decide) ?_
  obtain ⟨M68, eM68, hf⟩ := px_bind hf
  refine px_rnewa hx hb (hts _ w_37) 0 hK rfl hM hS (N' := 5) (by decide) (by decide) (by decide) (by decide) (by decide) d_MO_init_186 (fun H hM hS => ?_)
  rw [Option.some.inj eM68] at hM
  obtain ⟨M69, h70, hf⟩ := px_bind hf
  refine px_rptF hx hb hts cl_MO hown hK hM hS 36 (by decide) (hts _ w_681) rfl hnm rfl rfl rfl h70 d_MO_init_188 (fun H locs hM hS => ?_)
  refine lv_aload_n hx hb d_MO_init_191 rfl (lv_at hl 0 rfl) ?_
  refine lv_iconst (v := 5) hx hb d_MO_init_192 (by decide) ?_
  obtain ⟨M71, eM71, hf⟩ := px_bind hf
  refine px_rnewa hx hb (hts _ w_37) 0 hK rfl hM hS (N' := 5) (by decide) (by decide) (by decide) (by decide) (by decide) d_MO_init_193 (fun H hM hS => ?_)
  rw [Option.some.inj eM71] at hM
  obtain ⟨M72, h73, hf⟩ := px_bind hf
  refine px_rptF hx hb hts cl_MO hown hK hM hS 37 (by decide) (hts _ w_682) rfl hnm rfl rfl rfl h73 d_MO_init_195 (fun H locs hM hS => ?_)
  refine lv_aload_n hx hb d_MO_init_198 rfl (lv_at hl 0 rfl) ?_
  obtain ⟨t74, h75, hf⟩ := px_bind hf
  refine px_rgr hx hb hts cl_MO hown hK hM 3 (by decide) (hts _ w_648) h75 d_MO_init_199 ?_
  refine lv_iconst (v := 0) hx hb d_MO_init_202 (by decide) ?_
  refine lv_bipush (v := 50) hx hb d_MO_init_203 (by decide) ?_
  obtain ⟨M76, h77, hf⟩ := px_bind hf
  refine px_rsi hx hb hK hM hS 0 rfl h77 d_MO_init_205 (fun H locs hM hS => ?_)
  refine lv_aload_n hx hb d_MO_init_206 rfl (lv_at hl 0 rfl) ?_
  obtain ⟨t78, h79, hf⟩ := px_bind hf
  refine px_rgr hx hb hts cl_MO hown hK hM 4 (by decide) (hts _ w_649) h79 d_MO_init_207 ?_
  refine lv_iconst (v := 0) hx hb d_MO_init_210 (by decide) ?_
  refine lv_bipush (v := 100) hx hb d_MO_init_211 (by decide) ?_
  obtain ⟨M80, h81, hf⟩ := px_bind hf
  refine px_rsi hx hb hK hM hS 0 rfl h81 d_MO_init_213 (fun H locs hM hS => ?_)
  refine lv_iconst (v := 0) hx hb d_MO_init_214 (by decide) ?_
  refine lv_istore_n (lv' := [(1, .int 0), (0, .ref o0)]) hx hb d_MO_init_215 rfl hl (by decide) rfl (fun ls hl => ?_)
  obtain ⟨⟨_, M87⟩, h88, hf⟩ := px_bind hf
  dsimp only at hf
  refine lp_MO_init_L216 ⟨hx, hb, hr, hml, hown, hnm, hlocks, hts, hK, hN, hO⟩ _ M87 o0 (fun H locs ls hM hS hl => ?_) px_fuel 0 M80 h88 _ _ _ hM hS (lv_sub hl [1, 0] rfl)
  try dsimp only at hl
  obtain rfl := px_s1 hf
  exact px_vret hx hb hr hlocks hM hS d_MO_init_237
def f_MO_isSign (x0 : Int32) (M : px_M) : Option (Int32 × px_M) :=
  if x0 < 32 then
  some (0, M)
  else
  if 126 < x0 then
  some (0, M)
  else
  some (1, M)
set_option maxHeartbeats 4000000 in
set_option maxRecDepth 100000 in
theorem c_MO_isSign (l : Launch) (bs : Nat) (D : va_G) (G : Nat → ClassId) (x0 : Int32) (M : px_M) {r : Int32} {M' : px_M} (hf : f_MO_isSign x0 M = some (r, M')) : Met l y_MO_isSign (.code y_MO_isSign b_MO_isSign 1 (some .boolean) :: px_tw) ⟨0, 0, 0, 0⟩ (va_Pc [.int x0] (px_B bs D px_cl (px_tys G) px_nw px_over M)) (px_Qi bs D px_cl (px_tys G) r M') 0 0 (fun q => bs ≤ q) := by
  refine px_of (by decide) (Nat.le_of_ble_eq_true rfl) ?_
  intro p e s m below meth c ls C0 hM hS hl
  obtain ⟨hx, hb, hr, hml, hown, hnm, hlocks, hts, hK, hN, hO⟩ := C0
  have hl : lv_has ls 1 [(0, .int x0)] := hl
  unfold f_MO_isSign at hf
  refine lv_iload_n hx hb d_MO_isSign_0 rfl (lv_at hl 0 rfl) ?_
  refine lv_bipush (v := 32) hx hb d_MO_isSign_1 (by decide) ?_
  refine lv_icmp_lt (tgt := 16) hx hb d_MO_isSign_3 (by decide) (fun c1 => ?_) (fun c1 => ?_)
  · have hf := px_ift hf c1
    refine lv_iconst (v := 0) hx hb d_MO_isSign_16 (by decide) ?_
    obtain ⟨rfl, rfl⟩ := px_s2 hf
    exact px_zret hx hb hr rfl hlocks hM hS d_MO_isSign_17
  · have hf := px_iff hf c1
    refine lv_iload_n hx hb d_MO_isSign_6 rfl (lv_at hl 0 rfl) ?_
    refine lv_bipush (v := 126) hx hb d_MO_isSign_7 (by decide) ?_
    refine lv_icmp_gt (tgt := 16) hx hb d_MO_isSign_9 (by decide) (fun c2 => ?_) (fun c2 => ?_)
    · have hf := px_ift hf c2
      refine lv_iconst (v := 0) hx hb d_MO_isSign_16 (by decide) ?_
      obtain ⟨rfl, rfl⟩ := px_s2 hf
      exact px_zret hx hb hr rfl hlocks hM hS d_MO_isSign_17
    · have hf := px_iff hf c2
      refine lv_iconst (v := 1) hx hb d_MO_isSign_12 (by decide) ?_
      refine lv_goto (tgt := 17) hx hb d_MO_isSign_13 (by decide) ?_
      obtain ⟨rfl, rfl⟩ := px_s2 hf
      exact px_zret hx hb hr rfl hlocks hM hS d_MO_isSign_17
def f_MO_unit (o0 : Nat) (x1 : Int32) (M : px_M) : Option (Int32 × px_M) :=
  (f_MO_isSign x1 M).bind fun (v3, M1) =>
  if v3 = 0 then
  some (0, M1)
  else
  (px_gi 11 0 M1 o0).bind fun v5 =>
  if v5 = 100 then
  some (0, M1)
  else
  (px_gr 11 1 M1 o0).bind fun t8 =>
  (px_gi 11 0 M1 o0).bind fun v10 =>
  (px_si 0 M1 t8 v10 x1).bind fun M12 =>
  (px_gi 11 0 M12 o0).bind fun v14 =>
  (px_pt 11 0 M12 o0 (.int (v14 + 1))).bind fun M16 =>
  some (1, M16)
set_option maxHeartbeats 4000000 in
set_option maxRecDepth 100000 in
theorem c_MO_unit (l : Launch) (bs : Nat) (D : va_G) (G : Nat → ClassId) (o0 : Nat) (x1 : Int32) (M : px_M) {r : Int32} {M' : px_M} (hf : f_MO_unit o0 x1 M = some (r, M')) : Met l y_MO_unit (.code y_MO_unit b_MO_unit 2 (some .boolean) :: px_tw) ⟨1, 0, 0, 20⟩ (va_Pc [.ref o0, .int x1] (px_B bs D px_cl (px_tys G) px_nw px_over M)) (px_Qi bs D px_cl (px_tys G) r M') 0 0 (fun q => bs ≤ q) := by
  refine px_of (by decide) (Nat.le_of_ble_eq_true rfl) ?_
  intro p e s m below meth c ls C0 hM hS hl
  obtain ⟨hx, hb, hr, hml, hown, hnm, hlocks, hts, hK, hN, hO⟩ := C0
  have hl : lv_has ls 2 [(0, .ref o0), (1, .int x1)] := hl
  unfold f_MO_unit at hf
  refine lv_iload_n hx hb d_MO_unit_0 rfl (lv_at hl 1 rfl) ?_
  obtain ⟨⟨v3, M1⟩, h2, hf⟩ := px_bind hf
  dsimp only at hf
  refine px_calli (va_runS (As := [.int x1]) (rest := []) ⟨hx, hb, hml, hown, hts⟩ (c_MO_isSign l bs D G x1 M h2) (cwS 1 hts (px_gS w_776 w_777 w_12 w_778) rfl rfl rfl (by decide +kernel) ⟨Nat.le_of_ble_eq_true rfl, Nat.le_of_ble_eq_true rfl⟩) (px_preS px_nwok hK hN hO hM) rfl rfl hl.1 rfl (lv_room (Nat.le_of_ble_eq_true rfl)) d_MO_unit_1 ⟨Nat.le_of_ble_eq_true rfl, Nat.le_of_ble_eq_true rfl⟩) hS (fun H locs hM hS => ?_)
  refine lv_if_eq (tgt := 16) hx hb d_MO_unit_4 (by decide) (fun c4 => ?_) (fun c4 => ?_)
  · have hf := px_ift hf c4
    refine lv_iconst (v := 0) hx hb d_MO_unit_16 (by decide) ?_
    obtain ⟨rfl, rfl⟩ := px_s2 hf
    exact px_zret hx hb hr rfl hlocks hM hS d_MO_unit_17
  · have hf := px_iff hf c4
    refine lv_aload_n hx hb d_MO_unit_7 rfl (lv_at hl 0 rfl) ?_
    obtain ⟨v5, h6, hf⟩ := px_bind hf
    refine px_rgi hx hb hts cl_MO hown hK hM 0 (by decide) (hts _ w_645) h6 d_MO_unit_8 ?_
    refine lv_bipush (v := 100) hx hb d_MO_unit_11 (by decide) ?_
    refine lv_icmp_ne (tgt := 18) hx hb d_MO_unit_13 (by decide) (fun c7 => ?_) (fun c7 => ?_)
    · have hf := px_iff hf c7
      refine lv_aload_n hx hb d_MO_unit_18 rfl (lv_at hl 0 rfl) ?_
      obtain ⟨t8, h9, hf⟩ := px_bind hf
      refine px_rgr hx hb hts cl_MO hown hK hM 1 (by decide) (hts _ w_646) h9 d_MO_unit_19 ?_
      refine lv_aload_n hx hb d_MO_unit_22 rfl (lv_at hl 0 rfl) ?_
      obtain ⟨v10, h11, hf⟩ := px_bind hf
      refine px_rgi hx hb hts cl_MO hown hK hM 0 (by decide) (hts _ w_645) h11 d_MO_unit_23 ?_
      refine lv_iload_n hx hb d_MO_unit_26 rfl (lv_at hl 1 rfl) ?_
      obtain ⟨M12, h13, hf⟩ := px_bind hf
      refine px_rsi hx hb hK hM hS 0 rfl h13 d_MO_unit_27 (fun H locs hM hS => ?_)
      refine lv_aload_n hx hb d_MO_unit_28 rfl (lv_at hl 0 rfl) ?_
      refine lv_dup hx hb d_MO_unit_29 rfl ?_
      obtain ⟨v14, h15, hf⟩ := px_bind hf
      refine px_rgi hx hb hts cl_MO hown hK hM 0 (by decide) (hts _ w_645) h15 d_MO_unit_30 ?_
      refine lv_iconst (v := 1) hx hb d_MO_unit_33 (by decide) ?_
      refine lv_iadd hx hb d_MO_unit_34 ?_
      obtain ⟨M16, h17, hf⟩ := px_bind hf
      refine px_rpt hx hb hts cl_MO hown hK hM hS 0 (by decide) (hts _ w_645) rfl rfl rfl h17 d_MO_unit_35 (fun H locs hM hS => ?_)
      refine lv_iconst (v := 1) hx hb d_MO_unit_38 (by decide) ?_
      obtain ⟨rfl, rfl⟩ := px_s2 hf
      exact px_zret hx hb hr rfl hlocks hM hS d_MO_unit_39
    · have hf := px_ift hf c7
      refine lv_iconst (v := 0) hx hb d_MO_unit_16 (by decide) ?_
      obtain ⟨rfl, rfl⟩ := px_s2 hf
      exact px_zret hx hb hr rfl hlocks hM hS d_MO_unit_17
def f_MO_look_L0 : Nat → Nat → px_M → Option ((Unit) × px_M)
  | 0, _, _ => none
  | n + 1, o0, M =>
    (px_gi 11 14 M o0).bind fun v1 =>
    (px_gi 11 0 M o0).bind fun v3 =>
    if v3 ≤ v1 then
    some ((), M)
    else
    (px_gr 11 1 M o0).bind fun t6 =>
    (px_gi 11 14 M o0).bind fun v8 =>
    (px_ai 0 M t6 v8).bind fun v10 =>
    if v10 = 32 then
    (px_gi 11 14 M o0).bind fun v13 =>
    (px_pt 11 14 M o0 (.int (v13 + 1))).bind fun M15 =>
    f_MO_look_L0 n o0 M15
    else
    some ((), M)
set_option maxHeartbeats 4000000 in
set_option maxRecDepth 100000 in
theorem lp_MO_look_L0 {p : Program} {l : Launch} {e : Env} {s : State} {m : MethodId} {args : Array Value} {below : List Frame} {meth : Method} {c : Code} {bs : Nat} {D : va_G} {G : Nat → ClassId} {Q : State → Prop} (C0 : px_At p s m meth c y_MO_look b_MO_look 1 (some .int) args D px_cl (px_tys G) px_nw px_over) (x : Unit) (M' : px_M) (o0 : Nat) (kx : ∀ (H : Heap) (locs : List Loc) (ls : Array Slot), px_W bs D px_cl (px_tys G) M' H → va_S (fun q => bs ≤ q) s.heap H locs → lv_has ls 1 [(0, .ref o0)] → W p l e ⟨0, 0, 0, 0⟩ s m args below meth c H locs 0 0 Q (F0 m 38 ls []))  : ∀ (n : Nat)  (M : px_M), f_MO_look_L0 n o0 M = some (x, M') → ∀ (H : Heap) (locs : List Loc) (ls : Array Slot), px_W bs D px_cl (px_tys G) M H → va_S (fun q => bs ≤ q) s.heap H locs → lv_has ls 1 [(0, .ref o0)] → W p l e ⟨0, 0, 0, 0⟩ s m args below meth c H locs 0 0 Q (F0 m 0 ls []) := by
  obtain ⟨hx, hb, hr, hml, hown, hnm, hlocks, hts, hK, hN, hO⟩ := C0
  intro n
  induction n with
  | zero => intro  M hf; cases hf
  | succ n ih =>
    intro  M hf H locs ls hM hS hl
    unfold f_MO_look_L0 at hf
    refine lv_aload_n hx hb d_MO_look_0 rfl (lv_at hl 0 rfl) ?_
    obtain ⟨v1, h2, hf⟩ := px_bind hf
    refine px_rgi hx hb hts cl_MO hown hK hM 14 (by decide) (hts _ w_659) h2 d_MO_look_1 ?_
    refine lv_aload_n hx hb d_MO_look_4 rfl (lv_at hl 0 rfl) ?_
    obtain ⟨v3, h4, hf⟩ := px_bind hf
    refine px_rgi hx hb hts cl_MO hown hK hM 0 (by decide) (hts _ w_645) h4 d_MO_look_5 ?_
    refine lv_icmp_ge (tgt := 38) hx hb d_MO_look_8 (by decide) (fun c5 => ?_) (fun c5 => ?_)
    · have hf := px_ift hf c5
      obtain ⟨rfl, rfl⟩ := px_s2 hf
      exact kx _ _ _ hM hS (lv_sub hl [0] rfl)
    · have hf := px_iff hf c5
      refine lv_aload_n hx hb d_MO_look_11 rfl (lv_at hl 0 rfl) ?_
      obtain ⟨t6, h7, hf⟩ := px_bind hf
      refine px_rgr hx hb hts cl_MO hown hK hM 1 (by decide) (hts _ w_646) h7 d_MO_look_12 ?_
      refine lv_aload_n hx hb d_MO_look_15 rfl (lv_at hl 0 rfl) ?_
      obtain ⟨v8, h9, hf⟩ := px_bind hf
      refine px_rgi hx hb hts cl_MO hown hK hM 14 (by decide) (hts _ w_659) h9 d_MO_look_16 ?_
      obtain ⟨v10, h11, hf⟩ := px_bind hf
      refine px_rai hx hb hK hM 0 rfl h11 d_MO_look_19 ?_
      refine lv_bipush (v := 32) hx hb d_MO_look_20 (by decide) ?_
      refine lv_icmp_ne (tgt := 38) hx hb d_MO_look_22 (by decide) (fun c12 => ?_) (fun c12 => ?_)
      · have hf := px_iff hf c12
        obtain ⟨rfl, rfl⟩ := px_s2 hf
        exact kx _ _ _ hM hS (lv_sub hl [0] rfl)
      · have hf := px_ift hf c12
        refine lv_aload_n hx hb d_MO_look_25 rfl (lv_at hl 0 rfl) ?_
        refine lv_dup hx hb d_MO_look_26 rfl ?_
        obtain ⟨v13, h14, hf⟩ := px_bind hf
        refine px_rgi hx hb hts cl_MO hown hK hM 14 (by decide) (hts _ w_659) h14 d_MO_look_27 ?_
        refine lv_iconst (v := 1) hx hb d_MO_look_30 (by decide) ?_
        refine lv_iadd hx hb d_MO_look_31 ?_
        obtain ⟨M15, h16, hf⟩ := px_bind hf
        refine px_rpt hx hb hts cl_MO hown hK hM hS 14 (by decide) (hts _ w_659) rfl rfl rfl h16 d_MO_look_32 (fun H locs hM hS => ?_)
        refine lv_goto (tgt := 0) hx hb d_MO_look_35 (by decide) ?_
        exact ih  M15 hf _ _ _ hM hS (lv_sub hl [0] rfl)
def f_MO_look (o0 : Nat) (M : px_M) : Option (Int32 × px_M) :=
  (f_MO_look_L0 px_fuel o0 M).bind fun (_, M17) =>
  (px_gi 11 14 M17 o0).bind fun v19 =>
  (px_gi 11 0 M17 o0).bind fun v21 =>
  if v21 ≤ v19 then
  some (0, M17)
  else
  (px_gr 11 1 M17 o0).bind fun t24 =>
  (px_gi 11 14 M17 o0).bind fun v26 =>
  (px_ai 0 M17 t24 v26).bind fun v28 =>
  some (v28, M17)
set_option maxHeartbeats 4000000 in
set_option maxRecDepth 100000 in
theorem c_MO_look (l : Launch) (bs : Nat) (D : va_G) (G : Nat → ClassId) (o0 : Nat) (M : px_M) {r : Int32} {M' : px_M} (hf : f_MO_look o0 M = some (r, M')) : Met l y_MO_look (.code y_MO_look b_MO_look 1 (some .int) :: px_tw) ⟨0, 0, 0, 0⟩ (va_Pc [.ref o0] (px_B bs D px_cl (px_tys G) px_nw px_over M)) (px_Qi bs D px_cl (px_tys G) r M') 0 0 (fun q => bs ≤ q) := by
  refine px_of (by decide) (Nat.le_of_ble_eq_true rfl) ?_
  intro p e s m below meth c ls C0 hM hS hl
  obtain ⟨hx, hb, hr, hml, hown, hnm, hlocks, hts, hK, hN, hO⟩ := C0
  have hl : lv_has ls 1 [(0, .ref o0)] := hl
  unfold f_MO_look at hf
  obtain ⟨⟨_, M17⟩, h18, hf⟩ := px_bind hf
  dsimp only at hf
  refine lp_MO_look_L0 ⟨hx, hb, hr, hml, hown, hnm, hlocks, hts, hK, hN, hO⟩ _ M17 o0 (fun H locs ls hM hS hl => ?_) px_fuel  M h18 _ _ _ hM hS (lv_sub hl [0] rfl)
  try dsimp only at hl
  refine lv_aload_n hx hb d_MO_look_38 rfl (lv_at hl 0 rfl) ?_
  obtain ⟨v19, h20, hf⟩ := px_bind hf
  refine px_rgi hx hb hts cl_MO hown hK hM 14 (by decide) (hts _ w_659) h20 d_MO_look_39 ?_
  refine lv_aload_n hx hb d_MO_look_42 rfl (lv_at hl 0 rfl) ?_
  obtain ⟨v21, h22, hf⟩ := px_bind hf
  refine px_rgi hx hb hts cl_MO hown hK hM 0 (by decide) (hts _ w_645) h22 d_MO_look_43 ?_
  refine lv_icmp_ge (tgt := 61) hx hb d_MO_look_46 (by decide) (fun c23 => ?_) (fun c23 => ?_)
  · have hf := px_ift hf c23
    refine lv_iconst (v := 0) hx hb d_MO_look_61 (by decide) ?_
    obtain ⟨rfl, rfl⟩ := px_s2 hf
    exact px_iret hx hb hr hlocks hM hS d_MO_look_62
  · have hf := px_iff hf c23
    refine lv_aload_n hx hb d_MO_look_49 rfl (lv_at hl 0 rfl) ?_
    obtain ⟨t24, h25, hf⟩ := px_bind hf
    refine px_rgr hx hb hts cl_MO hown hK hM 1 (by decide) (hts _ w_646) h25 d_MO_look_50 ?_
    refine lv_aload_n hx hb d_MO_look_53 rfl (lv_at hl 0 rfl) ?_
    obtain ⟨v26, h27, hf⟩ := px_bind hf
    refine px_rgi hx hb hts cl_MO hown hK hM 14 (by decide) (hts _ w_659) h27 d_MO_look_54 ?_
    obtain ⟨v28, h29, hf⟩ := px_bind hf
    refine px_rai hx hb hK hM 0 rfl h29 d_MO_look_57 ?_
    refine lv_goto (tgt := 62) hx hb d_MO_look_58 (by decide) ?_
    obtain ⟨rfl, rfl⟩ := px_s2 hf
    exact px_iret hx hb hr hlocks hM hS d_MO_look_62
def f_MO_number_L16 : Nat → Nat → Int32 → Int32 → Int32 → Int32 → px_M → Option ((Int32 × Int32) × px_M)
  | 0, _, _, _, _, _, _ => none
  | n + 1, o0, x1, x3, x4, x5, M =>
    (px_gi 11 14 M o0).bind fun v6 =>
    (px_gi 11 0 M o0).bind fun v8 =>
    if v8 ≤ v6 then
    some ((x4, x5), M)
    else
    (px_gr 11 1 M o0).bind fun t11 =>
    (px_gi 11 14 M o0).bind fun v13 =>
    (px_ai 0 M t11 v13).bind fun v15 =>
    if v15 < 48 then
    some ((x4, x5), M)
    else
    (px_gr 11 1 M o0).bind fun t18 =>
    (px_gi 11 14 M o0).bind fun v20 =>
    (px_ai 0 M t18 v20).bind fun v22 =>
    if 57 < v22 then
    some ((x4, x5), M)
    else
    if 4 ≤ x4 then
    (px_gi 11 14 M o0).bind fun v26 =>
    (px_pt 11 14 M o0 (.int (v26 + 1))).bind fun M28 =>
    f_MO_number_L16 n o0 x1 x3 (x4 + 1) x5 M28
    else
    (px_gr 11 1 M o0).bind fun t30 =>
    (px_gi 11 14 M o0).bind fun v32 =>
    (px_ai 0 M t30 v32).bind fun v34 =>
    (px_gi 11 14 M o0).bind fun v36 =>
    (px_pt 11 14 M o0 (.int (v36 + 1))).bind fun M38 =>
    f_MO_number_L16 n o0 x1 x3 (x4 + 1) (((10 * x5) + v34) - 48) M38
set_option maxHeartbeats 4000000 in
set_option maxRecDepth 100000 in
theorem lp_MO_number_L16 {p : Program} {l : Launch} {e : Env} {s : State} {m : MethodId} {args : Array Value} {below : List Frame} {meth : Method} {c : Code} {bs : Nat} {D : va_G} {G : Nat → ClassId} {Q : State → Prop} (C0 : px_At p s m meth c y_MO_number b_MO_number 6 (some .int) args D px_cl (px_tys G) px_nw px_over) (x : Int32 × Int32) (M' : px_M) (o0 : Nat) (x1 : Int32) (x3 : Int32) (kx : ∀ (H : Heap) (locs : List Loc) (ls : Array Slot), px_W bs D px_cl (px_tys G) M' H → va_S (fun q => bs ≤ q) s.heap H locs → lv_has ls 6 [(0, .ref o0), (1, .int x1), (3, .int x3), (4, .int x.1), (5, .int x.2)] → W p l e ⟨1, 0, 0, 20⟩ s m args below meth c H locs 0 0 Q (F0 m 102 ls []))  : ∀ (n : Nat) (x4 : Int32) (x5 : Int32) (M : px_M), f_MO_number_L16 n o0 x1 x3 x4 x5 M = some (x, M') → ∀ (H : Heap) (locs : List Loc) (ls : Array Slot), px_W bs D px_cl (px_tys G) M H → va_S (fun q => bs ≤ q) s.heap H locs → lv_has ls 6 [(0, .ref o0), (1, .int x1), (3, .int x3), (4, .int x4), (5, .int x5)] → W p l e ⟨1, 0, 0, 20⟩ s m args below meth c H locs 0 0 Q (F0 m 16 ls []) := by
  obtain ⟨hx, hb, hr, hml, hown, hnm, hlocks, hts, hK, hN, hO⟩ := C0
  intro n
  induction n with
  | zero => intro x4 x5 M hf; cases hf
  | succ n ih =>
    intro x4 x5 M hf H locs ls hM hS hl
    unfold f_MO_number_L16 at hf
    refine lv_aload_n hx hb d_MO_number_16 rfl (lv_at hl 0 rfl) ?_
    obtain ⟨v6, h7, hf⟩ := px_bind hf
    refine px_rgi hx hb hts cl_MO hown hK hM 14 (by decide) (hts _ w_659) h7 d_MO_number_17 ?_
    refine lv_aload_n hx hb d_MO_number_20 rfl (lv_at hl 0 rfl) ?_
    obtain ⟨v8, h9, hf⟩ := px_bind hf
    refine px_rgi hx hb hts cl_MO hown hK hM 0 (by decide) (hts _ w_645) h9 d_MO_number_21 ?_
    refine lv_icmp_ge (tgt := 102) hx hb d_MO_number_24 (by decide) (fun c10 => ?_) (fun c10 => ?_)
    · have hf := px_ift hf c10
      obtain ⟨rfl, rfl⟩ := px_s2 hf
      exact kx _ _ _ hM hS (lv_sub hl [0, 1, 2, 3, 4] rfl)
    · have hf := px_iff hf c10
      refine lv_aload_n hx hb d_MO_number_27 rfl (lv_at hl 0 rfl) ?_
      obtain ⟨t11, h12, hf⟩ := px_bind hf
      refine px_rgr hx hb hts cl_MO hown hK hM 1 (by decide) (hts _ w_646) h12 d_MO_number_28 ?_
      refine lv_aload_n hx hb d_MO_number_31 rfl (lv_at hl 0 rfl) ?_
      obtain ⟨v13, h14, hf⟩ := px_bind hf
      refine px_rgi hx hb hts cl_MO hown hK hM 14 (by decide) (hts _ w_659) h14 d_MO_number_32 ?_
      obtain ⟨v15, h16, hf⟩ := px_bind hf
      refine px_rai hx hb hK hM 0 rfl h16 d_MO_number_35 ?_
      refine lv_bipush (v := 48) hx hb d_MO_number_36 (by decide) ?_
      refine lv_icmp_lt (tgt := 102) hx hb d_MO_number_38 (by decide) (fun c17 => ?_) (fun c17 => ?_)
      · have hf := px_ift hf c17
        obtain ⟨rfl, rfl⟩ := px_s2 hf
        exact kx _ _ _ hM hS (lv_sub hl [0, 1, 2, 3, 4] rfl)
      · have hf := px_iff hf c17
        refine lv_aload_n hx hb d_MO_number_41 rfl (lv_at hl 0 rfl) ?_
        obtain ⟨t18, h19, hf⟩ := px_bind hf
        refine px_rgr hx hb hts cl_MO hown hK hM 1 (by decide) (hts _ w_646) h19 d_MO_number_42 ?_
        refine lv_aload_n hx hb d_MO_number_45 rfl (lv_at hl 0 rfl) ?_
        obtain ⟨v20, h21, hf⟩ := px_bind hf
        refine px_rgi hx hb hts cl_MO hown hK hM 14 (by decide) (hts _ w_659) h21 d_MO_number_46 ?_
        obtain ⟨v22, h23, hf⟩ := px_bind hf
        refine px_rai hx hb hK hM 0 rfl h23 d_MO_number_49 ?_
        refine lv_bipush (v := 57) hx hb d_MO_number_50 (by decide) ?_
        refine lv_icmp_gt (tgt := 102) hx hb d_MO_number_52 (by decide) (fun c24 => ?_) (fun c24 => ?_)
        · have hf := px_ift hf c24
          obtain ⟨rfl, rfl⟩ := px_s2 hf
          exact kx _ _ _ hM hS (lv_sub hl [0, 1, 2, 3, 4] rfl)
        · have hf := px_iff hf c24
          refine lv_iload hx hb d_MO_number_55 (lv_at hl 3 rfl) ?_
          refine lv_iconst (v := 4) hx hb d_MO_number_57 (by decide) ?_
          refine lv_icmp_ge (tgt := 82) hx hb d_MO_number_58 (by decide) (fun c25 => ?_) (fun c25 => ?_)
          · have hf := px_ift hf c25
            refine lv_iload hx hb d_MO_number_82 (lv_at hl 4 rfl) ?_
            refine lv_istore (lv' := [(5, .int x5), (0, .ref o0), (1, .int x1), (3, .int x3), (4, .int x4)]) hx hb d_MO_number_84 hl (by decide) rfl (fun ls hl => ?_)
            refine lv_iinc (v := x4 + 1) (lv' := [(4, .int (x4 + 1)), (5, .int x5), (0, .ref o0), (1, .int x1), (3, .int x3)]) hx hb d_MO_number_86 hl (k := 4) rfl (by rfl) (by decide) rfl (fun ls hl => ?_)
            refine lv_aload_n hx hb d_MO_number_89 rfl (lv_at hl 2 rfl) ?_
            refine lv_dup hx hb d_MO_number_90 rfl ?_
            obtain ⟨v26, h27, hf⟩ := px_bind hf
            refine px_rgi hx hb hts cl_MO hown hK hM 14 (by decide) (hts _ w_659) h27 d_MO_number_91 ?_
            refine lv_iconst (v := 1) hx hb d_MO_number_94 (by decide) ?_
            refine lv_iadd hx hb d_MO_number_95 ?_
            obtain ⟨M28, h29, hf⟩ := px_bind hf
            refine px_rpt hx hb hts cl_MO hown hK hM hS 14 (by decide) (hts _ w_659) rfl rfl rfl h29 d_MO_number_96 (fun H locs hM hS => ?_)
            refine lv_goto (tgt := 16) hx hb d_MO_number_99 (by decide) ?_
            exact ih (x4 + 1) x5 M28 hf _ _ _ hM hS (lv_sub hl [2, 3, 4, 0, 1] rfl)
          · have hf := px_iff hf c25
            refine lv_bipush (v := 10) hx hb d_MO_number_61 (by decide) ?_
            refine lv_iload hx hb d_MO_number_63 (lv_at hl 4 rfl) ?_
            refine lv_imul hx hb d_MO_number_65 ?_
            refine lv_aload_n hx hb d_MO_number_66 rfl (lv_at hl 0 rfl) ?_
            obtain ⟨t30, h31, hf⟩ := px_bind hf
            refine px_rgr hx hb hts cl_MO hown hK hM 1 (by decide) (hts _ w_646) h31 d_MO_number_67 ?_
            refine lv_aload_n hx hb d_MO_number_70 rfl (lv_at hl 0 rfl) ?_
            obtain ⟨v32, h33, hf⟩ := px_bind hf
            refine px_rgi hx hb hts cl_MO hown hK hM 14 (by decide) (hts _ w_659) h33 d_MO_number_71 ?_
            obtain ⟨v34, h35, hf⟩ := px_bind hf
            refine px_rai hx hb hK hM 0 rfl h35 d_MO_number_74 ?_
            refine lv_iadd hx hb d_MO_number_75 ?_
            refine lv_bipush (v := 48) hx hb d_MO_number_76 (by decide) ?_
            refine lv_isub hx hb d_MO_number_78 ?_
            refine lv_goto (tgt := 84) hx hb d_MO_number_79 (by decide) ?_
            refine lv_istore (lv' := [(5, .int (((10 * x5) + v34) - 48)), (0, .ref o0), (1, .int x1), (3, .int x3), (4, .int x4)]) hx hb d_MO_number_84 hl (by decide) rfl (fun ls hl => ?_)
            refine lv_iinc (v := x4 + 1) (lv' := [(4, .int (x4 + 1)), (5, .int (((10 * x5) + v34) - 48)), (0, .ref o0), (1, .int x1), (3, .int x3)]) hx hb d_MO_number_86 hl (k := 4) rfl (by rfl) (by decide) rfl (fun ls hl => ?_)
            refine lv_aload_n hx hb d_MO_number_89 rfl (lv_at hl 2 rfl) ?_
            refine lv_dup hx hb d_MO_number_90 rfl ?_
            obtain ⟨v36, h37, hf⟩ := px_bind hf
            refine px_rgi hx hb hts cl_MO hown hK hM 14 (by decide) (hts _ w_659) h37 d_MO_number_91 ?_
            refine lv_iconst (v := 1) hx hb d_MO_number_94 (by decide) ?_
            refine lv_iadd hx hb d_MO_number_95 ?_
            obtain ⟨M38, h39, hf⟩ := px_bind hf
            refine px_rpt hx hb hts cl_MO hown hK hM hS 14 (by decide) (hts _ w_659) rfl rfl rfl h39 d_MO_number_96 (fun H locs hM hS => ?_)
            refine lv_goto (tgt := 16) hx hb d_MO_number_99 (by decide) ?_
            exact ih (x4 + 1) (((10 * x5) + v34) - 48) M38 hf _ _ _ hM hS (lv_sub hl [2, 3, 4, 0, 1] rfl)
def f_MO_number (o0 : Nat) (x1 : Int32) (M : px_M) : Option (Int32 × px_M) :=
  (px_ob 11 M o0).bind fun _ =>
  (f_MO_look o0 M).bind fun (v3, M1) =>
  (px_gi 11 14 M1 o0).bind fun v4 =>
  (f_MO_number_L16 px_fuel o0 x1 v4 0 0 M1).bind fun ((v42, v43), M40) =>
  if v42 = 0 then
  (px_pt 11 14 M40 o0 (.int v4)).bind fun M45 =>
  (px_pt 11 15 M45 o0 (.int 1)).bind fun M47 =>
  some (v43, M47)
  else
  if 3 < v42 then
  (px_pt 11 14 M40 o0 (.int v4)).bind fun M50 =>
  (px_pt 11 15 M50 o0 (.int 1)).bind fun M52 =>
  some (v43, M52)
  else
  if v42 ≤ 1 then
  if x1 ≤ v43 then
  some (v43, M40)
  else
  (px_pt 11 14 M40 o0 (.int v4)).bind fun M56 =>
  (px_pt 11 15 M56 o0 (.int 1)).bind fun M58 =>
  some (v43, M58)
  else
  (px_gr 11 1 M40 o0).bind fun t60 =>
  (px_ai 0 M40 t60 v4).bind fun v62 =>
  if v62 = 48 then
  (px_pt 11 14 M40 o0 (.int v4)).bind fun M65 =>
  (px_pt 11 15 M65 o0 (.int 1)).bind fun M67 =>
  some (v43, M67)
  else
  if x1 ≤ v43 then
  some (v43, M40)
  else
  (px_pt 11 14 M40 o0 (.int v4)).bind fun M70 =>
  (px_pt 11 15 M70 o0 (.int 1)).bind fun M72 =>
  some (v43, M72)
set_option maxHeartbeats 4000000 in
set_option maxRecDepth 100000 in
theorem c_MO_number (l : Launch) (bs : Nat) (D : va_G) (G : Nat → ClassId) (o0 : Nat) (x1 : Int32) (M : px_M) {r : Int32} {M' : px_M} (hf : f_MO_number o0 x1 M = some (r, M')) : Met l y_MO_number (.code y_MO_number b_MO_number 6 (some .int) :: px_tw) ⟨1, 0, 0, 20⟩ (va_Pc [.ref o0, .int x1] (px_B bs D px_cl (px_tys G) px_nw px_over M)) (px_Qi bs D px_cl (px_tys G) r M') 0 0 (fun q => bs ≤ q) := by
  refine px_of (by decide) (Nat.le_of_ble_eq_true rfl) ?_
  intro p e s m below meth c ls C0 hM hS hl
  obtain ⟨hx, hb, hr, hml, hown, hnm, hlocks, hts, hK, hN, hO⟩ := C0
  have hl : lv_has ls 6 [(0, .ref o0), (1, .int x1)] := hl
  unfold f_MO_number at hf
  refine lv_aload_n hx hb d_MO_number_0 rfl (lv_at hl 0 rfl) ?_
  obtain ⟨_, h74, hf⟩ := px_bind hf
  obtain ⟨⟨v3, M1⟩, h2, hf⟩ := px_bind hf
  dsimp only at hf
  refine px_calli (va_runV (As := []) (rest := []) ⟨hx, hb, hml, hown, hts⟩ (c_MO_look l bs D G o0 M h2) (cwV 0 hts (px_gV w_783 w_785 ws_MO_look w_12 w_786) rfl rfl rfl (by decide +kernel) ⟨Nat.le_of_ble_eq_true rfl, Nat.le_of_ble_eq_true rfl⟩) (px_preV px_nwok hK hN hO hM h74 rfl) rfl rfl hl.1 rfl (lv_room (Nat.le_of_ble_eq_true rfl)) d_MO_number_1 ⟨Nat.le_of_ble_eq_true rfl, Nat.le_of_ble_eq_true rfl⟩) hS (fun H locs hM hS => ?_)
  refine lv_istore_n (lv' := [(2, .int v3), (0, .ref o0), (1, .int x1)]) hx hb d_MO_number_4 rfl hl (by decide) rfl (fun ls hl => ?_)
  refine lv_aload_n hx hb d_MO_number_5 rfl (lv_at hl 1 rfl) ?_
  obtain ⟨v4, h5, hf⟩ := px_bind hf
  refine px_rgi hx hb hts cl_MO hown hK hM 14 (by decide) (hts _ w_659) h5 d_MO_number_6 ?_
  refine lv_istore_n (lv' := [(3, .int v4), (2, .int v3), (0, .ref o0), (1, .int x1)]) hx hb d_MO_number_9 rfl hl (by decide) rfl (fun ls hl => ?_)
  refine lv_iconst (v := 0) hx hb d_MO_number_10 (by decide) ?_
  refine lv_istore (lv' := [(4, .int 0), (3, .int v4), (2, .int v3), (0, .ref o0), (1, .int x1)]) hx hb d_MO_number_11 hl (by decide) rfl (fun ls hl => ?_)
  refine lv_iconst (v := 0) hx hb d_MO_number_13 (by decide) ?_
  refine lv_istore (lv' := [(5, .int 0), (4, .int 0), (3, .int v4), (2, .int v3), (0, .ref o0), (1, .int x1)]) hx hb d_MO_number_14 hl (by decide) rfl (fun ls hl => ?_)
  obtain ⟨⟨⟨v42, v43⟩, M40⟩, h41, hf⟩ := px_bind hf
  dsimp only at hf
  refine lp_MO_number_L16 ⟨hx, hb, hr, hml, hown, hnm, hlocks, hts, hK, hN, hO⟩ _ M40 o0 x1 v4 (fun H locs ls hM hS hl => ?_) px_fuel 0 0 M1 h41 _ _ _ hM hS (lv_sub hl [4, 5, 2, 1, 0] rfl)
  try dsimp only at hl
  refine lv_iload hx hb d_MO_number_102 (lv_at hl 3 rfl) ?_
  refine lv_if_eq (tgt := 136) hx hb d_MO_number_104 (by decide) (fun c44 => ?_) (fun c44 => ?_)
  · have hf := px_ift hf c44
    refine lv_aload_n hx hb d_MO_number_136 rfl (lv_at hl 0 rfl) ?_
    refine lv_iload_n hx hb d_MO_number_137 rfl (lv_at hl 2 rfl) ?_
    obtain ⟨M45, h46, hf⟩ := px_bind hf
    refine px_rpt hx hb hts cl_MO hown hK hM hS 14 (by decide) (hts _ w_659) rfl rfl rfl h46 d_MO_number_138 (fun H locs hM hS => ?_)
    refine lv_aload_n hx hb d_MO_number_141 rfl (lv_at hl 0 rfl) ?_
    refine lv_iconst (v := 1) hx hb d_MO_number_142 (by decide) ?_
    obtain ⟨M47, h48, hf⟩ := px_bind hf
    refine px_rpt hx hb hts cl_MO hown hK hM hS 15 (by decide) (hts _ w_660) rfl rfl rfl h48 d_MO_number_143 (fun H locs hM hS => ?_)
    refine lv_iload hx hb d_MO_number_146 (lv_at hl 4 rfl) ?_
    obtain ⟨rfl, rfl⟩ := px_s2 hf
    exact px_iret hx hb hr hlocks hM hS d_MO_number_148
  · have hf := px_iff hf c44
    refine lv_iload hx hb d_MO_number_107 (lv_at hl 3 rfl) ?_
    refine lv_iconst (v := 3) hx hb d_MO_number_109 (by decide) ?_
    refine lv_icmp_gt (tgt := 136) hx hb d_MO_number_110 (by decide) (fun c49 => ?_) (fun c49 => ?_)
    · have hf := px_ift hf c49
      refine lv_aload_n hx hb d_MO_number_136 rfl (lv_at hl 0 rfl) ?_
      refine lv_iload_n hx hb d_MO_number_137 rfl (lv_at hl 2 rfl) ?_
      obtain ⟨M50, h51, hf⟩ := px_bind hf
      refine px_rpt hx hb hts cl_MO hown hK hM hS 14 (by decide) (hts _ w_659) rfl rfl rfl h51 d_MO_number_138 (fun H locs hM hS => ?_)
      refine lv_aload_n hx hb d_MO_number_141 rfl (lv_at hl 0 rfl) ?_
      refine lv_iconst (v := 1) hx hb d_MO_number_142 (by decide) ?_
      obtain ⟨M52, h53, hf⟩ := px_bind hf
      refine px_rpt hx hb hts cl_MO hown hK hM hS 15 (by decide) (hts _ w_660) rfl rfl rfl h53 d_MO_number_143 (fun H locs hM hS => ?_)
      refine lv_iload hx hb d_MO_number_146 (lv_at hl 4 rfl) ?_
      obtain ⟨rfl, rfl⟩ := px_s2 hf
      exact px_iret hx hb hr hlocks hM hS d_MO_number_148
    · have hf := px_iff hf c49
      refine lv_iload hx hb d_MO_number_113 (lv_at hl 3 rfl) ?_
      refine lv_iconst (v := 1) hx hb d_MO_number_115 (by decide) ?_
      refine lv_icmp_le (tgt := 130) hx hb d_MO_number_116 (by decide) (fun c54 => ?_) (fun c54 => ?_)
      · have hf := px_ift hf c54
        refine lv_iload hx hb d_MO_number_130 (lv_at hl 4 rfl) ?_
        refine lv_iload_n hx hb d_MO_number_132 rfl (lv_at hl 1 rfl) ?_
        refine lv_icmp_ge (tgt := 146) hx hb d_MO_number_133 (by decide) (fun c55 => ?_) (fun c55 => ?_)
        · have hf := px_ift hf c55
          refine lv_iload hx hb d_MO_number_146 (lv_at hl 4 rfl) ?_
          obtain ⟨rfl, rfl⟩ := px_s2 hf
          exact px_iret hx hb hr hlocks hM hS d_MO_number_148
        · have hf := px_iff hf c55
          refine lv_aload_n hx hb d_MO_number_136 rfl (lv_at hl 0 rfl) ?_
          refine lv_iload_n hx hb d_MO_number_137 rfl (lv_at hl 2 rfl) ?_
          obtain ⟨M56, h57, hf⟩ := px_bind hf
          refine px_rpt hx hb hts cl_MO hown hK hM hS 14 (by decide) (hts _ w_659) rfl rfl rfl h57 d_MO_number_138 (fun H locs hM hS => ?_)
          refine lv_aload_n hx hb d_MO_number_141 rfl (lv_at hl 0 rfl) ?_
          refine lv_iconst (v := 1) hx hb d_MO_number_142 (by decide) ?_
          obtain ⟨M58, h59, hf⟩ := px_bind hf
          refine px_rpt hx hb hts cl_MO hown hK hM hS 15 (by decide) (hts _ w_660) rfl rfl rfl h59 d_MO_number_143 (fun H locs hM hS => ?_)
          refine lv_iload hx hb d_MO_number_146 (lv_at hl 4 rfl) ?_
          obtain ⟨rfl, rfl⟩ := px_s2 hf
          exact px_iret hx hb hr hlocks hM hS d_MO_number_148
      · have hf := px_iff hf c54
        refine lv_aload_n hx hb d_MO_number_119 rfl (lv_at hl 0 rfl) ?_
        obtain ⟨t60, h61, hf⟩ := px_bind hf
        refine px_rgr hx hb hts cl_MO hown hK hM 1 (by decide) (hts _ w_646) h61 d_MO_number_120 ?_
        refine lv_iload_n hx hb d_MO_number_123 rfl (lv_at hl 2 rfl) ?_
        obtain ⟨v62, h63, hf⟩ := px_bind hf
        refine px_rai hx hb hK hM 0 rfl h63 d_MO_number_124 ?_
        refine lv_bipush (v := 48) hx hb d_MO_number_125 (by decide) ?_
        refine lv_icmp_eq (tgt := 136) hx hb d_MO_number_127 (by decide) (fun c64 => ?_) (fun c64 => ?_)
        · have hf := px_ift hf c64
          refine lv_aload_n hx hb d_MO_number_136 rfl (lv_at hl 0 rfl) ?_
          refine lv_iload_n hx hb d_MO_number_137 rfl (lv_at hl 2 rfl) ?_
          obtain ⟨M65, h66, hf⟩ := px_bind hf
          refine px_rpt hx hb hts cl_MO hown hK hM hS 14 (by decide) (hts _ w_659) rfl rfl rfl h66 d_MO_number_138 (fun H locs hM hS => ?_)
          refine lv_aload_n hx hb d_MO_number_141 rfl (lv_at hl 0 rfl) ?_
          refine lv_iconst (v := 1) hx hb d_MO_number_142 (by decide) ?_
          obtain ⟨M67, h68, hf⟩ := px_bind hf
          refine px_rpt hx hb hts cl_MO hown hK hM hS 15 (by decide) (hts _ w_660) rfl rfl rfl h68 d_MO_number_143 (fun H locs hM hS => ?_)
          refine lv_iload hx hb d_MO_number_146 (lv_at hl 4 rfl) ?_
          obtain ⟨rfl, rfl⟩ := px_s2 hf
          exact px_iret hx hb hr hlocks hM hS d_MO_number_148
        · have hf := px_iff hf c64
          refine lv_iload hx hb d_MO_number_130 (lv_at hl 4 rfl) ?_
          refine lv_iload_n hx hb d_MO_number_132 rfl (lv_at hl 1 rfl) ?_
          refine lv_icmp_ge (tgt := 146) hx hb d_MO_number_133 (by decide) (fun c69 => ?_) (fun c69 => ?_)
          · have hf := px_ift hf c69
            refine lv_iload hx hb d_MO_number_146 (lv_at hl 4 rfl) ?_
            obtain ⟨rfl, rfl⟩ := px_s2 hf
            exact px_iret hx hb hr hlocks hM hS d_MO_number_148
          · have hf := px_iff hf c69
            refine lv_aload_n hx hb d_MO_number_136 rfl (lv_at hl 0 rfl) ?_
            refine lv_iload_n hx hb d_MO_number_137 rfl (lv_at hl 2 rfl) ?_
            obtain ⟨M70, h71, hf⟩ := px_bind hf
            refine px_rpt hx hb hts cl_MO hown hK hM hS 14 (by decide) (hts _ w_659) rfl rfl rfl h71 d_MO_number_138 (fun H locs hM hS => ?_)
            refine lv_aload_n hx hb d_MO_number_141 rfl (lv_at hl 0 rfl) ?_
            refine lv_iconst (v := 1) hx hb d_MO_number_142 (by decide) ?_
            obtain ⟨M72, h73, hf⟩ := px_bind hf
            refine px_rpt hx hb hts cl_MO hown hK hM hS 15 (by decide) (hts _ w_660) rfl rfl rfl h73 d_MO_number_143 (fun H locs hM hS => ?_)
            refine lv_iload hx hb d_MO_number_146 (lv_at hl 4 rfl) ?_
            obtain ⟨rfl, rfl⟩ := px_s2 hf
            exact px_iret hx hb hr hlocks hM hS d_MO_number_148
def f_MO_readHeights_L7 : Nat → Nat → Int32 → px_M → Option (((Unit) ⊕ Unit) × px_M)
  | 0, _, _, _ => none
  | n + 1, o0, x1, M =>
    if x1 = 0 then
    some (.inl (), M)
    else
    (px_gi 11 15 M o0).bind fun v224 =>
    if v224 = 0 then
    (px_ob 11 M o0).bind fun _ =>
    (f_MO_look o0 M).bind fun (v229, M227) =>
    (px_gi 11 14 M227 o0).bind fun v230 =>
    (px_gi 11 8 M227 o0).bind fun v232 =>
    if v232 = 5 then
    (px_pt 11 15 M227 o0 (.int 1)).bind fun M440 =>
    some (.inr (), M440)
    else
    (px_ob 11 M227 o0).bind fun _ =>
    (f_MO_number o0 1 M227).bind fun (v237, M235) =>
    (px_gi 11 15 M235 o0).bind fun v238 =>
    if v238 = 0 then
    (px_gi 11 8 M235 o0).bind fun v287 =>
    if v287 ≤ 0 then
    (px_gi 11 15 M235 o0).bind fun v290 =>
    if v290 = 0 then
    (px_gr 11 9 M235 o0).bind fun t293 =>
    (px_gi 11 8 M235 o0).bind fun v295 =>
    (px_si 0 M235 t293 v295 v237).bind fun M297 =>
    (px_gr 11 10 M297 o0).bind fun t299 =>
    (px_gi 11 8 M297 o0).bind fun v301 =>
    (px_ob 11 M297 o0).bind fun _ =>
    (f_MO_number o0 1 M297).bind fun (v305, M303) =>
    (px_si 0 M303 t299 v301 v305).bind fun M306 =>
    (px_gi 11 8 M306 o0).bind fun v308 =>
    (px_pt 11 8 M306 o0 (.int (v308 + 1))).bind fun M310 =>
    (px_gi 11 15 M310 o0).bind fun v312 =>
    if v312 = 0 then
    (px_ob 11 M310 o0).bind fun _ =>
    (f_MO_look o0 M310).bind fun (v322, M320) =>
    if v322 = 44 then
    (px_gi 11 14 M320 o0).bind fun v329 =>
    (px_pt 11 14 M320 o0 (.int (v329 + 1))).bind fun M332 =>
    f_MO_readHeights_L7 n o0 1 M332
    else
    (px_gi 11 14 M320 o0).bind fun v324 =>
    (px_pt 11 14 M320 o0 (.int (v324 + 0))).bind fun M327 =>
    f_MO_readHeights_L7 n o0 0 M327
    else
    (px_gi 11 14 M310 o0).bind fun v315 =>
    (px_pt 11 14 M310 o0 (.int (v315 + 0))).bind fun M318 =>
    f_MO_readHeights_L7 n o0 0 M318
    else
    some (.inr (), M235)
    else
    (px_gr 11 9 M235 o0).bind fun t336 =>
    (px_gi 11 8 M235 o0).bind fun v338 =>
    (px_ai 0 M235 t336 (v338 - 1)).bind fun v340 =>
    if v340 < v237 then
    (px_gi 11 15 M235 o0).bind fun v343 =>
    if v343 = 0 then
    (px_gr 11 9 M235 o0).bind fun t346 =>
    (px_gi 11 8 M235 o0).bind fun v348 =>
    (px_si 0 M235 t346 v348 v237).bind fun M350 =>
    (px_gr 11 10 M350 o0).bind fun t352 =>
    (px_gi 11 8 M350 o0).bind fun v354 =>
    (px_ob 11 M350 o0).bind fun _ =>
    (f_MO_number o0 1 M350).bind fun (v358, M356) =>
    (px_si 0 M356 t352 v354 v358).bind fun M359 =>
    (px_gi 11 8 M359 o0).bind fun v361 =>
    (px_pt 11 8 M359 o0 (.int (v361 + 1))).bind fun M363 =>
    (px_gi 11 15 M363 o0).bind fun v365 =>
    if v365 = 0 then
    (px_ob 11 M363 o0).bind fun _ =>
    (f_MO_look o0 M363).bind fun (v375, M373) =>
    if v375 = 44 then
    (px_gi 11 14 M373 o0).bind fun v382 =>
    (px_pt 11 14 M373 o0 (.int (v382 + 1))).bind fun M385 =>
    f_MO_readHeights_L7 n o0 1 M385
    else
    (px_gi 11 14 M373 o0).bind fun v377 =>
    (px_pt 11 14 M373 o0 (.int (v377 + 0))).bind fun M380 =>
    f_MO_readHeights_L7 n o0 0 M380
    else
    (px_gi 11 14 M363 o0).bind fun v368 =>
    (px_pt 11 14 M363 o0 (.int (v368 + 0))).bind fun M371 =>
    f_MO_readHeights_L7 n o0 0 M371
    else
    some (.inr (), M235)
    else
    (px_pt 11 14 M235 o0 (.int v230)).bind fun M389 =>
    (px_pt 11 15 M389 o0 (.int 1)).bind fun M391 =>
    (px_gi 11 15 M391 o0).bind fun v393 =>
    if v393 = 0 then
    (px_gr 11 9 M391 o0).bind fun t396 =>
    (px_gi 11 8 M391 o0).bind fun v398 =>
    (px_si 0 M391 t396 v398 v237).bind fun M400 =>
    (px_gr 11 10 M400 o0).bind fun t402 =>
    (px_gi 11 8 M400 o0).bind fun v404 =>
    (px_ob 11 M400 o0).bind fun _ =>
    (f_MO_number o0 1 M400).bind fun (v408, M406) =>
    (px_si 0 M406 t402 v404 v408).bind fun M409 =>
    (px_gi 11 8 M409 o0).bind fun v411 =>
    (px_pt 11 8 M409 o0 (.int (v411 + 1))).bind fun M413 =>
    (px_gi 11 15 M413 o0).bind fun v415 =>
    if v415 = 0 then
    (px_ob 11 M413 o0).bind fun _ =>
    (f_MO_look o0 M413).bind fun (v425, M423) =>
    if v425 = 44 then
    (px_gi 11 14 M423 o0).bind fun v432 =>
    (px_pt 11 14 M423 o0 (.int (v432 + 1))).bind fun M435 =>
    f_MO_readHeights_L7 n o0 1 M435
    else
    (px_gi 11 14 M423 o0).bind fun v427 =>
    (px_pt 11 14 M423 o0 (.int (v427 + 0))).bind fun M430 =>
    f_MO_readHeights_L7 n o0 0 M430
    else
    (px_gi 11 14 M413 o0).bind fun v418 =>
    (px_pt 11 14 M413 o0 (.int (v418 + 0))).bind fun M421 =>
    f_MO_readHeights_L7 n o0 0 M421
    else
    some (.inr (), M391)
    else
    (px_gi 11 15 M235 o0).bind fun v241 =>
    if v241 = 0 then
    (px_gr 11 9 M235 o0).bind fun t244 =>
    (px_gi 11 8 M235 o0).bind fun v246 =>
    (px_si 0 M235 t244 v246 v237).bind fun M248 =>
    (px_gr 11 10 M248 o0).bind fun t250 =>
    (px_gi 11 8 M248 o0).bind fun v252 =>
    (px_ob 11 M248 o0).bind fun _ =>
    (f_MO_number o0 1 M248).bind fun (v256, M254) =>
    (px_si 0 M254 t250 v252 v256).bind fun M257 =>
    (px_gi 11 8 M257 o0).bind fun v259 =>
    (px_pt 11 8 M257 o0 (.int (v259 + 1))).bind fun M261 =>
    (px_gi 11 15 M261 o0).bind fun v263 =>
    if v263 = 0 then
    (px_ob 11 M261 o0).bind fun _ =>
    (f_MO_look o0 M261).bind fun (v273, M271) =>
    if v273 = 44 then
    (px_gi 11 14 M271 o0).bind fun v280 =>
    (px_pt 11 14 M271 o0 (.int (v280 + 1))).bind fun M283 =>
    f_MO_readHeights_L7 n o0 1 M283
    else
    (px_gi 11 14 M271 o0).bind fun v275 =>
    (px_pt 11 14 M271 o0 (.int (v275 + 0))).bind fun M278 =>
    f_MO_readHeights_L7 n o0 0 M278
    else
    (px_gi 11 14 M261 o0).bind fun v266 =>
    (px_pt 11 14 M261 o0 (.int (v266 + 0))).bind fun M269 =>
    f_MO_readHeights_L7 n o0 0 M269
    else
    some (.inr (), M235)
    else
    some (.inl (), M)
set_option maxHeartbeats 4000000 in
set_option maxRecDepth 100000 in
theorem lp_MO_readHeights_L7 {p : Program} {l : Launch} {e : Env} {s : State} {m : MethodId} {args : Array Value} {below : List Frame} {meth : Method} {c : Code} {bs : Nat} {D : va_G} {G : Nat → ClassId} {Q : State → Prop} (C0 : px_At p s m meth c y_MO_readHeights b_MO_readHeights 5 none args D px_cl (px_tys G) px_nw px_over) (x : (Unit) ⊕ Unit) (M' : px_M) (o0 : Nat) (kx : ∀ u, x = .inl u → ∀ (H : Heap) (locs : List Loc) (ls : Array Slot), px_W bs D px_cl (px_tys G) M' H → va_S (fun q => bs ≤ q) s.heap H locs → lv_has ls 5 [] → W p l e ⟨2, 0, 0, 45⟩ s m args below meth c H locs 0 0 Q (F0 m 175 ls [])) (kr : ∀ r, x = .inr r → ∀ (H : Heap) (locs : List Loc) (ls : Array Slot) (pc : Nat), decode b_MO_readHeights pc = .ok (.return_, 1) → px_W bs D px_cl (px_tys G) M' H → va_S (fun q => bs ≤ q) s.heap H locs → W p l e ⟨2, 0, 0, 45⟩ s m args below meth c H locs 0 0 Q (F0 m pc ls [])) : ∀ (n : Nat) (x1 : Int32) (M : px_M), f_MO_readHeights_L7 n o0 x1 M = some (x, M') → ∀ (H : Heap) (locs : List Loc) (ls : Array Slot), px_W bs D px_cl (px_tys G) M H → va_S (fun q => bs ≤ q) s.heap H locs → lv_has ls 5 [(0, .ref o0), (1, .int x1)] → W p l e ⟨2, 0, 0, 45⟩ s m args below meth c H locs 0 0 Q (F0 m 7 ls []) := by
  obtain ⟨hx, hb, hr, hml, hown, hnm, hlocks, hts, hK, hN, hO⟩ := C0
  intro n
  induction n with
  | zero => intro x1 M hf; cases hf
  | succ n ih =>
    intro x1 M hf H locs ls hM hS hl
    unfold f_MO_readHeights_L7 at hf
    refine lv_iload_n hx hb d_MO_readHeights_7 rfl (lv_at hl 1 rfl) ?_
    refine lv_if_eq (tgt := 175) hx hb d_MO_readHeights_8 (by decide) (fun c223 => ?_) (fun c223 => ?_)
    · have hf := px_ift hf c223
      obtain ⟨rfl, rfl⟩ := px_s2 hf
      exact kx _ rfl _ _ _ hM hS (lv_sub hl [] rfl)
    · have hf := px_iff hf c223
      refine lv_aload_n hx hb d_MO_readHeights_11 rfl (lv_at hl 0 rfl) ?_
      obtain ⟨v224, h225, hf⟩ := px_bind hf
      refine px_rgi hx hb hts cl_MO hown hK hM 15 (by decide) (hts _ w_660) h225 d_MO_readHeights_12 ?_
      refine lv_if_ne (tgt := 175) hx hb d_MO_readHeights_15 (by decide) (fun c226 => ?_) (fun c226 => ?_)
      · have hf := px_iff hf c226
        obtain ⟨rfl, rfl⟩ := px_s2 hf
        exact kx _ rfl _ _ _ hM hS (lv_sub hl [] rfl)
      · have hf := px_ift hf c226
        refine lv_aload_n hx hb d_MO_readHeights_18 rfl (lv_at hl 0 rfl) ?_
        obtain ⟨_, h442, hf⟩ := px_bind hf
        obtain ⟨⟨v229, M227⟩, h228, hf⟩ := px_bind hf
        dsimp only at hf
        refine px_calli (va_runV (As := []) (rest := []) ⟨hx, hb, hml, hown, hts⟩ (c_MO_look l bs D G o0 M h228) (cwV 0 hts (px_gV w_783 w_785 ws_MO_look w_12 w_786) rfl rfl rfl (by decide +kernel) ⟨Nat.le_of_ble_eq_true rfl, Nat.le_of_ble_eq_true rfl⟩) (px_preV px_nwok hK hN hO hM h442 rfl) rfl rfl hl.1 rfl (lv_room (Nat.le_of_ble_eq_true rfl)) d_MO_readHeights_19 ⟨Nat.le_of_ble_eq_true rfl, Nat.le_of_ble_eq_true rfl⟩) hS (fun H locs hM hS => ?_)
        refine lv_istore_n (lv' := [(2, .int v229), (0, .ref o0), (1, .int x1)]) hx hb d_MO_readHeights_22 rfl hl (by decide) rfl (fun ls hl => ?_)
        refine lv_aload_n hx hb d_MO_readHeights_23 rfl (lv_at hl 1 rfl) ?_
        obtain ⟨v230, h231, hf⟩ := px_bind hf
        refine px_rgi hx hb hts cl_MO hown hK hM 14 (by decide) (hts _ w_659) h231 d_MO_readHeights_24 ?_
        refine lv_istore_n (lv' := [(3, .int v230), (2, .int v229), (0, .ref o0), (1, .int x1)]) hx hb d_MO_readHeights_27 rfl hl (by decide) rfl (fun ls hl => ?_)
        refine lv_aload_n hx hb d_MO_readHeights_28 rfl (lv_at hl 2 rfl) ?_
        obtain ⟨v232, h233, hf⟩ := px_bind hf
        refine px_rgi hx hb hts cl_MO hown hK hM 8 (by decide) (hts _ w_653) h233 d_MO_readHeights_29 ?_
        refine lv_iconst (v := 5) hx hb d_MO_readHeights_32 (by decide) ?_
        refine lv_icmp_ne (tgt := 42) hx hb d_MO_readHeights_33 (by decide) (fun c234 => ?_) (fun c234 => ?_)
        · have hf := px_iff hf c234
          refine lv_aload_n hx hb d_MO_readHeights_42 rfl (lv_at hl 2 rfl) ?_
          refine lv_iconst (v := 1) hx hb d_MO_readHeights_43 (by decide) ?_
          obtain ⟨_, h439, hf⟩ := px_bind hf
          obtain ⟨⟨v237, M235⟩, h236, hf⟩ := px_bind hf
          dsimp only at hf
          refine px_calli (va_runV (As := [.int 1]) (rest := []) ⟨hx, hb, hml, hown, hts⟩ (c_MO_number l bs D G o0 1 M227 h236) (cwV 1 hts (px_gV w_795 w_797 ws_MO_number w_12 w_798) rfl rfl rfl (by decide +kernel) ⟨Nat.le_of_ble_eq_true rfl, Nat.le_of_ble_eq_true rfl⟩) (px_preV px_nwok hK hN hO hM h439 rfl) rfl rfl hl.1 rfl (lv_room (Nat.le_of_ble_eq_true rfl)) d_MO_readHeights_44 ⟨Nat.le_of_ble_eq_true rfl, Nat.le_of_ble_eq_true rfl⟩) hS (fun H locs hM hS => ?_)
          refine lv_istore (lv' := [(4, .int v237), (3, .int v230), (2, .int v229), (0, .ref o0), (1, .int x1)]) hx hb d_MO_readHeights_47 hl (by decide) rfl (fun ls hl => ?_)
          refine lv_aload_n hx hb d_MO_readHeights_49 rfl (lv_at hl 3 rfl) ?_
          obtain ⟨v238, h239, hf⟩ := px_bind hf
          refine px_rgi hx hb hts cl_MO hown hK hM 15 (by decide) (hts _ w_660) h239 d_MO_readHeights_50 ?_
          refine lv_if_ne (tgt := 89) hx hb d_MO_readHeights_53 (by decide) (fun c240 => ?_) (fun c240 => ?_)
          · have hf := px_iff hf c240
            refine lv_aload_n hx hb d_MO_readHeights_89 rfl (lv_at hl 3 rfl) ?_
            obtain ⟨v241, h242, hf⟩ := px_bind hf
            refine px_rgi hx hb hts cl_MO hown hK hM 15 (by decide) (hts _ w_660) h242 d_MO_readHeights_90 ?_
            refine lv_if_eq (tgt := 97) hx hb d_MO_readHeights_93 (by decide) (fun c243 => ?_) (fun c243 => ?_)
            · have hf := px_ift hf c243
              refine lv_aload_n hx hb d_MO_readHeights_97 rfl (lv_at hl 3 rfl) ?_
              obtain ⟨t244, h245, hf⟩ := px_bind hf
              refine px_rgr hx hb hts cl_MO hown hK hM 9 (by decide) (hts _ w_654) h245 d_MO_readHeights_98 ?_
              refine lv_aload_n hx hb d_MO_readHeights_101 rfl (lv_at hl 3 rfl) ?_
              obtain ⟨v246, h247, hf⟩ := px_bind hf
              refine px_rgi hx hb hts cl_MO hown hK hM 8 (by decide) (hts _ w_653) h247 d_MO_readHeights_102 ?_
              refine lv_iload hx hb d_MO_readHeights_105 (lv_at hl 0 rfl) ?_
              obtain ⟨M248, h249, hf⟩ := px_bind hf
              refine px_rsi hx hb hK hM hS 0 rfl h249 d_MO_readHeights_107 (fun H locs hM hS => ?_)
              refine lv_aload_n hx hb d_MO_readHeights_108 rfl (lv_at hl 3 rfl) ?_
              obtain ⟨t250, h251, hf⟩ := px_bind hf
              refine px_rgr hx hb hts cl_MO hown hK hM 10 (by decide) (hts _ w_655) h251 d_MO_readHeights_109 ?_
              refine lv_aload_n hx hb d_MO_readHeights_112 rfl (lv_at hl 3 rfl) ?_
              obtain ⟨v252, h253, hf⟩ := px_bind hf
              refine px_rgi hx hb hts cl_MO hown hK hM 8 (by decide) (hts _ w_653) h253 d_MO_readHeights_113 ?_
              refine lv_aload_n hx hb d_MO_readHeights_116 rfl (lv_at hl 3 rfl) ?_
              refine lv_iconst (v := 1) hx hb d_MO_readHeights_117 (by decide) ?_
              obtain ⟨_, h286, hf⟩ := px_bind hf
              obtain ⟨⟨v256, M254⟩, h255, hf⟩ := px_bind hf
              dsimp only at hf
              refine px_calli (va_runV (As := [.int 1]) (rest := [.int v252, .ref t250]) ⟨hx, hb, hml, hown, hts⟩ (c_MO_number l bs D G o0 1 M248 h255) (cwV 1 hts (px_gV w_795 w_797 ws_MO_number w_12 w_798) rfl rfl rfl (by decide +kernel) ⟨Nat.le_of_ble_eq_true rfl, Nat.le_of_ble_eq_true rfl⟩) (px_preV px_nwok hK hN hO hM h286 rfl) rfl rfl hl.1 rfl (lv_room (Nat.le_of_ble_eq_true rfl)) d_MO_readHeights_118 ⟨Nat.le_of_ble_eq_true rfl, Nat.le_of_ble_eq_true rfl⟩) hS (fun H locs hM hS => ?_)
              obtain ⟨M257, h258, hf⟩ := px_bind hf
              refine px_rsi hx hb hK hM hS 0 rfl h258 d_MO_readHeights_121 (fun H locs hM hS => ?_)
              refine lv_aload_n hx hb d_MO_readHeights_122 rfl (lv_at hl 3 rfl) ?_
              refine lv_dup hx hb d_MO_readHeights_123 rfl ?_
              obtain ⟨v259, h260, hf⟩ := px_bind hf
              refine px_rgi hx hb hts cl_MO hown hK hM 8 (by decide) (hts _ w_653) h260 d_MO_readHeights_124 ?_
              refine lv_iconst (v := 1) hx hb d_MO_readHeights_127 (by decide) ?_
              refine lv_iadd hx hb d_MO_readHeights_128 ?_
              obtain ⟨M261, h262, hf⟩ := px_bind hf
              refine px_rpt hx hb hts cl_MO hown hK hM hS 8 (by decide) (hts _ w_653) rfl rfl rfl h262 d_MO_readHeights_129 (fun H locs hM hS => ?_)
              refine lv_aload_n hx hb d_MO_readHeights_132 rfl (lv_at hl 3 rfl) ?_
              obtain ⟨v263, h264, hf⟩ := px_bind hf
              refine px_rgi hx hb hts cl_MO hown hK hM 15 (by decide) (hts _ w_660) h264 d_MO_readHeights_133 ?_
              refine lv_if_ne (tgt := 152) hx hb d_MO_readHeights_136 (by decide) (fun c265 => ?_) (fun c265 => ?_)
              · have hf := px_iff hf c265
                refine lv_iconst (v := 0) hx hb d_MO_readHeights_152 (by decide) ?_
                refine lv_istore_n (lv' := [(1, .int 0), (4, .int v237), (3, .int v230), (2, .int v229), (0, .ref o0)]) hx hb d_MO_readHeights_153 rfl hl (by decide) rfl (fun ls hl => ?_)
                refine lv_aload_n hx hb d_MO_readHeights_154 rfl (lv_at hl 4 rfl) ?_
                refine lv_dup hx hb d_MO_readHeights_155 rfl ?_
                obtain ⟨v266, h267, hf⟩ := px_bind hf
                refine px_rgi hx hb hts cl_MO hown hK hM 14 (by decide) (hts _ w_659) h267 d_MO_readHeights_156 ?_
                refine lv_iload_n hx hb d_MO_readHeights_159 rfl (lv_at hl 0 rfl) ?_
                refine lv_if_eq (tgt := 167) hx hb d_MO_readHeights_160 (by decide) (fun c268 => ?_) (fun c268 => False.elim (by revert c268; decide))
                refine lv_iconst (v := 0) hx hb d_MO_readHeights_167 (by decide) ?_
                refine lv_iadd hx hb d_MO_readHeights_168 ?_
                obtain ⟨M269, h270, hf⟩ := px_bind hf
                refine px_rpt hx hb hts cl_MO hown hK hM hS 14 (by decide) (hts _ w_659) rfl rfl rfl h270 d_MO_readHeights_169 (fun H locs hM hS => ?_)
                refine lv_goto (tgt := 7) hx hb d_MO_readHeights_172 (by decide) ?_
                exact ih 0 M269 hf _ _ _ hM hS (lv_sub hl [4, 0] rfl)
              · have hf := px_ift hf c265
                refine lv_aload_n hx hb d_MO_readHeights_139 rfl (lv_at hl 3 rfl) ?_
                obtain ⟨_, h285, hf⟩ := px_bind hf
                obtain ⟨⟨v273, M271⟩, h272, hf⟩ := px_bind hf
                dsimp only at hf
                refine px_calli (va_runV (As := []) (rest := []) ⟨hx, hb, hml, hown, hts⟩ (c_MO_look l bs D G o0 M261 h272) (cwV 0 hts (px_gV w_783 w_785 ws_MO_look w_12 w_786) rfl rfl rfl (by decide +kernel) ⟨Nat.le_of_ble_eq_true rfl, Nat.le_of_ble_eq_true rfl⟩) (px_preV px_nwok hK hN hO hM h285 rfl) rfl rfl hl.1 rfl (lv_room (Nat.le_of_ble_eq_true rfl)) d_MO_readHeights_140 ⟨Nat.le_of_ble_eq_true rfl, Nat.le_of_ble_eq_true rfl⟩) hS (fun H locs hM hS => ?_)
                refine lv_bipush (v := 44) hx hb d_MO_readHeights_143 (by decide) ?_
                refine lv_icmp_ne (tgt := 152) hx hb d_MO_readHeights_145 (by decide) (fun c274 => ?_) (fun c274 => ?_)
                · have hf := px_iff hf c274
                  refine lv_iconst (v := 0) hx hb d_MO_readHeights_152 (by decide) ?_
                  refine lv_istore_n (lv' := [(1, .int 0), (4, .int v237), (3, .int v230), (2, .int v229), (0, .ref o0)]) hx hb d_MO_readHeights_153 rfl hl (by decide) rfl (fun ls hl => ?_)
                  refine lv_aload_n hx hb d_MO_readHeights_154 rfl (lv_at hl 4 rfl) ?_
                  refine lv_dup hx hb d_MO_readHeights_155 rfl ?_
                  obtain ⟨v275, h276, hf⟩ := px_bind hf
                  refine px_rgi hx hb hts cl_MO hown hK hM 14 (by decide) (hts _ w_659) h276 d_MO_readHeights_156 ?_
                  refine lv_iload_n hx hb d_MO_readHeights_159 rfl (lv_at hl 0 rfl) ?_
                  refine lv_if_eq (tgt := 167) hx hb d_MO_readHeights_160 (by decide) (fun c277 => ?_) (fun c277 => False.elim (by revert c277; decide))
                  refine lv_iconst (v := 0) hx hb d_MO_readHeights_167 (by decide) ?_
                  refine lv_iadd hx hb d_MO_readHeights_168 ?_
                  obtain ⟨M278, h279, hf⟩ := px_bind hf
                  refine px_rpt hx hb hts cl_MO hown hK hM hS 14 (by decide) (hts _ w_659) rfl rfl rfl h279 d_MO_readHeights_169 (fun H locs hM hS => ?_)
                  refine lv_goto (tgt := 7) hx hb d_MO_readHeights_172 (by decide) ?_
                  exact ih 0 M278 hf _ _ _ hM hS (lv_sub hl [4, 0] rfl)
                · have hf := px_ift hf c274
                  refine lv_iconst (v := 1) hx hb d_MO_readHeights_148 (by decide) ?_
                  refine lv_goto (tgt := 153) hx hb d_MO_readHeights_149 (by decide) ?_
                  refine lv_istore_n (lv' := [(1, .int 1), (4, .int v237), (3, .int v230), (2, .int v229), (0, .ref o0)]) hx hb d_MO_readHeights_153 rfl hl (by decide) rfl (fun ls hl => ?_)
                  refine lv_aload_n hx hb d_MO_readHeights_154 rfl (lv_at hl 4 rfl) ?_
                  refine lv_dup hx hb d_MO_readHeights_155 rfl ?_
                  obtain ⟨v280, h281, hf⟩ := px_bind hf
                  refine px_rgi hx hb hts cl_MO hown hK hM 14 (by decide) (hts _ w_659) h281 d_MO_readHeights_156 ?_
                  refine lv_iload_n hx hb d_MO_readHeights_159 rfl (lv_at hl 0 rfl) ?_
                  refine lv_if_eq (tgt := 167) hx hb d_MO_readHeights_160 (by decide) (fun c282 => False.elim (by revert c282; decide)) (fun c282 => ?_)
                  refine lv_iconst (v := 1) hx hb d_MO_readHeights_163 (by decide) ?_
                  refine lv_goto (tgt := 168) hx hb d_MO_readHeights_164 (by decide) ?_
                  refine lv_iadd hx hb d_MO_readHeights_168 ?_
                  obtain ⟨M283, h284, hf⟩ := px_bind hf
                  refine px_rpt hx hb hts cl_MO hown hK hM hS 14 (by decide) (hts _ w_659) rfl rfl rfl h284 d_MO_readHeights_169 (fun H locs hM hS => ?_)
                  refine lv_goto (tgt := 7) hx hb d_MO_readHeights_172 (by decide) ?_
                  exact ih 1 M283 hf _ _ _ hM hS (lv_sub hl [4, 0] rfl)
            · have hf := px_iff hf c243
              obtain ⟨rfl, rfl⟩ := px_s2 hf
              exact kr _ rfl _ _ _ _ d_MO_readHeights_96 hM hS
          · have hf := px_ift hf c240
            refine lv_aload_n hx hb d_MO_readHeights_56 rfl (lv_at hl 3 rfl) ?_
            obtain ⟨v287, h288, hf⟩ := px_bind hf
            refine px_rgi hx hb hts cl_MO hown hK hM 8 (by decide) (hts _ w_653) h288 d_MO_readHeights_57 ?_
            refine lv_if_le (tgt := 89) hx hb d_MO_readHeights_60 (by decide) (fun c289 => ?_) (fun c289 => ?_)
            · have hf := px_ift hf c289
              refine lv_aload_n hx hb d_MO_readHeights_89 rfl (lv_at hl 3 rfl) ?_
              obtain ⟨v290, h291, hf⟩ := px_bind hf
              refine px_rgi hx hb hts cl_MO hown hK hM 15 (by decide) (hts _ w_660) h291 d_MO_readHeights_90 ?_
              refine lv_if_eq (tgt := 97) hx hb d_MO_readHeights_93 (by decide) (fun c292 => ?_) (fun c292 => ?_)
              · have hf := px_ift hf c292
                refine lv_aload_n hx hb d_MO_readHeights_97 rfl (lv_at hl 3 rfl) ?_
                obtain ⟨t293, h294, hf⟩ := px_bind hf
                refine px_rgr hx hb hts cl_MO hown hK hM 9 (by decide) (hts _ w_654) h294 d_MO_readHeights_98 ?_
                refine lv_aload_n hx hb d_MO_readHeights_101 rfl (lv_at hl 3 rfl) ?_
                obtain ⟨v295, h296, hf⟩ := px_bind hf
                refine px_rgi hx hb hts cl_MO hown hK hM 8 (by decide) (hts _ w_653) h296 d_MO_readHeights_102 ?_
                refine lv_iload hx hb d_MO_readHeights_105 (lv_at hl 0 rfl) ?_
                obtain ⟨M297, h298, hf⟩ := px_bind hf
                refine px_rsi hx hb hK hM hS 0 rfl h298 d_MO_readHeights_107 (fun H locs hM hS => ?_)
                refine lv_aload_n hx hb d_MO_readHeights_108 rfl (lv_at hl 3 rfl) ?_
                obtain ⟨t299, h300, hf⟩ := px_bind hf
                refine px_rgr hx hb hts cl_MO hown hK hM 10 (by decide) (hts _ w_655) h300 d_MO_readHeights_109 ?_
                refine lv_aload_n hx hb d_MO_readHeights_112 rfl (lv_at hl 3 rfl) ?_
                obtain ⟨v301, h302, hf⟩ := px_bind hf
                refine px_rgi hx hb hts cl_MO hown hK hM 8 (by decide) (hts _ w_653) h302 d_MO_readHeights_113 ?_
                refine lv_aload_n hx hb d_MO_readHeights_116 rfl (lv_at hl 3 rfl) ?_
                refine lv_iconst (v := 1) hx hb d_MO_readHeights_117 (by decide) ?_
                obtain ⟨_, h335, hf⟩ := px_bind hf
                obtain ⟨⟨v305, M303⟩, h304, hf⟩ := px_bind hf
                dsimp only at hf
                refine px_calli (va_runV (As := [.int 1]) (rest := [.int v301, .ref t299]) ⟨hx, hb, hml, hown, hts⟩ (c_MO_number l bs D G o0 1 M297 h304) (cwV 1 hts (px_gV w_795 w_797 ws_MO_number w_12 w_798) rfl rfl rfl (by decide +kernel) ⟨Nat.le_of_ble_eq_true rfl, Nat.le_of_ble_eq_true rfl⟩) (px_preV px_nwok hK hN hO hM h335 rfl) rfl rfl hl.1 rfl (lv_room (Nat.le_of_ble_eq_true rfl)) d_MO_readHeights_118 ⟨Nat.le_of_ble_eq_true rfl, Nat.le_of_ble_eq_true rfl⟩) hS (fun H locs hM hS => ?_)
                obtain ⟨M306, h307, hf⟩ := px_bind hf
                refine px_rsi hx hb hK hM hS 0 rfl h307 d_MO_readHeights_121 (fun H locs hM hS => ?_)
                refine lv_aload_n hx hb d_MO_readHeights_122 rfl (lv_at hl 3 rfl) ?_
                refine lv_dup hx hb d_MO_readHeights_123 rfl ?_
                obtain ⟨v308, h309, hf⟩ := px_bind hf
                refine px_rgi hx hb hts cl_MO hown hK hM 8 (by decide) (hts _ w_653) h309 d_MO_readHeights_124 ?_
                refine lv_iconst (v := 1) hx hb d_MO_readHeights_127 (by decide) ?_
                refine lv_iadd hx hb d_MO_readHeights_128 ?_
                obtain ⟨M310, h311, hf⟩ := px_bind hf
                refine px_rpt hx hb hts cl_MO hown hK hM hS 8 (by decide) (hts _ w_653) rfl rfl rfl h311 d_MO_readHeights_129 (fun H locs hM hS => ?_)
                refine lv_aload_n hx hb d_MO_readHeights_132 rfl (lv_at hl 3 rfl) ?_
                obtain ⟨v312, h313, hf⟩ := px_bind hf
                refine px_rgi hx hb hts cl_MO hown hK hM 15 (by decide) (hts _ w_660) h313 d_MO_readHeights_133 ?_
                refine lv_if_ne (tgt := 152) hx hb d_MO_readHeights_136 (by decide) (fun c314 => ?_) (fun c314 => ?_)
                · have hf := px_iff hf c314
                  refine lv_iconst (v := 0) hx hb d_MO_readHeights_152 (by decide) ?_
                  refine lv_istore_n (lv' := [(1, .int 0), (4, .int v237), (3, .int v230), (2, .int v229), (0, .ref o0)]) hx hb d_MO_readHeights_153 rfl hl (by decide) rfl (fun ls hl => ?_)
                  refine lv_aload_n hx hb d_MO_readHeights_154 rfl (lv_at hl 4 rfl) ?_
                  refine lv_dup hx hb d_MO_readHeights_155 rfl ?_
                  obtain ⟨v315, h316, hf⟩ := px_bind hf
                  refine px_rgi hx hb hts cl_MO hown hK hM 14 (by decide) (hts _ w_659) h316 d_MO_readHeights_156 ?_
                  refine lv_iload_n hx hb d_MO_readHeights_159 rfl (lv_at hl 0 rfl) ?_
                  refine lv_if_eq (tgt := 167) hx hb d_MO_readHeights_160 (by decide) (fun c317 => ?_) (fun c317 => False.elim (by revert c317; decide))
                  refine lv_iconst (v := 0) hx hb d_MO_readHeights_167 (by decide) ?_
                  refine lv_iadd hx hb d_MO_readHeights_168 ?_
                  obtain ⟨M318, h319, hf⟩ := px_bind hf
                  refine px_rpt hx hb hts cl_MO hown hK hM hS 14 (by decide) (hts _ w_659) rfl rfl rfl h319 d_MO_readHeights_169 (fun H locs hM hS => ?_)
                  refine lv_goto (tgt := 7) hx hb d_MO_readHeights_172 (by decide) ?_
                  exact ih 0 M318 hf _ _ _ hM hS (lv_sub hl [4, 0] rfl)
                · have hf := px_ift hf c314
                  refine lv_aload_n hx hb d_MO_readHeights_139 rfl (lv_at hl 3 rfl) ?_
                  obtain ⟨_, h334, hf⟩ := px_bind hf
                  obtain ⟨⟨v322, M320⟩, h321, hf⟩ := px_bind hf
                  dsimp only at hf
                  refine px_calli (va_runV (As := []) (rest := []) ⟨hx, hb, hml, hown, hts⟩ (c_MO_look l bs D G o0 M310 h321) (cwV 0 hts (px_gV w_783 w_785 ws_MO_look w_12 w_786) rfl rfl rfl (by decide +kernel) ⟨Nat.le_of_ble_eq_true rfl, Nat.le_of_ble_eq_true rfl⟩) (px_preV px_nwok hK hN hO hM h334 rfl) rfl rfl hl.1 rfl (lv_room (Nat.le_of_ble_eq_true rfl)) d_MO_readHeights_140 ⟨Nat.le_of_ble_eq_true rfl, Nat.le_of_ble_eq_true rfl⟩) hS (fun H locs hM hS => ?_)
                  refine lv_bipush (v := 44) hx hb d_MO_readHeights_143 (by decide) ?_
                  refine lv_icmp_ne (tgt := 152) hx hb d_MO_readHeights_145 (by decide) (fun c323 => ?_) (fun c323 => ?_)
                  · have hf := px_iff hf c323
                    refine lv_iconst (v := 0) hx hb d_MO_readHeights_152 (by decide) ?_
                    refine lv_istore_n (lv' := [(1, .int 0), (4, .int v237), (3, .int v230), (2, .int v229), (0, .ref o0)]) hx hb d_MO_readHeights_153 rfl hl (by decide) rfl (fun ls hl => ?_)
                    refine lv_aload_n hx hb d_MO_readHeights_154 rfl (lv_at hl 4 rfl) ?_
                    refine lv_dup hx hb d_MO_readHeights_155 rfl ?_
                    obtain ⟨v324, h325, hf⟩ := px_bind hf
                    refine px_rgi hx hb hts cl_MO hown hK hM 14 (by decide) (hts _ w_659) h325 d_MO_readHeights_156 ?_
                    refine lv_iload_n hx hb d_MO_readHeights_159 rfl (lv_at hl 0 rfl) ?_
                    refine lv_if_eq (tgt := 167) hx hb d_MO_readHeights_160 (by decide) (fun c326 => ?_) (fun c326 => False.elim (by revert c326; decide))
                    refine lv_iconst (v := 0) hx hb d_MO_readHeights_167 (by decide) ?_
                    refine lv_iadd hx hb d_MO_readHeights_168 ?_
                    obtain ⟨M327, h328, hf⟩ := px_bind hf
                    refine px_rpt hx hb hts cl_MO hown hK hM hS 14 (by decide) (hts _ w_659) rfl rfl rfl h328 d_MO_readHeights_169 (fun H locs hM hS => ?_)
                    refine lv_goto (tgt := 7) hx hb d_MO_readHeights_172 (by decide) ?_
                    exact ih 0 M327 hf _ _ _ hM hS (lv_sub hl [4, 0] rfl)
                  · have hf := px_ift hf c323
                    refine lv_iconst (v := 1) hx hb d_MO_readHeights_148 (by decide) ?_
                    refine lv_goto (tgt := 153) hx hb d_MO_readHeights_149 (by decide) ?_
                    refine lv_istore_n (lv' := [(1, .int 1), (4, .int v237), (3, .int v230), (2, .int v229), (0, .ref o0)]) hx hb d_MO_readHeights_153 rfl hl (by decide) rfl (fun ls hl => ?_)
                    refine lv_aload_n hx hb d_MO_readHeights_154 rfl (lv_at hl 4 rfl) ?_
                    refine lv_dup hx hb d_MO_readHeights_155 rfl ?_
                    obtain ⟨v329, h330, hf⟩ := px_bind hf
                    refine px_rgi hx hb hts cl_MO hown hK hM 14 (by decide) (hts _ w_659) h330 d_MO_readHeights_156 ?_
                    refine lv_iload_n hx hb d_MO_readHeights_159 rfl (lv_at hl 0 rfl) ?_
                    refine lv_if_eq (tgt := 167) hx hb d_MO_readHeights_160 (by decide) (fun c331 => False.elim (by revert c331; decide)) (fun c331 => ?_)
                    refine lv_iconst (v := 1) hx hb d_MO_readHeights_163 (by decide) ?_
                    refine lv_goto (tgt := 168) hx hb d_MO_readHeights_164 (by decide) ?_
                    refine lv_iadd hx hb d_MO_readHeights_168 ?_
                    obtain ⟨M332, h333, hf⟩ := px_bind hf
                    refine px_rpt hx hb hts cl_MO hown hK hM hS 14 (by decide) (hts _ w_659) rfl rfl rfl h333 d_MO_readHeights_169 (fun H locs hM hS => ?_)
                    refine lv_goto (tgt := 7) hx hb d_MO_readHeights_172 (by decide) ?_
                    exact ih 1 M332 hf _ _ _ hM hS (lv_sub hl [4, 0] rfl)
              · have hf := px_iff hf c292
                obtain ⟨rfl, rfl⟩ := px_s2 hf
                exact kr _ rfl _ _ _ _ d_MO_readHeights_96 hM hS
            · have hf := px_iff hf c289
              refine lv_iload hx hb d_MO_readHeights_63 (lv_at hl 0 rfl) ?_
              refine lv_aload_n hx hb d_MO_readHeights_65 rfl (lv_at hl 3 rfl) ?_
              obtain ⟨t336, h337, hf⟩ := px_bind hf
              refine px_rgr hx hb hts cl_MO hown hK hM 9 (by decide) (hts _ w_654) h337 d_MO_readHeights_66 ?_
              refine lv_aload_n hx hb d_MO_readHeights_69 rfl (lv_at hl 3 rfl) ?_
              obtain ⟨v338, h339, hf⟩ := px_bind hf
              refine px_rgi hx hb hts cl_MO hown hK hM 8 (by decide) (hts _ w_653) h339 d_MO_readHeights_70 ?_
              refine lv_iconst (v := 1) hx hb d_MO_readHeights_73 (by decide) ?_
              refine lv_isub hx hb d_MO_readHeights_74 ?_
              obtain ⟨v340, h341, hf⟩ := px_bind hf
              refine px_rai hx hb hK hM 0 rfl h341 d_MO_readHeights_75 ?_
              refine lv_icmp_gt (tgt := 89) hx hb d_MO_readHeights_76 (by decide) (fun c342 => ?_) (fun c342 => ?_)
              · have hf := px_ift hf c342
                refine lv_aload_n hx hb d_MO_readHeights_89 rfl (lv_at hl 3 rfl) ?_
                obtain ⟨v343, h344, hf⟩ := px_bind hf
                refine px_rgi hx hb hts cl_MO hown hK hM 15 (by decide) (hts _ w_660) h344 d_MO_readHeights_90 ?_
                refine lv_if_eq (tgt := 97) hx hb d_MO_readHeights_93 (by decide) (fun c345 => ?_) (fun c345 => ?_)
                · have hf := px_ift hf c345
                  refine lv_aload_n hx hb d_MO_readHeights_97 rfl (lv_at hl 3 rfl) ?_
                  obtain ⟨t346, h347, hf⟩ := px_bind hf
                  refine px_rgr hx hb hts cl_MO hown hK hM 9 (by decide) (hts _ w_654) h347 d_MO_readHeights_98 ?_
                  refine lv_aload_n hx hb d_MO_readHeights_101 rfl (lv_at hl 3 rfl) ?_
                  obtain ⟨v348, h349, hf⟩ := px_bind hf
                  refine px_rgi hx hb hts cl_MO hown hK hM 8 (by decide) (hts _ w_653) h349 d_MO_readHeights_102 ?_
                  refine lv_iload hx hb d_MO_readHeights_105 (lv_at hl 0 rfl) ?_
                  obtain ⟨M350, h351, hf⟩ := px_bind hf
                  refine px_rsi hx hb hK hM hS 0 rfl h351 d_MO_readHeights_107 (fun H locs hM hS => ?_)
                  refine lv_aload_n hx hb d_MO_readHeights_108 rfl (lv_at hl 3 rfl) ?_
                  obtain ⟨t352, h353, hf⟩ := px_bind hf
                  refine px_rgr hx hb hts cl_MO hown hK hM 10 (by decide) (hts _ w_655) h353 d_MO_readHeights_109 ?_
                  refine lv_aload_n hx hb d_MO_readHeights_112 rfl (lv_at hl 3 rfl) ?_
                  obtain ⟨v354, h355, hf⟩ := px_bind hf
                  refine px_rgi hx hb hts cl_MO hown hK hM 8 (by decide) (hts _ w_653) h355 d_MO_readHeights_113 ?_
                  refine lv_aload_n hx hb d_MO_readHeights_116 rfl (lv_at hl 3 rfl) ?_
                  refine lv_iconst (v := 1) hx hb d_MO_readHeights_117 (by decide) ?_
                  obtain ⟨_, h388, hf⟩ := px_bind hf
                  obtain ⟨⟨v358, M356⟩, h357, hf⟩ := px_bind hf
                  dsimp only at hf
                  refine px_calli (va_runV (As := [.int 1]) (rest := [.int v354, .ref t352]) ⟨hx, hb, hml, hown, hts⟩ (c_MO_number l bs D G o0 1 M350 h357) (cwV 1 hts (px_gV w_795 w_797 ws_MO_number w_12 w_798) rfl rfl rfl (by decide +kernel) ⟨Nat.le_of_ble_eq_true rfl, Nat.le_of_ble_eq_true rfl⟩) (px_preV px_nwok hK hN hO hM h388 rfl) rfl rfl hl.1 rfl (lv_room (Nat.le_of_ble_eq_true rfl)) d_MO_readHeights_118 ⟨Nat.le_of_ble_eq_true rfl, Nat.le_of_ble_eq_true rfl⟩) hS (fun H locs hM hS => ?_)
                  obtain ⟨M359, h360, hf⟩ := px_bind hf
                  refine px_rsi hx hb hK hM hS 0 rfl h360 d_MO_readHeights_121 (fun H locs hM hS => ?_)
                  refine lv_aload_n hx hb d_MO_readHeights_122 rfl (lv_at hl 3 rfl) ?_
                  refine lv_dup hx hb d_MO_readHeights_123 rfl ?_
                  obtain ⟨v361, h362, hf⟩ := px_bind hf
                  refine px_rgi hx hb hts cl_MO hown hK hM 8 (by decide) (hts _ w_653) h362 d_MO_readHeights_124 ?_
                  refine lv_iconst (v := 1) hx hb d_MO_readHeights_127 (by decide) ?_
                  refine lv_iadd hx hb d_MO_readHeights_128 ?_
                  obtain ⟨M363, h364, hf⟩ := px_bind hf
                  refine px_rpt hx hb hts cl_MO hown hK hM hS 8 (by decide) (hts _ w_653) rfl rfl rfl h364 d_MO_readHeights_129 (fun H locs hM hS => ?_)
                  refine lv_aload_n hx hb d_MO_readHeights_132 rfl (lv_at hl 3 rfl) ?_
                  obtain ⟨v365, h366, hf⟩ := px_bind hf
                  refine px_rgi hx hb hts cl_MO hown hK hM 15 (by decide) (hts _ w_660) h366 d_MO_readHeights_133 ?_
                  refine lv_if_ne (tgt := 152) hx hb d_MO_readHeights_136 (by decide) (fun c367 => ?_) (fun c367 => ?_)
                  · have hf := px_iff hf c367
                    refine lv_iconst (v := 0) hx hb d_MO_readHeights_152 (by decide) ?_
                    refine lv_istore_n (lv' := [(1, .int 0), (4, .int v237), (3, .int v230), (2, .int v229), (0, .ref o0)]) hx hb d_MO_readHeights_153 rfl hl (by decide) rfl (fun ls hl => ?_)
                    refine lv_aload_n hx hb d_MO_readHeights_154 rfl (lv_at hl 4 rfl) ?_
                    refine lv_dup hx hb d_MO_readHeights_155 rfl ?_
                    obtain ⟨v368, h369, hf⟩ := px_bind hf
                    refine px_rgi hx hb hts cl_MO hown hK hM 14 (by decide) (hts _ w_659) h369 d_MO_readHeights_156 ?_
                    refine lv_iload_n hx hb d_MO_readHeights_159 rfl (lv_at hl 0 rfl) ?_
                    refine lv_if_eq (tgt := 167) hx hb d_MO_readHeights_160 (by decide) (fun c370 => ?_) (fun c370 => False.elim (by revert c370; decide))
                    refine lv_iconst (v := 0) hx hb d_MO_readHeights_167 (by decide) ?_
                    refine lv_iadd hx hb d_MO_readHeights_168 ?_
                    obtain ⟨M371, h372, hf⟩ := px_bind hf
                    refine px_rpt hx hb hts cl_MO hown hK hM hS 14 (by decide) (hts _ w_659) rfl rfl rfl h372 d_MO_readHeights_169 (fun H locs hM hS => ?_)
                    refine lv_goto (tgt := 7) hx hb d_MO_readHeights_172 (by decide) ?_
                    exact ih 0 M371 hf _ _ _ hM hS (lv_sub hl [4, 0] rfl)
                  · have hf := px_ift hf c367
                    refine lv_aload_n hx hb d_MO_readHeights_139 rfl (lv_at hl 3 rfl) ?_
                    obtain ⟨_, h387, hf⟩ := px_bind hf
                    obtain ⟨⟨v375, M373⟩, h374, hf⟩ := px_bind hf
                    dsimp only at hf
                    refine px_calli (va_runV (As := []) (rest := []) ⟨hx, hb, hml, hown, hts⟩ (c_MO_look l bs D G o0 M363 h374) (cwV 0 hts (px_gV w_783 w_785 ws_MO_look w_12 w_786) rfl rfl rfl (by decide +kernel) ⟨Nat.le_of_ble_eq_true rfl, Nat.le_of_ble_eq_true rfl⟩) (px_preV px_nwok hK hN hO hM h387 rfl) rfl rfl hl.1 rfl (lv_room (Nat.le_of_ble_eq_true rfl)) d_MO_readHeights_140 ⟨Nat.le_of_ble_eq_true rfl, Nat.le_of_ble_eq_true rfl⟩) hS (fun H locs hM hS => ?_)
                    refine lv_bipush (v := 44) hx hb d_MO_readHeights_143 (by decide) ?_
                    refine lv_icmp_ne (tgt := 152) hx hb d_MO_readHeights_145 (by decide) (fun c376 => ?_) (fun c376 => ?_)
                    · have hf := px_iff hf c376
                      refine lv_iconst (v := 0) hx hb d_MO_readHeights_152 (by decide) ?_
                      refine lv_istore_n (lv' := [(1, .int 0), (4, .int v237), (3, .int v230), (2, .int v229), (0, .ref o0)]) hx hb d_MO_readHeights_153 rfl hl (by decide) rfl (fun ls hl => ?_)
                      refine lv_aload_n hx hb d_MO_readHeights_154 rfl (lv_at hl 4 rfl) ?_
                      refine lv_dup hx hb d_MO_readHeights_155 rfl ?_
                      obtain ⟨v377, h378, hf⟩ := px_bind hf
                      refine px_rgi hx hb hts cl_MO hown hK hM 14 (by decide) (hts _ w_659) h378 d_MO_readHeights_156 ?_
                      refine lv_iload_n hx hb d_MO_readHeights_159 rfl (lv_at hl 0 rfl) ?_
                      refine lv_if_eq (tgt := 167) hx hb d_MO_readHeights_160 (by decide) (fun c379 => ?_) (fun c379 => False.elim (by revert c379; decide))
                      refine lv_iconst (v := 0) hx hb d_MO_readHeights_167 (by decide) ?_
                      refine lv_iadd hx hb d_MO_readHeights_168 ?_
                      obtain ⟨M380, h381, hf⟩ := px_bind hf
                      refine px_rpt hx hb hts cl_MO hown hK hM hS 14 (by decide) (hts _ w_659) rfl rfl rfl h381 d_MO_readHeights_169 (fun H locs hM hS => ?_)
                      refine lv_goto (tgt := 7) hx hb d_MO_readHeights_172 (by decide) ?_
                      exact ih 0 M380 hf _ _ _ hM hS (lv_sub hl [4, 0] rfl)
                    · have hf := px_ift hf c376
                      refine lv_iconst (v := 1) hx hb d_MO_readHeights_148 (by decide) ?_
                      refine lv_goto (tgt := 153) hx hb d_MO_readHeights_149 (by decide) ?_
                      refine lv_istore_n (lv' := [(1, .int 1), (4, .int v237), (3, .int v230), (2, .int v229), (0, .ref o0)]) hx hb d_MO_readHeights_153 rfl hl (by decide) rfl (fun ls hl => ?_)
                      refine lv_aload_n hx hb d_MO_readHeights_154 rfl (lv_at hl 4 rfl) ?_
                      refine lv_dup hx hb d_MO_readHeights_155 rfl ?_
                      obtain ⟨v382, h383, hf⟩ := px_bind hf
                      refine px_rgi hx hb hts cl_MO hown hK hM 14 (by decide) (hts _ w_659) h383 d_MO_readHeights_156 ?_
                      refine lv_iload_n hx hb d_MO_readHeights_159 rfl (lv_at hl 0 rfl) ?_
                      refine lv_if_eq (tgt := 167) hx hb d_MO_readHeights_160 (by decide) (fun c384 => False.elim (by revert c384; decide)) (fun c384 => ?_)
                      refine lv_iconst (v := 1) hx hb d_MO_readHeights_163 (by decide) ?_
                      refine lv_goto (tgt := 168) hx hb d_MO_readHeights_164 (by decide) ?_
                      refine lv_iadd hx hb d_MO_readHeights_168 ?_
                      obtain ⟨M385, h386, hf⟩ := px_bind hf
                      refine px_rpt hx hb hts cl_MO hown hK hM hS 14 (by decide) (hts _ w_659) rfl rfl rfl h386 d_MO_readHeights_169 (fun H locs hM hS => ?_)
                      refine lv_goto (tgt := 7) hx hb d_MO_readHeights_172 (by decide) ?_
                      exact ih 1 M385 hf _ _ _ hM hS (lv_sub hl [4, 0] rfl)
                · have hf := px_iff hf c345
                  obtain ⟨rfl, rfl⟩ := px_s2 hf
                  exact kr _ rfl _ _ _ _ d_MO_readHeights_96 hM hS
              · have hf := px_iff hf c342
                refine lv_aload_n hx hb d_MO_readHeights_79 rfl (lv_at hl 3 rfl) ?_
                refine lv_iload_n hx hb d_MO_readHeights_80 rfl (lv_at hl 1 rfl) ?_
                obtain ⟨M389, h390, hf⟩ := px_bind hf
                refine px_rpt hx hb hts cl_MO hown hK hM hS 14 (by decide) (hts _ w_659) rfl rfl rfl h390 d_MO_readHeights_81 (fun H locs hM hS => ?_)
                refine lv_aload_n hx hb d_MO_readHeights_84 rfl (lv_at hl 3 rfl) ?_
                refine lv_iconst (v := 1) hx hb d_MO_readHeights_85 (by decide) ?_
                obtain ⟨M391, h392, hf⟩ := px_bind hf
                refine px_rpt hx hb hts cl_MO hown hK hM hS 15 (by decide) (hts _ w_660) rfl rfl rfl h392 d_MO_readHeights_86 (fun H locs hM hS => ?_)
                refine lv_aload_n hx hb d_MO_readHeights_89 rfl (lv_at hl 3 rfl) ?_
                obtain ⟨v393, h394, hf⟩ := px_bind hf
                refine px_rgi hx hb hts cl_MO hown hK hM 15 (by decide) (hts _ w_660) h394 d_MO_readHeights_90 ?_
                refine lv_if_eq (tgt := 97) hx hb d_MO_readHeights_93 (by decide) (fun c395 => ?_) (fun c395 => ?_)
                · have hf := px_ift hf c395
                  refine lv_aload_n hx hb d_MO_readHeights_97 rfl (lv_at hl 3 rfl) ?_
                  obtain ⟨t396, h397, hf⟩ := px_bind hf
                  refine px_rgr hx hb hts cl_MO hown hK hM 9 (by decide) (hts _ w_654) h397 d_MO_readHeights_98 ?_
                  refine lv_aload_n hx hb d_MO_readHeights_101 rfl (lv_at hl 3 rfl) ?_
                  obtain ⟨v398, h399, hf⟩ := px_bind hf
                  refine px_rgi hx hb hts cl_MO hown hK hM 8 (by decide) (hts _ w_653) h399 d_MO_readHeights_102 ?_
                  refine lv_iload hx hb d_MO_readHeights_105 (lv_at hl 0 rfl) ?_
                  obtain ⟨M400, h401, hf⟩ := px_bind hf
                  refine px_rsi hx hb hK hM hS 0 rfl h401 d_MO_readHeights_107 (fun H locs hM hS => ?_)
                  refine lv_aload_n hx hb d_MO_readHeights_108 rfl (lv_at hl 3 rfl) ?_
                  obtain ⟨t402, h403, hf⟩ := px_bind hf
                  refine px_rgr hx hb hts cl_MO hown hK hM 10 (by decide) (hts _ w_655) h403 d_MO_readHeights_109 ?_
                  refine lv_aload_n hx hb d_MO_readHeights_112 rfl (lv_at hl 3 rfl) ?_
                  obtain ⟨v404, h405, hf⟩ := px_bind hf
                  refine px_rgi hx hb hts cl_MO hown hK hM 8 (by decide) (hts _ w_653) h405 d_MO_readHeights_113 ?_
                  refine lv_aload_n hx hb d_MO_readHeights_116 rfl (lv_at hl 3 rfl) ?_
                  refine lv_iconst (v := 1) hx hb d_MO_readHeights_117 (by decide) ?_
                  obtain ⟨_, h438, hf⟩ := px_bind hf
                  obtain ⟨⟨v408, M406⟩, h407, hf⟩ := px_bind hf
                  dsimp only at hf
                  refine px_calli (va_runV (As := [.int 1]) (rest := [.int v404, .ref t402]) ⟨hx, hb, hml, hown, hts⟩ (c_MO_number l bs D G o0 1 M400 h407) (cwV 1 hts (px_gV w_795 w_797 ws_MO_number w_12 w_798) rfl rfl rfl (by decide +kernel) ⟨Nat.le_of_ble_eq_true rfl, Nat.le_of_ble_eq_true rfl⟩) (px_preV px_nwok hK hN hO hM h438 rfl) rfl rfl hl.1 rfl (lv_room (Nat.le_of_ble_eq_true rfl)) d_MO_readHeights_118 ⟨Nat.le_of_ble_eq_true rfl, Nat.le_of_ble_eq_true rfl⟩) hS (fun H locs hM hS => ?_)
                  obtain ⟨M409, h410, hf⟩ := px_bind hf
                  refine px_rsi hx hb hK hM hS 0 rfl h410 d_MO_readHeights_121 (fun H locs hM hS => ?_)
                  refine lv_aload_n hx hb d_MO_readHeights_122 rfl (lv_at hl 3 rfl) ?_
                  refine lv_dup hx hb d_MO_readHeights_123 rfl ?_
                  obtain ⟨v411, h412, hf⟩ := px_bind hf
                  refine px_rgi hx hb hts cl_MO hown hK hM 8 (by decide) (hts _ w_653) h412 d_MO_readHeights_124 ?_
                  refine lv_iconst (v := 1) hx hb d_MO_readHeights_127 (by decide) ?_
                  refine lv_iadd hx hb d_MO_readHeights_128 ?_
                  obtain ⟨M413, h414, hf⟩ := px_bind hf
                  refine px_rpt hx hb hts cl_MO hown hK hM hS 8 (by decide) (hts _ w_653) rfl rfl rfl h414 d_MO_readHeights_129 (fun H locs hM hS => ?_)
                  refine lv_aload_n hx hb d_MO_readHeights_132 rfl (lv_at hl 3 rfl) ?_
                  obtain ⟨v415, h416, hf⟩ := px_bind hf
                  refine px_rgi hx hb hts cl_MO hown hK hM 15 (by decide) (hts _ w_660) h416 d_MO_readHeights_133 ?_
                  refine lv_if_ne (tgt := 152) hx hb d_MO_readHeights_136 (by decide) (fun c417 => ?_) (fun c417 => ?_)
                  · have hf := px_iff hf c417
                    refine lv_iconst (v := 0) hx hb d_MO_readHeights_152 (by decide) ?_
                    refine lv_istore_n (lv' := [(1, .int 0), (4, .int v237), (3, .int v230), (2, .int v229), (0, .ref o0)]) hx hb d_MO_readHeights_153 rfl hl (by decide) rfl (fun ls hl => ?_)
                    refine lv_aload_n hx hb d_MO_readHeights_154 rfl (lv_at hl 4 rfl) ?_
                    refine lv_dup hx hb d_MO_readHeights_155 rfl ?_
                    obtain ⟨v418, h419, hf⟩ := px_bind hf
                    refine px_rgi hx hb hts cl_MO hown hK hM 14 (by decide) (hts _ w_659) h419 d_MO_readHeights_156 ?_
                    refine lv_iload_n hx hb d_MO_readHeights_159 rfl (lv_at hl 0 rfl) ?_
                    refine lv_if_eq (tgt := 167) hx hb d_MO_readHeights_160 (by decide) (fun c420 => ?_) (fun c420 => False.elim (by revert c420; decide))
                    refine lv_iconst (v := 0) hx hb d_MO_readHeights_167 (by decide) ?_
                    refine lv_iadd hx hb d_MO_readHeights_168 ?_
                    obtain ⟨M421, h422, hf⟩ := px_bind hf
                    refine px_rpt hx hb hts cl_MO hown hK hM hS 14 (by decide) (hts _ w_659) rfl rfl rfl h422 d_MO_readHeights_169 (fun H locs hM hS => ?_)
                    refine lv_goto (tgt := 7) hx hb d_MO_readHeights_172 (by decide) ?_
                    exact ih 0 M421 hf _ _ _ hM hS (lv_sub hl [4, 0] rfl)
                  · have hf := px_ift hf c417
                    refine lv_aload_n hx hb d_MO_readHeights_139 rfl (lv_at hl 3 rfl) ?_
                    obtain ⟨_, h437, hf⟩ := px_bind hf
                    obtain ⟨⟨v425, M423⟩, h424, hf⟩ := px_bind hf
                    dsimp only at hf
                    refine px_calli (va_runV (As := []) (rest := []) ⟨hx, hb, hml, hown, hts⟩ (c_MO_look l bs D G o0 M413 h424) (cwV 0 hts (px_gV w_783 w_785 ws_MO_look w_12 w_786) rfl rfl rfl (by decide +kernel) ⟨Nat.le_of_ble_eq_true rfl, Nat.le_of_ble_eq_true rfl⟩) (px_preV px_nwok hK hN hO hM h437 rfl) rfl rfl hl.1 rfl (lv_room (Nat.le_of_ble_eq_true rfl)) d_MO_readHeights_140 ⟨Nat.le_of_ble_eq_true rfl, Nat.le_of_ble_eq_true rfl⟩) hS (fun H locs hM hS => ?_)
                    refine lv_bipush (v := 44) hx hb d_MO_readHeights_143 (by decide) ?_
                    refine lv_icmp_ne (tgt := 152) hx hb d_MO_readHeights_145 (by decide) (fun c426 => ?_) (fun c426 => ?_)
                    · have hf := px_iff hf c426
                      refine lv_iconst (v := 0) hx hb d_MO_readHeights_152 (by decide) ?_
                      refine lv_istore_n (lv' := [(1, .int 0), (4, .int v237), (3, .int v230), (2, .int v229), (0, .ref o0)]) hx hb d_MO_readHeights_153 rfl hl (by decide) rfl (fun ls hl => ?_)
                      refine lv_aload_n hx hb d_MO_readHeights_154 rfl (lv_at hl 4 rfl) ?_
                      refine lv_dup hx hb d_MO_readHeights_155 rfl ?_
                      obtain ⟨v427, h428, hf⟩ := px_bind hf
                      refine px_rgi hx hb hts cl_MO hown hK hM 14 (by decide) (hts _ w_659) h428 d_MO_readHeights_156 ?_
                      refine lv_iload_n hx hb d_MO_readHeights_159 rfl (lv_at hl 0 rfl) ?_
                      refine lv_if_eq (tgt := 167) hx hb d_MO_readHeights_160 (by decide) (fun c429 => ?_) (fun c429 => False.elim (by revert c429; decide))
                      refine lv_iconst (v := 0) hx hb d_MO_readHeights_167 (by decide) ?_
                      refine lv_iadd hx hb d_MO_readHeights_168 ?_
                      obtain ⟨M430, h431, hf⟩ := px_bind hf
                      refine px_rpt hx hb hts cl_MO hown hK hM hS 14 (by decide) (hts _ w_659) rfl rfl rfl h431 d_MO_readHeights_169 (fun H locs hM hS => ?_)
                      refine lv_goto (tgt := 7) hx hb d_MO_readHeights_172 (by decide) ?_
                      exact ih 0 M430 hf _ _ _ hM hS (lv_sub hl [4, 0] rfl)
                    · have hf := px_ift hf c426
                      refine lv_iconst (v := 1) hx hb d_MO_readHeights_148 (by decide) ?_
                      refine lv_goto (tgt := 153) hx hb d_MO_readHeights_149 (by decide) ?_
                      refine lv_istore_n (lv' := [(1, .int 1), (4, .int v237), (3, .int v230), (2, .int v229), (0, .ref o0)]) hx hb d_MO_readHeights_153 rfl hl (by decide) rfl (fun ls hl => ?_)
                      refine lv_aload_n hx hb d_MO_readHeights_154 rfl (lv_at hl 4 rfl) ?_
                      refine lv_dup hx hb d_MO_readHeights_155 rfl ?_
                      obtain ⟨v432, h433, hf⟩ := px_bind hf
                      refine px_rgi hx hb hts cl_MO hown hK hM 14 (by decide) (hts _ w_659) h433 d_MO_readHeights_156 ?_
                      refine lv_iload_n hx hb d_MO_readHeights_159 rfl (lv_at hl 0 rfl) ?_
                      refine lv_if_eq (tgt := 167) hx hb d_MO_readHeights_160 (by decide) (fun c434 => False.elim (by revert c434; decide)) (fun c434 => ?_)
                      refine lv_iconst (v := 1) hx hb d_MO_readHeights_163 (by decide) ?_
                      refine lv_goto (tgt := 168) hx hb d_MO_readHeights_164 (by decide) ?_
                      refine lv_iadd hx hb d_MO_readHeights_168 ?_
                      obtain ⟨M435, h436, hf⟩ := px_bind hf
                      refine px_rpt hx hb hts cl_MO hown hK hM hS 14 (by decide) (hts _ w_659) rfl rfl rfl h436 d_MO_readHeights_169 (fun H locs hM hS => ?_)
                      refine lv_goto (tgt := 7) hx hb d_MO_readHeights_172 (by decide) ?_
                      exact ih 1 M435 hf _ _ _ hM hS (lv_sub hl [4, 0] rfl)
                · have hf := px_iff hf c395
                  obtain ⟨rfl, rfl⟩ := px_s2 hf
                  exact kr _ rfl _ _ _ _ d_MO_readHeights_96 hM hS
        · have hf := px_ift hf c234
          refine lv_aload_n hx hb d_MO_readHeights_36 rfl (lv_at hl 2 rfl) ?_
          refine lv_iconst (v := 1) hx hb d_MO_readHeights_37 (by decide) ?_
          obtain ⟨M440, h441, hf⟩ := px_bind hf
          refine px_rpt hx hb hts cl_MO hown hK hM hS 15 (by decide) (hts _ w_660) rfl rfl rfl h441 d_MO_readHeights_38 (fun H locs hM hS => ?_)
          obtain ⟨rfl, rfl⟩ := px_s2 hf
          exact kr _ rfl _ _ _ _ d_MO_readHeights_41 hM hS
def f_MO_readHeights (o0 : Nat) (M : px_M) : Option (px_M) :=
  (px_pt 11 8 M o0 (.int 0)).bind fun M1 =>
  (f_MO_readHeights_L7 px_fuel o0 1 M1).bind fun yh444 => (match yh444 with
  | (.inl _, M443) =>
  some M443
  | (.inr r445, M443) => some M443)
set_option maxHeartbeats 4000000 in
set_option maxRecDepth 100000 in
theorem c_MO_readHeights (l : Launch) (bs : Nat) (D : va_G) (G : Nat → ClassId) (o0 : Nat) (M : px_M) {M' : px_M} (hf : f_MO_readHeights o0 M = some M') : Met l y_MO_readHeights (.code y_MO_readHeights b_MO_readHeights 5 none :: px_tw) ⟨2, 0, 0, 45⟩ (va_Pc [.ref o0] (px_B bs D px_cl (px_tys G) px_nw px_over M)) (px_Qv bs D px_cl (px_tys G) M') 0 0 (fun q => bs ≤ q) := by
  refine px_of (by decide) (Nat.le_of_ble_eq_true rfl) ?_
  intro p e s m below meth c ls C0 hM hS hl
  obtain ⟨hx, hb, hr, hml, hown, hnm, hlocks, hts, hK, hN, hO⟩ := C0
  have hl : lv_has ls 5 [(0, .ref o0)] := hl
  unfold f_MO_readHeights at hf
  refine lv_aload_n hx hb d_MO_readHeights_0 rfl (lv_at hl 0 rfl) ?_
  refine lv_iconst (v := 0) hx hb d_MO_readHeights_1 (by decide) ?_
  obtain ⟨M1, h2, hf⟩ := px_bind hf
  refine px_rpt hx hb hts cl_MO hown hK hM hS 8 (by decide) (hts _ w_653) rfl rfl rfl h2 d_MO_readHeights_2 (fun H locs hM hS => ?_)
  refine lv_iconst (v := 1) hx hb d_MO_readHeights_5 (by decide) ?_
  refine lv_istore_n (lv' := [(1, .int 1), (0, .ref o0)]) hx hb d_MO_readHeights_6 rfl hl (by decide) rfl (fun ls hl => ?_)
  obtain ⟨⟨xh444, M443⟩, h444, hf⟩ := px_bind hf
  refine lp_MO_readHeights_L7 ⟨hx, hb, hr, hml, hown, hnm, hlocks, hts, hK, hN, hO⟩ xh444 M443 o0 (fun uh444 eu H locs ls hM hS hl => ?_) (fun r445 eu H locs ls pc hdg hM hS => ?_) px_fuel 1 M1 h444 _ _ _ hM hS (lv_sub hl [1, 0] rfl)
  · subst eu
    skip
    dsimp only at hf
    try dsimp only at hl
    obtain rfl := px_s1 hf
    exact px_vret hx hb hr hlocks hM hS d_MO_readHeights_175
  · subst eu
    dsimp only at hf
    obtain rfl := px_s1 hf
    exact px_vret hx hb hr hlocks hM hS hdg
