def f_MO_shows (o0 : Nat) (x1 : Int32) (x2 : Int32) (M : px_M) : Option (Int32 × px_M) :=
  if x1 < 0 then
  some (0, M)
  else
  (px_gi 11 25 M o0).bind fun v2 =>
  if v2 ≤ x1 then
  some (0, M)
  else
  (px_ob 11 M o0).bind fun _ =>
  (f_MO_isName o0 x2 M).bind fun (v7, M5) =>
  if v7 = 0 then
  some (0, M5)
  else
  (px_ob 11 M5 o0).bind fun _ =>
  (f_MO_isShown o0 x1 x2 M5).bind fun (v11, M9) =>
  if v11 = 0 then
  some (0, M9)
  else
  some (1, M9)
set_option maxHeartbeats 4000000 in
set_option maxRecDepth 100000 in
theorem c_MO_shows (l : Launch) (bs : Nat) (D : va_G) (G : Nat → ClassId) (o0 : Nat) (x1 : Int32) (x2 : Int32) (M : px_M) {r : Int32} {M' : px_M} (hf : f_MO_shows o0 x1 x2 M = some (r, M')) : Met l y_MO_shows (.code y_MO_shows b_MO_shows 3 (some .boolean) :: px_tw) ⟨2, 0, 0, 48⟩ (va_Pc [.ref o0, .int x1, .int x2] (px_B bs D px_cl (px_tys G) px_nw px_over M)) (px_Qi bs D px_cl (px_tys G) r M') 0 0 (fun q => bs ≤ q) := by
  refine px_of (by decide) (Nat.le_of_ble_eq_true rfl) ?_
  intro p e s m below meth c ls C0 hM hS hl
  obtain ⟨hx, hb, hr, hml, hown, hnm, hlocks, hts, hK, hN, hO⟩ := C0
  have hl : lv_has ls 3 [(0, .ref o0), (1, .int x1), (2, .int x2)] := hl
  unfold f_MO_shows at hf
  refine lv_iload_n hx hb d_MO_shows_0 rfl (lv_at hl 1 rfl) ?_
  refine lv_if_lt (tgt := 33) hx hb d_MO_shows_1 (by decide) (fun c1 => ?_) (fun c1 => ?_)
  · have hf := px_ift hf c1
    refine lv_iconst (v := 0) hx hb d_MO_shows_33 (by decide) ?_
    obtain ⟨rfl, rfl⟩ := px_s2 hf
    exact px_zret hx hb hr rfl hlocks hM hS d_MO_shows_34
  · have hf := px_iff hf c1
    refine lv_iload_n hx hb d_MO_shows_4 rfl (lv_at hl 1 rfl) ?_
    refine lv_aload_n hx hb d_MO_shows_5 rfl (lv_at hl 0 rfl) ?_
    obtain ⟨v2, h3, hf⟩ := px_bind hf
    refine px_rgi hx hb hts cl_MO hown hK hM 25 (by decide) (hts _ w_670) h3 d_MO_shows_6 ?_
    refine lv_icmp_ge (tgt := 33) hx hb d_MO_shows_9 (by decide) (fun c4 => ?_) (fun c4 => ?_)
    · have hf := px_ift hf c4
      refine lv_iconst (v := 0) hx hb d_MO_shows_33 (by decide) ?_
      obtain ⟨rfl, rfl⟩ := px_s2 hf
      exact px_zret hx hb hr rfl hlocks hM hS d_MO_shows_34
    · have hf := px_iff hf c4
      refine lv_aload_n hx hb d_MO_shows_12 rfl (lv_at hl 0 rfl) ?_
      refine lv_iload_n hx hb d_MO_shows_13 rfl (lv_at hl 2 rfl) ?_
      obtain ⟨_, h14, hf⟩ := px_bind hf
      obtain ⟨⟨v7, M5⟩, h6, hf⟩ := px_bind hf
      dsimp only at hf
      refine px_calli (va_runV (As := [.int x2]) (rest := []) ⟨hx, hb, hml, hown, hts⟩ (c_MO_isName l bs D G o0 x2 M h6) (cwV 1 hts (px_gV w_826 w_828 ws_MO_isName w_12 w_829) rfl rfl rfl (by decide +kernel) ⟨Nat.le_of_ble_eq_true rfl, Nat.le_of_ble_eq_true rfl⟩) (px_preV px_nwok hK hN hO hM h14 rfl) rfl rfl hl.1 rfl (lv_room (Nat.le_of_ble_eq_true rfl)) d_MO_shows_14 ⟨Nat.le_of_ble_eq_true rfl, Nat.le_of_ble_eq_true rfl⟩) hS (fun H locs hM hS => ?_)
      refine lv_if_eq (tgt := 33) hx hb d_MO_shows_17 (by decide) (fun c8 => ?_) (fun c8 => ?_)
      · have hf := px_ift hf c8
        refine lv_iconst (v := 0) hx hb d_MO_shows_33 (by decide) ?_
        obtain ⟨rfl, rfl⟩ := px_s2 hf
        exact px_zret hx hb hr rfl hlocks hM hS d_MO_shows_34
      · have hf := px_iff hf c8
        refine lv_aload_n hx hb d_MO_shows_20 rfl (lv_at hl 0 rfl) ?_
        refine lv_iload_n hx hb d_MO_shows_21 rfl (lv_at hl 1 rfl) ?_
        refine lv_iload_n hx hb d_MO_shows_22 rfl (lv_at hl 2 rfl) ?_
        obtain ⟨_, h13, hf⟩ := px_bind hf
        obtain ⟨⟨v11, M9⟩, h10, hf⟩ := px_bind hf
        dsimp only at hf
        refine px_calli (va_runV (As := [.int x1, .int x2]) (rest := []) ⟨hx, hb, hml, hown, hts⟩ (c_MO_isShown l bs D G o0 x1 x2 M5 h10) (cwV 2 hts (px_gV w_892 w_894 ws_MO_isShown w_12 w_895) rfl rfl rfl (by decide +kernel) ⟨Nat.le_of_ble_eq_true rfl, Nat.le_of_ble_eq_true rfl⟩) (px_preV px_nwok hK hN hO hM h13 rfl) rfl rfl hl.1 rfl (lv_room (Nat.le_of_ble_eq_true rfl)) d_MO_shows_23 ⟨Nat.le_of_ble_eq_true rfl, Nat.le_of_ble_eq_true rfl⟩) hS (fun H locs hM hS => ?_)
        refine lv_if_eq (tgt := 33) hx hb d_MO_shows_26 (by decide) (fun c12 => ?_) (fun c12 => ?_)
        · have hf := px_ift hf c12
          refine lv_iconst (v := 0) hx hb d_MO_shows_33 (by decide) ?_
          obtain ⟨rfl, rfl⟩ := px_s2 hf
          exact px_zret hx hb hr rfl hlocks hM hS d_MO_shows_34
        · have hf := px_iff hf c12
          refine lv_iconst (v := 1) hx hb d_MO_shows_29 (by decide) ?_
          refine lv_goto (tgt := 34) hx hb d_MO_shows_30 (by decide) ?_
          obtain ⟨rfl, rfl⟩ := px_s2 hf
          exact px_zret hx hb hr rfl hlocks hM hS d_MO_shows_34
def f_MO_find_L97 : Nat → Nat → Int32 → Int32 → Int32 → Int32 → px_M → Option ((Unit) × px_M)
  | 0, _, _, _, _, _, _ => none
  | n + 1, o0, x1, x2, x3, x4, M =>
    (px_gi 11 25 M o0).bind fun v241 =>
    if v241 ≤ x4 then
    some ((), M)
    else
    (px_gr 11 26 M o0).bind fun t244 =>
    (px_ai 0 M t244 x4).bind fun v246 =>
    (px_gr 11 27 M o0).bind fun t248 =>
    (px_ai 0 M t248 x3).bind fun v250 =>
    if v246 = v250 then
    (px_ob 11 M o0).bind fun _ =>
    (f_MO_isShown o0 x4 x2 M).bind fun (v259, M257) =>
    if v259 = 0 then
    (px_gi 11 41 M257 o0).bind fun v261 =>
    (px_pt 11 41 M257 o0 (.int v261)).bind fun M263 =>
    f_MO_find_L97 n o0 x1 x2 x3 (x4 + 1) M263
    else
    (px_pt 11 41 M257 o0 (.int 1)).bind fun M265 =>
    f_MO_find_L97 n o0 x1 x2 x3 (x4 + 1) M265
    else
    (px_gi 11 41 M o0).bind fun v253 =>
    (px_pt 11 41 M o0 (.int v253)).bind fun M255 =>
    f_MO_find_L97 n o0 x1 x2 x3 (x4 + 1) M255
set_option maxHeartbeats 4000000 in
set_option maxRecDepth 100000 in
theorem lp_MO_find_L97 {p : Program} {l : Launch} {e : Env} {s : State} {m : MethodId} {args : Array Value} {below : List Frame} {meth : Method} {c : Code} {bs : Nat} {D : va_G} {G : Nat → ClassId} {Q : State → Prop} (C0 : px_At p s m meth c y_MO_find b_MO_find 5 (some .int) args D px_cl (px_tys G) px_nw px_over) (x : Unit) (M' : px_M) (o0 : Nat) (x1 : Int32) (x2 : Int32) (x3 : Int32) (kx : ∀ (H : Heap) (locs : List Loc) (ls : Array Slot), px_W bs D px_cl (px_tys G) M' H → va_S (fun q => bs ≤ q) s.heap H locs → lv_has ls 5 [(1, .int x1)] → W p l e ⟨3, 0, 0, 73⟩ s m args below meth c H locs 0 0 Q (F0 m 150 ls []))  : ∀ (n : Nat) (x4 : Int32) (M : px_M), f_MO_find_L97 n o0 x1 x2 x3 x4 M = some (x, M') → ∀ (H : Heap) (locs : List Loc) (ls : Array Slot), px_W bs D px_cl (px_tys G) M H → va_S (fun q => bs ≤ q) s.heap H locs → lv_has ls 5 [(0, .ref o0), (1, .int x1), (2, .int x2), (3, .int x3), (4, .int x4)] → W p l e ⟨3, 0, 0, 73⟩ s m args below meth c H locs 0 0 Q (F0 m 97 ls []) := by
  obtain ⟨hx, hb, hr, hml, hown, hnm, hlocks, hts, hK, hN, hO⟩ := C0
  intro n
  induction n with
  | zero => intro x4 M hf; cases hf
  | succ n ih =>
    intro x4 M hf H locs ls hM hS hl
    unfold f_MO_find_L97 at hf
    refine lv_iload hx hb d_MO_find_97 (lv_at hl 4 rfl) ?_
    refine lv_aload_n hx hb d_MO_find_99 rfl (lv_at hl 0 rfl) ?_
    obtain ⟨v241, h242, hf⟩ := px_bind hf
    refine px_rgi hx hb hts cl_MO hown hK hM 25 (by decide) (hts _ w_670) h242 d_MO_find_100 ?_
    refine lv_icmp_ge (tgt := 150) hx hb d_MO_find_103 (by decide) (fun c243 => ?_) (fun c243 => ?_)
    · have hf := px_ift hf c243
      obtain ⟨rfl, rfl⟩ := px_s2 hf
      exact kx _ _ _ hM hS (lv_sub hl [1] rfl)
    · have hf := px_iff hf c243
      refine lv_aload_n hx hb d_MO_find_106 rfl (lv_at hl 0 rfl) ?_
      refine lv_aload_n hx hb d_MO_find_107 rfl (lv_at hl 0 rfl) ?_
      obtain ⟨t244, h245, hf⟩ := px_bind hf
      refine px_rgr hx hb hts cl_MO hown hK hM 26 (by decide) (hts _ w_671) h245 d_MO_find_108 ?_
      refine lv_iload hx hb d_MO_find_111 (lv_at hl 4 rfl) ?_
      obtain ⟨v246, h247, hf⟩ := px_bind hf
      refine px_rai hx hb hK hM 0 rfl h247 d_MO_find_113 ?_
      refine lv_aload_n hx hb d_MO_find_114 rfl (lv_at hl 0 rfl) ?_
      obtain ⟨t248, h249, hf⟩ := px_bind hf
      refine px_rgr hx hb hts cl_MO hown hK hM 27 (by decide) (hts _ w_672) h249 d_MO_find_115 ?_
      refine lv_iload_n hx hb d_MO_find_118 rfl (lv_at hl 3 rfl) ?_
      obtain ⟨v250, h251, hf⟩ := px_bind hf
      refine px_rai hx hb hK hM 0 rfl h251 d_MO_find_119 ?_
      refine lv_icmp_ne (tgt := 137) hx hb d_MO_find_120 (by decide) (fun c252 => ?_) (fun c252 => ?_)
      · have hf := px_iff hf c252
        refine lv_aload_n hx hb d_MO_find_137 rfl (lv_at hl 0 rfl) ?_
        obtain ⟨v253, h254, hf⟩ := px_bind hf
        refine px_rgi hx hb hts cl_MO hown hK hM 41 (by decide) (hts _ w_686) h254 d_MO_find_138 ?_
        obtain ⟨M255, h256, hf⟩ := px_bind hf
        refine px_rpt hx hb hts cl_MO hown hK hM hS 41 (by decide) (hts _ w_686) rfl rfl rfl h256 d_MO_find_141 (fun H locs hM hS => ?_)
        refine lv_iinc (v := x4 + 1) (lv' := [(4, .int (x4 + 1)), (0, .ref o0), (1, .int x1), (2, .int x2), (3, .int x3)]) hx hb d_MO_find_144 hl (k := 4) rfl (by rfl) (by decide) rfl (fun ls hl => ?_)
        refine lv_goto (tgt := 97) hx hb d_MO_find_147 (by decide) ?_
        exact ih (x4 + 1) M255 hf _ _ _ hM hS (lv_sub hl [1, 2, 3, 4, 0] rfl)
      · have hf := px_ift hf c252
        refine lv_aload_n hx hb d_MO_find_123 rfl (lv_at hl 0 rfl) ?_
        refine lv_iload hx hb d_MO_find_124 (lv_at hl 4 rfl) ?_
        refine lv_iload_n hx hb d_MO_find_126 rfl (lv_at hl 2 rfl) ?_
        obtain ⟨_, h267, hf⟩ := px_bind hf
        obtain ⟨⟨v259, M257⟩, h258, hf⟩ := px_bind hf
        dsimp only at hf
        refine px_calli (va_runV (As := [.int x4, .int x2]) (rest := [.ref o0]) ⟨hx, hb, hml, hown, hts⟩ (c_MO_isShown l bs D G o0 x4 x2 M h258) (cwV 2 hts (px_gV w_892 w_894 ws_MO_isShown w_12 w_895) rfl rfl rfl (by decide +kernel) ⟨Nat.le_of_ble_eq_true rfl, Nat.le_of_ble_eq_true rfl⟩) (px_preV px_nwok hK hN hO hM h267 rfl) rfl rfl hl.1 rfl (lv_room (Nat.le_of_ble_eq_true rfl)) d_MO_find_127 ⟨Nat.le_of_ble_eq_true rfl, Nat.le_of_ble_eq_true rfl⟩) hS (fun H locs hM hS => ?_)
        refine lv_if_eq (tgt := 137) hx hb d_MO_find_130 (by decide) (fun c260 => ?_) (fun c260 => ?_)
        · have hf := px_ift hf c260
          refine lv_aload_n hx hb d_MO_find_137 rfl (lv_at hl 0 rfl) ?_
          obtain ⟨v261, h262, hf⟩ := px_bind hf
          refine px_rgi hx hb hts cl_MO hown hK hM 41 (by decide) (hts _ w_686) h262 d_MO_find_138 ?_
          obtain ⟨M263, h264, hf⟩ := px_bind hf
          refine px_rpt hx hb hts cl_MO hown hK hM hS 41 (by decide) (hts _ w_686) rfl rfl rfl h264 d_MO_find_141 (fun H locs hM hS => ?_)
          refine lv_iinc (v := x4 + 1) (lv' := [(4, .int (x4 + 1)), (0, .ref o0), (1, .int x1), (2, .int x2), (3, .int x3)]) hx hb d_MO_find_144 hl (k := 4) rfl (by rfl) (by decide) rfl (fun ls hl => ?_)
          refine lv_goto (tgt := 97) hx hb d_MO_find_147 (by decide) ?_
          exact ih (x4 + 1) M263 hf _ _ _ hM hS (lv_sub hl [1, 2, 3, 4, 0] rfl)
        · have hf := px_iff hf c260
          refine lv_iconst (v := 1) hx hb d_MO_find_133 (by decide) ?_
          refine lv_goto (tgt := 141) hx hb d_MO_find_134 (by decide) ?_
          obtain ⟨M265, h266, hf⟩ := px_bind hf
          refine px_rpt hx hb hts cl_MO hown hK hM hS 41 (by decide) (hts _ w_686) rfl rfl rfl h266 d_MO_find_141 (fun H locs hM hS => ?_)
          refine lv_iinc (v := x4 + 1) (lv' := [(4, .int (x4 + 1)), (0, .ref o0), (1, .int x1), (2, .int x2), (3, .int x3)]) hx hb d_MO_find_144 hl (k := 4) rfl (by rfl) (by decide) rfl (fun ls hl => ?_)
          refine lv_goto (tgt := 97) hx hb d_MO_find_147 (by decide) ?_
          exact ih (x4 + 1) M265 hf _ _ _ hM hS (lv_sub hl [1, 2, 3, 4, 0] rfl)
def f_MO_find_L38 : Nat → Nat → Int32 → Int32 → Int32 → px_M → Option (((Unit) ⊕ Int32) × px_M)
  | 0, _, _, _, _, _ => none
  | n + 1, o0, x1, x2, x3, M =>
    (px_gi 11 25 M o0).bind fun v212 =>
    if v212 ≤ x3 then
    some (.inl (), M)
    else
    (px_ob 11 M o0).bind fun _ =>
    (f_MO_isShown o0 x3 x2 M).bind fun (v217, M215) =>
    if v217 = 0 then
    f_MO_find_L38 n o0 x1 x2 (x3 + 1) M215
    else
    (px_gr 11 35 M215 o0).bind fun t219 =>
    (px_gr 11 27 M215 o0).bind fun t221 =>
    (px_ai 0 M215 t221 x3).bind fun v223 =>
    (px_ai 0 M215 t219 v223).bind fun v225 =>
    if v225 < 100000000 then
    f_MO_find_L38 n o0 x1 x2 (x3 + 1) M215
    else
    (px_gi 11 38 M215 o0).bind fun v228 =>
    if v228 = x1 then
    (px_pt 11 40 M215 o0 (.int x2)).bind fun M235 =>
    (px_pt 11 39 M235 o0 (.int x3)).bind fun M237 =>
    (px_pt 11 41 M237 o0 (.int 0)).bind fun M239 =>
    (f_MO_find_L97 px_fuel o0 x1 x2 x3 0 M239).bind fun (_, M268) =>
    some (.inr x1, M268)
    else
    (px_gi 11 38 M215 o0).bind fun v231 =>
    (px_pt 11 38 M215 o0 (.int (v231 + 1))).bind fun M233 =>
    f_MO_find_L38 n o0 x1 x2 (x3 + 1) M233
set_option maxHeartbeats 4000000 in
set_option maxRecDepth 100000 in
theorem lp_MO_find_L38 {p : Program} {l : Launch} {e : Env} {s : State} {m : MethodId} {args : Array Value} {below : List Frame} {meth : Method} {c : Code} {bs : Nat} {D : va_G} {G : Nat → ClassId} {Q : State → Prop} (C0 : px_At p s m meth c y_MO_find b_MO_find 5 (some .int) args D px_cl (px_tys G) px_nw px_over) (x : (Unit) ⊕ Int32) (M' : px_M) (o0 : Nat) (x1 : Int32) (x2 : Int32) (kx : ∀ u, x = .inl u → ∀ (H : Heap) (locs : List Loc) (ls : Array Slot), px_W bs D px_cl (px_tys G) M' H → va_S (fun q => bs ≤ q) s.heap H locs → lv_has ls 5 [(0, .ref o0), (1, .int x1), (2, .int x2)] → W p l e ⟨3, 0, 0, 73⟩ s m args below meth c H locs 0 0 Q (F0 m 168 ls [])) (kr : ∀ r, x = .inr r → narrow .int (.int r) = .int r → ∀ (H : Heap) (locs : List Loc) (ls : Array Slot) (pc : Nat), decode b_MO_find pc = .ok (.ireturn, 1) → px_W bs D px_cl (px_tys G) M' H → va_S (fun q => bs ≤ q) s.heap H locs → W p l e ⟨3, 0, 0, 73⟩ s m args below meth c H locs 0 0 Q (F0 m pc ls [.int r])) : ∀ (n : Nat) (x3 : Int32) (M : px_M), f_MO_find_L38 n o0 x1 x2 x3 M = some (x, M') → ∀ (H : Heap) (locs : List Loc) (ls : Array Slot), px_W bs D px_cl (px_tys G) M H → va_S (fun q => bs ≤ q) s.heap H locs → lv_has ls 5 [(0, .ref o0), (1, .int x1), (2, .int x2), (3, .int x3)] → W p l e ⟨3, 0, 0, 73⟩ s m args below meth c H locs 0 0 Q (F0 m 38 ls []) := by
  obtain ⟨hx, hb, hr, hml, hown, hnm, hlocks, hts, hK, hN, hO⟩ := C0
  intro n
  induction n with
  | zero => intro x3 M hf; cases hf
  | succ n ih =>
    intro x3 M hf H locs ls hM hS hl
    unfold f_MO_find_L38 at hf
    refine lv_iload_n hx hb d_MO_find_38 rfl (lv_at hl 3 rfl) ?_
    refine lv_aload_n hx hb d_MO_find_39 rfl (lv_at hl 0 rfl) ?_
    obtain ⟨v212, h213, hf⟩ := px_bind hf
    refine px_rgi hx hb hts cl_MO hown hK hM 25 (by decide) (hts _ w_670) h213 d_MO_find_40 ?_
    refine lv_icmp_ge (tgt := 168) hx hb d_MO_find_43 (by decide) (fun c214 => ?_) (fun c214 => ?_)
    · have hf := px_ift hf c214
      obtain ⟨rfl, rfl⟩ := px_s2 hf
      exact kx _ rfl _ _ _ hM hS (lv_sub hl [0, 1, 2] rfl)
    · have hf := px_iff hf c214
      refine lv_aload_n hx hb d_MO_find_46 rfl (lv_at hl 0 rfl) ?_
      refine lv_iload_n hx hb d_MO_find_47 rfl (lv_at hl 3 rfl) ?_
      refine lv_iload_n hx hb d_MO_find_48 rfl (lv_at hl 2 rfl) ?_
      obtain ⟨_, h270, hf⟩ := px_bind hf
      obtain ⟨⟨v217, M215⟩, h216, hf⟩ := px_bind hf
      dsimp only at hf
      refine px_calli (va_runV (As := [.int x3, .int x2]) (rest := []) ⟨hx, hb, hml, hown, hts⟩ (c_MO_isShown l bs D G o0 x3 x2 M h216) (cwV 2 hts (px_gV w_892 w_894 ws_MO_isShown w_12 w_895) rfl rfl rfl (by decide +kernel) ⟨Nat.le_of_ble_eq_true rfl, Nat.le_of_ble_eq_true rfl⟩) (px_preV px_nwok hK hN hO hM h270 rfl) rfl rfl hl.1 rfl (lv_room (Nat.le_of_ble_eq_true rfl)) d_MO_find_49 ⟨Nat.le_of_ble_eq_true rfl, Nat.le_of_ble_eq_true rfl⟩) hS (fun H locs hM hS => ?_)
      refine lv_if_eq (tgt := 162) hx hb d_MO_find_52 (by decide) (fun c218 => ?_) (fun c218 => ?_)
      · have hf := px_ift hf c218
        refine lv_iinc (v := x3 + 1) (lv' := [(3, .int (x3 + 1)), (0, .ref o0), (1, .int x1), (2, .int x2)]) hx hb d_MO_find_162 hl (k := 3) rfl (by rfl) (by decide) rfl (fun ls hl => ?_)
        refine lv_goto (tgt := 38) hx hb d_MO_find_165 (by decide) ?_
        exact ih (x3 + 1) M215 hf _ _ _ hM hS (lv_sub hl [1, 2, 3, 0] rfl)
      · have hf := px_iff hf c218
        refine lv_aload_n hx hb d_MO_find_55 rfl (lv_at hl 0 rfl) ?_
        obtain ⟨t219, h220, hf⟩ := px_bind hf
        refine px_rgr hx hb hts cl_MO hown hK hM 35 (by decide) (hts _ w_680) h220 d_MO_find_56 ?_
        refine lv_aload_n hx hb d_MO_find_59 rfl (lv_at hl 0 rfl) ?_
        obtain ⟨t221, h222, hf⟩ := px_bind hf
        refine px_rgr hx hb hts cl_MO hown hK hM 27 (by decide) (hts _ w_672) h222 d_MO_find_60 ?_
        refine lv_iload_n hx hb d_MO_find_63 rfl (lv_at hl 3 rfl) ?_
        obtain ⟨v223, h224, hf⟩ := px_bind hf
        refine px_rai hx hb hK hM 0 rfl h224 d_MO_find_64 ?_
        obtain ⟨v225, h226, hf⟩ := px_bind hf
        refine px_rai hx hb hK hM 0 rfl h226 d_MO_find_65 ?_
        refine lv_ldc (v := 100000000) hx hb hown (hts _ w_891) d_MO_find_66 ?_
        refine lv_icmp_lt (tgt := 162) hx hb d_MO_find_68 (by decide) (fun c227 => ?_) (fun c227 => ?_)
        · have hf := px_ift hf c227
          refine lv_iinc (v := x3 + 1) (lv' := [(3, .int (x3 + 1)), (0, .ref o0), (1, .int x1), (2, .int x2)]) hx hb d_MO_find_162 hl (k := 3) rfl (by rfl) (by decide) rfl (fun ls hl => ?_)
          refine lv_goto (tgt := 38) hx hb d_MO_find_165 (by decide) ?_
          exact ih (x3 + 1) M215 hf _ _ _ hM hS (lv_sub hl [1, 2, 3, 0] rfl)
        · have hf := px_iff hf c227
          refine lv_aload_n hx hb d_MO_find_71 rfl (lv_at hl 0 rfl) ?_
          obtain ⟨v228, h229, hf⟩ := px_bind hf
          refine px_rgi hx hb hts cl_MO hown hK hM 38 (by decide) (hts _ w_683) h229 d_MO_find_72 ?_
          refine lv_iload_n hx hb d_MO_find_75 rfl (lv_at hl 1 rfl) ?_
          refine lv_icmp_ne (tgt := 152) hx hb d_MO_find_76 (by decide) (fun c230 => ?_) (fun c230 => ?_)
          · have hf := px_iff hf c230
            refine lv_aload_n hx hb d_MO_find_152 rfl (lv_at hl 0 rfl) ?_
            refine lv_dup hx hb d_MO_find_153 rfl ?_
            obtain ⟨v231, h232, hf⟩ := px_bind hf
            refine px_rgi hx hb hts cl_MO hown hK hM 38 (by decide) (hts _ w_683) h232 d_MO_find_154 ?_
            refine lv_iconst (v := 1) hx hb d_MO_find_157 (by decide) ?_
            refine lv_iadd hx hb d_MO_find_158 ?_
            obtain ⟨M233, h234, hf⟩ := px_bind hf
            refine px_rpt hx hb hts cl_MO hown hK hM hS 38 (by decide) (hts _ w_683) rfl rfl rfl h234 d_MO_find_159 (fun H locs hM hS => ?_)
            refine lv_iinc (v := x3 + 1) (lv' := [(3, .int (x3 + 1)), (0, .ref o0), (1, .int x1), (2, .int x2)]) hx hb d_MO_find_162 hl (k := 3) rfl (by rfl) (by decide) rfl (fun ls hl => ?_)
            refine lv_goto (tgt := 38) hx hb d_MO_find_165 (by decide) ?_
            exact ih (x3 + 1) M233 hf _ _ _ hM hS (lv_sub hl [1, 2, 3, 0] rfl)
          · have hf := px_ift hf c230
            refine lv_aload_n hx hb d_MO_find_79 rfl (lv_at hl 0 rfl) ?_
            refine lv_iload_n hx hb d_MO_find_80 rfl (lv_at hl 2 rfl) ?_
            obtain ⟨M235, h236, hf⟩ := px_bind hf
            refine px_rpt hx hb hts cl_MO hown hK hM hS 40 (by decide) (hts _ w_685) rfl rfl rfl h236 d_MO_find_81 (fun H locs hM hS => ?_)
            refine lv_aload_n hx hb d_MO_find_84 rfl (lv_at hl 0 rfl) ?_
            refine lv_iload_n hx hb d_MO_find_85 rfl (lv_at hl 3 rfl) ?_
            obtain ⟨M237, h238, hf⟩ := px_bind hf
            refine px_rpt hx hb hts cl_MO hown hK hM hS 39 (by decide) (hts _ w_684) rfl rfl rfl h238 d_MO_find_86 (fun H locs hM hS => ?_)
            refine lv_aload_n hx hb d_MO_find_89 rfl (lv_at hl 0 rfl) ?_
            refine lv_iconst (v := 0) hx hb d_MO_find_90 (by decide) ?_
            obtain ⟨M239, h240, hf⟩ := px_bind hf
            refine px_rpt hx hb hts cl_MO hown hK hM hS 41 (by decide) (hts _ w_686) rfl rfl rfl h240 d_MO_find_91 (fun H locs hM hS => ?_)
            refine lv_iconst (v := 0) hx hb d_MO_find_94 (by decide) ?_
            refine lv_istore (lv' := [(4, .int 0), (0, .ref o0), (1, .int x1), (2, .int x2), (3, .int x3)]) hx hb d_MO_find_95 hl (by decide) rfl (fun ls hl => ?_)
            obtain ⟨⟨_, M268⟩, h269, hf⟩ := px_bind hf
            dsimp only at hf
            refine lp_MO_find_L97 ⟨hx, hb, hr, hml, hown, hnm, hlocks, hts, hK, hN, hO⟩ _ M268 o0 x1 x2 x3 (fun H locs ls hM hS hl => ?_) px_fuel 0 M239 h269 _ _ _ hM hS (lv_sub hl [1, 2, 3, 4, 0] rfl)
            try dsimp only at hl
            refine lv_iload_n hx hb d_MO_find_150 rfl (lv_at hl 0 rfl) ?_
            obtain ⟨rfl, rfl⟩ := px_s2 hf
            exact kr _ rfl rfl _ _ _ _ d_MO_find_151 hM hS
def f_MO_find_L7 : Nat → Nat → Int32 → Int32 → px_M → Option (((Unit) ⊕ Int32) × px_M)
  | 0, _, _, _, _ => none
  | n + 1, o0, x1, x2, M =>
    (px_gi 11 21 M o0).bind fun v139 =>
    if v139 ≤ x2 then
    some (.inl (), M)
    else
    (px_gr 11 24 M o0).bind fun t142 =>
    (px_ai 0 M t142 x2).bind fun v144 =>
    if v144 = ((-1)) then
    f_MO_find_L7 n o0 x1 (x2 + 1) M
    else
    (px_gr 11 24 M o0).bind fun t147 =>
    (px_ai 0 M t147 x2).bind fun v149 =>
    (px_ob 11 M o0).bind fun _ =>
    (f_MO_measure o0 v149 x2 M).bind fun M151 =>
    (f_MO_find_L38 px_fuel o0 x1 x2 0 M151).bind fun yh272 => (match yh272 with
    | (.inl _, M271) =>
    f_MO_find_L7 n o0 x1 (x2 + 1) M271
    | (.inr r273, M271) => some (.inr r273, M271))
set_option maxHeartbeats 4000000 in
set_option maxRecDepth 100000 in
theorem lp_MO_find_L7 {p : Program} {l : Launch} {e : Env} {s : State} {m : MethodId} {args : Array Value} {below : List Frame} {meth : Method} {c : Code} {bs : Nat} {D : va_G} {G : Nat → ClassId} {Q : State → Prop} (C0 : px_At p s m meth c y_MO_find b_MO_find 5 (some .int) args D px_cl (px_tys G) px_nw px_over) (x : (Unit) ⊕ Int32) (M' : px_M) (o0 : Nat) (x1 : Int32) (kx : ∀ u, x = .inl u → ∀ (H : Heap) (locs : List Loc) (ls : Array Slot), px_W bs D px_cl (px_tys G) M' H → va_S (fun q => bs ≤ q) s.heap H locs → lv_has ls 5 [(0, .ref o0)] → W p l e ⟨3, 0, 0, 73⟩ s m args below meth c H locs 0 0 Q (F0 m 174 ls [])) (kr : ∀ r, x = .inr r → narrow .int (.int r) = .int r → ∀ (H : Heap) (locs : List Loc) (ls : Array Slot) (pc : Nat), decode b_MO_find pc = .ok (.ireturn, 1) → px_W bs D px_cl (px_tys G) M' H → va_S (fun q => bs ≤ q) s.heap H locs → W p l e ⟨3, 0, 0, 73⟩ s m args below meth c H locs 0 0 Q (F0 m pc ls [.int r])) : ∀ (n : Nat) (x2 : Int32) (M : px_M), f_MO_find_L7 n o0 x1 x2 M = some (x, M') → ∀ (H : Heap) (locs : List Loc) (ls : Array Slot), px_W bs D px_cl (px_tys G) M H → va_S (fun q => bs ≤ q) s.heap H locs → lv_has ls 5 [(0, .ref o0), (1, .int x1), (2, .int x2)] → W p l e ⟨3, 0, 0, 73⟩ s m args below meth c H locs 0 0 Q (F0 m 7 ls []) := by
  obtain ⟨hx, hb, hr, hml, hown, hnm, hlocks, hts, hK, hN, hO⟩ := C0
  intro n
  induction n with
  | zero => intro x2 M hf; cases hf
  | succ n ih =>
    intro x2 M hf H locs ls hM hS hl
    unfold f_MO_find_L7 at hf
    refine lv_iload_n hx hb d_MO_find_7 rfl (lv_at hl 2 rfl) ?_
    refine lv_aload_n hx hb d_MO_find_8 rfl (lv_at hl 0 rfl) ?_
    obtain ⟨v139, h140, hf⟩ := px_bind hf
    refine px_rgi hx hb hts cl_MO hown hK hM 21 (by decide) (hts _ w_666) h140 d_MO_find_9 ?_
    refine lv_icmp_ge (tgt := 174) hx hb d_MO_find_12 (by decide) (fun c141 => ?_) (fun c141 => ?_)
    · have hf := px_ift hf c141
      obtain ⟨rfl, rfl⟩ := px_s2 hf
      exact kx _ rfl _ _ _ hM hS (lv_sub hl [0] rfl)
    · have hf := px_iff hf c141
      refine lv_aload_n hx hb d_MO_find_15 rfl (lv_at hl 0 rfl) ?_
      obtain ⟨t142, h143, hf⟩ := px_bind hf
      refine px_rgr hx hb hts cl_MO hown hK hM 24 (by decide) (hts _ w_669) h143 d_MO_find_16 ?_
      refine lv_iload_n hx hb d_MO_find_19 rfl (lv_at hl 2 rfl) ?_
      obtain ⟨v144, h145, hf⟩ := px_bind hf
      refine px_rai hx hb hK hM 0 rfl h145 d_MO_find_20 ?_
      refine lv_iconst (v := (-1)) hx hb d_MO_find_21 (by decide) ?_
      refine lv_icmp_eq (tgt := 168) hx hb d_MO_find_22 (by decide) (fun c146 => ?_) (fun c146 => ?_)
      · have hf := px_ift hf c146
        refine lv_iinc (v := x2 + 1) (lv' := [(2, .int (x2 + 1)), (0, .ref o0), (1, .int x1)]) hx hb d_MO_find_168 hl (k := 2) rfl (by rfl) (by decide) rfl (fun ls hl => ?_)
        refine lv_goto (tgt := 7) hx hb d_MO_find_171 (by decide) ?_
        exact ih (x2 + 1) M hf _ _ _ hM hS (lv_sub hl [1, 2, 0] rfl)
      · have hf := px_iff hf c146
        refine lv_aload_n hx hb d_MO_find_25 rfl (lv_at hl 0 rfl) ?_
        refine lv_aload_n hx hb d_MO_find_26 rfl (lv_at hl 0 rfl) ?_
        obtain ⟨t147, h148, hf⟩ := px_bind hf
        refine px_rgr hx hb hts cl_MO hown hK hM 24 (by decide) (hts _ w_669) h148 d_MO_find_27 ?_
        refine lv_iload_n hx hb d_MO_find_30 rfl (lv_at hl 2 rfl) ?_
        obtain ⟨v149, h150, hf⟩ := px_bind hf
        refine px_rai hx hb hK hM 0 rfl h150 d_MO_find_31 ?_
        refine lv_iload_n hx hb d_MO_find_32 rfl (lv_at hl 2 rfl) ?_
        obtain ⟨_, h274, hf⟩ := px_bind hf
        obtain ⟨M151, h152, hf⟩ := px_bind hf
        refine px_callv (va_runV (As := [.int v149, .int x2]) (rest := []) ⟨hx, hb, hml, hown, hts⟩ (c_MO_measure l bs D G o0 v149 x2 M h152) (cwV 2 hts (px_gV w_887 w_889 ws_MO_measure w_12 w_890) rfl rfl rfl (by decide +kernel) ⟨Nat.le_of_ble_eq_true rfl, Nat.le_of_ble_eq_true rfl⟩) (px_preV px_nwok hK hN hO hM h274 rfl) rfl rfl hl.1 rfl (lv_room (Nat.le_of_ble_eq_true rfl)) d_MO_find_33 ⟨Nat.le_of_ble_eq_true rfl, Nat.le_of_ble_eq_true rfl⟩) hS (fun H locs hM hS => ?_)
        refine lv_iconst (v := 0) hx hb d_MO_find_36 (by decide) ?_
        refine lv_istore_n (lv' := [(3, .int 0), (0, .ref o0), (1, .int x1), (2, .int x2)]) hx hb d_MO_find_37 rfl hl (by decide) rfl (fun ls hl => ?_)
        obtain ⟨⟨xh272, M271⟩, h272, hf⟩ := px_bind hf
        refine lp_MO_find_L38 ⟨hx, hb, hr, hml, hown, hnm, hlocks, hts, hK, hN, hO⟩ xh272 M271 o0 x1 x2 (fun uh272 eu H locs ls hM hS hl => ?_) (fun r273 eu hn H locs ls pc hdg hM hS => ?_) px_fuel 0 M151 h272 _ _ _ hM hS (lv_sub hl [1, 2, 3, 0] rfl)
        · subst eu
          skip
          dsimp only at hf
          try dsimp only at hl
          refine lv_iinc (v := x2 + 1) (lv' := [(2, .int (x2 + 1)), (0, .ref o0), (1, .int x1)]) hx hb d_MO_find_168 hl (k := 2) rfl (by rfl) (by decide) rfl (fun ls hl => ?_)
          refine lv_goto (tgt := 7) hx hb d_MO_find_171 (by decide) ?_
          exact ih (x2 + 1) M271 hf _ _ _ hM hS (lv_sub hl [1, 2, 0] rfl)
        · subst eu
          dsimp only at hf
          obtain ⟨rfl, rfl⟩ := px_s2 hf
          exact kr _ rfl hn _ _ _ _ hdg hM hS
def f_MO_find (o0 : Nat) (x1 : Int32) (M : px_M) : Option (Int32 × px_M) :=
  (px_pt 11 38 M o0 (.int 0)).bind fun M1 =>
  (f_MO_find_L7 px_fuel o0 x1 0 M1).bind fun yh276 => (match yh276 with
  | (.inl _, M275) =>
  (px_gi 11 38 M275 o0).bind fun v277 =>
  some (v277, M275)
  | (.inr r279, M275) => some (r279, M275))
set_option maxHeartbeats 4000000 in
set_option maxRecDepth 100000 in
theorem c_MO_find (l : Launch) (bs : Nat) (D : va_G) (G : Nat → ClassId) (o0 : Nat) (x1 : Int32) (M : px_M) {r : Int32} {M' : px_M} (hf : f_MO_find o0 x1 M = some (r, M')) : Met l y_MO_find (.code y_MO_find b_MO_find 5 (some .int) :: px_tw) ⟨3, 0, 0, 73⟩ (va_Pc [.ref o0, .int x1] (px_B bs D px_cl (px_tys G) px_nw px_over M)) (px_Qi bs D px_cl (px_tys G) r M') 0 0 (fun q => bs ≤ q) := by
  refine px_of (by decide) (Nat.le_of_ble_eq_true rfl) ?_
  intro p e s m below meth c ls C0 hM hS hl
  obtain ⟨hx, hb, hr, hml, hown, hnm, hlocks, hts, hK, hN, hO⟩ := C0
  have hl : lv_has ls 5 [(0, .ref o0), (1, .int x1)] := hl
  unfold f_MO_find at hf
  refine lv_aload_n hx hb d_MO_find_0 rfl (lv_at hl 0 rfl) ?_
  refine lv_iconst (v := 0) hx hb d_MO_find_1 (by decide) ?_
  obtain ⟨M1, h2, hf⟩ := px_bind hf
  refine px_rpt hx hb hts cl_MO hown hK hM hS 38 (by decide) (hts _ w_683) rfl rfl rfl h2 d_MO_find_2 (fun H locs hM hS => ?_)
  refine lv_iconst (v := 0) hx hb d_MO_find_5 (by decide) ?_
  refine lv_istore_n (lv' := [(2, .int 0), (0, .ref o0), (1, .int x1)]) hx hb d_MO_find_6 rfl hl (by decide) rfl (fun ls hl => ?_)
  obtain ⟨⟨xh276, M275⟩, h276, hf⟩ := px_bind hf
  refine lp_MO_find_L7 ⟨hx, hb, hr, hml, hown, hnm, hlocks, hts, hK, hN, hO⟩ xh276 M275 o0 x1 (fun uh276 eu H locs ls hM hS hl => ?_) (fun r279 eu hn H locs ls pc hdg hM hS => ?_) px_fuel 0 M1 h276 _ _ _ hM hS (lv_sub hl [1, 2, 0] rfl)
  · subst eu
    skip
    dsimp only at hf
    try dsimp only at hl
    refine lv_aload_n hx hb d_MO_find_174 rfl (lv_at hl 0 rfl) ?_
    obtain ⟨v277, h278, hf⟩ := px_bind hf
    refine px_rgi hx hb hts cl_MO hown hK hM 38 (by decide) (hts _ w_683) h278 d_MO_find_175 ?_
    obtain ⟨rfl, rfl⟩ := px_s2 hf
    exact px_iret hx hb hr hlocks hM hS d_MO_find_178
  · subst eu
    dsimp only at hf
    obtain ⟨rfl, rfl⟩ := px_s2 hf
    exact px_zret hx hb hr hn hlocks hM hS hdg
def f_MO_breaks (o0 : Nat) (x1 : Int32) (x2 : Int32) (M : px_M) : Option (Int32 × px_M) :=
  if x1 < 0 then
  some ((-1), M)
  else
  if x2 < 0 then
  some ((-1), M)
  else
  if x2 ≤ 2 then
  (px_pt 11 40 M o0 (.int ((-1)))).bind fun M4 =>
  (px_ob 11 M4 o0).bind fun _ =>
  (f_MO_find o0 x1 M4).bind fun (v8, M6) =>
  (px_gi 11 40 M6 o0).bind fun v9 =>
  if v9 = ((-1)) then
  some ((-1), M6)
  else
  if x2 = 0 then
  (px_gi 11 40 M6 o0).bind fun v18 =>
  some (v18, M6)
  else
  if x2 = 1 then
  (px_gi 11 39 M6 o0).bind fun v16 =>
  some (v16, M6)
  else
  (px_gi 11 41 M6 o0).bind fun v14 =>
  some (v14, M6)
  else
  some ((-1), M)
set_option maxHeartbeats 4000000 in
set_option maxRecDepth 100000 in
theorem c_MO_breaks (l : Launch) (bs : Nat) (D : va_G) (G : Nat → ClassId) (o0 : Nat) (x1 : Int32) (x2 : Int32) (M : px_M) {r : Int32} {M' : px_M} (hf : f_MO_breaks o0 x1 x2 M = some (r, M')) : Met l y_MO_breaks (.code y_MO_breaks b_MO_breaks 4 (some .int) :: px_tw) ⟨4, 0, 0, 97⟩ (va_Pc [.ref o0, .int x1, .int x2] (px_B bs D px_cl (px_tys G) px_nw px_over M)) (px_Qi bs D px_cl (px_tys G) r M') 0 0 (fun q => bs ≤ q) := by
  refine px_of (by decide) (Nat.le_of_ble_eq_true rfl) ?_
  intro p e s m below meth c ls C0 hM hS hl
  obtain ⟨hx, hb, hr, hml, hown, hnm, hlocks, hts, hK, hN, hO⟩ := C0
  have hl : lv_has ls 4 [(0, .ref o0), (1, .int x1), (2, .int x2)] := hl
  unfold f_MO_breaks at hf
  refine lv_iload_n hx hb d_MO_breaks_0 rfl (lv_at hl 1 rfl) ?_
  refine lv_if_lt (tgt := 13) hx hb d_MO_breaks_1 (by decide) (fun c1 => ?_) (fun c1 => ?_)
  · have hf := px_ift hf c1
    refine lv_iconst (v := (-1)) hx hb d_MO_breaks_13 (by decide) ?_
    obtain ⟨rfl, rfl⟩ := px_s2 hf
    exact px_iret hx hb hr hlocks hM hS d_MO_breaks_14
  · have hf := px_iff hf c1
    refine lv_iload_n hx hb d_MO_breaks_4 rfl (lv_at hl 2 rfl) ?_
    refine lv_if_lt (tgt := 13) hx hb d_MO_breaks_5 (by decide) (fun c2 => ?_) (fun c2 => ?_)
    · have hf := px_ift hf c2
      refine lv_iconst (v := (-1)) hx hb d_MO_breaks_13 (by decide) ?_
      obtain ⟨rfl, rfl⟩ := px_s2 hf
      exact px_iret hx hb hr hlocks hM hS d_MO_breaks_14
    · have hf := px_iff hf c2
      refine lv_iload_n hx hb d_MO_breaks_8 rfl (lv_at hl 2 rfl) ?_
      refine lv_iconst (v := 2) hx hb d_MO_breaks_9 (by decide) ?_
      refine lv_icmp_le (tgt := 15) hx hb d_MO_breaks_10 (by decide) (fun c3 => ?_) (fun c3 => ?_)
      · have hf := px_ift hf c3
        refine lv_aload_n hx hb d_MO_breaks_15 rfl (lv_at hl 0 rfl) ?_
        refine lv_iconst (v := (-1)) hx hb d_MO_breaks_16 (by decide) ?_
        obtain ⟨M4, h5, hf⟩ := px_bind hf
        refine px_rpt hx hb hts cl_MO hown hK hM hS 40 (by decide) (hts _ w_685) rfl rfl rfl h5 d_MO_breaks_17 (fun H locs hM hS => ?_)
        refine lv_aload_n hx hb d_MO_breaks_20 rfl (lv_at hl 0 rfl) ?_
        refine lv_iload_n hx hb d_MO_breaks_21 rfl (lv_at hl 1 rfl) ?_
        obtain ⟨_, h20, hf⟩ := px_bind hf
        obtain ⟨⟨v8, M6⟩, h7, hf⟩ := px_bind hf
        dsimp only at hf
        refine px_calli (va_runV (As := [.int x1]) (rest := []) ⟨hx, hb, hml, hown, hts⟩ (c_MO_find l bs D G o0 x1 M4 h7) (cwV 1 hts (px_gV w_933 w_935 ws_MO_find w_12 w_936) rfl rfl rfl (by decide +kernel) ⟨Nat.le_of_ble_eq_true rfl, Nat.le_of_ble_eq_true rfl⟩) (px_preV px_nwok hK hN hO hM h20 rfl) rfl rfl hl.1 rfl (lv_room (Nat.le_of_ble_eq_true rfl)) d_MO_breaks_22 ⟨Nat.le_of_ble_eq_true rfl, Nat.le_of_ble_eq_true rfl⟩) hS (fun H locs hM hS => ?_)
        refine lv_istore_n (lv' := [(3, .int v8), (0, .ref o0), (1, .int x1), (2, .int x2)]) hx hb d_MO_breaks_25 rfl hl (by decide) rfl (fun ls hl => ?_)
        refine lv_aload_n hx hb d_MO_breaks_26 rfl (lv_at hl 1 rfl) ?_
        obtain ⟨v9, h10, hf⟩ := px_bind hf
        refine px_rgi hx hb hts cl_MO hown hK hM 40 (by decide) (hts _ w_685) h10 d_MO_breaks_27 ?_
        refine lv_iconst (v := (-1)) hx hb d_MO_breaks_30 (by decide) ?_
        refine lv_icmp_ne (tgt := 38) hx hb d_MO_breaks_31 (by decide) (fun c11 => ?_) (fun c11 => ?_)
        · have hf := px_iff hf c11
          refine lv_iload_n hx hb d_MO_breaks_38 rfl (lv_at hl 3 rfl) ?_
          refine lv_if_ne (tgt := 49) hx hb d_MO_breaks_39 (by decide) (fun c12 => ?_) (fun c12 => ?_)
          · have hf := px_iff hf c12
            refine lv_iload_n hx hb d_MO_breaks_49 rfl (lv_at hl 3 rfl) ?_
            refine lv_iconst (v := 1) hx hb d_MO_breaks_50 (by decide) ?_
            refine lv_icmp_ne (tgt := 61) hx hb d_MO_breaks_51 (by decide) (fun c13 => ?_) (fun c13 => ?_)
            · have hf := px_iff hf c13
              refine lv_aload_n hx hb d_MO_breaks_61 rfl (lv_at hl 1 rfl) ?_
              obtain ⟨v14, h15, hf⟩ := px_bind hf
              refine px_rgi hx hb hts cl_MO hown hK hM 41 (by decide) (hts _ w_686) h15 d_MO_breaks_62 ?_
              obtain ⟨rfl, rfl⟩ := px_s2 hf
              exact px_iret hx hb hr hlocks hM hS d_MO_breaks_65
            · have hf := px_ift hf c13
              refine lv_aload_n hx hb d_MO_breaks_54 rfl (lv_at hl 1 rfl) ?_
              obtain ⟨v16, h17, hf⟩ := px_bind hf
              refine px_rgi hx hb hts cl_MO hown hK hM 39 (by decide) (hts _ w_684) h17 d_MO_breaks_55 ?_
              refine lv_goto (tgt := 65) hx hb d_MO_breaks_58 (by decide) ?_
              obtain ⟨rfl, rfl⟩ := px_s2 hf
              exact px_iret hx hb hr hlocks hM hS d_MO_breaks_65
          · have hf := px_ift hf c12
            refine lv_aload_n hx hb d_MO_breaks_42 rfl (lv_at hl 1 rfl) ?_
            obtain ⟨v18, h19, hf⟩ := px_bind hf
            refine px_rgi hx hb hts cl_MO hown hK hM 40 (by decide) (hts _ w_685) h19 d_MO_breaks_43 ?_
            refine lv_goto (tgt := 65) hx hb d_MO_breaks_46 (by decide) ?_
            obtain ⟨rfl, rfl⟩ := px_s2 hf
            exact px_iret hx hb hr hlocks hM hS d_MO_breaks_65
        · have hf := px_ift hf c11
          refine lv_iconst (v := (-1)) hx hb d_MO_breaks_34 (by decide) ?_
          refine lv_goto (tgt := 65) hx hb d_MO_breaks_35 (by decide) ?_
          obtain ⟨rfl, rfl⟩ := px_s2 hf
          exact px_iret hx hb hr hlocks hM hS d_MO_breaks_65
      · have hf := px_iff hf c3
        refine lv_iconst (v := (-1)) hx hb d_MO_breaks_13 (by decide) ?_
        obtain ⟨rfl, rfl⟩ := px_s2 hf
        exact px_iret hx hb hr hlocks hM hS d_MO_breaks_14
def f_MO_count (o0 : Nat) (x1 : Int32) (M : px_M) : Option (Int32 × px_M) :=
  if x1 = 0 then
  (px_gi 11 21 M o0).bind fun v2 =>
  some (v2, M)
  else if x1 = 1 then
  (px_gi 11 25 M o0).bind fun v5 =>
  some (v5, M)
  else if x1 = 2 then
  (px_gi 11 29 M o0).bind fun v8 =>
  some (v8, M)
  else if x1 = 3 then
  (px_gi 11 17 M o0).bind fun v11 =>
  some (v11, M)
  else if x1 = 4 then
  (px_ob 11 M o0).bind fun _ =>
  (f_MO_find o0 ((-1)) M).bind fun (v16, M14) =>
  some (v16, M14)
  else if x1 = 5 then
  (px_gi 11 0 M o0).bind fun v19 =>
  some (v19, M)
  else 
  some ((-1), M)
set_option maxHeartbeats 4000000 in
set_option maxRecDepth 100000 in
theorem c_MO_count (l : Launch) (bs : Nat) (D : va_G) (G : Nat → ClassId) (o0 : Nat) (x1 : Int32) (M : px_M) {r : Int32} {M' : px_M} (hf : f_MO_count o0 x1 M = some (r, M')) : Met l y_MO_count (.code y_MO_count b_MO_count 2 (some .int) :: px_tw) ⟨4, 0, 0, 97⟩ (va_Pc [.ref o0, .int x1] (px_B bs D px_cl (px_tys G) px_nw px_over M)) (px_Qi bs D px_cl (px_tys G) r M') 0 0 (fun q => bs ≤ q) := by
  refine px_of (by decide) (Nat.le_of_ble_eq_true rfl) ?_
  intro p e s m below meth c ls C0 hM hS hl
  obtain ⟨hx, hb, hr, hml, hown, hnm, hlocks, hts, hK, hN, hO⟩ := C0
  have hl : lv_has ls 2 [(0, .ref o0), (1, .int x1)] := hl
  unfold f_MO_count at hf
  refine lv_iload_n hx hb d_MO_count_0 rfl (lv_at hl 1 rfl) ?_
  by_cases c1 : x1 = 0
  · have hf := px_ift hf c1
    refine lv_tableIn (tgt := 40) hx hb d_MO_count_1 (by rw [c1] <;> decide) (by rw [c1] <;> decide) (by rw [c1] <;> rfl) (by decide) ?_
    refine lv_aload_n hx hb d_MO_count_40 rfl (lv_at hl 0 rfl) ?_
    obtain ⟨v2, h3, hf⟩ := px_bind hf
    refine px_rgi hx hb hts cl_MO hown hK hM 21 (by decide) (hts _ w_666) h3 d_MO_count_41 ?_
    obtain ⟨rfl, rfl⟩ := px_s2 hf
    exact px_iret hx hb hr hlocks hM hS d_MO_count_44
  · have hf := px_iff hf c1
    by_cases c4 : x1 = 1
    · have hf := px_ift hf c4
      refine lv_tableIn (tgt := 45) hx hb d_MO_count_1 (by rw [c4] <;> decide) (by rw [c4] <;> decide) (by rw [c4] <;> rfl) (by decide) ?_
      refine lv_aload_n hx hb d_MO_count_45 rfl (lv_at hl 0 rfl) ?_
      obtain ⟨v5, h6, hf⟩ := px_bind hf
      refine px_rgi hx hb hts cl_MO hown hK hM 25 (by decide) (hts _ w_670) h6 d_MO_count_46 ?_
      obtain ⟨rfl, rfl⟩ := px_s2 hf
      exact px_iret hx hb hr hlocks hM hS d_MO_count_49
    · have hf := px_iff hf c4
      by_cases c7 : x1 = 2
      · have hf := px_ift hf c7
        refine lv_tableIn (tgt := 50) hx hb d_MO_count_1 (by rw [c7] <;> decide) (by rw [c7] <;> decide) (by rw [c7] <;> rfl) (by decide) ?_
        refine lv_aload_n hx hb d_MO_count_50 rfl (lv_at hl 0 rfl) ?_
        obtain ⟨v8, h9, hf⟩ := px_bind hf
        refine px_rgi hx hb hts cl_MO hown hK hM 29 (by decide) (hts _ w_674) h9 d_MO_count_51 ?_
        obtain ⟨rfl, rfl⟩ := px_s2 hf
        exact px_iret hx hb hr hlocks hM hS d_MO_count_54
      · have hf := px_iff hf c7
        by_cases c10 : x1 = 3
        · have hf := px_ift hf c10
          refine lv_tableIn (tgt := 55) hx hb d_MO_count_1 (by rw [c10] <;> decide) (by rw [c10] <;> decide) (by rw [c10] <;> rfl) (by decide) ?_
          refine lv_aload_n hx hb d_MO_count_55 rfl (lv_at hl 0 rfl) ?_
          obtain ⟨v11, h12, hf⟩ := px_bind hf
          refine px_rgi hx hb hts cl_MO hown hK hM 17 (by decide) (hts _ w_662) h12 d_MO_count_56 ?_
          obtain ⟨rfl, rfl⟩ := px_s2 hf
          exact px_iret hx hb hr hlocks hM hS d_MO_count_59
        · have hf := px_iff hf c10
          by_cases c13 : x1 = 4
          · have hf := px_ift hf c13
            refine lv_tableIn (tgt := 60) hx hb d_MO_count_1 (by rw [c13] <;> decide) (by rw [c13] <;> decide) (by rw [c13] <;> rfl) (by decide) ?_
            refine lv_aload_n hx hb d_MO_count_60 rfl (lv_at hl 0 rfl) ?_
            refine lv_iconst (v := (-1)) hx hb d_MO_count_61 (by decide) ?_
            obtain ⟨_, h17, hf⟩ := px_bind hf
            obtain ⟨⟨v16, M14⟩, h15, hf⟩ := px_bind hf
            dsimp only at hf
            refine px_calli (va_runV (As := [.int ((-1))]) (rest := []) ⟨hx, hb, hml, hown, hts⟩ (c_MO_find l bs D G o0 ((-1)) M h15) (cwV 1 hts (px_gV w_933 w_935 ws_MO_find w_12 w_936) rfl rfl rfl (by decide +kernel) ⟨Nat.le_of_ble_eq_true rfl, Nat.le_of_ble_eq_true rfl⟩) (px_preV px_nwok hK hN hO hM h17 rfl) rfl rfl hl.1 rfl (lv_room (Nat.le_of_ble_eq_true rfl)) d_MO_count_62 ⟨Nat.le_of_ble_eq_true rfl, Nat.le_of_ble_eq_true rfl⟩) hS (fun H locs hM hS => ?_)
            obtain ⟨rfl, rfl⟩ := px_s2 hf
            exact px_iret hx hb hr hlocks hM hS d_MO_count_65
          · have hf := px_iff hf c13
            by_cases c18 : x1 = 5
            · have hf := px_ift hf c18
              refine lv_tableIn (tgt := 66) hx hb d_MO_count_1 (by rw [c18] <;> decide) (by rw [c18] <;> decide) (by rw [c18] <;> rfl) (by decide) ?_
              refine lv_aload_n hx hb d_MO_count_66 rfl (lv_at hl 0 rfl) ?_
              obtain ⟨v19, h20, hf⟩ := px_bind hf
              refine px_rgi hx hb hts cl_MO hown hK hM 0 (by decide) (hts _ w_645) h20 d_MO_count_67 ?_
              obtain ⟨rfl, rfl⟩ := px_s2 hf
              exact px_iret hx hb hr hlocks hM hS d_MO_count_70
            · have hf := px_iff hf c18
              refine lv_tableOut (tgt := 71) hx hb d_MO_count_1 (px_out6 c1 c4 c7 c10 c13 c18) (by decide) ?_
              refine lv_iconst (v := (-1)) hx hb d_MO_count_71 (by decide) ?_
              obtain ⟨rfl, rfl⟩ := px_s2 hf
              exact px_iret hx hb hr hlocks hM hS d_MO_count_72
