theorem px_nw_of {w : Cond} (hw : px_nok w = true) {a : Array Value} {s : State} (h : w.before a s = true) : va_Nw w s := by
  cases w with
  | fieldLinkNest a i b n d h' => exact va_Nw.of rfl h
  | methodLinkNest a i x h' => exact va_Nw.of rfl h
  | _ => cases hw
set_option maxHeartbeats 8000000 in
set_option maxRecDepth 100000 in
theorem whole_start {p : Program} {e : Env} {s : State} {m : MethodId} {below : List Frame} {meth : Method} {c : Code} (l : Launch) {b L : Nat} {xs : Nat → Int32} (hL : L ≤ 2560) (C0 : lw_At p s m meth c b L xs) : W p l e room_1 s m #[Value.ref b] below meth c s.heap [] 0 0 (lw_Z below #[Value.ref b] s) (entryFrame m ([Value.ref b] : List Value).toArray 4) := by
  obtain ⟨hx, hb, hr, hml, hown, hts0, hX, hbl, hlocks, hgv⟩ := id C0
  have hts : ∀ w ∈ px_tw, w.before #[Value.ref b] s = true := fun w h => hts0 w (px_tw_sub h)
  have hN : ∀ w ∈ px_nw, va_Nw w s := fun w h => px_nw_of (px_nwok w h) (hts0 w (List.mem_filter.mp h).1)
  have hO1 : va_AO "SignBoards$Name" s := va_AO.of (hts0 (.arrayOver (.object "SignBoards$Name")) (List.mem_append_right _ (List.mem_of_getElem? (i := 127) (by decide +kernel))))
  have hO2 : va_AO "SignBoards$Board" s := va_AO.of (hts0 (.arrayOver (.object "SignBoards$Board")) (List.mem_append_right _ (List.mem_of_getElem? (i := 159) (by decide +kernel))))
  have hO : ∀ C ∈ px_over, va_AO C s := by
    intro C hC
    simp only [px_over, List.mem_cons, List.not_mem_nil, or_false] at hC
    rcases hC with rfl | rfl
    · exact hO1
    · exact hO2
  obtain ⟨cI, kI, compI, hI1, hI2, hI3⟩ := Cond.arrayClass_spec (hts0 (.arrayClass .int) (List.mem_append_right _ (List.mem_of_getElem? (i := 37) (by decide +kernel))))
  obtain ⟨compN, cN, kN, hN1, hN2, hN3, hN4, hN5⟩ := Cond.arrayOver_spec hO1
  obtain ⟨compB, cB, kB, hB1, hB2, hB3, hB4, hB5⟩ := Cond.arrayOver_spec hO2
  obtain ⟨c0, i0, hk0⟩ := u_known (C := R_SB) (T := F_SB) (N := 13) (n := 13) hts cl_SB.1 (hts _ w_15)
  obtain ⟨c1, i1, hk1⟩ := u_known (C := R_TX) (T := F_TX) (N := 2) (n := 2) hts cl_TX.1 (hts _ w_23)
  obtain ⟨c2, i2, hk2⟩ := u_known (C := R_RR) (T := F_RR) (N := 6) (n := 6) hts cl_RR.1 (hts _ w_39)
  obtain ⟨c3, i3, hk3⟩ := u_known (C := R_RS) (T := F_RS) (N := 6) (n := 6) hts cl_RS.1 (hts _ w_64)
  obtain ⟨c4, i4, hk4⟩ := u_known (C := R_LE) (T := F_LE) (N := 5) (n := 5) hts cl_LE.1 (hts _ w_104)
  obtain ⟨c5, i5, hk5⟩ := u_known (C := R_RO) (T := F_RO) (N := 6) (n := 6) hts cl_RO.1 (hts _ w_129)
  obtain ⟨c6, i6, hk6⟩ := u_known (C := R_LO) (T := F_LO) (N := 4) (n := 4) hts cl_LO.1 (hts _ w_161)
  obtain ⟨c7, i7, hk7⟩ := u_known (C := R_SH) (T := F_SH) (N := 9) (n := 9) hts cl_SH.1 (hts _ w_180)
  obtain ⟨c8, i8, hk8⟩ := u_known (C := R_BL) (T := F_BL) (N := 6) (n := 6) hts cl_BL.1 (hts _ w_215)
  obtain ⟨c9, i9, hk9⟩ := u_known (C := R_NA) (T := F_NA) (N := 3) (n := 3) hts cl_NA.1 (hts _ w_240)
  obtain ⟨c10, i10, hk10⟩ := u_known (C := R_BO) (T := F_BO) (N := 5) (n := 5) hts cl_BO.1 (hts _ w_262)
  obtain ⟨c11, i11, hk11⟩ := u_known (C := R_MO) (T := F_MO) (N := 42) (n := 42) hts cl_MO.1 (hts _ w_640)
  obtain ⟨D, hKc⟩ : ∃ (D : va_G), ∀ (k : Nat) (q : vw_C), px_cl[k]? = some q → u_Kn s q.1 q.2.1 q.2.2 (D.1 k) (D.2 k) := by
    refine ⟨(fun k => match k with | 0 => c0 | 1 => c1 | 2 => c2 | 3 => c3 | 4 => c4 | 5 => c5 | 6 => c6 | 7 => c7 | 8 => c8 | 9 => c9 | 10 => c10 | _ => c11, fun k => match k with | 0 => i0 | 1 => i1 | 2 => i2 | 3 => i3 | 4 => i4 | 5 => i5 | 6 => i6 | 7 => i7 | 8 => i8 | 9 => i9 | 10 => i10 | _ => i11), ?_⟩
    intro k q hq
    match k, hq with
    | 0, hq => cases hq; exact hk0
    | 1, hq => cases hq; exact hk1
    | 2, hq => cases hq; exact hk2
    | 3, hq => cases hq; exact hk3
    | 4, hq => cases hq; exact hk4
    | 5, hq => cases hq; exact hk5
    | 6, hq => cases hq; exact hk6
    | 7, hq => cases hq; exact hk7
    | 8, hq => cases hq; exact hk8
    | 9, hq => cases hq; exact hk9
    | 10, hq => cases hq; exact hk10
    | 11, hq => cases hq; exact hk11
    | k + 12, hq => simp [px_cl] at hq
  obtain ⟨G, hG0, hG1, hG2⟩ : ∃ G : Nat → ClassId, G 0 = cI ∧ G 1 = cN ∧ G 2 = cB := ⟨fun k => match k with | 0 => cI | 1 => cN | _ => cB, rfl, rfl, rfl⟩
  have hK : va_K D px_cl (px_tys G) s := by
    refine ⟨hKc, fun k q hq => ?_⟩
    match k, hq with
    | 0, hq => cases hq; rw [hG0]; exact ⟨fun _ _ => ⟨fun _ h => (by cases h), kI, hI2, compI, hI3⟩, hI1⟩
    | 1, hq => cases hq; rw [hG1]; exact ⟨fun _ _ => ⟨fun _ h => (by cases h), kN, hN3, compN, hN4⟩, kN, compN, hN3, hN4, hN1, hN5⟩
    | 2, hq => cases hq; rw [hG2]; exact ⟨fun _ _ => ⟨fun _ h => (by cases h), kB, hB3, compB, hB4⟩, kB, compB, hB3, hB4, hB1, hB5⟩
    | k + 3, hq => simp [px_tys] at hq
  have hl := lv_entry ([.ref b]) (n := 4) (Nat.le_of_ble_eq_true rfl)
  rw [lg_entry_eq]
  exact law_begin rfl hx hb hr hml hown hts hX hbl hlocks hK hN hO (fun _ => none, s.heap.size) (pure_whole s.heap.size L xs hL) s.heap [] _ ⟨Nat.le_refl _, rfl, fun a x h => by cases h⟩ va_S.rf hl
-- ===== YOUR PART ENDS =====
set_option maxHeartbeats 4000000 in
theorem lw_walk (l : Launch) (b : Addr) (xs : List Int32) : MetFree l x (headSpec (Jvm.Cond.code x code maxLocals ret :: tables_1) room_1) (lw_P b xs) (fun _ _ _ _ _ => True) lw_Q := by
  refine MetFree.of_bodyS (code := code) (maxLocals := maxLocals) (ret := ret) (by decide) ?_ ?_
  · intro args s m h hn
    obtain ⟨meth, c, h1, h2, h3, h4, h5, h6, -, -⟩ := Cond.code_spec hn (atoms_spec (ws := Jvm.Cond.code x code maxLocals ret :: tables_1) h _ List.mem_cons_self)
    exact ⟨meth, c, h1, h2, h3, h4, h5, h6⟩
  · intro p e s m args below meth c s₁ B hml0 hP _
    obtain ⟨rfl, hx, hbd, hgv⟩ := hP
    obtain ⟨scr, harrAt, hlist, hof, hsmall⟩ := hx
    obtain ⟨hcb, hkn, -, -⟩ := State.arrayAt?_spec harrAt
    have hown : s.vm.findClass R_law = some m.cls := findClass_of_methodNamed B.named
    have hts0 : ∀ c ∈ (Jvm.Cond.code x code maxLocals ret :: tables_1), c.before #[Value.ref b] s = true := atoms_spec (ws := Jvm.Cond.code x code maxLocals ret :: tables_1) B.pre
    have hts : ∀ w ∈ lw_tbl, w.before #[Value.ref b] s = true := k2_hts_sels lw_privs (fun w hw => hts0 w (List.mem_cons_of_mem _ hw)) lw_privs_ok
    have hml : c.maxLocals = 4 := B.maxLocals_eq (hts0 _ List.mem_cons_self)
    have X₀ : Stand p l e room_1 s m #[Value.ref b] below meth c s₁ [] 0 0 := Stand.of_body B
    have hh0 : s₁.heap = s.heap := by rw [B.state]; rfl
    have hsz : scr.slots.size = xs.length := by rw [← Array.length_toList, hlist, List.length_map]
    have hval : ∀ j : Nat, j < xs.length → scr.slots[j]? = some (.int (xs.getD j 0)) := fun j hj => by
      rw [← Array.getElem?_toList, hlist]
      simp [hj]
    have hbl : b < s.heap.size := (Array.getElem?_eq_some_iff.mp hcb).1
    have hX : va_X b xs.length (fun j => xs.getD j 0) s s.heap := ⟨scr, hcb, hof, hkn, hsz, hval⟩
    have K : W p l e room_1 s m #[Value.ref b] below meth c s₁.heap [] 0 0 (lw_Z below #[Value.ref b] s) (entryFrame m ([Value.ref b] : List Value).toArray 4) := by
      rw [hh0]
      exact whole_start l hbd ⟨B.exec, B.bytes, B.returns, hml, hown, hts, hX, hbl, B.notSynchronized, hgv⟩
    obtain ⟨t, a1, o, b1, b2, b3⟩ := K s₁ rfl X₀
    exact ⟨t, o, a1, b1, b2, b3⟩
theorem lw_pre_spec {args : Array Value} {s : State} (h : (Jvm.Cond.and given_1 narrow_1).before args s = true) (hr : rest_1_c.before args s = true) : ∃ (b : Addr) (xs : List Int32), lw_P b xs args s := by
  have hs := flat_of_before _ h
  have hq := flat_of_before _ hr
  have hc : (Cond.count 1).before args s = true := hs _ (by decide +kernel)
  have harr : (Cond.arrayOf (.arg 0) .int).before args s = true := hs _ (by decide +kernel)
  have hle : (Cond.le (.length (.arg 0)) (.int 2560)).before args s = true := hs _ (by decide +kernel)
  have hlen : (Cond.isInt (.length (.arg 0))).before args s = true := hq _ (by decide +kernel)
  have hall : (Cond.all (.arg 0) (.isInt (.elem (.arg 0) (.index 0)))).before args s = true := hq _ (by decide +kernel)
  obtain ⟨b, xs, hb, hx⟩ := State.ints_of_pre rfl harr hlen hall
  have hsm : xs.length < 2 ^ 31 := hx.choose_spec.2.2.2
  have hev : (Term.length (.arg 0)).eval args s none [] s = some (.int xs.length.toInt32) := hx.length_eval hb
  have hv := Cond.le_ints hev (show (Term.int 2560).eval args s none [] s = some (.int 2560) from rfl)
  have hd : xs.length.toInt32 ≤ 2560 := by
    simpa [Cond.before, Cond.holds, hv] using hle
  have hN : xs.length ≤ 2560 := (Int32.ofNat_le_ofNat hsm (by decide)).mp (show Int32.ofNat xs.length ≤ Int32.ofNat 2560 from hd)
  exact ⟨b, xs, Cond.one_arg hc (show args[0]? = some (.ref b) from hb), hx, hN, h⟩
theorem lw_comes (l : Launch) : Comes l x (Jvm.Cond.code x code maxLocals ret :: tables_1) room_1 (fun tb e args s => Calls_1 tb e args s ∧ rest_1 tb e args s ∧ Pre_1 tb e args s)
    (fun _ _ args s o t => lw_Q args s o t) := by
  intro p e ha hc hk s m args below hf hfit hheap happ hpre
  obtain ⟨b, xs, hP⟩ := lw_pre_spec hpre.2.2 hpre.2.1
  obtain ⟨k, o, h1, h2, h3, hQ⟩ := lw_walk l b xs p e ha hc hk s m args below hf ((Spec.applies_iff_loose hf).mp happ).1 hP trivial
  exact ⟨k, o, h1, h2, h3, hQ⟩
theorem lw_frame {s t : State} {o : Outcome} {args : Array Value} (h : Framed s o t [] 600000 7302250) :
    Framed s o t (fieldLocs frame_1_writes args s ++ arrayLocs frame_1_arrays args s ++ staticLocs frame_1_statics s) 600000 7302250 := h
theorem lw_limb (L : Cond) (hL : ∀ (args : Array Value) (s t : State), L.after args s (.returned (some (.int 1))) t = true) :
    ArmFor flags0 classFile x code maxLocals ret World_1 tables_1 room_1 Calls_1 rest_1 Pre_1
      (fun tb e a s o t => postC L tb e a s o t ∧ Framed s o t (fieldLocs frame_1_writes a s ++ arrayLocs frame_1_arrays a s ++ staticLocs frame_1_statics s) 600000 7302250) := by
  intro l _ _ _ p e ha hc hk s m args below hf hfit hheap happ hpre
  obtain ⟨k, o, h1, h2, h3, rfl, hF⟩ := lw_comes l p e ha hc hk s m args below hf hfit hheap happ hpre
  exact ⟨k, _, h1, h2, h3, hL args s _, lw_frame hF⟩
theorem i_vc : Claimed_1_1 ∧ Claimed_1_2 := ⟨lw_limb limb_1_1 (fun args s t => by simp [limb_1_1, Cond.after, Cond.holds, Cond.value]), lw_limb limb_1_2 (fun args s t => Cond.after_iff.mpr (by
  first | (rw [show limb_1_2 = Cond.eq .result (.int 1) from rfl, Cond.eq_ints (x := 1) (y := 1) rfl rfl]; simp; done) | (simp [limb_1_2, Cond.value, Term.eval]; done)))⟩
