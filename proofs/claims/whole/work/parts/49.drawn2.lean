theorem Wx.sy {K0 S S' : Kp} {st np nn nw nb b ln : Nat} (y : Sy S S') (h : Wx K0 S st np nn nw nb b ln) : Wx K0 S' st np nn nw nb b ln := by
  obtain ⟨p1, p2, jn, s1, s2, bd, hb, l1⟩ := h
  have e0 := y 0 (by omega)
  have nm : nmOf S' b = nmOf S b := by funext l; unfold nmOf; rw [y 18 (by omega)]
  refine ⟨by rw [e0]; exact p1, p2, jn.cg rfl (fun _ _ _ => rfl) (by rw [e0]) (fun i _ _ => y i (by omega)), by rw [e0]; exact s1, s2, y.bd bd, hb, ?_⟩
  obtain ⟨⟨w, q1, q2⟩, q3, q4, q5⟩ := l1
  refine ⟨⟨w, q1, by rw [y 16 (by omega)]; exact q2⟩, q3, by rw [y 17 (by omega)]; exact q4, fun l hl => ?_⟩
  rw [nm, y 18 (by omega)]
  exact q5 l hl
theorem Sy_krn {S S' : Kp} (y : Sy S S') (np : Nat) (a b : Int32) : krn S' np a b = krn S np a b := by
  unfold krn
  rw [y 7 (by omega), y 8 (by omega), y 9 (by omega)]
theorem Sy_bsum {S S' : Kp} (y : Sy S S') (np i ln : Nat) : ∀ k, bsum S' np i ln k = bsum S np i ln k
  | 0 => rfl
  | k + 1 => by simp only [bsum, Sy_bsum y np i ln k, Sy_krn y, y 6 (by omega), y 11 (by omega)]
theorem Sy_hgt {S S' : Kp} (y : Sy S S') (st : Nat) (x : Int32) : hgt S' st x = hgt S st x := by
  unfold hgt
  rw [y 2 (by omega), y 3 (by omega)]
theorem Sy_nm {S S' : Kp} (y : Sy S S') (b l : Nat) : nmOf S' b l = nmOf S b l := by unfold nmOf; rw [y 18 (by omega)]
theorem Sy_lnl {S S' : Kp} (y : Sy S S') (i : Nat) : lnl S' i = lnl S i := by unfold lnl; rw [y 10 (by omega)]
theorem Sy_lwd {S S' : Kp} (y : Sy S S') (np b : Nat) (hh : Int32) (l : Nat) : lwd S' np b hh l = lwd S np b hh l := by
  unfold lwd fld
  rw [Sy_nm y, Sy_lnl y, Sy_bsum y, y 0 (by omega)]
theorem Sy_wdt {S S' : Kp} (y : Sy S S') (np b : Nat) (hh : Int32) : ∀ k, wdt S' np b hh k = wdt S np b hh k
  | 0 => rfl
  | k + 1 => by simp only [wdt, Sy_lwd y, Sy_wdt y np b hh k]
theorem Sy_bwd {S S' : Kp} (y : Sy S S') (np b ln : Nat) (hh : Int32) : bwd S' np b ln hh = bwd S np b ln hh := by
  unfold bwd
  rw [Sy_wdt y, y 0 (by omega), y 20 (by omega)]
theorem op_drawn {bs : Nat} {K S : Kp} (x y z w : Int32) (h : J K S) : ∃ r K' S', f_SB_drawn bs x y z w (gm bs K S) = some (r, gm bs K' S) ∧ f_MO_drawn (bs + 76) x y z w (gm bs K' S) = some (r, gm bs K' S') ∧ J K' S' := by
  obtain ⟨tl, rs, st, np, nn, nw, nb, jt, jr, jl, jn, jw, jb, js⟩ := id h
  by_cases c1 : 0 ≤ x ∧ x < nI nb
  · obtain ⟨b, hb, rfl⟩ := nIr c1.1 c1.2 (by have := jb.1; omega)
    have hb8 : b < 8 := by have := jb.1; omega
    by_cases c2 : 1 ≤ y ∧ y ≤ 999
    · by_cases c3 : 0 ≤ z
      · obtain ⟨t, ht, rfl⟩ := nIx c3
        have c4 : ¬ nI t < 0 := nI_pos ht
        obtain ⟨ln, cx, mx, lx, wx⟩ := Jlx jr jl jn jw jb hb
        have l1 := cx.2.2.2.2.2.1
        have ln5 := l1.2.1
        obtain ⟨r, q, p, a1, a2, a3⟩ := lo_arrange bs K S cx
        have y1 := Kx_y K r q p
        obtain ⟨a, f, d1, d3, d4, d5, d6, d7, d8, d9⟩ := sh_lay bs (Kx K r q p) S (lx.ky y1) y
        have y2 := Kz_y (Kx K r q p) a f
        have lz := (lx.ky y1).ky y2
        have dx : Dx (Kz (Kx K r q p) a f) S np b ln (hgt S st y) := by
          unfold Dx
          rw [Kz_26, Kz_27]
          exact ⟨d3, d4, d5, d6, d7, d8, d9⟩
        have hp : ∀ i, i < ln → Kz (Kx K r q p) a f 24 i = nI (srt (gobB S nw b) ln i) := fun i hi => by
          unfold Kz
          rw [rw2_n (by omega), rw2_n (by omega), Kx_24]
          exact a3 i hi
        have lp := sb_drawnL bs (Kz (Kx K r q p) a f) S lz dx hp w ln 0 px_fuel t (by omega) (by unfold px_fuel; omega) ht
        rw [nI_0] at lp
        have fb := fit_b (sz := szl S nw b ln) ln 0 t
        have cls : f_SB_drawn bs (nI b) y (nI t) w (gm bs K S) = some (if (fit (szl S nw b ln) ln 0 t).2 < ln then itv S np b ln (hgt S st y) (srt (gobB S nw b) ln (fit (szl S nw b ln) ln 0 t).2) (fit (szl S nw b ln) ln 0 t).2 (fit (szl S nw b ln) ln 0 t).1 w else -1, gm bs (Kz (Kx K r q p) a f) S) := by
          unfold f_SB_drawn
          simp only [ob_0, w_isBoard bs K S _ jb.2.2.1 jb.1, c1, w_isSpeed, c2, c3, and_self, if_true, if_false, Option.bind_some, show ¬ (1 : Int32) = 0 by decide, g0_8, ar22 bs _ S hb8, g0_10, sb_in bs K S jr, rs_5 bs K S jr, ob_23, a1, g0_11, sb_in bs _ S (y1.jr jr), ob_26, d1, lp]
          by_cases e : (fit (szl S nw b ln) ln 0 t).2 < ln
          · simp only [e, if_true]
          · simp only [e, if_false]
        by_cases cw : 0 ≤ w ∧ w ≤ 2
        · have cw1 : ¬ w < 0 := by grind
          obtain ⟨r', q', p', e1, e2, e3⟩ := mo_rankAll bs K (Kz (Kx K r q p) a f) S mx
          have sy := Sx_y S r' q' p'
          have ml := mo_drawnL bs K (Kz (Kx K r q p) a f) S (Sx S r' q' p') hb8 jn l1 sy (fun i hi => by rw [Sx_23]; exact e3 i hi) y w ln 0 px_fuel t (by omega) (by unfold px_fuel; omega) ht
          rw [nI_0] at ml
          have ww := wx.sy sy
          have s17 : Sx S r' q' p' 17 b = nI ln := by rw [Sx_n (by omega)]; exact l1.2.2.1
          have mh := mo_height bs (Kz (Kx K r q p) a f) (Sx S r' q' p') y ww.2.2.2.1 ww.2.2.2.2.1
          rw [if_pos c2, Sy_hgt sy] at mh
          refine ⟨_, Kz (Kx K r q p) a f, Sx S r' q' p', cls, ?_, (Sx_z S r' q' p').J ((y1.tr y2).J h)⟩
          generalize hF : fit (szl S nw b ln) ln 0 t = F at fb ml ⊢
          obtain ⟨t1, i1⟩ := F
          dsimp only at fb ml ⊢
          by_cases e : i1 < ln
          · have g1 : ¬ nI i1 = nI ln := by rw [nI_eq (by omega) (by omega)]; omega
            have sb := srt_b (lt := gobB S nw b) ln i1 e
            have tb := fb.2.2.2 (by omega)
            generalize hl : srt (gobB S nw b) ln i1 = l at sb
            have z2 := (l1.2.2.2 l sb).2
            obtain ⟨len, z⟩ := jn.2.2.2.1 _ z2
            have z12 := z.2.1
            have nn10 := jn.1
            have el := JnOne_lnl z
            have tb' : t1 ≤ len := by
              unfold szl at tb
              rw [hl, el] at tb
              exact tb
            have g2 : 5 * nI b + nI l = nI (5 * b + l) := by rw [li5, pk_mul, nI_add]
            have s18 : Sx S r' q' p' 18 (5 * b + l) = nI (nmOf S b l) := by rw [Sx_n (by omega)]; exact (l1.2.2.2 l sb).1
            have s19 : Sx S r' q' p' 19 (5 * b + l) = S 19 (5 * b + l) := by rw [Sx_n (by omega)]
            have s23 : Sx S r' q' p' 23 i1 = nI l := by rw [Sx_23, e3 i1 e, hl]
            have s05 : Sx S r' q' p' 0 5 = S 0 5 := by rw [Sx_n (by omega)]
            have s06 : Sx S r' q' p' 0 6 = S 0 6 := by rw [Sx_n (by omega)]
            have bw := mo_boardWidth bs K (Kz (Kx K r q p) a f) (Sx S r' q' p') ww c2
            rw [Sy_bwd sy, Sy_hgt sy] at bw
            have lwq := mo_lineWidth bs K (Kz (Kx K r q p) a f) (Sx S r' q' p') ww sb c2
            rw [Sy_lwd sy, Sy_hgt sy] at lwq
            have wd := mo_width bs K (Kz (Kx K r q p) a f) (Sx S r' q' p') ww.1 ww.2.1 ww.2.2.1.2.1 jn.1 z2 (sy.jn1 z) ww.2.2.2.1 ww.2.2.2.2.1 c2
            rw [Sy_bsum sy, Sy_hgt sy] at wd
            have fe : bsum S np (nmOf S b l) len len * hgt S st y = fld S np b l (hgt S st y) := by unfold fld; rw [el]
            rw [fe] at wd
            unfold f_MO_drawn itv xof
            by_cases w0 : w = 0
            · subst w0
              by_cases t0 : t1 = 0
              · subst t0
                simp only [m_ob, q_isBoard bs _ S _ jb.2.1, c1, q_isSpeed, c2, c4, and_self, if_true, if_false, Option.bind_some, show ¬ (1 : Int32) = 0 by decide, show ¬ (0 : Int32) < 0 by decide, show (0 : Int32) ≤ 2 by decide, e1, ml, m31, ma17 bs _ _ hb8, s17, g1, m37, ma23 bs _ _ (show i1 < 5 by omega), s23, m32, g2, ma18 bs _ _ (show 5 * b + l < 40 by omega), s18, m33, ma19 bs _ _ (show 5 * b + l < 40 by omega), s19, mh, show nI 0 = (0 : Int32) from rfl, e, hl]
              · have g3 : ¬ nI t1 = 0 := nI_ne0 (by omega) (by omega)
                have g4 : nI t1 - 1 = nI (t1 - 1) := by rw [li1, pk_sub (by omega)]
                have lt := mo_letter bs (Kz (Kx K r q p) a f) (Sx S r' q' p') (show nmOf S b l < 10 by omega) (show t1 - 1 < 12 by omega)
                rw [Sx_n (show 11 ≤ 20 by omega)] at lt
                simp only [m_ob, q_isBoard bs _ S _ jb.2.1, c1, q_isSpeed, c2, c4, and_self, if_true, if_false, Option.bind_some, show ¬ (1 : Int32) = 0 by decide, show ¬ (0 : Int32) < 0 by decide, show (0 : Int32) ≤ 2 by decide, e1, ml, m31, ma17 bs _ _ hb8, s17, g1, m37, ma23 bs _ _ (show i1 < 5 by omega), s23, m32, g2, ma18 bs _ _ (show 5 * b + l < 40 by omega), s18, m33, ma19 bs _ _ (show 5 * b + l < 40 by omega), s19, mh, g3, g4, lt, t0, e, hl]
            · by_cases w2 : w = 2
              · subst w2
                simp only [m_ob, q_isBoard bs _ S _ jb.2.1, c1, q_isSpeed, c2, c4, and_self, if_true, if_false, Option.bind_some, show ¬ (1 : Int32) = 0 by decide, show ¬ (2 : Int32) < 0 by decide, show (2 : Int32) ≤ 2 by decide, show ¬ (2 : Int32) = 0 by decide, e1, ml, m31, ma17 bs _ _ hb8, s17, g1, m37, ma23 bs _ _ (show i1 < 5 by omega), s23, m32, g2, ma18 bs _ _ (show 5 * b + l < 40 by omega), s18, m33, ma19 bs _ _ (show 5 * b + l < 40 by omega), s19, mh, m5, m6, s05, s06, e, hl]
              · have w1 : w = 1 := by grind
                subst w1
                by_cases t0 : t1 = 0
                · subst t0
                  by_cases ca : S 19 (5 * b + l) = 2
                  · simp only [m_ob, q_isBoard bs _ S _ jb.2.1, c1, q_isSpeed, c2, c4, and_self, if_true, if_false, Option.bind_some, show ¬ (1 : Int32) = 0 by decide, show ¬ (1 : Int32) < 0 by decide, show (1 : Int32) ≤ 2 by decide, show ¬ (1 : Int32) = 2 by decide, e1, ml, m31, ma17 bs _ _ hb8, s17, g1, m37, ma23 bs _ _ (show i1 < 5 by omega), s23, m32, g2, ma18 bs _ _ (show 5 * b + l < 40 by omega), s18, m33, ma19 bs _ _ (show 5 * b + l < 40 by omega), s19, mh, m5, m6, s05, s06, bw, lwq, wd, ca, show nI 0 = (0 : Int32) from rfl, e, hl]
                  · simp only [m_ob, q_isBoard bs _ S _ jb.2.1, c1, q_isSpeed, c2, c4, and_self, if_true, if_false, Option.bind_some, show ¬ (1 : Int32) = 0 by decide, show ¬ (1 : Int32) < 0 by decide, show (1 : Int32) ≤ 2 by decide, show ¬ (1 : Int32) = 2 by decide, e1, ml, m31, ma17 bs _ _ hb8, s17, g1, m37, ma23 bs _ _ (show i1 < 5 by omega), s23, m32, g2, ma18 bs _ _ (show 5 * b + l < 40 by omega), s18, m33, ma19 bs _ _ (show 5 * b + l < 40 by omega), s19, mh, m5, m6, s05, s06, bw, lwq, ca, show nI 0 = (0 : Int32) from rfl, e, hl]
                · have g3 : ¬ nI t1 = 0 := nI_ne0 (by omega) (by omega)
                  have g4 : nI t1 - 1 = nI (t1 - 1) := by rw [li1, pk_sub (by omega)]
                  have bf' := mo_before bs K (Kz (Kx K r q p) a f) (Sx S r' q' p') ww.1 ww.2.1 (show nmOf S b l < 10 by omega) (sy.jn1 z) (show t1 - 1 ≤ len by omega)
                  rw [Sy_bsum sy] at bf'
                  by_cases ca : S 19 (5 * b + l) = 2
                  · simp only [m_ob, q_isBoard bs _ S _ jb.2.1, c1, q_isSpeed, c2, c4, and_self, if_true, if_false, Option.bind_some, show ¬ (1 : Int32) = 0 by decide, show ¬ (1 : Int32) < 0 by decide, show (1 : Int32) ≤ 2 by decide, show ¬ (1 : Int32) = 2 by decide, e1, ml, m31, ma17 bs _ _ hb8, s17, g1, m37, ma23 bs _ _ (show i1 < 5 by omega), s23, m32, g2, ma18 bs _ _ (show 5 * b + l < 40 by omega), s18, m33, ma19 bs _ _ (show 5 * b + l < 40 by omega), s19, mh, m5, m6, s05, s06, bw, lwq, g3, g4, bf', ca, t0, el, e, hl]
                  · simp only [m_ob, q_isBoard bs _ S _ jb.2.1, c1, q_isSpeed, c2, c4, and_self, if_true, if_false, Option.bind_some, show ¬ (1 : Int32) = 0 by decide, show ¬ (1 : Int32) < 0 by decide, show (1 : Int32) ≤ 2 by decide, show ¬ (1 : Int32) = 2 by decide, e1, ml, m31, ma17 bs _ _ hb8, s17, g1, m37, ma23 bs _ _ (show i1 < 5 by omega), s23, m32, g2, ma18 bs _ _ (show 5 * b + l < 40 by omega), s18, m33, ma19 bs _ _ (show 5 * b + l < 40 by omega), s19, mh, m5, m6, s05, s06, bw, lwq, g3, g4, bf', ca, t0, el, e, hl]
          · have g1 : nI i1 = nI ln := by rw [nI_eq (by omega) (by omega)]; omega
            unfold f_MO_drawn
            simp only [m_ob, q_isBoard bs _ S _ jb.2.1, c1, q_isSpeed, c2, c4, cw1, cw.2, and_self, if_true, if_false, Option.bind_some, show ¬ (1 : Int32) = 0 by decide, e1, ml, m31, ma17 bs _ _ hb8, s17, g1, e]
        · have i0 : ∀ l i t, itv S np b ln (hgt S st y) l i t w = -1 := fun l i t => by
            unfold itv
            rw [if_neg (by intro e; subst e; exact cw (by decide)), if_neg (by intro e; subst e; exact cw (by decide)), if_neg (by intro e; subst e; exact cw (by decide))]
          rw [i0] at cls
          rw [ite_self] at cls
          refine ⟨-1, Kz (Kx K r q p) a f, S, cls, ?_, (y1.tr y2).J h⟩
          unfold f_MO_drawn
          by_cases cw1 : w < 0
          · simp only [m_ob, q_isBoard bs _ S _ jb.2.1, c1, q_isSpeed, c2, c4, cw1, and_self, if_true, if_false, Option.bind_some, show ¬ (1 : Int32) = 0 by decide]
          · have cw2 : ¬ w ≤ 2 := by grind
            simp only [m_ob, q_isBoard bs _ S _ jb.2.1, c1, q_isSpeed, c2, c4, cw1, cw2, and_self, if_true, if_false, Option.bind_some, show ¬ (1 : Int32) = 0 by decide]
      · have c4 : z < 0 := by grind
        refine ⟨-1, K, S, ?_, ?_, h⟩
        · unfold f_SB_drawn
          simp only [ob_0, w_isBoard bs K S _ jb.2.2.1 jb.1, c1, w_isSpeed, c2, c3, and_self, if_true, if_false, Option.bind_some, show ¬ (1 : Int32) = 0 by decide]
        · unfold f_MO_drawn
          simp only [m_ob, q_isBoard bs _ S _ jb.2.1, c1, q_isSpeed, c2, c4, and_self, if_true, if_false, Option.bind_some, show ¬ (1 : Int32) = 0 by decide]
    · refine ⟨-1, K, S, ?_, ?_, h⟩
      · unfold f_SB_drawn
        simp only [ob_0, w_isBoard bs K S _ jb.2.2.1 jb.1, c1, w_isSpeed, c2, and_self, if_true, if_false, Option.bind_some, show ¬ (1 : Int32) = 0 by decide]
      · unfold f_MO_drawn
        simp only [m_ob, q_isBoard bs _ S _ jb.2.1, c1, q_isSpeed, c2, and_self, if_true, if_false, Option.bind_some, show ¬ (1 : Int32) = 0 by decide]
  · refine ⟨-1, K, S, ?_, ?_, h⟩
    · unfold f_SB_drawn
      simp only [ob_0, w_isBoard bs K S _ jb.2.2.1 jb.1, c1, if_true, if_false, Option.bind_some]
    · unfold f_MO_drawn
      simp only [m_ob, q_isBoard bs _ S _ jb.2.1, c1, if_true, if_false, Option.bind_some]
