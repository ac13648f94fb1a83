/-! THE RULE OF HEIGHTS -/
def Rres (Kb Sb : Kp) (tl d : Nat) (f1 f2 f3 : Int32) (r : Int32) (K' S' : Kp) : Prop := ∃ p', Rq Kb Sb K' S' tl d p' f1 f2 f3 ∧ ((r = 1 ∧ S' 0 15 = 0 ∧ ∃ st, 1 ≤ st ∧ Dd K' S' d st) ∨ (r = 0 ∧ S' 0 15 = 1))
def mh (n o0 : Nat) (M310 : px_M) : Option (((Unit) ⊕ Unit) × px_M) :=
    (px_gi 11 15 M310 o0).bind fun v312 =>
    if v312 = 0 then
    (px_ob 11 M310 o0).bind fun _ =>
    (f_MO_look o0 M310).bind fun (v322, M320) =>
    if v322 = 44 then
    (px_gi 11 14 M320 o0).bind fun v329 =>
    (px_pt 11 14 M320 o0 (.int (v329 + 1))).bind fun M332 =>
    f_MO_readHeights_L7 n o0 1 M332
    else
    (px_gi 11 14 M320 o0).bind fun v324 =>
    (px_pt 11 14 M320 o0 (.int (v324 + 0))).bind fun M327 =>
    f_MO_readHeights_L7 n o0 0 M327
    else
    (px_gi 11 14 M310 o0).bind fun v315 =>
    (px_pt 11 14 M310 o0 (.int (v315 + 0))).bind fun M318 =>
    f_MO_readHeights_L7 n o0 0 M318
theorem mo_hz (g o : Nat) (M : px_M) : f_MO_readHeights_L7 (g + 1) o 0 M = some (.inl (), M) := by simp only [f_MO_readHeights_L7, if_true]
theorem mo_hs (bs : Nat) (K0 : Kp) {S S1 S2 S4 : Kp} {st g : Nat} {sg v y : Int32} (hst : st < 5) (z15 : S 0 15 = 0) (n0 : f_MO_look (bs + 76) (gm bs K0 S) = some (sg, gm bs K0 S1)) (a8 : S1 0 8 = nI st) (n1 : f_MO_number (bs + 76) 1 (gm bs K0 S1) = some (v, gm bs K0 S2)) (b15 : S2 0 15 = 0) (b8 : S2 0 8 = nI st) (bl : 0 < st → S2 4 (st - 1) < v) (n2 : f_MO_number (bs + 76) 1 (gm bs K0 (up2 S2 4 st v)) = some (y, gm bs K0 S4)) (c8 : S4 0 8 = nI st) : f_MO_readHeights_L7 (g + 1) (bs + 76) 1 (gm bs K0 S) = mh g (bs + 76) (gm bs K0 (up2 (up2 S4 5 st y) 0 8 (nI (st + 1)))) := by
  have e1 : ¬ nI st = 5 := by rw [li5, nI_eq (by omega) (by omega)]; omega
  have e2 : up2 S2 4 st v 0 8 = nI st := by rw [up2_n (by omega)]; exact b8
  have e3 : up2 S4 5 st y 0 8 = nI st := by rw [up2_n (by omega)]; exact c8
  have e4 : nI st + 1 = nI (st + 1) := nI_1 st
  by_cases z : st = 0
  · have z1 : nI st ≤ 0 := by rw [li0, nI_leI (by omega) (by omega)]; omega
    simp only [f_MO_readHeights_L7, show ¬ (1 : Int32) = 0 by decide, if_false, m15, z15, Option.bind_some, if_true, m_ob, n0, m14, m8, a8, e1, n1, b15, b8, z1, m9, ms4 bs K0 S2 v (show st < 6 by omega), m10, e2, n2, ms5 bs K0 S4 y (show st < 6 by omega), e3, mp8, e4, mh]
  · have z1 : ¬ nI st ≤ 0 := by rw [li0, nI_leI (by omega) (by omega)]; omega
    have z2 : nI st - 1 = nI (st - 1) := by rw [li1, pk_sub (by omega)]
    have z3 := bl (by omega)
    simp only [f_MO_readHeights_L7, show ¬ (1 : Int32) = 0 by decide, if_false, m15, z15, Option.bind_some, if_true, m_ob, n0, m14, m8, a8, e1, n1, b15, b8, z1, z2, ma4 bs K0 S2 (show st - 1 < 6 by omega), z3, m9, ms4 bs K0 S2 v (show st < 6 by omega), m10, e2, n2, ms5 bs K0 S4 y (show st < 6 by omega), e3, mp8, e4, mh]
/-- the draft after a step more -/
theorem Dd.step {K S : Kp} {d st : Nat} (h : Dd K S d st) (hd : d = 4 ∨ d = 7) (hs : st < 5) (a b c q q' x y : Int32) : Dd (up2 (up2 (up2 (up2 (up2 K 3 2 a) (d + 1) st x) (d + 2) st y) d 2 (nI (st + 1))) 3 2 q) (up2 (up2 (up2 (up2 (up2 (up2 S 0 14 b) 4 st x) 0 14 c) 5 st y) 0 8 (nI (st + 1))) 0 14 q') d (st + 1) := by
  obtain ⟨h1, h2, h3, h4, h5, h6, h7, h8⟩ := h
  refine ⟨by omega, ?_, ?_, fun i hi => ?_, ?_, ?_, ?_, ?_⟩
  · rw [up2_n (by omega)]; simp [up2_at]
  · rw [up2_e (by omega)]; simp [up2_at]
  · have e1 : up2 (up2 (up2 (up2 (up2 K 3 2 a) (d + 1) st x) (d + 2) st y) d 2 (nI (st + 1))) 3 2 q (d + 1) i = if i = st then x else K (d + 1) i := by
      rw [up2_n (by omega), up2_n (by omega), up2_n (by omega), up2_at, up2_n (by omega)]; simp
    have e2 : up2 (up2 (up2 (up2 (up2 K 3 2 a) (d + 1) st x) (d + 2) st y) d 2 (nI (st + 1))) 3 2 q (d + 2) i = if i = st then y else K (d + 2) i := by
      rw [up2_n (by omega), up2_n (by omega), up2_at, up2_n (by omega), up2_n (by omega)]; simp
    have e3 : up2 (up2 (up2 (up2 (up2 (up2 S 0 14 b) 4 st x) 0 14 c) 5 st y) 0 8 (nI (st + 1))) 0 14 q' 4 i = if i = st then x else S 4 i := by
      rw [up2_n (by omega), up2_n (by omega), up2_n (by omega), up2_n (by omega), up2_at, up2_n (by omega)]; simp
    have e4 : up2 (up2 (up2 (up2 (up2 (up2 S 0 14 b) 4 st x) 0 14 c) 5 st y) 0 8 (nI (st + 1))) 0 14 q' 5 i = if i = st then y else S 5 i := by
      rw [up2_n (by omega), up2_n (by omega), up2_at, up2_n (by omega), up2_n (by omega), up2_n (by omega)]; simp
    rw [e1, e2, e3, e4]
    by_cases c : i = st
    · simp [c]
    · simp only [c, if_false]; exact h4 i (by omega)
  all_goals simp only [up2_at, show ¬ d = d + 1 by omega, show ¬ d = d + 2 by omega, show ¬ d = 3 by omega, show ¬ 0 = 4 by omega, show ¬ 0 = 5 by omega, show ¬ 3 = 2 by omega, show ¬ 4 = 2 by omega, show ¬ 5 = 2 by omega, show ¬ 11 = 8 by omega, show ¬ 11 = 14 by omega, show ¬ 12 = 8 by omega, show ¬ 12 = 14 by omega, show ¬ 13 = 8 by omega, show ¬ 13 = 14 by omega, false_and, and_false, if_false]
  · exact h5
  · exact h6
  · exact h7
  · exact h8
theorem heights_L (bs : Nat) {Kb Sb : Kp} {tl d : Nat} (hd : d = 4 ∨ d = 7) (hb : Jt Kb Sb tl) (f1 f2 f3 : Int32) : ∀ (m st sp p f g : Nat) (K S : Kp), st + m = 5 → m < f → m + 1 < g → Rq Kb Sb K S tl d p f1 f2 f3 → Dd K S d st → S 0 15 = 0 → sp ≤ 999 → (0 < st → S 4 (st - 1) = nI sp) → (st = 0 → sp = 0) →
    ∃ x K1 r K' s S', (∀ S0, f_RR_readHeights_L27 f (bs + 3) (nI sp) (nI st) (gm bs K S0) = some (x, gm bs K1 S0)) ∧ ((x = .inr r ∧ K1 = K') ∨ (x = .inl () ∧ r = 0 ∧ ∃ y, ∀ S0, f_RR_nextSign (bs + 3) (gm bs K1 S0) = some (y, gm bs K' S0))) ∧ (∀ K0, f_MO_readHeights_L7 g (bs + 76) 1 (gm bs K0 S) = some (s, gm bs K0 S')) ∧ Rres Kb Sb tl d f1 f2 f3 r K' S' := by
  intro m
  induction m with
  | zero =>
    intro st sp p f g K S hm hf hg h hD h15 hsp hl h0
    obtain ⟨f, rfl⟩ : ∃ n', f = n' + 1 := ⟨f - 1, by omega⟩
    obtain ⟨g, rfl⟩ : ∃ n', g = n' + 1 := ⟨g - 1, by omega⟩
    obtain rfl : st = 5 := by omega
    obtain ⟨n1, n2, n3⟩ := nx bs h hd hb
    refine ⟨.inl (), K, 0, _, .inr (), up2 (up2 S 0 14 (nI (sk (Sb 1) tl p))) 0 15 1, fun S0 => ?_, Or.inr ⟨rfl, rfl, _, n1⟩, fun K0 => ?_, ?_⟩
    · simp only [f_RR_readHeights_L27, show (5 : Int32) ≤ nI 5 by decide, if_true]
    · have e8 : up2 S 0 14 (nI (sk (Sb 1) tl p)) 0 8 = 5 := by rw [up2_e (by omega), hD.2.2.1, li5]
      simp only [f_MO_readHeights_L7, show ¬ (1 : Int32) = 0 by decide, if_false, m15, h15, Option.bind_some, if_true, m_ob, n2, m14, m8, e8, mp15]
    · exact ⟨_, n3.s0 (by omega) (by omega) 1, Or.inr ⟨rfl, by simp [up2_at]⟩⟩
  | succ m ih =>
    intro st sp p f g K S hm hf hg h hD h15 hsp hl h0
    obtain ⟨f, rfl⟩ : ∃ n', f = n' + 1 := ⟨f - 1, by omega⟩
    obtain ⟨g, rfl⟩ : ∃ n', g = n' + 2 := ⟨g - 2, by omega⟩
    have hp := h.2.2.2.1
    have st5 : ¬ 5 ≤ nI st := by rw [li5, nI_leI (by omega) (by omega)]; omega
    have st5' : ¬ nI st = 5 := by rw [li5, nI_eq (by omega) (by omega)]; omega
    have sp1 : nI sp + 1 = nI (sp + 1) := nI_1 sp
    have s8 := hD.2.2.1
    obtain ⟨n1, n2, n3⟩ := nx bs h hd hb
    obtain ⟨⟨a1, a2⟩, _⟩ := nm bs (l := sp + 1) h hd hb (by omega)
    obtain ⟨_, b1, b2⟩ := nm bs (l := 1) n3 hd hb (by omega)
    rw [nok_sk _ hp, npl_sk _ hp, nv_sk _ hp, up2_up2] at b1
    rw [nok_sk _ hp, sk_id _ hp, up2_up2] at b2
    rw [← li1] at b1 b2
    have S1_8 : up2 S 0 14 (nI (sk (Sb 1) tl p)) 0 8 = nI st := by rw [up2_e (by omega)]; exact s8
    by_cases c1 : nok (Sb 1) tl p 1
    · by_cases c2 : nok (Sb 1) tl p (sp + 1)
      · -- a speed that may be
        have A := a1 c2
        have B := b1 c1
        have hv := c2.2.2.2
        have hr1 : Rq Kb Sb (up2 K 3 2 (nI (npl (Sb 1) tl p))) (up2 S 0 14 (nI (npl (Sb 1) tl p))) tl d (npl (Sb 1) tl p) f1 f2 f3 := h.mv (npl_b _ hp)
        have hr2 := hr1.s4 st (nI (nv (Sb 1) tl p))
        obtain ⟨⟨a3, a4⟩, _⟩ := nm bs (l := 1) hr1 hd hb (by omega)
        obtain ⟨_, b3, b4⟩ := nm bs (l := 1) hr2 hd hb (by omega)
        rw [← li1] at a3 a4 b3 b4
        have hp1 := npl_b (Sb 1) hp
        generalize hP : npl (Sb 1) tl p = p1 at *
        generalize hV : nv (Sb 1) tl p = v at *
        have S2_15 : up2 S 0 14 (nI p1) 0 15 = 0 := by rw [up2_e (by omega)]; exact h15
        have S2_8 : up2 S 0 14 (nI p1) 0 8 = nI st := by rw [up2_e (by omega)]; exact s8
        have S2_l : 0 < st → up2 S 0 14 (nI p1) 4 (st - 1) < nI v := fun z => by
          rw [up2_n (by omega), hl z, nI_ltI (by omega) (by omega)]; omega
        have vm : ¬ nI v = -1 := nI_m1 (by omega)
        by_cases c3 : nok (Sb 1) tl p1 1
        · have A2 := a3 c3
          have B2 := b3 c3
          have hv2 := c3.2.2.2
          have hp2 := npl_b (Sb 1) hp1
          rw [up2_up2] at A2
          generalize hP2 : npl (Sb 1) tl p1 = p2 at *
          generalize hV2 : nv (Sb 1) tl p1 = v2 at *
          have vm2 : ¬ nI v2 = -1 := nI_m1 (by omega)
          have kd2 : up2 K 3 2 (nI p2) d 2 = nI st := by rw [up2_n (by omega)]; exact hD.2.1
          have g31 : up2 K 3 2 (nI p2) 3 1 = nI d := by rw [up2_e (by omega)]; exact h.1
          have add := fun S0 => rs_add bs (up2 K 3 2 (nI p2)) S0 hd kd2 (show st < 5 by omega) (nI v) (nI v2)
          have S4_8 : up2 (up2 (up2 S 0 14 (nI p1)) 4 st (nI v)) 0 14 (nI p2) 0 8 = nI st := by rw [up2_e (by omega), up2_n (by omega)]; exact S2_8
          have hr3 : Rq Kb Sb (up2 (up2 (up2 (up2 K 3 2 (nI p2)) (d + 1) st (nI v)) (d + 2) st (nI v2)) d 2 (nI (st + 1))) (up2 (up2 (up2 (up2 (up2 S 0 14 (nI p1)) 4 st (nI v)) 0 14 (nI p2)) 5 st (nI v2)) 0 8 (nI (st + 1))) tl d p2 f1 f2 f3 := by
            have q1 := hr2.mv hp2
            rw [up2_up2] at q1
            exact ((((q1.kd hd (by omega) st (nI v)).kd hd (by omega) st (nI v2)).kd hd (by omega) 2 (nI (st + 1))).s5 st (nI v2)).s0 (by omega) (by omega) _
          obtain ⟨x1, x2, x3⟩ := nx bs hr3 hd hb
          have hq2 := (sk_b (Sb 1) hp2).2
          have S6_15 : up2 (up2 (up2 (up2 (up2 S 0 14 (nI p1)) 4 st (nI v)) 0 14 (nI p2)) 5 st (nI v2)) 0 8 (nI (st + 1)) 0 15 = 0 := by
            rw [up2_e (by omega), up2_n (by omega), up2_e (by omega), up2_n (by omega)]; exact S2_15
          have mo := fun K0 => mo_hs bs K0 (g := g + 1) (st := st) (by omega) h15 (n2 K0) S1_8 (B K0) S2_15 S2_8 S2_l (B2 K0) S4_8
          have dd := fun q q' => hD.step hd (show st < 5 by omega) (nI p2) (nI p1) (nI p2) q q' (nI v) (nI v2)
          generalize hQ : sk (Sb 1) tl p2 = q2 at *
          have S7_14 : up2 (up2 (up2 (up2 (up2 (up2 S 0 14 (nI p1)) 4 st (nI v)) 0 14 (nI p2)) 5 st (nI v2)) 0 8 (nI (st + 1))) 0 14 (nI q2) 0 14 = nI q2 := by simp [up2_at]
          have K4_2 : up2 (up2 (up2 (up2 (up2 K 3 2 (nI p2)) (d + 1) st (nI v)) (d + 2) st (nI v2)) d 2 (nI (st + 1))) 3 2 (nI q2) 3 2 = nI q2 := by simp [up2_at]
          have q1' : nI q2 + 1 = nI (q2 + 1) := nI_1 q2
          by_cases c4 : q2 < tl ∧ Sb 1 q2 = 44
          · -- a comma: on
            have hr4 := x3.mv (show q2 + 1 ≤ tl by omega)
            rw [up2_up2, up2_up2] at hr4
            have st1 : nI st + 1 = nI (st + 1) := nI_1 st
            obtain ⟨x, K1, r, K', s, S', i1, i2, i3, i4⟩ := ih (st + 1) v (q2 + 1) f (g + 1) _ _ (by omega) (by omega) (by omega) hr4 (dd _ _) (by rw [up2_e (by omega)]; exact S6_15) (by omega) (fun _ => by
              rw [show st + 1 - 1 = st by omega, up2_n (by omega), up2_n (by omega), up2_n (by omega), up2_n (by omega)]; simp [up2_at]) (fun z => absurd z (by omega))
            refine ⟨x, K1, r, K', s, S', fun S0 => ?_, i2, fun K0 => ?_, i4⟩
            · rw [← i1 S0]
              simp only [f_RR_readHeights_L27, st5, if_false, ob_3, sp1, A, vm, A2, vm2, g3_1 bs (up2 K 3 2 (nI p2)) S0 g31 (by omega) (by omega), rd_ob bs _ S0 hd, add, Option.bind_some, f_RR_pass, x1, c4, if_true, g3_2, K4_2, q1', p3_2, up2_up2, show ¬ (1 : Int32) = 0 by decide, st1]
            · rw [← i3 K0, mo K0]
              simp only [mh, m15, S6_15, Option.bind_some, if_true, m_ob, x2, c4, m14, S7_14, q1', mp14, up2_up2]
          · have c4a : ¬ (if q2 < tl then Sb 1 q2 else -1) = 44 := by
              by_cases z : q2 < tl
              · rw [if_pos z]; exact fun y => c4 ⟨z, y⟩
              · rw [if_neg z]; decide
            have c4b : ¬ (if q2 < tl then Sb 1 q2 else 0) = 44 := by
              by_cases z : q2 < tl
              · rw [if_pos z]; exact fun y => c4 ⟨z, y⟩
              · rw [if_neg z]; decide
            refine ⟨.inr 1, _, 1, _, .inl (), _, fun S0 => ?_, Or.inl ⟨rfl, rfl⟩, fun K0 => ?_, q2, x3, Or.inl ⟨rfl, ?_, st + 1, by omega, dd _ _⟩⟩
            · simp only [f_RR_readHeights_L27, st5, if_false, ob_3, sp1, A, vm, A2, vm2, g3_1 bs (up2 K 3 2 (nI p2)) S0 g31 (by omega) (by omega), rd_ob bs _ S0 hd, add, Option.bind_some, f_RR_pass, x1, c4a, if_true]
            · rw [mo K0]
              simp only [mh, m15, S6_15, Option.bind_some, if_true, m_ob, x2, c4b, if_false, m14, S7_14, mp14, up2_up2, mo_hz, show nI q2 + 0 = nI q2 from nI_add q2 0]
            · rw [up2_e (by omega)]; exact S6_15
        · -- no height
          have A2 := a4 c3
          obtain ⟨F, B2⟩ := b4 c3
          rw [up2_up2] at A2
          have hq1 := (sk_b (Sb 1) hp1).2.1
          generalize hQ : sk (Sb 1) tl p1 = q1 at *
          have S4_8 : up2 (up2 (up2 (up2 S 0 14 (nI p1)) 4 st (nI v)) 0 14 (nI q1)) 0 15 1 0 8 = nI st := by rw [up2_e (by omega), up2_e (by omega), up2_n (by omega)]; exact S2_8
          have S6_15 : up2 (up2 (up2 (up2 (up2 (up2 S 0 14 (nI p1)) 4 st (nI v)) 0 14 (nI q1)) 0 15 1) 5 st F) 0 8 (nI (st + 1)) 0 15 = 1 := by
            rw [up2_e (by omega), up2_n (by omega)]; simp [up2_at]
          have S6_14 : up2 (up2 (up2 (up2 (up2 (up2 S 0 14 (nI p1)) 4 st (nI v)) 0 14 (nI q1)) 0 15 1) 5 st F) 0 8 (nI (st + 1)) 0 14 = nI q1 := by
            rw [up2_e (by omega), up2_n (by omega), up2_e (by omega)]; simp [up2_at]
          refine ⟨.inr 0, up2 K 3 2 (nI q1), 0, up2 K 3 2 (nI q1), .inl (), _, fun S0 => ?_, Or.inl ⟨rfl, rfl⟩, fun K0 => ?_, q1, ?_, Or.inr ⟨rfl, S6_15⟩⟩
          · simp only [f_RR_readHeights_L27, st5, if_false, ob_3, sp1, A, vm, A2, Option.bind_some, if_true]
          · rw [mo_hs bs K0 (g := g + 1) (st := st) (by omega) h15 (n2 K0) S1_8 (B K0) S2_15 S2_8 S2_l (B2 K0) S4_8]
            simp only [mh, m15, S6_15, Option.bind_some, show ¬ (1 : Int32) = 0 by decide, if_false, m14, S6_14, mp14, mo_hz, show nI q1 + 0 = nI q1 from nI_add q1 0, up2_id S6_14]
          · have q1 := hr2.mv hq1
            rw [up2_up2] at q1
            exact ((q1.s0 (by omega) (by omega) 1).s5 st F).s0 (by omega) (by omega) _
      · -- a speed that does not rise
        have A := a2 c2
        have B := b1 c1
        have hv := c1.2.2.2
        have c2' : nv (Sb 1) tl p ≤ sp := by
          apply Nat.le_of_not_lt
          intro z
          exact c2 ⟨c1.1, c1.2.1, c1.2.2.1, by omega, c1.2.2.2.2⟩
        have hq1 := (sk_b (Sb 1) hp).2.1
        generalize hP : npl (Sb 1) tl p = p1 at *
        generalize hV : nv (Sb 1) tl p = v at *
        generalize hQ : sk (Sb 1) tl p = q at *
        have s0 : 0 < st := Nat.pos_of_ne_zero (fun z => by have := h0 z; omega)
        have S2_15 : up2 S 0 14 (nI p1) 0 15 = 0 := by rw [up2_e (by omega)]; exact h15
        have S2_8 : up2 S 0 14 (nI p1) 0 8 = nI st := by rw [up2_e (by omega)]; exact s8
        have S2_l : ¬ up2 S 0 14 (nI p1) 4 (st - 1) < nI v := by
          rw [up2_n (by omega), hl s0, nI_ltI (by omega) (by omega)]; omega
        have S1_14 : up2 S 0 14 (nI q) 0 14 = nI q := by simp [up2_at]
        have z1 : ¬ nI st ≤ 0 := by rw [li0, nI_leI (by omega) (by omega)]; omega
        have z2 : nI st - 1 = nI (st - 1) := by rw [li1, pk_sub (by omega)]
        have S3_15 : up2 (up2 S 0 14 (nI q)) 0 15 1 0 15 = 1 := by simp [up2_at]
        refine ⟨.inr 0, _, 0, _, .inr (), _, fun S0 => ?_, Or.inl ⟨rfl, rfl⟩, fun K0 => ?_, q, n3.s0 (by omega) (by omega) 1, Or.inr ⟨rfl, S3_15⟩⟩
        · simp only [f_RR_readHeights_L27, st5, if_false, ob_3, sp1, A, Option.bind_some, if_true]
        · simp only [f_MO_readHeights_L7, show ¬ (1 : Int32) = 0 by decide, if_false, m15, h15, Option.bind_some, if_true, m_ob, n2, m14, S1_14, m8, S1_8, st5', B, S2_15, S2_8, z1, z2, m9, ma4 bs K0 (up2 S 0 14 (nI p1)) (show st - 1 < 6 by omega), S2_l, mp14, up2_up2, mp15, S3_15]
    · have c2 : ¬ nok (Sb 1) tl p (sp + 1) := fun z => c1 (nok_m z (by omega))
      have A := a2 c2
      obtain ⟨F, B⟩ := b2 c1
      generalize hQ : sk (Sb 1) tl p = q at *
      have S3_15 : up2 (up2 S 0 14 (nI q)) 0 15 1 0 15 = 1 := by simp [up2_at]
      refine ⟨.inr 0, _, 0, _, .inr (), _, fun S0 => ?_, Or.inl ⟨rfl, rfl⟩, fun K0 => ?_, q, n3.s0 (by omega) (by omega) 1, Or.inr ⟨rfl, S3_15⟩⟩
      · simp only [f_RR_readHeights_L27, st5, if_false, ob_3, sp1, A, Option.bind_some, if_true]
      · simp only [f_MO_readHeights_L7, show ¬ (1 : Int32) = 0 by decide, if_false, m15, h15, Option.bind_some, if_true, m_ob, n2, m14, m8, S1_8, st5', B, S3_15]
