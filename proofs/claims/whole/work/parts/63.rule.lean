/-! ONE RULE -/
theorem Rq.k3 {Kb Sb K S : Kp} {tl d p : Nat} {f1 f2 f3 : Int32} (h : Rq Kb Sb K S tl d p f1 f2 f3) (v : Int32) : Rq Kb Sb (up2 K 3 3 v) S tl d p v f2 f3 := by
  obtain ⟨a1, a2, a3, a4, a5, a6, a7, a8, a9⟩ := h
  exact ⟨by rw [up2_e (by omega)]; exact a1, by rw [up2_e (by omega)]; exact a2, a3, a4, fun i b1 b2 b3 b4 => by rw [up2_n b1]; exact a5 i b1 b2 b3 b4, a6, by simp [up2_at], by rw [up2_e (by omega)]; exact a8, by rw [up2_e (by omega)]; exact a9⟩
theorem Rq.k4 {Kb Sb K S : Kp} {tl d p : Nat} {f1 f2 f3 : Int32} (h : Rq Kb Sb K S tl d p f1 f2 f3) (v : Int32) : Rq Kb Sb (up2 K 3 4 v) S tl d p f1 v f3 := by
  obtain ⟨a1, a2, a3, a4, a5, a6, a7, a8, a9⟩ := h
  exact ⟨by rw [up2_e (by omega)]; exact a1, by rw [up2_e (by omega)]; exact a2, a3, a4, fun i b1 b2 b3 b4 => by rw [up2_n b1]; exact a5 i b1 b2 b3 b4, a6, by rw [up2_e (by omega)]; exact a7, by simp [up2_at], by rw [up2_e (by omega)]; exact a9⟩
theorem Rq.k5 {Kb Sb K S : Kp} {tl d p : Nat} {f1 f2 f3 : Int32} (h : Rq Kb Sb K S tl d p f1 f2 f3) (v : Int32) : Rq Kb Sb (up2 K 3 5 v) S tl d p f1 f2 v := by
  obtain ⟨a1, a2, a3, a4, a5, a6, a7, a8, a9⟩ := h
  exact ⟨by rw [up2_e (by omega)]; exact a1, by rw [up2_e (by omega)]; exact a2, a3, a4, fun i b1 b2 b3 b4 => by rw [up2_n b1]; exact a5 i b1 b2 b3 b4, a6, by rw [up2_e (by omega)]; exact a7, by rw [up2_e (by omega)]; exact a8, by simp [up2_at]⟩
/-- the draft where other cells change -/
theorem Dd.cg {K S K' S' : Kp} {d st : Nat} (h : Dd K S d st) (a : K' d = K d) (b : K' (d + 1) = K (d + 1)) (c : K' (d + 2) = K (d + 2)) (e : S' 4 = S 4) (f : S' 5 = S 5) (g : ∀ i, i = 8 ∨ i = 11 ∨ i = 12 ∨ i = 13 → S' 0 i = S 0 i) : Dd K' S' d st := by
  unfold Dd at *
  rw [a, b, c, e, f, g 8 (by omega), g 11 (by omega), g 12 (by omega), g 13 (by omega)]
  exact h
theorem ruleH (bs : Nat) {Kb Sb K S : Kp} {tl d p st : Nat} {f1 f2 f3 : Int32} (h : Rq Kb Sb K S tl d p f1 f2 f3) (hd : d = 4 ∨ d = 7) (hb : Jt Kb Sb tl) (hp : p < tl) (hD : Dd K S d st) (h15 : S 0 15 = 0) : ∃ r K' S', (∀ S0, f_RR_readHeights (bs + 3) (gm bs K S0) = some (r, gm bs K' S0)) ∧ (∀ K0, f_MO_readRule (bs + 76) 104 (gm bs K0 S) = some (gm bs K0 S')) ∧ Rres Kb Sb tl d 1 f2 f3 r K' S' := by
  have p1 : nI p + 1 = nI (p + 1) := nI_1 p
  have e1 : up2 K 3 3 1 3 2 = nI p := by rw [up2_e (by omega)]; exact h.2.1
  have e2 : up2 (up2 K 3 3 1) 3 2 (nI (p + 1)) 3 1 = nI d := by rw [up2_e (by omega), up2_e (by omega)]; exact h.1
  have hr : Rq Kb Sb (up2 (up2 (up2 K 3 3 1) 3 2 (nI (p + 1))) d 2 0) (up2 (up2 S 0 14 (nI (p + 1))) 0 8 0) tl d (p + 1) 1 f2 f3 :=
    (((h.k3 1).mv (show p + 1 ≤ tl by omega)).kd hd (Or.inl rfl) 2 0).s0 (by omega) (by omega) 0
  have hD' : Dd (up2 (up2 (up2 K 3 3 1) 3 2 (nI (p + 1))) d 2 0) (up2 (up2 S 0 14 (nI (p + 1))) 0 8 0) d 0 := by
    obtain ⟨q1, q2, q3, q4, q5, q6, q7, q8⟩ := hD
    have z : ∀ i, i ≠ 2 → up2 (up2 (up2 K 3 3 1) 3 2 (nI (p + 1))) d 2 0 d i = K d i := fun i hi => by rw [up2_e (by omega), up2_n (by omega), up2_n (by omega)]
    have y : ∀ i, i ≠ 8 → i ≠ 14 → up2 (up2 S 0 14 (nI (p + 1))) 0 8 0 0 i = S 0 i := fun i h1 h2 => by rw [up2_e (by omega), up2_e (by omega)]
    unfold Dd
    rw [z 3 (by omega), z 4 (by omega), z 5 (by omega), y 11 (by omega) (by omega), y 12 (by omega) (by omega), y 13 (by omega) (by omega)]
    exact ⟨by omega, by simp [up2_at, li0], by simp [up2_at, li0], fun i hi => absurd hi (by omega), q5, q6, q7, q8⟩
  obtain ⟨x, K1, r, K', s, S', i1, i2, i3, i4⟩ := heights_L bs hd hb 1 f2 f3 5 0 0 (p + 1) px_fuel px_fuel _ _ (by omega) (by unfold px_fuel; omega) (by unfold px_fuel; omega) hr hD' (by rw [up2_e (by omega), up2_e (by omega)]; exact h15) (by omega) (fun z => absurd z (by omega)) (fun _ => rfl)
  rw [nI_0] at i1
  refine ⟨r, K', S', fun S0 => ?_, fun K0 => ?_, i4⟩
  · unfold f_RR_readHeights
    simp only [p3_3, Option.bind_some, g3_2, e1, p1, p3_2, g3_1 bs (up2 (up2 K 3 3 1) 3 2 (nI (p + 1))) S0 e2 (show 0 < d by omega) (show d < 2 ^ 31 by omega), rp_2 bs _ S0 hd, i1]
    rcases i2 with ⟨rfl, rfl⟩ | ⟨rfl, rfl, y, i2⟩
    · rfl
    · simp only [ob_3, Option.bind_some, i2]
  · unfold f_MO_readRule f_MO_readHeights
    simp only [m14, h.2.2.1, Option.bind_some, p1, mp14, if_true, m_ob, mp8, i3]
    cases s <;> rfl
theorem ruleM (bs : Nat) {Kb Sb K S : Kp} {tl d p st : Nat} {f1 f2 f3 : Int32} (h : Rq Kb Sb K S tl d p f1 f2 f3) (hd : d = 4 ∨ d = 7) (hb : Jt Kb Sb tl) (hp : p < tl) (hs : 1 ≤ st) (hD : Dd K S d st) (h15 : S 0 15 = 0) : ∃ r K' S', (∀ S0, f_RR_readMargin (bs + 3) (gm bs K S0) = some (r, gm bs K' S0)) ∧ (∀ K0, f_MO_readRule (bs + 76) 109 (gm bs K0 S) = some (gm bs K0 S')) ∧ Rres Kb Sb tl d f1 1 f3 r K' S' := by
  have p1 : nI p + 1 = nI (p + 1) := nI_1 p
  have e1 : up2 K 3 4 1 3 2 = nI p := by rw [up2_e (by omega)]; exact h.2.1
  have hr := (h.k4 1).mv (show p + 1 ≤ tl by omega)
  obtain ⟨⟨a1, a2⟩, b1, b2⟩ := nm bs (l := 0) hr hd hb (by omega)
  simp only [up2_up2, nI_0] at a1 a2 b1 b2
  have hq := (sk_b (Sb 1) (show p + 1 ≤ tl by omega)).2.1
  by_cases c1 : nok (Sb 1) tl (p + 1) 0
  · have A := a1 c1
    have B := b1 c1
    have hP := npl_b (Sb 1) (show p + 1 ≤ tl by omega)
    have hv := c1.2.2.2.2
    have hr1 := (h.k4 1).mv hP
    generalize npl (Sb 1) tl (p + 1) = p1' at *
    generalize nv (Sb 1) tl (p + 1) = v at *
    have hr2 := hr1.s0 (c := 11) (by omega) (by omega) (nI v)
    obtain ⟨⟨a3, a4⟩, b3, b4⟩ := nm bs (l := 0) hr2 hd hb (by omega)
    simp only [up2_up2, nI_0] at a3 a4 b3 b4
    have vm : ¬ nI v = -1 := nI_m1 (by omega)
    have s15 : up2 (up2 S 0 14 (nI p1')) 0 11 (nI v) 0 15 = 0 := by rw [up2_e (by omega), up2_e (by omega)]; exact h15
    by_cases c2 : nok (Sb 1) tl p1' 0
    · have A2 := a3 c2
      have B2 := b3 c2
      have hP2 := npl_b (Sb 1) hP
      have hv2 := c2.2.2.2.2
      have hr3 := hr2.mv hP2
      generalize npl (Sb 1) tl p1' = p2 at *
      generalize nv (Sb 1) tl p1' = v2 at *
      simp only [up2_up2] at hr3
      have vm2 : ¬ nI v2 = -1 := nI_m1 (by omega)
      have g1 : up2 (up2 K 3 4 1) 3 2 (nI p2) 3 1 = nI d := by rw [up2_e (by omega), up2_e (by omega)]; exact h.1
      have g2 : up2 (up2 (up2 K 3 4 1) 3 2 (nI p2)) d 3 (nI v) 3 1 = nI d := by rw [up2_n (by omega)]; exact g1
      refine ⟨1, up2 (up2 (up2 (up2 K 3 4 1) 3 2 (nI p2)) d 3 (nI v)) d 4 (nI v2), up2 (up2 (up2 (up2 S 0 14 (nI p1')) 0 11 (nI v)) 0 14 (nI p2)) 0 12 (nI v2), fun S0 => ?_, fun K0 => ?_, p2, ((hr3.kd hd (Or.inl rfl) 3 (nI v)).kd hd (Or.inl rfl) 4 (nI v2)).s0 (by omega) (by omega) _, Or.inl ⟨rfl, ?_, st, hs, ?_⟩⟩
      · unfold f_RR_readMargin
        simp only [p3_4, Option.bind_some, g3_2, e1, p1, p3_2, ob_3, A, vm, if_false, A2, vm2, g3_1 bs _ S0 g1 (show 0 < d by omega) (show d < 2 ^ 31 by omega), rp_3 bs _ S0 hd, g3_1 bs _ S0 g2 (show 0 < d by omega) (show d < 2 ^ 31 by omega), rp_4 bs _ S0 hd]
      · unfold f_MO_readRule
        simp only [m14, h.2.2.1, Option.bind_some, p1, mp14, show ¬ (109 : Int32) = 104 by decide, if_false, if_true, m_ob, B, mp11, m15, s15, B2, mp12]
      · rw [up2_e (by omega), up2_e (by omega)]; exact s15
      · obtain ⟨q1, q2, q3, q4, q5, q6, q7, q8⟩ := hD
        have x1 : ∀ i, i ≠ 3 → i ≠ 4 → up2 (up2 (up2 (up2 K 3 4 1) 3 2 (nI p2)) d 3 (nI v)) d 4 (nI v2) d i = K d i := fun i h1 h2 => by rw [up2_e (by omega), up2_e (by omega), up2_n (by omega), up2_n (by omega)]
        have x2 : up2 (up2 (up2 (up2 K 3 4 1) 3 2 (nI p2)) d 3 (nI v)) d 4 (nI v2) (d + 1) = K (d + 1) := by rw [up2_n (by omega), up2_n (by omega), up2_n (by omega), up2_n (by omega)]
        have x3 : up2 (up2 (up2 (up2 K 3 4 1) 3 2 (nI p2)) d 3 (nI v)) d 4 (nI v2) (d + 2) = K (d + 2) := by rw [up2_n (by omega), up2_n (by omega), up2_n (by omega), up2_n (by omega)]
        have x4 : ∀ i, i ≠ 11 → i ≠ 12 → i ≠ 14 → up2 (up2 (up2 (up2 S 0 14 (nI p1')) 0 11 (nI v)) 0 14 (nI p2)) 0 12 (nI v2) 0 i = S 0 i := fun i h1 h2 h3 => by rw [up2_e (by omega), up2_e (by omega), up2_e (by omega), up2_e (by omega)]
        have x5 : ∀ i, i ≠ 0 → up2 (up2 (up2 (up2 S 0 14 (nI p1')) 0 11 (nI v)) 0 14 (nI p2)) 0 12 (nI v2) i = S i := fun i h1 => by rw [up2_n h1, up2_n h1, up2_n h1, up2_n h1]
        unfold Dd
        rw [x1 2 (by omega) (by omega), x1 5 (by omega) (by omega), x2, x3, x4 8 (by omega) (by omega) (by omega), x4 13 (by omega) (by omega) (by omega), x5 4 (by omega), x5 5 (by omega)]
        exact ⟨q1, q2, q3, q4, by simp [up2_at], by simp [up2_at], q7, q8⟩
    · have A2 := a4 c2
      obtain ⟨F, B2⟩ := b4 c2
      have hq2 := (sk_b (Sb 1) hP).2.1
      have hr3 := hr2.mv hq2
      generalize sk (Sb 1) tl p1' = q2 at *
      simp only [up2_up2] at hr3
      refine ⟨0, _, _, fun S0 => ?_, fun K0 => ?_, q2, (hr3.s0 (c := 15) (by omega) (by omega) 1).s0 (c := 12) (by omega) (by omega) F, Or.inr ⟨rfl, ?_⟩⟩
      · unfold f_RR_readMargin
        simp only [p3_4, Option.bind_some, g3_2, e1, p1, p3_2, ob_3, A, vm, if_false, A2, if_true]
      · unfold f_MO_readRule
        simp only [m14, h.2.2.1, Option.bind_some, p1, mp14, show ¬ (109 : Int32) = 104 by decide, if_false, if_true, m_ob, B, mp11, m15, s15, B2, mp12]
      · rw [up2_e (by omega)]; simp [up2_at]
  · have A := a2 c1
    obtain ⟨F, B⟩ := b2 c1
    have hr1 := (h.k4 1).mv hq
    generalize sk (Sb 1) tl (p + 1) = q at *
    have s15 : up2 (up2 (up2 S 0 14 (nI q)) 0 15 1) 0 11 F 0 15 = 1 := by rw [up2_e (by omega)]; simp [up2_at]
    refine ⟨0, _, _, fun S0 => ?_, fun K0 => ?_, q, ((hr1.s0 (c := 15) (by omega) (by omega) 1).s0 (c := 11) (by omega) (by omega) F).s0 (c := 12) (by omega) (by omega) 0, Or.inr ⟨rfl, ?_⟩⟩
    · unfold f_RR_readMargin
      simp only [p3_4, Option.bind_some, g3_2, e1, p1, p3_2, ob_3, A, if_true]
    · unfold f_MO_readRule
      simp only [m14, h.2.2.1, Option.bind_some, p1, mp14, show ¬ (109 : Int32) = 104 by decide, if_false, if_true, m_ob, B, mp11, m15, s15, show ¬ (1 : Int32) = 0 by decide, mp12]
    · rw [up2_e (by omega)]; exact s15
theorem ruleO (bs : Nat) {Kb Sb K S : Kp} {tl d p st : Nat} {f1 f2 f3 : Int32} (h : Rq Kb Sb K S tl d p f1 f2 f3) (hd : d = 4 ∨ d = 7) (hb : Jt Kb Sb tl) (hp : p < tl) (hs : 1 ≤ st) (hD : Dd K S d st) (h15 : S 0 15 = 0) : ∃ r K' S', (∀ S0, f_RR_readOrder (bs + 3) (gm bs K S0) = some (r, gm bs K' S0)) ∧ (∀ K0, f_MO_readRule (bs + 76) 111 (gm bs K0 S) = some (gm bs K0 S')) ∧ Rres Kb Sb tl d f1 f2 1 r K' S' := by
  have p1 : nI p + 1 = nI (p + 1) := nI_1 p
  have e1 : up2 K 3 5 1 3 2 = nI p := by rw [up2_e (by omega)]; exact h.2.1
  have hr := (h.k5 1).mv (show p + 1 ≤ tl by omega)
  obtain ⟨n1, n2, n3⟩ := nx bs hr hd hb
  have hq := (sk_b (Sb 1) (show p + 1 ≤ tl by omega)).2
  simp only [up2_up2] at n1 n2 n3
  generalize sk (Sb 1) tl (p + 1) = q at *
  have g1 : up2 (up2 K 3 5 1) 3 2 (nI q) 3 1 = nI d := by rw [up2_e (by omega), up2_e (by omega)]; exact h.1
  have g2 : ∀ v, up2 (up2 (up2 K 3 5 1) 3 2 (nI q)) d 5 v 3 2 = nI q := fun v => by rw [up2_n (by omega)]; simp [up2_at]
  have q1 : nI q + 1 = nI (q + 1) := nI_1 q
  have q0 : nI q + 0 = nI q := nI_add q 0
  by_cases c : q < tl ∧ (Sb 1 q = 110 ∨ Sb 1 q = 102 ∨ Sb 1 q = 97 ∨ Sb 1 q = 116)
  · obtain ⟨c0, c⟩ := c
    simp only [if_pos c0] at n1 n2
    generalize hv : Sb 1 q = v at *
    have s13 : up2 (up2 S 0 14 (nI q)) 0 13 v 0 13 = v := by simp [up2_at]
    have s14 : up2 (up2 (up2 S 0 14 (nI q)) 0 13 v) 0 15 0 0 14 = nI q := by rw [up2_e (by omega), up2_e (by omega)]; simp [up2_at]
    have s15 : up2 (up2 (up2 S 0 14 (nI q)) 0 13 v) 0 15 0 0 15 = 0 := by simp [up2_at]
    refine ⟨1, up2 (up2 (up2 (up2 K 3 5 1) 3 2 (nI q)) d 5 v) 3 2 (nI (q + 1)), up2 (up2 (up2 (up2 S 0 14 (nI q)) 0 13 v) 0 15 0) 0 14 (nI (q + 1)), fun S0 => ?_, fun K0 => ?_, q + 1, (((n3.kd hd (Or.inl rfl) 5 v).s0 (c := 13) (by omega) (by omega) v).s0 (c := 15) (by omega) (by omega) 0).mv (by omega), Or.inl ⟨rfl, by rw [up2_e (by omega)]; exact s15, st, hs, ?_⟩⟩
    · unfold f_RR_readOrder
      rcases c with rfl | rfl | rfl | rfl
      · simp only [p3_5, Option.bind_some, g3_2, e1, p1, p3_2, ob_3, n1, if_true, g3_1 bs _ S0 g1 (show 0 < d by omega) (show d < 2 ^ 31 by omega), rp_5 bs _ S0 hd, g2, q1]
      · simp only [p3_5, Option.bind_some, g3_2, e1, p1, p3_2, ob_3, n1, show ¬ (102 : Int32) = 110 by decide, if_true, if_false, g3_1 bs _ S0 g1 (show 0 < d by omega) (show d < 2 ^ 31 by omega), rp_5 bs _ S0 hd, g2, q1]
      · simp only [p3_5, Option.bind_some, g3_2, e1, p1, p3_2, ob_3, n1, show ¬ (97 : Int32) = 110 by decide, show ¬ (97 : Int32) = 102 by decide, if_true, if_false, g3_1 bs _ S0 g1 (show 0 < d by omega) (show d < 2 ^ 31 by omega), rp_5 bs _ S0 hd, g2, q1]
      · simp only [p3_5, Option.bind_some, g3_2, e1, p1, p3_2, ob_3, n1, show ¬ (116 : Int32) = 110 by decide, show ¬ (116 : Int32) = 102 by decide, show ¬ (116 : Int32) = 97 by decide, if_true, if_false, g3_1 bs _ S0 g1 (show 0 < d by omega) (show d < 2 ^ 31 by omega), rp_5 bs _ S0 hd, g2, q1]
    · unfold f_MO_readRule
      rcases c with rfl | rfl | rfl | rfl
      · simp only [m14, h.2.2.1, Option.bind_some, p1, mp14, show ¬ (111 : Int32) = 104 by decide, show ¬ (111 : Int32) = 109 by decide, if_false, if_true, m_ob, n2, mp13, m13, s13, mp15, s14, m15, s15, q1]
      · simp only [m14, h.2.2.1, Option.bind_some, p1, mp14, show ¬ (111 : Int32) = 104 by decide, show ¬ (111 : Int32) = 109 by decide, if_false, if_true, m_ob, n2, mp13, m13, s13, show ¬ (102 : Int32) = 110 by decide, mp15, s14, m15, s15, q1]
      · simp only [m14, h.2.2.1, Option.bind_some, p1, mp14, show ¬ (111 : Int32) = 104 by decide, show ¬ (111 : Int32) = 109 by decide, if_false, if_true, m_ob, n2, mp13, m13, s13, show ¬ (97 : Int32) = 110 by decide, show ¬ (97 : Int32) = 102 by decide, mp15, s14, m15, s15, q1]
      · simp only [m14, h.2.2.1, Option.bind_some, p1, mp14, show ¬ (111 : Int32) = 104 by decide, show ¬ (111 : Int32) = 109 by decide, if_false, if_true, m_ob, n2, mp13, m13, s13, show ¬ (116 : Int32) = 110 by decide, show ¬ (116 : Int32) = 102 by decide, show ¬ (116 : Int32) = 97 by decide, mp15, s14, m15, s15, q1]
    · obtain ⟨q1, q2, q3, q4, q5, q6, q7, q8⟩ := hD
      have x1 : ∀ i, i ≠ 5 → up2 (up2 (up2 (up2 K 3 5 1) 3 2 (nI q)) d 5 v) 3 2 (nI (q + 1)) d i = K d i := fun i h1 => by rw [up2_n (by omega), up2_e (by omega), up2_n (by omega), up2_n (by omega)]
      have x2 : up2 (up2 (up2 (up2 K 3 5 1) 3 2 (nI q)) d 5 v) 3 2 (nI (q + 1)) (d + 1) = K (d + 1) := by rw [up2_n (by omega), up2_n (by omega), up2_n (by omega), up2_n (by omega)]
      have x3 : up2 (up2 (up2 (up2 K 3 5 1) 3 2 (nI q)) d 5 v) 3 2 (nI (q + 1)) (d + 2) = K (d + 2) := by rw [up2_n (by omega), up2_n (by omega), up2_n (by omega), up2_n (by omega)]
      have x4 : ∀ i, i ≠ 13 → i ≠ 15 → i ≠ 14 → up2 (up2 (up2 (up2 S 0 14 (nI q)) 0 13 v) 0 15 0) 0 14 (nI (q + 1)) 0 i = S 0 i := fun i h1 h2 h3 => by rw [up2_e (by omega), up2_e (by omega), up2_e (by omega), up2_e (by omega)]
      have x5 : ∀ i, i ≠ 0 → up2 (up2 (up2 (up2 S 0 14 (nI q)) 0 13 v) 0 15 0) 0 14 (nI (q + 1)) i = S i := fun i h1 => by rw [up2_n h1, up2_n h1, up2_n h1, up2_n h1]
      have x6 : up2 (up2 (up2 (up2 S 0 14 (nI q)) 0 13 v) 0 15 0) 0 14 (nI (q + 1)) 0 13 = v := by rw [up2_e (by omega), up2_e (by omega)]; exact s13
      have x7 : up2 (up2 (up2 (up2 K 3 5 1) 3 2 (nI q)) d 5 v) 3 2 (nI (q + 1)) d 5 = v := by rw [up2_n (by omega)]; simp [up2_at]
      unfold Dd
      rw [x1 2 (by omega), x1 3 (by omega), x1 4 (by omega), x2, x3, x4 8 (by omega) (by omega) (by omega), x4 11 (by omega) (by omega) (by omega), x4 12 (by omega) (by omega) (by omega), x5 4 (by omega), x5 5 (by omega), x6, x7]
      exact ⟨q1, q2, q3, q4, q5, q6, rfl, c⟩
  · have w1 : ∃ v, (∀ S0, f_RR_nextSign (bs + 3) (gm bs (up2 (up2 K 3 5 1) 3 2 (nI (p + 1))) S0) = some (v, gm bs (up2 (up2 K 3 5 1) 3 2 (nI q)) S0)) ∧ ¬ v = 110 ∧ ¬ v = 102 ∧ ¬ v = 97 ∧ ¬ v = 116 := by
      refine ⟨_, n1, ?_⟩
      by_cases z : q < tl
      · rw [if_pos z]; exact ⟨fun y => c ⟨z, by simp [y]⟩, fun y => c ⟨z, by simp [y]⟩, fun y => c ⟨z, by simp [y]⟩, fun y => c ⟨z, by simp [y]⟩⟩
      · rw [if_neg z]; decide
    have w2 : ∃ v, (∀ K0, f_MO_look (bs + 76) (gm bs K0 (up2 S 0 14 (nI (p + 1)))) = some (v, gm bs K0 (up2 S 0 14 (nI q)))) ∧ ¬ v = 110 ∧ ¬ v = 102 ∧ ¬ v = 97 ∧ ¬ v = 116 := by
      refine ⟨_, n2, ?_⟩
      by_cases z : q < tl
      · rw [if_pos z]; exact ⟨fun y => c ⟨z, by simp [y]⟩, fun y => c ⟨z, by simp [y]⟩, fun y => c ⟨z, by simp [y]⟩, fun y => c ⟨z, by simp [y]⟩⟩
      · rw [if_neg z]; decide
    obtain ⟨u, k1, k2, k3, k4, k5⟩ := w1
    obtain ⟨v, l1, l2, l3, l4, l5⟩ := w2
    have s13 : up2 (up2 S 0 14 (nI q)) 0 13 v 0 13 = v := by simp [up2_at]
    have s14 : up2 (up2 (up2 S 0 14 (nI q)) 0 13 v) 0 15 1 0 14 = nI q := by rw [up2_e (by omega), up2_e (by omega)]; simp [up2_at]
    have s15 : up2 (up2 (up2 S 0 14 (nI q)) 0 13 v) 0 15 1 0 15 = 1 := by simp [up2_at]
    refine ⟨0, _, up2 (up2 (up2 S 0 14 (nI q)) 0 13 v) 0 15 1, fun S0 => ?_, fun K0 => ?_, q, (n3.s0 (c := 13) (by omega) (by omega) v).s0 (c := 15) (by omega) (by omega) 1, Or.inr ⟨rfl, s15⟩⟩
    · unfold f_RR_readOrder
      simp only [p3_5, Option.bind_some, g3_2, e1, p1, p3_2, ob_3, k1, k2, k3, k4, k5, if_false]
    · unfold f_MO_readRule
      simp only [m14, h.2.2.1, Option.bind_some, p1, mp14, show ¬ (111 : Int32) = 104 by decide, show ¬ (111 : Int32) = 109 by decide, if_false, m_ob, l1, mp13, m13, s13, l2, l3, l4, l5, mp15, s14, m15, s15, show ¬ (1 : Int32) = 0 by decide, q0, up2_id s14]
