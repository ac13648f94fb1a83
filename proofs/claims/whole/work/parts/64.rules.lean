/-! ALL RULES -/
theorem mo_r59 {n o : Nat} {x1 x2 x3 x4 s : Int32} {M M1 : px_M} (h15 : px_gi 11 15 M o = some 0) (ob : px_ob 11 M o = some ()) (hl : f_MO_look o M = some (s, M1)) : f_MO_rules_L59 (n + 1) o x1 x2 x3 x4 1 M = f_MO_rules_J137 (f_MO_rules_L59 n o) o x1 x2 x3 x4 1 s (if (s = 104 ∧ x1 = 0) ∨ (s = 109 ∧ x2 = 0) ∨ (s = 111 ∧ x3 = 0) then 0 else 1) o M1 := by
  by_cases c1 : s = 104
  · subst c1
    by_cases y1 : x1 = 0
    · simp only [f_MO_rules_L59, show ¬ (1 : Int32) = 0 by decide, if_false, h15, Option.bind_some, if_true, ob, hl, y1, show ¬ (104 : Int32) = 109 by decide, show ¬ (104 : Int32) = 111 by decide, and_self, true_or]
    · simp only [f_MO_rules_L59, show ¬ (1 : Int32) = 0 by decide, if_false, h15, Option.bind_some, if_true, ob, hl, y1, show ¬ (104 : Int32) = 109 by decide, show ¬ (104 : Int32) = 111 by decide, and_false, false_and, or_self]
  · by_cases c2 : s = 109
    · subst c2
      by_cases y1 : x2 = 0
      · simp only [f_MO_rules_L59, show ¬ (1 : Int32) = 0 by decide, if_false, h15, Option.bind_some, if_true, ob, hl, y1, show ¬ (109 : Int32) = 104 by decide, show ¬ (109 : Int32) = 111 by decide, and_self, false_and, true_or, or_true]
      · simp only [f_MO_rules_L59, show ¬ (1 : Int32) = 0 by decide, if_false, h15, Option.bind_some, if_true, ob, hl, y1, show ¬ (109 : Int32) = 104 by decide, show ¬ (109 : Int32) = 111 by decide, and_false, false_and, or_self]
    · by_cases c3 : s = 111
      · subst c3
        by_cases y1 : x3 = 0
        · simp only [f_MO_rules_L59, show ¬ (1 : Int32) = 0 by decide, if_false, h15, Option.bind_some, if_true, ob, hl, y1, show ¬ (111 : Int32) = 104 by decide, show ¬ (111 : Int32) = 109 by decide, and_self, false_and, or_true]
        · simp only [f_MO_rules_L59, show ¬ (1 : Int32) = 0 by decide, if_false, h15, Option.bind_some, if_true, ob, hl, y1, show ¬ (111 : Int32) = 104 by decide, show ¬ (111 : Int32) = 109 by decide, and_false, false_and, or_self]
      · simp only [f_MO_rules_L59, show ¬ (1 : Int32) = 0 by decide, if_false, h15, Option.bind_some, if_true, ob, hl, c1, c2, c3, false_and, or_self]
theorem mo_end1 (bs n : Nat) (K S : Kp) (h : S 0 15 = 1) (x1 x2 x3 x4 : Int32) : f_MO_rules_L59 (n + 1) (bs + 76) x1 x2 x3 x4 1 (gm bs K S) = some (x4, gm bs K S) := by
  simp only [f_MO_rules_L59, show ¬ (1 : Int32) = 0 by decide, if_false, m15, h, Option.bind_some]
theorem mo_end0 (n o : Nat) (M : px_M) (x1 x2 x3 x4 : Int32) : f_MO_rules_L59 (n + 1) o x1 x2 x3 x4 0 M = some (x4, M) := by
  simp only [f_MO_rules_L59, if_true]
/-- a rule that may be: the letter is there, and was not before -/
theorem rule_any (bs : Nat) {Kb Sb Kp0 K S : Kp} {tl d p st a b c : Nat} (h : Rq Kb Sb K S tl d p (nI a) (nI b) (nI c)) (hd : d = 4 ∨ d = 7) (hb : Jt Kb Sb tl) (hp : p < tl) (hs : 1 ≤ st) (hD : Dd K S d st) (h15 : S 0 15 = 0) (ha : a ≤ 1) (hb1 : b ≤ 1) (hc : c ≤ 1) (n1 : ∀ S0, f_RR_nextSign (bs + 3) (gm bs Kp0 S0) = some (Sb 1 p, gm bs K S0)) (al : (Sb 1 p = 104 ∧ a = 0) ∨ (Sb 1 p = 109 ∧ b = 0) ∨ (Sb 1 p = 111 ∧ c = 0)) :
    ∃ a' b' c' r K' S', a' ≤ 1 ∧ b' ≤ 1 ∧ c' ≤ 1 ∧ a' + b' + c' = a + b + c + 1 ∧ (∀ S0, f_RR_readRule (bs + 3) (gm bs Kp0 S0) = some (r, gm bs K' S0)) ∧ (∀ K0 rec x4, f_MO_rules_J137 rec (bs + 76) (nI a) (nI b) (nI c) x4 1 (Sb 1 p) 0 (bs + 76) (gm bs K0 S) = f_MO_rules_J207 rec (bs + 76) (nI a') (nI b') (nI c') (x4 + 1) 1 (gm bs K0 S')) ∧ Rres Kb Sb tl d (nI a') (nI b') (nI c') r K' S' := by
  have u0 : nI 0 = 0 := rfl
  have u1 : nI 1 = 1 := rfl
  have up : up2 S 0 15 0 = S := up2_id h15
  rcases al with ⟨e, rfl⟩ | ⟨e, rfl⟩ | ⟨e, rfl⟩
  · obtain ⟨r, K', S', k1, k2, k3⟩ := ruleH bs h hd hb hp hD h15
    refine ⟨1, b, c, r, K', S', by omega, hb1, hc, by omega, fun S0 => ?_, fun K0 rec x4 => ?_, k3⟩
    · have g1 := h.2.2.2.2.2.2.1
      have r01 : r = 0 ∨ r = 1 := by obtain ⟨_, _, z⟩ := k3; rcases z with z | z <;> simp [z.1]
      unfold f_RR_readRule
      simp only [ob_3, Option.bind_some, n1, e, if_true, g3_3, g1, u0, k1]
      rcases r01 with rfl | rfl
      · simp only [if_true]
      · simp only [show ¬ (1 : Int32) = 0 by decide, if_false]
    · rw [e]
      obtain rfl | rfl : b = 0 ∨ b = 1 := by omega
      all_goals obtain rfl | rfl : c = 0 ∨ c = 1 := by omega
      all_goals simp only [f_MO_rules_J137, f_MO_rules_J163, f_MO_rules_J180, f_MO_rules_J197, u0, u1, true_or, if_true, mp15, up, Option.bind_some, m15, h15, show ¬ (1 : Int32) = 0 by decide, if_false, show ¬ (104 : Int32) = 109 by decide, show ¬ (104 : Int32) = 111 by decide, m_ob, k2]
  · obtain ⟨r, K', S', k1, k2, k3⟩ := ruleM bs h hd hb hp hs hD h15
    refine ⟨a, 1, c, r, K', S', ha, by omega, hc, by omega, fun S0 => ?_, fun K0 rec x4 => ?_, k3⟩
    · have g1 := h.2.2.2.2.2.2.2.1
      have r01 : r = 0 ∨ r = 1 := by obtain ⟨_, _, z⟩ := k3; rcases z with z | z <;> simp [z.1]
      unfold f_RR_readRule
      simp only [ob_3, Option.bind_some, n1, e, show ¬ (109 : Int32) = 104 by decide, if_false, if_true, g3_4, g1, u0, k1]
      rcases r01 with rfl | rfl
      · simp only [if_true]
      · simp only [show ¬ (1 : Int32) = 0 by decide, if_false]
    · rw [e]
      obtain rfl | rfl : a = 0 ∨ a = 1 := by omega
      all_goals obtain rfl | rfl : c = 0 ∨ c = 1 := by omega
      all_goals simp only [f_MO_rules_J137, f_MO_rules_J163, f_MO_rules_J180, f_MO_rules_J197, u0, u1, true_or, if_true, mp15, up, Option.bind_some, m15, h15, show ¬ (1 : Int32) = 0 by decide, if_false, show ¬ (109 : Int32) = 104 by decide, show ¬ (109 : Int32) = 111 by decide, m_ob, k2]
  · obtain ⟨r, K', S', k1, k2, k3⟩ := ruleO bs h hd hb hp hs hD h15
    refine ⟨a, b, 1, r, K', S', ha, hb1, by omega, by omega, fun S0 => ?_, fun K0 rec x4 => ?_, k3⟩
    · have g1 := h.2.2.2.2.2.2.2.2
      have r01 : r = 0 ∨ r = 1 := by obtain ⟨_, _, z⟩ := k3; rcases z with z | z <;> simp [z.1]
      unfold f_RR_readRule
      simp only [ob_3, Option.bind_some, n1, e, show ¬ (111 : Int32) = 104 by decide, show ¬ (111 : Int32) = 109 by decide, if_false, if_true, g3_5, g1, u0, k1]
      rcases r01 with rfl | rfl
      · simp only [if_true]
      · simp only [show ¬ (1 : Int32) = 0 by decide, if_false]
    · rw [e]
      obtain rfl | rfl : a = 0 ∨ a = 1 := by omega
      all_goals obtain rfl | rfl : b = 0 ∨ b = 1 := by omega
      all_goals simp only [f_MO_rules_J137, f_MO_rules_J163, f_MO_rules_J180, f_MO_rules_J197, u0, u1, true_or, if_true, mp15, up, Option.bind_some, m15, h15, show ¬ (1 : Int32) = 0 by decide, if_false, show ¬ (111 : Int32) = 104 by decide, show ¬ (111 : Int32) = 109 by decide, m_ob, k2]
theorem rr_bad (bs : Nat) {Kp0 K : Kp} {s f1 f2 f3 : Int32} (n1 : ∀ S0, f_RR_nextSign (bs + 3) (gm bs Kp0 S0) = some (s, gm bs K S0)) (g1 : K 3 3 = f1) (g2 : K 3 4 = f2) (g3 : K 3 5 = f3) (b1 : ¬ (s = 104 ∧ f1 = 0)) (b2 : ¬ (s = 109 ∧ f2 = 0)) (b3 : ¬ (s = 111 ∧ f3 = 0)) (S0 : Kp) : f_RR_readRule (bs + 3) (gm bs Kp0 S0) = some (0, gm bs K S0) := by
  unfold f_RR_readRule
  by_cases c1 : s = 104
  · have y : ¬ f1 = 0 := fun z => b1 ⟨c1, z⟩
    simp only [ob_3, Option.bind_some, n1, c1, if_true, g3_3, g1, y, if_false]
  · by_cases c2 : s = 109
    · have y : ¬ f2 = 0 := fun z => b2 ⟨c2, z⟩
      simp only [ob_3, Option.bind_some, n1, c2, show ¬ (109 : Int32) = 104 by decide, if_true, g3_4, g2, y, if_false]
    · by_cases c3 : s = 111
      · have y : ¬ f3 = 0 := fun z => b3 ⟨c3, z⟩
        simp only [ob_3, Option.bind_some, n1, c3, show ¬ (111 : Int32) = 104 by decide, show ¬ (111 : Int32) = 109 by decide, if_true, g3_5, g3, y, if_false]
      · simp only [ob_3, Option.bind_some, n1, c1, c2, c3, if_false]
theorem rules_L (bs : Nat) {Kb Sb : Kp} {tl d : Nat} (hd : d = 4 ∨ d = 7) (hb : Jt Kb Sb tl) : ∀ (m a b c p f g st : Nat) (K S : Kp), a ≤ 1 → b ≤ 1 → c ≤ 1 → m + (a + b + c) = 3 → m < f → m + 2 < g → Rq Kb Sb K S tl d p (nI a) (nI b) (nI c) → 1 ≤ st → Dd K S d st → S 0 15 = 0 →
    ∃ x K' y S' p' g1 g2 g3, (∀ S0, f_RR_read_L34 f (bs + 3) (nI (a + b + c + 1)) (gm bs K S0) = some (x, gm bs K' S0)) ∧ (∀ K0, f_MO_rules_L59 g (bs + 76) (nI a) (nI b) (nI c) (nI (a + b + c)) 1 (gm bs K0 S) = some (y, gm bs K0 S')) ∧ Rq Kb Sb K' S' tl d p' g1 g2 g3 ∧ ((x = .inr y ∧ (∃ k, 1 ≤ k ∧ k ≤ 4 ∧ y = nI k) ∧ S' 0 15 = 0 ∧ ∃ st, 1 ≤ st ∧ Dd K' S' d st) ∨ (x = .inl () ∧ S' 0 15 = 1)) := by
  intro m
  induction m with
  | zero =>
    intro a b c p f g st K S ha hb1 hc hm hf hg h hs hD h15
    obtain ⟨f, rfl⟩ : ∃ n', f = n' + 1 := ⟨f - 1, by omega⟩
    obtain ⟨g, rfl⟩ : ∃ n', g = n' + 2 := ⟨g - 2, by omega⟩
    obtain rfl : a = 1 := by omega
    obtain rfl : b = 1 := by omega
    obtain rfl : c = 1 := by omega
    obtain ⟨n1, n2, n3⟩ := nx bs h hd hb
    have u1 : ¬ nI 1 = 0 := by decide
    have hR := rr_bad bs n1 n3.2.2.2.2.2.2.1 n3.2.2.2.2.2.2.2.1 n3.2.2.2.2.2.2.2.2 (fun z => u1 z.2) (fun z => u1 z.2) (fun z => u1 z.2)
    have s15 : up2 (up2 S 0 14 (nI (sk (Sb 1) tl p))) 0 15 1 0 15 = 1 := by simp [up2_at]
    refine ⟨.inl (), _, nI (1 + 1 + 1), _, _, _, _, _, fun S0 => ?_, fun K0 => ?_, n3.s0 (c := 15) (by omega) (by omega) 1, Or.inr ⟨rfl, s15⟩⟩
    · simp only [f_RR_read_L34, show ¬ (4 : Int32) < nI (1 + 1 + 1 + 1) by decide, if_false, ob_3, Option.bind_some, hR, if_true]
    · rw [mo_r59 (by rw [m15, h15]) (m_ob ..) (n2 K0)]
      simp only [u1, and_false, or_self, if_false, f_MO_rules_J137, show ((1 : Int32) = 0 ∨ (1 : Int32) = 1) by decide, if_true, mp15, Option.bind_some, m15, s15, show ¬ (1 : Int32) = 0 by decide, f_MO_rules_J207]
      exact mo_end1 bs g K0 _ s15 _ _ _ _
  | succ m ih =>
    intro a b c p f g st K S ha hb1 hc hm hf hg h hs hD h15
    obtain ⟨f, rfl⟩ : ∃ n', f = n' + 1 := ⟨f - 1, by omega⟩
    obtain ⟨g, rfl⟩ : ∃ n', g = n' + 2 := ⟨g - 2, by omega⟩
    have hp := h.2.2.2.1
    have cn : ¬ (4 : Int32) < nI (a + b + c + 1) := by rw [li4, nI_ltI (by omega) (by omega)]; omega
    have hq := (sk_b (Sb 1) hp).2
    obtain ⟨n1, n2, n3⟩ := nx bs h hd hb
    have hD1 : Dd (up2 K 3 2 (nI (sk (Sb 1) tl p))) (up2 S 0 14 (nI (sk (Sb 1) tl p))) d st := hD.cg (up2_n (by omega)) (up2_n (by omega)) (up2_n (by omega)) (up2_n (by omega)) (up2_n (by omega)) (fun i hi => up2_e (by omega))
    have s15 : up2 S 0 14 (nI (sk (Sb 1) tl p)) 0 15 = 0 := by rw [up2_e (by omega)]; exact h15
    generalize sk (Sb 1) tl p = q at *
    have za : nI a = 0 ↔ a = 0 := by rw [li0]; exact nI_eq (by omega) (by omega)
    have zb : nI b = 0 ↔ b = 0 := by rw [li0]; exact nI_eq (by omega) (by omega)
    have zc : nI c = 0 ↔ c = 0 := by rw [li0]; exact nI_eq (by omega) (by omega)
    by_cases al : q < tl ∧ ((Sb 1 q = 104 ∧ a = 0) ∨ (Sb 1 q = 109 ∧ b = 0) ∨ (Sb 1 q = 111 ∧ c = 0))
    · obtain ⟨ql, al⟩ := al
      simp only [if_pos ql] at n1 n2
      obtain ⟨a', b', c', r, K2, S2, ha', hb', hc', hsum, r1, r2, p2, r3, r4⟩ := rule_any bs n3 hd hb ql hs hD1 s15 ha hb1 hc n1 al
      have alx : ((Sb 1 q = 104 ∧ nI a = 0) ∨ (Sb 1 q = 109 ∧ nI b = 0) ∨ (Sb 1 q = 111 ∧ nI c = 0)) := by rw [za, zb, zc]; exact al
      have mo1 : ∀ K0, f_MO_rules_L59 (g + 2) (bs + 76) (nI a) (nI b) (nI c) (nI (a + b + c)) 1 (gm bs K0 S) = f_MO_rules_J207 (f_MO_rules_L59 (g + 1) (bs + 76)) (bs + 76) (nI a') (nI b') (nI c') (nI (a' + b' + c')) 1 (gm bs K0 S2) := fun K0 => by
        rw [mo_r59 (by rw [m15, h15]) (m_ob ..) (n2 K0), if_pos alx, r2, nI_1, hsum]
      rcases r4 with ⟨rfl, z15, st2, hs2, hD2⟩ | ⟨rfl, z15⟩
      · -- the rule is right
        have hp2 := r3.2.2.2.1
        obtain ⟨x1, x2, x3⟩ := nx bs r3 hd hb
        have hq2 := (sk_b (Sb 1) hp2).2
        have hid := sk_id (Sb 1) hp2
        have hD3 : ∀ v w : Int32, Dd (up2 K2 3 2 v) (up2 S2 0 14 w) d st2 := fun v w => hD2.cg (up2_n (by omega)) (up2_n (by omega)) (up2_n (by omega)) (up2_n (by omega)) (up2_n (by omega)) (fun i hi => up2_e (by omega))
        have y15 : ∀ v, up2 S2 0 14 v 0 15 = 0 := fun v => by rw [up2_e (by omega)]; exact z15
        obtain ⟨x4, _, _⟩ := nx bs x3 hd hb
        rw [hid] at x4
        simp only [up2_up2] at x4
        generalize sk (Sb 1) tl p2 = q2 at *
        have k2 : up2 K2 3 2 (nI q2) 3 2 = nI q2 := by simp [up2_at]
        have s14 : up2 S2 0 14 (nI q2) 0 14 = nI q2 := by simp [up2_at]
        have q1 : nI q2 + 1 = nI (q2 + 1) := nI_1 q2
        have q0 : nI q2 + 0 = nI q2 := nI_add q2 0
        have w15 : up2 (up2 S2 0 14 (nI q2)) 0 15 0 = up2 S2 0 14 (nI q2) := up2_id (y15 _)
        by_cases c1 : q2 < tl
        · simp only [if_pos c1] at x1 x2 x4
          have t1 := (hb.2.2.2 q2 c1).2
          have t2 : ¬ Sb 1 q2 = -1 := by intro z; rw [z] at t1; exact absurd t1.1 (by decide)
          have t3 : ¬ Sb 1 q2 = 0 := by intro z; rw [z] at t1; exact absurd t1.1 (by decide)
          by_cases c2 : Sb 1 q2 = 59
          · have hr4 := x3.mv (show q2 + 1 ≤ tl by omega)
            rw [up2_up2, up2_up2] at hr4
            obtain ⟨x, K', y, S', p', g1, g2, g3, i1, i2, i3, i4⟩ := ih a' b' c' (q2 + 1) f (g + 1) st2 _ _ ha' hb' hc' (by omega) (by omega) (by omega) hr4 hs2 (hD3 _ _) (y15 _)
            refine ⟨x, K', y, S', p', g1, g2, g3, fun S0 => ?_, fun K0 => ?_, i3, i4⟩
            · rw [← i1 S0]
              simp only [f_RR_read_L34, cn, if_false, ob_3, Option.bind_some, r1, show ¬ (1 : Int32) = 0 by decide, x1, t2, f_RR_pass, x4, c2, show ¬ (59 : Int32) = -1 by decide, if_true, g3_2, k2, q1, p3_2, up2_up2, nI_1, hsum]
            · rw [← i2 K0, mo1]
              simp only [f_MO_rules_J207, m15, z15, Option.bind_some, if_true, m_ob, x2, c2, show ¬ (59 : Int32) = 0 by decide, if_false, f_MO_rules_J238, true_or, mp15, w15, m14, s14, q1, mp14, up2_up2]
          · have v15 : up2 (up2 S2 0 14 (nI q2)) 0 15 1 0 15 = 1 := by simp [up2_at]
            have v14 : up2 (up2 S2 0 14 (nI q2)) 0 15 1 0 14 = nI q2 := by rw [up2_e (by omega)]; exact s14
            refine ⟨.inl (), _, nI (a' + b' + c'), _, _, _, _, _, fun S0 => ?_, fun K0 => ?_, x3.s0 (c := 15) (by omega) (by omega) 1, Or.inr ⟨rfl, v15⟩⟩
            · simp only [f_RR_read_L34, cn, if_false, ob_3, Option.bind_some, r1, show ¬ (1 : Int32) = 0 by decide, x1, t2, f_RR_pass, x4, c2, if_true]
            · rw [mo1]
              simp only [f_MO_rules_J207, m15, z15, Option.bind_some, if_true, m_ob, x2, c2, t3, if_false, f_MO_rules_J238, or_true, mp15, m14, v14, q0, mp14, up2_id v14, mo_end0]
        · simp only [if_neg c1] at x1 x2
          refine ⟨.inr (nI (a + b + c + 1)), _, nI (a' + b' + c'), _, _, _, _, _, fun S0 => ?_, fun K0 => ?_, x3, Or.inl ⟨by rw [hsum], ⟨a' + b' + c', by omega, by omega, rfl⟩, y15 _, st2, hs2, hD3 _ _⟩⟩
          · simp only [f_RR_read_L34, cn, if_false, ob_3, Option.bind_some, r1, show ¬ (1 : Int32) = 0 by decide, x1, if_true]
          · rw [mo1]
            simp only [f_MO_rules_J207, m15, z15, Option.bind_some, if_true, m_ob, x2, f_MO_rules_J238, true_or, mp15, w15, show ¬ (0 : Int32) = 59 by decide, if_false, m14, s14, q0, mp14, up2_up2, mo_end0]
      · -- the rule is wrong
        refine ⟨.inl (), _, nI (a' + b' + c'), _, _, _, _, _, fun S0 => ?_, fun K0 => ?_, r3, Or.inr ⟨rfl, z15⟩⟩
        · simp only [f_RR_read_L34, cn, if_false, ob_3, Option.bind_some, r1, if_true]
        · rw [mo1]
          simp only [f_MO_rules_J207, m15, z15, Option.bind_some, show ¬ (1 : Int32) = 0 by decide, if_false]
          exact mo_end1 bs g K0 _ z15 _ _ _ _
    · -- no letter, or one that was
      have bad : ∀ u : Int32, u = (if q < tl then Sb 1 q else -1) ∨ u = (if q < tl then Sb 1 q else 0) → ¬ (u = 104 ∧ nI a = 0) ∧ ¬ (u = 109 ∧ nI b = 0) ∧ ¬ (u = 111 ∧ nI c = 0) := by
        intro u hu
        rw [za, zb, zc]
        by_cases z : q < tl
        · rw [if_pos z, if_pos z, or_self] at hu
          subst hu
          exact ⟨fun y => al ⟨z, Or.inl y⟩, fun y => al ⟨z, Or.inr (Or.inl y)⟩, fun y => al ⟨z, Or.inr (Or.inr y)⟩⟩
        · rw [if_neg z, if_neg z] at hu
          rcases hu with rfl | rfl
          · exact ⟨fun y => absurd y.1 (by decide), fun y => absurd y.1 (by decide), fun y => absurd y.1 (by decide)⟩
          · exact ⟨fun y => absurd y.1 (by decide), fun y => absurd y.1 (by decide), fun y => absurd y.1 (by decide)⟩
      obtain ⟨b1, b2, b3⟩ := bad _ (Or.inl rfl)
      obtain ⟨b4, b5, b6⟩ := bad _ (Or.inr rfl)
      have hR := rr_bad bs n1 n3.2.2.2.2.2.2.1 n3.2.2.2.2.2.2.2.1 n3.2.2.2.2.2.2.2.2 b1 b2 b3
      have nal : ¬ (((if q < tl then Sb 1 q else 0) = 104 ∧ nI a = 0) ∨ ((if q < tl then Sb 1 q else 0) = 109 ∧ nI b = 0) ∨ ((if q < tl then Sb 1 q else 0) = 111 ∧ nI c = 0)) := fun z => Or.elim z b4 (fun z => Or.elim z b5 b6)
      have v15 : up2 (up2 S 0 14 (nI q)) 0 15 1 0 15 = 1 := by simp [up2_at]
      refine ⟨.inl (), _, nI (a + b + c), _, _, _, _, _, fun S0 => ?_, fun K0 => ?_, n3.s0 (c := 15) (by omega) (by omega) 1, Or.inr ⟨rfl, v15⟩⟩
      · simp only [f_RR_read_L34, cn, if_false, ob_3, Option.bind_some, hR, if_true]
      · rw [mo_r59 (by rw [m15, h15]) (m_ob ..) (n2 K0), if_neg nal]
        simp only [f_MO_rules_J137, show ((1 : Int32) = 0 ∨ (1 : Int32) = 1) by decide, if_true, mp15, Option.bind_some, m15, v15, show ¬ (1 : Int32) = 0 by decide, if_false, f_MO_rules_J207]
        exact mo_end1 bs g K0 _ v15 _ _ _ _
