theorem mo_cpL (bs : Nat) (K : Kp) {st : Nat} (hs : st ≤ 5) (x : Int32) : ∀ (m i n : Nat) (S : Kp), i + m = st → m < n → S 0 2 = nI st → f_MO_rules_L307 n (bs + 76) x (nI i) (gm bs K S) = some ((), gm bs K (rw2 (rw2 S 2 (cpy1 (S 4) (S 2) i st)) 3 (cpy1 (S 5) (S 3) i st))) := by
  intro m
  induction m with
  | zero =>
    intro i n S hk hm h1
    obtain ⟨n, rfl⟩ : ∃ n', n = n' + 1 := ⟨n - 1, by omega⟩
    have e1 : nI st ≤ nI i := by rw [nI_leI (by omega) (by omega)]; omega
    have e2 : rw2 (rw2 S 2 (cpy1 (S 4) (S 2) i st)) 3 (cpy1 (S 5) (S 3) i st) = S := by
      funext a b
      unfold rw2 cpy1
      by_cases c : a = 3
      · rw [if_pos c, if_neg (by omega), c]
      · rw [if_neg c]
        by_cases c : a = 2
        · rw [if_pos c, if_neg (by omega), c]
        · rw [if_neg c]
    simp only [f_MO_rules_L307, m2, h1, Option.bind_some, e1, if_true, e2]
  | succ m ih =>
    intro i n S hk hm h1
    obtain ⟨n, rfl⟩ : ∃ n', n = n' + 1 := ⟨n - 1, by omega⟩
    have e1 : ¬ nI st ≤ nI i := by rw [nI_leI (by omega) (by omega)]; omega
    have e2 : nI i + 1 = nI (i + 1) := nI_1 i
    have i1 := ih (i + 1) n (up2 (up2 S 2 i (S 4 i)) 3 i (S 5 i)) (by omega) (by omega) (by rw [up2_n (by omega), up2_n (by omega)]; exact h1)
    have e3 : up2 S 2 i (S 4 i) 5 i = S 5 i := by rw [up2_n (by omega)]
    simp only [f_MO_rules_L307, m2, h1, Option.bind_some, e1, if_false, m3, m9, ma4 bs K S (show i < 6 by omega), ms2 bs K S _ (show i < 6 by omega), m4, m10, ma5 bs K _ (show i < 6 by omega), e3, ms3 bs K _ _ (show i < 6 by omega), e2, i1]
    congr 3
    funext a b
    by_cases c : a = 3
    · subst c
      rw [rw2_s, rw2_s, up2_n (show 5 ≠ 3 by omega), up2_n (show 5 ≠ 2 by omega)]
      unfold cpy1
      by_cases c2 : b = i
      · subst c2
        rw [if_neg (by omega), if_pos (by omega)]
        simp [up2_at]
      · by_cases c3 : i + 1 ≤ b ∧ b < st
        · rw [if_pos c3, if_pos (by omega)]
        · rw [if_neg c3, if_neg (by omega), up2_e (by omega), up2_n (by omega)]
    · rw [rw2_n c, rw2_n c]
      by_cases c4 : a = 2
      · subst c4
        rw [rw2_s, rw2_s, up2_n (show 4 ≠ 3 by omega), up2_n (show 4 ≠ 2 by omega)]
        unfold cpy1
        by_cases c2 : b = i
        · subst c2
          rw [if_neg (by omega), if_pos (by omega)]
          simp [up2_at]
        · by_cases c3 : i + 1 ≤ b ∧ b < st
          · rw [if_pos c3, if_pos (by omega)]
          · rw [if_neg c3, if_neg (by omega), up2_n (by omega), up2_e (by omega)]
      · rw [rw2_n c4, rw2_n c4, up2_n c, up2_n c4]
/-- what a reading of rules leaves -/
theorem Jrules {K S K2 S2 : Kp} {d tl np nn nw nb : Nat} (hd : d = 4 ∨ d = 7) (jt : Jt K S tl) (jl : Jl K S np) (jn : Jn K S nn) (jw : Jw K S nw) (jb : Jb K S nb nn nw) (js : Js K S nb) (hK : ∀ i, i ≠ 0 → i ≠ 1 → i ≠ 3 → i ≠ d → i ≠ d + 1 → i ≠ d + 2 → K2 i = K i) (hK0 : ∀ c, c ≠ 2 → c ≠ 3 → K2 0 c = K 0 c) (hK1 : K2 1 1 = 0) (hS : ∀ i, 6 ≤ i → i ≤ 20 → S2 i = S i) (hS0 : ∀ c, 16 ≤ c → c < 38 → S2 0 c = S 0 c) (hS1 : S2 0 0 = 0) (hr : ∃ rs st, Jr K2 S2 rs st) : J K2 S2 := by
  obtain ⟨rs, st, jr⟩ := hr
  refine ⟨0, rs, st, np, nn, nw, nb, ⟨by omega, by rw [hS1, li0], by rw [hK1, li0], fun i hi => absurd hi (by omega)⟩, jr, jl.cg ?_ ?_ ?_ ?_, jn.cg ?_ ?_ ?_ ?_, jw.cg ?_ ?_ ?_ ?_, jb.cg ?_ ?_ ?_ ?_, js.cg ?_ ?_⟩
  · rw [hK 10 (by omega) (by omega) (by omega) (by omega) (by omega) (by omega)]
  · exact fun i h1 h2 => hK i (by omega) (by omega) (by omega) (by omega) (by omega) (by omega)
  · exact hS0 17 (by omega) (by omega)
  · exact fun i h1 h2 => hS i (by omega) (by omega)
  · exact hK0 6 (by omega) (by omega)
  · exact fun i h1 h2 => hK i (by omega) (by omega) (by omega) (by omega) (by omega) (by omega)
  · exact hS0 21 (by omega) (by omega)
  · exact fun i h1 h2 => hS i (by omega) (by omega)
  · rw [hK 16 (by omega) (by omega) (by omega) (by omega) (by omega) (by omega)]
  · exact fun i h1 h2 => hK i (by omega) (by omega) (by omega) (by omega) (by omega) (by omega)
  · exact hS0 25 (by omega) (by omega)
  · exact fun i h1 h2 => hS i (by omega) (by omega)
  · exact hK0 9 (by omega) (by omega)
  · exact fun i h1 h2 => hK i (by omega) (by omega) (by omega) (by omega) (by omega) (by omega)
  · exact hS0 29 (by omega) (by omega)
  · exact fun i h1 h2 => hS i (by omega) (by omega)
  · exact hK 20 (by omega) (by omega) (by omega) (by omega) (by omega) (by omega)
  · exact fun i h1 h2 => hS i (by omega) (by omega)
/-- the class's draft and the reference's as they begin -/
def rK (K : Kp) (d : Nat) : Kp := up2 (up2 (up2 (up2 (up2 (up2 (up2 (up2 (up2 (up2 (up2 (up2 K 3 1 (nI d)) d 2 0) (d + 1) 0 50) (d + 2) 0 100) d 2 (nI (0 + 1))) d 3 0) d 4 0) d 5 116) 3 2 0) 3 3 0) 3 4 0) 3 5 0
def rS (S : Kp) : Kp := up2 (up2 (up2 (up2 (up2 (up2 (up2 (up2 S 0 14 0) 0 15 0) 0 8 1) 4 0 50) 5 0 100) 0 11 0) 0 12 0) 0 13 116
theorem rr_first (bs : Nat) (K S : Kp) {d : Nat} (hd : d = 4 ∨ d = 7) : f_RR_read (bs + 3) (bs + d) (gm bs K S) = (f_RR_read_L34 px_fuel (bs + 3) 1 (gm bs (rK K d) S)).bind fun yh48 => (match yh48 with
  | (.inl _, M47) =>
  (px_gi 2 2 M47 (bs + 3)).bind fun v49 =>
  some (((-1)) - v49, M47)
  | (.inr r51, M47) => some (r51, M47)) := by
  have e1 : up2 K 3 1 (nI d) 3 1 = nI d := by simp [up2_at]
  have e2 : up2 (up2 K 3 1 (nI d)) d 2 0 d 2 = nI 0 := by simp [up2_at, li0]
  unfold f_RR_read f_RS_setAsAtFirst rK
  simp only [p3_1 bs K S (show 0 < d by omega) (show d < 2 ^ 31 by omega), Option.bind_some, g3_1 bs _ S e1 (show 0 < d by omega) (show d < 2 ^ 31 by omega), rd_ob bs _ S hd, rp_2 bs _ S hd, rs_add bs _ S hd e2 (show 0 < 5 by omega), rp_3 bs _ S hd, rp_4 bs _ S hd, rp_5 bs _ S hd, p3_2, p3_3, p3_4, p3_5]
  rfl
theorem rK_q {K S : Kp} {tl d : Nat} (hd : d = 4 ∨ d = 7) : Rq K S (rK K d) (rS S) tl d 0 (nI 0) (nI 0) (nI 0) ∧ Dd (rK K d) (rS S) d 1 ∧ rS S 0 15 = 0 := by
  refine ⟨⟨?_, ?_, ?_, by omega, ?_, ⟨?_, ?_⟩, ?_, ?_, ?_⟩, ⟨by omega, ?_, ?_, ?_, ?_, ?_, ?_, ?_⟩, ?_⟩
  · rcases hd with rfl | rfl <;> simp [rK, up2_at]
  · rcases hd with rfl | rfl <;> simp [rK, up2_at, li0]
  · simp [rS, up2_at, li0]
  · intro i h1 h2 h3 h4
    unfold rK
    rw [up2_n h1, up2_n h1, up2_n h1, up2_n h1, up2_n h2, up2_n h2, up2_n h2, up2_n h2, up2_n h4, up2_n h3, up2_n h2, up2_n h1]
  · intro i h1 h2 h3 h4
    unfold rS
    have h0 : i ≠ 0 := by omega
    rw [up2_n h0, up2_n h0, up2_n h0, up2_n h4, up2_n h3, up2_n h0, up2_n h0, up2_n h0]
  · intro c h1 h2
    unfold rS
    rw [up2_e (by omega), up2_e (by omega), up2_e (by omega), up2_n (by omega), up2_n (by omega), up2_e (by omega), up2_e (by omega), up2_e (by omega)]
  · rcases hd with rfl | rfl <;> simp [rK, up2_at, li0]
  · rcases hd with rfl | rfl <;> simp [rK, up2_at, li0]
  · rcases hd with rfl | rfl <;> simp [rK, up2_at, li0]
  · rcases hd with rfl | rfl <;> simp [rK, up2_at]
  · simp [rS, up2_at, li1]
  · intro i hi
    obtain rfl : i = 0 := by omega
    rcases hd with rfl | rfl <;> simp [rK, rS, up2_at]
  · rcases hd with rfl | rfl <;> simp [rK, rS, up2_at]
  · rcases hd with rfl | rfl <;> simp [rK, rS, up2_at]
  · rcases hd with rfl | rfl <;> simp [rK, rS, up2_at]
  · simp [rS, up2_at]
  · simp [rS, up2_at]
theorem op_rules {bs : Nat} {K S : Kp} (h : J K S) : ∃ r K' S', f_SB_rules bs (gm bs K S) = some (r, gm bs K' S) ∧ f_MO_rules (bs + 76) (gm bs K' S) = some (r, gm bs K' S') ∧ J K' S' := by
  obtain ⟨tl, rs, st, np, nn, nw, nb, jt, jr, jl, jn, jw, jb, js⟩ := id h
  have hrs := jr.1
  obtain ⟨d, hd', hd⟩ : ∃ d, 11 - rs = d ∧ (d = 4 ∨ d = 7) := ⟨11 - rs, rfl, by omega⟩
  have j3 : K 0 3 = nI d := by rw [jr.2.2.1, hd']
  have j2 := jr.2.1
  obtain ⟨q1, q2, q3⟩ := rK_q (K := K) (S := S) (tl := tl) hd
  obtain ⟨x, K1, y, S1, p', g1, g2, g3, i1, i2, i3, i4⟩ := rules_L bs hd jt 3 0 0 0 0 px_fuel px_fuel 1 _ _ (by omega) (by omega) (by omega) (by omega) (by unfold px_fuel; omega) (by unfold px_fuel; omega) q1 (by omega) q2 q3
  replace i1 : ∀ S0, f_RR_read_L34 px_fuel (bs + 3) 1 (gm bs (rK K d) S0) = some (x, gm bs K1 S0) := i1
  replace i2 : ∀ K0, f_MO_rules_L59 px_fuel (bs + 76) 0 0 0 0 1 (gm bs K0 (rS S)) = some (y, gm bs K0 S1) := i2
  obtain ⟨r1, r2, r3, r4, r5, r6, _⟩ := i3
  have t100 := jt.1
  have k0 : K1 0 = K 0 := r5 0 (by omega) (by omega) (by omega) (by omega)
  have a4 : ∀ K2 S' v, px_si 0 (gm bs K2 S') (bs + 80) 0 v = some (gm bs K2 (up2 S' 4 0 v)) := fun K2 S' v => ms4 bs K2 S' (i := 0) v (by omega)
  have a5 : ∀ K2 S' v, px_si 0 (gm bs K2 S') (bs + 81) 0 v = some (gm bs K2 (up2 S' 5 0 v)) := fun K2 S' v => ms5 bs K2 S' (i := 0) v (by omega)
  unfold rS at i2
  have hK : ∀ i, i ≠ 3 → i ≠ d → i ≠ d + 1 → i ≠ d + 2 → K1 i = K i := r5
  rcases i4 with ⟨rfl, ⟨k, k1, k2, rfl⟩, s15, st2, hs2, hD⟩ | ⟨rfl, s15⟩
  · obtain ⟨d1, d2, d3, d4, d5, d6, d7, d8⟩ := hD
    have n0 : ¬ nI k ≤ 0 := by rw [li0, nI_leI (by omega) (by omega)]; omega
    have e2 : up2 K1 1 1 0 0 2 = nI rs := by rw [up2_n (by omega), k0]; exact j2
    have e3 : up2 K1 1 1 0 0 3 = nI d := by rw [up2_n (by omega), k0]; exact j3
    obtain ⟨K2, hK2⟩ : ∃ K2, K2 = up2 (up2 (up2 K1 1 1 0) 0 2 (nI d)) 0 3 (nI rs) := ⟨_, rfl⟩
    obtain ⟨S3, hS3⟩ : ∃ S3, S3 = up2 (up2 S1 0 0 0) 0 2 (nI st2) := ⟨_, rfl⟩
    obtain ⟨S4, hS4⟩ : ∃ S4, S4 = rw2 (rw2 S3 2 (cpy1 (S3 4) (S3 2) 0 st2)) 3 (cpy1 (S3 5) (S3 3) 0 st2) := ⟨_, rfl⟩
    have cp := mo_cpL bs K2 d1 (nI k) st2 0 px_fuel S3 (by omega) (by unfold px_fuel; omega) (by rw [hS3]; simp [up2_at])
    rw [← hS4, nI_0] at cp
    have s3r : ∀ i, i ≠ 0 → S3 i = S1 i := fun i hi => by rw [hS3, up2_n hi, up2_n hi]
    have s30 : ∀ c, c ≠ 0 → c ≠ 2 → S3 0 c = S1 0 c := fun c h1 h2 => by rw [hS3, up2_e (by omega), up2_e (by omega)]
    have s4r : ∀ i, i ≠ 2 → i ≠ 3 → S4 i = S3 i := fun i h1 h2 => by rw [hS4, rw2_n h2, rw2_n h1]
    have s42 : S4 2 = cpy1 (S3 4) (S3 2) 0 st2 := by rw [hS4, rw2_n (by omega), rw2_s]
    have s43 : S4 3 = cpy1 (S3 5) (S3 3) 0 st2 := by rw [hS4, rw2_s]
    have z11 : S4 0 11 = S1 0 11 := by rw [s4r 0 (by omega) (by omega), s30 11 (by omega) (by omega)]
    have z12 : ∀ v, up2 S4 0 5 v 0 12 = S1 0 12 := fun v => by rw [up2_e (by omega), s4r 0 (by omega) (by omega), s30 12 (by omega) (by omega)]
    have z13 : ∀ v w, up2 (up2 S4 0 5 v) 0 6 w 0 13 = S1 0 13 := fun v w => by rw [up2_e (by omega), up2_e (by omega), s4r 0 (by omega) (by omega), s30 13 (by omega) (by omega)]
    have w15 : up2 S1 0 0 0 0 15 = 0 := by rw [up2_e (by omega)]; exact s15
    have w8 : up2 S1 0 0 0 0 8 = nI st2 := by rw [up2_e (by omega)]; exact d3
    have kr : ∀ i, i ≠ 0 → i ≠ 1 → K2 i = K1 i := fun i h1 h2 => by rw [hK2, up2_n h1, up2_n h1, up2_n h2]
    have sr : ∀ i, i ≠ 0 → i ≠ 2 → i ≠ 3 → up2 (up2 (up2 S4 0 5 (S1 0 11)) 0 6 (S1 0 12)) 0 7 (S1 0 13) i = S1 i := fun i h1 h2 h3 => by
      rw [up2_n h1, up2_n h1, up2_n h1, s4r i h2 h3, s3r i h1]
    have s0 : ∀ c, c ≠ 5 → c ≠ 6 → c ≠ 7 → up2 (up2 (up2 S4 0 5 (S1 0 11)) 0 6 (S1 0 12)) 0 7 (S1 0 13) 0 c = S3 0 c := fun c h1 h2 h3 => by
      rw [up2_e (by omega), up2_e (by omega), up2_e (by omega), s4r 0 (by omega) (by omega)]
    refine ⟨nI k, K2, up2 (up2 (up2 S4 0 5 (S1 0 11)) 0 6 (S1 0 12)) 0 7 (S1 0 13), ?_, ?_, Jrules hd jt jl jn jw jb js ?_ ?_ ?_ ?_ ?_ ?_ ⟨d, st2, hd, ?_, ?_, ⟨hs2, d1⟩, ?_, ?_, fun i hi => ⟨?_, ?_⟩, ?_, ?_, ?_, ?_⟩⟩
    · unfold f_SB_rules
      simp only [g0_1, g0_3 bs K S j3 (show 0 < d by omega) (show d < 2 ^ 31 by omega), ob_3, Option.bind_some, rr_first bs K S hd, i1, g0_0, ob_1, tx_clear, n0, if_false, g0_2 bs _ S e2 (show 0 < rs by omega) (show rs < 2 ^ 31 by omega), g0_3 bs _ S e3 (show 0 < d by omega) (show d < 2 ^ 31 by omega), p0_2 bs _ S (show 0 < d by omega) (show d < 2 ^ 31 by omega), p0_3 bs _ S (show 0 < rs by omega) (show rs < 2 ^ 31 by omega), hK2]
    · unfold f_MO_rules
      simp only [mp14, mp15, mp8, m9, a4, m10, a5, mp11, mp12, mp13, Option.bind_some, i2, mp0, m15, w15, if_true, m8, w8, mp2, ← hS3, cp, m11, z11, mp5, m12, z12, mp6, m13, z13, mp7]
    · exact fun i h1 h2 h3 h4 h5 h6 => by rw [kr i h1 h2, hK i h3 h4 h5 h6]
    · exact fun c h1 h2 => by rw [hK2, up2_e (by omega), up2_e (by omega), up2_n (by omega), k0]
    · rw [hK2, up2_n (by omega), up2_n (by omega)]; simp [up2_at]
    · exact fun i h1 h2 => by rw [sr i (by omega) (by omega) (by omega)]; exact r6.1 i (by omega) h2 (by omega) (by omega)
    · exact fun c h1 h2 => by rw [s0 c (by omega) (by omega) (by omega), s30 c (by omega) (by omega)]; exact r6.2 c (by omega) h2
    · rw [s0 0 (by omega) (by omega) (by omega), hS3, up2_e (by omega)]; simp [up2_at]
    · rw [hK2, up2_e (by omega)]; simp [up2_at]
    · rw [hK2, show 11 - d = rs by omega]; simp [up2_at]
    · rw [s0 2 (by omega) (by omega) (by omega), hS3]; simp [up2_at]
    · rw [kr d (by omega) (by omega)]; exact d2
    · rw [kr (d + 1) (by omega) (by omega), (d4 i hi).1, up2_n (by omega), up2_n (by omega), up2_n (by omega), s42, cpy1, if_pos (by omega), s3r 4 (by omega)]
    · rw [kr (d + 2) (by omega) (by omega), (d4 i hi).2, up2_n (by omega), up2_n (by omega), up2_n (by omega), s43, cpy1, if_pos (by omega), s3r 5 (by omega)]
    · rw [kr d (by omega) (by omega), d5]; simp [up2_at]
    · rw [kr d (by omega) (by omega), d6]; simp [up2_at]
    · rw [kr d (by omega) (by omega), d7]; simp [up2_at]
    · simp [up2_at]; exact d8
  · have n0 : -1 - nI p' ≤ 0 := by
      have := nIb (show p' ≤ 100 by omega) (by omega)
      rw [← li100] at this
      grind
    have w15 : up2 S1 0 0 0 0 15 = 1 := by rw [up2_e (by omega)]; exact s15
    have w14 : up2 S1 0 0 0 0 14 = nI p' := by rw [up2_e (by omega)]; exact r3
    have kr : ∀ i, i ≠ 1 → up2 K1 1 1 0 i = K1 i := fun i h1 => up2_n h1
    have sr : ∀ i, i ≠ 0 → up2 S1 0 0 0 i = S1 i := fun i h1 => up2_n h1
    have s0 : ∀ c, c ≠ 0 → up2 S1 0 0 0 0 c = S1 0 c := fun c h1 => up2_e (by omega)
    have s0' : ∀ c, c ≠ 0 → ¬ (8 ≤ c ∧ c ≤ 15) → c < 38 → up2 S1 0 0 0 0 c = S 0 c := fun c h1 h2 h3 => by rw [s0 c h1]; exact r6.2 c h2 h3
    refine ⟨-1 - nI p', up2 K1 1 1 0, up2 S1 0 0 0, ?_, ?_, Jrules hd jt jl jn jw jb js ?_ ?_ ?_ ?_ ?_ ?_ ⟨rs, st, ?_⟩⟩
    · unfold f_SB_rules
      simp only [g0_1, g0_3 bs K S j3 (show 0 < d by omega) (show d < 2 ^ 31 by omega), ob_3, Option.bind_some, rr_first bs K S hd, i1, g3_2, r2, g0_0, ob_1, tx_clear, n0, if_true]
    · unfold f_MO_rules
      simp only [mp14, mp15, mp8, m9, a4, m10, a5, mp11, mp12, mp13, Option.bind_some, i2, mp0, m15, w15, show ¬ (1 : Int32) = 0 by decide, if_false, m14, w14]
    · exact fun i h1 h2 h3 h4 h5 h6 => by rw [kr i h2, hK i h3 h4 h5 h6]
    · exact fun c h1 h2 => by rw [kr 0 (by omega), k0]
    · simp [up2_at]
    · exact fun i h1 h2 => by rw [sr i (by omega)]; exact r6.1 i (by omega) h2 (by omega) (by omega)
    · exact fun c h1 h2 => s0' c (by omega) (by omega) h2
    · simp [up2_at]
    · unfold Jr at *
      rw [kr 0 (by omega), k0, kr rs (by omega), hK rs (by omega) (by omega) (by omega) (by omega), kr (rs + 1) (by omega), hK (rs + 1) (by omega) (by omega) (by omega) (by omega), kr (rs + 2) (by omega), hK (rs + 2) (by omega) (by omega) (by omega) (by omega), s0' 2 (by omega) (by omega) (by omega), s0' 5 (by omega) (by omega) (by omega), s0' 6 (by omega) (by omega) (by omega), s0' 7 (by omega) (by omega) (by omega), sr 2 (by omega), sr 3 (by omega), r6.1 2 (by omega) (by omega) (by omega) (by omega), r6.1 3 (by omega) (by omega) (by omega) (by omega)]
      exact jr
