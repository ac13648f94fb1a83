/-! the set of rules that is being read, at d -/
theorem rd_ob (bs : Nat) (K S : Kp) {d : Nat} (hd : d = 4 ∨ d = 7) : px_ob 3 (gm bs K S) (bs + d) = some () := by
  rcases hd with rfl | rfl
  · exact ob_4 bs K S
  · exact ob_7 bs K S
theorem rd_2 (bs : Nat) (K S : Kp) {d : Nat} (hd : d = 4 ∨ d = 7) : px_gi 3 2 (gm bs K S) (bs + d) = some (K d 2) := by
  rcases hd with rfl | rfl
  · exact g4_2 bs K S
  · exact g7_2 bs K S
theorem rd_0 (bs : Nat) (K S : Kp) {d : Nat} (hd : d = 4 ∨ d = 7) : px_gr 3 0 (gm bs K S) (bs + d) = some (bs + (d + 1)) := by
  rcases hd with rfl | rfl
  · exact g4_0 bs K S
  · exact g7_0 bs K S
theorem rd_1 (bs : Nat) (K S : Kp) {d : Nat} (hd : d = 4 ∨ d = 7) : px_gr 3 1 (gm bs K S) (bs + d) = some (bs + (d + 2)) := by
  rcases hd with rfl | rfl
  · exact g4_1 bs K S
  · exact g7_1 bs K S
theorem rp_2 (bs : Nat) (K S : Kp) {d : Nat} (hd : d = 4 ∨ d = 7) (v : Int32) : px_pt 3 2 (gm bs K S) (bs + d) (.int v) = some (gm bs (up2 K d 2 v) S) := by
  rcases hd with rfl | rfl
  · exact p4_2 bs K S v
  · exact p7_2 bs K S v
theorem rp_3 (bs : Nat) (K S : Kp) {d : Nat} (hd : d = 4 ∨ d = 7) (v : Int32) : px_pt 3 3 (gm bs K S) (bs + d) (.int v) = some (gm bs (up2 K d 3 v) S) := by
  rcases hd with rfl | rfl
  · exact p4_3 bs K S v
  · exact p7_3 bs K S v
theorem rp_4 (bs : Nat) (K S : Kp) {d : Nat} (hd : d = 4 ∨ d = 7) (v : Int32) : px_pt 3 4 (gm bs K S) (bs + d) (.int v) = some (gm bs (up2 K d 4 v) S) := by
  rcases hd with rfl | rfl
  · exact p4_4 bs K S v
  · exact p7_4 bs K S v
theorem rp_5 (bs : Nat) (K S : Kp) {d : Nat} (hd : d = 4 ∨ d = 7) (v : Int32) : px_pt 3 5 (gm bs K S) (bs + d) (.int v) = some (gm bs (up2 K d 5 v) S) := by
  rcases hd with rfl | rfl
  · exact p4_5 bs K S v
  · exact p7_5 bs K S v
theorem rs_s1 (bs : Nat) (K S : Kp) {d j : Nat} (hd : d = 4 ∨ d = 7) (hj : j < 5) (v : Int32) : px_si 0 (gm bs K S) (bs + (d + 1)) (nI j) v = some (gm bs (up2 K (d + 1) j v) S) := by
  rcases hd with rfl | rfl
  · exact s5 bs K S v hj
  · exact s8 bs K S v hj
theorem rs_s2 (bs : Nat) (K S : Kp) {d j : Nat} (hd : d = 4 ∨ d = 7) (hj : j < 5) (v : Int32) : px_si 0 (gm bs K S) (bs + (d + 2)) (nI j) v = some (gm bs (up2 K (d + 2) j v) S) := by
  rcases hd with rfl | rfl
  · exact s6 bs K S v hj
  · exact s9 bs K S v hj
theorem rs_add (bs : Nat) (K S : Kp) {d st : Nat} (hd : d = 4 ∨ d = 7) (h : K d 2 = nI st) (hs : st < 5) (x y : Int32) : f_RS_addStep (bs + d) x y (gm bs K S) = some (gm bs (up2 (up2 (up2 K (d + 1) st x) (d + 2) st y) d 2 (nI (st + 1))) S) := by
  have e1 : ¬ 5 ≤ nI st := by rw [li5, nI_leI (by omega) (by omega)]; omega
  have e2 : up2 K (d + 1) st x d 2 = nI st := by rw [up2_n (by omega)]; exact h
  have e3 : up2 (up2 K (d + 1) st x) (d + 2) st y d 2 = nI st := by rw [up2_n (by omega), up2_n (by omega)]; exact h
  unfold f_RS_addStep
  simp only [rd_2 bs _ S hd, h, Option.bind_some, e1, if_false, rd_0 bs _ S hd, rs_s1 bs _ S hd hs, rd_1 bs _ S hd, e2, rs_s2 bs _ S hd hs, e3, nI_1, rp_2 bs _ S hd]
/-! what holds while both read -/
def Rq (Kb Sb K S : Kp) (tl d p : Nat) (f1 f2 f3 : Int32) : Prop := K 3 1 = nI d ∧ K 3 2 = nI p ∧ S 0 14 = nI p ∧ p ≤ tl ∧ (∀ i, i ≠ 3 → i ≠ d → i ≠ d + 1 → i ≠ d + 2 → K i = Kb i) ∧ Mz Sb S ∧ K 3 3 = f1 ∧ K 3 4 = f2 ∧ K 3 5 = f3
def Dd (K S : Kp) (d st : Nat) : Prop := st ≤ 5 ∧ K d 2 = nI st ∧ S 0 8 = nI st ∧ (∀ i, i < st → K (d + 1) i = S 4 i ∧ K (d + 2) i = S 5 i) ∧ K d 3 = S 0 11 ∧ K d 4 = S 0 12 ∧ K d 5 = S 0 13 ∧ (S 0 13 = 110 ∨ S 0 13 = 102 ∨ S 0 13 = 97 ∨ S 0 13 = 116)
theorem Mz.rf (S : Kp) : Mz S S := ⟨fun _ _ _ _ _ => rfl, fun _ _ _ => rfl⟩
theorem Mz.u0 {S S' : Kp} (h : Mz S S') {c : Nat} (h1 : 8 ≤ c ∧ c ≤ 15) (v : Int32) : Mz S (up2 S' 0 c v) := ⟨fun i a b x y => by rw [up2_n (by omega)]; exact h.1 i a b x y, fun e a b => by rw [up2_e (by omega)]; exact h.2 e a b⟩
theorem Mz.u4 {S S' : Kp} (h : Mz S S') (c : Nat) (v : Int32) : Mz S (up2 S' 4 c v) := ⟨fun i a b x y => by rw [up2_n (by omega)]; exact h.1 i a b x y, fun e a b => by rw [up2_n (by omega)]; exact h.2 e a b⟩
theorem Mz.u5 {S S' : Kp} (h : Mz S S') (c : Nat) (v : Int32) : Mz S (up2 S' 5 c v) := ⟨fun i a b x y => by rw [up2_n (by omega)]; exact h.1 i a b x y, fun e a b => by rw [up2_n (by omega)]; exact h.2 e a b⟩
theorem Rq.t {Kb Sb K S : Kp} {tl d p : Nat} {f1 f2 f3 : Int32} (h : Rq Kb Sb K S tl d p f1 f2 f3) (hd : d = 4 ∨ d = 7) (hb : Jt Kb Sb tl) : K 1 1 = nI tl ∧ (∀ i, i < tl → K 2 i = Sb 1 i) ∧ S 0 0 = nI tl ∧ S 1 = Sb 1 := by
  obtain ⟨h1, h2, h3, h4, h5, h6, h7⟩ := h
  refine ⟨?_, fun i hi => ?_, ?_, ?_⟩
  · rw [h5 1 (by omega) (by omega) (by omega) (by omega)]; exact hb.2.2.1
  · rw [h5 2 (by omega) (by omega) (by omega) (by omega)]; exact (hb.2.2.2 i hi).1
  · rw [h6.2 0 (by omega) (by omega)]; exact hb.2.1
  · exact h6.1 1 (by omega) (by omega) (by omega) (by omega)
theorem Rq.mv {Kb Sb K S : Kp} {tl d p : Nat} {f1 f2 f3 : Int32} (h : Rq Kb Sb K S tl d p f1 f2 f3) {q : Nat} (hq : q ≤ tl) : Rq Kb Sb (up2 K 3 2 (nI q)) (up2 S 0 14 (nI q)) tl d q f1 f2 f3 := by
  obtain ⟨h1, h2, h3, h4, h5, h6, h7, h8, h9⟩ := h
  refine ⟨by rw [up2_e (by omega)]; exact h1, by simp [up2_at], by simp [up2_at], hq, fun i a b c e => by rw [up2_n a]; exact h5 i a b c e, h6.u0 (by omega) _, by rw [up2_e (by omega)]; exact h7, by rw [up2_e (by omega)]; exact h8, by rw [up2_e (by omega)]; exact h9⟩
theorem Rq.s0 {Kb Sb K S : Kp} {tl d p : Nat} {f1 f2 f3 : Int32} (h : Rq Kb Sb K S tl d p f1 f2 f3) {c : Nat} (h1 : 8 ≤ c ∧ c ≤ 15) (h2 : c ≠ 14) (v : Int32) : Rq Kb Sb K (up2 S 0 c v) tl d p f1 f2 f3 := by
  obtain ⟨a1, a2, a3, a4, a5, a6, a7⟩ := h
  exact ⟨a1, a2, by rw [up2_e (by omega)]; exact a3, a4, a5, a6.u0 h1 v, a7⟩
theorem Rq.s4 {Kb Sb K S : Kp} {tl d p : Nat} {f1 f2 f3 : Int32} (h : Rq Kb Sb K S tl d p f1 f2 f3) (c : Nat) (v : Int32) : Rq Kb Sb K (up2 S 4 c v) tl d p f1 f2 f3 := by
  obtain ⟨a1, a2, a3, a4, a5, a6, a7⟩ := h
  exact ⟨a1, a2, by rw [up2_n (by omega)]; exact a3, a4, a5, a6.u4 c v, a7⟩
theorem Rq.s5 {Kb Sb K S : Kp} {tl d p : Nat} {f1 f2 f3 : Int32} (h : Rq Kb Sb K S tl d p f1 f2 f3) (c : Nat) (v : Int32) : Rq Kb Sb K (up2 S 5 c v) tl d p f1 f2 f3 := by
  obtain ⟨a1, a2, a3, a4, a5, a6, a7⟩ := h
  exact ⟨a1, a2, by rw [up2_n (by omega)]; exact a3, a4, a5, a6.u5 c v, a7⟩
theorem Rq.kd {Kb Sb K S : Kp} {tl d p : Nat} {f1 f2 f3 : Int32} (h : Rq Kb Sb K S tl d p f1 f2 f3) (hd : d = 4 ∨ d = 7) {a : Nat} (ha : a = d ∨ a = d + 1 ∨ a = d + 2) (c : Nat) (v : Int32) : Rq Kb Sb (up2 K a c v) S tl d p f1 f2 f3 := by
  obtain ⟨a1, a2, a3, a4, a5, a6, a7, a8, a9⟩ := h
  have e : up2 K a c v 3 = K 3 := up2_n (by omega)
  exact ⟨by rw [e]; exact a1, by rw [e]; exact a2, a3, a4, fun i b1 b2 b3 b4 => by rw [up2_n (by omega)]; exact a5 i b1 b2 b3 b4, a6, by rw [e]; exact a7, by rw [e]; exact a8, by rw [e]; exact a9⟩
/-- both take the next sign -/
theorem nx (bs : Nat) {Kb Sb K S : Kp} {tl d p : Nat} {f1 f2 f3 : Int32} (h : Rq Kb Sb K S tl d p f1 f2 f3) (hd : d = 4 ∨ d = 7) (hb : Jt Kb Sb tl) : (∀ S0, f_RR_nextSign (bs + 3) (gm bs K S0) = some (if sk (Sb 1) tl p < tl then Sb 1 (sk (Sb 1) tl p) else -1, gm bs (up2 K 3 2 (nI (sk (Sb 1) tl p))) S0)) ∧ (∀ K0, f_MO_look (bs + 76) (gm bs K0 S) = some (if sk (Sb 1) tl p < tl then Sb 1 (sk (Sb 1) tl p) else 0, gm bs K0 (up2 S 0 14 (nI (sk (Sb 1) tl p))))) ∧ Rq Kb Sb (up2 K 3 2 (nI (sk (Sb 1) tl p))) (up2 S 0 14 (nI (sk (Sb 1) tl p))) tl d (sk (Sb 1) tl p) f1 f2 f3 := by
  obtain ⟨t1, t2, t3, t4⟩ := h.t hd hb
  have hp := h.2.2.2.1
  exact ⟨fun S0 => rr_next bs K S0 hb.1 hp t1 t2 h.2.1, fun K0 => mo_look bs K0 S hb.1 hp t3 t4 h.2.2.1, h.mv (sk_b _ hp).2.1⟩
theorem nv_sk (T : Nat → Int32) {tl p : Nat} (h : p ≤ tl) : nv T tl (sk T tl p) = nv T tl p := by unfold nv; rw [sk_id T h]
theorem npl_sk (T : Nat → Int32) {tl p : Nat} (h : p ≤ tl) : npl T tl (sk T tl p) = npl T tl p := by unfold npl; rw [sk_id T h]
theorem nok_sk (T : Nat → Int32) {tl p l : Nat} (h : p ≤ tl) : nok T tl (sk T tl p) l ↔ nok T tl p l := by unfold nok; rw [nv_sk T h, sk_id T h]
theorem npl_b (T : Nat → Int32) {tl p : Nat} (h : p ≤ tl) : npl T tl p ≤ tl := dg_b T (sk_b T h).2.1
theorem nok_m {T : Nat → Int32} {tl p l l' : Nat} (h : nok T tl p l) (hl : l' ≤ l) : nok T tl p l' := ⟨h.1, h.2.1, h.2.2.1, by have := h.2.2.2.1; omega, h.2.2.2.2⟩
/-- the class's and the reference's number -/
theorem nm (bs : Nat) {Kb Sb K S : Kp} {tl d p l : Nat} {f1 f2 f3 : Int32} (h : Rq Kb Sb K S tl d p f1 f2 f3) (hd : d = 4 ∨ d = 7) (hb : Jt Kb Sb tl) (hl : l ≤ 1000) : ((nok (Sb 1) tl p l → ∀ S0, f_RR_readNumber (bs + 3) (nI l) (gm bs K S0) = some (nI (nv (Sb 1) tl p), gm bs (up2 K 3 2 (nI (npl (Sb 1) tl p))) S0)) ∧ (¬ nok (Sb 1) tl p l → ∀ S0, f_RR_readNumber (bs + 3) (nI l) (gm bs K S0) = some (-1, gm bs (up2 K 3 2 (nI (sk (Sb 1) tl p))) S0))) ∧ ((nok (Sb 1) tl p l → ∀ K0, f_MO_number (bs + 76) (nI l) (gm bs K0 S) = some (nI (nv (Sb 1) tl p), gm bs K0 (up2 S 0 14 (nI (npl (Sb 1) tl p))))) ∧ (¬ nok (Sb 1) tl p l → ∃ f : Int32, ∀ K0, f_MO_number (bs + 76) (nI l) (gm bs K0 S) = some (f, gm bs K0 (up2 (up2 S 0 14 (nI (sk (Sb 1) tl p))) 0 15 1)))) := by
  obtain ⟨t1, t2, t3, t4⟩ := h.t hd hb
  have hp := h.2.2.2.1
  refine ⟨⟨fun c S0 => (rr_num bs K S0 hb.1 hp hl t1 t2 h.2.1).1 c, fun c S0 => (rr_num bs K S0 hb.1 hp hl t1 t2 h.2.1).2 c⟩, mo_num bs S hb.1 hp hl t3 t4 h.2.2.1⟩
