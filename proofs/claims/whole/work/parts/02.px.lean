/-! MY OWN: a pure memory (address to cell, and how many cells there are), and the machine's rows over it. base: where the law's own cells begin -/
abbrev px_E : Type := (Nat × vp_A) ⊕ (Nat × List Value)
abbrev px_M : Type := (Nat → Option px_E) × Nat
def px_c (tys : List (ClassId × FieldType)) (x : px_E) : va_E := match x with
  | .inl a => .inl ((tys.getD a.1 (0, .int)).1, a.2)
  | .inr o => .inr o
def px_set (M : px_M) (a : Nat) (x : px_E) : px_M := (fun q => if q = a then some x else M.1 q, M.2)
def px_push (M : px_M) (x : px_E) : px_M := (fun q => if q = M.2 then some x else M.1 q, M.2 + 1)
def px_W (base : Nat) (D : va_G) (cl : List vw_C) (tys : List (ClassId × FieldType)) (M : px_M) (H : Heap) : Prop :=
  base ≤ H.size ∧ H.size = M.2 ∧ ∀ (a : Nat) (x : px_E), M.1 a = some x → base ≤ a ∧ va_at D cl (a, px_c tys x) H
def px_B (base : Nat) (D : va_G) (cl : List vw_C) (tys : List (ClassId × FieldType)) (nw : List Cond) (ov : List String) (M : px_M) (U : State) : Prop :=
  px_W base D cl tys M U.heap ∧ va_K D cl tys U ∧ (∀ w ∈ nw, va_Nw w U) ∧ ∀ C ∈ ov, va_AO C U
/-- the words of nest mates stay -/
def px_nok (w : Cond) : Bool := match w with
  | .fieldLinkNest .. => true
  | .methodLinkNest .. => true
  | _ => false
theorem px_nw_warm {w : Cond} (hw : px_nok w = true) {s U : State} (hW : s.WarmedH U.vm) (h : va_Nw w s) : va_Nw w U := by
  cases w with
  | fieldLinkNest a i b n d h' => exact va_Nw.warmF hW h
  | methodLinkNest a i x h' => exact va_Nw.warmM hW h
  | _ => cases hw
theorem px_nw_same {w : Cond} (hw : px_nok w = true) {s U : State} (hW : s.vm = U.vm) (h : va_Nw w s) : va_Nw w U := by
  cases w with
  | fieldLinkNest a i b n d h' => exact va_Nw.same rfl hW h
  | methodLinkNest a i x h' => exact va_Nw.same rfl hW h
  | _ => cases hw
theorem px_B.blind {base : Nat} {D : va_G} {cl : List vw_C} {tys : List (ClassId × FieldType)} {nw : List Cond} {ov : List String} (hnw : ∀ w ∈ nw, px_nok w = true) {M : px_M} {av : List Value} : FrameBlind (va_Pc av (px_B base D cl tys nw ov M)) := by
  intro a U g mk h
  obtain ⟨h1, h2, h3, h4, h5⟩ := h
  exact ⟨h1, h2, va_K.moved (u := U) (U := U.calling g mk a) (Vm.Alike.refl U.vm) h3, fun w hw => px_nw_same (s := U) (U := U.calling g mk a) (hnw w hw) rfl (h4 w hw), fun C hC => va_AO.moved (u := U) (U := U.calling g mk a) (Vm.Alike.refl U.vm) (h5 C hC)⟩
theorem px_W.one {base : Nat} {D : va_G} {cl : List vw_C} {tys : List (ClassId × FieldType)} {M : px_M} {H : Heap} (h : px_W base D cl tys M H) {a : Nat} {x : px_E} (he : M.1 a = some x) : va_P D cl [(a, px_c tys x)] H := by
  intro k q hk
  cases k with
  | zero => cases hk; exact (h.2.2 a x he).2
  | succ k => simp at hk
theorem px_W.lt {base : Nat} {D : va_G} {cl : List vw_C} {tys : List (ClassId × FieldType)} {M : px_M} {H : Heap} (h : px_W base D cl tys M H) {a : Nat} {x : px_E} (he : M.1 a = some x) : a < M.2 := by
  rw [← h.2.1]; exact (h.2.2 a x he).2.lt
theorem px_W.put {base : Nat} {D : va_G} {cl : List vw_C} {tys : List (ClassId × FieldType)} {M : px_M} {H H1 : Heap} (h : px_W base D cl tys M H) {a : Nat} {x0 x : px_E} (he : M.1 a = some x0) (z : H1.size = H.size) (oq : ∀ q : Nat, q ≠ a → H1[q]? = H[q]?) (hn : va_at D cl (a, px_c tys x) H1) : px_W base D cl tys (px_set M a x) H1 := by
  refine ⟨by rw [z]; exact h.1, by rw [z]; exact h.2.1, fun b y hb => ?_⟩
  by_cases hq : b = a
  · subst hq
    have hxy : x = y := by simpa [px_set] using hb
    subst hxy
    exact ⟨(h.2.2 b x0 he).1, hn⟩
  · have hb' : M.1 b = some y := by simpa [px_set, hq] using hb
    exact ⟨(h.2.2 b y hb').1, (h.2.2 b y hb').2.kept (oq b hq)⟩
theorem px_W.push {base : Nat} {D : va_G} {cl : List vw_C} {tys : List (ClassId × FieldType)} {M : px_M} {H H1 : Heap} (h : px_W base D cl tys M H) {x : px_E} (z : H1.size = H.size + 1) (oq : ∀ q : Nat, q < H.size → H1[q]? = H[q]?) (hn : va_at D cl (H.size, px_c tys x) H1) : px_W base D cl tys (px_push M x) H1 := by
  refine ⟨by rw [z]; exact Nat.le_succ_of_le h.1, by rw [z, h.2.1]; rfl, fun b y hb => ?_⟩
  by_cases hq : b = M.2
  · have hxy : x = y := by simpa [px_push, hq] using hb
    subst hxy
    rw [hq, ← h.2.1]
    exact ⟨h.1, hn⟩
  · have hb' : M.1 b = some y := by simpa [px_push, hq] using hb
    exact ⟨(h.2.2 b y hb').1, (h.2.2 b y hb').2.kept (oq b (h.2.2 b y hb').2.lt)⟩
theorem px_S.push {base : Nat} {H0 H H1 : Heap} {locs : List Loc} (hS : va_S (fun q => base ≤ q) H0 H locs) (z : H1.size = H.size + 1) (oq : ∀ q : Nat, q < H.size → H1[q]? = H[q]?) : va_S (fun q => base ≤ q) H0 H1 locs :=
  ⟨Nat.le_trans hS.1 (by omega), fun x h1 h2 => (oq x (Nat.lt_of_lt_of_le h1 hS.1)).trans (hS.2.1 x h1 h2), hS.2.2⟩
/-! reads and writes of the pure memory -/
def px_gi (ci k : Nat) (M : px_M) (a : Nat) : Option Int32 := match M.1 a with
  | some (.inr (c, fs)) => if c = ci then (match fs[k]? with | some (.int x) => some x | _ => none) else none
  | _ => none
def px_gr (ci k : Nat) (M : px_M) (a : Nat) : Option Nat := match M.1 a with
  | some (.inr (c, fs)) => if c = ci then (match fs[k]? with | some (.ref x) => some x | _ => none) else none
  | _ => none
def px_pt (ci k : Nat) (M : px_M) (a : Nat) (v : Value) : Option px_M := match M.1 a with
  | some (.inr (c, fs)) => if c = ci ∧ k < fs.length then some (px_set M a (.inr (ci, fs.set k v))) else none
  | _ => none
def px_ai (t : Nat) (M : px_M) (a : Nat) (i : Int32) : Option Int32 := match M.1 a with
  | some (.inl (t', n, .inl f)) => if t' = t ∧ ¬ i < 0 ∧ i.toNatClampNeg < n then some (f i.toNatClampNeg) else none
  | _ => none
def px_ar (t : Nat) (M : px_M) (a : Nat) (i : Int32) : Option Nat := match M.1 a with
  | some (.inl (t', n, .inr (.inr (.inr (.inr f))))) => if t' = t ∧ ¬ i < 0 ∧ i.toNatClampNeg < n then f i.toNatClampNeg else none
  | _ => none
def px_si (t : Nat) (M : px_M) (a : Nat) (i x : Int32) : Option px_M := match M.1 a with
  | some (.inl (t', n, .inl f)) => if t' = t ∧ ¬ i < 0 ∧ i.toNatClampNeg < n then some (px_set M a (.inl (t, n, .inl (upd f i.toNatClampNeg x)))) else none
  | _ => none
def px_al (t : Nat) (M : px_M) (a : Nat) : Option Int32 := match M.1 a with
  | some (.inl (t', n, _)) => if t' = t then some (Int32.ofNat n) else none
  | _ => none
/-- a reference is put into an array of references; ci: the kind of objects that it holds -/
def px_sr (t ci : Nat) (M : px_M) (a : Nat) (i : Int32) (v : Nat) : Option px_M := match M.1 a, M.1 v with
  | some (.inl (t', n, .inr (.inr (.inr (.inr f))))), some (.inr (c, _)) => if t' = t ∧ c = ci ∧ ¬ i < 0 ∧ i.toNatClampNeg < n then some (px_set M a (.inl (t, n, .inr (.inr (.inr (.inr (va_up f i.toNatClampNeg (some v)))))))) else none
  | _, _ => none
theorem px_gi_spec {ci k : Nat} {M : px_M} {a : Nat} {x : Int32} (h : px_gi ci k M a = some x) : ∃ fs, M.1 a = some (.inr (ci, fs)) ∧ fs[k]? = some (.int x) := by
  unfold px_gi at h
  split at h
  · rename_i c fs he
    split at h
    · rename_i hc
      subst hc
      refine ⟨fs, he, ?_⟩
      split at h
      · rename_i y hy
        cases h
        exact hy
      · cases h
    · cases h
  · cases h
theorem px_gr_spec {ci k : Nat} {M : px_M} {a : Nat} {x : Nat} (h : px_gr ci k M a = some x) : ∃ fs, M.1 a = some (.inr (ci, fs)) ∧ fs[k]? = some (.ref x) := by
  unfold px_gr at h
  split at h
  · rename_i c fs he
    split at h
    · rename_i hc
      subst hc
      refine ⟨fs, he, ?_⟩
      split at h
      · rename_i y hy
        cases h
        exact hy
      · cases h
    · cases h
  · cases h
theorem px_pt_spec {ci k : Nat} {M M1 : px_M} {a : Nat} {v : Value} (h : px_pt ci k M a v = some M1) : ∃ fs, M.1 a = some (.inr (ci, fs)) ∧ k < fs.length ∧ M1 = px_set M a (.inr (ci, fs.set k v)) := by
  unfold px_pt at h
  split at h
  · rename_i c fs he
    split at h
    · rename_i hc
      obtain ⟨rfl, hk⟩ := hc
      cases h
      exact ⟨fs, he, hk, rfl⟩
    · cases h
  · cases h
theorem px_ai_spec {t : Nat} {M : px_M} {a : Nat} {i x : Int32} (h : px_ai t M a i = some x) : ∃ n f, M.1 a = some (.inl (t, n, .inl f)) ∧ vp_in i n ∧ x = f i.toNatClampNeg := by
  unfold px_ai at h
  split at h
  · rename_i t' n f he
    split at h
    · rename_i hc
      obtain ⟨rfl, h1, h2⟩ := hc
      cases h
      exact ⟨n, f, he, fun q => q.elim h1 (fun q => absurd h2 (Nat.not_lt.mpr q)), rfl⟩
    · cases h
  · cases h
theorem px_ar_spec {t : Nat} {M : px_M} {a : Nat} {i : Int32} {x : Nat} (h : px_ar t M a i = some x) : ∃ n f, M.1 a = some (.inl (t, n, .inr (.inr (.inr (.inr f))))) ∧ vp_in i n ∧ f i.toNatClampNeg = some x := by
  unfold px_ar at h
  split at h
  · rename_i t' n f he
    split at h
    · rename_i hc
      obtain ⟨rfl, h1, h2⟩ := hc
      exact ⟨n, f, he, fun q => q.elim h1 (fun q => absurd h2 (Nat.not_lt.mpr q)), h⟩
    · cases h
  · cases h
theorem px_si_spec {t : Nat} {M M1 : px_M} {a : Nat} {i x : Int32} (h : px_si t M a i x = some M1) : ∃ n f, M.1 a = some (.inl (t, n, .inl f)) ∧ vp_in i n ∧ M1 = px_set M a (.inl (t, n, .inl (upd f i.toNatClampNeg x))) := by
  unfold px_si at h
  split at h
  · rename_i t' n f he
    split at h
    · rename_i hc
      obtain ⟨rfl, h1, h2⟩ := hc
      cases h
      exact ⟨n, f, he, fun q => q.elim h1 (fun q => absurd h2 (Nat.not_lt.mpr q)), rfl⟩
    · cases h
  · cases h
theorem px_al_spec {t : Nat} {M : px_M} {a : Nat} {x : Int32} (h : px_al t M a = some x) : ∃ y, M.1 a = some (.inl (t, y)) ∧ Int32.ofNat y.1 = x := by
  unfold px_al at h
  split at h
  · rename_i t' n z he
    split at h
    · rename_i hc
      subst hc
      cases h
      exact ⟨(n, z), he, rfl⟩
    · cases h
  · cases h
theorem px_sr_spec {t ci : Nat} {M M1 : px_M} {a : Nat} {i : Int32} {v : Nat} (h : px_sr t ci M a i v = some M1) : ∃ n f vs, M.1 a = some (.inl (t, n, .inr (.inr (.inr (.inr f))))) ∧ M.1 v = some (.inr (ci, vs)) ∧ vp_in i n ∧ M1 = px_set M a (.inl (t, n, .inr (.inr (.inr (.inr (va_up f i.toNatClampNeg (some v))))))) := by
  unfold px_sr at h
  split at h
  · rename_i t' n f c' vs he hv
    split at h
    · rename_i hc
      obtain ⟨rfl, rfl, h1, h2⟩ := hc
      cases h
      exact ⟨n, f, vs, he, hv, fun q => q.elim h1 (fun q => absurd h2 (Nat.not_lt.mpr q)), rfl⟩
    · cases h
  · cases h
