theorem px_bind {α β : Type} {o : Option α} {f : α → Option β} {x : β} (h : o.bind f = some x) : ∃ v, o = some v ∧ f v = some x := Option.bind_eq_some_iff.mp h
theorem px_ift {α : Type} {cnd : Prop} {ic : Decidable cnd} {A B : Option α} {x : α} (h : @ite _ cnd ic A B = some x) (hc : cnd) : A = some x := by rw [if_pos hc] at h; exact h
theorem px_iff {α : Type} {cnd : Prop} {ic : Decidable cnd} {A B : Option α} {x : α} (h : @ite _ cnd ic A B = some x) (hc : ¬ cnd) : B = some x := by rw [if_neg hc] at h; exact h
def px_ob (ci : Nat) (M : px_M) (a : Nat) : Option Unit := match M.1 a with
  | some (.inr (c, _)) => if c = ci then some () else none
  | _ => none
theorem px_ob_spec {ci : Nat} {M : px_M} {a : Nat} {u : Unit} (h : px_ob ci M a = some u) : ∃ fs, M.1 a = some (.inr (ci, fs)) := by
  unfold px_ob at h
  split at h
  · rename_i c fs he
    split at h
    · rename_i hc
      subst hc
      exact ⟨fs, he⟩
    · cases h
  · cases h
/-- what is known of a kind of objects: its words, its fields' types, its place -/
def px_Cl (cl : List vw_C) (Ts : List Cond) (ci : Nat) (C : String) (T : u_T) (N : Nat) (ty : Nat → FieldType) : Prop :=
  (∀ w ∈ u_ws C T N, w ∈ Ts) ∧ (∀ k, k < N → parseFieldDescriptor (T k).2.2.1 = some (ty k)) ∧ (∀ a, a < N → ∀ b, b < N → a ≠ b → (T a).2.1 ≠ (T b).2.1) ∧ cl[ci]? = some (C, T, N)
section PXR
variable {p : Program} {l : Launch} {e : Env} {R : Room} {s : State} {m : MethodId} {args : Array Value} {below : List Frame} {meth : Method} {c : Code} {H : Heap} {locs : List Loc} {cells slots : Nat} {Q : State → Prop}
variable {cc : ByteArray} {pc : Nat} {ls : Array Slot} {rest : List Value} {D : va_G} {cl : List vw_C} {a base : Nat} {tys : List (ClassId × FieldType)} {H0 : Heap} {M M1 : px_M} {Ts : List Cond} {own C : String} {T : u_T} {N ci index : Nat} {ty : Nat → FieldType}
theorem px_rgi (hexec : p.tables.exec = Jvm.exec) (hb : c.code = cc) (hts : ∀ w ∈ Ts, w.before args s = true) (hC : px_Cl cl Ts ci C T N ty) (hown : s.vm.findClass own = some m.cls) (hK : va_K D cl tys s) (hM : px_W base D cl tys M H) (k : Nat) (hk : k < N) (hlink : (Cond.fieldLink own index (T k).1 (T k).2.1 (T k).2.2.1).before args s = true) {x : Int32} (hv : px_gi ci k M a = some x) (hdg : decode cc pc = .ok (.getfield index, 3))
    (kk : W p l e R s m args below meth c H locs cells slots Q (F0 m (pc + 3) ls (.int x :: rest))) : W p l e R s m args below meth c H locs cells slots Q (F0 m pc ls (.ref a :: rest)) := by
  obtain ⟨fs, he, hv⟩ := px_gi_spec hv
  exact va_get hexec hb hts hC.1 hown hK (hM.one he) 0 rfl hC.2.2.2 k hk hlink (fun _ h => h) hv hdg kk
theorem px_rgr (hexec : p.tables.exec = Jvm.exec) (hb : c.code = cc) (hts : ∀ w ∈ Ts, w.before args s = true) (hC : px_Cl cl Ts ci C T N ty) (hown : s.vm.findClass own = some m.cls) (hK : va_K D cl tys s) (hM : px_W base D cl tys M H) (k : Nat) (hk : k < N) (hlink : (Cond.fieldLink own index (T k).1 (T k).2.1 (T k).2.2.1).before args s = true) {x : Nat} (hv : px_gr ci k M a = some x) (hdg : decode cc pc = .ok (.getfield index, 3))
    (kk : W p l e R s m args below meth c H locs cells slots Q (F0 m (pc + 3) ls (.ref x :: rest))) : W p l e R s m args below meth c H locs cells slots Q (F0 m pc ls (.ref a :: rest)) := by
  obtain ⟨fs, he, hv⟩ := px_gr_spec hv
  exact va_get hexec hb hts hC.1 hown hK (hM.one he) 0 rfl hC.2.2.2 k hk hlink (fun _ h => h) hv hdg kk
theorem px_rgiN (hexec : p.tables.exec = Jvm.exec) (hb : c.code = cc) (hts : ∀ w ∈ Ts, w.before args s = true) (hC : px_Cl cl Ts ci C T N ty) (hown : s.vm.findClass own = some m.cls) (hK : va_K D cl tys s) (hM : px_W base D cl tys M H) (k : Nat) (hk : k < N) {host : String} (hlink : va_Nw (.fieldLinkNest own index (T k).1 (T k).2.1 (T k).2.2.1 host) s) {x : Int32} (hv : px_gi ci k M a = some x) (hdg : decode cc pc = .ok (.getfield index, 3))
    (kk : W p l e R s m args below meth c H locs cells slots Q (F0 m (pc + 3) ls (.int x :: rest))) : W p l e R s m args below meth c H locs cells slots Q (F0 m pc ls (.ref a :: rest)) := by
  obtain ⟨fs, he, hv⟩ := px_gi_spec hv
  exact va_getN hexec hb hts hC.1 hown hK (hM.one he) 0 rfl hC.2.2.2 k hk (va_Nw.use rfl hlink) (fun _ h => h) hv hdg kk
theorem px_rgrN (hexec : p.tables.exec = Jvm.exec) (hb : c.code = cc) (hts : ∀ w ∈ Ts, w.before args s = true) (hC : px_Cl cl Ts ci C T N ty) (hown : s.vm.findClass own = some m.cls) (hK : va_K D cl tys s) (hM : px_W base D cl tys M H) (k : Nat) (hk : k < N) {host : String} (hlink : va_Nw (.fieldLinkNest own index (T k).1 (T k).2.1 (T k).2.2.1 host) s) {x : Nat} (hv : px_gr ci k M a = some x) (hdg : decode cc pc = .ok (.getfield index, 3))
    (kk : W p l e R s m args below meth c H locs cells slots Q (F0 m (pc + 3) ls (.ref x :: rest))) : W p l e R s m args below meth c H locs cells slots Q (F0 m pc ls (.ref a :: rest)) := by
  obtain ⟨fs, he, hv⟩ := px_gr_spec hv
  exact va_getN hexec hb hts hC.1 hown hK (hM.one he) 0 rfl hC.2.2.2 k hk (va_Nw.use rfl hlink) (fun _ h => h) hv hdg kk
theorem px_rpt (hexec : p.tables.exec = Jvm.exec) (hb : c.code = cc) (hts : ∀ w ∈ Ts, w.before args s = true) (hC : px_Cl cl Ts ci C T N ty) (hown : s.vm.findClass own = some m.cls) (hK : va_K D cl tys s) (hM : px_W base D cl tys M H) (hS0 : va_S (fun q => base ≤ q) H0 H locs) (k : Nat) (hk : k < N) (hlink : (Cond.fieldLink own index (T k).1 (T k).2.1 (T k).2.2.1).before args s = true) (hfin : (T k).2.2.2 = false) {v : Value} (hn : narrow (ty k) v = v) (hfit : fits (ty k) v = true) (hv : px_pt ci k M a v = some M1) (hdg : decode cc pc = .ok (.putfield index, 3))
    (kk : ∀ (H1 : Heap) (locs1 : List Loc), px_W base D cl tys M1 H1 → va_S (fun q => base ≤ q) H0 H1 locs1 → W p l e R s m args below meth c H1 locs1 cells slots Q (F0 m (pc + 3) ls rest)) : W p l e R s m args below meth c H locs cells slots Q (F0 m pc ls (v :: .ref a :: rest)) := by
  obtain ⟨fs, he, hl, rfl⟩ := px_pt_spec hv
  obtain ⟨hin, hty, hnm, hc⟩ := hC
  have hd := hty k hk
  have hap := va_apart (own := own) hts hin ty hty hnm hK hc
  obtain ⟨hab, r, h1, cell, q1, q2, q3, q4⟩ := hM.2.2 a _ he
  have hr : r = (C, T, N) := Option.some.inj (h1.symm.trans hc)
  subst hr
  obtain ⟨hS, hfc, kC, hkC, hkind⟩ := hK.1 ci _ hc
  obtain ⟨cf, kf, fi, f, hi, hsl⟩ := hS k hk
  have hlay := hts _ (hin _ (u_in_lay hk))
  unfold u_lay at hlay
  rw [if_neg (by rw [hfin]; decide)] at hlay
  have hst := (u_facts hfc hkC (u_lays hts hin hk) hi).1
  have h6 := u_store hfc hkC hkind hlay hi hd hn hfit
  refine W.putK hexec hb (f := f) ⟨hown, hlink, ⟨_, _, _, hi⟩, hst⟩ (by rw [q2]; exact h6) q1 q3 (by rw [hsl]; exact k2_hasslot (q4 k hk)) rfl rfl hdg fun H' e1 e2 e3 => ?_
  rw [hsl] at e1 ⊢
  exact kk H' _ (hM.put he e2 e3 ⟨_, hc, t_OB.to (V := updV (vp_V fs) k v) ⟨_, e1, q2, q3, t_set q4 hap hk v⟩ (fun j _ => vp_updV_set hl v j)⟩) (hS0.put e2 e3 hab)
theorem px_rptN (hexec : p.tables.exec = Jvm.exec) (hb : c.code = cc) (hts : ∀ w ∈ Ts, w.before args s = true) (hC : px_Cl cl Ts ci C T N ty) (hown : s.vm.findClass own = some m.cls) (hK : va_K D cl tys s) (hM : px_W base D cl tys M H) (hS0 : va_S (fun q => base ≤ q) H0 H locs) (k : Nat) (hk : k < N) {host : String} (hlink : va_Nw (.fieldLinkNest own index (T k).1 (T k).2.1 (T k).2.2.1 host) s) (hfin : (T k).2.2.2 = false) {v : Value} (hn : narrow (ty k) v = v) (hfit : fits (ty k) v = true) (hv : px_pt ci k M a v = some M1) (hdg : decode cc pc = .ok (.putfield index, 3))
    (kk : ∀ (H1 : Heap) (locs1 : List Loc), px_W base D cl tys M1 H1 → va_S (fun q => base ≤ q) H0 H1 locs1 → W p l e R s m args below meth c H1 locs1 cells slots Q (F0 m (pc + 3) ls rest)) : W p l e R s m args below meth c H locs cells slots Q (F0 m pc ls (v :: .ref a :: rest)) := by
  obtain ⟨fs, he, hl, rfl⟩ := px_pt_spec hv
  obtain ⟨hin, hty, hnm, hc⟩ := hC
  have hd := hty k hk
  have hap := va_apart (own := own) hts hin ty hty hnm hK hc
  obtain ⟨hab, r, h1, cell, q1, q2, q3, q4⟩ := hM.2.2 a _ he
  have hr : r = (C, T, N) := Option.some.inj (h1.symm.trans hc)
  subst hr
  obtain ⟨hS, hfc, kC, hkC, hkind⟩ := hK.1 ci _ hc
  obtain ⟨cf, kf, fi, f, hi, hsl⟩ := hS k hk
  have hlay := hts _ (hin _ (u_in_lay hk))
  unfold u_lay at hlay
  rw [if_neg (by rw [hfin]; decide)] at hlay
  have hst := (u_facts hfc hkC (u_lays hts hin hk) hi).1
  have h6 := u_store hfc hkC hkind hlay hi hd hn hfit
  refine va_WputK hexec hb (f := f) hown (va_Nw.use rfl hlink) hi hst (by rw [q2]; exact h6) q1 q3 (by rw [hsl]; exact k2_hasslot (q4 k hk)) rfl rfl hdg fun H' e1 e2 e3 => ?_
  rw [hsl] at e1 ⊢
  exact kk H' _ (hM.put he e2 e3 ⟨_, hc, t_OB.to (V := updV (vp_V fs) k v) ⟨_, e1, q2, q3, t_set q4 hap hk v⟩ (fun j _ => vp_updV_set hl v j)⟩) (hS0.put e2 e3 hab)
/-- a final field, where its object is made -/
theorem px_rptF (hexec : p.tables.exec = Jvm.exec) (hb : c.code = cc) (hts : ∀ w ∈ Ts, w.before args s = true) (hC : px_Cl cl Ts ci C T N ty) (hown : s.vm.findClass own = some m.cls) (hK : va_K D cl tys s) (hM : px_W base D cl tys M H) (hS0 : va_S (fun q => base ≤ q) H0 H locs) (k : Nat) (hk : k < N) (hlink : (Cond.fieldLink own index (T k).1 (T k).2.1 (T k).2.2.1).before args s = true) (hfin : (T k).2.2.2 = true) (hin2 : meth.name = "<init>") (hdecl : (T k).1 = own) {v : Value} (hn : narrow (ty k) v = v) (hfit : fits (ty k) v = true) (hv : px_pt ci k M a v = some M1) (hdg : decode cc pc = .ok (.putfield index, 3))
    (kk : ∀ (H1 : Heap) (locs1 : List Loc), px_W base D cl tys M1 H1 → va_S (fun q => base ≤ q) H0 H1 locs1 → W p l e R s m args below meth c H1 locs1 cells slots Q (F0 m (pc + 3) ls rest)) : W p l e R s m args below meth c H locs cells slots Q (F0 m pc ls (v :: .ref a :: rest)) := by
  obtain ⟨fs, he, hl, rfl⟩ := px_pt_spec hv
  obtain ⟨hin, hty, hnm, hc⟩ := hC
  have hd := hty k hk
  have hap := va_apart (own := own) hts hin ty hty hnm hK hc
  obtain ⟨hab, r, h1, cell, q1, q2, q3, q4⟩ := hM.2.2 a _ he
  have hr : r = (C, T, N) := Option.some.inj (h1.symm.trans hc)
  subst hr
  obtain ⟨hS, hfc, kC, hkC, hkind⟩ := hK.1 ci _ hc
  obtain ⟨cf, kf, fi, f, hi, hsl⟩ := hS k hk
  have hlay := hts _ (hin _ (u_in_lay hk))
  unfold u_lay at hlay
  rw [if_pos hfin] at hlay
  have hst := (u_facts hfc hkC (u_lays hts hin hk) hi).1
  have hcf : m.cls = cf := by
    obtain ⟨_, _, c', _, _, _, -, -, hf', -, -, -, hown2, -⟩ := Cond.laysFinal_spec hlay
    have e1 : c' = cf := by have := hi.symm.trans hf'; simp at this; exact this.1.symm
    rw [hdecl] at hown2
    rw [← e1]; exact Option.some.inj (hown.symm.trans hown2)
  have h6 := u_fits hfc hkC hkind (Or.inr hlay) hi hd hn hfit
  refine W.putFinK hexec hb hown hlink hi hst hcf hin2 (by rw [q2]; exact h6) q1 q3 (by rw [hsl]; exact k2_hasslot (q4 k hk)) rfl rfl hdg fun H' e1 e2 e3 => ?_
  rw [hsl] at e1 ⊢
  exact kk H' _ (hM.put he e2 e3 ⟨_, hc, t_OB.to (V := updV (vp_V fs) k v) ⟨_, e1, q2, q3, t_set q4 hap hk v⟩ (fun j _ => vp_updV_set hl v j)⟩) (hS0.put e2 e3 hab)
theorem px_ty {t : Nat} {cA : ClassId} {ty1 : FieldType} (ht : tys[t]? = some (cA, ty1)) : (tys.getD t (0, .int)).1 = cA := by rw [List.getD_eq_getElem?_getD, ht]; rfl
theorem px_rai (hexec : p.tables.exec = Jvm.exec) (hb : c.code = cc) (hK : va_K D cl tys s) (hM : px_W base D cl tys M H) (t : Nat) {cA : ClassId} (ht : tys[t]? = some (cA, .int)) {i x : Int32} (hv : px_ai t M a i = some x) (hdg : decode cc pc = .ok (.iaload, 1))
    (kk : W p l e R s m args below meth c H locs cells slots Q (F0 m (pc + 1) ls (.int x :: rest))) : W p l e R s m args below meth c H locs cells slots Q (F0 m pc ls (.int i :: .ref a :: rest)) := by
  obtain ⟨n, f, he, hin, rfl⟩ := px_ai_spec hv
  have hP := hM.one he
  simp only [px_c, px_ty ht] at hP
  exact va_iald hexec hb hK hP 0 t rfl ht hin hdg kk
theorem px_rar (hexec : p.tables.exec = Jvm.exec) (hb : c.code = cc) (hK : va_K D cl tys s) (hM : px_W base D cl tys M H) (t : Nat) {cA : ClassId} {C1 : String} (ht : tys[t]? = some (cA, .object C1)) {i : Int32} {x : Nat} (hv : px_ar t M a i = some x) (hdg : decode cc pc = .ok (.aaload, 1))
    (kk : W p l e R s m args below meth c H locs cells slots Q (F0 m (pc + 1) ls (.ref x :: rest))) : W p l e R s m args below meth c H locs cells slots Q (F0 m pc ls (.int i :: .ref a :: rest)) := by
  obtain ⟨n, f, he, hin, hx⟩ := px_ar_spec hv
  have hP := hM.one he
  simp only [px_c, px_ty ht] at hP
  refine va_aldq hexec hb hK hP 0 t rfl ht hin hdg ?_
  rw [hx]
  exact kk
theorem px_ral (hexec : p.tables.exec = Jvm.exec) (hb : c.code = cc) (hK : va_K D cl tys s) (hM : px_W base D cl tys M H) (t : Nat) {cA : ClassId} {ty1 : FieldType} (ht : tys[t]? = some (cA, ty1)) {x : Int32} (hv : px_al t M a = some x) (hdg : decode cc pc = .ok (.arraylength, 1))
    (kk : W p l e R s m args below meth c H locs cells slots Q (F0 m (pc + 1) ls (.int x :: rest))) : W p l e R s m args below meth c H locs cells slots Q (F0 m pc ls (.ref a :: rest)) := by
  obtain ⟨y, he, hx⟩ := px_al_spec hv
  have hP := hM.one he
  simp only [px_c, px_ty ht] at hP
  exact va_alen hexec hb hK hP 0 t rfl ht hx hdg kk
theorem px_rsi (hexec : p.tables.exec = Jvm.exec) (hb : c.code = cc) (hK : va_K D cl tys s) (hM : px_W base D cl tys M H) (hS0 : va_S (fun q => base ≤ q) H0 H locs) (t : Nat) {cA : ClassId} (ht : tys[t]? = some (cA, .int)) {i x : Int32} (hv : px_si t M a i x = some M1) (hdg : decode cc pc = .ok (.iastore, 1))
    (kk : ∀ (H1 : Heap) (locs1 : List Loc), px_W base D cl tys M1 H1 → va_S (fun q => base ≤ q) H0 H1 locs1 → W p l e R s m args below meth c H1 locs1 cells slots Q (F0 m (pc + 1) ls rest)) : W p l e R s m args below meth c H locs cells slots Q (F0 m pc ls (.int x :: .int i :: .ref a :: rest)) := by
  obtain ⟨n, f, he, hin, rfl⟩ := px_si_spec hv
  have hP := hM.2.2 a _ he
  simp only [px_c, px_ty ht] at hP
  refine W.iast hexec hb hP.2 ((hK.2 t _ ht).1 n (fun j => .int (f j))) (fun q => by cases q) (by show ¬ (i < 0 ∨ (arrV _ _ _).slots.size ≤ _); rw [arrV_size]; exact hin) rfl rfl hdg fun H1 e z oq => ?_
  refine kk H1 _ (hM.put he z oq ?_) (hS0.put z oq hP.1)
  show H1[a]? = some (vp_cell _ _)
  rw [e, px_ty ht]
  rw [vp_cell_i, vp_cell_i, arrV_store]
  congr 2
  funext q
  by_cases hq : q = i.toNatClampNeg
  · subst hq
    simp [updV, upd]
  · simp [updV, upd, hq]
/-- a new object; its address is the number of cells so far -/
theorem px_rnew (hexec : p.tables.exec = Jvm.exec) (hb : c.code = cc) (hts : ∀ w ∈ Ts, w.before args s = true) (hC : px_Cl cl Ts ci C T N ty) (hown : s.vm.findClass own = some m.cls) (hcl : (Cond.classLink own index C).before args s = true) (hinst : (Cond.instantiable C N).before args s = true) (hini : (Cond.initialized C).before args s = true)
    (hK : va_K D cl tys s) (hM : px_W base D cl tys M H) (hS : va_S (fun q => base ≤ q) H0 H locs) {fs : List Value} (hfs : ∀ j, j < N → defaultValue (ty j) = vp_V fs j) (hcells : cells + 1 ≤ R.cells) (hslots : slots + N ≤ R.slots) (hdg : decode cc pc = .ok (.new index, 3))
    (kk : ∀ (H1 : Heap), px_W base D cl tys (px_push M (.inr (ci, fs))) H1 → va_S (fun q => base ≤ q) H0 H1 locs →
      W p l e R s m args below meth c H1 locs (cells + 1) (slots + N) Q (F0 m (pc + 3) ls (.ref M.2 :: rest))) : W p l e R s m args below meth c H locs cells slots Q (F0 m pc ls rest) := by
  obtain ⟨hin, hty, hnm, hc⟩ := hC
  have hKn := hK.1 ci _ hc
  refine W.newcK hexec hb hown hcl hinst hini rfl hdg hcells hslots hKn.2.1 hM.2.1 fun H1 kC hkC e1 z1 o1 => ?_
  rw [← hM.2.1] at e1 z1 o1
  rw [← hM.2.1]
  refine (fun k => by rw [hM.2.1]; exact k) (kk H1 (hM.push z1 o1 ?_) (px_S.push hS z1 o1))
  exact ⟨_, hc, (u_born ty hts hin hKn hkC e1 hty).to hfs⟩
theorem px_rnewa (hexec : p.tables.exec = Jvm.exec) (hb : c.code = cc) (harr : (Cond.arrayClass (newarray.typeOf .int)).before args s = true) (t : Nat) {cA : ClassId} (hK : va_K D cl tys s) (ht : tys[t]? = some (cA, .int)) (hM : px_W base D cl tys M H) (hS : va_S (fun q => base ≤ q) H0 H locs)
    {n : Int32} {N' : Nat} (hn : ¬ n < 0) (hN : n.toNatClampNeg = N') (hbytes : N' * componentBytes .int ≤ 536870912) (hcells : cells + 1 ≤ R.cells) (hslots : slots + N' ≤ R.slots) (hdg : decode cc pc = .ok (.newarray .int, 2))
    (kk : ∀ (H1 : Heap), px_W base D cl tys (px_push M (.inl (t, N', .inl (fun _ => 0)))) H1 → va_S (fun q => base ≤ q) H0 H1 locs →
      W p l e R s m args below meth c H1 locs (cells + 1) (slots + N') Q (F0 m (pc + 2) ls (.ref M.2 :: rest))) : W p l e R s m args below meth c H locs cells slots Q (F0 m pc ls (.int n :: rest)) := by
  refine va_newaK hexec hb harr rfl hdg rfl hn hN hbytes hcells hslots hM.2.1 fun H1 cB e1 z1 o1 hAr hNm => ?_
  have hcB : cB = cA := Option.some.inj (hNm.symm.trans (hK.2 t _ ht).2)
  subst hcB
  rw [← hM.2.1] at e1 z1 o1
  refine kk H1 (hM.push z1 o1 ?_) (px_S.push hS z1 o1)
  show H1[H.size]? = some (vp_cell _ _)
  rw [px_ty ht, e1]
  rfl
theorem px_rnewq (hexec : p.tables.exec = Jvm.exec) (hb : c.code = cc) {C1 : String} (hown : s.vm.findClass own = some m.cls) (hclink : (Cond.classLink own index C1).before args s = true) (hover : va_AO C1 s) (t : Nat) {cA : ClassId} (hK : va_K D cl tys s) (ht : tys[t]? = some (cA, .object C1)) (hM : px_W base D cl tys M H) (hS : va_S (fun q => base ≤ q) H0 H locs)
    {n : Int32} {N' : Nat} (hn : ¬ n < 0) (hN : n.toNatClampNeg = N') (hbytes : N' * 4 ≤ 536870912) (hcells : cells + 1 ≤ R.cells) (hslots : slots + N' ≤ R.slots) (hdg : decode cc pc = .ok (.anewarray index, 3))
    (kk : ∀ (H1 : Heap), px_W base D cl tys (px_push M (.inl (t, N', .inr (.inr (.inr (.inr (fun _ => none))))))) H1 → va_S (fun q => base ≤ q) H0 H1 locs →
      W p l e R s m args below meth c H1 locs (cells + 1) (slots + N') Q (F0 m (pc + 3) ls (.ref M.2 :: rest))) : W p l e R s m args below meth c H locs cells slots Q (F0 m pc ls (.int n :: rest)) := by
  subst hN
  refine W.anew hexec hb hown hclink (va_AO.use hover) rfl hdg rfl hn hbytes hcells hslots fun cB kA comp f1 f2 f3 f4 => ?_
  have hcB : cB = cA := by
    obtain ⟨_, _, _, _, _, h4⟩ := (hK.2 t _ ht).2
    exact Option.some.inj (f1.symm.trans h4)
  subst hcB
  generalize hH1 : H.push ({ cls := cB, slots := Array.replicate n.toNatClampNeg .null, vm := .none } : Cell) = H1
  have z1 : H1.size = H.size + 1 := by rw [← hH1, Array.size_push]
  have e1 : H1[H.size]? = some (arrV cB n.toNatClampNeg (fun _ => .null)) := by rw [← hH1, Array.getElem?_push_size, ← arrV_new]
  have o1 : ∀ q : Nat, q < H.size → H1[q]? = H[q]? := fun q hq => by rw [← hH1, Array.getElem?_push, if_neg (Nat.ne_of_lt hq)]
  have kk' := kk H1 (hM.push z1 o1 (by
    show H1[H.size]? = some (vp_cell _ _)
    rw [px_ty ht, vp_cell_q]
    exact e1)) (px_S.push hS z1 o1)
  rw [← hM.2.1] at kk'
  exact kk'
theorem px_rsr (hexec : p.tables.exec = Jvm.exec) (hb : c.code = cc) (hK : va_K D cl tys s) (hM : px_W base D cl tys M H) (hS : va_S (fun q => base ≤ q) H0 H locs) (t : Nat) {cA : ClassId} {r : vw_C} (ht : tys[t]? = some (cA, .object r.1)) (hc : cl[ci]? = some r) {i : Int32} {v : Nat} (hv : px_sr t ci M a i v = some M1) (hdg : decode cc pc = .ok (.aastore, 1))
    (kk : ∀ (H1 : Heap) (locs1 : List Loc), px_W base D cl tys M1 H1 → va_S (fun q => base ≤ q) H0 H1 locs1 → W p l e R s m args below meth c H1 locs1 cells slots Q (F0 m (pc + 1) ls rest)) : W p l e R s m args below meth c H locs cells slots Q (F0 m pc ls (.ref v :: .int i :: .ref a :: rest)) := by
  obtain ⟨n, f, vs, he, hve, hin, rfl⟩ := px_sr_spec hv
  have hlt : i.toNatClampNeg < n := Nat.not_le.mp fun q => hin (Or.inr q)
  have h0 : ¬ i < 0 := fun q => hin (Or.inl q)
  have hP := hM.2.2 a _ he
  simp only [px_c, px_ty ht] at hP
  obtain ⟨-, r', hr', cellV, g1, g2, g3, -⟩ := hM.2.2 v _ hve
  have hcls := (hK.1 ci r hc).2
  obtain ⟨kA, comp, k1, k2, k3, -⟩ := (hK.2 t _ ht).2
  have hcomp : comp = D.1 ci := Option.some.inj (k3.symm.trans hcls.1)
  subst hcomp
  obtain ⟨kC, hkC, -⟩ := hcls.2
  refine W.aast hexec hb hP.2 (fun q h => by cases h) (fun h => by cases h) k1 k2 rfl hkC ⟨h0, by show _ < (arrV _ _ _).slots.size; rw [arrV_size]; exact hlt⟩ g1 (fun q h => by rw [g3] at h; cases h) (by rw [g2]; exact hkC) (by rw [g2]; exact va_assign hcls) rfl rfl hdg fun H1 e z oq => ?_
  refine kk H1 _ (hM.put he z oq ?_) (hS.put z oq hP.1)
  show H1[a]? = some (vp_cell _ _)
  rw [e, px_ty ht]
  rw [vp_cell_q, vp_cell_q, arrV_store]
  congr 2
  funext q
  by_cases hq : q = i.toNatClampNeg
  · subst hq
    simp [updV, va_up, va_rf]
  · simp [updV, va_up, hq]
end PXR
