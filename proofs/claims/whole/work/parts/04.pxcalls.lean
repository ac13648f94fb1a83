/-! words: one list for all methods -/
def px_good (w : Cond) : Bool := (w.onTables && w.keeps) || (match w with | .arrayClass _ => true | _ => false)
def px_tw : List Cond := lw_tbl.filter px_good
theorem px_tw_sub {w : Cond} (h : w ∈ px_tw) : w ∈ lw_tbl := (List.mem_filter.mp h).1
theorem px_tw_good {w : Cond} (h : w ∈ px_tw) : (w.onTables && w.keeps) = true ∨ ∃ ty, w = .arrayClass ty := by
  have h2 := (List.mem_filter.mp h).2
  unfold px_good at h2
  rcases Bool.or_eq_true_iff.mp h2 with h3 | h3
  · exact Or.inl h3
  · right
    split at h3
    · exact ⟨_, rfl⟩
    · cases h3
theorem px_gin {ws : List Cond} (h : ∀ w ∈ ws, w ∈ px_tw) : GoodIn px_tw ws := fun w hw => ⟨h w hw, px_tw_good (h w hw)⟩
theorem px_gI {x : Cond} (h : x ∈ px_tw) : GoodIn px_tw (x :: px_tw) := px_gin (fun w hw => by
  rcases List.mem_cons.mp hw with rfl | hw
  · exact h
  · exact hw)
theorem px_gV {own C : String} {idx : Nat} {y : MethodName} {x : Cond} (h1 : Cond.methodLink own idx y ∈ px_tw) (h2 : Cond.instanceMethod y ∈ px_tw) (h3 : Cond.selects C y y ∈ px_tw) (h4 : Cond.initialized C ∈ px_tw) (h : x ∈ px_tw) : GoodIn px_tw (wsV own idx C y (x :: px_tw)) := px_gin (fun w hw => by
  simp only [wsV, List.cons_append, List.nil_append, List.mem_cons] at hw
  rcases hw with rfl | rfl | rfl | rfl | rfl | hw
  · exact h1
  · exact h2
  · exact h3
  · exact h4
  · exact h
  · exact hw)
theorem px_gS {own : String} {idx : Nat} {y : MethodName} {x : Cond} (h1 : Cond.methodLink own idx y ∈ px_tw) (h2 : Cond.static y ∈ px_tw) (h4 : Cond.initialized own ∈ px_tw) (h : x ∈ px_tw) : GoodIn px_tw (wsS own idx y (x :: px_tw)) := px_gin (fun w hw => by
  simp only [wsS, List.cons_append, List.nil_append, List.mem_cons] at hw
  rcases hw with rfl | rfl | rfl | rfl | hw
  · exact h1
  · exact h2
  · exact h4
  · exact h
  · exact hw)
/-! a contract: from the memory M to M', with the answer r -/
def px_Qi (base : Nat) (D : va_G) (cl : List vw_C) (tys : List (ClassId × FieldType)) (r : Int32) (M' : px_M) : Array Value → State → Outcome → State → Prop := va_Qi (fun r' (_ : Unit) => r' = r) (fun _ t => px_W base D cl tys M' t.heap) (fun q => base ≤ q)
def px_Qv (base : Nat) (D : va_G) (cl : List vw_C) (tys : List (ClassId × FieldType)) (M' : px_M) : Array Value → State → Outcome → State → Prop := va_Qv (fun (_ : Unit) => True) (fun _ t => px_W base D cl tys M' t.heap) (fun q => base ≤ q)
def px_Qr (base : Nat) (D : va_G) (cl : List vw_C) (tys : List (ClassId × FieldType)) (r : Nat) (M' : px_M) : Array Value → State → Outcome → State → Prop := va_Qr (fun (_ : Unit) => True) (fun _ a t => a = r ∧ px_W base D cl tys M' t.heap) (fun q => base ≤ q)
section PXC
variable {p : Program} {l : Launch} {e : Env} {R : Room} {s : State} {m : MethodId} {args : Array Value} {below : List Frame} {meth : Method} {c : Code} {H : Heap} {locs : List Loc} {cells slots : Nat} {Q : State → Prop}
variable {cc : ByteArray} {pc : Nat} {ls : Array Slot} {rest st0 : List Value} {D : va_G} {cl : List vw_C} {base mc ms : Nat} {tys : List (ClassId × FieldType)} {H0 : Heap} {M M' : px_M} {av : Array Value} {nw : List Cond} {ov : List String}
theorem px_calli {r : Int32} (hr : va_Run p l e R s m args below meth c H locs cells slots mc ms (F0 m pc ls st0) rest (px_Qi base D cl tys r M' av) (fun q => base ≤ q)) (hS : va_S (fun q => base ≤ q) H0 H locs)
    (kk : ∀ (H1 : Heap) (locs1 : List Loc), px_W base D cl tys M' H1 → va_S (fun q => base ≤ q) H0 H1 locs1 → W p l e R s m args below meth c H1 locs1 (cells + mc) (slots + ms) Q (F0 m (pc + 3) ls (.int r :: rest))) : W p l e R s m args below meth c H locs cells slots Q (F0 m pc ls st0) := by
  refine va_calli hr hS (fun _ _ h => h) (fun _ h => h) (fun r' u t H1 locs1 ht hvm hp hB hz hk hS1 => ?_)
  subst hp
  rw [ht] at hB
  exact kk H1 locs1 hB hS1
theorem px_callv (hr : va_Run p l e R s m args below meth c H locs cells slots mc ms (F0 m pc ls st0) rest (px_Qv base D cl tys M' av) (fun q => base ≤ q)) (hS : va_S (fun q => base ≤ q) H0 H locs)
    (kk : ∀ (H1 : Heap) (locs1 : List Loc), px_W base D cl tys M' H1 → va_S (fun q => base ≤ q) H0 H1 locs1 → W p l e R s m args below meth c H1 locs1 (cells + mc) (slots + ms) Q (F0 m (pc + 3) ls rest)) : W p l e R s m args below meth c H locs cells slots Q (F0 m pc ls st0) := by
  refine va_callv hr hS (fun _ _ h => h) (fun _ h => h) (fun u t H1 locs1 ht hvm hp hB hz hk hS1 => ?_)
  rw [ht] at hB
  exact kk H1 locs1 hB hS1
theorem px_callr {r : Nat} (hr : va_Run p l e R s m args below meth c H locs cells slots mc ms (F0 m pc ls st0) rest (px_Qr base D cl tys r M' av) (fun q => base ≤ q)) (hS : va_S (fun q => base ≤ q) H0 H locs)
    (kk : ∀ (H1 : Heap) (locs1 : List Loc), px_W base D cl tys M' H1 → va_S (fun q => base ≤ q) H0 H1 locs1 → W p l e R s m args below meth c H1 locs1 (cells + mc) (slots + ms) Q (F0 m (pc + 3) ls (.ref r :: rest))) : W p l e R s m args below meth c H locs cells slots Q (F0 m pc ls st0) := by
  refine va_callr hr hS (fun _ _ h => h) (fun _ h => h) (fun u a t H1 locs1 ht hvm hp hB hz hk hS1 => ?_)
  obtain ⟨rfl, hB⟩ := hB
  rw [ht] at hB
  exact kk H1 locs1 hB hS1
theorem px_preS (hnw : ∀ w ∈ nw, px_nok w = true) (hK : va_K D cl tys s) (hN : ∀ w ∈ nw, va_Nw w s) (hO : ∀ C ∈ ov, va_AO C s) (hM : px_W base D cl tys M H) {As : List Value} : PreS s H (va_Pc As (px_B base D cl tys nw ov M)) As :=
  ⟨px_B.blind hnw, fun U hU hW => ⟨rfl, by rw [hU]; exact hM, va_K.moved hW.alike hK, fun w hw => px_nw_warm (hnw w hw) hW (hN w hw), fun C hC => va_AO.moved hW.alike (hO C hC)⟩⟩
theorem px_preV (hnw : ∀ w ∈ nw, px_nok w = true) (hK : va_K D cl tys s) (hN : ∀ w ∈ nw, va_Nw w s) (hO : ∀ C ∈ ov, va_AO C s) (hM : px_W base D cl tys M H) {b ci : Nat} {u : Unit} (ho : px_ob ci M b = some u) {q : vw_C} (hc : cl[ci]? = some q) {As : List Value} : PreV s H q.1 b (va_Pc (.ref b :: As) (px_B base D cl tys nw ov M)) As := by
  obtain ⟨fs, he⟩ := px_ob_spec ho
  exact ⟨px_B.blind hnw, va_recv (q0 := 0) (fs := fs) hK (hM.one he) hc rfl, fun U hU hW => ⟨rfl, by rw [hU]; exact hM, va_K.moved hW.alike hK, fun w hw => px_nw_warm (hnw w hw) hW (hN w hw), fun C hC => va_AO.moved hW.alike (hO C hC)⟩⟩
theorem px_iret {r : Int32} (hx : p.tables.exec = Jvm.exec) (hb : c.code = cc) (hr : meth.sig.returnType = some .int) (hlocks : meth.locks = false) (hM : px_W base D cl tys M H) (hS : va_S (fun q => base ≤ q) s.heap H locs) (hdg : decode cc pc = .ok (.ireturn, 1)) : W p l e R s m args below meth c H locs cells slots (MQ below (px_Qi base D cl tys r M) args s cells slots (fun q => base ≤ q)) (F0 m pc ls [.int r]) :=
  W.iret (v := r) hx hb hr (fun t ht _ => ⟨⟨r, (), rfl, rfl, by (try dsimp only); rw [ht]; exact hM⟩, hS.F ht⟩) hS.2.2 hdg hlocks
theorem px_zret {r : Int32} {ty : FieldType} (hx : p.tables.exec = Jvm.exec) (hb : c.code = cc) (hr : meth.sig.returnType = some ty) (hn : narrow ty (.int r) = .int r) (hlocks : meth.locks = false) (hM : px_W base D cl tys M H) (hS : va_S (fun q => base ≤ q) s.heap H locs) (hdg : decode cc pc = .ok (.ireturn, 1)) : W p l e R s m args below meth c H locs cells slots (MQ below (px_Qi base D cl tys r M) args s cells slots (fun q => base ≤ q)) (F0 m pc ls [.int r]) :=
  W.zret (v := r) hx hb hr hn (fun t ht _ => ⟨⟨r, (), rfl, rfl, by (try dsimp only); rw [ht]; exact hM⟩, hS.F ht⟩) hS.2.2 hdg hlocks
theorem px_vret (hx : p.tables.exec = Jvm.exec) (hb : c.code = cc) (hr : meth.sig.returnType = none) (hlocks : meth.locks = false) (hM : px_W base D cl tys M H) (hS : va_S (fun q => base ≤ q) s.heap H locs) (hdg : decode cc pc = .ok (.return_, 1)) : W p l e R s m args below meth c H locs cells slots (MQ below (px_Qv base D cl tys M) args s cells slots (fun q => base ≤ q)) (F0 m pc ls []) :=
  W.vret hx hb hr (fun t ht _ => ⟨⟨(), rfl, trivial, by (try dsimp only); rw [ht]; exact hM⟩, hS.F ht⟩) hS.2.2 hdg hlocks
theorem px_aret {r : Nat} {rt : FieldType} (hx : p.tables.exec = Jvm.exec) (hb : c.code = cc) (hr : meth.sig.returnType = some rt) (hrt : (∃ n, rt = .object n) ∨ ∃ t, rt = .array t) (hlocks : meth.locks = false) (hM : px_W base D cl tys M H) (hS : va_S (fun q => base ≤ q) s.heap H locs) (hdg : decode cc pc = .ok (.areturn, 1)) : W p l e R s m args below meth c H locs cells slots (MQ below (px_Qr base D cl tys r M) args s cells slots (fun q => base ≤ q)) (F0 m pc ls [.ref r]) :=
  W.aret (v := .ref r) hx hb hr hrt (Or.inr ⟨r, rfl⟩) (fun t ht _ => ⟨⟨(), r, rfl, trivial, rfl, by (try dsimp only); rw [ht]; exact hM⟩, hS.F ht⟩) hS.2.2 hdg hlocks
end PXC
/-- what holds in a method's body from its entry on -/
def px_At (p : Program) (s : State) (m : MethodId) (meth : Method) (c : Code) (y : MethodName) (cc : ByteArray) (n : Nat) (ret : Option FieldType) (av : Array Value) (D : va_G) (cl : List vw_C) (tys : List (ClassId × FieldType)) (nw : List Cond) (ov : List String) : Prop :=
  p.tables.exec = Jvm.exec ∧ c.code = cc ∧ meth.sig.returnType = ret ∧ c.maxLocals = n ∧ s.vm.findClass y.cls = some m.cls ∧ meth.name = y.name ∧ meth.locks = false ∧ (∀ w ∈ px_tw, w.before av s = true) ∧ va_K D cl tys s ∧ (∀ w ∈ nw, va_Nw w s) ∧ ∀ C ∈ ov, va_AO C s
theorem px_of {l : Launch} {y : MethodName} {cc : ByteArray} {n : Nat} {ret : Option FieldType} {rm : Room} {av : List Value} {base : Nat} {D : va_G} {cl : List vw_C} {tys : List (ClassId × FieldType)} {nw : List Cond} {ov : List String} {M : px_M} {Qc : Array Value → State → Outcome → State → Prop} {mc ms : Nat} (hy : plainName y.cls = true) (hav : (lg_sl av).length ≤ n)
    (body : ∀ (p : Program) (e : Env) (s : State) (m : MethodId) (below : List Frame) (meth : Method) (c : Code) (ls : Array Slot), px_At p s m meth c y cc n ret av.toArray D cl tys nw ov → px_W base D cl tys M s.heap → va_S (fun q => base ≤ q) s.heap s.heap [] → lv_has ls n (lv_args 0 av) →
      W p l e rm s m av.toArray below meth c s.heap [] 0 0 (MQ below Qc av.toArray s mc ms (fun q => base ≤ q)) (F0 m 0 ls [])) :
    Met l y (.code y cc n ret :: px_tw) rm (va_Pc av (px_B base D cl tys nw ov M)) Qc mc ms (fun q => base ≤ q) := by
  refine Met.ofW (cc := cc) (maxL := n) (ret := ret) hy rfl ?_
  intro p e s m args below meth c s₁ B hml hv
  obtain ⟨rfl, hM, hK, hN, hO⟩ := hv
  have hts := atoms_spec (ws := .code y cc n ret :: px_tw) B.pre
  have hl := lv_entry av (n := n) hav
  rw [lg_entry_eq]
  exact body p e s m below meth c _ ⟨B.exec, B.bytes, B.returns, hml, findClass_of_methodNamed B.named, (name_of_methodNamed B.named B.method).1, B.notSynchronized, fun w hw => hts w (List.mem_cons_of_mem _ hw), hK, hN, hO⟩ hM va_S.rf hl
theorem px_out2 {x : Int32} (h0 : ¬ x = 0) (h1 : ¬ x = 1) : x.toInt < 0 ∨ 1 < x.toInt := by
  have e0 : x.toInt ≠ 0 := fun q => h0 (Int32.toInt_inj.mp (q.trans rfl))
  have e1 : x.toInt ≠ 1 := fun q => h1 (Int32.toInt_inj.mp (q.trans rfl))
  omega
theorem px_out3 {x : Int32} (h0 : ¬ x = 0) (h1 : ¬ x = 1) (h2 : ¬ x = 2) : x.toInt < 0 ∨ 2 < x.toInt := by
  have e0 : x.toInt ≠ 0 := fun q => h0 (Int32.toInt_inj.mp (q.trans rfl))
  have e1 : x.toInt ≠ 1 := fun q => h1 (Int32.toInt_inj.mp (q.trans rfl))
  have e2 : x.toInt ≠ 2 := fun q => h2 (Int32.toInt_inj.mp (q.trans rfl))
  omega
theorem px_out6 {x : Int32} (h0 : ¬ x = 0) (h1 : ¬ x = 1) (h2 : ¬ x = 2) (h3 : ¬ x = 3) (h4 : ¬ x = 4) (h5 : ¬ x = 5) : x.toInt < 0 ∨ 5 < x.toInt := by
  have e0 : x.toInt ≠ 0 := fun q => h0 (Int32.toInt_inj.mp (q.trans rfl))
  have e1 : x.toInt ≠ 1 := fun q => h1 (Int32.toInt_inj.mp (q.trans rfl))
  have e2 : x.toInt ≠ 2 := fun q => h2 (Int32.toInt_inj.mp (q.trans rfl))
  have e3 : x.toInt ≠ 3 := fun q => h3 (Int32.toInt_inj.mp (q.trans rfl))
  have e4 : x.toInt ≠ 4 := fun q => h4 (Int32.toInt_inj.mp (q.trans rfl))
  have e5 : x.toInt ≠ 5 := fun q => h5 (Int32.toInt_inj.mp (q.trans rfl))
  omega
