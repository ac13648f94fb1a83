-- ===== end of PART A; then your names; then what follows =====
/-! THE CLAIM OUT OF ONE WALK OF THE LAW'S BODY. Your part is whole_start (and what it stands on); all else here is the same for every law, but numbers. -/
def R_law : String := "SignBoardsLaw"
def lw_P (b : Addr) (xs : List Int32) (args : Array Value) (s : State) : Prop := args = #[.ref b] ∧ s.IntsAt b xs ∧ xs.length ≤ 2560 ∧ (Jvm.Cond.and given_1 narrow_1).before args s = true
def lw_Q (_ : Array Value) (s : State) (o : Outcome) (t : State) : Prop := o = .returned (some (.int 1)) ∧ Framed s o t [] 600000 7302250
def lw_Z (below : List Frame) (a : Array Value) (s : State) : State → Prop := fun t => ∃ o, t.status = .running ∧ Ended t below o ∧ lw_Q a s o t
/-- the law's own end, with 1 on the stack, nothing written that was there before, its room as the claim has it -/
theorem lw_ret {p : Program} {l : Launch} {e : Env} {s : State} {m : MethodId} {below : List Frame} {meth : Method} {c : Code} {b : Nat} (hx : p.tables.exec = Jvm.exec) (hb : c.code = code) (hr : meth.sig.returnType = ret) (hlocks : meth.locks = false) {pc : Nat} {H : Heap} {ls : Array Slot} (hdg : decode code pc = .ok (.ireturn, 1)) : W p l e room_1 s m #[Value.ref b] below meth c H [] 600000 7302250 (lw_Z below #[Value.ref b] s) (F0 m pc ls [.int 1]) := by
  intro T hT X
  obtain ⟨fs, hret, hrun, hended, hW, hframe⟩ := X.leave (v := some (.int 1)) (hlocks := hlocks) (fun h => by rw [hr] at h; cases h)
  have hmeth' : T.vm.method? m = some meth := X.method'
  refine ⟨T.setFrames fs, ?_, .returned (some (.int 1)), hrun, hended, rfl, ⟨_, rfl⟩, hW, hframe⟩
  jvm_step X.here [X.here.top, hx, hb, hdg, hmeth', hr, ret, narrow_b1]
  (try refine ⟨rfl, ?_⟩); (try refine ⟨rfl, ?_⟩)
  first | (intro acts; rw [hret _ acts rfl rfl rfl]) | rw [hret _ _ rfl rfl rfl]
  exact Steps.refl _
/-- what holds at the law's entry: the machine, the code, the tables' words (any of lw_tbl by 'hts w (by decide +kernel)'), the script of L ints xs at the cell b, what the Statement gives of the start (any of its parts by flat_of_before) -/
def lw_At (p : Program) (s : State) (m : MethodId) (meth : Method) (c : Code) (b L : Nat) (xs : Nat → Int32) : Prop :=
  p.tables.exec = Jvm.exec ∧ c.code = code ∧ meth.sig.returnType = ret ∧ c.maxLocals = 4 ∧ s.vm.findClass R_law = some m.cls ∧ (∀ w ∈ lw_tbl, w.before #[Value.ref b] s = true) ∧ va_X b L xs s s.heap ∧ b < s.heap.size ∧ meth.locks = false ∧ (Jvm.Cond.and given_1 narrow_1).before #[Value.ref b] s = true
theorem w_14 : Cond.classLink R_law 7 R_SB ∈ px_tw := List.mem_filter.mpr ⟨List.mem_append_right _ (List.mem_of_getElem? (i := 14) (by decide +kernel)), by decide +kernel⟩
theorem w_15 : Cond.instantiable R_SB 13 ∈ px_tw := List.mem_filter.mpr ⟨List.mem_append_right _ (List.mem_of_getElem? (i := 15) (by decide +kernel)), by decide +kernel⟩
theorem w_16 : Cond.methodLink R_law 9 y_SB_init ∈ px_tw := List.mem_filter.mpr ⟨List.mem_append_right _ (List.mem_of_getElem? (i := 16) (by decide +kernel)), by decide +kernel⟩
theorem w_17 : Cond.instanceMethod y_SB_init ∈ px_tw := List.mem_filter.mpr ⟨List.mem_append_right _ (List.mem_of_getElem? (i := 17) (by decide +kernel)), by decide +kernel⟩
theorem w_18 : Cond.code y_SB_init b_SB_init 2 none ∈ px_tw := List.mem_filter.mpr ⟨List.mem_append_right _ (List.mem_of_getElem? (i := 18) (by decide +kernel)), by decide +kernel⟩
theorem w_332 : Cond.methodLink R_law 13 y_SB_unit ∈ px_tw := List.mem_filter.mpr ⟨List.mem_append_right _ (List.mem_of_getElem? (i := 332) (by decide +kernel)), by decide +kernel⟩
theorem w_333 : Cond.instanceMethod y_SB_unit ∈ px_tw := List.mem_filter.mpr ⟨List.mem_append_right _ (List.mem_of_getElem? (i := 333) (by decide +kernel)), by decide +kernel⟩
theorem w_334 : Cond.selects R_SB y_SB_unit y_SB_unit ∈ px_tw := List.mem_filter.mpr ⟨List.mem_append_right _ (List.mem_of_getElem? (i := 334) (by decide +kernel)), by decide +kernel⟩
theorem w_335 : Cond.code y_SB_unit b_SB_unit 2 (some .boolean) ∈ px_tw := List.mem_filter.mpr ⟨List.mem_append_right _ (List.mem_of_getElem? (i := 335) (by decide +kernel)), by decide +kernel⟩
theorem w_346 : Cond.methodLink R_law 18 y_SB_rules ∈ px_tw := List.mem_filter.mpr ⟨List.mem_append_right _ (List.mem_of_getElem? (i := 346) (by decide +kernel)), by decide +kernel⟩
theorem w_347 : Cond.instanceMethod y_SB_rules ∈ px_tw := List.mem_filter.mpr ⟨List.mem_append_right _ (List.mem_of_getElem? (i := 347) (by decide +kernel)), by decide +kernel⟩
theorem w_348 : Cond.selects R_SB y_SB_rules y_SB_rules ∈ px_tw := List.mem_filter.mpr ⟨List.mem_append_right _ (List.mem_of_getElem? (i := 348) (by decide +kernel)), by decide +kernel⟩
theorem w_349 : Cond.code y_SB_rules b_SB_rules 3 (some .int) ∈ px_tw := List.mem_filter.mpr ⟨List.mem_append_right _ (List.mem_of_getElem? (i := 349) (by decide +kernel)), by decide +kernel⟩
theorem w_396 : Cond.methodLink R_law 23 y_SB_name ∈ px_tw := List.mem_filter.mpr ⟨List.mem_append_right _ (List.mem_of_getElem? (i := 396) (by decide +kernel)), by decide +kernel⟩
theorem w_397 : Cond.instanceMethod y_SB_name ∈ px_tw := List.mem_filter.mpr ⟨List.mem_append_right _ (List.mem_of_getElem? (i := 397) (by decide +kernel)), by decide +kernel⟩
theorem w_398 : Cond.selects R_SB y_SB_name y_SB_name ∈ px_tw := List.mem_filter.mpr ⟨List.mem_append_right _ (List.mem_of_getElem? (i := 398) (by decide +kernel)), by decide +kernel⟩
theorem w_399 : Cond.code y_SB_name b_SB_name 3 (some .int) ∈ px_tw := List.mem_filter.mpr ⟨List.mem_append_right _ (List.mem_of_getElem? (i := 399) (by decide +kernel)), by decide +kernel⟩
theorem w_405 : Cond.methodLink R_law 27 y_SB_glyph ∈ px_tw := List.mem_filter.mpr ⟨List.mem_append_right _ (List.mem_of_getElem? (i := 405) (by decide +kernel)), by decide +kernel⟩
theorem w_406 : Cond.instanceMethod y_SB_glyph ∈ px_tw := List.mem_filter.mpr ⟨List.mem_append_right _ (List.mem_of_getElem? (i := 406) (by decide +kernel)), by decide +kernel⟩
theorem w_407 : Cond.selects R_SB y_SB_glyph y_SB_glyph ∈ px_tw := List.mem_filter.mpr ⟨List.mem_append_right _ (List.mem_of_getElem? (i := 407) (by decide +kernel)), by decide +kernel⟩
theorem w_408 : Cond.code y_SB_glyph b_SB_glyph 3 (some .boolean) ∈ px_tw := List.mem_filter.mpr ⟨List.mem_append_right _ (List.mem_of_getElem? (i := 408) (by decide +kernel)), by decide +kernel⟩
theorem w_413 : Cond.methodLink R_law 32 y_SB_kern ∈ px_tw := List.mem_filter.mpr ⟨List.mem_append_right _ (List.mem_of_getElem? (i := 413) (by decide +kernel)), by decide +kernel⟩
theorem w_414 : Cond.instanceMethod y_SB_kern ∈ px_tw := List.mem_filter.mpr ⟨List.mem_append_right _ (List.mem_of_getElem? (i := 414) (by decide +kernel)), by decide +kernel⟩
theorem w_415 : Cond.selects R_SB y_SB_kern y_SB_kern ∈ px_tw := List.mem_filter.mpr ⟨List.mem_append_right _ (List.mem_of_getElem? (i := 415) (by decide +kernel)), by decide +kernel⟩
theorem w_416 : Cond.code y_SB_kern b_SB_kern 4 (some .boolean) ∈ px_tw := List.mem_filter.mpr ⟨List.mem_append_right _ (List.mem_of_getElem? (i := 416) (by decide +kernel)), by decide +kernel⟩
theorem w_425 : Cond.methodLink R_law 37 y_SB_height ∈ px_tw := List.mem_filter.mpr ⟨List.mem_append_right _ (List.mem_of_getElem? (i := 425) (by decide +kernel)), by decide +kernel⟩
theorem w_426 : Cond.instanceMethod y_SB_height ∈ px_tw := List.mem_filter.mpr ⟨List.mem_append_right _ (List.mem_of_getElem? (i := 426) (by decide +kernel)), by decide +kernel⟩
theorem w_427 : Cond.selects R_SB y_SB_height y_SB_height ∈ px_tw := List.mem_filter.mpr ⟨List.mem_append_right _ (List.mem_of_getElem? (i := 427) (by decide +kernel)), by decide +kernel⟩
theorem w_428 : Cond.code y_SB_height b_SB_height 2 (some .int) ∈ px_tw := List.mem_filter.mpr ⟨List.mem_append_right _ (List.mem_of_getElem? (i := 428) (by decide +kernel)), by decide +kernel⟩
theorem w_436 : Cond.methodLink R_law 42 y_SB_width ∈ px_tw := List.mem_filter.mpr ⟨List.mem_append_right _ (List.mem_of_getElem? (i := 436) (by decide +kernel)), by decide +kernel⟩
theorem w_437 : Cond.instanceMethod y_SB_width ∈ px_tw := List.mem_filter.mpr ⟨List.mem_append_right _ (List.mem_of_getElem? (i := 437) (by decide +kernel)), by decide +kernel⟩
theorem w_438 : Cond.selects R_SB y_SB_width y_SB_width ∈ px_tw := List.mem_filter.mpr ⟨List.mem_append_right _ (List.mem_of_getElem? (i := 438) (by decide +kernel)), by decide +kernel⟩
theorem w_439 : Cond.code y_SB_width b_SB_width 3 (some .int) ∈ px_tw := List.mem_filter.mpr ⟨List.mem_append_right _ (List.mem_of_getElem? (i := 439) (by decide +kernel)), by decide +kernel⟩
theorem w_456 : Cond.methodLink R_law 47 y_SB_way ∈ px_tw := List.mem_filter.mpr ⟨List.mem_append_right _ (List.mem_of_getElem? (i := 456) (by decide +kernel)), by decide +kernel⟩
theorem w_457 : Cond.instanceMethod y_SB_way ∈ px_tw := List.mem_filter.mpr ⟨List.mem_append_right _ (List.mem_of_getElem? (i := 457) (by decide +kernel)), by decide +kernel⟩
theorem w_458 : Cond.selects R_SB y_SB_way y_SB_way ∈ px_tw := List.mem_filter.mpr ⟨List.mem_append_right _ (List.mem_of_getElem? (i := 458) (by decide +kernel)), by decide +kernel⟩
theorem w_459 : Cond.code y_SB_way b_SB_way 4 (some .int) ∈ px_tw := List.mem_filter.mpr ⟨List.mem_append_right _ (List.mem_of_getElem? (i := 459) (by decide +kernel)), by decide +kernel⟩
theorem w_468 : Cond.methodLink R_law 52 y_SB_goal ∈ px_tw := List.mem_filter.mpr ⟨List.mem_append_right _ (List.mem_of_getElem? (i := 468) (by decide +kernel)), by decide +kernel⟩
theorem w_469 : Cond.instanceMethod y_SB_goal ∈ px_tw := List.mem_filter.mpr ⟨List.mem_append_right _ (List.mem_of_getElem? (i := 469) (by decide +kernel)), by decide +kernel⟩
theorem w_470 : Cond.selects R_SB y_SB_goal y_SB_goal ∈ px_tw := List.mem_filter.mpr ⟨List.mem_append_right _ (List.mem_of_getElem? (i := 470) (by decide +kernel)), by decide +kernel⟩
theorem w_471 : Cond.code y_SB_goal b_SB_goal 3 (some .boolean) ∈ px_tw := List.mem_filter.mpr ⟨List.mem_append_right _ (List.mem_of_getElem? (i := 471) (by decide +kernel)), by decide +kernel⟩
theorem w_472 : Cond.methodLink R_law 56 y_SB_board ∈ px_tw := List.mem_filter.mpr ⟨List.mem_append_right _ (List.mem_of_getElem? (i := 472) (by decide +kernel)), by decide +kernel⟩
theorem w_473 : Cond.instanceMethod y_SB_board ∈ px_tw := List.mem_filter.mpr ⟨List.mem_append_right _ (List.mem_of_getElem? (i := 473) (by decide +kernel)), by decide +kernel⟩
theorem w_474 : Cond.selects R_SB y_SB_board y_SB_board ∈ px_tw := List.mem_filter.mpr ⟨List.mem_append_right _ (List.mem_of_getElem? (i := 474) (by decide +kernel)), by decide +kernel⟩
theorem w_475 : Cond.code y_SB_board b_SB_board 3 (some .int) ∈ px_tw := List.mem_filter.mpr ⟨List.mem_append_right _ (List.mem_of_getElem? (i := 475) (by decide +kernel)), by decide +kernel⟩
theorem w_481 : Cond.methodLink R_law 60 y_SB_on ∈ px_tw := List.mem_filter.mpr ⟨List.mem_append_right _ (List.mem_of_getElem? (i := 481) (by decide +kernel)), by decide +kernel⟩
theorem w_482 : Cond.instanceMethod y_SB_on ∈ px_tw := List.mem_filter.mpr ⟨List.mem_append_right _ (List.mem_of_getElem? (i := 482) (by decide +kernel)), by decide +kernel⟩
theorem w_483 : Cond.selects R_SB y_SB_on y_SB_on ∈ px_tw := List.mem_filter.mpr ⟨List.mem_append_right _ (List.mem_of_getElem? (i := 483) (by decide +kernel)), by decide +kernel⟩
theorem w_484 : Cond.code y_SB_on b_SB_on 4 (some .boolean) ∈ px_tw := List.mem_filter.mpr ⟨List.mem_append_right _ (List.mem_of_getElem? (i := 484) (by decide +kernel)), by decide +kernel⟩
theorem w_501 : Cond.methodLink R_law 64 y_SB_wide ∈ px_tw := List.mem_filter.mpr ⟨List.mem_append_right _ (List.mem_of_getElem? (i := 501) (by decide +kernel)), by decide +kernel⟩
theorem w_502 : Cond.instanceMethod y_SB_wide ∈ px_tw := List.mem_filter.mpr ⟨List.mem_append_right _ (List.mem_of_getElem? (i := 502) (by decide +kernel)), by decide +kernel⟩
theorem w_503 : Cond.selects R_SB y_SB_wide y_SB_wide ∈ px_tw := List.mem_filter.mpr ⟨List.mem_append_right _ (List.mem_of_getElem? (i := 503) (by decide +kernel)), by decide +kernel⟩
theorem w_504 : Cond.code y_SB_wide b_SB_wide 3 (some .boolean) ∈ px_tw := List.mem_filter.mpr ⟨List.mem_append_right _ (List.mem_of_getElem? (i := 504) (by decide +kernel)), by decide +kernel⟩
theorem w_505 : Cond.methodLink R_law 68 y_SB_row ∈ px_tw := List.mem_filter.mpr ⟨List.mem_append_right _ (List.mem_of_getElem? (i := 505) (by decide +kernel)), by decide +kernel⟩
theorem w_506 : Cond.instanceMethod y_SB_row ∈ px_tw := List.mem_filter.mpr ⟨List.mem_append_right _ (List.mem_of_getElem? (i := 506) (by decide +kernel)), by decide +kernel⟩
theorem w_507 : Cond.selects R_SB y_SB_row y_SB_row ∈ px_tw := List.mem_filter.mpr ⟨List.mem_append_right _ (List.mem_of_getElem? (i := 507) (by decide +kernel)), by decide +kernel⟩
theorem w_508 : Cond.code y_SB_row b_SB_row 3 (some .int) ∈ px_tw := List.mem_filter.mpr ⟨List.mem_append_right _ (List.mem_of_getElem? (i := 508) (by decide +kernel)), by decide +kernel⟩
theorem w_542 : Cond.methodLink R_law 72 y_SB_distance ∈ px_tw := List.mem_filter.mpr ⟨List.mem_append_right _ (List.mem_of_getElem? (i := 542) (by decide +kernel)), by decide +kernel⟩
theorem w_543 : Cond.instanceMethod y_SB_distance ∈ px_tw := List.mem_filter.mpr ⟨List.mem_append_right _ (List.mem_of_getElem? (i := 543) (by decide +kernel)), by decide +kernel⟩
theorem w_544 : Cond.selects R_SB y_SB_distance y_SB_distance ∈ px_tw := List.mem_filter.mpr ⟨List.mem_append_right _ (List.mem_of_getElem? (i := 544) (by decide +kernel)), by decide +kernel⟩
theorem w_545 : Cond.code y_SB_distance b_SB_distance 3 (some .int) ∈ px_tw := List.mem_filter.mpr ⟨List.mem_append_right _ (List.mem_of_getElem? (i := 545) (by decide +kernel)), by decide +kernel⟩
theorem w_550 : Cond.methodLink R_law 76 y_SB_size ∈ px_tw := List.mem_filter.mpr ⟨List.mem_append_right _ (List.mem_of_getElem? (i := 550) (by decide +kernel)), by decide +kernel⟩
theorem w_551 : Cond.instanceMethod y_SB_size ∈ px_tw := List.mem_filter.mpr ⟨List.mem_append_right _ (List.mem_of_getElem? (i := 551) (by decide +kernel)), by decide +kernel⟩
theorem w_552 : Cond.selects R_SB y_SB_size y_SB_size ∈ px_tw := List.mem_filter.mpr ⟨List.mem_append_right _ (List.mem_of_getElem? (i := 552) (by decide +kernel)), by decide +kernel⟩
theorem w_553 : Cond.code y_SB_size b_SB_size 4 (some .int) ∈ px_tw := List.mem_filter.mpr ⟨List.mem_append_right _ (List.mem_of_getElem? (i := 553) (by decide +kernel)), by decide +kernel⟩
theorem w_575 : Cond.methodLink R_law 80 y_SB_drawn ∈ px_tw := List.mem_filter.mpr ⟨List.mem_append_right _ (List.mem_of_getElem? (i := 575) (by decide +kernel)), by decide +kernel⟩
theorem w_576 : Cond.instanceMethod y_SB_drawn ∈ px_tw := List.mem_filter.mpr ⟨List.mem_append_right _ (List.mem_of_getElem? (i := 576) (by decide +kernel)), by decide +kernel⟩
theorem w_577 : Cond.selects R_SB y_SB_drawn y_SB_drawn ∈ px_tw := List.mem_filter.mpr ⟨List.mem_append_right _ (List.mem_of_getElem? (i := 577) (by decide +kernel)), by decide +kernel⟩
theorem w_578 : Cond.code y_SB_drawn b_SB_drawn 10 (some .int) ∈ px_tw := List.mem_filter.mpr ⟨List.mem_append_right _ (List.mem_of_getElem? (i := 578) (by decide +kernel)), by decide +kernel⟩
theorem w_596 : Cond.methodLink R_law 85 y_SB_shows ∈ px_tw := List.mem_filter.mpr ⟨List.mem_append_right _ (List.mem_of_getElem? (i := 596) (by decide +kernel)), by decide +kernel⟩
theorem w_597 : Cond.instanceMethod y_SB_shows ∈ px_tw := List.mem_filter.mpr ⟨List.mem_append_right _ (List.mem_of_getElem? (i := 597) (by decide +kernel)), by decide +kernel⟩
theorem w_598 : Cond.selects R_SB y_SB_shows y_SB_shows ∈ px_tw := List.mem_filter.mpr ⟨List.mem_append_right _ (List.mem_of_getElem? (i := 598) (by decide +kernel)), by decide +kernel⟩
theorem w_599 : Cond.code y_SB_shows b_SB_shows 3 (some .boolean) ∈ px_tw := List.mem_filter.mpr ⟨List.mem_append_right _ (List.mem_of_getElem? (i := 599) (by decide +kernel)), by decide +kernel⟩
theorem w_604 : Cond.methodLink R_law 89 y_SB_breaks ∈ px_tw := List.mem_filter.mpr ⟨List.mem_append_right _ (List.mem_of_getElem? (i := 604) (by decide +kernel)), by decide +kernel⟩
theorem w_605 : Cond.instanceMethod y_SB_breaks ∈ px_tw := List.mem_filter.mpr ⟨List.mem_append_right _ (List.mem_of_getElem? (i := 605) (by decide +kernel)), by decide +kernel⟩
theorem w_606 : Cond.selects R_SB y_SB_breaks y_SB_breaks ∈ px_tw := List.mem_filter.mpr ⟨List.mem_append_right _ (List.mem_of_getElem? (i := 606) (by decide +kernel)), by decide +kernel⟩
theorem w_607 : Cond.code y_SB_breaks b_SB_breaks 3 (some .int) ∈ px_tw := List.mem_filter.mpr ⟨List.mem_append_right _ (List.mem_of_getElem? (i := 607) (by decide +kernel)), by decide +kernel⟩
theorem w_635 : Cond.methodLink R_law 93 y_SB_count ∈ px_tw := List.mem_filter.mpr ⟨List.mem_append_right _ (List.mem_of_getElem? (i := 635) (by decide +kernel)), by decide +kernel⟩
theorem w_636 : Cond.instanceMethod y_SB_count ∈ px_tw := List.mem_filter.mpr ⟨List.mem_append_right _ (List.mem_of_getElem? (i := 636) (by decide +kernel)), by decide +kernel⟩
theorem w_637 : Cond.selects R_SB y_SB_count y_SB_count ∈ px_tw := List.mem_filter.mpr ⟨List.mem_append_right _ (List.mem_of_getElem? (i := 637) (by decide +kernel)), by decide +kernel⟩
theorem w_638 : Cond.code y_SB_count b_SB_count 2 (some .int) ∈ px_tw := List.mem_filter.mpr ⟨List.mem_append_right _ (List.mem_of_getElem? (i := 638) (by decide +kernel)), by decide +kernel⟩
theorem w_639 : Cond.classLink R_law 10 R_MO ∈ px_tw := List.mem_filter.mpr ⟨List.mem_append_right _ (List.mem_of_getElem? (i := 639) (by decide +kernel)), by decide +kernel⟩
theorem w_640 : Cond.instantiable R_MO 42 ∈ px_tw := List.mem_filter.mpr ⟨List.mem_append_right _ (List.mem_of_getElem? (i := 640) (by decide +kernel)), by decide +kernel⟩
theorem w_641 : Cond.methodLink R_law 12 y_MO_init ∈ px_tw := List.mem_filter.mpr ⟨List.mem_append_right _ (List.mem_of_getElem? (i := 641) (by decide +kernel)), by decide +kernel⟩
theorem w_642 : Cond.instanceMethod y_MO_init ∈ px_tw := List.mem_filter.mpr ⟨List.mem_append_right _ (List.mem_of_getElem? (i := 642) (by decide +kernel)), by decide +kernel⟩
theorem w_643 : Cond.code y_MO_init b_MO_init 2 none ∈ px_tw := List.mem_filter.mpr ⟨List.mem_append_right _ (List.mem_of_getElem? (i := 643) (by decide +kernel)), by decide +kernel⟩
theorem w_772 : Cond.methodLink R_law 17 y_MO_unit ∈ px_tw := List.mem_filter.mpr ⟨List.mem_append_right _ (List.mem_of_getElem? (i := 772) (by decide +kernel)), by decide +kernel⟩
theorem w_773 : Cond.instanceMethod y_MO_unit ∈ px_tw := List.mem_filter.mpr ⟨List.mem_append_right _ (List.mem_of_getElem? (i := 773) (by decide +kernel)), by decide +kernel⟩
theorem w_774 : Cond.selects R_MO y_MO_unit y_MO_unit ∈ px_tw := List.mem_filter.mpr ⟨List.mem_append_right _ (List.mem_of_getElem? (i := 774) (by decide +kernel)), by decide +kernel⟩
theorem w_775 : Cond.code y_MO_unit b_MO_unit 2 (some .boolean) ∈ px_tw := List.mem_filter.mpr ⟨List.mem_append_right _ (List.mem_of_getElem? (i := 775) (by decide +kernel)), by decide +kernel⟩
theorem w_779 : Cond.methodLink R_law 22 y_MO_rules ∈ px_tw := List.mem_filter.mpr ⟨List.mem_append_right _ (List.mem_of_getElem? (i := 779) (by decide +kernel)), by decide +kernel⟩
theorem w_780 : Cond.instanceMethod y_MO_rules ∈ px_tw := List.mem_filter.mpr ⟨List.mem_append_right _ (List.mem_of_getElem? (i := 780) (by decide +kernel)), by decide +kernel⟩
theorem w_781 : Cond.selects R_MO y_MO_rules y_MO_rules ∈ px_tw := List.mem_filter.mpr ⟨List.mem_append_right _ (List.mem_of_getElem? (i := 781) (by decide +kernel)), by decide +kernel⟩
theorem w_782 : Cond.code y_MO_rules b_MO_rules 8 (some .int) ∈ px_tw := List.mem_filter.mpr ⟨List.mem_append_right _ (List.mem_of_getElem? (i := 782) (by decide +kernel)), by decide +kernel⟩
theorem w_799 : Cond.methodLink R_law 26 y_MO_name ∈ px_tw := List.mem_filter.mpr ⟨List.mem_append_right _ (List.mem_of_getElem? (i := 799) (by decide +kernel)), by decide +kernel⟩
theorem w_800 : Cond.instanceMethod y_MO_name ∈ px_tw := List.mem_filter.mpr ⟨List.mem_append_right _ (List.mem_of_getElem? (i := 800) (by decide +kernel)), by decide +kernel⟩
theorem w_801 : Cond.selects R_MO y_MO_name y_MO_name ∈ px_tw := List.mem_filter.mpr ⟨List.mem_append_right _ (List.mem_of_getElem? (i := 801) (by decide +kernel)), by decide +kernel⟩
theorem w_802 : Cond.code y_MO_name b_MO_name 2 (some .int) ∈ px_tw := List.mem_filter.mpr ⟨List.mem_append_right _ (List.mem_of_getElem? (i := 802) (by decide +kernel)), by decide +kernel⟩
theorem w_803 : Cond.methodLink R_law 31 y_MO_glyph ∈ px_tw := List.mem_filter.mpr ⟨List.mem_append_right _ (List.mem_of_getElem? (i := 803) (by decide +kernel)), by decide +kernel⟩
theorem w_804 : Cond.instanceMethod y_MO_glyph ∈ px_tw := List.mem_filter.mpr ⟨List.mem_append_right _ (List.mem_of_getElem? (i := 804) (by decide +kernel)), by decide +kernel⟩
theorem w_805 : Cond.selects R_MO y_MO_glyph y_MO_glyph ∈ px_tw := List.mem_filter.mpr ⟨List.mem_append_right _ (List.mem_of_getElem? (i := 805) (by decide +kernel)), by decide +kernel⟩
theorem w_806 : Cond.code y_MO_glyph b_MO_glyph 3 (some .boolean) ∈ px_tw := List.mem_filter.mpr ⟨List.mem_append_right _ (List.mem_of_getElem? (i := 806) (by decide +kernel)), by decide +kernel⟩
theorem w_807 : Cond.methodLink R_law 36 y_MO_kern ∈ px_tw := List.mem_filter.mpr ⟨List.mem_append_right _ (List.mem_of_getElem? (i := 807) (by decide +kernel)), by decide +kernel⟩
theorem w_808 : Cond.instanceMethod y_MO_kern ∈ px_tw := List.mem_filter.mpr ⟨List.mem_append_right _ (List.mem_of_getElem? (i := 808) (by decide +kernel)), by decide +kernel⟩
theorem w_809 : Cond.selects R_MO y_MO_kern y_MO_kern ∈ px_tw := List.mem_filter.mpr ⟨List.mem_append_right _ (List.mem_of_getElem? (i := 809) (by decide +kernel)), by decide +kernel⟩
theorem w_810 : Cond.code y_MO_kern b_MO_kern 5 (some .boolean) ∈ px_tw := List.mem_filter.mpr ⟨List.mem_append_right _ (List.mem_of_getElem? (i := 810) (by decide +kernel)), by decide +kernel⟩
theorem w_815 : Cond.methodLink R_law 41 y_MO_height ∈ px_tw := List.mem_filter.mpr ⟨List.mem_append_right _ (List.mem_of_getElem? (i := 815) (by decide +kernel)), by decide +kernel⟩
theorem w_822 : Cond.methodLink R_law 46 y_MO_width ∈ px_tw := List.mem_filter.mpr ⟨List.mem_append_right _ (List.mem_of_getElem? (i := 822) (by decide +kernel)), by decide +kernel⟩
theorem w_839 : Cond.methodLink R_law 51 y_MO_way ∈ px_tw := List.mem_filter.mpr ⟨List.mem_append_right _ (List.mem_of_getElem? (i := 839) (by decide +kernel)), by decide +kernel⟩
theorem w_840 : Cond.instanceMethod y_MO_way ∈ px_tw := List.mem_filter.mpr ⟨List.mem_append_right _ (List.mem_of_getElem? (i := 840) (by decide +kernel)), by decide +kernel⟩
theorem w_841 : Cond.selects R_MO y_MO_way y_MO_way ∈ px_tw := List.mem_filter.mpr ⟨List.mem_append_right _ (List.mem_of_getElem? (i := 841) (by decide +kernel)), by decide +kernel⟩
theorem w_842 : Cond.code y_MO_way b_MO_way 4 (some .int) ∈ px_tw := List.mem_filter.mpr ⟨List.mem_append_right _ (List.mem_of_getElem? (i := 842) (by decide +kernel)), by decide +kernel⟩
theorem w_847 : Cond.methodLink R_law 55 y_MO_goal ∈ px_tw := List.mem_filter.mpr ⟨List.mem_append_right _ (List.mem_of_getElem? (i := 847) (by decide +kernel)), by decide +kernel⟩
theorem w_848 : Cond.instanceMethod y_MO_goal ∈ px_tw := List.mem_filter.mpr ⟨List.mem_append_right _ (List.mem_of_getElem? (i := 848) (by decide +kernel)), by decide +kernel⟩
theorem w_849 : Cond.selects R_MO y_MO_goal y_MO_goal ∈ px_tw := List.mem_filter.mpr ⟨List.mem_append_right _ (List.mem_of_getElem? (i := 849) (by decide +kernel)), by decide +kernel⟩
theorem w_850 : Cond.code y_MO_goal b_MO_goal 3 (some .boolean) ∈ px_tw := List.mem_filter.mpr ⟨List.mem_append_right _ (List.mem_of_getElem? (i := 850) (by decide +kernel)), by decide +kernel⟩
theorem w_851 : Cond.methodLink R_law 59 y_MO_board ∈ px_tw := List.mem_filter.mpr ⟨List.mem_append_right _ (List.mem_of_getElem? (i := 851) (by decide +kernel)), by decide +kernel⟩
theorem w_852 : Cond.instanceMethod y_MO_board ∈ px_tw := List.mem_filter.mpr ⟨List.mem_append_right _ (List.mem_of_getElem? (i := 852) (by decide +kernel)), by decide +kernel⟩
theorem w_853 : Cond.selects R_MO y_MO_board y_MO_board ∈ px_tw := List.mem_filter.mpr ⟨List.mem_append_right _ (List.mem_of_getElem? (i := 853) (by decide +kernel)), by decide +kernel⟩
theorem w_854 : Cond.code y_MO_board b_MO_board 2 (some .int) ∈ px_tw := List.mem_filter.mpr ⟨List.mem_append_right _ (List.mem_of_getElem? (i := 854) (by decide +kernel)), by decide +kernel⟩
theorem w_855 : Cond.methodLink R_law 63 y_MO_on ∈ px_tw := List.mem_filter.mpr ⟨List.mem_append_right _ (List.mem_of_getElem? (i := 855) (by decide +kernel)), by decide +kernel⟩
theorem w_856 : Cond.instanceMethod y_MO_on ∈ px_tw := List.mem_filter.mpr ⟨List.mem_append_right _ (List.mem_of_getElem? (i := 856) (by decide +kernel)), by decide +kernel⟩
theorem w_857 : Cond.selects R_MO y_MO_on y_MO_on ∈ px_tw := List.mem_filter.mpr ⟨List.mem_append_right _ (List.mem_of_getElem? (i := 857) (by decide +kernel)), by decide +kernel⟩
theorem w_858 : Cond.code y_MO_on b_MO_on 4 (some .boolean) ∈ px_tw := List.mem_filter.mpr ⟨List.mem_append_right _ (List.mem_of_getElem? (i := 858) (by decide +kernel)), by decide +kernel⟩
theorem w_867 : Cond.methodLink R_law 67 y_MO_wide ∈ px_tw := List.mem_filter.mpr ⟨List.mem_append_right _ (List.mem_of_getElem? (i := 867) (by decide +kernel)), by decide +kernel⟩
theorem w_868 : Cond.instanceMethod y_MO_wide ∈ px_tw := List.mem_filter.mpr ⟨List.mem_append_right _ (List.mem_of_getElem? (i := 868) (by decide +kernel)), by decide +kernel⟩
theorem w_869 : Cond.selects R_MO y_MO_wide y_MO_wide ∈ px_tw := List.mem_filter.mpr ⟨List.mem_append_right _ (List.mem_of_getElem? (i := 869) (by decide +kernel)), by decide +kernel⟩
theorem w_870 : Cond.code y_MO_wide b_MO_wide 3 (some .boolean) ∈ px_tw := List.mem_filter.mpr ⟨List.mem_append_right _ (List.mem_of_getElem? (i := 870) (by decide +kernel)), by decide +kernel⟩
theorem w_871 : Cond.methodLink R_law 71 y_MO_row ∈ px_tw := List.mem_filter.mpr ⟨List.mem_append_right _ (List.mem_of_getElem? (i := 871) (by decide +kernel)), by decide +kernel⟩
theorem w_872 : Cond.instanceMethod y_MO_row ∈ px_tw := List.mem_filter.mpr ⟨List.mem_append_right _ (List.mem_of_getElem? (i := 872) (by decide +kernel)), by decide +kernel⟩
theorem w_873 : Cond.selects R_MO y_MO_row y_MO_row ∈ px_tw := List.mem_filter.mpr ⟨List.mem_append_right _ (List.mem_of_getElem? (i := 873) (by decide +kernel)), by decide +kernel⟩
theorem w_874 : Cond.code y_MO_row b_MO_row 3 (some .int) ∈ px_tw := List.mem_filter.mpr ⟨List.mem_append_right _ (List.mem_of_getElem? (i := 874) (by decide +kernel)), by decide +kernel⟩
theorem w_904 : Cond.methodLink R_law 75 y_MO_distance ∈ px_tw := List.mem_filter.mpr ⟨List.mem_append_right _ (List.mem_of_getElem? (i := 904) (by decide +kernel)), by decide +kernel⟩
theorem w_905 : Cond.instanceMethod y_MO_distance ∈ px_tw := List.mem_filter.mpr ⟨List.mem_append_right _ (List.mem_of_getElem? (i := 905) (by decide +kernel)), by decide +kernel⟩
theorem w_906 : Cond.selects R_MO y_MO_distance y_MO_distance ∈ px_tw := List.mem_filter.mpr ⟨List.mem_append_right _ (List.mem_of_getElem? (i := 906) (by decide +kernel)), by decide +kernel⟩
theorem w_907 : Cond.code y_MO_distance b_MO_distance 3 (some .int) ∈ px_tw := List.mem_filter.mpr ⟨List.mem_append_right _ (List.mem_of_getElem? (i := 907) (by decide +kernel)), by decide +kernel⟩
theorem w_908 : Cond.methodLink R_law 79 y_MO_size ∈ px_tw := List.mem_filter.mpr ⟨List.mem_append_right _ (List.mem_of_getElem? (i := 908) (by decide +kernel)), by decide +kernel⟩
theorem w_909 : Cond.instanceMethod y_MO_size ∈ px_tw := List.mem_filter.mpr ⟨List.mem_append_right _ (List.mem_of_getElem? (i := 909) (by decide +kernel)), by decide +kernel⟩
theorem w_910 : Cond.selects R_MO y_MO_size y_MO_size ∈ px_tw := List.mem_filter.mpr ⟨List.mem_append_right _ (List.mem_of_getElem? (i := 910) (by decide +kernel)), by decide +kernel⟩
theorem w_911 : Cond.code y_MO_size b_MO_size 5 (some .int) ∈ px_tw := List.mem_filter.mpr ⟨List.mem_append_right _ (List.mem_of_getElem? (i := 911) (by decide +kernel)), by decide +kernel⟩
theorem w_921 : Cond.methodLink R_law 84 y_MO_drawn ∈ px_tw := List.mem_filter.mpr ⟨List.mem_append_right _ (List.mem_of_getElem? (i := 921) (by decide +kernel)), by decide +kernel⟩
theorem w_922 : Cond.instanceMethod y_MO_drawn ∈ px_tw := List.mem_filter.mpr ⟨List.mem_append_right _ (List.mem_of_getElem? (i := 922) (by decide +kernel)), by decide +kernel⟩
theorem w_923 : Cond.selects R_MO y_MO_drawn y_MO_drawn ∈ px_tw := List.mem_filter.mpr ⟨List.mem_append_right _ (List.mem_of_getElem? (i := 923) (by decide +kernel)), by decide +kernel⟩
theorem w_924 : Cond.code y_MO_drawn b_MO_drawn 12 (some .int) ∈ px_tw := List.mem_filter.mpr ⟨List.mem_append_right _ (List.mem_of_getElem? (i := 924) (by decide +kernel)), by decide +kernel⟩
theorem w_925 : Cond.methodLink R_law 88 y_MO_shows ∈ px_tw := List.mem_filter.mpr ⟨List.mem_append_right _ (List.mem_of_getElem? (i := 925) (by decide +kernel)), by decide +kernel⟩
theorem w_926 : Cond.instanceMethod y_MO_shows ∈ px_tw := List.mem_filter.mpr ⟨List.mem_append_right _ (List.mem_of_getElem? (i := 926) (by decide +kernel)), by decide +kernel⟩
theorem w_927 : Cond.selects R_MO y_MO_shows y_MO_shows ∈ px_tw := List.mem_filter.mpr ⟨List.mem_append_right _ (List.mem_of_getElem? (i := 927) (by decide +kernel)), by decide +kernel⟩
theorem w_928 : Cond.code y_MO_shows b_MO_shows 3 (some .boolean) ∈ px_tw := List.mem_filter.mpr ⟨List.mem_append_right _ (List.mem_of_getElem? (i := 928) (by decide +kernel)), by decide +kernel⟩
theorem w_929 : Cond.methodLink R_law 92 y_MO_breaks ∈ px_tw := List.mem_filter.mpr ⟨List.mem_append_right _ (List.mem_of_getElem? (i := 929) (by decide +kernel)), by decide +kernel⟩
theorem w_930 : Cond.instanceMethod y_MO_breaks ∈ px_tw := List.mem_filter.mpr ⟨List.mem_append_right _ (List.mem_of_getElem? (i := 930) (by decide +kernel)), by decide +kernel⟩
theorem w_931 : Cond.selects R_MO y_MO_breaks y_MO_breaks ∈ px_tw := List.mem_filter.mpr ⟨List.mem_append_right _ (List.mem_of_getElem? (i := 931) (by decide +kernel)), by decide +kernel⟩
theorem w_932 : Cond.code y_MO_breaks b_MO_breaks 4 (some .int) ∈ px_tw := List.mem_filter.mpr ⟨List.mem_append_right _ (List.mem_of_getElem? (i := 932) (by decide +kernel)), by decide +kernel⟩
theorem w_937 : Cond.methodLink R_law 96 y_MO_count ∈ px_tw := List.mem_filter.mpr ⟨List.mem_append_right _ (List.mem_of_getElem? (i := 937) (by decide +kernel)), by decide +kernel⟩
theorem w_938 : Cond.instanceMethod y_MO_count ∈ px_tw := List.mem_filter.mpr ⟨List.mem_append_right _ (List.mem_of_getElem? (i := 938) (by decide +kernel)), by decide +kernel⟩
theorem w_939 : Cond.selects R_MO y_MO_count y_MO_count ∈ px_tw := List.mem_filter.mpr ⟨List.mem_append_right _ (List.mem_of_getElem? (i := 939) (by decide +kernel)), by decide +kernel⟩
theorem w_940 : Cond.code y_MO_count b_MO_count 2 (some .int) ∈ px_tw := List.mem_filter.mpr ⟨List.mem_append_right _ (List.mem_of_getElem? (i := 940) (by decide +kernel)), by decide +kernel⟩
