section
-- ===== PART A: goes FIRST, ahead of the names: the tables' words, and 'selects' of the private methods out of them =====
/-- a private method of a class that the tables say can be made, by its rows of tables_1 -/
def lw_okq (q : MethodName × Nat) : Prop := (q.1.cls ≠ "java/lang/invoke/MethodHandle" ∧ q.1.cls ≠ "java/lang/invoke/VarHandle") ∧ Cond.instantiable q.1.cls q.2 ∈ tables_1 ∧ Cond.privateMethod q.1 ∈ tables_1 ∧ Cond.instanceMethod q.1 ∈ tables_1
theorem lw_p0 : lw_okq (⟨"SignBoards$RuleReader", "readRule", "()Z"⟩, 6) := ⟨⟨by decide +kernel, by decide +kernel⟩, List.mem_of_getElem? (i := 39) (by decide +kernel), List.mem_of_getElem? (i := 356) (by decide +kernel), List.mem_of_getElem? (i := 357) (by decide +kernel)⟩
theorem lw_p1 : lw_okq (⟨"SignBoards$RuleReader", "nextSign", "()I"⟩, 6) := ⟨⟨by decide +kernel, by decide +kernel⟩, List.mem_of_getElem? (i := 39) (by decide +kernel), List.mem_of_getElem? (i := 360) (by decide +kernel), List.mem_of_getElem? (i := 361) (by decide +kernel)⟩
theorem lw_p2 : lw_okq (⟨"SignBoards$RuleReader", "readHeights", "()Z"⟩, 6) := ⟨⟨by decide +kernel, by decide +kernel⟩, List.mem_of_getElem? (i := 39) (by decide +kernel), List.mem_of_getElem? (i := 368) (by decide +kernel), List.mem_of_getElem? (i := 369) (by decide +kernel)⟩
theorem lw_p3 : lw_okq (⟨"SignBoards$RuleReader", "readNumber", "(I)I"⟩, 6) := ⟨⟨by decide +kernel, by decide +kernel⟩, List.mem_of_getElem? (i := 39) (by decide +kernel), List.mem_of_getElem? (i := 372) (by decide +kernel), List.mem_of_getElem? (i := 373) (by decide +kernel)⟩
theorem lw_p4 : lw_okq (⟨"SignBoards$RuleReader", "pass", "(I)Z"⟩, 6) := ⟨⟨by decide +kernel, by decide +kernel⟩, List.mem_of_getElem? (i := 39) (by decide +kernel), List.mem_of_getElem? (i := 381) (by decide +kernel), List.mem_of_getElem? (i := 382) (by decide +kernel)⟩
theorem lw_p5 : lw_okq (⟨"SignBoards$RuleReader", "readMargin", "()Z"⟩, 6) := ⟨⟨by decide +kernel, by decide +kernel⟩, List.mem_of_getElem? (i := 39) (by decide +kernel), List.mem_of_getElem? (i := 385) (by decide +kernel), List.mem_of_getElem? (i := 386) (by decide +kernel)⟩
theorem lw_p6 : lw_okq (⟨"SignBoards$RuleReader", "readOrder", "()Z"⟩, 6) := ⟨⟨by decide +kernel, by decide +kernel⟩, List.mem_of_getElem? (i := 39) (by decide +kernel), List.mem_of_getElem? (i := 389) (by decide +kernel), List.mem_of_getElem? (i := 390) (by decide +kernel)⟩
theorem lw_p7 : lw_okq (⟨"SignBoards$Letters", "pairOf", "(II)I"⟩, 5) := ⟨⟨by decide +kernel, by decide +kernel⟩, List.mem_of_getElem? (i := 104) (by decide +kernel), List.mem_of_getElem? (i := 422) (by decide +kernel), List.mem_of_getElem? (i := 423) (by decide +kernel)⟩
theorem lw_p8 : lw_okq (⟨"SignBoards", "isName", "(I)Z"⟩, 13) := ⟨⟨by decide +kernel, by decide +kernel⟩, List.mem_of_getElem? (i := 15) (by decide +kernel), List.mem_of_getElem? (i := 441) (by decide +kernel), List.mem_of_getElem? (i := 442) (by decide +kernel)⟩
theorem lw_p9 : lw_okq (⟨"SignBoards$Letters", "kernOf", "(II)I"⟩, 5) := ⟨⟨by decide +kernel, by decide +kernel⟩, List.mem_of_getElem? (i := 104) (by decide +kernel), List.mem_of_getElem? (i := 453) (by decide +kernel), List.mem_of_getElem? (i := 454) (by decide +kernel)⟩
theorem lw_p10 : lw_okq (⟨"SignBoards", "isBoard", "(I)Z"⟩, 13) := ⟨⟨by decide +kernel, by decide +kernel⟩, List.mem_of_getElem? (i := 15) (by decide +kernel), List.mem_of_getElem? (i := 486) (by decide +kernel), List.mem_of_getElem? (i := 487) (by decide +kernel)⟩
theorem lw_p11 : lw_okq (⟨"SignBoards$Board", "has", "(I)Z"⟩, 5) := ⟨⟨by decide +kernel, by decide +kernel⟩, List.mem_of_getElem? (i := 262) (by decide +kernel), List.mem_of_getElem? (i := 494) (by decide +kernel), List.mem_of_getElem? (i := 495) (by decide +kernel)⟩
theorem lw_p12 : lw_okq (⟨"SignBoards", "isLine", "(II)Z"⟩, 13) := ⟨⟨by decide +kernel, by decide +kernel⟩, List.mem_of_getElem? (i := 15) (by decide +kernel), List.mem_of_getElem? (i := 510) (by decide +kernel), List.mem_of_getElem? (i := 511) (by decide +kernel)⟩
theorem lw_p13 : lw_okq (⟨"SignBoards$Roads", "shortenBy", "(I)Z"⟩, 6) := ⟨⟨by decide +kernel, by decide +kernel⟩, List.mem_of_getElem? (i := 129) (by decide +kernel), List.mem_of_getElem? (i := 522) (by decide +kernel), List.mem_of_getElem? (i := 523) (by decide +kernel)⟩
theorem lw_p14 : lw_okq (⟨"SignBoards$LineOrder", "insert", "(LSignBoards$Board;II)V"⟩, 4) := ⟨⟨by decide +kernel, by decide +kernel⟩, List.mem_of_getElem? (i := 161) (by decide +kernel), List.mem_of_getElem? (i := 526) (by decide +kernel), List.mem_of_getElem? (i := 527) (by decide +kernel)⟩
theorem lw_p15 : lw_okq (⟨"SignBoards$LineOrder", "goesBefore", "(LSignBoards$Board;III)Z"⟩, 4) := ⟨⟨by decide +kernel, by decide +kernel⟩, List.mem_of_getElem? (i := 161) (by decide +kernel), List.mem_of_getElem? (i := 530) (by decide +kernel), List.mem_of_getElem? (i := 531) (by decide +kernel)⟩
def lw_privs_1 : List (MethodName × Nat) := [(⟨"SignBoards$RuleReader", "readRule", "()Z"⟩, 6), (⟨"SignBoards$RuleReader", "nextSign", "()I"⟩, 6), (⟨"SignBoards$RuleReader", "readHeights", "()Z"⟩, 6), (⟨"SignBoards$RuleReader", "readNumber", "(I)I"⟩, 6), (⟨"SignBoards$RuleReader", "pass", "(I)Z"⟩, 6), (⟨"SignBoards$RuleReader", "readMargin", "()Z"⟩, 6), (⟨"SignBoards$RuleReader", "readOrder", "()Z"⟩, 6), (⟨"SignBoards$Letters", "pairOf", "(II)I"⟩, 5), (⟨"SignBoards", "isName", "(I)Z"⟩, 13), (⟨"SignBoards$Letters", "kernOf", "(II)I"⟩, 5), (⟨"SignBoards", "isBoard", "(I)Z"⟩, 13), (⟨"SignBoards$Board", "has", "(I)Z"⟩, 5), (⟨"SignBoards", "isLine", "(II)Z"⟩, 13), (⟨"SignBoards$Roads", "shortenBy", "(I)Z"⟩, 6), (⟨"SignBoards$LineOrder", "insert", "(LSignBoards$Board;II)V"⟩, 4), (⟨"SignBoards$LineOrder", "goesBefore", "(LSignBoards$Board;III)Z"⟩, 4)]
theorem lw_r1 : ∀ q ∈ lw_privs_1, lw_okq q := List.forall_mem_cons.mpr ⟨lw_p0, List.forall_mem_cons.mpr ⟨lw_p1, List.forall_mem_cons.mpr ⟨lw_p2, List.forall_mem_cons.mpr ⟨lw_p3, List.forall_mem_cons.mpr ⟨lw_p4, List.forall_mem_cons.mpr ⟨lw_p5, List.forall_mem_cons.mpr ⟨lw_p6, List.forall_mem_cons.mpr ⟨lw_p7, List.forall_mem_cons.mpr ⟨lw_p8, List.forall_mem_cons.mpr ⟨lw_p9, List.forall_mem_cons.mpr ⟨lw_p10, List.forall_mem_cons.mpr ⟨lw_p11, List.forall_mem_cons.mpr ⟨lw_p12, List.forall_mem_cons.mpr ⟨lw_p13, List.forall_mem_cons.mpr ⟨lw_p14, List.forall_mem_cons.mpr ⟨lw_p15, fun _ h => absurd h List.not_mem_nil⟩⟩⟩⟩⟩⟩⟩⟩⟩⟩⟩⟩⟩⟩⟩⟩
theorem lw_p16 : lw_okq (⟨"SignBoards$Sheet", "nameOf", "(I)LSignBoards$Name;"⟩, 9) := ⟨⟨by decide +kernel, by decide +kernel⟩, List.mem_of_getElem? (i := 180) (by decide +kernel), List.mem_of_getElem? (i := 560) (by decide +kernel), List.mem_of_getElem? (i := 561) (by decide +kernel)⟩
theorem lw_p17 : lw_okq (⟨"SignBoards$Sheet", "lineWidth", "(I)I"⟩, 9) := ⟨⟨by decide +kernel, by decide +kernel⟩, List.mem_of_getElem? (i := 180) (by decide +kernel), List.mem_of_getElem? (i := 565) (by decide +kernel), List.mem_of_getElem? (i := 566) (by decide +kernel)⟩
theorem lw_p18 : lw_okq (⟨"SignBoards$Sheet", "arrowLeft", "(I)I"⟩, 9) := ⟨⟨by decide +kernel, by decide +kernel⟩, List.mem_of_getElem? (i := 180) (by decide +kernel), List.mem_of_getElem? (i := 584) (by decide +kernel), List.mem_of_getElem? (i := 585) (by decide +kernel)⟩
theorem lw_p19 : lw_okq (⟨"SignBoards$Sheet", "lineLeft", "(I)I"⟩, 9) := ⟨⟨by decide +kernel, by decide +kernel⟩, List.mem_of_getElem? (i := 180) (by decide +kernel), List.mem_of_getElem? (i := 588) (by decide +kernel), List.mem_of_getElem? (i := 589) (by decide +kernel)⟩
theorem lw_p20 : lw_okq (⟨"SignBoards$Sheet", "letterLeft", "(II)I"⟩, 9) := ⟨⟨by decide +kernel, by decide +kernel⟩, List.mem_of_getElem? (i := 180) (by decide +kernel), List.mem_of_getElem? (i := 592) (by decide +kernel), List.mem_of_getElem? (i := 593) (by decide +kernel)⟩
theorem lw_p21 : lw_okq (⟨"SignBoards$BreakList", "gatherOf", "(II)V"⟩, 6) := ⟨⟨by decide +kernel, by decide +kernel⟩, List.mem_of_getElem? (i := 215) (by decide +kernel), List.mem_of_getElem? (i := 613) (by decide +kernel), List.mem_of_getElem? (i := 614) (by decide +kernel)⟩
theorem lw_p22 : lw_okq (⟨"SignBoards$BreakList", "add", "(III)V"⟩, 6) := ⟨⟨by decide +kernel, by decide +kernel⟩, List.mem_of_getElem? (i := 215) (by decide +kernel), List.mem_of_getElem? (i := 627) (by decide +kernel), List.mem_of_getElem? (i := 628) (by decide +kernel)⟩
theorem lw_p23 : lw_okq (⟨"SignBoardsModel", "look", "()I"⟩, 42) := ⟨⟨by decide +kernel, by decide +kernel⟩, List.mem_of_getElem? (i := 640) (by decide +kernel), List.mem_of_getElem? (i := 784) (by decide +kernel), List.mem_of_getElem? (i := 785) (by decide +kernel)⟩
theorem lw_p24 : lw_okq (⟨"SignBoardsModel", "readRule", "(I)V"⟩, 42) := ⟨⟨by decide +kernel, by decide +kernel⟩, List.mem_of_getElem? (i := 640) (by decide +kernel), List.mem_of_getElem? (i := 788) (by decide +kernel), List.mem_of_getElem? (i := 789) (by decide +kernel)⟩
theorem lw_p25 : lw_okq (⟨"SignBoardsModel", "readHeights", "()V"⟩, 42) := ⟨⟨by decide +kernel, by decide +kernel⟩, List.mem_of_getElem? (i := 640) (by decide +kernel), List.mem_of_getElem? (i := 792) (by decide +kernel), List.mem_of_getElem? (i := 793) (by decide +kernel)⟩
theorem lw_p26 : lw_okq (⟨"SignBoardsModel", "number", "(I)I"⟩, 42) := ⟨⟨by decide +kernel, by decide +kernel⟩, List.mem_of_getElem? (i := 640) (by decide +kernel), List.mem_of_getElem? (i := 796) (by decide +kernel), List.mem_of_getElem? (i := 797) (by decide +kernel)⟩
theorem lw_p27 : lw_okq (⟨"SignBoardsModel", "pairOf", "(II)I"⟩, 42) := ⟨⟨by decide +kernel, by decide +kernel⟩, List.mem_of_getElem? (i := 640) (by decide +kernel), List.mem_of_getElem? (i := 812) (by decide +kernel), List.mem_of_getElem? (i := 813) (by decide +kernel)⟩
theorem lw_p28 : lw_okq (⟨"SignBoardsModel", "isName", "(I)Z"⟩, 42) := ⟨⟨by decide +kernel, by decide +kernel⟩, List.mem_of_getElem? (i := 640) (by decide +kernel), List.mem_of_getElem? (i := 827) (by decide +kernel), List.mem_of_getElem? (i := 828) (by decide +kernel)⟩
theorem lw_p29 : lw_okq (⟨"SignBoardsModel", "before", "(II)I"⟩, 42) := ⟨⟨by decide +kernel, by decide +kernel⟩, List.mem_of_getElem? (i := 640) (by decide +kernel), List.mem_of_getElem? (i := 831) (by decide +kernel), List.mem_of_getElem? (i := 832) (by decide +kernel)⟩
theorem lw_p30 : lw_okq (⟨"SignBoardsModel", "letter", "(II)I"⟩, 42) := ⟨⟨by decide +kernel, by decide +kernel⟩, List.mem_of_getElem? (i := 640) (by decide +kernel), List.mem_of_getElem? (i := 835) (by decide +kernel), List.mem_of_getElem? (i := 836) (by decide +kernel)⟩
theorem lw_p31 : lw_okq (⟨"SignBoardsModel", "isBoard", "(I)Z"⟩, 42) := ⟨⟨by decide +kernel, by decide +kernel⟩, List.mem_of_getElem? (i := 640) (by decide +kernel), List.mem_of_getElem? (i := 860) (by decide +kernel), List.mem_of_getElem? (i := 861) (by decide +kernel)⟩
def lw_privs_2 : List (MethodName × Nat) := [(⟨"SignBoards$Sheet", "nameOf", "(I)LSignBoards$Name;"⟩, 9), (⟨"SignBoards$Sheet", "lineWidth", "(I)I"⟩, 9), (⟨"SignBoards$Sheet", "arrowLeft", "(I)I"⟩, 9), (⟨"SignBoards$Sheet", "lineLeft", "(I)I"⟩, 9), (⟨"SignBoards$Sheet", "letterLeft", "(II)I"⟩, 9), (⟨"SignBoards$BreakList", "gatherOf", "(II)V"⟩, 6), (⟨"SignBoards$BreakList", "add", "(III)V"⟩, 6), (⟨"SignBoardsModel", "look", "()I"⟩, 42), (⟨"SignBoardsModel", "readRule", "(I)V"⟩, 42), (⟨"SignBoardsModel", "readHeights", "()V"⟩, 42), (⟨"SignBoardsModel", "number", "(I)I"⟩, 42), (⟨"SignBoardsModel", "pairOf", "(II)I"⟩, 42), (⟨"SignBoardsModel", "isName", "(I)Z"⟩, 42), (⟨"SignBoardsModel", "before", "(II)I"⟩, 42), (⟨"SignBoardsModel", "letter", "(II)I"⟩, 42), (⟨"SignBoardsModel", "isBoard", "(I)Z"⟩, 42)]
theorem lw_r2 : ∀ q ∈ lw_privs_2, lw_okq q := List.forall_mem_cons.mpr ⟨lw_p16, List.forall_mem_cons.mpr ⟨lw_p17, List.forall_mem_cons.mpr ⟨lw_p18, List.forall_mem_cons.mpr ⟨lw_p19, List.forall_mem_cons.mpr ⟨lw_p20, List.forall_mem_cons.mpr ⟨lw_p21, List.forall_mem_cons.mpr ⟨lw_p22, List.forall_mem_cons.mpr ⟨lw_p23, List.forall_mem_cons.mpr ⟨lw_p24, List.forall_mem_cons.mpr ⟨lw_p25, List.forall_mem_cons.mpr ⟨lw_p26, List.forall_mem_cons.mpr ⟨lw_p27, List.forall_mem_cons.mpr ⟨lw_p28, List.forall_mem_cons.mpr ⟨lw_p29, List.forall_mem_cons.mpr ⟨lw_p30, List.forall_mem_cons.mpr ⟨lw_p31, fun _ h => absurd h List.not_mem_nil⟩⟩⟩⟩⟩⟩⟩⟩⟩⟩⟩⟩⟩⟩⟩⟩
theorem lw_p32 : lw_okq (⟨"SignBoardsModel", "has", "(II)Z"⟩, 42) := ⟨⟨by decide +kernel, by decide +kernel⟩, List.mem_of_getElem? (i := 640) (by decide +kernel), List.mem_of_getElem? (i := 864) (by decide +kernel), List.mem_of_getElem? (i := 865) (by decide +kernel)⟩
theorem lw_p33 : lw_okq (⟨"SignBoardsModel", "isLine", "(II)Z"⟩, 42) := ⟨⟨by decide +kernel, by decide +kernel⟩, List.mem_of_getElem? (i := 640) (by decide +kernel), List.mem_of_getElem? (i := 876) (by decide +kernel), List.mem_of_getElem? (i := 877) (by decide +kernel)⟩
theorem lw_p34 : lw_okq (⟨"SignBoardsModel", "rankAll", "(I)V"⟩, 42) := ⟨⟨by decide +kernel, by decide +kernel⟩, List.mem_of_getElem? (i := 640) (by decide +kernel), List.mem_of_getElem? (i := 880) (by decide +kernel), List.mem_of_getElem? (i := 881) (by decide +kernel)⟩
theorem lw_p35 : lw_okq (⟨"SignBoardsModel", "distanceOf", "(II)I"⟩, 42) := ⟨⟨by decide +kernel, by decide +kernel⟩, List.mem_of_getElem? (i := 640) (by decide +kernel), List.mem_of_getElem? (i := 884) (by decide +kernel), List.mem_of_getElem? (i := 885) (by decide +kernel)⟩
theorem lw_p36 : lw_okq (⟨"SignBoardsModel", "measure", "(II)V"⟩, 42) := ⟨⟨by decide +kernel, by decide +kernel⟩, List.mem_of_getElem? (i := 640) (by decide +kernel), List.mem_of_getElem? (i := 888) (by decide +kernel), List.mem_of_getElem? (i := 889) (by decide +kernel)⟩
theorem lw_p37 : lw_okq (⟨"SignBoardsModel", "isShown", "(II)Z"⟩, 42) := ⟨⟨by decide +kernel, by decide +kernel⟩, List.mem_of_getElem? (i := 640) (by decide +kernel), List.mem_of_getElem? (i := 893) (by decide +kernel), List.mem_of_getElem? (i := 894) (by decide +kernel)⟩
theorem lw_p38 : lw_okq (⟨"SignBoardsModel", "goesBefore", "(III)Z"⟩, 42) := ⟨⟨by decide +kernel, by decide +kernel⟩, List.mem_of_getElem? (i := 640) (by decide +kernel), List.mem_of_getElem? (i := 897) (by decide +kernel), List.mem_of_getElem? (i := 898) (by decide +kernel)⟩
theorem lw_p39 : lw_okq (⟨"SignBoardsModel", "isLess", "(II)Z"⟩, 42) := ⟨⟨by decide +kernel, by decide +kernel⟩, List.mem_of_getElem? (i := 640) (by decide +kernel), List.mem_of_getElem? (i := 901) (by decide +kernel), List.mem_of_getElem? (i := 902) (by decide +kernel)⟩
theorem lw_p40 : lw_okq (⟨"SignBoardsModel", "boardWidth", "(II)I"⟩, 42) := ⟨⟨by decide +kernel, by decide +kernel⟩, List.mem_of_getElem? (i := 640) (by decide +kernel), List.mem_of_getElem? (i := 913) (by decide +kernel), List.mem_of_getElem? (i := 914) (by decide +kernel)⟩
theorem lw_p41 : lw_okq (⟨"SignBoardsModel", "lineWidth", "(III)I"⟩, 42) := ⟨⟨by decide +kernel, by decide +kernel⟩, List.mem_of_getElem? (i := 640) (by decide +kernel), List.mem_of_getElem? (i := 917) (by decide +kernel), List.mem_of_getElem? (i := 918) (by decide +kernel)⟩
theorem lw_p42 : lw_okq (⟨"SignBoardsModel", "find", "(I)I"⟩, 42) := ⟨⟨by decide +kernel, by decide +kernel⟩, List.mem_of_getElem? (i := 640) (by decide +kernel), List.mem_of_getElem? (i := 934) (by decide +kernel), List.mem_of_getElem? (i := 935) (by decide +kernel)⟩
def lw_privs_3 : List (MethodName × Nat) := [(⟨"SignBoardsModel", "has", "(II)Z"⟩, 42), (⟨"SignBoardsModel", "isLine", "(II)Z"⟩, 42), (⟨"SignBoardsModel", "rankAll", "(I)V"⟩, 42), (⟨"SignBoardsModel", "distanceOf", "(II)I"⟩, 42), (⟨"SignBoardsModel", "measure", "(II)V"⟩, 42), (⟨"SignBoardsModel", "isShown", "(II)Z"⟩, 42), (⟨"SignBoardsModel", "goesBefore", "(III)Z"⟩, 42), (⟨"SignBoardsModel", "isLess", "(II)Z"⟩, 42), (⟨"SignBoardsModel", "boardWidth", "(II)I"⟩, 42), (⟨"SignBoardsModel", "lineWidth", "(III)I"⟩, 42), (⟨"SignBoardsModel", "find", "(I)I"⟩, 42)]
theorem lw_r3 : ∀ q ∈ lw_privs_3, lw_okq q := List.forall_mem_cons.mpr ⟨lw_p32, List.forall_mem_cons.mpr ⟨lw_p33, List.forall_mem_cons.mpr ⟨lw_p34, List.forall_mem_cons.mpr ⟨lw_p35, List.forall_mem_cons.mpr ⟨lw_p36, List.forall_mem_cons.mpr ⟨lw_p37, List.forall_mem_cons.mpr ⟨lw_p38, List.forall_mem_cons.mpr ⟨lw_p39, List.forall_mem_cons.mpr ⟨lw_p40, List.forall_mem_cons.mpr ⟨lw_p41, List.forall_mem_cons.mpr ⟨lw_p42, fun _ h => absurd h List.not_mem_nil⟩⟩⟩⟩⟩⟩⟩⟩⟩⟩⟩
def lw_privs : List (MethodName × Nat) := lw_privs_1 ++ (lw_privs_2 ++ (lw_privs_3))
def lw_tbl : List Cond := k2_sels lw_privs ++ tables_1
theorem lw_privs_ok : ∀ q ∈ lw_privs, lw_okq q := by
  show ∀ q ∈ lw_privs_1 ++ (lw_privs_2 ++ (lw_privs_3)), lw_okq q
  exact List.forall_mem_append.mpr ⟨lw_r1, List.forall_mem_append.mpr ⟨lw_r2, lw_r3⟩⟩
def R_SB : String := "SignBoards"
def F_SB : u_T := fun k => match k with
  | 0 => ("SignBoards", "text", "LSignBoards$Text;", true)
  | 1 => ("SignBoards", "reader", "LSignBoards$RuleReader;", true)
  | 2 => ("SignBoards", "inForce", "LSignBoards$RuleSet;", false)
  | 3 => ("SignBoards", "draft", "LSignBoards$RuleSet;", false)
  | 4 => ("SignBoards", "letters", "LSignBoards$Letters;", true)
  | 5 => ("SignBoards", "names", "[LSignBoards$Name;", true)
  | 6 => ("SignBoards", "nameCount", "I", false)
  | 7 => ("SignBoards", "roads", "LSignBoards$Roads;", true)
  | 8 => ("SignBoards", "boards", "[LSignBoards$Board;", true)
  | 9 => ("SignBoards", "boardCount", "I", false)
  | 10 => ("SignBoards", "order", "LSignBoards$LineOrder;", true)
  | 11 => ("SignBoards", "sheet", "LSignBoards$Sheet;", true)
  | _ => ("SignBoards", "breakList", "LSignBoards$BreakList;", true)
def t_SB : Nat → FieldType := fun k => match k with
  | 0 => .object "SignBoards$Text"
  | 1 => .object "SignBoards$RuleReader"
  | 2 => .object "SignBoards$RuleSet"
  | 3 => .object "SignBoards$RuleSet"
  | 4 => .object "SignBoards$Letters"
  | 5 => .array (.object "SignBoards$Name")
  | 6 => .int
  | 7 => .object "SignBoards$Roads"
  | 8 => .array (.object "SignBoards$Board")
  | 9 => .int
  | 10 => .object "SignBoards$LineOrder"
  | 11 => .object "SignBoards$Sheet"
  | _ => .object "SignBoards$BreakList"
def R_TX : String := "SignBoards$Text"
def F_TX : u_T := fun k => match k with
  | 0 => ("SignBoards$Text", "signs", "[I", true)
  | _ => ("SignBoards$Text", "length", "I", false)
def t_TX : Nat → FieldType := fun k => match k with
  | 0 => .array .int
  | _ => .int
def R_RR : String := "SignBoards$RuleReader"
def F_RR : u_T := fun k => match k with
  | 0 => ("SignBoards$RuleReader", "text", "LSignBoards$Text;", true)
  | 1 => ("SignBoards$RuleReader", "target", "LSignBoards$RuleSet;", false)
  | 2 => ("SignBoards$RuleReader", "place", "I", false)
  | 3 => ("SignBoards$RuleReader", "heightsRead", "Z", false)
  | 4 => ("SignBoards$RuleReader", "marginRead", "Z", false)
  | _ => ("SignBoards$RuleReader", "orderRead", "Z", false)
def t_RR : Nat → FieldType := fun k => match k with
  | 0 => .object "SignBoards$Text"
  | 1 => .object "SignBoards$RuleSet"
  | 2 => .int
  | 3 => .boolean
  | 4 => .boolean
  | _ => .boolean
def R_RS : String := "SignBoards$RuleSet"
def F_RS : u_T := fun k => match k with
  | 0 => ("SignBoards$RuleSet", "speeds", "[I", true)
  | 1 => ("SignBoards$RuleSet", "heights", "[I", true)
  | 2 => ("SignBoards$RuleSet", "steps", "I", false)
  | 3 => ("SignBoards$RuleSet", "margin", "I", false)
  | 4 => ("SignBoards$RuleSet", "gap", "I", false)
  | _ => ("SignBoards$RuleSet", "lineOrder", "I", false)
def t_RS : Nat → FieldType := fun k => match k with
  | 0 => .array .int
  | 1 => .array .int
  | 2 => .int
  | 3 => .int
  | 4 => .int
  | _ => .int
def R_LE : String := "SignBoards$Letters"
def F_LE : u_T := fun k => match k with
  | 0 => ("SignBoards$Letters", "widths", "[I", true)
  | 1 => ("SignBoards$Letters", "firsts", "[I", true)
  | 2 => ("SignBoards$Letters", "seconds", "[I", true)
  | 3 => ("SignBoards$Letters", "kerns", "[I", true)
  | _ => ("SignBoards$Letters", "pairs", "I", false)
def t_LE : Nat → FieldType := fun k => match k with
  | 0 => .array .int
  | 1 => .array .int
  | 2 => .array .int
  | 3 => .array .int
  | _ => .int
def R_RO : String := "SignBoards$Roads"
def F_RO : u_T := fun k => match k with
  | 0 => ("SignBoards$Roads", "starts", "[I", true)
  | 1 => ("SignBoards$Roads", "ends", "[I", true)
  | 2 => ("SignBoards$Roads", "lengths", "[I", true)
  | 3 => ("SignBoards$Roads", "shown", "[I", true)
  | 4 => ("SignBoards$Roads", "least", "[I", true)
  | _ => ("SignBoards$Roads", "ways", "I", false)
def t_RO : Nat → FieldType := fun k => match k with
  | 0 => .array .int
  | 1 => .array .int
  | 2 => .array .int
  | 3 => .array .int
  | 4 => .array .int
  | _ => .int
def R_LO : String := "SignBoards$LineOrder"
def F_LO : u_T := fun k => match k with
  | 0 => ("SignBoards$LineOrder", "names", "[LSignBoards$Name;", true)
  | 1 => ("SignBoards$LineOrder", "roads", "LSignBoards$Roads;", true)
  | 2 => ("SignBoards$LineOrder", "sorted", "[I", true)
  | _ => ("SignBoards$LineOrder", "distances", "[I", true)
def t_LO : Nat → FieldType := fun k => match k with
  | 0 => .array (.object "SignBoards$Name")
  | 1 => .object "SignBoards$Roads"
  | 2 => .array .int
  | _ => .array .int
def R_SH : String := "SignBoards$Sheet"
def F_SH : u_T := fun k => match k with
  | 0 => ("SignBoards$Sheet", "names", "[LSignBoards$Name;", true)
  | 1 => ("SignBoards$Sheet", "letters", "LSignBoards$Letters;", true)
  | 2 => ("SignBoards$Sheet", "fields", "[I", true)
  | 3 => ("SignBoards$Sheet", "board", "LSignBoards$Board;", false)
  | 4 => ("SignBoards$Sheet", "mm", "I", false)
  | 5 => ("SignBoards$Sheet", "high", "I", false)
  | 6 => ("SignBoards$Sheet", "margin", "I", false)
  | 7 => ("SignBoards$Sheet", "gap", "I", false)
  | _ => ("SignBoards$Sheet", "fullWidth", "I", false)
def t_SH : Nat → FieldType := fun k => match k with
  | 0 => .array (.object "SignBoards$Name")
  | 1 => .object "SignBoards$Letters"
  | 2 => .array .int
  | 3 => .object "SignBoards$Board"
  | 4 => .int
  | 5 => .int
  | 6 => .int
  | 7 => .int
  | _ => .int
def R_BL : String := "SignBoards$BreakList"
def F_BL : u_T := fun k => match k with
  | 0 => ("SignBoards$BreakList", "names", "[LSignBoards$Name;", true)
  | 1 => ("SignBoards$BreakList", "roads", "LSignBoards$Roads;", true)
  | 2 => ("SignBoards$BreakList", "brokenNames", "[I", true)
  | 3 => ("SignBoards$BreakList", "brokenWays", "[I", true)
  | 4 => ("SignBoards$BreakList", "kinds", "[I", true)
  | _ => ("SignBoards$BreakList", "found", "I", false)
def t_BL : Nat → FieldType := fun k => match k with
  | 0 => .array (.object "SignBoards$Name")
  | 1 => .object "SignBoards$Roads"
  | 2 => .array .int
  | 3 => .array .int
  | 4 => .array .int
  | _ => .int
def R_NA : String := "SignBoards$Name"
def F_NA : u_T := fun k => match k with
  | 0 => ("SignBoards$Name", "signs", "[I", true)
  | 1 => ("SignBoards$Name", "length", "I", false)
  | _ => ("SignBoards$Name", "goalNode", "I", false)
def t_NA : Nat → FieldType := fun k => match k with
  | 0 => .array .int
  | 1 => .int
  | _ => .int
def R_BO : String := "SignBoards$Board"
def F_BO : u_T := fun k => match k with
  | 0 => ("SignBoards$Board", "lineNames", "[I", true)
  | 1 => ("SignBoards$Board", "arrows", "[I", true)
  | 2 => ("SignBoards$Board", "lines", "I", false)
  | 3 => ("SignBoards$Board", "standsOn", "I", false)
  | _ => ("SignBoards$Board", "leastMm", "I", false)
def t_BO : Nat → FieldType := fun k => match k with
  | 0 => .array .int
  | 1 => .array .int
  | 2 => .int
  | 3 => .int
  | _ => .int
def R_MO : String := "SignBoardsModel"
def F_MO : u_T := fun k => match k with
  | 0 => ("SignBoardsModel", "signs", "I", false)
  | 1 => ("SignBoardsModel", "text", "[I", true)
  | 2 => ("SignBoardsModel", "speeds", "I", false)
  | 3 => ("SignBoardsModel", "speed", "[I", true)
  | 4 => ("SignBoardsModel", "high", "[I", true)
  | 5 => ("SignBoardsModel", "margin", "I", false)
  | 6 => ("SignBoardsModel", "gap", "I", false)
  | 7 => ("SignBoardsModel", "order", "I", false)
  | 8 => ("SignBoardsModel", "newSpeeds", "I", false)
  | 9 => ("SignBoardsModel", "newSpeed", "[I", true)
  | 10 => ("SignBoardsModel", "newHigh", "[I", true)
  | 11 => ("SignBoardsModel", "newMargin", "I", false)
  | 12 => ("SignBoardsModel", "newGap", "I", false)
  | 13 => ("SignBoardsModel", "newOrder", "I", false)
  | 14 => ("SignBoardsModel", "at", "I", false)
  | 15 => ("SignBoardsModel", "wrong", "Z", false)
  | 16 => ("SignBoardsModel", "widths", "[I", true)
  | 17 => ("SignBoardsModel", "pairs", "I", false)
  | 18 => ("SignBoardsModel", "left", "[I", true)
  | 19 => ("SignBoardsModel", "right", "[I", true)
  | 20 => ("SignBoardsModel", "kerns", "[I", true)
  | 21 => ("SignBoardsModel", "names", "I", false)
  | 22 => ("SignBoardsModel", "sizes", "[I", true)
  | 23 => ("SignBoardsModel", "letters", "[I", true)
  | 24 => ("SignBoardsModel", "goals", "[I", true)
  | 25 => ("SignBoardsModel", "ways", "I", false)
  | 26 => ("SignBoardsModel", "from", "[I", true)
  | 27 => ("SignBoardsModel", "to", "[I", true)
  | 28 => ("SignBoardsModel", "length", "[I", true)
  | 29 => ("SignBoardsModel", "boards", "I", false)
  | 30 => ("SignBoardsModel", "wayOf", "[I", true)
  | 31 => ("SignBoardsModel", "lines", "[I", true)
  | 32 => ("SignBoardsModel", "lineName", "[I", true)
  | 33 => ("SignBoardsModel", "arrows", "[I", true)
  | 34 => ("SignBoardsModel", "least", "[I", true)
  | 35 => ("SignBoardsModel", "far", "[I", true)
  | 36 => ("SignBoardsModel", "away", "[I", true)
  | 37 => ("SignBoardsModel", "rank", "[I", true)
  | 38 => ("SignBoardsModel", "found", "I", false)
  | 39 => ("SignBoardsModel", "foundWay", "I", false)
  | 40 => ("SignBoardsModel", "foundName", "I", false)
  | _ => ("SignBoardsModel", "foundKind", "I", false)
def t_MO : Nat → FieldType := fun k => match k with
  | 0 => .int
  | 1 => .array .int
  | 2 => .int
  | 3 => .array .int
  | 4 => .array .int
  | 5 => .int
  | 6 => .int
  | 7 => .int
  | 8 => .int
  | 9 => .array .int
  | 10 => .array .int
  | 11 => .int
  | 12 => .int
  | 13 => .int
  | 14 => .int
  | 15 => .boolean
  | 16 => .array .int
  | 17 => .int
  | 18 => .array .int
  | 19 => .array .int
  | 20 => .array .int
  | 21 => .int
  | 22 => .array .int
  | 23 => .array .int
  | 24 => .array .int
  | 25 => .int
  | 26 => .array .int
  | 27 => .array .int
  | 28 => .array .int
  | 29 => .int
  | 30 => .array .int
  | 31 => .array .int
  | 32 => .array .int
  | 33 => .array .int
  | 34 => .array .int
  | 35 => .array .int
  | 36 => .array .int
  | 37 => .array .int
  | 38 => .int
  | 39 => .int
  | 40 => .int
  | _ => .int
abbrev b_SB_init : ByteArray := prog_1_method_1_code
def y_SB_init : MethodName := ⟨R_SB, "<init>", "()V"⟩
abbrev b_SB_unit : ByteArray := prog_1_method_2_code
def y_SB_unit : MethodName := ⟨R_SB, "unit", "(I)Z"⟩
abbrev b_SB_rules : ByteArray := prog_1_method_3_code
def y_SB_rules : MethodName := ⟨R_SB, "rules", "()I"⟩
abbrev b_SB_name : ByteArray := prog_1_method_4_code
def y_SB_name : MethodName := ⟨R_SB, "name", "()I"⟩
abbrev b_SB_glyph : ByteArray := prog_1_method_5_code
def y_SB_glyph : MethodName := ⟨R_SB, "glyph", "(II)Z"⟩
abbrev b_SB_kern : ByteArray := prog_1_method_6_code
def y_SB_kern : MethodName := ⟨R_SB, "kern", "(III)Z"⟩
abbrev b_SB_height : ByteArray := prog_1_method_7_code
def y_SB_height : MethodName := ⟨R_SB, "height", "(I)I"⟩
abbrev b_SB_width : ByteArray := prog_1_method_8_code
def y_SB_width : MethodName := ⟨R_SB, "width", "(II)I"⟩
abbrev b_SB_way : ByteArray := prog_1_method_9_code
def y_SB_way : MethodName := ⟨R_SB, "way", "(III)I"⟩
abbrev b_SB_goal : ByteArray := prog_1_method_10_code
def y_SB_goal : MethodName := ⟨R_SB, "goal", "(II)Z"⟩
abbrev b_SB_board : ByteArray := prog_1_method_11_code
def y_SB_board : MethodName := ⟨R_SB, "board", "(I)I"⟩
abbrev b_SB_on : ByteArray := prog_1_method_12_code
def y_SB_on : MethodName := ⟨R_SB, "on", "(III)Z"⟩
abbrev b_SB_wide : ByteArray := prog_1_method_13_code
def y_SB_wide : MethodName := ⟨R_SB, "wide", "(II)Z"⟩
abbrev b_SB_row : ByteArray := prog_1_method_14_code
def y_SB_row : MethodName := ⟨R_SB, "row", "(II)I"⟩
abbrev b_SB_distance : ByteArray := prog_1_method_15_code
def y_SB_distance : MethodName := ⟨R_SB, "distance", "(II)I"⟩
abbrev b_SB_size : ByteArray := prog_1_method_16_code
def y_SB_size : MethodName := ⟨R_SB, "size", "(III)I"⟩
abbrev b_SB_drawn : ByteArray := prog_1_method_17_code
def y_SB_drawn : MethodName := ⟨R_SB, "drawn", "(IIII)I"⟩
abbrev b_SB_shows : ByteArray := prog_1_method_18_code
def y_SB_shows : MethodName := ⟨R_SB, "shows", "(II)Z"⟩
abbrev b_SB_breaks : ByteArray := prog_1_method_19_code
def y_SB_breaks : MethodName := ⟨R_SB, "breaks", "(II)I"⟩
abbrev b_SB_count : ByteArray := prog_1_method_20_code
def y_SB_count : MethodName := ⟨R_SB, "count", "(I)I"⟩
abbrev b_SB_isWithin : ByteArray := prog_1_method_21_code
def y_SB_isWithin : MethodName := ⟨R_SB, "isWithin", "(III)Z"⟩
abbrev b_SB_isLetter : ByteArray := prog_1_method_22_code
def y_SB_isLetter : MethodName := ⟨R_SB, "isLetter", "(I)Z"⟩
abbrev b_SB_isSpeed : ByteArray := prog_1_method_23_code
def y_SB_isSpeed : MethodName := ⟨R_SB, "isSpeed", "(I)Z"⟩
abbrev b_SB_isNode : ByteArray := prog_1_method_24_code
def y_SB_isNode : MethodName := ⟨R_SB, "isNode", "(I)Z"⟩
abbrev b_SB_isName : ByteArray := prog_1_method_25_code
def y_SB_isName : MethodName := ⟨R_SB, "isName", "(I)Z"⟩
abbrev b_SB_isBoard : ByteArray := prog_1_method_26_code
def y_SB_isBoard : MethodName := ⟨R_SB, "isBoard", "(I)Z"⟩
abbrev b_SB_isLine : ByteArray := prog_1_method_27_code
def y_SB_isLine : MethodName := ⟨R_SB, "isLine", "(II)Z"⟩
abbrev b_MO_init : ByteArray := prog_13_method_1_code
def y_MO_init : MethodName := ⟨R_MO, "<init>", "()V"⟩
abbrev b_MO_isSign : ByteArray := prog_13_method_2_code
def y_MO_isSign : MethodName := ⟨R_MO, "isSign", "(I)Z"⟩
abbrev b_MO_unit : ByteArray := prog_13_method_3_code
def y_MO_unit : MethodName := ⟨R_MO, "unit", "(I)Z"⟩
abbrev b_MO_look : ByteArray := prog_13_method_4_code
def y_MO_look : MethodName := ⟨R_MO, "look", "()I"⟩
abbrev b_MO_number : ByteArray := prog_13_method_5_code
def y_MO_number : MethodName := ⟨R_MO, "number", "(I)I"⟩
abbrev b_MO_readHeights : ByteArray := prog_13_method_6_code
def y_MO_readHeights : MethodName := ⟨R_MO, "readHeights", "()V"⟩
abbrev b_MO_readRule : ByteArray := prog_13_method_7_code
def y_MO_readRule : MethodName := ⟨R_MO, "readRule", "(I)V"⟩
abbrev b_MO_rules : ByteArray := prog_13_method_8_code
def y_MO_rules : MethodName := ⟨R_MO, "rules", "()I"⟩
abbrev b_MO_name : ByteArray := prog_13_method_9_code
def y_MO_name : MethodName := ⟨R_MO, "name", "()I"⟩
abbrev b_MO_glyph : ByteArray := prog_13_method_10_code
def y_MO_glyph : MethodName := ⟨R_MO, "glyph", "(II)Z"⟩
abbrev b_MO_pairOf : ByteArray := prog_13_method_11_code
def y_MO_pairOf : MethodName := ⟨R_MO, "pairOf", "(II)I"⟩
abbrev b_MO_kern : ByteArray := prog_13_method_12_code
def y_MO_kern : MethodName := ⟨R_MO, "kern", "(III)Z"⟩
abbrev b_MO_isSpeed : ByteArray := prog_13_method_13_code
def y_MO_isSpeed : MethodName := ⟨R_MO, "isSpeed", "(I)Z"⟩
abbrev b_MO_height : ByteArray := prog_13_method_14_code
def y_MO_height : MethodName := ⟨R_MO, "height", "(I)I"⟩
abbrev b_MO_isName : ByteArray := prog_13_method_15_code
def y_MO_isName : MethodName := ⟨R_MO, "isName", "(I)Z"⟩
abbrev b_MO_letter : ByteArray := prog_13_method_16_code
def y_MO_letter : MethodName := ⟨R_MO, "letter", "(II)I"⟩
abbrev b_MO_before : ByteArray := prog_13_method_17_code
def y_MO_before : MethodName := ⟨R_MO, "before", "(II)I"⟩
abbrev b_MO_width : ByteArray := prog_13_method_18_code
def y_MO_width : MethodName := ⟨R_MO, "width", "(II)I"⟩
abbrev b_MO_isNode : ByteArray := prog_13_method_19_code
def y_MO_isNode : MethodName := ⟨R_MO, "isNode", "(I)Z"⟩
abbrev b_MO_way : ByteArray := prog_13_method_20_code
def y_MO_way : MethodName := ⟨R_MO, "way", "(III)I"⟩
abbrev b_MO_goal : ByteArray := prog_13_method_21_code
def y_MO_goal : MethodName := ⟨R_MO, "goal", "(II)Z"⟩
abbrev b_MO_board : ByteArray := prog_13_method_22_code
def y_MO_board : MethodName := ⟨R_MO, "board", "(I)I"⟩
abbrev b_MO_isBoard : ByteArray := prog_13_method_23_code
def y_MO_isBoard : MethodName := ⟨R_MO, "isBoard", "(I)Z"⟩
abbrev b_MO_has : ByteArray := prog_13_method_24_code
def y_MO_has : MethodName := ⟨R_MO, "has", "(II)Z"⟩
abbrev b_MO_on : ByteArray := prog_13_method_25_code
def y_MO_on : MethodName := ⟨R_MO, "on", "(III)Z"⟩
abbrev b_MO_wide : ByteArray := prog_13_method_26_code
def y_MO_wide : MethodName := ⟨R_MO, "wide", "(II)Z"⟩
abbrev b_MO_measure : ByteArray := prog_13_method_27_code
def y_MO_measure : MethodName := ⟨R_MO, "measure", "(II)V"⟩
abbrev b_MO_distanceOf : ByteArray := prog_13_method_28_code
def y_MO_distanceOf : MethodName := ⟨R_MO, "distanceOf", "(II)I"⟩
abbrev b_MO_isLess : ByteArray := prog_13_method_29_code
def y_MO_isLess : MethodName := ⟨R_MO, "isLess", "(II)Z"⟩
abbrev b_MO_goesBefore : ByteArray := prog_13_method_30_code
def y_MO_goesBefore : MethodName := ⟨R_MO, "goesBefore", "(III)Z"⟩
abbrev b_MO_rankAll : ByteArray := prog_13_method_31_code
def y_MO_rankAll : MethodName := ⟨R_MO, "rankAll", "(I)V"⟩
abbrev b_MO_isLine : ByteArray := prog_13_method_32_code
def y_MO_isLine : MethodName := ⟨R_MO, "isLine", "(II)Z"⟩
abbrev b_MO_row : ByteArray := prog_13_method_33_code
def y_MO_row : MethodName := ⟨R_MO, "row", "(II)I"⟩
abbrev b_MO_distance : ByteArray := prog_13_method_34_code
def y_MO_distance : MethodName := ⟨R_MO, "distance", "(II)I"⟩
abbrev b_MO_lineWidth : ByteArray := prog_13_method_35_code
def y_MO_lineWidth : MethodName := ⟨R_MO, "lineWidth", "(III)I"⟩
abbrev b_MO_boardWidth : ByteArray := prog_13_method_36_code
def y_MO_boardWidth : MethodName := ⟨R_MO, "boardWidth", "(II)I"⟩
abbrev b_MO_size : ByteArray := prog_13_method_37_code
def y_MO_size : MethodName := ⟨R_MO, "size", "(III)I"⟩
abbrev b_MO_drawn : ByteArray := prog_13_method_38_code
def y_MO_drawn : MethodName := ⟨R_MO, "drawn", "(IIII)I"⟩
abbrev b_MO_isShown : ByteArray := prog_13_method_39_code
def y_MO_isShown : MethodName := ⟨R_MO, "isShown", "(II)Z"⟩
abbrev b_MO_shows : ByteArray := prog_13_method_40_code
def y_MO_shows : MethodName := ⟨R_MO, "shows", "(II)Z"⟩
abbrev b_MO_find : ByteArray := prog_13_method_41_code
def y_MO_find : MethodName := ⟨R_MO, "find", "(I)I"⟩
abbrev b_MO_breaks : ByteArray := prog_13_method_42_code
def y_MO_breaks : MethodName := ⟨R_MO, "breaks", "(II)I"⟩
abbrev b_MO_count : ByteArray := prog_13_method_43_code
def y_MO_count : MethodName := ⟨R_MO, "count", "(I)I"⟩
abbrev b_BO_init : ByteArray := prog_2_method_1_code
def y_BO_init : MethodName := ⟨R_BO, "<init>", "()V"⟩
abbrev b_BO_addLine : ByteArray := prog_2_method_2_code
def y_BO_addLine : MethodName := ⟨R_BO, "addLine", "(II)Z"⟩
abbrev b_BO_has : ByteArray := prog_2_method_3_code
def y_BO_has : MethodName := ⟨R_BO, "has", "(I)Z"⟩
abbrev b_BL_init : ByteArray := prog_3_method_1_code
def y_BL_init : MethodName := ⟨R_BL, "<init>", "([LSignBoards$Name;LSignBoards$Roads;)V"⟩
abbrev b_BL_gather : ByteArray := prog_3_method_2_code
def y_BL_gather : MethodName := ⟨R_BL, "gather", "(I)V"⟩
abbrev b_BL_part : ByteArray := prog_3_method_3_code
def y_BL_part : MethodName := ⟨R_BL, "part", "(II)I"⟩
abbrev b_BL_gatherOf : ByteArray := prog_3_method_4_code
def y_BL_gatherOf : MethodName := ⟨R_BL, "gatherOf", "(II)V"⟩
abbrev b_BL_add : ByteArray := prog_3_method_5_code
def y_BL_add : MethodName := ⟨R_BL, "add", "(III)V"⟩
abbrev b_LE_init : ByteArray := prog_4_method_1_code
def y_LE_init : MethodName := ⟨R_LE, "<init>", "()V"⟩
abbrev b_LE_setWidth : ByteArray := prog_4_method_2_code
def y_LE_setWidth : MethodName := ⟨R_LE, "setWidth", "(II)V"⟩
abbrev b_LE_setKern : ByteArray := prog_4_method_3_code
def y_LE_setKern : MethodName := ⟨R_LE, "setKern", "(III)Z"⟩
abbrev b_LE_fieldOf : ByteArray := prog_4_method_4_code
def y_LE_fieldOf : MethodName := ⟨R_LE, "fieldOf", "(LSignBoards$Name;)I"⟩
abbrev b_LE_startOf : ByteArray := prog_4_method_5_code
def y_LE_startOf : MethodName := ⟨R_LE, "startOf", "(LSignBoards$Name;I)I"⟩
abbrev b_LE_kernOf : ByteArray := prog_4_method_6_code
def y_LE_kernOf : MethodName := ⟨R_LE, "kernOf", "(II)I"⟩
abbrev b_LE_pairOf : ByteArray := prog_4_method_7_code
def y_LE_pairOf : MethodName := ⟨R_LE, "pairOf", "(II)I"⟩
abbrev b_LO_init : ByteArray := prog_5_method_1_code
def y_LO_init : MethodName := ⟨R_LO, "<init>", "([LSignBoards$Name;LSignBoards$Roads;)V"⟩
abbrev b_LO_arrange : ByteArray := prog_5_method_2_code
def y_LO_arrange : MethodName := ⟨R_LO, "arrange", "(LSignBoards$Board;I)V"⟩
abbrev b_LO_lineAt : ByteArray := prog_5_method_3_code
def y_LO_lineAt : MethodName := ⟨R_LO, "lineAt", "(I)I"⟩
abbrev b_LO_distanceAt : ByteArray := prog_5_method_4_code
def y_LO_distanceAt : MethodName := ⟨R_LO, "distanceAt", "(I)I"⟩
abbrev b_LO_insert : ByteArray := prog_5_method_5_code
def y_LO_insert : MethodName := ⟨R_LO, "insert", "(LSignBoards$Board;II)V"⟩
abbrev b_LO_goesBefore : ByteArray := prog_5_method_6_code
def y_LO_goesBefore : MethodName := ⟨R_LO, "goesBefore", "(LSignBoards$Board;III)Z"⟩
abbrev b_NA_init : ByteArray := prog_6_method_1_code
def y_NA_init : MethodName := ⟨R_NA, "<init>", "()V"⟩
abbrev b_NA_take : ByteArray := prog_6_method_2_code
def y_NA_take : MethodName := ⟨R_NA, "take", "(LSignBoards$Text;)V"⟩
abbrev b_NA_isBeforeByLetters : ByteArray := prog_6_method_3_code
def y_NA_isBeforeByLetters : MethodName := ⟨R_NA, "isBeforeByLetters", "(LSignBoards$Name;)Z"⟩
abbrev b_RO_init : ByteArray := prog_7_method_1_code
def y_RO_init : MethodName := ⟨R_RO, "<init>", "()V"⟩
abbrev b_RO_isWay : ByteArray := prog_7_method_2_code
def y_RO_isWay : MethodName := ⟨R_RO, "isWay", "(I)Z"⟩
abbrev b_RO_addWay : ByteArray := prog_7_method_3_code
def y_RO_addWay : MethodName := ⟨R_RO, "addWay", "(III)I"⟩
abbrev b_RO_show : ByteArray := prog_7_method_4_code
def y_RO_show : MethodName := ⟨R_RO, "show", "(II)V"⟩
abbrev b_RO_isShown : ByteArray := prog_7_method_5_code
def y_RO_isShown : MethodName := ⟨R_RO, "isShown", "(II)Z"⟩
abbrev b_RO_measureFrom : ByteArray := prog_7_method_6_code
def y_RO_measureFrom : MethodName := ⟨R_RO, "measureFrom", "(I)V"⟩
abbrev b_RO_shortenBy : ByteArray := prog_7_method_7_code
def y_RO_shortenBy : MethodName := ⟨R_RO, "shortenBy", "(I)Z"⟩
abbrev b_RO_nodesLedTo : ByteArray := prog_7_method_8_code
def y_RO_nodesLedTo : MethodName := ⟨R_RO, "nodesLedTo", "(II)I"⟩
abbrev b_RO_isShownFrom : ByteArray := prog_7_method_9_code
def y_RO_isShownFrom : MethodName := ⟨R_RO, "isShownFrom", "(II)Z"⟩
abbrev b_RR_init : ByteArray := prog_8_method_1_code
def y_RR_init : MethodName := ⟨R_RR, "<init>", "(LSignBoards$Text;)V"⟩
abbrev b_RR_read : ByteArray := prog_8_method_2_code
def y_RR_read : MethodName := ⟨R_RR, "read", "(LSignBoards$RuleSet;)I"⟩
abbrev b_RR_readRule : ByteArray := prog_8_method_3_code
def y_RR_readRule : MethodName := ⟨R_RR, "readRule", "()Z"⟩
abbrev b_RR_readHeights : ByteArray := prog_8_method_4_code
def y_RR_readHeights : MethodName := ⟨R_RR, "readHeights", "()Z"⟩
abbrev b_RR_readMargin : ByteArray := prog_8_method_5_code
def y_RR_readMargin : MethodName := ⟨R_RR, "readMargin", "()Z"⟩
abbrev b_RR_readOrder : ByteArray := prog_8_method_6_code
def y_RR_readOrder : MethodName := ⟨R_RR, "readOrder", "()Z"⟩
abbrev b_RR_readNumber : ByteArray := prog_8_method_7_code
def y_RR_readNumber : MethodName := ⟨R_RR, "readNumber", "(I)I"⟩
abbrev b_RR_pass : ByteArray := prog_8_method_8_code
def y_RR_pass : MethodName := ⟨R_RR, "pass", "(I)Z"⟩
abbrev b_RR_nextSign : ByteArray := prog_8_method_9_code
def y_RR_nextSign : MethodName := ⟨R_RR, "nextSign", "()I"⟩
abbrev b_RS_init : ByteArray := prog_9_method_1_code
def y_RS_init : MethodName := ⟨R_RS, "<init>", "()V"⟩
abbrev b_RS_setAsAtFirst : ByteArray := prog_9_method_2_code
def y_RS_setAsAtFirst : MethodName := ⟨R_RS, "setAsAtFirst", "()V"⟩
abbrev b_RS_addStep : ByteArray := prog_9_method_3_code
def y_RS_addStep : MethodName := ⟨R_RS, "addStep", "(II)V"⟩
abbrev b_RS_heightAt : ByteArray := prog_9_method_4_code
def y_RS_heightAt : MethodName := ⟨R_RS, "heightAt", "(I)I"⟩
abbrev b_SH_init : ByteArray := prog_10_method_1_code
def y_SH_init : MethodName := ⟨R_SH, "<init>", "([LSignBoards$Name;LSignBoards$Letters;)V"⟩
abbrev b_SH_lay : ByteArray := prog_10_method_2_code
def y_SH_lay : MethodName := ⟨R_SH, "lay", "(LSignBoards$Board;LSignBoards$RuleSet;I)V"⟩
abbrev b_SH_fullHeight : ByteArray := prog_10_method_3_code
def y_SH_fullHeight : MethodName := ⟨R_SH, "fullHeight", "()I"⟩
abbrev b_SH_itemOf : ByteArray := prog_10_method_4_code
def y_SH_itemOf : MethodName := ⟨R_SH, "itemOf", "(IIII)I"⟩
abbrev b_SH_nameOf : ByteArray := prog_10_method_5_code
def y_SH_nameOf : MethodName := ⟨R_SH, "nameOf", "(I)LSignBoards$Name;"⟩
abbrev b_SH_lineWidth : ByteArray := prog_10_method_6_code
def y_SH_lineWidth : MethodName := ⟨R_SH, "lineWidth", "(I)I"⟩
abbrev b_SH_lineLeft : ByteArray := prog_10_method_7_code
def y_SH_lineLeft : MethodName := ⟨R_SH, "lineLeft", "(I)I"⟩
abbrev b_SH_arrowLeft : ByteArray := prog_10_method_8_code
def y_SH_arrowLeft : MethodName := ⟨R_SH, "arrowLeft", "(I)I"⟩
abbrev b_SH_letterLeft : ByteArray := prog_10_method_9_code
def y_SH_letterLeft : MethodName := ⟨R_SH, "letterLeft", "(II)I"⟩
abbrev b_TX_init : ByteArray := prog_11_method_1_code
def y_TX_init : MethodName := ⟨R_TX, "<init>", "()V"⟩
abbrev b_TX_add : ByteArray := prog_11_method_2_code
def y_TX_add : MethodName := ⟨R_TX, "add", "(I)Z"⟩
abbrev b_TX_signAt : ByteArray := prog_11_method_3_code
def y_TX_signAt : MethodName := ⟨R_TX, "signAt", "(I)I"⟩
abbrev b_TX_clear : ByteArray := prog_11_method_4_code
def y_TX_clear : MethodName := ⟨R_TX, "clear", "()V"⟩
abbrev px_cl : List vw_C := [(R_SB, F_SB, 13), (R_TX, F_TX, 2), (R_RR, F_RR, 6), (R_RS, F_RS, 6), (R_LE, F_LE, 5), (R_RO, F_RO, 6), (R_LO, F_LO, 4), (R_SH, F_SH, 9), (R_BL, F_BL, 6), (R_NA, F_NA, 3), (R_BO, F_BO, 5), (R_MO, F_MO, 42)]
def px_tys (G : Nat → ClassId) : List (ClassId × FieldType) := [(G 0, .int), (G 1, .object "SignBoards$Name"), (G 2, .object "SignBoards$Board")]
def px_over : List String := ["SignBoards$Name", "SignBoards$Board"]
theorem ov_NA : R_NA ∈ px_over := by decide +kernel
theorem ov_BO : R_BO ∈ px_over := by decide +kernel
def px_fuel : Nat := 5000
end
section
/-! MY OWN: a pure memory (address to cell, and how many cells there are), and the machine's rows over it. base: where the law's own cells begin -/
abbrev px_E : Type := (Nat × vp_A) ⊕ (Nat × List Value)
abbrev px_M : Type := (Nat → Option px_E) × Nat
def px_c (tys : List (ClassId × FieldType)) (x : px_E) : va_E := match x with
  | .inl a => .inl ((tys.getD a.1 (0, .int)).1, a.2)
  | .inr o => .inr o
def px_set (M : px_M) (a : Nat) (x : px_E) : px_M := (fun q => if q = a then some x else M.1 q, M.2)
def px_push (M : px_M) (x : px_E) : px_M := (fun q => if q = M.2 then some x else M.1 q, M.2 + 1)
def px_W (base : Nat) (D : va_G) (cl : List vw_C) (tys : List (ClassId × FieldType)) (M : px_M) (H : Heap) : Prop :=
  base ≤ H.size ∧ H.size = M.2 ∧ ∀ (a : Nat) (x : px_E), M.1 a = some x → base ≤ a ∧ va_at D cl (a, px_c tys x) H
def px_B (base : Nat) (D : va_G) (cl : List vw_C) (tys : List (ClassId × FieldType)) (nw : List Cond) (ov : List String) (M : px_M) (U : State) : Prop :=
  px_W base D cl tys M U.heap ∧ va_K D cl tys U ∧ (∀ w ∈ nw, va_Nw w U) ∧ ∀ C ∈ ov, va_AO C U
/-- the words of nest mates stay -/
def px_nok (w : Cond) : Bool := match w with
  | .fieldLinkNest .. => true
  | .methodLinkNest .. => true
  | _ => false
theorem px_nw_warm {w : Cond} (hw : px_nok w = true) {s U : State} (hW : s.WarmedH U.vm) (h : va_Nw w s) : va_Nw w U := by
  cases w with
  | fieldLinkNest a i b n d h' => exact va_Nw.warmF hW h
  | methodLinkNest a i x h' => exact va_Nw.warmM hW h
  | _ => cases hw
theorem px_nw_same {w : Cond} (hw : px_nok w = true) {s U : State} (hW : s.vm = U.vm) (h : va_Nw w s) : va_Nw w U := by
  cases w with
  | fieldLinkNest a i b n d h' => exact va_Nw.same rfl hW h
  | methodLinkNest a i x h' => exact va_Nw.same rfl hW h
  | _ => cases hw
theorem px_B.blind {base : Nat} {D : va_G} {cl : List vw_C} {tys : List (ClassId × FieldType)} {nw : List Cond} {ov : List String} (hnw : ∀ w ∈ nw, px_nok w = true) {M : px_M} {av : List Value} : FrameBlind (va_Pc av (px_B base D cl tys nw ov M)) := by
  intro a U g mk h
  obtain ⟨h1, h2, h3, h4, h5⟩ := h
  exact ⟨h1, h2, va_K.moved (u := U) (U := U.calling g mk a) (Vm.Alike.refl U.vm) h3, fun w hw => px_nw_same (s := U) (U := U.calling g mk a) (hnw w hw) rfl (h4 w hw), fun C hC => va_AO.moved (u := U) (U := U.calling g mk a) (Vm.Alike.refl U.vm) (h5 C hC)⟩
theorem px_W.one {base : Nat} {D : va_G} {cl : List vw_C} {tys : List (ClassId × FieldType)} {M : px_M} {H : Heap} (h : px_W base D cl tys M H) {a : Nat} {x : px_E} (he : M.1 a = some x) : va_P D cl [(a, px_c tys x)] H := by
  intro k q hk
  cases k with
  | zero => cases hk; exact (h.2.2 a x he).2
  | succ k => simp at hk
theorem px_W.lt {base : Nat} {D : va_G} {cl : List vw_C} {tys : List (ClassId × FieldType)} {M : px_M} {H : Heap} (h : px_W base D cl tys M H) {a : Nat} {x : px_E} (he : M.1 a = some x) : a < M.2 := by
  rw [← h.2.1]; exact (h.2.2 a x he).2.lt
theorem px_W.put {base : Nat} {D : va_G} {cl : List vw_C} {tys : List (ClassId × FieldType)} {M : px_M} {H H1 : Heap} (h : px_W base D cl tys M H) {a : Nat} {x0 x : px_E} (he : M.1 a = some x0) (z : H1.size = H.size) (oq : ∀ q : Nat, q ≠ a → H1[q]? = H[q]?) (hn : va_at D cl (a, px_c tys x) H1) : px_W base D cl tys (px_set M a x) H1 := by
  refine ⟨by rw [z]; exact h.1, by rw [z]; exact h.2.1, fun b y hb => ?_⟩
  by_cases hq : b = a
  · subst hq
    have hxy : x = y := by simpa [px_set] using hb
    subst hxy
    exact ⟨(h.2.2 b x0 he).1, hn⟩
  · have hb' : M.1 b = some y := by simpa [px_set, hq] using hb
    exact ⟨(h.2.2 b y hb').1, (h.2.2 b y hb').2.kept (oq b hq)⟩
theorem px_W.push {base : Nat} {D : va_G} {cl : List vw_C} {tys : List (ClassId × FieldType)} {M : px_M} {H H1 : Heap} (h : px_W base D cl tys M H) {x : px_E} (z : H1.size = H.size + 1) (oq : ∀ q : Nat, q < H.size → H1[q]? = H[q]?) (hn : va_at D cl (H.size, px_c tys x) H1) : px_W base D cl tys (px_push M x) H1 := by
  refine ⟨by rw [z]; exact Nat.le_succ_of_le h.1, by rw [z, h.2.1]; rfl, fun b y hb => ?_⟩
  by_cases hq : b = M.2
  · have hxy : x = y := by simpa [px_push, hq] using hb
    subst hxy
    rw [hq, ← h.2.1]
    exact ⟨h.1, hn⟩
  · have hb' : M.1 b = some y := by simpa [px_push, hq] using hb
    exact ⟨(h.2.2 b y hb').1, (h.2.2 b y hb').2.kept (oq b (h.2.2 b y hb').2.lt)⟩
theorem px_S.push {base : Nat} {H0 H H1 : Heap} {locs : List Loc} (hS : va_S (fun q => base ≤ q) H0 H locs) (z : H1.size = H.size + 1) (oq : ∀ q : Nat, q < H.size → H1[q]? = H[q]?) : va_S (fun q => base ≤ q) H0 H1 locs :=
  ⟨Nat.le_trans hS.1 (by omega), fun x h1 h2 => (oq x (Nat.lt_of_lt_of_le h1 hS.1)).trans (hS.2.1 x h1 h2), hS.2.2⟩
/-! reads and writes of the pure memory -/
def px_gi (ci k : Nat) (M : px_M) (a : Nat) : Option Int32 := match M.1 a with
  | some (.inr (c, fs)) => if c = ci then (match fs[k]? with | some (.int x) => some x | _ => none) else none
  | _ => none
def px_gr (ci k : Nat) (M : px_M) (a : Nat) : Option Nat := match M.1 a with
  | some (.inr (c, fs)) => if c = ci then (match fs[k]? with | some (.ref x) => some x | _ => none) else none
  | _ => none
def px_pt (ci k : Nat) (M : px_M) (a : Nat) (v : Value) : Option px_M := match M.1 a with
  | some (.inr (c, fs)) => if c = ci ∧ k < fs.length then some (px_set M a (.inr (ci, fs.set k v))) else none
  | _ => none
def px_ai (t : Nat) (M : px_M) (a : Nat) (i : Int32) : Option Int32 := match M.1 a with
  | some (.inl (t', n, .inl f)) => if t' = t ∧ ¬ i < 0 ∧ i.toNatClampNeg < n then some (f i.toNatClampNeg) else none
  | _ => none
def px_ar (t : Nat) (M : px_M) (a : Nat) (i : Int32) : Option Nat := match M.1 a with
  | some (.inl (t', n, .inr (.inr (.inr (.inr f))))) => if t' = t ∧ ¬ i < 0 ∧ i.toNatClampNeg < n then f i.toNatClampNeg else none
  | _ => none
def px_si (t : Nat) (M : px_M) (a : Nat) (i x : Int32) : Option px_M := match M.1 a with
  | some (.inl (t', n, .inl f)) => if t' = t ∧ ¬ i < 0 ∧ i.toNatClampNeg < n then some (px_set M a (.inl (t, n, .inl (upd f i.toNatClampNeg x)))) else none
  | _ => none
def px_al (t : Nat) (M : px_M) (a : Nat) : Option Int32 := match M.1 a with
  | some (.inl (t', n, _)) => if t' = t then some (Int32.ofNat n) else none
  | _ => none
/-- a reference is put into an array of references; ci: the kind of objects that it holds -/
def px_sr (t ci : Nat) (M : px_M) (a : Nat) (i : Int32) (v : Nat) : Option px_M := match M.1 a, M.1 v with
  | some (.inl (t', n, .inr (.inr (.inr (.inr f))))), some (.inr (c, _)) => if t' = t ∧ c = ci ∧ ¬ i < 0 ∧ i.toNatClampNeg < n then some (px_set M a (.inl (t, n, .inr (.inr (.inr (.inr (va_up f i.toNatClampNeg (some v)))))))) else none
  | _, _ => none
theorem px_gi_spec {ci k : Nat} {M : px_M} {a : Nat} {x : Int32} (h : px_gi ci k M a = some x) : ∃ fs, M.1 a = some (.inr (ci, fs)) ∧ fs[k]? = some (.int x) := by
  unfold px_gi at h
  split at h
  · rename_i c fs he
    split at h
    · rename_i hc
      subst hc
      refine ⟨fs, he, ?_⟩
      split at h
      · rename_i y hy
        cases h
        exact hy
      · cases h
    · cases h
  · cases h
theorem px_gr_spec {ci k : Nat} {M : px_M} {a : Nat} {x : Nat} (h : px_gr ci k M a = some x) : ∃ fs, M.1 a = some (.inr (ci, fs)) ∧ fs[k]? = some (.ref x) := by
  unfold px_gr at h
  split at h
  · rename_i c fs he
    split at h
    · rename_i hc
      subst hc
      refine ⟨fs, he, ?_⟩
      split at h
      · rename_i y hy
        cases h
        exact hy
      · cases h
    · cases h
  · cases h
theorem px_pt_spec {ci k : Nat} {M M1 : px_M} {a : Nat} {v : Value} (h : px_pt ci k M a v = some M1) : ∃ fs, M.1 a = some (.inr (ci, fs)) ∧ k < fs.length ∧ M1 = px_set M a (.inr (ci, fs.set k v)) := by
  unfold px_pt at h
  split at h
  · rename_i c fs he
    split at h
    · rename_i hc
      obtain ⟨rfl, hk⟩ := hc
      cases h
      exact ⟨fs, he, hk, rfl⟩
    · cases h
  · cases h
theorem px_ai_spec {t : Nat} {M : px_M} {a : Nat} {i x : Int32} (h : px_ai t M a i = some x) : ∃ n f, M.1 a = some (.inl (t, n, .inl f)) ∧ vp_in i n ∧ x = f i.toNatClampNeg := by
  unfold px_ai at h
  split at h
  · rename_i t' n f he
    split at h
    · rename_i hc
      obtain ⟨rfl, h1, h2⟩ := hc
      cases h
      exact ⟨n, f, he, fun q => q.elim h1 (fun q => absurd h2 (Nat.not_lt.mpr q)), rfl⟩
    · cases h
  · cases h
theorem px_ar_spec {t : Nat} {M : px_M} {a : Nat} {i : Int32} {x : Nat} (h : px_ar t M a i = some x) : ∃ n f, M.1 a = some (.inl (t, n, .inr (.inr (.inr (.inr f))))) ∧ vp_in i n ∧ f i.toNatClampNeg = some x := by
  unfold px_ar at h
  split at h
  · rename_i t' n f he
    split at h
    · rename_i hc
      obtain ⟨rfl, h1, h2⟩ := hc
      exact ⟨n, f, he, fun q => q.elim h1 (fun q => absurd h2 (Nat.not_lt.mpr q)), h⟩
    · cases h
  · cases h
theorem px_si_spec {t : Nat} {M M1 : px_M} {a : Nat} {i x : Int32} (h : px_si t M a i x = some M1) : ∃ n f, M.1 a = some (.inl (t, n, .inl f)) ∧ vp_in i n ∧ M1 = px_set M a (.inl (t, n, .inl (upd f i.toNatClampNeg x))) := by
  unfold px_si at h
  split at h
  · rename_i t' n f he
    split at h
    · rename_i hc
      obtain ⟨rfl, h1, h2⟩ := hc
      cases h
      exact ⟨n, f, he, fun q => q.elim h1 (fun q => absurd h2 (Nat.not_lt.mpr q)), rfl⟩
    · cases h
  · cases h
theorem px_al_spec {t : Nat} {M : px_M} {a : Nat} {x : Int32} (h : px_al t M a = some x) : ∃ y, M.1 a = some (.inl (t, y)) ∧ Int32.ofNat y.1 = x := by
  unfold px_al at h
  split at h
  · rename_i t' n z he
    split at h
    · rename_i hc
      subst hc
      cases h
      exact ⟨(n, z), he, rfl⟩
    · cases h
  · cases h
theorem px_sr_spec {t ci : Nat} {M M1 : px_M} {a : Nat} {i : Int32} {v : Nat} (h : px_sr t ci M a i v = some M1) : ∃ n f vs, M.1 a = some (.inl (t, n, .inr (.inr (.inr (.inr f))))) ∧ M.1 v = some (.inr (ci, vs)) ∧ vp_in i n ∧ M1 = px_set M a (.inl (t, n, .inr (.inr (.inr (.inr (va_up f i.toNatClampNeg (some v))))))) := by
  unfold px_sr at h
  split at h
  · rename_i t' n f c' vs he hv
    split at h
    · rename_i hc
      obtain ⟨rfl, rfl, h1, h2⟩ := hc
      cases h
      exact ⟨n, f, vs, he, hv, fun q => q.elim h1 (fun q => absurd h2 (Nat.not_lt.mpr q)), rfl⟩
    · cases h
  · cases h
end
section
theorem px_bind {α β : Type} {o : Option α} {f : α → Option β} {x : β} (h : o.bind f = some x) : ∃ v, o = some v ∧ f v = some x := Option.bind_eq_some_iff.mp h
theorem px_ift {α : Type} {cnd : Prop} {ic : Decidable cnd} {A B : Option α} {x : α} (h : @ite _ cnd ic A B = some x) (hc : cnd) : A = some x := by rw [if_pos hc] at h; exact h
theorem px_iff {α : Type} {cnd : Prop} {ic : Decidable cnd} {A B : Option α} {x : α} (h : @ite _ cnd ic A B = some x) (hc : ¬ cnd) : B = some x := by rw [if_neg hc] at h; exact h
def px_ob (ci : Nat) (M : px_M) (a : Nat) : Option Unit := match M.1 a with
  | some (.inr (c, _)) => if c = ci then some () else none
  | _ => none
theorem px_ob_spec {ci : Nat} {M : px_M} {a : Nat} {u : Unit} (h : px_ob ci M a = some u) : ∃ fs, M.1 a = some (.inr (ci, fs)) := by
  unfold px_ob at h
  split at h
  · rename_i c fs he
    split at h
    · rename_i hc
      subst hc
      exact ⟨fs, he⟩
    · cases h
  · cases h
/-- what is known of a kind of objects: its words, its fields' types, its place -/
def px_Cl (cl : List vw_C) (Ts : List Cond) (ci : Nat) (C : String) (T : u_T) (N : Nat) (ty : Nat → FieldType) : Prop :=
  (∀ w ∈ u_ws C T N, w ∈ Ts) ∧ (∀ k, k < N → parseFieldDescriptor (T k).2.2.1 = some (ty k)) ∧ (∀ a, a < N → ∀ b, b < N → a ≠ b → (T a).2.1 ≠ (T b).2.1) ∧ cl[ci]? = some (C, T, N)
section PXR
variable {p : Program} {l : Launch} {e : Env} {R : Room} {s : State} {m : MethodId} {args : Array Value} {below : List Frame} {meth : Method} {c : Code} {H : Heap} {locs : List Loc} {cells slots : Nat} {Q : State → Prop}
variable {cc : ByteArray} {pc : Nat} {ls : Array Slot} {rest : List Value} {D : va_G} {cl : List vw_C} {a base : Nat} {tys : List (ClassId × FieldType)} {H0 : Heap} {M M1 : px_M} {Ts : List Cond} {own C : String} {T : u_T} {N ci index : Nat} {ty : Nat → FieldType}
theorem px_rgi (hexec : p.tables.exec = Jvm.exec) (hb : c.code = cc) (hts : ∀ w ∈ Ts, w.before args s = true) (hC : px_Cl cl Ts ci C T N ty) (hown : s.vm.findClass own = some m.cls) (hK : va_K D cl tys s) (hM : px_W base D cl tys M H) (k : Nat) (hk : k < N) (hlink : (Cond.fieldLink own index (T k).1 (T k).2.1 (T k).2.2.1).before args s = true) {x : Int32} (hv : px_gi ci k M a = some x) (hdg : decode cc pc = .ok (.getfield index, 3))
    (kk : W p l e R s m args below meth c H locs cells slots Q (F0 m (pc + 3) ls (.int x :: rest))) : W p l e R s m args below meth c H locs cells slots Q (F0 m pc ls (.ref a :: rest)) := by
  obtain ⟨fs, he, hv⟩ := px_gi_spec hv
  exact va_get hexec hb hts hC.1 hown hK (hM.one he) 0 rfl hC.2.2.2 k hk hlink (fun _ h => h) hv hdg kk
theorem px_rgr (hexec : p.tables.exec = Jvm.exec) (hb : c.code = cc) (hts : ∀ w ∈ Ts, w.before args s = true) (hC : px_Cl cl Ts ci C T N ty) (hown : s.vm.findClass own = some m.cls) (hK : va_K D cl tys s) (hM : px_W base D cl tys M H) (k : Nat) (hk : k < N) (hlink : (Cond.fieldLink own index (T k).1 (T k).2.1 (T k).2.2.1).before args s = true) {x : Nat} (hv : px_gr ci k M a = some x) (hdg : decode cc pc = .ok (.getfield index, 3))
    (kk : W p l e R s m args below meth c H locs cells slots Q (F0 m (pc + 3) ls (.ref x :: rest))) : W p l e R s m args below meth c H locs cells slots Q (F0 m pc ls (.ref a :: rest)) := by
  obtain ⟨fs, he, hv⟩ := px_gr_spec hv
  exact va_get hexec hb hts hC.1 hown hK (hM.one he) 0 rfl hC.2.2.2 k hk hlink (fun _ h => h) hv hdg kk
theorem px_rgiN (hexec : p.tables.exec = Jvm.exec) (hb : c.code = cc) (hts : ∀ w ∈ Ts, w.before args s = true) (hC : px_Cl cl Ts ci C T N ty) (hown : s.vm.findClass own = some m.cls) (hK : va_K D cl tys s) (hM : px_W base D cl tys M H) (k : Nat) (hk : k < N) {host : String} (hlink : va_Nw (.fieldLinkNest own index (T k).1 (T k).2.1 (T k).2.2.1 host) s) {x : Int32} (hv : px_gi ci k M a = some x) (hdg : decode cc pc = .ok (.getfield index, 3))
    (kk : W p l e R s m args below meth c H locs cells slots Q (F0 m (pc + 3) ls (.int x :: rest))) : W p l e R s m args below meth c H locs cells slots Q (F0 m pc ls (.ref a :: rest)) := by
  obtain ⟨fs, he, hv⟩ := px_gi_spec hv
  exact va_getN hexec hb hts hC.1 hown hK (hM.one he) 0 rfl hC.2.2.2 k hk (va_Nw.use rfl hlink) (fun _ h => h) hv hdg kk
theorem px_rgrN (hexec : p.tables.exec = Jvm.exec) (hb : c.code = cc) (hts : ∀ w ∈ Ts, w.before args s = true) (hC : px_Cl cl Ts ci C T N ty) (hown : s.vm.findClass own = some m.cls) (hK : va_K D cl tys s) (hM : px_W base D cl tys M H) (k : Nat) (hk : k < N) {host : String} (hlink : va_Nw (.fieldLinkNest own index (T k).1 (T k).2.1 (T k).2.2.1 host) s) {x : Nat} (hv : px_gr ci k M a = some x) (hdg : decode cc pc = .ok (.getfield index, 3))
    (kk : W p l e R s m args below meth c H locs cells slots Q (F0 m (pc + 3) ls (.ref x :: rest))) : W p l e R s m args below meth c H locs cells slots Q (F0 m pc ls (.ref a :: rest)) := by
  obtain ⟨fs, he, hv⟩ := px_gr_spec hv
  exact va_getN hexec hb hts hC.1 hown hK (hM.one he) 0 rfl hC.2.2.2 k hk (va_Nw.use rfl hlink) (fun _ h => h) hv hdg kk
theorem px_rpt (hexec : p.tables.exec = Jvm.exec) (hb : c.code = cc) (hts : ∀ w ∈ Ts, w.before args s = true) (hC : px_Cl cl Ts ci C T N ty) (hown : s.vm.findClass own = some m.cls) (hK : va_K D cl tys s) (hM : px_W base D cl tys M H) (hS0 : va_S (fun q => base ≤ q) H0 H locs) (k : Nat) (hk : k < N) (hlink : (Cond.fieldLink own index (T k).1 (T k).2.1 (T k).2.2.1).before args s = true) (hfin : (T k).2.2.2 = false) {v : Value} (hn : narrow (ty k) v = v) (hfit : fits (ty k) v = true) (hv : px_pt ci k M a v = some M1) (hdg : decode cc pc = .ok (.putfield index, 3))
    (kk : ∀ (H1 : Heap) (locs1 : List Loc), px_W base D cl tys M1 H1 → va_S (fun q => base ≤ q) H0 H1 locs1 → W p l e R s m args below meth c H1 locs1 cells slots Q (F0 m (pc + 3) ls rest)) : W p l e R s m args below meth c H locs cells slots Q (F0 m pc ls (v :: .ref a :: rest)) := by
  obtain ⟨fs, he, hl, rfl⟩ := px_pt_spec hv
  obtain ⟨hin, hty, hnm, hc⟩ := hC
  have hd := hty k hk
  have hap := va_apart (own := own) hts hin ty hty hnm hK hc
  obtain ⟨hab, r, h1, cell, q1, q2, q3, q4⟩ := hM.2.2 a _ he
  have hr : r = (C, T, N) := Option.some.inj (h1.symm.trans hc)
  subst hr
  obtain ⟨hS, hfc, kC, hkC, hkind⟩ := hK.1 ci _ hc
  obtain ⟨cf, kf, fi, f, hi, hsl⟩ := hS k hk
  have hlay := hts _ (hin _ (u_in_lay hk))
  unfold u_lay at hlay
  rw [if_neg (by rw [hfin]; decide)] at hlay
  have hst := (u_facts hfc hkC (u_lays hts hin hk) hi).1
  have h6 := u_store hfc hkC hkind hlay hi hd hn hfit
  refine W.putK hexec hb (f := f) ⟨hown, hlink, ⟨_, _, _, hi⟩, hst⟩ (by rw [q2]; exact h6) q1 q3 (by rw [hsl]; exact k2_hasslot (q4 k hk)) rfl rfl hdg fun H' e1 e2 e3 => ?_
  rw [hsl] at e1 ⊢
  exact kk H' _ (hM.put he e2 e3 ⟨_, hc, t_OB.to (V := updV (vp_V fs) k v) ⟨_, e1, q2, q3, t_set q4 hap hk v⟩ (fun j _ => vp_updV_set hl v j)⟩) (hS0.put e2 e3 hab)
theorem px_rptN (hexec : p.tables.exec = Jvm.exec) (hb : c.code = cc) (hts : ∀ w ∈ Ts, w.before args s = true) (hC : px_Cl cl Ts ci C T N ty) (hown : s.vm.findClass own = some m.cls) (hK : va_K D cl tys s) (hM : px_W base D cl tys M H) (hS0 : va_S (fun q => base ≤ q) H0 H locs) (k : Nat) (hk : k < N) {host : String} (hlink : va_Nw (.fieldLinkNest own index (T k).1 (T k).2.1 (T k).2.2.1 host) s) (hfin : (T k).2.2.2 = false) {v : Value} (hn : narrow (ty k) v = v) (hfit : fits (ty k) v = true) (hv : px_pt ci k M a v = some M1) (hdg : decode cc pc = .ok (.putfield index, 3))
    (kk : ∀ (H1 : Heap) (locs1 : List Loc), px_W base D cl tys M1 H1 → va_S (fun q => base ≤ q) H0 H1 locs1 → W p l e R s m args below meth c H1 locs1 cells slots Q (F0 m (pc + 3) ls rest)) : W p l e R s m args below meth c H locs cells slots Q (F0 m pc ls (v :: .ref a :: rest)) := by
  obtain ⟨fs, he, hl, rfl⟩ := px_pt_spec hv
  obtain ⟨hin, hty, hnm, hc⟩ := hC
  have hd := hty k hk
  have hap := va_apart (own := own) hts hin ty hty hnm hK hc
  obtain ⟨hab, r, h1, cell, q1, q2, q3, q4⟩ := hM.2.2 a _ he
  have hr : r = (C, T, N) := Option.some.inj (h1.symm.trans hc)
  subst hr
  obtain ⟨hS, hfc, kC, hkC, hkind⟩ := hK.1 ci _ hc
  obtain ⟨cf, kf, fi, f, hi, hsl⟩ := hS k hk
  have hlay := hts _ (hin _ (u_in_lay hk))
  unfold u_lay at hlay
  rw [if_neg (by rw [hfin]; decide)] at hlay
  have hst := (u_facts hfc hkC (u_lays hts hin hk) hi).1
  have h6 := u_store hfc hkC hkind hlay hi hd hn hfit
  refine va_WputK hexec hb (f := f) hown (va_Nw.use rfl hlink) hi hst (by rw [q2]; exact h6) q1 q3 (by rw [hsl]; exact k2_hasslot (q4 k hk)) rfl rfl hdg fun H' e1 e2 e3 => ?_
  rw [hsl] at e1 ⊢
  exact kk H' _ (hM.put he e2 e3 ⟨_, hc, t_OB.to (V := updV (vp_V fs) k v) ⟨_, e1, q2, q3, t_set q4 hap hk v⟩ (fun j _ => vp_updV_set hl v j)⟩) (hS0.put e2 e3 hab)
/-- a final field, where its object is made -/
theorem px_rptF (hexec : p.tables.exec = Jvm.exec) (hb : c.code = cc) (hts : ∀ w ∈ Ts, w.before args s = true) (hC : px_Cl cl Ts ci C T N ty) (hown : s.vm.findClass own = some m.cls) (hK : va_K D cl tys s) (hM : px_W base D cl tys M H) (hS0 : va_S (fun q => base ≤ q) H0 H locs) (k : Nat) (hk : k < N) (hlink : (Cond.fieldLink own index (T k).1 (T k).2.1 (T k).2.2.1).before args s = true) (hfin : (T k).2.2.2 = true) (hin2 : meth.name = "<init>") (hdecl : (T k).1 = own) {v : Value} (hn : narrow (ty k) v = v) (hfit : fits (ty k) v = true) (hv : px_pt ci k M a v = some M1) (hdg : decode cc pc = .ok (.putfield index, 3))
    (kk : ∀ (H1 : Heap) (locs1 : List Loc), px_W base D cl tys M1 H1 → va_S (fun q => base ≤ q) H0 H1 locs1 → W p l e R s m args below meth c H1 locs1 cells slots Q (F0 m (pc + 3) ls rest)) : W p l e R s m args below meth c H locs cells slots Q (F0 m pc ls (v :: .ref a :: rest)) := by
  obtain ⟨fs, he, hl, rfl⟩ := px_pt_spec hv
  obtain ⟨hin, hty, hnm, hc⟩ := hC
  have hd := hty k hk
  have hap := va_apart (own := own) hts hin ty hty hnm hK hc
  obtain ⟨hab, r, h1, cell, q1, q2, q3, q4⟩ := hM.2.2 a _ he
  have hr : r = (C, T, N) := Option.some.inj (h1.symm.trans hc)
  subst hr
  obtain ⟨hS, hfc, kC, hkC, hkind⟩ := hK.1 ci _ hc
  obtain ⟨cf, kf, fi, f, hi, hsl⟩ := hS k hk
  have hlay := hts _ (hin _ (u_in_lay hk))
  unfold u_lay at hlay
  rw [if_pos hfin] at hlay
  have hst := (u_facts hfc hkC (u_lays hts hin hk) hi).1
  have hcf : m.cls = cf := by
    obtain ⟨_, _, c', _, _, _, -, -, hf', -, -, -, hown2, -⟩ := Cond.laysFinal_spec hlay
    have e1 : c' = cf := by have := hi.symm.trans hf'; simp at this; exact this.1.symm
    rw [hdecl] at hown2
    rw [← e1]; exact Option.some.inj (hown.symm.trans hown2)
  have h6 := u_fits hfc hkC hkind (Or.inr hlay) hi hd hn hfit
  refine W.putFinK hexec hb hown hlink hi hst hcf hin2 (by rw [q2]; exact h6) q1 q3 (by rw [hsl]; exact k2_hasslot (q4 k hk)) rfl rfl hdg fun H' e1 e2 e3 => ?_
  rw [hsl] at e1 ⊢
  exact kk H' _ (hM.put he e2 e3 ⟨_, hc, t_OB.to (V := updV (vp_V fs) k v) ⟨_, e1, q2, q3, t_set q4 hap hk v⟩ (fun j _ => vp_updV_set hl v j)⟩) (hS0.put e2 e3 hab)
theorem px_ty {t : Nat} {cA : ClassId} {ty1 : FieldType} (ht : tys[t]? = some (cA, ty1)) : (tys.getD t (0, .int)).1 = cA := by rw [List.getD_eq_getElem?_getD, ht]; rfl
theorem px_rai (hexec : p.tables.exec = Jvm.exec) (hb : c.code = cc) (hK : va_K D cl tys s) (hM : px_W base D cl tys M H) (t : Nat) {cA : ClassId} (ht : tys[t]? = some (cA, .int)) {i x : Int32} (hv : px_ai t M a i = some x) (hdg : decode cc pc = .ok (.iaload, 1))
    (kk : W p l e R s m args below meth c H locs cells slots Q (F0 m (pc + 1) ls (.int x :: rest))) : W p l e R s m args below meth c H locs cells slots Q (F0 m pc ls (.int i :: .ref a :: rest)) := by
  obtain ⟨n, f, he, hin, rfl⟩ := px_ai_spec hv
  have hP := hM.one he
  simp only [px_c, px_ty ht] at hP
  exact va_iald hexec hb hK hP 0 t rfl ht hin hdg kk
theorem px_rar (hexec : p.tables.exec = Jvm.exec) (hb : c.code = cc) (hK : va_K D cl tys s) (hM : px_W base D cl tys M H) (t : Nat) {cA : ClassId} {C1 : String} (ht : tys[t]? = some (cA, .object C1)) {i : Int32} {x : Nat} (hv : px_ar t M a i = some x) (hdg : decode cc pc = .ok (.aaload, 1))
    (kk : W p l e R s m args below meth c H locs cells slots Q (F0 m (pc + 1) ls (.ref x :: rest))) : W p l e R s m args below meth c H locs cells slots Q (F0 m pc ls (.int i :: .ref a :: rest)) := by
  obtain ⟨n, f, he, hin, hx⟩ := px_ar_spec hv
  have hP := hM.one he
  simp only [px_c, px_ty ht] at hP
  refine va_aldq hexec hb hK hP 0 t rfl ht hin hdg ?_
  rw [hx]
  exact kk
theorem px_ral (hexec : p.tables.exec = Jvm.exec) (hb : c.code = cc) (hK : va_K D cl tys s) (hM : px_W base D cl tys M H) (t : Nat) {cA : ClassId} {ty1 : FieldType} (ht : tys[t]? = some (cA, ty1)) {x : Int32} (hv : px_al t M a = some x) (hdg : decode cc pc = .ok (.arraylength, 1))
    (kk : W p l e R s m args below meth c H locs cells slots Q (F0 m (pc + 1) ls (.int x :: rest))) : W p l e R s m args below meth c H locs cells slots Q (F0 m pc ls (.ref a :: rest)) := by
  obtain ⟨y, he, hx⟩ := px_al_spec hv
  have hP := hM.one he
  simp only [px_c, px_ty ht] at hP
  exact va_alen hexec hb hK hP 0 t rfl ht hx hdg kk
theorem px_rsi (hexec : p.tables.exec = Jvm.exec) (hb : c.code = cc) (hK : va_K D cl tys s) (hM : px_W base D cl tys M H) (hS0 : va_S (fun q => base ≤ q) H0 H locs) (t : Nat) {cA : ClassId} (ht : tys[t]? = some (cA, .int)) {i x : Int32} (hv : px_si t M a i x = some M1) (hdg : decode cc pc = .ok (.iastore, 1))
    (kk : ∀ (H1 : Heap) (locs1 : List Loc), px_W base D cl tys M1 H1 → va_S (fun q => base ≤ q) H0 H1 locs1 → W p l e R s m args below meth c H1 locs1 cells slots Q (F0 m (pc + 1) ls rest)) : W p l e R s m args below meth c H locs cells slots Q (F0 m pc ls (.int x :: .int i :: .ref a :: rest)) := by
  obtain ⟨n, f, he, hin, rfl⟩ := px_si_spec hv
  have hP := hM.2.2 a _ he
  simp only [px_c, px_ty ht] at hP
  refine W.iast hexec hb hP.2 ((hK.2 t _ ht).1 n (fun j => .int (f j))) (fun q => by cases q) (by show ¬ (i < 0 ∨ (arrV _ _ _).slots.size ≤ _); rw [arrV_size]; exact hin) rfl rfl hdg fun H1 e z oq => ?_
  refine kk H1 _ (hM.put he z oq ?_) (hS0.put z oq hP.1)
  show H1[a]? = some (vp_cell _ _)
  rw [e, px_ty ht]
  rw [vp_cell_i, vp_cell_i, arrV_store]
  congr 2
  funext q
  by_cases hq : q = i.toNatClampNeg
  · subst hq
    simp [updV, upd]
  · simp [updV, upd, hq]
/-- a new object; its address is the number of cells so far -/
theorem px_rnew (hexec : p.tables.exec = Jvm.exec) (hb : c.code = cc) (hts : ∀ w ∈ Ts, w.before args s = true) (hC : px_Cl cl Ts ci C T N ty) (hown : s.vm.findClass own = some m.cls) (hcl : (Cond.classLink own index C).before args s = true) (hinst : (Cond.instantiable C N).before args s = true) (hini : (Cond.initialized C).before args s = true)
    (hK : va_K D cl tys s) (hM : px_W base D cl tys M H) (hS : va_S (fun q => base ≤ q) H0 H locs) {fs : List Value} (hfs : ∀ j, j < N → defaultValue (ty j) = vp_V fs j) (hcells : cells + 1 ≤ R.cells) (hslots : slots + N ≤ R.slots) (hdg : decode cc pc = .ok (.new index, 3))
    (kk : ∀ (H1 : Heap), px_W base D cl tys (px_push M (.inr (ci, fs))) H1 → va_S (fun q => base ≤ q) H0 H1 locs →
      W p l e R s m args below meth c H1 locs (cells + 1) (slots + N) Q (F0 m (pc + 3) ls (.ref M.2 :: rest))) : W p l e R s m args below meth c H locs cells slots Q (F0 m pc ls rest) := by
  obtain ⟨hin, hty, hnm, hc⟩ := hC
  have hKn := hK.1 ci _ hc
  refine W.newcK hexec hb hown hcl hinst hini rfl hdg hcells hslots hKn.2.1 hM.2.1 fun H1 kC hkC e1 z1 o1 => ?_
  rw [← hM.2.1] at e1 z1 o1
  rw [← hM.2.1]
  refine (fun k => by rw [hM.2.1]; exact k) (kk H1 (hM.push z1 o1 ?_) (px_S.push hS z1 o1))
  exact ⟨_, hc, (u_born ty hts hin hKn hkC e1 hty).to hfs⟩
theorem px_rnewa (hexec : p.tables.exec = Jvm.exec) (hb : c.code = cc) (harr : (Cond.arrayClass (newarray.typeOf .int)).before args s = true) (t : Nat) {cA : ClassId} (hK : va_K D cl tys s) (ht : tys[t]? = some (cA, .int)) (hM : px_W base D cl tys M H) (hS : va_S (fun q => base ≤ q) H0 H locs)
    {n : Int32} {N' : Nat} (hn : ¬ n < 0) (hN : n.toNatClampNeg = N') (hbytes : N' * componentBytes .int ≤ 536870912) (hcells : cells + 1 ≤ R.cells) (hslots : slots + N' ≤ R.slots) (hdg : decode cc pc = .ok (.newarray .int, 2))
    (kk : ∀ (H1 : Heap), px_W base D cl tys (px_push M (.inl (t, N', .inl (fun _ => 0)))) H1 → va_S (fun q => base ≤ q) H0 H1 locs →
      W p l e R s m args below meth c H1 locs (cells + 1) (slots + N') Q (F0 m (pc + 2) ls (.ref M.2 :: rest))) : W p l e R s m args below meth c H locs cells slots Q (F0 m pc ls (.int n :: rest)) := by
  refine va_newaK hexec hb harr rfl hdg rfl hn hN hbytes hcells hslots hM.2.1 fun H1 cB e1 z1 o1 hAr hNm => ?_
  have hcB : cB = cA := Option.some.inj (hNm.symm.trans (hK.2 t _ ht).2)
  subst hcB
  rw [← hM.2.1] at e1 z1 o1
  refine kk H1 (hM.push z1 o1 ?_) (px_S.push hS z1 o1)
  show H1[H.size]? = some (vp_cell _ _)
  rw [px_ty ht, e1]
  rfl
theorem px_rnewq (hexec : p.tables.exec = Jvm.exec) (hb : c.code = cc) {C1 : String} (hown : s.vm.findClass own = some m.cls) (hclink : (Cond.classLink own index C1).before args s = true) (hover : va_AO C1 s) (t : Nat) {cA : ClassId} (hK : va_K D cl tys s) (ht : tys[t]? = some (cA, .object C1)) (hM : px_W base D cl tys M H) (hS : va_S (fun q => base ≤ q) H0 H locs)
    {n : Int32} {N' : Nat} (hn : ¬ n < 0) (hN : n.toNatClampNeg = N') (hbytes : N' * 4 ≤ 536870912) (hcells : cells + 1 ≤ R.cells) (hslots : slots + N' ≤ R.slots) (hdg : decode cc pc = .ok (.anewarray index, 3))
    (kk : ∀ (H1 : Heap), px_W base D cl tys (px_push M (.inl (t, N', .inr (.inr (.inr (.inr (fun _ => none))))))) H1 → va_S (fun q => base ≤ q) H0 H1 locs →
      W p l e R s m args below meth c H1 locs (cells + 1) (slots + N') Q (F0 m (pc + 3) ls (.ref M.2 :: rest))) : W p l e R s m args below meth c H locs cells slots Q (F0 m pc ls (.int n :: rest)) := by
  subst hN
  refine W.anew hexec hb hown hclink (va_AO.use hover) rfl hdg rfl hn hbytes hcells hslots fun cB kA comp f1 f2 f3 f4 => ?_
  have hcB : cB = cA := by
    obtain ⟨_, _, _, _, _, h4⟩ := (hK.2 t _ ht).2
    exact Option.some.inj (f1.symm.trans h4)
  subst hcB
  generalize hH1 : H.push ({ cls := cB, slots := Array.replicate n.toNatClampNeg .null, vm := .none } : Cell) = H1
  have z1 : H1.size = H.size + 1 := by rw [← hH1, Array.size_push]
  have e1 : H1[H.size]? = some (arrV cB n.toNatClampNeg (fun _ => .null)) := by rw [← hH1, Array.getElem?_push_size, ← arrV_new]
  have o1 : ∀ q : Nat, q < H.size → H1[q]? = H[q]? := fun q hq => by rw [← hH1, Array.getElem?_push, if_neg (Nat.ne_of_lt hq)]
  have kk' := kk H1 (hM.push z1 o1 (by
    show H1[H.size]? = some (vp_cell _ _)
    rw [px_ty ht, vp_cell_q]
    exact e1)) (px_S.push hS z1 o1)
  rw [← hM.2.1] at kk'
  exact kk'
theorem px_rsr (hexec : p.tables.exec = Jvm.exec) (hb : c.code = cc) (hK : va_K D cl tys s) (hM : px_W base D cl tys M H) (hS : va_S (fun q => base ≤ q) H0 H locs) (t : Nat) {cA : ClassId} {r : vw_C} (ht : tys[t]? = some (cA, .object r.1)) (hc : cl[ci]? = some r) {i : Int32} {v : Nat} (hv : px_sr t ci M a i v = some M1) (hdg : decode cc pc = .ok (.aastore, 1))
    (kk : ∀ (H1 : Heap) (locs1 : List Loc), px_W base D cl tys M1 H1 → va_S (fun q => base ≤ q) H0 H1 locs1 → W p l e R s m args below meth c H1 locs1 cells slots Q (F0 m (pc + 1) ls rest)) : W p l e R s m args below meth c H locs cells slots Q (F0 m pc ls (.ref v :: .int i :: .ref a :: rest)) := by
  obtain ⟨n, f, vs, he, hve, hin, rfl⟩ := px_sr_spec hv
  have hlt : i.toNatClampNeg < n := Nat.not_le.mp fun q => hin (Or.inr q)
  have h0 : ¬ i < 0 := fun q => hin (Or.inl q)
  have hP := hM.2.2 a _ he
  simp only [px_c, px_ty ht] at hP
  obtain ⟨-, r', hr', cellV, g1, g2, g3, -⟩ := hM.2.2 v _ hve
  have hcls := (hK.1 ci r hc).2
  obtain ⟨kA, comp, k1, k2, k3, -⟩ := (hK.2 t _ ht).2
  have hcomp : comp = D.1 ci := Option.some.inj (k3.symm.trans hcls.1)
  subst hcomp
  obtain ⟨kC, hkC, -⟩ := hcls.2
  refine W.aast hexec hb hP.2 (fun q h => by cases h) (fun h => by cases h) k1 k2 rfl hkC ⟨h0, by show _ < (arrV _ _ _).slots.size; rw [arrV_size]; exact hlt⟩ g1 (fun q h => by rw [g3] at h; cases h) (by rw [g2]; exact hkC) (by rw [g2]; exact va_assign hcls) rfl rfl hdg fun H1 e z oq => ?_
  refine kk H1 _ (hM.put he z oq ?_) (hS.put z oq hP.1)
  show H1[a]? = some (vp_cell _ _)
  rw [e, px_ty ht]
  rw [vp_cell_q, vp_cell_q, arrV_store]
  congr 2
  funext q
  by_cases hq : q = i.toNatClampNeg
  · subst hq
    simp [updV, va_up, va_rf]
  · simp [updV, va_up, hq]
end PXR
end
section
/-! words: one list for all methods -/
def px_good (w : Cond) : Bool := (w.onTables && w.keeps) || (match w with | .arrayClass _ => true | _ => false)
def px_tw : List Cond := lw_tbl.filter px_good
theorem px_tw_sub {w : Cond} (h : w ∈ px_tw) : w ∈ lw_tbl := (List.mem_filter.mp h).1
theorem px_tw_good {w : Cond} (h : w ∈ px_tw) : (w.onTables && w.keeps) = true ∨ ∃ ty, w = .arrayClass ty := by
  have h2 := (List.mem_filter.mp h).2
  unfold px_good at h2
  rcases Bool.or_eq_true_iff.mp h2 with h3 | h3
  · exact Or.inl h3
  · right
    split at h3
    · exact ⟨_, rfl⟩
    · cases h3
theorem px_gin {ws : List Cond} (h : ∀ w ∈ ws, w ∈ px_tw) : GoodIn px_tw ws := fun w hw => ⟨h w hw, px_tw_good (h w hw)⟩
theorem px_gI {x : Cond} (h : x ∈ px_tw) : GoodIn px_tw (x :: px_tw) := px_gin (fun w hw => by
  rcases List.mem_cons.mp hw with rfl | hw
  · exact h
  · exact hw)
theorem px_gV {own C : String} {idx : Nat} {y : MethodName} {x : Cond} (h1 : Cond.methodLink own idx y ∈ px_tw) (h2 : Cond.instanceMethod y ∈ px_tw) (h3 : Cond.selects C y y ∈ px_tw) (h4 : Cond.initialized C ∈ px_tw) (h : x ∈ px_tw) : GoodIn px_tw (wsV own idx C y (x :: px_tw)) := px_gin (fun w hw => by
  simp only [wsV, List.cons_append, List.nil_append, List.mem_cons] at hw
  rcases hw with rfl | rfl | rfl | rfl | rfl | hw
  · exact h1
  · exact h2
  · exact h3
  · exact h4
  · exact h
  · exact hw)
theorem px_gS {own : String} {idx : Nat} {y : MethodName} {x : Cond} (h1 : Cond.methodLink own idx y ∈ px_tw) (h2 : Cond.static y ∈ px_tw) (h4 : Cond.initialized own ∈ px_tw) (h : x ∈ px_tw) : GoodIn px_tw (wsS own idx y (x :: px_tw)) := px_gin (fun w hw => by
  simp only [wsS, List.cons_append, List.nil_append, List.mem_cons] at hw
  rcases hw with rfl | rfl | rfl | rfl | hw
  · exact h1
  · exact h2
  · exact h4
  · exact h
  · exact hw)
/-! a contract: from the memory M to M', with the answer r -/
def px_Qi (base : Nat) (D : va_G) (cl : List vw_C) (tys : List (ClassId × FieldType)) (r : Int32) (M' : px_M) : Array Value → State → Outcome → State → Prop := va_Qi (fun r' (_ : Unit) => r' = r) (fun _ t => px_W base D cl tys M' t.heap) (fun q => base ≤ q)
def px_Qv (base : Nat) (D : va_G) (cl : List vw_C) (tys : List (ClassId × FieldType)) (M' : px_M) : Array Value → State → Outcome → State → Prop := va_Qv (fun (_ : Unit) => True) (fun _ t => px_W base D cl tys M' t.heap) (fun q => base ≤ q)
def px_Qr (base : Nat) (D : va_G) (cl : List vw_C) (tys : List (ClassId × FieldType)) (r : Nat) (M' : px_M) : Array Value → State → Outcome → State → Prop := va_Qr (fun (_ : Unit) => True) (fun _ a t => a = r ∧ px_W base D cl tys M' t.heap) (fun q => base ≤ q)
section PXC
variable {p : Program} {l : Launch} {e : Env} {R : Room} {s : State} {m : MethodId} {args : Array Value} {below : List Frame} {meth : Method} {c : Code} {H : Heap} {locs : List Loc} {cells slots : Nat} {Q : State → Prop}
variable {cc : ByteArray} {pc : Nat} {ls : Array Slot} {rest st0 : List Value} {D : va_G} {cl : List vw_C} {base mc ms : Nat} {tys : List (ClassId × FieldType)} {H0 : Heap} {M M' : px_M} {av : Array Value} {nw : List Cond} {ov : List String}
theorem px_calli {r : Int32} (hr : va_Run p l e R s m args below meth c H locs cells slots mc ms (F0 m pc ls st0) rest (px_Qi base D cl tys r M' av) (fun q => base ≤ q)) (hS : va_S (fun q => base ≤ q) H0 H locs)
    (kk : ∀ (H1 : Heap) (locs1 : List Loc), px_W base D cl tys M' H1 → va_S (fun q => base ≤ q) H0 H1 locs1 → W p l e R s m args below meth c H1 locs1 (cells + mc) (slots + ms) Q (F0 m (pc + 3) ls (.int r :: rest))) : W p l e R s m args below meth c H locs cells slots Q (F0 m pc ls st0) := by
  refine va_calli hr hS (fun _ _ h => h) (fun _ h => h) (fun r' u t H1 locs1 ht hvm hp hB hz hk hS1 => ?_)
  subst hp
  rw [ht] at hB
  exact kk H1 locs1 hB hS1
theorem px_callv (hr : va_Run p l e R s m args below meth c H locs cells slots mc ms (F0 m pc ls st0) rest (px_Qv base D cl tys M' av) (fun q => base ≤ q)) (hS : va_S (fun q => base ≤ q) H0 H locs)
    (kk : ∀ (H1 : Heap) (locs1 : List Loc), px_W base D cl tys M' H1 → va_S (fun q => base ≤ q) H0 H1 locs1 → W p l e R s m args below meth c H1 locs1 (cells + mc) (slots + ms) Q (F0 m (pc + 3) ls rest)) : W p l e R s m args below meth c H locs cells slots Q (F0 m pc ls st0) := by
  refine va_callv hr hS (fun _ _ h => h) (fun _ h => h) (fun u t H1 locs1 ht hvm hp hB hz hk hS1 => ?_)
  rw [ht] at hB
  exact kk H1 locs1 hB hS1
theorem px_callr {r : Nat} (hr : va_Run p l e R s m args below meth c H locs cells slots mc ms (F0 m pc ls st0) rest (px_Qr base D cl tys r M' av) (fun q => base ≤ q)) (hS : va_S (fun q => base ≤ q) H0 H locs)
    (kk : ∀ (H1 : Heap) (locs1 : List Loc), px_W base D cl tys M' H1 → va_S (fun q => base ≤ q) H0 H1 locs1 → W p l e R s m args below meth c H1 locs1 (cells + mc) (slots + ms) Q (F0 m (pc + 3) ls (.ref r :: rest))) : W p l e R s m args below meth c H locs cells slots Q (F0 m pc ls st0) := by
  refine va_callr hr hS (fun _ _ h => h) (fun _ h => h) (fun u a t H1 locs1 ht hvm hp hB hz hk hS1 => ?_)
  obtain ⟨rfl, hB⟩ := hB
  rw [ht] at hB
  exact kk H1 locs1 hB hS1
theorem px_preS (hnw : ∀ w ∈ nw, px_nok w = true) (hK : va_K D cl tys s) (hN : ∀ w ∈ nw, va_Nw w s) (hO : ∀ C ∈ ov, va_AO C s) (hM : px_W base D cl tys M H) {As : List Value} : PreS s H (va_Pc As (px_B base D cl tys nw ov M)) As :=
  ⟨px_B.blind hnw, fun U hU hW => ⟨rfl, by rw [hU]; exact hM, va_K.moved hW.alike hK, fun w hw => px_nw_warm (hnw w hw) hW (hN w hw), fun C hC => va_AO.moved hW.alike (hO C hC)⟩⟩
theorem px_preV (hnw : ∀ w ∈ nw, px_nok w = true) (hK : va_K D cl tys s) (hN : ∀ w ∈ nw, va_Nw w s) (hO : ∀ C ∈ ov, va_AO C s) (hM : px_W base D cl tys M H) {b ci : Nat} {u : Unit} (ho : px_ob ci M b = some u) {q : vw_C} (hc : cl[ci]? = some q) {As : List Value} : PreV s H q.1 b (va_Pc (.ref b :: As) (px_B base D cl tys nw ov M)) As := by
  obtain ⟨fs, he⟩ := px_ob_spec ho
  exact ⟨px_B.blind hnw, va_recv (q0 := 0) (fs := fs) hK (hM.one he) hc rfl, fun U hU hW => ⟨rfl, by rw [hU]; exact hM, va_K.moved hW.alike hK, fun w hw => px_nw_warm (hnw w hw) hW (hN w hw), fun C hC => va_AO.moved hW.alike (hO C hC)⟩⟩
theorem px_iret {r : Int32} (hx : p.tables.exec = Jvm.exec) (hb : c.code = cc) (hr : meth.sig.returnType = some .int) (hlocks : meth.locks = false) (hM : px_W base D cl tys M H) (hS : va_S (fun q => base ≤ q) s.heap H locs) (hdg : decode cc pc = .ok (.ireturn, 1)) : W p l e R s m args below meth c H locs cells slots (MQ below (px_Qi base D cl tys r M) args s cells slots (fun q => base ≤ q)) (F0 m pc ls [.int r]) :=
  W.iret (v := r) hx hb hr (fun t ht _ => ⟨⟨r, (), rfl, rfl, by (try dsimp only); rw [ht]; exact hM⟩, hS.F ht⟩) hS.2.2 hdg hlocks
theorem px_zret {r : Int32} {ty : FieldType} (hx : p.tables.exec = Jvm.exec) (hb : c.code = cc) (hr : meth.sig.returnType = some ty) (hn : narrow ty (.int r) = .int r) (hlocks : meth.locks = false) (hM : px_W base D cl tys M H) (hS : va_S (fun q => base ≤ q) s.heap H locs) (hdg : decode cc pc = .ok (.ireturn, 1)) : W p l e R s m args below meth c H locs cells slots (MQ below (px_Qi base D cl tys r M) args s cells slots (fun q => base ≤ q)) (F0 m pc ls [.int r]) :=
  W.zret (v := r) hx hb hr hn (fun t ht _ => ⟨⟨r, (), rfl, rfl, by (try dsimp only); rw [ht]; exact hM⟩, hS.F ht⟩) hS.2.2 hdg hlocks
theorem px_vret (hx : p.tables.exec = Jvm.exec) (hb : c.code = cc) (hr : meth.sig.returnType = none) (hlocks : meth.locks = false) (hM : px_W base D cl tys M H) (hS : va_S (fun q => base ≤ q) s.heap H locs) (hdg : decode cc pc = .ok (.return_, 1)) : W p l e R s m args below meth c H locs cells slots (MQ below (px_Qv base D cl tys M) args s cells slots (fun q => base ≤ q)) (F0 m pc ls []) :=
  W.vret hx hb hr (fun t ht _ => ⟨⟨(), rfl, trivial, by (try dsimp only); rw [ht]; exact hM⟩, hS.F ht⟩) hS.2.2 hdg hlocks
theorem px_aret {r : Nat} {rt : FieldType} (hx : p.tables.exec = Jvm.exec) (hb : c.code = cc) (hr : meth.sig.returnType = some rt) (hrt : (∃ n, rt = .object n) ∨ ∃ t, rt = .array t) (hlocks : meth.locks = false) (hM : px_W base D cl tys M H) (hS : va_S (fun q => base ≤ q) s.heap H locs) (hdg : decode cc pc = .ok (.areturn, 1)) : W p l e R s m args below meth c H locs cells slots (MQ below (px_Qr base D cl tys r M) args s cells slots (fun q => base ≤ q)) (F0 m pc ls [.ref r]) :=
  W.aret (v := .ref r) hx hb hr hrt (Or.inr ⟨r, rfl⟩) (fun t ht _ => ⟨⟨(), r, rfl, trivial, rfl, by (try dsimp only); rw [ht]; exact hM⟩, hS.F ht⟩) hS.2.2 hdg hlocks
end PXC
/-- what holds in a method's body from its entry on -/
def px_At (p : Program) (s : State) (m : MethodId) (meth : Method) (c : Code) (y : MethodName) (cc : ByteArray) (n : Nat) (ret : Option FieldType) (av : Array Value) (D : va_G) (cl : List vw_C) (tys : List (ClassId × FieldType)) (nw : List Cond) (ov : List String) : Prop :=
  p.tables.exec = Jvm.exec ∧ c.code = cc ∧ meth.sig.returnType = ret ∧ c.maxLocals = n ∧ s.vm.findClass y.cls = some m.cls ∧ meth.name = y.name ∧ meth.locks = false ∧ (∀ w ∈ px_tw, w.before av s = true) ∧ va_K D cl tys s ∧ (∀ w ∈ nw, va_Nw w s) ∧ ∀ C ∈ ov, va_AO C s
theorem px_of {l : Launch} {y : MethodName} {cc : ByteArray} {n : Nat} {ret : Option FieldType} {rm : Room} {av : List Value} {base : Nat} {D : va_G} {cl : List vw_C} {tys : List (ClassId × FieldType)} {nw : List Cond} {ov : List String} {M : px_M} {Qc : Array Value → State → Outcome → State → Prop} {mc ms : Nat} (hy : plainName y.cls = true) (hav : (lg_sl av).length ≤ n)
    (body : ∀ (p : Program) (e : Env) (s : State) (m : MethodId) (below : List Frame) (meth : Method) (c : Code) (ls : Array Slot), px_At p s m meth c y cc n ret av.toArray D cl tys nw ov → px_W base D cl tys M s.heap → va_S (fun q => base ≤ q) s.heap s.heap [] → lv_has ls n (lv_args 0 av) →
      W p l e rm s m av.toArray below meth c s.heap [] 0 0 (MQ below Qc av.toArray s mc ms (fun q => base ≤ q)) (F0 m 0 ls [])) :
    Met l y (.code y cc n ret :: px_tw) rm (va_Pc av (px_B base D cl tys nw ov M)) Qc mc ms (fun q => base ≤ q) := by
  refine Met.ofW (cc := cc) (maxL := n) (ret := ret) hy rfl ?_
  intro p e s m args below meth c s₁ B hml hv
  obtain ⟨rfl, hM, hK, hN, hO⟩ := hv
  have hts := atoms_spec (ws := .code y cc n ret :: px_tw) B.pre
  have hl := lv_entry av (n := n) hav
  rw [lg_entry_eq]
  exact body p e s m below meth c _ ⟨B.exec, B.bytes, B.returns, hml, findClass_of_methodNamed B.named, (name_of_methodNamed B.named B.method).1, B.notSynchronized, fun w hw => hts w (List.mem_cons_of_mem _ hw), hK, hN, hO⟩ hM va_S.rf hl
theorem px_out2 {x : Int32} (h0 : ¬ x = 0) (h1 : ¬ x = 1) : x.toInt < 0 ∨ 1 < x.toInt := by
  have e0 : x.toInt ≠ 0 := fun q => h0 (Int32.toInt_inj.mp (q.trans rfl))
  have e1 : x.toInt ≠ 1 := fun q => h1 (Int32.toInt_inj.mp (q.trans rfl))
  omega
theorem px_out3 {x : Int32} (h0 : ¬ x = 0) (h1 : ¬ x = 1) (h2 : ¬ x = 2) : x.toInt < 0 ∨ 2 < x.toInt := by
  have e0 : x.toInt ≠ 0 := fun q => h0 (Int32.toInt_inj.mp (q.trans rfl))
  have e1 : x.toInt ≠ 1 := fun q => h1 (Int32.toInt_inj.mp (q.trans rfl))
  have e2 : x.toInt ≠ 2 := fun q => h2 (Int32.toInt_inj.mp (q.trans rfl))
  omega
theorem px_out6 {x : Int32} (h0 : ¬ x = 0) (h1 : ¬ x = 1) (h2 : ¬ x = 2) (h3 : ¬ x = 3) (h4 : ¬ x = 4) (h5 : ¬ x = 5) : x.toInt < 0 ∨ 5 < x.toInt := by
  have e0 : x.toInt ≠ 0 := fun q => h0 (Int32.toInt_inj.mp (q.trans rfl))
  have e1 : x.toInt ≠ 1 := fun q => h1 (Int32.toInt_inj.mp (q.trans rfl))
  have e2 : x.toInt ≠ 2 := fun q => h2 (Int32.toInt_inj.mp (q.trans rfl))
  have e3 : x.toInt ≠ 3 := fun q => h3 (Int32.toInt_inj.mp (q.trans rfl))
  have e4 : x.toInt ≠ 4 := fun q => h4 (Int32.toInt_inj.mp (q.trans rfl))
  have e5 : x.toInt ≠ 5 := fun q => h5 (Int32.toInt_inj.mp (q.trans rfl))
  omega
end
section
def px_nw : List Cond := lw_tbl.filter px_nok
theorem px_nwok : ∀ w ∈ px_nw, px_nok w = true := fun w h => (List.mem_filter.mp h).2
theorem cl_SB : px_Cl px_cl px_tw 0 R_SB F_SB 13 t_SB := ⟨by decide +kernel, by decide +kernel, by decide +kernel, rfl⟩
theorem cl_TX : px_Cl px_cl px_tw 1 R_TX F_TX 2 t_TX := ⟨by decide +kernel, by decide +kernel, by decide +kernel, rfl⟩
theorem cl_RR : px_Cl px_cl px_tw 2 R_RR F_RR 6 t_RR := ⟨by decide +kernel, by decide +kernel, by decide +kernel, rfl⟩
theorem cl_RS : px_Cl px_cl px_tw 3 R_RS F_RS 6 t_RS := ⟨by decide +kernel, by decide +kernel, by decide +kernel, rfl⟩
theorem cl_LE : px_Cl px_cl px_tw 4 R_LE F_LE 5 t_LE := ⟨by decide +kernel, by decide +kernel, by decide +kernel, rfl⟩
theorem cl_RO : px_Cl px_cl px_tw 5 R_RO F_RO 6 t_RO := ⟨by decide +kernel, by decide +kernel, by decide +kernel, rfl⟩
theorem cl_LO : px_Cl px_cl px_tw 6 R_LO F_LO 4 t_LO := ⟨by decide +kernel, by decide +kernel, by decide +kernel, rfl⟩
theorem cl_SH : px_Cl px_cl px_tw 7 R_SH F_SH 9 t_SH := ⟨by decide +kernel, by decide +kernel, by decide +kernel, rfl⟩
theorem cl_BL : px_Cl px_cl px_tw 8 R_BL F_BL 6 t_BL := ⟨by decide +kernel, by decide +kernel, by decide +kernel, rfl⟩
theorem cl_NA : px_Cl px_cl px_tw 9 R_NA F_NA 3 t_NA := ⟨by decide +kernel, by decide +kernel, by decide +kernel, rfl⟩
theorem cl_BO : px_Cl px_cl px_tw 10 R_BO F_BO 5 t_BO := ⟨by decide +kernel, by decide +kernel, by decide +kernel, rfl⟩
theorem cl_MO : px_Cl px_cl px_tw 11 R_MO F_MO 42 t_MO := ⟨by decide +kernel, by decide +kernel, by decide +kernel, rfl⟩
theorem n_114 : Cond.fieldLinkNest R_SB 223 R_LE "pairs" "I" R_SB ∈ px_nw := List.mem_filter.mpr ⟨List.mem_append_right _ (List.mem_of_getElem? (i := 114) (by decide +kernel)), by decide +kernel⟩
theorem n_130 : Cond.methodLinkNest R_SB 50 y_RO_init R_SB ∈ px_nw := List.mem_filter.mpr ⟨List.mem_append_right _ (List.mem_of_getElem? (i := 130) (by decide +kernel)), by decide +kernel⟩
theorem n_136 : Cond.fieldLinkNest R_LO 26 R_RO "ends" "[I" R_SB ∈ px_nw := List.mem_filter.mpr ⟨List.mem_append_right _ (List.mem_of_getElem? (i := 136) (by decide +kernel)), by decide +kernel⟩
theorem n_137 : Cond.fieldLinkNest R_BL 55 R_RO "ends" "[I" R_SB ∈ px_nw := List.mem_filter.mpr ⟨List.mem_append_right _ (List.mem_of_getElem? (i := 137) (by decide +kernel)), by decide +kernel⟩
theorem n_141 : Cond.fieldLinkNest R_LO 52 R_RO "least" "[I" R_SB ∈ px_nw := List.mem_filter.mpr ⟨List.mem_append_right _ (List.mem_of_getElem? (i := 141) (by decide +kernel)), by decide +kernel⟩
theorem n_143 : Cond.fieldLinkNest R_BL 52 R_RO "ways" "I" R_SB ∈ px_nw := List.mem_filter.mpr ⟨List.mem_append_right _ (List.mem_of_getElem? (i := 143) (by decide +kernel)), by decide +kernel⟩
theorem n_144 : Cond.fieldLinkNest R_SB 220 R_RO "ways" "I" R_SB ∈ px_nw := List.mem_filter.mpr ⟨List.mem_append_right _ (List.mem_of_getElem? (i := 144) (by decide +kernel)), by decide +kernel⟩
theorem n_194 : Cond.fieldLinkNest R_SB 194 R_SH "fullWidth" "I" R_SB ∈ px_nw := List.mem_filter.mpr ⟨List.mem_append_right _ (List.mem_of_getElem? (i := 194) (by decide +kernel)), by decide +kernel⟩
theorem n_226 : Cond.fieldLinkNest R_SB 226 R_BL "found" "I" R_SB ∈ px_nw := List.mem_filter.mpr ⟨List.mem_append_right _ (List.mem_of_getElem? (i := 226) (by decide +kernel)), by decide +kernel⟩
theorem n_24 : Cond.methodLinkNest R_SB 9 y_TX_init R_SB ∈ px_nw := List.mem_filter.mpr ⟨List.mem_append_right _ (List.mem_of_getElem? (i := 24) (by decide +kernel)), by decide +kernel⟩
theorem n_241 : Cond.methodLinkNest R_SB 86 y_NA_init R_SB ∈ px_nw := List.mem_filter.mpr ⟨List.mem_append_right _ (List.mem_of_getElem? (i := 241) (by decide +kernel)), by decide +kernel⟩
theorem n_246 : Cond.fieldLinkNest R_SH 81 R_NA "signs" "[I" R_SB ∈ px_nw := List.mem_filter.mpr ⟨List.mem_append_right _ (List.mem_of_getElem? (i := 246) (by decide +kernel)), by decide +kernel⟩
theorem n_247 : Cond.fieldLinkNest R_LE 41 R_NA "signs" "[I" R_SB ∈ px_nw := List.mem_filter.mpr ⟨List.mem_append_right _ (List.mem_of_getElem? (i := 247) (by decide +kernel)), by decide +kernel⟩
theorem n_249 : Cond.fieldLinkNest R_LE 32 R_NA "length" "I" R_SB ∈ px_nw := List.mem_filter.mpr ⟨List.mem_append_right _ (List.mem_of_getElem? (i := 249) (by decide +kernel)), by decide +kernel⟩
theorem n_250 : Cond.fieldLinkNest R_SB 204 R_NA "length" "I" R_SB ∈ px_nw := List.mem_filter.mpr ⟨List.mem_append_right _ (List.mem_of_getElem? (i := 250) (by decide +kernel)), by decide +kernel⟩
theorem n_252 : Cond.fieldLinkNest R_BL 33 R_NA "goalNode" "I" R_SB ∈ px_nw := List.mem_filter.mpr ⟨List.mem_append_right _ (List.mem_of_getElem? (i := 252) (by decide +kernel)), by decide +kernel⟩
theorem n_253 : Cond.fieldLinkNest R_LO 47 R_NA "goalNode" "I" R_SB ∈ px_nw := List.mem_filter.mpr ⟨List.mem_append_right _ (List.mem_of_getElem? (i := 253) (by decide +kernel)), by decide +kernel⟩
theorem n_254 : Cond.fieldLinkNest R_SB 145 R_NA "goalNode" "I" R_SB ∈ px_nw := List.mem_filter.mpr ⟨List.mem_append_right _ (List.mem_of_getElem? (i := 254) (by decide +kernel)), by decide +kernel⟩
theorem n_263 : Cond.methodLinkNest R_SB 87 y_BO_init R_SB ∈ px_nw := List.mem_filter.mpr ⟨List.mem_append_right _ (List.mem_of_getElem? (i := 263) (by decide +kernel)), by decide +kernel⟩
theorem n_268 : Cond.fieldLinkNest R_LO 44 R_BO "lineNames" "[I" R_SB ∈ px_nw := List.mem_filter.mpr ⟨List.mem_append_right _ (List.mem_of_getElem? (i := 268) (by decide +kernel)), by decide +kernel⟩
theorem n_269 : Cond.fieldLinkNest R_SH 92 R_BO "lineNames" "[I" R_SB ∈ px_nw := List.mem_filter.mpr ⟨List.mem_append_right _ (List.mem_of_getElem? (i := 269) (by decide +kernel)), by decide +kernel⟩
theorem n_270 : Cond.fieldLinkNest R_SB 180 R_BO "lineNames" "[I" R_SB ∈ px_nw := List.mem_filter.mpr ⟨List.mem_append_right _ (List.mem_of_getElem? (i := 270) (by decide +kernel)), by decide +kernel⟩
theorem n_272 : Cond.fieldLinkNest R_SH 78 R_BO "arrows" "[I" R_SB ∈ px_nw := List.mem_filter.mpr ⟨List.mem_append_right _ (List.mem_of_getElem? (i := 272) (by decide +kernel)), by decide +kernel⟩
theorem n_274 : Cond.fieldLinkNest R_LO 41 R_BO "lines" "I" R_SB ∈ px_nw := List.mem_filter.mpr ⟨List.mem_append_right _ (List.mem_of_getElem? (i := 274) (by decide +kernel)), by decide +kernel⟩
theorem n_275 : Cond.fieldLinkNest R_SH 48 R_BO "lines" "I" R_SB ∈ px_nw := List.mem_filter.mpr ⟨List.mem_append_right _ (List.mem_of_getElem? (i := 275) (by decide +kernel)), by decide +kernel⟩
theorem n_276 : Cond.fieldLinkNest R_SB 201 R_BO "lines" "I" R_SB ∈ px_nw := List.mem_filter.mpr ⟨List.mem_append_right _ (List.mem_of_getElem? (i := 276) (by decide +kernel)), by decide +kernel⟩
theorem n_277 : Cond.fieldLinkNest R_LO 31 R_BO "standsOn" "I" R_SB ∈ px_nw := List.mem_filter.mpr ⟨List.mem_append_right _ (List.mem_of_getElem? (i := 277) (by decide +kernel)), by decide +kernel⟩
theorem n_278 : Cond.fieldLinkNest R_SB 154 R_BO "standsOn" "I" R_SB ∈ px_nw := List.mem_filter.mpr ⟨List.mem_append_right _ (List.mem_of_getElem? (i := 278) (by decide +kernel)), by decide +kernel⟩
theorem n_279 : Cond.fieldLinkNest R_SH 72 R_BO "leastMm" "I" R_SB ∈ px_nw := List.mem_filter.mpr ⟨List.mem_append_right _ (List.mem_of_getElem? (i := 279) (by decide +kernel)), by decide +kernel⟩
theorem n_280 : Cond.fieldLinkNest R_SB 167 R_BO "leastMm" "I" R_SB ∈ px_nw := List.mem_filter.mpr ⟨List.mem_append_right _ (List.mem_of_getElem? (i := 280) (by decide +kernel)), by decide +kernel⟩
theorem n_30 : Cond.fieldLinkNest R_NA 19 R_TX "length" "I" R_SB ∈ px_nw := List.mem_filter.mpr ⟨List.mem_append_right _ (List.mem_of_getElem? (i := 30) (by decide +kernel)), by decide +kernel⟩
theorem n_31 : Cond.fieldLinkNest R_SB 102 R_TX "length" "I" R_SB ∈ px_nw := List.mem_filter.mpr ⟨List.mem_append_right _ (List.mem_of_getElem? (i := 31) (by decide +kernel)), by decide +kernel⟩
theorem n_375 : Cond.methodLinkNest R_RR 84 y_SB_isWithin R_SB ∈ px_nw := List.mem_filter.mpr ⟨List.mem_append_right _ (List.mem_of_getElem? (i := 375) (by decide +kernel)), by decide +kernel⟩
theorem n_480 : Cond.methodLinkNest R_RO 31 y_SB_isWithin R_SB ∈ px_nw := List.mem_filter.mpr ⟨List.mem_append_right _ (List.mem_of_getElem? (i := 480) (by decide +kernel)), by decide +kernel⟩
theorem n_634 : Cond.methodLinkNest R_BL 42 y_SB_isWithin R_SB ∈ px_nw := List.mem_filter.mpr ⟨List.mem_append_right _ (List.mem_of_getElem? (i := 634) (by decide +kernel)), by decide +kernel⟩
theorem n_80 : Cond.fieldLinkNest R_RR 59 R_RS "steps" "I" R_SB ∈ px_nw := List.mem_filter.mpr ⟨List.mem_append_right _ (List.mem_of_getElem? (i := 80) (by decide +kernel)), by decide +kernel⟩
theorem n_82 : Cond.fieldLinkNest R_SH 40 R_RS "margin" "I" R_SB ∈ px_nw := List.mem_filter.mpr ⟨List.mem_append_right _ (List.mem_of_getElem? (i := 82) (by decide +kernel)), by decide +kernel⟩
theorem n_83 : Cond.fieldLinkNest R_RR 70 R_RS "margin" "I" R_SB ∈ px_nw := List.mem_filter.mpr ⟨List.mem_append_right _ (List.mem_of_getElem? (i := 83) (by decide +kernel)), by decide +kernel⟩
theorem n_85 : Cond.fieldLinkNest R_SH 44 R_RS "gap" "I" R_SB ∈ px_nw := List.mem_filter.mpr ⟨List.mem_append_right _ (List.mem_of_getElem? (i := 85) (by decide +kernel)), by decide +kernel⟩
theorem n_86 : Cond.fieldLinkNest R_RR 73 R_RS "gap" "I" R_SB ∈ px_nw := List.mem_filter.mpr ⟨List.mem_append_right _ (List.mem_of_getElem? (i := 86) (by decide +kernel)), by decide +kernel⟩
theorem n_88 : Cond.fieldLinkNest R_RR 76 R_RS "lineOrder" "I" R_SB ∈ px_nw := List.mem_filter.mpr ⟨List.mem_append_right _ (List.mem_of_getElem? (i := 88) (by decide +kernel)), by decide +kernel⟩
theorem n_89 : Cond.fieldLinkNest R_SB 173 R_RS "lineOrder" "I" R_SB ∈ px_nw := List.mem_filter.mpr ⟨List.mem_append_right _ (List.mem_of_getElem? (i := 89) (by decide +kernel)), by decide +kernel⟩
theorem w_1 : Cond.initialized R_SB ∈ px_tw := List.mem_filter.mpr ⟨List.mem_append_right _ (List.mem_of_getElem? (i := 1) (by decide +kernel)), by decide +kernel⟩
theorem w_10 : Cond.initialized R_NA ∈ px_tw := List.mem_filter.mpr ⟨List.mem_append_right _ (List.mem_of_getElem? (i := 10) (by decide +kernel)), by decide +kernel⟩
theorem w_103 : Cond.classLink R_SB 35 R_LE ∈ px_tw := List.mem_filter.mpr ⟨List.mem_append_right _ (List.mem_of_getElem? (i := 103) (by decide +kernel)), by decide +kernel⟩
theorem w_104 : Cond.instantiable R_LE 5 ∈ px_tw := List.mem_filter.mpr ⟨List.mem_append_right _ (List.mem_of_getElem? (i := 104) (by decide +kernel)), by decide +kernel⟩
theorem w_105 : Cond.methodLink R_SB 37 y_LE_init ∈ px_tw := List.mem_filter.mpr ⟨List.mem_append_right _ (List.mem_of_getElem? (i := 105) (by decide +kernel)), by decide +kernel⟩
theorem w_106 : Cond.instanceMethod y_LE_init ∈ px_tw := List.mem_filter.mpr ⟨List.mem_append_right _ (List.mem_of_getElem? (i := 106) (by decide +kernel)), by decide +kernel⟩
theorem w_107 : Cond.code y_LE_init b_LE_init 2 none ∈ px_tw := List.mem_filter.mpr ⟨List.mem_append_right _ (List.mem_of_getElem? (i := 107) (by decide +kernel)), by decide +kernel⟩
theorem w_108 : Cond.methodLink R_LE 3 objectInit ∈ px_tw := List.mem_filter.mpr ⟨List.mem_append_right _ (List.mem_of_getElem? (i := 108) (by decide +kernel)), by decide +kernel⟩
theorem w_109 : Cond.fieldLink R_LE 9 R_LE "widths" "[I" ∈ px_tw := List.mem_filter.mpr ⟨List.mem_append_right _ (List.mem_of_getElem? (i := 109) (by decide +kernel)), by decide +kernel⟩
theorem w_11 : Cond.initialized R_BO ∈ px_tw := List.mem_filter.mpr ⟨List.mem_append_right _ (List.mem_of_getElem? (i := 11) (by decide +kernel)), by decide +kernel⟩
theorem w_110 : Cond.fieldLink R_LE 15 R_LE "firsts" "[I" ∈ px_tw := List.mem_filter.mpr ⟨List.mem_append_right _ (List.mem_of_getElem? (i := 110) (by decide +kernel)), by decide +kernel⟩
theorem w_111 : Cond.fieldLink R_LE 18 R_LE "seconds" "[I" ∈ px_tw := List.mem_filter.mpr ⟨List.mem_append_right _ (List.mem_of_getElem? (i := 111) (by decide +kernel)), by decide +kernel⟩
theorem w_112 : Cond.fieldLink R_LE 21 R_LE "kerns" "[I" ∈ px_tw := List.mem_filter.mpr ⟨List.mem_append_right _ (List.mem_of_getElem? (i := 112) (by decide +kernel)), by decide +kernel⟩
theorem w_113 : Cond.fieldLink R_LE 28 R_LE "pairs" "I" ∈ px_tw := List.mem_filter.mpr ⟨List.mem_append_right _ (List.mem_of_getElem? (i := 113) (by decide +kernel)), by decide +kernel⟩
theorem w_12 : Cond.initialized R_MO ∈ px_tw := List.mem_filter.mpr ⟨List.mem_append_right _ (List.mem_of_getElem? (i := 12) (by decide +kernel)), by decide +kernel⟩
theorem w_126 : Cond.classLink R_SB 42 R_NA ∈ px_tw := List.mem_filter.mpr ⟨List.mem_append_right _ (List.mem_of_getElem? (i := 126) (by decide +kernel)), by decide +kernel⟩
theorem w_128 : Cond.classLink R_SB 48 R_RO ∈ px_tw := List.mem_filter.mpr ⟨List.mem_append_right _ (List.mem_of_getElem? (i := 128) (by decide +kernel)), by decide +kernel⟩
theorem w_129 : Cond.instantiable R_RO 6 ∈ px_tw := List.mem_filter.mpr ⟨List.mem_append_right _ (List.mem_of_getElem? (i := 129) (by decide +kernel)), by decide +kernel⟩
theorem w_13 : Cond.initialized "java/lang/Math" ∈ px_tw := List.mem_filter.mpr ⟨List.mem_append_right _ (List.mem_of_getElem? (i := 13) (by decide +kernel)), by decide +kernel⟩
theorem w_131 : Cond.instanceMethod y_RO_init ∈ px_tw := List.mem_filter.mpr ⟨List.mem_append_right _ (List.mem_of_getElem? (i := 131) (by decide +kernel)), by decide +kernel⟩
theorem w_132 : Cond.code y_RO_init b_RO_init 1 none ∈ px_tw := List.mem_filter.mpr ⟨List.mem_append_right _ (List.mem_of_getElem? (i := 132) (by decide +kernel)), by decide +kernel⟩
theorem w_133 : Cond.methodLink R_RO 3 objectInit ∈ px_tw := List.mem_filter.mpr ⟨List.mem_append_right _ (List.mem_of_getElem? (i := 133) (by decide +kernel)), by decide +kernel⟩
theorem w_134 : Cond.fieldLink R_RO 9 R_RO "starts" "[I" ∈ px_tw := List.mem_filter.mpr ⟨List.mem_append_right _ (List.mem_of_getElem? (i := 134) (by decide +kernel)), by decide +kernel⟩
theorem w_135 : Cond.fieldLink R_RO 15 R_RO "ends" "[I" ∈ px_tw := List.mem_filter.mpr ⟨List.mem_append_right _ (List.mem_of_getElem? (i := 135) (by decide +kernel)), by decide +kernel⟩
theorem w_138 : Cond.fieldLink R_RO 18 R_RO "lengths" "[I" ∈ px_tw := List.mem_filter.mpr ⟨List.mem_append_right _ (List.mem_of_getElem? (i := 138) (by decide +kernel)), by decide +kernel⟩
theorem w_139 : Cond.fieldLink R_RO 21 R_RO "shown" "[I" ∈ px_tw := List.mem_filter.mpr ⟨List.mem_append_right _ (List.mem_of_getElem? (i := 139) (by decide +kernel)), by decide +kernel⟩
theorem w_140 : Cond.fieldLink R_RO 24 R_RO "least" "[I" ∈ px_tw := List.mem_filter.mpr ⟨List.mem_append_right _ (List.mem_of_getElem? (i := 140) (by decide +kernel)), by decide +kernel⟩
theorem w_142 : Cond.fieldLink R_RO 27 R_RO "ways" "I" ∈ px_tw := List.mem_filter.mpr ⟨List.mem_append_right _ (List.mem_of_getElem? (i := 142) (by decide +kernel)), by decide +kernel⟩
theorem w_158 : Cond.classLink R_SB 55 R_BO ∈ px_tw := List.mem_filter.mpr ⟨List.mem_append_right _ (List.mem_of_getElem? (i := 158) (by decide +kernel)), by decide +kernel⟩
theorem w_160 : Cond.classLink R_SB 61 R_LO ∈ px_tw := List.mem_filter.mpr ⟨List.mem_append_right _ (List.mem_of_getElem? (i := 160) (by decide +kernel)), by decide +kernel⟩
theorem w_161 : Cond.instantiable R_LO 4 ∈ px_tw := List.mem_filter.mpr ⟨List.mem_append_right _ (List.mem_of_getElem? (i := 161) (by decide +kernel)), by decide +kernel⟩
theorem w_162 : Cond.methodLink R_SB 63 y_LO_init ∈ px_tw := List.mem_filter.mpr ⟨List.mem_append_right _ (List.mem_of_getElem? (i := 162) (by decide +kernel)), by decide +kernel⟩
theorem w_163 : Cond.instanceMethod y_LO_init ∈ px_tw := List.mem_filter.mpr ⟨List.mem_append_right _ (List.mem_of_getElem? (i := 163) (by decide +kernel)), by decide +kernel⟩
theorem w_164 : Cond.code y_LO_init b_LO_init 3 none ∈ px_tw := List.mem_filter.mpr ⟨List.mem_append_right _ (List.mem_of_getElem? (i := 164) (by decide +kernel)), by decide +kernel⟩
theorem w_165 : Cond.methodLink R_LO 3 objectInit ∈ px_tw := List.mem_filter.mpr ⟨List.mem_append_right _ (List.mem_of_getElem? (i := 165) (by decide +kernel)), by decide +kernel⟩
theorem w_166 : Cond.fieldLink R_LO 18 R_LO "names" "[LSignBoards$Name;" ∈ px_tw := List.mem_filter.mpr ⟨List.mem_append_right _ (List.mem_of_getElem? (i := 166) (by decide +kernel)), by decide +kernel⟩
theorem w_167 : Cond.fieldLink R_LO 22 R_LO "roads" "LSignBoards$Roads;" ∈ px_tw := List.mem_filter.mpr ⟨List.mem_append_right _ (List.mem_of_getElem? (i := 167) (by decide +kernel)), by decide +kernel⟩
theorem w_168 : Cond.fieldLink R_LO 9 R_LO "sorted" "[I" ∈ px_tw := List.mem_filter.mpr ⟨List.mem_append_right _ (List.mem_of_getElem? (i := 168) (by decide +kernel)), by decide +kernel⟩
theorem w_169 : Cond.fieldLink R_LO 15 R_LO "distances" "[I" ∈ px_tw := List.mem_filter.mpr ⟨List.mem_append_right _ (List.mem_of_getElem? (i := 169) (by decide +kernel)), by decide +kernel⟩
theorem w_179 : Cond.classLink R_SB 70 R_SH ∈ px_tw := List.mem_filter.mpr ⟨List.mem_append_right _ (List.mem_of_getElem? (i := 179) (by decide +kernel)), by decide +kernel⟩
theorem w_180 : Cond.instantiable R_SH 9 ∈ px_tw := List.mem_filter.mpr ⟨List.mem_append_right _ (List.mem_of_getElem? (i := 180) (by decide +kernel)), by decide +kernel⟩
theorem w_181 : Cond.methodLink R_SB 72 y_SH_init ∈ px_tw := List.mem_filter.mpr ⟨List.mem_append_right _ (List.mem_of_getElem? (i := 181) (by decide +kernel)), by decide +kernel⟩
theorem w_182 : Cond.instanceMethod y_SH_init ∈ px_tw := List.mem_filter.mpr ⟨List.mem_append_right _ (List.mem_of_getElem? (i := 182) (by decide +kernel)), by decide +kernel⟩
theorem w_183 : Cond.code y_SH_init b_SH_init 3 none ∈ px_tw := List.mem_filter.mpr ⟨List.mem_append_right _ (List.mem_of_getElem? (i := 183) (by decide +kernel)), by decide +kernel⟩
theorem w_184 : Cond.methodLink R_SH 3 objectInit ∈ px_tw := List.mem_filter.mpr ⟨List.mem_append_right _ (List.mem_of_getElem? (i := 184) (by decide +kernel)), by decide +kernel⟩
theorem w_185 : Cond.fieldLink R_SH 15 R_SH "names" "[LSignBoards$Name;" ∈ px_tw := List.mem_filter.mpr ⟨List.mem_append_right _ (List.mem_of_getElem? (i := 185) (by decide +kernel)), by decide +kernel⟩
theorem w_186 : Cond.fieldLink R_SH 19 R_SH "letters" "LSignBoards$Letters;" ∈ px_tw := List.mem_filter.mpr ⟨List.mem_append_right _ (List.mem_of_getElem? (i := 186) (by decide +kernel)), by decide +kernel⟩
theorem w_187 : Cond.fieldLink R_SH 9 R_SH "fields" "[I" ∈ px_tw := List.mem_filter.mpr ⟨List.mem_append_right _ (List.mem_of_getElem? (i := 187) (by decide +kernel)), by decide +kernel⟩
theorem w_188 : Cond.fieldLink R_SH 23 R_SH "board" "LSignBoards$Board;" ∈ px_tw := List.mem_filter.mpr ⟨List.mem_append_right _ (List.mem_of_getElem? (i := 188) (by decide +kernel)), by decide +kernel⟩
theorem w_189 : Cond.fieldLink R_SH 33 R_SH "mm" "I" ∈ px_tw := List.mem_filter.mpr ⟨List.mem_append_right _ (List.mem_of_getElem? (i := 189) (by decide +kernel)), by decide +kernel⟩
theorem w_19 : Cond.methodLink R_SB 1 objectInit ∈ px_tw := List.mem_filter.mpr ⟨List.mem_append_right _ (List.mem_of_getElem? (i := 19) (by decide +kernel)), by decide +kernel⟩
theorem w_190 : Cond.fieldLink R_SH 37 R_SH "high" "I" ∈ px_tw := List.mem_filter.mpr ⟨List.mem_append_right _ (List.mem_of_getElem? (i := 190) (by decide +kernel)), by decide +kernel⟩
theorem w_191 : Cond.fieldLink R_SH 43 R_SH "margin" "I" ∈ px_tw := List.mem_filter.mpr ⟨List.mem_append_right _ (List.mem_of_getElem? (i := 191) (by decide +kernel)), by decide +kernel⟩
theorem w_192 : Cond.fieldLink R_SH 47 R_SH "gap" "I" ∈ px_tw := List.mem_filter.mpr ⟨List.mem_append_right _ (List.mem_of_getElem? (i := 192) (by decide +kernel)), by decide +kernel⟩
theorem w_193 : Cond.fieldLink R_SH 75 R_SH "fullWidth" "I" ∈ px_tw := List.mem_filter.mpr ⟨List.mem_append_right _ (List.mem_of_getElem? (i := 193) (by decide +kernel)), by decide +kernel⟩
theorem w_2 : Cond.initialized R_TX ∈ px_tw := List.mem_filter.mpr ⟨List.mem_append_right _ (List.mem_of_getElem? (i := 2) (by decide +kernel)), by decide +kernel⟩
theorem w_20 : Cond.instanceMethod objectInit ∈ px_tw := List.mem_filter.mpr ⟨List.mem_append_right _ (List.mem_of_getElem? (i := 20) (by decide +kernel)), by decide +kernel⟩
theorem w_21 : Cond.code objectInit ⟨#[0xb1]⟩ 1 none ∈ px_tw := List.mem_filter.mpr ⟨List.mem_append_right _ (List.mem_of_getElem? (i := 21) (by decide +kernel)), by decide +kernel⟩
theorem w_214 : Cond.classLink R_SB 79 R_BL ∈ px_tw := List.mem_filter.mpr ⟨List.mem_append_right _ (List.mem_of_getElem? (i := 214) (by decide +kernel)), by decide +kernel⟩
theorem w_215 : Cond.instantiable R_BL 6 ∈ px_tw := List.mem_filter.mpr ⟨List.mem_append_right _ (List.mem_of_getElem? (i := 215) (by decide +kernel)), by decide +kernel⟩
theorem w_216 : Cond.methodLink R_SB 81 y_BL_init ∈ px_tw := List.mem_filter.mpr ⟨List.mem_append_right _ (List.mem_of_getElem? (i := 216) (by decide +kernel)), by decide +kernel⟩
theorem w_217 : Cond.instanceMethod y_BL_init ∈ px_tw := List.mem_filter.mpr ⟨List.mem_append_right _ (List.mem_of_getElem? (i := 217) (by decide +kernel)), by decide +kernel⟩
theorem w_218 : Cond.code y_BL_init b_BL_init 3 none ∈ px_tw := List.mem_filter.mpr ⟨List.mem_append_right _ (List.mem_of_getElem? (i := 218) (by decide +kernel)), by decide +kernel⟩
theorem w_219 : Cond.methodLink R_BL 3 objectInit ∈ px_tw := List.mem_filter.mpr ⟨List.mem_append_right _ (List.mem_of_getElem? (i := 219) (by decide +kernel)), by decide +kernel⟩
theorem w_22 : Cond.classLink R_SB 7 R_TX ∈ px_tw := List.mem_filter.mpr ⟨List.mem_append_right _ (List.mem_of_getElem? (i := 22) (by decide +kernel)), by decide +kernel⟩
theorem w_220 : Cond.fieldLink R_BL 21 R_BL "names" "[LSignBoards$Name;" ∈ px_tw := List.mem_filter.mpr ⟨List.mem_append_right _ (List.mem_of_getElem? (i := 220) (by decide +kernel)), by decide +kernel⟩
theorem w_221 : Cond.fieldLink R_BL 25 R_BL "roads" "LSignBoards$Roads;" ∈ px_tw := List.mem_filter.mpr ⟨List.mem_append_right _ (List.mem_of_getElem? (i := 221) (by decide +kernel)), by decide +kernel⟩
theorem w_222 : Cond.fieldLink R_BL 11 R_BL "brokenNames" "[I" ∈ px_tw := List.mem_filter.mpr ⟨List.mem_append_right _ (List.mem_of_getElem? (i := 222) (by decide +kernel)), by decide +kernel⟩
theorem w_223 : Cond.fieldLink R_BL 15 R_BL "brokenWays" "[I" ∈ px_tw := List.mem_filter.mpr ⟨List.mem_append_right _ (List.mem_of_getElem? (i := 223) (by decide +kernel)), by decide +kernel⟩
theorem w_224 : Cond.fieldLink R_BL 18 R_BL "kinds" "[I" ∈ px_tw := List.mem_filter.mpr ⟨List.mem_append_right _ (List.mem_of_getElem? (i := 224) (by decide +kernel)), by decide +kernel⟩
theorem w_225 : Cond.fieldLink R_BL 29 R_BL "found" "I" ∈ px_tw := List.mem_filter.mpr ⟨List.mem_append_right _ (List.mem_of_getElem? (i := 225) (by decide +kernel)), by decide +kernel⟩
theorem w_23 : Cond.instantiable R_TX 2 ∈ px_tw := List.mem_filter.mpr ⟨List.mem_append_right _ (List.mem_of_getElem? (i := 23) (by decide +kernel)), by decide +kernel⟩
theorem w_240 : Cond.instantiable R_NA 3 ∈ px_tw := List.mem_filter.mpr ⟨List.mem_append_right _ (List.mem_of_getElem? (i := 240) (by decide +kernel)), by decide +kernel⟩
theorem w_242 : Cond.instanceMethod y_NA_init ∈ px_tw := List.mem_filter.mpr ⟨List.mem_append_right _ (List.mem_of_getElem? (i := 242) (by decide +kernel)), by decide +kernel⟩
theorem w_243 : Cond.code y_NA_init b_NA_init 1 none ∈ px_tw := List.mem_filter.mpr ⟨List.mem_append_right _ (List.mem_of_getElem? (i := 243) (by decide +kernel)), by decide +kernel⟩
theorem w_244 : Cond.methodLink R_NA 3 objectInit ∈ px_tw := List.mem_filter.mpr ⟨List.mem_append_right _ (List.mem_of_getElem? (i := 244) (by decide +kernel)), by decide +kernel⟩
theorem w_245 : Cond.fieldLink R_NA 9 R_NA "signs" "[I" ∈ px_tw := List.mem_filter.mpr ⟨List.mem_append_right _ (List.mem_of_getElem? (i := 245) (by decide +kernel)), by decide +kernel⟩
theorem w_248 : Cond.fieldLink R_NA 24 R_NA "length" "I" ∈ px_tw := List.mem_filter.mpr ⟨List.mem_append_right _ (List.mem_of_getElem? (i := 248) (by decide +kernel)), by decide +kernel⟩
theorem w_25 : Cond.instanceMethod y_TX_init ∈ px_tw := List.mem_filter.mpr ⟨List.mem_append_right _ (List.mem_of_getElem? (i := 25) (by decide +kernel)), by decide +kernel⟩
theorem w_251 : Cond.fieldLink R_NA 15 R_NA "goalNode" "I" ∈ px_tw := List.mem_filter.mpr ⟨List.mem_append_right _ (List.mem_of_getElem? (i := 251) (by decide +kernel)), by decide +kernel⟩
theorem w_26 : Cond.code y_TX_init b_TX_init 1 none ∈ px_tw := List.mem_filter.mpr ⟨List.mem_append_right _ (List.mem_of_getElem? (i := 26) (by decide +kernel)), by decide +kernel⟩
theorem w_262 : Cond.instantiable R_BO 5 ∈ px_tw := List.mem_filter.mpr ⟨List.mem_append_right _ (List.mem_of_getElem? (i := 262) (by decide +kernel)), by decide +kernel⟩
theorem w_264 : Cond.instanceMethod y_BO_init ∈ px_tw := List.mem_filter.mpr ⟨List.mem_append_right _ (List.mem_of_getElem? (i := 264) (by decide +kernel)), by decide +kernel⟩
theorem w_265 : Cond.code y_BO_init b_BO_init 1 none ∈ px_tw := List.mem_filter.mpr ⟨List.mem_append_right _ (List.mem_of_getElem? (i := 265) (by decide +kernel)), by decide +kernel⟩
theorem w_266 : Cond.methodLink R_BO 3 objectInit ∈ px_tw := List.mem_filter.mpr ⟨List.mem_append_right _ (List.mem_of_getElem? (i := 266) (by decide +kernel)), by decide +kernel⟩
theorem w_267 : Cond.fieldLink R_BO 9 R_BO "lineNames" "[I" ∈ px_tw := List.mem_filter.mpr ⟨List.mem_append_right _ (List.mem_of_getElem? (i := 267) (by decide +kernel)), by decide +kernel⟩
theorem w_27 : Cond.methodLink R_TX 3 objectInit ∈ px_tw := List.mem_filter.mpr ⟨List.mem_append_right _ (List.mem_of_getElem? (i := 27) (by decide +kernel)), by decide +kernel⟩
theorem w_271 : Cond.fieldLink R_BO 15 R_BO "arrows" "[I" ∈ px_tw := List.mem_filter.mpr ⟨List.mem_append_right _ (List.mem_of_getElem? (i := 271) (by decide +kernel)), by decide +kernel⟩
theorem w_273 : Cond.fieldLink R_BO 18 R_BO "lines" "I" ∈ px_tw := List.mem_filter.mpr ⟨List.mem_append_right _ (List.mem_of_getElem? (i := 273) (by decide +kernel)), by decide +kernel⟩
theorem w_28 : Cond.fieldLink R_TX 9 R_TX "signs" "[I" ∈ px_tw := List.mem_filter.mpr ⟨List.mem_append_right _ (List.mem_of_getElem? (i := 28) (by decide +kernel)), by decide +kernel⟩
theorem w_29 : Cond.fieldLink R_TX 15 R_TX "length" "I" ∈ px_tw := List.mem_filter.mpr ⟨List.mem_append_right _ (List.mem_of_getElem? (i := 29) (by decide +kernel)), by decide +kernel⟩
theorem w_292 : Cond.fieldLink R_SB 10 R_SB "text" "LSignBoards$Text;" ∈ px_tw := List.mem_filter.mpr ⟨List.mem_append_right _ (List.mem_of_getElem? (i := 292) (by decide +kernel)), by decide +kernel⟩
theorem w_293 : Cond.fieldLink R_SB 21 R_SB "reader" "LSignBoards$RuleReader;" ∈ px_tw := List.mem_filter.mpr ⟨List.mem_append_right _ (List.mem_of_getElem? (i := 293) (by decide +kernel)), by decide +kernel⟩
theorem w_294 : Cond.fieldLink R_SB 28 R_SB "inForce" "LSignBoards$RuleSet;" ∈ px_tw := List.mem_filter.mpr ⟨List.mem_append_right _ (List.mem_of_getElem? (i := 294) (by decide +kernel)), by decide +kernel⟩
theorem w_295 : Cond.fieldLink R_SB 32 R_SB "draft" "LSignBoards$RuleSet;" ∈ px_tw := List.mem_filter.mpr ⟨List.mem_append_right _ (List.mem_of_getElem? (i := 295) (by decide +kernel)), by decide +kernel⟩
theorem w_296 : Cond.fieldLink R_SB 38 R_SB "letters" "LSignBoards$Letters;" ∈ px_tw := List.mem_filter.mpr ⟨List.mem_append_right _ (List.mem_of_getElem? (i := 296) (by decide +kernel)), by decide +kernel⟩
theorem w_297 : Cond.fieldLink R_SB 44 R_SB "names" "[LSignBoards$Name;" ∈ px_tw := List.mem_filter.mpr ⟨List.mem_append_right _ (List.mem_of_getElem? (i := 297) (by decide +kernel)), by decide +kernel⟩
theorem w_298 : Cond.fieldLink R_SB 106 R_SB "nameCount" "I" ∈ px_tw := List.mem_filter.mpr ⟨List.mem_append_right _ (List.mem_of_getElem? (i := 298) (by decide +kernel)), by decide +kernel⟩
theorem w_299 : Cond.fieldLink R_SB 51 R_SB "roads" "LSignBoards$Roads;" ∈ px_tw := List.mem_filter.mpr ⟨List.mem_append_right _ (List.mem_of_getElem? (i := 299) (by decide +kernel)), by decide +kernel⟩
theorem w_3 : Cond.initialized R_RR ∈ px_tw := List.mem_filter.mpr ⟨List.mem_append_right _ (List.mem_of_getElem? (i := 3) (by decide +kernel)), by decide +kernel⟩
theorem w_300 : Cond.fieldLink R_SB 57 R_SB "boards" "[LSignBoards$Board;" ∈ px_tw := List.mem_filter.mpr ⟨List.mem_append_right _ (List.mem_of_getElem? (i := 300) (by decide +kernel)), by decide +kernel⟩
theorem w_301 : Cond.fieldLink R_SB 151 R_SB "boardCount" "I" ∈ px_tw := List.mem_filter.mpr ⟨List.mem_append_right _ (List.mem_of_getElem? (i := 301) (by decide +kernel)), by decide +kernel⟩
theorem w_302 : Cond.fieldLink R_SB 66 R_SB "order" "LSignBoards$LineOrder;" ∈ px_tw := List.mem_filter.mpr ⟨List.mem_append_right _ (List.mem_of_getElem? (i := 302) (by decide +kernel)), by decide +kernel⟩
theorem w_303 : Cond.fieldLink R_SB 75 R_SB "sheet" "LSignBoards$Sheet;" ∈ px_tw := List.mem_filter.mpr ⟨List.mem_append_right _ (List.mem_of_getElem? (i := 303) (by decide +kernel)), by decide +kernel⟩
theorem w_304 : Cond.fieldLink R_SB 82 R_SB "breakList" "LSignBoards$BreakList;" ∈ px_tw := List.mem_filter.mpr ⟨List.mem_append_right _ (List.mem_of_getElem? (i := 304) (by decide +kernel)), by decide +kernel⟩
theorem w_336 : Cond.methodLink R_SB 88 y_SB_isLetter ∈ px_tw := List.mem_filter.mpr ⟨List.mem_append_right _ (List.mem_of_getElem? (i := 336) (by decide +kernel)), by decide +kernel⟩
theorem w_337 : Cond.static y_SB_isLetter ∈ px_tw := List.mem_filter.mpr ⟨List.mem_append_right _ (List.mem_of_getElem? (i := 337) (by decide +kernel)), by decide +kernel⟩
theorem w_338 : Cond.code y_SB_isLetter b_SB_isLetter 1 (some .boolean) ∈ px_tw := List.mem_filter.mpr ⟨List.mem_append_right _ (List.mem_of_getElem? (i := 338) (by decide +kernel)), by decide +kernel⟩
theorem w_339 : Cond.methodLink R_SB 112 y_SB_isWithin ∈ px_tw := List.mem_filter.mpr ⟨List.mem_append_right _ (List.mem_of_getElem? (i := 339) (by decide +kernel)), by decide +kernel⟩
theorem w_340 : Cond.static y_SB_isWithin ∈ px_tw := List.mem_filter.mpr ⟨List.mem_append_right _ (List.mem_of_getElem? (i := 340) (by decide +kernel)), by decide +kernel⟩
theorem w_341 : Cond.code y_SB_isWithin b_SB_isWithin 3 (some .boolean) ∈ px_tw := List.mem_filter.mpr ⟨List.mem_append_right _ (List.mem_of_getElem? (i := 341) (by decide +kernel)), by decide +kernel⟩
theorem w_342 : Cond.methodLink R_SB 92 y_TX_add ∈ px_tw := List.mem_filter.mpr ⟨List.mem_append_right _ (List.mem_of_getElem? (i := 342) (by decide +kernel)), by decide +kernel⟩
theorem w_343 : Cond.instanceMethod y_TX_add ∈ px_tw := List.mem_filter.mpr ⟨List.mem_append_right _ (List.mem_of_getElem? (i := 343) (by decide +kernel)), by decide +kernel⟩
theorem w_344 : Cond.selects R_TX y_TX_add y_TX_add ∈ px_tw := List.mem_filter.mpr ⟨List.mem_append_right _ (List.mem_of_getElem? (i := 344) (by decide +kernel)), by decide +kernel⟩
theorem w_345 : Cond.code y_TX_add b_TX_add 2 (some .boolean) ∈ px_tw := List.mem_filter.mpr ⟨List.mem_append_right _ (List.mem_of_getElem? (i := 345) (by decide +kernel)), by decide +kernel⟩
theorem w_350 : Cond.methodLink R_SB 95 y_RR_read ∈ px_tw := List.mem_filter.mpr ⟨List.mem_append_right _ (List.mem_of_getElem? (i := 350) (by decide +kernel)), by decide +kernel⟩
theorem w_351 : Cond.instanceMethod y_RR_read ∈ px_tw := List.mem_filter.mpr ⟨List.mem_append_right _ (List.mem_of_getElem? (i := 351) (by decide +kernel)), by decide +kernel⟩
theorem w_352 : Cond.selects R_RR y_RR_read y_RR_read ∈ px_tw := List.mem_filter.mpr ⟨List.mem_append_right _ (List.mem_of_getElem? (i := 352) (by decide +kernel)), by decide +kernel⟩
theorem w_353 : Cond.code y_RR_read b_RR_read 3 (some .int) ∈ px_tw := List.mem_filter.mpr ⟨List.mem_append_right _ (List.mem_of_getElem? (i := 353) (by decide +kernel)), by decide +kernel⟩
theorem w_354 : Cond.methodLink R_RR 19 y_RS_setAsAtFirst ∈ px_tw := List.mem_filter.mpr ⟨List.mem_append_right _ (List.mem_of_getElem? (i := 354) (by decide +kernel)), by decide +kernel⟩
theorem w_355 : Cond.methodLink R_RR 38 y_RR_readRule ∈ px_tw := List.mem_filter.mpr ⟨List.mem_append_right _ (List.mem_of_getElem? (i := 355) (by decide +kernel)), by decide +kernel⟩
theorem w_357 : Cond.instanceMethod y_RR_readRule ∈ px_tw := List.mem_filter.mpr ⟨List.mem_append_right _ (List.mem_of_getElem? (i := 357) (by decide +kernel)), by decide +kernel⟩
theorem w_358 : Cond.code y_RR_readRule b_RR_readRule 1 (some .boolean) ∈ px_tw := List.mem_filter.mpr ⟨List.mem_append_right _ (List.mem_of_getElem? (i := 358) (by decide +kernel)), by decide +kernel⟩
theorem w_359 : Cond.methodLink R_RR 42 y_RR_nextSign ∈ px_tw := List.mem_filter.mpr ⟨List.mem_append_right _ (List.mem_of_getElem? (i := 359) (by decide +kernel)), by decide +kernel⟩
theorem w_361 : Cond.instanceMethod y_RR_nextSign ∈ px_tw := List.mem_filter.mpr ⟨List.mem_append_right _ (List.mem_of_getElem? (i := 361) (by decide +kernel)), by decide +kernel⟩
theorem w_362 : Cond.code y_RR_nextSign b_RR_nextSign 1 (some .int) ∈ px_tw := List.mem_filter.mpr ⟨List.mem_append_right _ (List.mem_of_getElem? (i := 362) (by decide +kernel)), by decide +kernel⟩
theorem w_363 : Cond.methodLink R_RR 79 y_TX_signAt ∈ px_tw := List.mem_filter.mpr ⟨List.mem_append_right _ (List.mem_of_getElem? (i := 363) (by decide +kernel)), by decide +kernel⟩
theorem w_364 : Cond.instanceMethod y_TX_signAt ∈ px_tw := List.mem_filter.mpr ⟨List.mem_append_right _ (List.mem_of_getElem? (i := 364) (by decide +kernel)), by decide +kernel⟩
theorem w_365 : Cond.selects R_TX y_TX_signAt y_TX_signAt ∈ px_tw := List.mem_filter.mpr ⟨List.mem_append_right _ (List.mem_of_getElem? (i := 365) (by decide +kernel)), by decide +kernel⟩
theorem w_366 : Cond.code y_TX_signAt b_TX_signAt 2 (some .int) ∈ px_tw := List.mem_filter.mpr ⟨List.mem_append_right _ (List.mem_of_getElem? (i := 366) (by decide +kernel)), by decide +kernel⟩
theorem w_367 : Cond.methodLink R_RR 50 y_RR_readHeights ∈ px_tw := List.mem_filter.mpr ⟨List.mem_append_right _ (List.mem_of_getElem? (i := 367) (by decide +kernel)), by decide +kernel⟩
theorem w_369 : Cond.instanceMethod y_RR_readHeights ∈ px_tw := List.mem_filter.mpr ⟨List.mem_append_right _ (List.mem_of_getElem? (i := 369) (by decide +kernel)), by decide +kernel⟩
theorem w_37 : Cond.arrayClass .int ∈ px_tw := List.mem_filter.mpr ⟨List.mem_append_right _ (List.mem_of_getElem? (i := 37) (by decide +kernel)), by decide +kernel⟩
theorem w_370 : Cond.code y_RR_readHeights b_RR_readHeights 4 (some .boolean) ∈ px_tw := List.mem_filter.mpr ⟨List.mem_append_right _ (List.mem_of_getElem? (i := 370) (by decide +kernel)), by decide +kernel⟩
theorem w_371 : Cond.methodLink R_RR 62 y_RR_readNumber ∈ px_tw := List.mem_filter.mpr ⟨List.mem_append_right _ (List.mem_of_getElem? (i := 371) (by decide +kernel)), by decide +kernel⟩
theorem w_373 : Cond.instanceMethod y_RR_readNumber ∈ px_tw := List.mem_filter.mpr ⟨List.mem_append_right _ (List.mem_of_getElem? (i := 373) (by decide +kernel)), by decide +kernel⟩
theorem w_374 : Cond.code y_RR_readNumber b_RR_readNumber 7 (some .int) ∈ px_tw := List.mem_filter.mpr ⟨List.mem_append_right _ (List.mem_of_getElem? (i := 374) (by decide +kernel)), by decide +kernel⟩
theorem w_376 : Cond.methodLink R_RR 88 Lib.Math.min.name ∈ px_tw := List.mem_filter.mpr ⟨List.mem_append_right _ (List.mem_of_getElem? (i := 376) (by decide +kernel)), by decide +kernel⟩
theorem w_377 : Cond.static Lib.Math.min.name ∈ px_tw := List.mem_filter.mpr ⟨List.mem_append_right _ (List.mem_of_getElem? (i := 377) (by decide +kernel)), by decide +kernel⟩
theorem w_378 : Cond.code Lib.Math.min.name Lib.Math.min.code 2 (some .int) ∈ px_tw := List.mem_filter.mpr ⟨List.mem_append_right _ (List.mem_of_getElem? (i := 378) (by decide +kernel)), by decide +kernel⟩
theorem w_379 : Cond.methodLink R_RR 66 y_RS_addStep ∈ px_tw := List.mem_filter.mpr ⟨List.mem_append_right _ (List.mem_of_getElem? (i := 379) (by decide +kernel)), by decide +kernel⟩
theorem w_38 : Cond.classLink R_SB 16 R_RR ∈ px_tw := List.mem_filter.mpr ⟨List.mem_append_right _ (List.mem_of_getElem? (i := 38) (by decide +kernel)), by decide +kernel⟩
theorem w_380 : Cond.methodLink R_RR 46 y_RR_pass ∈ px_tw := List.mem_filter.mpr ⟨List.mem_append_right _ (List.mem_of_getElem? (i := 380) (by decide +kernel)), by decide +kernel⟩
theorem w_382 : Cond.instanceMethod y_RR_pass ∈ px_tw := List.mem_filter.mpr ⟨List.mem_append_right _ (List.mem_of_getElem? (i := 382) (by decide +kernel)), by decide +kernel⟩
theorem w_383 : Cond.code y_RR_pass b_RR_pass 2 (some .boolean) ∈ px_tw := List.mem_filter.mpr ⟨List.mem_append_right _ (List.mem_of_getElem? (i := 383) (by decide +kernel)), by decide +kernel⟩
theorem w_384 : Cond.methodLink R_RR 53 y_RR_readMargin ∈ px_tw := List.mem_filter.mpr ⟨List.mem_append_right _ (List.mem_of_getElem? (i := 384) (by decide +kernel)), by decide +kernel⟩
theorem w_386 : Cond.instanceMethod y_RR_readMargin ∈ px_tw := List.mem_filter.mpr ⟨List.mem_append_right _ (List.mem_of_getElem? (i := 386) (by decide +kernel)), by decide +kernel⟩
theorem w_387 : Cond.code y_RR_readMargin b_RR_readMargin 3 (some .boolean) ∈ px_tw := List.mem_filter.mpr ⟨List.mem_append_right _ (List.mem_of_getElem? (i := 387) (by decide +kernel)), by decide +kernel⟩
theorem w_388 : Cond.methodLink R_RR 56 y_RR_readOrder ∈ px_tw := List.mem_filter.mpr ⟨List.mem_append_right _ (List.mem_of_getElem? (i := 388) (by decide +kernel)), by decide +kernel⟩
theorem w_39 : Cond.instantiable R_RR 6 ∈ px_tw := List.mem_filter.mpr ⟨List.mem_append_right _ (List.mem_of_getElem? (i := 39) (by decide +kernel)), by decide +kernel⟩
theorem w_390 : Cond.instanceMethod y_RR_readOrder ∈ px_tw := List.mem_filter.mpr ⟨List.mem_append_right _ (List.mem_of_getElem? (i := 390) (by decide +kernel)), by decide +kernel⟩
theorem w_391 : Cond.code y_RR_readOrder b_RR_readOrder 2 (some .boolean) ∈ px_tw := List.mem_filter.mpr ⟨List.mem_append_right _ (List.mem_of_getElem? (i := 391) (by decide +kernel)), by decide +kernel⟩
theorem w_392 : Cond.methodLink R_SB 99 y_TX_clear ∈ px_tw := List.mem_filter.mpr ⟨List.mem_append_right _ (List.mem_of_getElem? (i := 392) (by decide +kernel)), by decide +kernel⟩
theorem w_393 : Cond.instanceMethod y_TX_clear ∈ px_tw := List.mem_filter.mpr ⟨List.mem_append_right _ (List.mem_of_getElem? (i := 393) (by decide +kernel)), by decide +kernel⟩
theorem w_394 : Cond.selects R_TX y_TX_clear y_TX_clear ∈ px_tw := List.mem_filter.mpr ⟨List.mem_append_right _ (List.mem_of_getElem? (i := 394) (by decide +kernel)), by decide +kernel⟩
theorem w_395 : Cond.code y_TX_clear b_TX_clear 1 none ∈ px_tw := List.mem_filter.mpr ⟨List.mem_append_right _ (List.mem_of_getElem? (i := 395) (by decide +kernel)), by decide +kernel⟩
theorem w_4 : Cond.initialized R_RS ∈ px_tw := List.mem_filter.mpr ⟨List.mem_append_right _ (List.mem_of_getElem? (i := 4) (by decide +kernel)), by decide +kernel⟩
theorem w_40 : Cond.methodLink R_SB 18 y_RR_init ∈ px_tw := List.mem_filter.mpr ⟨List.mem_append_right _ (List.mem_of_getElem? (i := 40) (by decide +kernel)), by decide +kernel⟩
theorem w_400 : Cond.methodLink R_SB 109 y_NA_take ∈ px_tw := List.mem_filter.mpr ⟨List.mem_append_right _ (List.mem_of_getElem? (i := 400) (by decide +kernel)), by decide +kernel⟩
theorem w_401 : Cond.instanceMethod y_NA_take ∈ px_tw := List.mem_filter.mpr ⟨List.mem_append_right _ (List.mem_of_getElem? (i := 401) (by decide +kernel)), by decide +kernel⟩
theorem w_402 : Cond.selects R_NA y_NA_take y_NA_take ∈ px_tw := List.mem_filter.mpr ⟨List.mem_append_right _ (List.mem_of_getElem? (i := 402) (by decide +kernel)), by decide +kernel⟩
theorem w_403 : Cond.code y_NA_take b_NA_take 3 none ∈ px_tw := List.mem_filter.mpr ⟨List.mem_append_right _ (List.mem_of_getElem? (i := 403) (by decide +kernel)), by decide +kernel⟩
theorem w_404 : Cond.methodLink R_NA 25 y_TX_signAt ∈ px_tw := List.mem_filter.mpr ⟨List.mem_append_right _ (List.mem_of_getElem? (i := 404) (by decide +kernel)), by decide +kernel⟩
theorem w_409 : Cond.methodLink R_SB 116 y_LE_setWidth ∈ px_tw := List.mem_filter.mpr ⟨List.mem_append_right _ (List.mem_of_getElem? (i := 409) (by decide +kernel)), by decide +kernel⟩
theorem w_41 : Cond.instanceMethod y_RR_init ∈ px_tw := List.mem_filter.mpr ⟨List.mem_append_right _ (List.mem_of_getElem? (i := 41) (by decide +kernel)), by decide +kernel⟩
theorem w_410 : Cond.instanceMethod y_LE_setWidth ∈ px_tw := List.mem_filter.mpr ⟨List.mem_append_right _ (List.mem_of_getElem? (i := 410) (by decide +kernel)), by decide +kernel⟩
theorem w_411 : Cond.selects R_LE y_LE_setWidth y_LE_setWidth ∈ px_tw := List.mem_filter.mpr ⟨List.mem_append_right _ (List.mem_of_getElem? (i := 411) (by decide +kernel)), by decide +kernel⟩
theorem w_412 : Cond.code y_LE_setWidth b_LE_setWidth 3 none ∈ px_tw := List.mem_filter.mpr ⟨List.mem_append_right _ (List.mem_of_getElem? (i := 412) (by decide +kernel)), by decide +kernel⟩
theorem w_417 : Cond.methodLink R_SB 120 y_LE_setKern ∈ px_tw := List.mem_filter.mpr ⟨List.mem_append_right _ (List.mem_of_getElem? (i := 417) (by decide +kernel)), by decide +kernel⟩
theorem w_418 : Cond.instanceMethod y_LE_setKern ∈ px_tw := List.mem_filter.mpr ⟨List.mem_append_right _ (List.mem_of_getElem? (i := 418) (by decide +kernel)), by decide +kernel⟩
theorem w_419 : Cond.selects R_LE y_LE_setKern y_LE_setKern ∈ px_tw := List.mem_filter.mpr ⟨List.mem_append_right _ (List.mem_of_getElem? (i := 419) (by decide +kernel)), by decide +kernel⟩
theorem w_42 : Cond.code y_RR_init b_RR_init 2 none ∈ px_tw := List.mem_filter.mpr ⟨List.mem_append_right _ (List.mem_of_getElem? (i := 42) (by decide +kernel)), by decide +kernel⟩
theorem w_420 : Cond.code y_LE_setKern b_LE_setKern 5 (some .boolean) ∈ px_tw := List.mem_filter.mpr ⟨List.mem_append_right _ (List.mem_of_getElem? (i := 420) (by decide +kernel)), by decide +kernel⟩
theorem w_421 : Cond.methodLink R_LE 24 y_LE_pairOf ∈ px_tw := List.mem_filter.mpr ⟨List.mem_append_right _ (List.mem_of_getElem? (i := 421) (by decide +kernel)), by decide +kernel⟩
theorem w_423 : Cond.instanceMethod y_LE_pairOf ∈ px_tw := List.mem_filter.mpr ⟨List.mem_append_right _ (List.mem_of_getElem? (i := 423) (by decide +kernel)), by decide +kernel⟩
theorem w_424 : Cond.code y_LE_pairOf b_LE_pairOf 4 (some .int) ∈ px_tw := List.mem_filter.mpr ⟨List.mem_append_right _ (List.mem_of_getElem? (i := 424) (by decide +kernel)), by decide +kernel⟩
theorem w_429 : Cond.methodLink R_SB 123 y_SB_isSpeed ∈ px_tw := List.mem_filter.mpr ⟨List.mem_append_right _ (List.mem_of_getElem? (i := 429) (by decide +kernel)), by decide +kernel⟩
theorem w_43 : Cond.methodLink R_RR 3 objectInit ∈ px_tw := List.mem_filter.mpr ⟨List.mem_append_right _ (List.mem_of_getElem? (i := 43) (by decide +kernel)), by decide +kernel⟩
theorem w_430 : Cond.static y_SB_isSpeed ∈ px_tw := List.mem_filter.mpr ⟨List.mem_append_right _ (List.mem_of_getElem? (i := 430) (by decide +kernel)), by decide +kernel⟩
theorem w_431 : Cond.code y_SB_isSpeed b_SB_isSpeed 1 (some .boolean) ∈ px_tw := List.mem_filter.mpr ⟨List.mem_append_right _ (List.mem_of_getElem? (i := 431) (by decide +kernel)), by decide +kernel⟩
theorem w_432 : Cond.methodLink R_SB 126 y_RS_heightAt ∈ px_tw := List.mem_filter.mpr ⟨List.mem_append_right _ (List.mem_of_getElem? (i := 432) (by decide +kernel)), by decide +kernel⟩
theorem w_433 : Cond.instanceMethod y_RS_heightAt ∈ px_tw := List.mem_filter.mpr ⟨List.mem_append_right _ (List.mem_of_getElem? (i := 433) (by decide +kernel)), by decide +kernel⟩
theorem w_434 : Cond.selects R_RS y_RS_heightAt y_RS_heightAt ∈ px_tw := List.mem_filter.mpr ⟨List.mem_append_right _ (List.mem_of_getElem? (i := 434) (by decide +kernel)), by decide +kernel⟩
theorem w_435 : Cond.code y_RS_heightAt b_RS_heightAt 4 (some .int) ∈ px_tw := List.mem_filter.mpr ⟨List.mem_append_right _ (List.mem_of_getElem? (i := 435) (by decide +kernel)), by decide +kernel⟩
theorem w_44 : Cond.fieldLink R_RR 9 R_RR "text" "LSignBoards$Text;" ∈ px_tw := List.mem_filter.mpr ⟨List.mem_append_right _ (List.mem_of_getElem? (i := 44) (by decide +kernel)), by decide +kernel⟩
theorem w_440 : Cond.methodLink R_SB 130 y_SB_isName ∈ px_tw := List.mem_filter.mpr ⟨List.mem_append_right _ (List.mem_of_getElem? (i := 440) (by decide +kernel)), by decide +kernel⟩
theorem w_442 : Cond.instanceMethod y_SB_isName ∈ px_tw := List.mem_filter.mpr ⟨List.mem_append_right _ (List.mem_of_getElem? (i := 442) (by decide +kernel)), by decide +kernel⟩
theorem w_443 : Cond.code y_SB_isName b_SB_isName 2 (some .boolean) ∈ px_tw := List.mem_filter.mpr ⟨List.mem_append_right _ (List.mem_of_getElem? (i := 443) (by decide +kernel)), by decide +kernel⟩
theorem w_444 : Cond.methodLink R_SB 133 y_LE_fieldOf ∈ px_tw := List.mem_filter.mpr ⟨List.mem_append_right _ (List.mem_of_getElem? (i := 444) (by decide +kernel)), by decide +kernel⟩
theorem w_445 : Cond.instanceMethod y_LE_fieldOf ∈ px_tw := List.mem_filter.mpr ⟨List.mem_append_right _ (List.mem_of_getElem? (i := 445) (by decide +kernel)), by decide +kernel⟩
theorem w_446 : Cond.selects R_LE y_LE_fieldOf y_LE_fieldOf ∈ px_tw := List.mem_filter.mpr ⟨List.mem_append_right _ (List.mem_of_getElem? (i := 446) (by decide +kernel)), by decide +kernel⟩
theorem w_447 : Cond.code y_LE_fieldOf b_LE_fieldOf 2 (some .int) ∈ px_tw := List.mem_filter.mpr ⟨List.mem_append_right _ (List.mem_of_getElem? (i := 447) (by decide +kernel)), by decide +kernel⟩
theorem w_448 : Cond.methodLink R_LE 37 y_LE_startOf ∈ px_tw := List.mem_filter.mpr ⟨List.mem_append_right _ (List.mem_of_getElem? (i := 448) (by decide +kernel)), by decide +kernel⟩
theorem w_449 : Cond.instanceMethod y_LE_startOf ∈ px_tw := List.mem_filter.mpr ⟨List.mem_append_right _ (List.mem_of_getElem? (i := 449) (by decide +kernel)), by decide +kernel⟩
theorem w_45 : Cond.fieldLink R_RR 15 R_RR "target" "LSignBoards$RuleSet;" ∈ px_tw := List.mem_filter.mpr ⟨List.mem_append_right _ (List.mem_of_getElem? (i := 45) (by decide +kernel)), by decide +kernel⟩
theorem w_450 : Cond.selects R_LE y_LE_startOf y_LE_startOf ∈ px_tw := List.mem_filter.mpr ⟨List.mem_append_right _ (List.mem_of_getElem? (i := 450) (by decide +kernel)), by decide +kernel⟩
theorem w_451 : Cond.code y_LE_startOf b_LE_startOf 5 (some .int) ∈ px_tw := List.mem_filter.mpr ⟨List.mem_append_right _ (List.mem_of_getElem? (i := 451) (by decide +kernel)), by decide +kernel⟩
theorem w_452 : Cond.methodLink R_LE 44 y_LE_kernOf ∈ px_tw := List.mem_filter.mpr ⟨List.mem_append_right _ (List.mem_of_getElem? (i := 452) (by decide +kernel)), by decide +kernel⟩
theorem w_454 : Cond.instanceMethod y_LE_kernOf ∈ px_tw := List.mem_filter.mpr ⟨List.mem_append_right _ (List.mem_of_getElem? (i := 454) (by decide +kernel)), by decide +kernel⟩
theorem w_455 : Cond.code y_LE_kernOf b_LE_kernOf 4 (some .int) ∈ px_tw := List.mem_filter.mpr ⟨List.mem_append_right _ (List.mem_of_getElem? (i := 455) (by decide +kernel)), by decide +kernel⟩
theorem w_46 : Cond.fieldLink R_RR 24 R_RR "place" "I" ∈ px_tw := List.mem_filter.mpr ⟨List.mem_append_right _ (List.mem_of_getElem? (i := 46) (by decide +kernel)), by decide +kernel⟩
theorem w_460 : Cond.methodLink R_SB 137 y_SB_isNode ∈ px_tw := List.mem_filter.mpr ⟨List.mem_append_right _ (List.mem_of_getElem? (i := 460) (by decide +kernel)), by decide +kernel⟩
theorem w_461 : Cond.static y_SB_isNode ∈ px_tw := List.mem_filter.mpr ⟨List.mem_append_right _ (List.mem_of_getElem? (i := 461) (by decide +kernel)), by decide +kernel⟩
theorem w_462 : Cond.code y_SB_isNode b_SB_isNode 1 (some .boolean) ∈ px_tw := List.mem_filter.mpr ⟨List.mem_append_right _ (List.mem_of_getElem? (i := 462) (by decide +kernel)), by decide +kernel⟩
theorem w_463 : Cond.constant R_SB 140 100000 ∈ px_tw := List.mem_filter.mpr ⟨List.mem_append_right _ (List.mem_of_getElem? (i := 463) (by decide +kernel)), by decide +kernel⟩
theorem w_464 : Cond.methodLink R_SB 141 y_RO_addWay ∈ px_tw := List.mem_filter.mpr ⟨List.mem_append_right _ (List.mem_of_getElem? (i := 464) (by decide +kernel)), by decide +kernel⟩
theorem w_465 : Cond.instanceMethod y_RO_addWay ∈ px_tw := List.mem_filter.mpr ⟨List.mem_append_right _ (List.mem_of_getElem? (i := 465) (by decide +kernel)), by decide +kernel⟩
theorem w_466 : Cond.selects R_RO y_RO_addWay y_RO_addWay ∈ px_tw := List.mem_filter.mpr ⟨List.mem_append_right _ (List.mem_of_getElem? (i := 466) (by decide +kernel)), by decide +kernel⟩
theorem w_467 : Cond.code y_RO_addWay b_RO_addWay 5 (some .int) ∈ px_tw := List.mem_filter.mpr ⟨List.mem_append_right _ (List.mem_of_getElem? (i := 467) (by decide +kernel)), by decide +kernel⟩
theorem w_47 : Cond.fieldLink R_RR 28 R_RR "heightsRead" "Z" ∈ px_tw := List.mem_filter.mpr ⟨List.mem_append_right _ (List.mem_of_getElem? (i := 47) (by decide +kernel)), by decide +kernel⟩
theorem w_476 : Cond.methodLink R_SB 148 y_RO_isWay ∈ px_tw := List.mem_filter.mpr ⟨List.mem_append_right _ (List.mem_of_getElem? (i := 476) (by decide +kernel)), by decide +kernel⟩
theorem w_477 : Cond.instanceMethod y_RO_isWay ∈ px_tw := List.mem_filter.mpr ⟨List.mem_append_right _ (List.mem_of_getElem? (i := 477) (by decide +kernel)), by decide +kernel⟩
theorem w_478 : Cond.selects R_RO y_RO_isWay y_RO_isWay ∈ px_tw := List.mem_filter.mpr ⟨List.mem_append_right _ (List.mem_of_getElem? (i := 478) (by decide +kernel)), by decide +kernel⟩
theorem w_479 : Cond.code y_RO_isWay b_RO_isWay 2 (some .boolean) ∈ px_tw := List.mem_filter.mpr ⟨List.mem_append_right _ (List.mem_of_getElem? (i := 479) (by decide +kernel)), by decide +kernel⟩
theorem w_48 : Cond.fieldLink R_RR 32 R_RR "marginRead" "Z" ∈ px_tw := List.mem_filter.mpr ⟨List.mem_append_right _ (List.mem_of_getElem? (i := 48) (by decide +kernel)), by decide +kernel⟩
theorem w_485 : Cond.methodLink R_SB 157 y_SB_isBoard ∈ px_tw := List.mem_filter.mpr ⟨List.mem_append_right _ (List.mem_of_getElem? (i := 485) (by decide +kernel)), by decide +kernel⟩
theorem w_487 : Cond.instanceMethod y_SB_isBoard ∈ px_tw := List.mem_filter.mpr ⟨List.mem_append_right _ (List.mem_of_getElem? (i := 487) (by decide +kernel)), by decide +kernel⟩
theorem w_488 : Cond.code y_SB_isBoard b_SB_isBoard 2 (some .boolean) ∈ px_tw := List.mem_filter.mpr ⟨List.mem_append_right _ (List.mem_of_getElem? (i := 488) (by decide +kernel)), by decide +kernel⟩
theorem w_489 : Cond.methodLink R_SB 160 y_BO_addLine ∈ px_tw := List.mem_filter.mpr ⟨List.mem_append_right _ (List.mem_of_getElem? (i := 489) (by decide +kernel)), by decide +kernel⟩
theorem w_49 : Cond.fieldLink R_RR 35 R_RR "orderRead" "Z" ∈ px_tw := List.mem_filter.mpr ⟨List.mem_append_right _ (List.mem_of_getElem? (i := 49) (by decide +kernel)), by decide +kernel⟩
theorem w_490 : Cond.instanceMethod y_BO_addLine ∈ px_tw := List.mem_filter.mpr ⟨List.mem_append_right _ (List.mem_of_getElem? (i := 490) (by decide +kernel)), by decide +kernel⟩
theorem w_491 : Cond.selects R_BO y_BO_addLine y_BO_addLine ∈ px_tw := List.mem_filter.mpr ⟨List.mem_append_right _ (List.mem_of_getElem? (i := 491) (by decide +kernel)), by decide +kernel⟩
theorem w_492 : Cond.code y_BO_addLine b_BO_addLine 3 (some .boolean) ∈ px_tw := List.mem_filter.mpr ⟨List.mem_append_right _ (List.mem_of_getElem? (i := 492) (by decide +kernel)), by decide +kernel⟩
theorem w_493 : Cond.methodLink R_BO 22 y_BO_has ∈ px_tw := List.mem_filter.mpr ⟨List.mem_append_right _ (List.mem_of_getElem? (i := 493) (by decide +kernel)), by decide +kernel⟩
theorem w_495 : Cond.instanceMethod y_BO_has ∈ px_tw := List.mem_filter.mpr ⟨List.mem_append_right _ (List.mem_of_getElem? (i := 495) (by decide +kernel)), by decide +kernel⟩
theorem w_496 : Cond.code y_BO_has b_BO_has 3 (some .boolean) ∈ px_tw := List.mem_filter.mpr ⟨List.mem_append_right _ (List.mem_of_getElem? (i := 496) (by decide +kernel)), by decide +kernel⟩
theorem w_497 : Cond.methodLink R_SB 164 y_RO_show ∈ px_tw := List.mem_filter.mpr ⟨List.mem_append_right _ (List.mem_of_getElem? (i := 497) (by decide +kernel)), by decide +kernel⟩
theorem w_498 : Cond.instanceMethod y_RO_show ∈ px_tw := List.mem_filter.mpr ⟨List.mem_append_right _ (List.mem_of_getElem? (i := 498) (by decide +kernel)), by decide +kernel⟩
theorem w_499 : Cond.selects R_RO y_RO_show y_RO_show ∈ px_tw := List.mem_filter.mpr ⟨List.mem_append_right _ (List.mem_of_getElem? (i := 499) (by decide +kernel)), by decide +kernel⟩
theorem w_5 : Cond.initialized R_LE ∈ px_tw := List.mem_filter.mpr ⟨List.mem_append_right _ (List.mem_of_getElem? (i := 5) (by decide +kernel)), by decide +kernel⟩
theorem w_500 : Cond.code y_RO_show b_RO_show 3 none ∈ px_tw := List.mem_filter.mpr ⟨List.mem_append_right _ (List.mem_of_getElem? (i := 500) (by decide +kernel)), by decide +kernel⟩
theorem w_509 : Cond.methodLink R_SB 170 y_SB_isLine ∈ px_tw := List.mem_filter.mpr ⟨List.mem_append_right _ (List.mem_of_getElem? (i := 509) (by decide +kernel)), by decide +kernel⟩
theorem w_511 : Cond.instanceMethod y_SB_isLine ∈ px_tw := List.mem_filter.mpr ⟨List.mem_append_right _ (List.mem_of_getElem? (i := 511) (by decide +kernel)), by decide +kernel⟩
theorem w_512 : Cond.code y_SB_isLine b_SB_isLine 3 (some .boolean) ∈ px_tw := List.mem_filter.mpr ⟨List.mem_append_right _ (List.mem_of_getElem? (i := 512) (by decide +kernel)), by decide +kernel⟩
theorem w_513 : Cond.methodLink R_SB 176 y_LO_arrange ∈ px_tw := List.mem_filter.mpr ⟨List.mem_append_right _ (List.mem_of_getElem? (i := 513) (by decide +kernel)), by decide +kernel⟩
theorem w_514 : Cond.instanceMethod y_LO_arrange ∈ px_tw := List.mem_filter.mpr ⟨List.mem_append_right _ (List.mem_of_getElem? (i := 514) (by decide +kernel)), by decide +kernel⟩
theorem w_515 : Cond.selects R_LO y_LO_arrange y_LO_arrange ∈ px_tw := List.mem_filter.mpr ⟨List.mem_append_right _ (List.mem_of_getElem? (i := 515) (by decide +kernel)), by decide +kernel⟩
theorem w_516 : Cond.code y_LO_arrange b_LO_arrange 5 none ∈ px_tw := List.mem_filter.mpr ⟨List.mem_append_right _ (List.mem_of_getElem? (i := 516) (by decide +kernel)), by decide +kernel⟩
theorem w_517 : Cond.methodLink R_LO 37 y_RO_measureFrom ∈ px_tw := List.mem_filter.mpr ⟨List.mem_append_right _ (List.mem_of_getElem? (i := 517) (by decide +kernel)), by decide +kernel⟩
theorem w_518 : Cond.instanceMethod y_RO_measureFrom ∈ px_tw := List.mem_filter.mpr ⟨List.mem_append_right _ (List.mem_of_getElem? (i := 518) (by decide +kernel)), by decide +kernel⟩
theorem w_519 : Cond.selects R_RO y_RO_measureFrom y_RO_measureFrom ∈ px_tw := List.mem_filter.mpr ⟨List.mem_append_right _ (List.mem_of_getElem? (i := 519) (by decide +kernel)), by decide +kernel⟩
theorem w_520 : Cond.code y_RO_measureFrom b_RO_measureFrom 5 none ∈ px_tw := List.mem_filter.mpr ⟨List.mem_append_right _ (List.mem_of_getElem? (i := 520) (by decide +kernel)), by decide +kernel⟩
theorem w_521 : Cond.methodLink R_RO 35 y_RO_shortenBy ∈ px_tw := List.mem_filter.mpr ⟨List.mem_append_right _ (List.mem_of_getElem? (i := 521) (by decide +kernel)), by decide +kernel⟩
theorem w_523 : Cond.instanceMethod y_RO_shortenBy ∈ px_tw := List.mem_filter.mpr ⟨List.mem_append_right _ (List.mem_of_getElem? (i := 523) (by decide +kernel)), by decide +kernel⟩
theorem w_524 : Cond.code y_RO_shortenBy b_RO_shortenBy 5 (some .boolean) ∈ px_tw := List.mem_filter.mpr ⟨List.mem_append_right _ (List.mem_of_getElem? (i := 524) (by decide +kernel)), by decide +kernel⟩
theorem w_525 : Cond.methodLink R_LO 55 y_LO_insert ∈ px_tw := List.mem_filter.mpr ⟨List.mem_append_right _ (List.mem_of_getElem? (i := 525) (by decide +kernel)), by decide +kernel⟩
theorem w_527 : Cond.instanceMethod y_LO_insert ∈ px_tw := List.mem_filter.mpr ⟨List.mem_append_right _ (List.mem_of_getElem? (i := 527) (by decide +kernel)), by decide +kernel⟩
theorem w_528 : Cond.code y_LO_insert b_LO_insert 5 none ∈ px_tw := List.mem_filter.mpr ⟨List.mem_append_right _ (List.mem_of_getElem? (i := 528) (by decide +kernel)), by decide +kernel⟩
theorem w_529 : Cond.methodLink R_LO 59 y_LO_goesBefore ∈ px_tw := List.mem_filter.mpr ⟨List.mem_append_right _ (List.mem_of_getElem? (i := 529) (by decide +kernel)), by decide +kernel⟩
theorem w_531 : Cond.instanceMethod y_LO_goesBefore ∈ px_tw := List.mem_filter.mpr ⟨List.mem_append_right _ (List.mem_of_getElem? (i := 531) (by decide +kernel)), by decide +kernel⟩
theorem w_532 : Cond.code y_LO_goesBefore b_LO_goesBefore 7 (some .boolean) ∈ px_tw := List.mem_filter.mpr ⟨List.mem_append_right _ (List.mem_of_getElem? (i := 532) (by decide +kernel)), by decide +kernel⟩
theorem w_533 : Cond.methodLink R_LO 63 y_NA_isBeforeByLetters ∈ px_tw := List.mem_filter.mpr ⟨List.mem_append_right _ (List.mem_of_getElem? (i := 533) (by decide +kernel)), by decide +kernel⟩
theorem w_534 : Cond.instanceMethod y_NA_isBeforeByLetters ∈ px_tw := List.mem_filter.mpr ⟨List.mem_append_right _ (List.mem_of_getElem? (i := 534) (by decide +kernel)), by decide +kernel⟩
theorem w_535 : Cond.selects R_NA y_NA_isBeforeByLetters y_NA_isBeforeByLetters ∈ px_tw := List.mem_filter.mpr ⟨List.mem_append_right _ (List.mem_of_getElem? (i := 535) (by decide +kernel)), by decide +kernel⟩
theorem w_536 : Cond.code y_NA_isBeforeByLetters b_NA_isBeforeByLetters 4 (some .boolean) ∈ px_tw := List.mem_filter.mpr ⟨List.mem_append_right _ (List.mem_of_getElem? (i := 536) (by decide +kernel)), by decide +kernel⟩
theorem w_537 : Cond.methodLink R_NA 29 Lib.Math.min.name ∈ px_tw := List.mem_filter.mpr ⟨List.mem_append_right _ (List.mem_of_getElem? (i := 537) (by decide +kernel)), by decide +kernel⟩
theorem w_538 : Cond.methodLink R_SB 184 y_LO_lineAt ∈ px_tw := List.mem_filter.mpr ⟨List.mem_append_right _ (List.mem_of_getElem? (i := 538) (by decide +kernel)), by decide +kernel⟩
theorem w_539 : Cond.instanceMethod y_LO_lineAt ∈ px_tw := List.mem_filter.mpr ⟨List.mem_append_right _ (List.mem_of_getElem? (i := 539) (by decide +kernel)), by decide +kernel⟩
theorem w_540 : Cond.selects R_LO y_LO_lineAt y_LO_lineAt ∈ px_tw := List.mem_filter.mpr ⟨List.mem_append_right _ (List.mem_of_getElem? (i := 540) (by decide +kernel)), by decide +kernel⟩
theorem w_541 : Cond.code y_LO_lineAt b_LO_lineAt 2 (some .int) ∈ px_tw := List.mem_filter.mpr ⟨List.mem_append_right _ (List.mem_of_getElem? (i := 541) (by decide +kernel)), by decide +kernel⟩
theorem w_546 : Cond.methodLink R_SB 187 y_LO_distanceAt ∈ px_tw := List.mem_filter.mpr ⟨List.mem_append_right _ (List.mem_of_getElem? (i := 546) (by decide +kernel)), by decide +kernel⟩
theorem w_547 : Cond.instanceMethod y_LO_distanceAt ∈ px_tw := List.mem_filter.mpr ⟨List.mem_append_right _ (List.mem_of_getElem? (i := 547) (by decide +kernel)), by decide +kernel⟩
theorem w_548 : Cond.selects R_LO y_LO_distanceAt y_LO_distanceAt ∈ px_tw := List.mem_filter.mpr ⟨List.mem_append_right _ (List.mem_of_getElem? (i := 548) (by decide +kernel)), by decide +kernel⟩
theorem w_549 : Cond.code y_LO_distanceAt b_LO_distanceAt 2 (some .int) ∈ px_tw := List.mem_filter.mpr ⟨List.mem_append_right _ (List.mem_of_getElem? (i := 549) (by decide +kernel)), by decide +kernel⟩
theorem w_554 : Cond.methodLink R_SB 190 y_SH_lay ∈ px_tw := List.mem_filter.mpr ⟨List.mem_append_right _ (List.mem_of_getElem? (i := 554) (by decide +kernel)), by decide +kernel⟩
theorem w_555 : Cond.instanceMethod y_SH_lay ∈ px_tw := List.mem_filter.mpr ⟨List.mem_append_right _ (List.mem_of_getElem? (i := 555) (by decide +kernel)), by decide +kernel⟩
theorem w_556 : Cond.selects R_SH y_SH_lay y_SH_lay ∈ px_tw := List.mem_filter.mpr ⟨List.mem_append_right _ (List.mem_of_getElem? (i := 556) (by decide +kernel)), by decide +kernel⟩
theorem w_557 : Cond.code y_SH_lay b_SH_lay 6 none ∈ px_tw := List.mem_filter.mpr ⟨List.mem_append_right _ (List.mem_of_getElem? (i := 557) (by decide +kernel)), by decide +kernel⟩
theorem w_558 : Cond.methodLink R_SH 27 y_RS_heightAt ∈ px_tw := List.mem_filter.mpr ⟨List.mem_append_right _ (List.mem_of_getElem? (i := 558) (by decide +kernel)), by decide +kernel⟩
theorem w_559 : Cond.methodLink R_SH 53 y_SH_nameOf ∈ px_tw := List.mem_filter.mpr ⟨List.mem_append_right _ (List.mem_of_getElem? (i := 559) (by decide +kernel)), by decide +kernel⟩
theorem w_561 : Cond.instanceMethod y_SH_nameOf ∈ px_tw := List.mem_filter.mpr ⟨List.mem_append_right _ (List.mem_of_getElem? (i := 561) (by decide +kernel)), by decide +kernel⟩
theorem w_562 : Cond.code y_SH_nameOf b_SH_nameOf 2 (some (.object "SignBoards$Name")) ∈ px_tw := List.mem_filter.mpr ⟨List.mem_append_right _ (List.mem_of_getElem? (i := 562) (by decide +kernel)), by decide +kernel⟩
theorem w_563 : Cond.methodLink R_SH 57 y_LE_fieldOf ∈ px_tw := List.mem_filter.mpr ⟨List.mem_append_right _ (List.mem_of_getElem? (i := 563) (by decide +kernel)), by decide +kernel⟩
theorem w_564 : Cond.methodLink R_SH 63 y_SH_lineWidth ∈ px_tw := List.mem_filter.mpr ⟨List.mem_append_right _ (List.mem_of_getElem? (i := 564) (by decide +kernel)), by decide +kernel⟩
theorem w_566 : Cond.instanceMethod y_SH_lineWidth ∈ px_tw := List.mem_filter.mpr ⟨List.mem_append_right _ (List.mem_of_getElem? (i := 566) (by decide +kernel)), by decide +kernel⟩
theorem w_567 : Cond.code y_SH_lineWidth b_SH_lineWidth 2 (some .int) ∈ px_tw := List.mem_filter.mpr ⟨List.mem_append_right _ (List.mem_of_getElem? (i := 567) (by decide +kernel)), by decide +kernel⟩
theorem w_568 : Cond.methodLink R_SH 66 Lib.Math.max.name ∈ px_tw := List.mem_filter.mpr ⟨List.mem_append_right _ (List.mem_of_getElem? (i := 568) (by decide +kernel)), by decide +kernel⟩
theorem w_569 : Cond.static Lib.Math.max.name ∈ px_tw := List.mem_filter.mpr ⟨List.mem_append_right _ (List.mem_of_getElem? (i := 569) (by decide +kernel)), by decide +kernel⟩
theorem w_570 : Cond.code Lib.Math.max.name Lib.Math.max.code 2 (some .int) ∈ px_tw := List.mem_filter.mpr ⟨List.mem_append_right _ (List.mem_of_getElem? (i := 570) (by decide +kernel)), by decide +kernel⟩
theorem w_571 : Cond.methodLink R_SB 197 y_SH_fullHeight ∈ px_tw := List.mem_filter.mpr ⟨List.mem_append_right _ (List.mem_of_getElem? (i := 571) (by decide +kernel)), by decide +kernel⟩
theorem w_572 : Cond.instanceMethod y_SH_fullHeight ∈ px_tw := List.mem_filter.mpr ⟨List.mem_append_right _ (List.mem_of_getElem? (i := 572) (by decide +kernel)), by decide +kernel⟩
theorem w_573 : Cond.selects R_SH y_SH_fullHeight y_SH_fullHeight ∈ px_tw := List.mem_filter.mpr ⟨List.mem_append_right _ (List.mem_of_getElem? (i := 573) (by decide +kernel)), by decide +kernel⟩
theorem w_574 : Cond.code y_SH_fullHeight b_SH_fullHeight 2 (some .int) ∈ px_tw := List.mem_filter.mpr ⟨List.mem_append_right _ (List.mem_of_getElem? (i := 574) (by decide +kernel)), by decide +kernel⟩
theorem w_579 : Cond.methodLink R_SB 205 y_SH_itemOf ∈ px_tw := List.mem_filter.mpr ⟨List.mem_append_right _ (List.mem_of_getElem? (i := 579) (by decide +kernel)), by decide +kernel⟩
theorem w_580 : Cond.instanceMethod y_SH_itemOf ∈ px_tw := List.mem_filter.mpr ⟨List.mem_append_right _ (List.mem_of_getElem? (i := 580) (by decide +kernel)), by decide +kernel⟩
theorem w_581 : Cond.selects R_SH y_SH_itemOf y_SH_itemOf ∈ px_tw := List.mem_filter.mpr ⟨List.mem_append_right _ (List.mem_of_getElem? (i := 581) (by decide +kernel)), by decide +kernel⟩
theorem w_582 : Cond.code y_SH_itemOf b_SH_itemOf 5 (some .int) ∈ px_tw := List.mem_filter.mpr ⟨List.mem_append_right _ (List.mem_of_getElem? (i := 582) (by decide +kernel)), by decide +kernel⟩
theorem w_583 : Cond.methodLink R_SH 86 y_SH_arrowLeft ∈ px_tw := List.mem_filter.mpr ⟨List.mem_append_right _ (List.mem_of_getElem? (i := 583) (by decide +kernel)), by decide +kernel⟩
theorem w_585 : Cond.instanceMethod y_SH_arrowLeft ∈ px_tw := List.mem_filter.mpr ⟨List.mem_append_right _ (List.mem_of_getElem? (i := 585) (by decide +kernel)), by decide +kernel⟩
theorem w_586 : Cond.code y_SH_arrowLeft b_SH_arrowLeft 3 (some .int) ∈ px_tw := List.mem_filter.mpr ⟨List.mem_append_right _ (List.mem_of_getElem? (i := 586) (by decide +kernel)), by decide +kernel⟩
theorem w_587 : Cond.methodLink R_SH 95 y_SH_lineLeft ∈ px_tw := List.mem_filter.mpr ⟨List.mem_append_right _ (List.mem_of_getElem? (i := 587) (by decide +kernel)), by decide +kernel⟩
theorem w_589 : Cond.instanceMethod y_SH_lineLeft ∈ px_tw := List.mem_filter.mpr ⟨List.mem_append_right _ (List.mem_of_getElem? (i := 589) (by decide +kernel)), by decide +kernel⟩
theorem w_590 : Cond.code y_SH_lineLeft b_SH_lineLeft 3 (some .int) ∈ px_tw := List.mem_filter.mpr ⟨List.mem_append_right _ (List.mem_of_getElem? (i := 590) (by decide +kernel)), by decide +kernel⟩
theorem w_591 : Cond.methodLink R_SH 89 y_SH_letterLeft ∈ px_tw := List.mem_filter.mpr ⟨List.mem_append_right _ (List.mem_of_getElem? (i := 591) (by decide +kernel)), by decide +kernel⟩
theorem w_593 : Cond.instanceMethod y_SH_letterLeft ∈ px_tw := List.mem_filter.mpr ⟨List.mem_append_right _ (List.mem_of_getElem? (i := 593) (by decide +kernel)), by decide +kernel⟩
theorem w_594 : Cond.code y_SH_letterLeft b_SH_letterLeft 4 (some .int) ∈ px_tw := List.mem_filter.mpr ⟨List.mem_append_right _ (List.mem_of_getElem? (i := 594) (by decide +kernel)), by decide +kernel⟩
theorem w_595 : Cond.methodLink R_SH 98 y_LE_startOf ∈ px_tw := List.mem_filter.mpr ⟨List.mem_append_right _ (List.mem_of_getElem? (i := 595) (by decide +kernel)), by decide +kernel⟩
theorem w_6 : Cond.initialized R_RO ∈ px_tw := List.mem_filter.mpr ⟨List.mem_append_right _ (List.mem_of_getElem? (i := 6) (by decide +kernel)), by decide +kernel⟩
theorem w_600 : Cond.methodLink R_SB 209 y_RO_isShown ∈ px_tw := List.mem_filter.mpr ⟨List.mem_append_right _ (List.mem_of_getElem? (i := 600) (by decide +kernel)), by decide +kernel⟩
theorem w_601 : Cond.instanceMethod y_RO_isShown ∈ px_tw := List.mem_filter.mpr ⟨List.mem_append_right _ (List.mem_of_getElem? (i := 601) (by decide +kernel)), by decide +kernel⟩
theorem w_602 : Cond.selects R_RO y_RO_isShown y_RO_isShown ∈ px_tw := List.mem_filter.mpr ⟨List.mem_append_right _ (List.mem_of_getElem? (i := 602) (by decide +kernel)), by decide +kernel⟩
theorem w_603 : Cond.code y_RO_isShown b_RO_isShown 3 (some .boolean) ∈ px_tw := List.mem_filter.mpr ⟨List.mem_append_right _ (List.mem_of_getElem? (i := 603) (by decide +kernel)), by decide +kernel⟩
theorem w_608 : Cond.methodLink R_SB 212 y_BL_gather ∈ px_tw := List.mem_filter.mpr ⟨List.mem_append_right _ (List.mem_of_getElem? (i := 608) (by decide +kernel)), by decide +kernel⟩
theorem w_609 : Cond.instanceMethod y_BL_gather ∈ px_tw := List.mem_filter.mpr ⟨List.mem_append_right _ (List.mem_of_getElem? (i := 609) (by decide +kernel)), by decide +kernel⟩
theorem w_610 : Cond.selects R_BL y_BL_gather y_BL_gather ∈ px_tw := List.mem_filter.mpr ⟨List.mem_append_right _ (List.mem_of_getElem? (i := 610) (by decide +kernel)), by decide +kernel⟩
theorem w_611 : Cond.code y_BL_gather b_BL_gather 3 none ∈ px_tw := List.mem_filter.mpr ⟨List.mem_append_right _ (List.mem_of_getElem? (i := 611) (by decide +kernel)), by decide +kernel⟩
theorem w_612 : Cond.methodLink R_BL 38 y_BL_gatherOf ∈ px_tw := List.mem_filter.mpr ⟨List.mem_append_right _ (List.mem_of_getElem? (i := 612) (by decide +kernel)), by decide +kernel⟩
theorem w_614 : Cond.instanceMethod y_BL_gatherOf ∈ px_tw := List.mem_filter.mpr ⟨List.mem_append_right _ (List.mem_of_getElem? (i := 614) (by decide +kernel)), by decide +kernel⟩
theorem w_615 : Cond.code y_BL_gatherOf b_BL_gatherOf 6 none ∈ px_tw := List.mem_filter.mpr ⟨List.mem_append_right _ (List.mem_of_getElem? (i := 615) (by decide +kernel)), by decide +kernel⟩
theorem w_616 : Cond.methodLink R_BL 46 y_RO_nodesLedTo ∈ px_tw := List.mem_filter.mpr ⟨List.mem_append_right _ (List.mem_of_getElem? (i := 616) (by decide +kernel)), by decide +kernel⟩
theorem w_617 : Cond.instanceMethod y_RO_nodesLedTo ∈ px_tw := List.mem_filter.mpr ⟨List.mem_append_right _ (List.mem_of_getElem? (i := 617) (by decide +kernel)), by decide +kernel⟩
theorem w_618 : Cond.selects R_RO y_RO_nodesLedTo y_RO_nodesLedTo ∈ px_tw := List.mem_filter.mpr ⟨List.mem_append_right _ (List.mem_of_getElem? (i := 618) (by decide +kernel)), by decide +kernel⟩
theorem w_619 : Cond.code y_RO_nodesLedTo b_RO_nodesLedTo 7 (some .int) ∈ px_tw := List.mem_filter.mpr ⟨List.mem_append_right _ (List.mem_of_getElem? (i := 619) (by decide +kernel)), by decide +kernel⟩
theorem w_620 : Cond.methodLink R_RO 39 y_RO_isShown ∈ px_tw := List.mem_filter.mpr ⟨List.mem_append_right _ (List.mem_of_getElem? (i := 620) (by decide +kernel)), by decide +kernel⟩
theorem w_621 : Cond.methodLink R_BL 58 y_RO_isShown ∈ px_tw := List.mem_filter.mpr ⟨List.mem_append_right _ (List.mem_of_getElem? (i := 621) (by decide +kernel)), by decide +kernel⟩
theorem w_622 : Cond.methodLink R_BL 62 y_RO_isShownFrom ∈ px_tw := List.mem_filter.mpr ⟨List.mem_append_right _ (List.mem_of_getElem? (i := 622) (by decide +kernel)), by decide +kernel⟩
theorem w_623 : Cond.instanceMethod y_RO_isShownFrom ∈ px_tw := List.mem_filter.mpr ⟨List.mem_append_right _ (List.mem_of_getElem? (i := 623) (by decide +kernel)), by decide +kernel⟩
theorem w_624 : Cond.selects R_RO y_RO_isShownFrom y_RO_isShownFrom ∈ px_tw := List.mem_filter.mpr ⟨List.mem_append_right _ (List.mem_of_getElem? (i := 624) (by decide +kernel)), by decide +kernel⟩
theorem w_625 : Cond.code y_RO_isShownFrom b_RO_isShownFrom 4 (some .boolean) ∈ px_tw := List.mem_filter.mpr ⟨List.mem_append_right _ (List.mem_of_getElem? (i := 625) (by decide +kernel)), by decide +kernel⟩
theorem w_626 : Cond.methodLink R_BL 65 y_BL_add ∈ px_tw := List.mem_filter.mpr ⟨List.mem_append_right _ (List.mem_of_getElem? (i := 626) (by decide +kernel)), by decide +kernel⟩
theorem w_628 : Cond.instanceMethod y_BL_add ∈ px_tw := List.mem_filter.mpr ⟨List.mem_append_right _ (List.mem_of_getElem? (i := 628) (by decide +kernel)), by decide +kernel⟩
theorem w_629 : Cond.code y_BL_add b_BL_add 4 none ∈ px_tw := List.mem_filter.mpr ⟨List.mem_append_right _ (List.mem_of_getElem? (i := 629) (by decide +kernel)), by decide +kernel⟩
theorem w_63 : Cond.classLink R_SB 25 R_RS ∈ px_tw := List.mem_filter.mpr ⟨List.mem_append_right _ (List.mem_of_getElem? (i := 63) (by decide +kernel)), by decide +kernel⟩
theorem w_630 : Cond.methodLink R_SB 216 y_BL_part ∈ px_tw := List.mem_filter.mpr ⟨List.mem_append_right _ (List.mem_of_getElem? (i := 630) (by decide +kernel)), by decide +kernel⟩
theorem w_631 : Cond.instanceMethod y_BL_part ∈ px_tw := List.mem_filter.mpr ⟨List.mem_append_right _ (List.mem_of_getElem? (i := 631) (by decide +kernel)), by decide +kernel⟩
theorem w_632 : Cond.selects R_BL y_BL_part y_BL_part ∈ px_tw := List.mem_filter.mpr ⟨List.mem_append_right _ (List.mem_of_getElem? (i := 632) (by decide +kernel)), by decide +kernel⟩
theorem w_633 : Cond.code y_BL_part b_BL_part 3 (some .int) ∈ px_tw := List.mem_filter.mpr ⟨List.mem_append_right _ (List.mem_of_getElem? (i := 633) (by decide +kernel)), by decide +kernel⟩
theorem w_64 : Cond.instantiable R_RS 6 ∈ px_tw := List.mem_filter.mpr ⟨List.mem_append_right _ (List.mem_of_getElem? (i := 64) (by decide +kernel)), by decide +kernel⟩
theorem w_644 : Cond.methodLink R_MO 1 objectInit ∈ px_tw := List.mem_filter.mpr ⟨List.mem_append_right _ (List.mem_of_getElem? (i := 644) (by decide +kernel)), by decide +kernel⟩
theorem w_645 : Cond.fieldLink R_MO 90 R_MO "signs" "I" ∈ px_tw := List.mem_filter.mpr ⟨List.mem_append_right _ (List.mem_of_getElem? (i := 645) (by decide +kernel)), by decide +kernel⟩
theorem w_646 : Cond.fieldLink R_MO 7 R_MO "text" "[I" ∈ px_tw := List.mem_filter.mpr ⟨List.mem_append_right _ (List.mem_of_getElem? (i := 646) (by decide +kernel)), by decide +kernel⟩
theorem w_647 : Cond.fieldLink R_MO 13 R_MO "speeds" "I" ∈ px_tw := List.mem_filter.mpr ⟨List.mem_append_right _ (List.mem_of_getElem? (i := 647) (by decide +kernel)), by decide +kernel⟩
theorem w_648 : Cond.fieldLink R_MO 17 R_MO "speed" "[I" ∈ px_tw := List.mem_filter.mpr ⟨List.mem_append_right _ (List.mem_of_getElem? (i := 648) (by decide +kernel)), by decide +kernel⟩
theorem w_649 : Cond.fieldLink R_MO 20 R_MO "high" "[I" ∈ px_tw := List.mem_filter.mpr ⟨List.mem_append_right _ (List.mem_of_getElem? (i := 649) (by decide +kernel)), by decide +kernel⟩
theorem w_65 : Cond.methodLink R_SB 27 y_RS_init ∈ px_tw := List.mem_filter.mpr ⟨List.mem_append_right _ (List.mem_of_getElem? (i := 65) (by decide +kernel)), by decide +kernel⟩
theorem w_650 : Cond.fieldLink R_MO 127 R_MO "margin" "I" ∈ px_tw := List.mem_filter.mpr ⟨List.mem_append_right _ (List.mem_of_getElem? (i := 650) (by decide +kernel)), by decide +kernel⟩
theorem w_651 : Cond.fieldLink R_MO 130 R_MO "gap" "I" ∈ px_tw := List.mem_filter.mpr ⟨List.mem_append_right _ (List.mem_of_getElem? (i := 651) (by decide +kernel)), by decide +kernel⟩
theorem w_652 : Cond.fieldLink R_MO 23 R_MO "order" "I" ∈ px_tw := List.mem_filter.mpr ⟨List.mem_append_right _ (List.mem_of_getElem? (i := 652) (by decide +kernel)), by decide +kernel⟩
theorem w_653 : Cond.fieldLink R_MO 104 R_MO "newSpeeds" "I" ∈ px_tw := List.mem_filter.mpr ⟨List.mem_append_right _ (List.mem_of_getElem? (i := 653) (by decide +kernel)), by decide +kernel⟩
theorem w_654 : Cond.fieldLink R_MO 26 R_MO "newSpeed" "[I" ∈ px_tw := List.mem_filter.mpr ⟨List.mem_append_right _ (List.mem_of_getElem? (i := 654) (by decide +kernel)), by decide +kernel⟩
theorem w_655 : Cond.fieldLink R_MO 29 R_MO "newHigh" "[I" ∈ px_tw := List.mem_filter.mpr ⟨List.mem_append_right _ (List.mem_of_getElem? (i := 655) (by decide +kernel)), by decide +kernel⟩
theorem w_656 : Cond.fieldLink R_MO 114 R_MO "newMargin" "I" ∈ px_tw := List.mem_filter.mpr ⟨List.mem_append_right _ (List.mem_of_getElem? (i := 656) (by decide +kernel)), by decide +kernel⟩
theorem w_657 : Cond.fieldLink R_MO 117 R_MO "newGap" "I" ∈ px_tw := List.mem_filter.mpr ⟨List.mem_append_right _ (List.mem_of_getElem? (i := 657) (by decide +kernel)), by decide +kernel⟩
theorem w_658 : Cond.fieldLink R_MO 120 R_MO "newOrder" "I" ∈ px_tw := List.mem_filter.mpr ⟨List.mem_append_right _ (List.mem_of_getElem? (i := 658) (by decide +kernel)), by decide +kernel⟩
theorem w_659 : Cond.fieldLink R_MO 93 R_MO "at" "I" ∈ px_tw := List.mem_filter.mpr ⟨List.mem_append_right _ (List.mem_of_getElem? (i := 659) (by decide +kernel)), by decide +kernel⟩
theorem w_66 : Cond.instanceMethod y_RS_init ∈ px_tw := List.mem_filter.mpr ⟨List.mem_append_right _ (List.mem_of_getElem? (i := 66) (by decide +kernel)), by decide +kernel⟩
theorem w_660 : Cond.fieldLink R_MO 100 R_MO "wrong" "Z" ∈ px_tw := List.mem_filter.mpr ⟨List.mem_append_right _ (List.mem_of_getElem? (i := 660) (by decide +kernel)), by decide +kernel⟩
theorem w_661 : Cond.fieldLink R_MO 32 R_MO "widths" "[I" ∈ px_tw := List.mem_filter.mpr ⟨List.mem_append_right _ (List.mem_of_getElem? (i := 661) (by decide +kernel)), by decide +kernel⟩
theorem w_662 : Cond.fieldLink R_MO 136 R_MO "pairs" "I" ∈ px_tw := List.mem_filter.mpr ⟨List.mem_append_right _ (List.mem_of_getElem? (i := 662) (by decide +kernel)), by decide +kernel⟩
theorem w_663 : Cond.fieldLink R_MO 35 R_MO "left" "[I" ∈ px_tw := List.mem_filter.mpr ⟨List.mem_append_right _ (List.mem_of_getElem? (i := 663) (by decide +kernel)), by decide +kernel⟩
theorem w_664 : Cond.fieldLink R_MO 38 R_MO "right" "[I" ∈ px_tw := List.mem_filter.mpr ⟨List.mem_append_right _ (List.mem_of_getElem? (i := 664) (by decide +kernel)), by decide +kernel⟩
theorem w_665 : Cond.fieldLink R_MO 41 R_MO "kerns" "[I" ∈ px_tw := List.mem_filter.mpr ⟨List.mem_append_right _ (List.mem_of_getElem? (i := 665) (by decide +kernel)), by decide +kernel⟩
theorem w_666 : Cond.fieldLink R_MO 133 R_MO "names" "I" ∈ px_tw := List.mem_filter.mpr ⟨List.mem_append_right _ (List.mem_of_getElem? (i := 666) (by decide +kernel)), by decide +kernel⟩
theorem w_667 : Cond.fieldLink R_MO 44 R_MO "sizes" "[I" ∈ px_tw := List.mem_filter.mpr ⟨List.mem_append_right _ (List.mem_of_getElem? (i := 667) (by decide +kernel)), by decide +kernel⟩
theorem w_668 : Cond.fieldLink R_MO 47 R_MO "letters" "[I" ∈ px_tw := List.mem_filter.mpr ⟨List.mem_append_right _ (List.mem_of_getElem? (i := 668) (by decide +kernel)), by decide +kernel⟩
theorem w_669 : Cond.fieldLink R_MO 50 R_MO "goals" "[I" ∈ px_tw := List.mem_filter.mpr ⟨List.mem_append_right _ (List.mem_of_getElem? (i := 669) (by decide +kernel)), by decide +kernel⟩
theorem w_67 : Cond.code y_RS_init b_RS_init 1 none ∈ px_tw := List.mem_filter.mpr ⟨List.mem_append_right _ (List.mem_of_getElem? (i := 67) (by decide +kernel)), by decide +kernel⟩
theorem w_670 : Cond.fieldLink R_MO 162 R_MO "ways" "I" ∈ px_tw := List.mem_filter.mpr ⟨List.mem_append_right _ (List.mem_of_getElem? (i := 670) (by decide +kernel)), by decide +kernel⟩
theorem w_671 : Cond.fieldLink R_MO 53 R_MO "from" "[I" ∈ px_tw := List.mem_filter.mpr ⟨List.mem_append_right _ (List.mem_of_getElem? (i := 671) (by decide +kernel)), by decide +kernel⟩
theorem w_672 : Cond.fieldLink R_MO 56 R_MO "to" "[I" ∈ px_tw := List.mem_filter.mpr ⟨List.mem_append_right _ (List.mem_of_getElem? (i := 672) (by decide +kernel)), by decide +kernel⟩
theorem w_673 : Cond.fieldLink R_MO 59 R_MO "length" "[I" ∈ px_tw := List.mem_filter.mpr ⟨List.mem_append_right _ (List.mem_of_getElem? (i := 673) (by decide +kernel)), by decide +kernel⟩
theorem w_674 : Cond.fieldLink R_MO 165 R_MO "boards" "I" ∈ px_tw := List.mem_filter.mpr ⟨List.mem_append_right _ (List.mem_of_getElem? (i := 674) (by decide +kernel)), by decide +kernel⟩
theorem w_675 : Cond.fieldLink R_MO 62 R_MO "wayOf" "[I" ∈ px_tw := List.mem_filter.mpr ⟨List.mem_append_right _ (List.mem_of_getElem? (i := 675) (by decide +kernel)), by decide +kernel⟩
theorem w_676 : Cond.fieldLink R_MO 65 R_MO "lines" "[I" ∈ px_tw := List.mem_filter.mpr ⟨List.mem_append_right _ (List.mem_of_getElem? (i := 676) (by decide +kernel)), by decide +kernel⟩
theorem w_677 : Cond.fieldLink R_MO 68 R_MO "lineName" "[I" ∈ px_tw := List.mem_filter.mpr ⟨List.mem_append_right _ (List.mem_of_getElem? (i := 677) (by decide +kernel)), by decide +kernel⟩
theorem w_678 : Cond.fieldLink R_MO 71 R_MO "arrows" "[I" ∈ px_tw := List.mem_filter.mpr ⟨List.mem_append_right _ (List.mem_of_getElem? (i := 678) (by decide +kernel)), by decide +kernel⟩
theorem w_679 : Cond.fieldLink R_MO 74 R_MO "least" "[I" ∈ px_tw := List.mem_filter.mpr ⟨List.mem_append_right _ (List.mem_of_getElem? (i := 679) (by decide +kernel)), by decide +kernel⟩
theorem w_68 : Cond.methodLink R_RS 3 objectInit ∈ px_tw := List.mem_filter.mpr ⟨List.mem_append_right _ (List.mem_of_getElem? (i := 68) (by decide +kernel)), by decide +kernel⟩
theorem w_680 : Cond.fieldLink R_MO 77 R_MO "far" "[I" ∈ px_tw := List.mem_filter.mpr ⟨List.mem_append_right _ (List.mem_of_getElem? (i := 680) (by decide +kernel)), by decide +kernel⟩
theorem w_681 : Cond.fieldLink R_MO 80 R_MO "away" "[I" ∈ px_tw := List.mem_filter.mpr ⟨List.mem_append_right _ (List.mem_of_getElem? (i := 681) (by decide +kernel)), by decide +kernel⟩
theorem w_682 : Cond.fieldLink R_MO 83 R_MO "rank" "[I" ∈ px_tw := List.mem_filter.mpr ⟨List.mem_append_right _ (List.mem_of_getElem? (i := 682) (by decide +kernel)), by decide +kernel⟩
theorem w_683 : Cond.fieldLink R_MO 209 R_MO "found" "I" ∈ px_tw := List.mem_filter.mpr ⟨List.mem_append_right _ (List.mem_of_getElem? (i := 683) (by decide +kernel)), by decide +kernel⟩
theorem w_684 : Cond.fieldLink R_MO 215 R_MO "foundWay" "I" ∈ px_tw := List.mem_filter.mpr ⟨List.mem_append_right _ (List.mem_of_getElem? (i := 684) (by decide +kernel)), by decide +kernel⟩
theorem w_685 : Cond.fieldLink R_MO 212 R_MO "foundName" "I" ∈ px_tw := List.mem_filter.mpr ⟨List.mem_append_right _ (List.mem_of_getElem? (i := 685) (by decide +kernel)), by decide +kernel⟩
theorem w_686 : Cond.fieldLink R_MO 218 R_MO "foundKind" "I" ∈ px_tw := List.mem_filter.mpr ⟨List.mem_append_right _ (List.mem_of_getElem? (i := 686) (by decide +kernel)), by decide +kernel⟩
theorem w_69 : Cond.methodLink R_RS 18 y_RS_setAsAtFirst ∈ px_tw := List.mem_filter.mpr ⟨List.mem_append_right _ (List.mem_of_getElem? (i := 69) (by decide +kernel)), by decide +kernel⟩
theorem w_7 : Cond.initialized R_LO ∈ px_tw := List.mem_filter.mpr ⟨List.mem_append_right _ (List.mem_of_getElem? (i := 7) (by decide +kernel)), by decide +kernel⟩
theorem w_70 : Cond.instanceMethod y_RS_setAsAtFirst ∈ px_tw := List.mem_filter.mpr ⟨List.mem_append_right _ (List.mem_of_getElem? (i := 70) (by decide +kernel)), by decide +kernel⟩
theorem w_71 : Cond.selects R_RS y_RS_setAsAtFirst y_RS_setAsAtFirst ∈ px_tw := List.mem_filter.mpr ⟨List.mem_append_right _ (List.mem_of_getElem? (i := 71) (by decide +kernel)), by decide +kernel⟩
theorem w_72 : Cond.code y_RS_setAsAtFirst b_RS_setAsAtFirst 1 none ∈ px_tw := List.mem_filter.mpr ⟨List.mem_append_right _ (List.mem_of_getElem? (i := 72) (by decide +kernel)), by decide +kernel⟩
theorem w_73 : Cond.methodLink R_RS 25 y_RS_addStep ∈ px_tw := List.mem_filter.mpr ⟨List.mem_append_right _ (List.mem_of_getElem? (i := 73) (by decide +kernel)), by decide +kernel⟩
theorem w_74 : Cond.instanceMethod y_RS_addStep ∈ px_tw := List.mem_filter.mpr ⟨List.mem_append_right _ (List.mem_of_getElem? (i := 74) (by decide +kernel)), by decide +kernel⟩
theorem w_75 : Cond.selects R_RS y_RS_addStep y_RS_addStep ∈ px_tw := List.mem_filter.mpr ⟨List.mem_append_right _ (List.mem_of_getElem? (i := 75) (by decide +kernel)), by decide +kernel⟩
theorem w_76 : Cond.code y_RS_addStep b_RS_addStep 3 none ∈ px_tw := List.mem_filter.mpr ⟨List.mem_append_right _ (List.mem_of_getElem? (i := 76) (by decide +kernel)), by decide +kernel⟩
theorem w_77 : Cond.fieldLink R_RS 9 R_RS "speeds" "[I" ∈ px_tw := List.mem_filter.mpr ⟨List.mem_append_right _ (List.mem_of_getElem? (i := 77) (by decide +kernel)), by decide +kernel⟩
theorem w_776 : Cond.methodLink R_MO 86 y_MO_isSign ∈ px_tw := List.mem_filter.mpr ⟨List.mem_append_right _ (List.mem_of_getElem? (i := 776) (by decide +kernel)), by decide +kernel⟩
theorem w_777 : Cond.static y_MO_isSign ∈ px_tw := List.mem_filter.mpr ⟨List.mem_append_right _ (List.mem_of_getElem? (i := 777) (by decide +kernel)), by decide +kernel⟩
theorem w_778 : Cond.code y_MO_isSign b_MO_isSign 1 (some .boolean) ∈ px_tw := List.mem_filter.mpr ⟨List.mem_append_right _ (List.mem_of_getElem? (i := 778) (by decide +kernel)), by decide +kernel⟩
theorem w_78 : Cond.fieldLink R_RS 15 R_RS "heights" "[I" ∈ px_tw := List.mem_filter.mpr ⟨List.mem_append_right _ (List.mem_of_getElem? (i := 78) (by decide +kernel)), by decide +kernel⟩
theorem w_783 : Cond.methodLink R_MO 96 y_MO_look ∈ px_tw := List.mem_filter.mpr ⟨List.mem_append_right _ (List.mem_of_getElem? (i := 783) (by decide +kernel)), by decide +kernel⟩
theorem w_785 : Cond.instanceMethod y_MO_look ∈ px_tw := List.mem_filter.mpr ⟨List.mem_append_right _ (List.mem_of_getElem? (i := 785) (by decide +kernel)), by decide +kernel⟩
theorem w_786 : Cond.code y_MO_look b_MO_look 1 (some .int) ∈ px_tw := List.mem_filter.mpr ⟨List.mem_append_right _ (List.mem_of_getElem? (i := 786) (by decide +kernel)), by decide +kernel⟩
theorem w_787 : Cond.methodLink R_MO 123 y_MO_readRule ∈ px_tw := List.mem_filter.mpr ⟨List.mem_append_right _ (List.mem_of_getElem? (i := 787) (by decide +kernel)), by decide +kernel⟩
theorem w_789 : Cond.instanceMethod y_MO_readRule ∈ px_tw := List.mem_filter.mpr ⟨List.mem_append_right _ (List.mem_of_getElem? (i := 789) (by decide +kernel)), by decide +kernel⟩
theorem w_79 : Cond.fieldLink R_RS 21 R_RS "steps" "I" ∈ px_tw := List.mem_filter.mpr ⟨List.mem_append_right _ (List.mem_of_getElem? (i := 79) (by decide +kernel)), by decide +kernel⟩
theorem w_790 : Cond.code y_MO_readRule b_MO_readRule 2 none ∈ px_tw := List.mem_filter.mpr ⟨List.mem_append_right _ (List.mem_of_getElem? (i := 790) (by decide +kernel)), by decide +kernel⟩
theorem w_791 : Cond.methodLink R_MO 111 y_MO_readHeights ∈ px_tw := List.mem_filter.mpr ⟨List.mem_append_right _ (List.mem_of_getElem? (i := 791) (by decide +kernel)), by decide +kernel⟩
theorem w_793 : Cond.instanceMethod y_MO_readHeights ∈ px_tw := List.mem_filter.mpr ⟨List.mem_append_right _ (List.mem_of_getElem? (i := 793) (by decide +kernel)), by decide +kernel⟩
theorem w_794 : Cond.code y_MO_readHeights b_MO_readHeights 5 none ∈ px_tw := List.mem_filter.mpr ⟨List.mem_append_right _ (List.mem_of_getElem? (i := 794) (by decide +kernel)), by decide +kernel⟩
theorem w_795 : Cond.methodLink R_MO 107 y_MO_number ∈ px_tw := List.mem_filter.mpr ⟨List.mem_append_right _ (List.mem_of_getElem? (i := 795) (by decide +kernel)), by decide +kernel⟩
theorem w_797 : Cond.instanceMethod y_MO_number ∈ px_tw := List.mem_filter.mpr ⟨List.mem_append_right _ (List.mem_of_getElem? (i := 797) (by decide +kernel)), by decide +kernel⟩
theorem w_798 : Cond.code y_MO_number b_MO_number 6 (some .int) ∈ px_tw := List.mem_filter.mpr ⟨List.mem_append_right _ (List.mem_of_getElem? (i := 798) (by decide +kernel)), by decide +kernel⟩
theorem w_8 : Cond.initialized R_SH ∈ px_tw := List.mem_filter.mpr ⟨List.mem_append_right _ (List.mem_of_getElem? (i := 8) (by decide +kernel)), by decide +kernel⟩
theorem w_81 : Cond.fieldLink R_RS 29 R_RS "margin" "I" ∈ px_tw := List.mem_filter.mpr ⟨List.mem_append_right _ (List.mem_of_getElem? (i := 81) (by decide +kernel)), by decide +kernel⟩
theorem w_811 : Cond.methodLink R_MO 139 y_MO_pairOf ∈ px_tw := List.mem_filter.mpr ⟨List.mem_append_right _ (List.mem_of_getElem? (i := 811) (by decide +kernel)), by decide +kernel⟩
theorem w_813 : Cond.instanceMethod y_MO_pairOf ∈ px_tw := List.mem_filter.mpr ⟨List.mem_append_right _ (List.mem_of_getElem? (i := 813) (by decide +kernel)), by decide +kernel⟩
theorem w_814 : Cond.code y_MO_pairOf b_MO_pairOf 4 (some .int) ∈ px_tw := List.mem_filter.mpr ⟨List.mem_append_right _ (List.mem_of_getElem? (i := 814) (by decide +kernel)), by decide +kernel⟩
theorem w_816 : Cond.instanceMethod y_MO_height ∈ px_tw := List.mem_filter.mpr ⟨List.mem_append_right _ (List.mem_of_getElem? (i := 816) (by decide +kernel)), by decide +kernel⟩
theorem w_817 : Cond.selects R_MO y_MO_height y_MO_height ∈ px_tw := List.mem_filter.mpr ⟨List.mem_append_right _ (List.mem_of_getElem? (i := 817) (by decide +kernel)), by decide +kernel⟩
theorem w_818 : Cond.code y_MO_height b_MO_height 3 (some .int) ∈ px_tw := List.mem_filter.mpr ⟨List.mem_append_right _ (List.mem_of_getElem? (i := 818) (by decide +kernel)), by decide +kernel⟩
theorem w_819 : Cond.methodLink R_MO 143 y_MO_isSpeed ∈ px_tw := List.mem_filter.mpr ⟨List.mem_append_right _ (List.mem_of_getElem? (i := 819) (by decide +kernel)), by decide +kernel⟩
theorem w_820 : Cond.static y_MO_isSpeed ∈ px_tw := List.mem_filter.mpr ⟨List.mem_append_right _ (List.mem_of_getElem? (i := 820) (by decide +kernel)), by decide +kernel⟩
theorem w_821 : Cond.code y_MO_isSpeed b_MO_isSpeed 1 (some .boolean) ∈ px_tw := List.mem_filter.mpr ⟨List.mem_append_right _ (List.mem_of_getElem? (i := 821) (by decide +kernel)), by decide +kernel⟩
theorem w_823 : Cond.instanceMethod y_MO_width ∈ px_tw := List.mem_filter.mpr ⟨List.mem_append_right _ (List.mem_of_getElem? (i := 823) (by decide +kernel)), by decide +kernel⟩
theorem w_824 : Cond.selects R_MO y_MO_width y_MO_width ∈ px_tw := List.mem_filter.mpr ⟨List.mem_append_right _ (List.mem_of_getElem? (i := 824) (by decide +kernel)), by decide +kernel⟩
theorem w_825 : Cond.code y_MO_width b_MO_width 3 (some .int) ∈ px_tw := List.mem_filter.mpr ⟨List.mem_append_right _ (List.mem_of_getElem? (i := 825) (by decide +kernel)), by decide +kernel⟩
theorem w_826 : Cond.methodLink R_MO 149 y_MO_isName ∈ px_tw := List.mem_filter.mpr ⟨List.mem_append_right _ (List.mem_of_getElem? (i := 826) (by decide +kernel)), by decide +kernel⟩
theorem w_828 : Cond.instanceMethod y_MO_isName ∈ px_tw := List.mem_filter.mpr ⟨List.mem_append_right _ (List.mem_of_getElem? (i := 828) (by decide +kernel)), by decide +kernel⟩
theorem w_829 : Cond.code y_MO_isName b_MO_isName 2 (some .boolean) ∈ px_tw := List.mem_filter.mpr ⟨List.mem_append_right _ (List.mem_of_getElem? (i := 829) (by decide +kernel)), by decide +kernel⟩
theorem w_830 : Cond.methodLink R_MO 152 y_MO_before ∈ px_tw := List.mem_filter.mpr ⟨List.mem_append_right _ (List.mem_of_getElem? (i := 830) (by decide +kernel)), by decide +kernel⟩
theorem w_832 : Cond.instanceMethod y_MO_before ∈ px_tw := List.mem_filter.mpr ⟨List.mem_append_right _ (List.mem_of_getElem? (i := 832) (by decide +kernel)), by decide +kernel⟩
theorem w_833 : Cond.code y_MO_before b_MO_before 6 (some .int) ∈ px_tw := List.mem_filter.mpr ⟨List.mem_append_right _ (List.mem_of_getElem? (i := 833) (by decide +kernel)), by decide +kernel⟩
theorem w_834 : Cond.methodLink R_MO 146 y_MO_letter ∈ px_tw := List.mem_filter.mpr ⟨List.mem_append_right _ (List.mem_of_getElem? (i := 834) (by decide +kernel)), by decide +kernel⟩
theorem w_836 : Cond.instanceMethod y_MO_letter ∈ px_tw := List.mem_filter.mpr ⟨List.mem_append_right _ (List.mem_of_getElem? (i := 836) (by decide +kernel)), by decide +kernel⟩
theorem w_837 : Cond.code y_MO_letter b_MO_letter 3 (some .int) ∈ px_tw := List.mem_filter.mpr ⟨List.mem_append_right _ (List.mem_of_getElem? (i := 837) (by decide +kernel)), by decide +kernel⟩
theorem w_838 : Cond.methodLink R_MO 155 y_MO_height ∈ px_tw := List.mem_filter.mpr ⟨List.mem_append_right _ (List.mem_of_getElem? (i := 838) (by decide +kernel)), by decide +kernel⟩
theorem w_84 : Cond.fieldLink R_RS 32 R_RS "gap" "I" ∈ px_tw := List.mem_filter.mpr ⟨List.mem_append_right _ (List.mem_of_getElem? (i := 84) (by decide +kernel)), by decide +kernel⟩
theorem w_843 : Cond.methodLink R_MO 158 y_MO_isNode ∈ px_tw := List.mem_filter.mpr ⟨List.mem_append_right _ (List.mem_of_getElem? (i := 843) (by decide +kernel)), by decide +kernel⟩
theorem w_844 : Cond.static y_MO_isNode ∈ px_tw := List.mem_filter.mpr ⟨List.mem_append_right _ (List.mem_of_getElem? (i := 844) (by decide +kernel)), by decide +kernel⟩
theorem w_845 : Cond.code y_MO_isNode b_MO_isNode 1 (some .boolean) ∈ px_tw := List.mem_filter.mpr ⟨List.mem_append_right _ (List.mem_of_getElem? (i := 845) (by decide +kernel)), by decide +kernel⟩
theorem w_846 : Cond.constant R_MO 161 100000 ∈ px_tw := List.mem_filter.mpr ⟨List.mem_append_right _ (List.mem_of_getElem? (i := 846) (by decide +kernel)), by decide +kernel⟩
theorem w_859 : Cond.methodLink R_MO 168 y_MO_isBoard ∈ px_tw := List.mem_filter.mpr ⟨List.mem_append_right _ (List.mem_of_getElem? (i := 859) (by decide +kernel)), by decide +kernel⟩
theorem w_861 : Cond.instanceMethod y_MO_isBoard ∈ px_tw := List.mem_filter.mpr ⟨List.mem_append_right _ (List.mem_of_getElem? (i := 861) (by decide +kernel)), by decide +kernel⟩
theorem w_862 : Cond.code y_MO_isBoard b_MO_isBoard 2 (some .boolean) ∈ px_tw := List.mem_filter.mpr ⟨List.mem_append_right _ (List.mem_of_getElem? (i := 862) (by decide +kernel)), by decide +kernel⟩
theorem w_863 : Cond.methodLink R_MO 171 y_MO_has ∈ px_tw := List.mem_filter.mpr ⟨List.mem_append_right _ (List.mem_of_getElem? (i := 863) (by decide +kernel)), by decide +kernel⟩
theorem w_865 : Cond.instanceMethod y_MO_has ∈ px_tw := List.mem_filter.mpr ⟨List.mem_append_right _ (List.mem_of_getElem? (i := 865) (by decide +kernel)), by decide +kernel⟩
theorem w_866 : Cond.code y_MO_has b_MO_has 5 (some .boolean) ∈ px_tw := List.mem_filter.mpr ⟨List.mem_append_right _ (List.mem_of_getElem? (i := 866) (by decide +kernel)), by decide +kernel⟩
theorem w_87 : Cond.fieldLink R_RS 35 R_RS "lineOrder" "I" ∈ px_tw := List.mem_filter.mpr ⟨List.mem_append_right _ (List.mem_of_getElem? (i := 87) (by decide +kernel)), by decide +kernel⟩
theorem w_875 : Cond.methodLink R_MO 193 y_MO_isLine ∈ px_tw := List.mem_filter.mpr ⟨List.mem_append_right _ (List.mem_of_getElem? (i := 875) (by decide +kernel)), by decide +kernel⟩
theorem w_877 : Cond.instanceMethod y_MO_isLine ∈ px_tw := List.mem_filter.mpr ⟨List.mem_append_right _ (List.mem_of_getElem? (i := 877) (by decide +kernel)), by decide +kernel⟩
theorem w_878 : Cond.code y_MO_isLine b_MO_isLine 3 (some .boolean) ∈ px_tw := List.mem_filter.mpr ⟨List.mem_append_right _ (List.mem_of_getElem? (i := 878) (by decide +kernel)), by decide +kernel⟩
theorem w_879 : Cond.methodLink R_MO 196 y_MO_rankAll ∈ px_tw := List.mem_filter.mpr ⟨List.mem_append_right _ (List.mem_of_getElem? (i := 879) (by decide +kernel)), by decide +kernel⟩
theorem w_881 : Cond.instanceMethod y_MO_rankAll ∈ px_tw := List.mem_filter.mpr ⟨List.mem_append_right _ (List.mem_of_getElem? (i := 881) (by decide +kernel)), by decide +kernel⟩
theorem w_882 : Cond.code y_MO_rankAll b_MO_rankAll 4 none ∈ px_tw := List.mem_filter.mpr ⟨List.mem_append_right _ (List.mem_of_getElem? (i := 882) (by decide +kernel)), by decide +kernel⟩
theorem w_883 : Cond.methodLink R_MO 186 y_MO_distanceOf ∈ px_tw := List.mem_filter.mpr ⟨List.mem_append_right _ (List.mem_of_getElem? (i := 883) (by decide +kernel)), by decide +kernel⟩
theorem w_885 : Cond.instanceMethod y_MO_distanceOf ∈ px_tw := List.mem_filter.mpr ⟨List.mem_append_right _ (List.mem_of_getElem? (i := 885) (by decide +kernel)), by decide +kernel⟩
theorem w_886 : Cond.code y_MO_distanceOf b_MO_distanceOf 5 (some .int) ∈ px_tw := List.mem_filter.mpr ⟨List.mem_append_right _ (List.mem_of_getElem? (i := 886) (by decide +kernel)), by decide +kernel⟩
theorem w_887 : Cond.methodLink R_MO 179 y_MO_measure ∈ px_tw := List.mem_filter.mpr ⟨List.mem_append_right _ (List.mem_of_getElem? (i := 887) (by decide +kernel)), by decide +kernel⟩
theorem w_889 : Cond.instanceMethod y_MO_measure ∈ px_tw := List.mem_filter.mpr ⟨List.mem_append_right _ (List.mem_of_getElem? (i := 889) (by decide +kernel)), by decide +kernel⟩
theorem w_890 : Cond.code y_MO_measure b_MO_measure 6 none ∈ px_tw := List.mem_filter.mpr ⟨List.mem_append_right _ (List.mem_of_getElem? (i := 890) (by decide +kernel)), by decide +kernel⟩
theorem w_891 : Cond.constant R_MO 175 100000000 ∈ px_tw := List.mem_filter.mpr ⟨List.mem_append_right _ (List.mem_of_getElem? (i := 891) (by decide +kernel)), by decide +kernel⟩
theorem w_892 : Cond.methodLink R_MO 176 y_MO_isShown ∈ px_tw := List.mem_filter.mpr ⟨List.mem_append_right _ (List.mem_of_getElem? (i := 892) (by decide +kernel)), by decide +kernel⟩
theorem w_894 : Cond.instanceMethod y_MO_isShown ∈ px_tw := List.mem_filter.mpr ⟨List.mem_append_right _ (List.mem_of_getElem? (i := 894) (by decide +kernel)), by decide +kernel⟩
theorem w_895 : Cond.code y_MO_isShown b_MO_isShown 5 (some .boolean) ∈ px_tw := List.mem_filter.mpr ⟨List.mem_append_right _ (List.mem_of_getElem? (i := 895) (by decide +kernel)), by decide +kernel⟩
theorem w_896 : Cond.methodLink R_MO 189 y_MO_goesBefore ∈ px_tw := List.mem_filter.mpr ⟨List.mem_append_right _ (List.mem_of_getElem? (i := 896) (by decide +kernel)), by decide +kernel⟩
theorem w_898 : Cond.instanceMethod y_MO_goesBefore ∈ px_tw := List.mem_filter.mpr ⟨List.mem_append_right _ (List.mem_of_getElem? (i := 898) (by decide +kernel)), by decide +kernel⟩
theorem w_899 : Cond.code y_MO_goesBefore b_MO_goesBefore 4 (some .boolean) ∈ px_tw := List.mem_filter.mpr ⟨List.mem_append_right _ (List.mem_of_getElem? (i := 899) (by decide +kernel)), by decide +kernel⟩
theorem w_9 : Cond.initialized R_BL ∈ px_tw := List.mem_filter.mpr ⟨List.mem_append_right _ (List.mem_of_getElem? (i := 9) (by decide +kernel)), by decide +kernel⟩
theorem w_900 : Cond.methodLink R_MO 183 y_MO_isLess ∈ px_tw := List.mem_filter.mpr ⟨List.mem_append_right _ (List.mem_of_getElem? (i := 900) (by decide +kernel)), by decide +kernel⟩
theorem w_902 : Cond.instanceMethod y_MO_isLess ∈ px_tw := List.mem_filter.mpr ⟨List.mem_append_right _ (List.mem_of_getElem? (i := 902) (by decide +kernel)), by decide +kernel⟩
theorem w_903 : Cond.code y_MO_isLess b_MO_isLess 4 (some .boolean) ∈ px_tw := List.mem_filter.mpr ⟨List.mem_append_right _ (List.mem_of_getElem? (i := 903) (by decide +kernel)), by decide +kernel⟩
theorem w_912 : Cond.methodLink R_MO 206 y_MO_boardWidth ∈ px_tw := List.mem_filter.mpr ⟨List.mem_append_right _ (List.mem_of_getElem? (i := 912) (by decide +kernel)), by decide +kernel⟩
theorem w_914 : Cond.instanceMethod y_MO_boardWidth ∈ px_tw := List.mem_filter.mpr ⟨List.mem_append_right _ (List.mem_of_getElem? (i := 914) (by decide +kernel)), by decide +kernel⟩
theorem w_915 : Cond.code y_MO_boardWidth b_MO_boardWidth 6 (some .int) ∈ px_tw := List.mem_filter.mpr ⟨List.mem_append_right _ (List.mem_of_getElem? (i := 915) (by decide +kernel)), by decide +kernel⟩
theorem w_916 : Cond.methodLink R_MO 202 y_MO_lineWidth ∈ px_tw := List.mem_filter.mpr ⟨List.mem_append_right _ (List.mem_of_getElem? (i := 916) (by decide +kernel)), by decide +kernel⟩
theorem w_918 : Cond.instanceMethod y_MO_lineWidth ∈ px_tw := List.mem_filter.mpr ⟨List.mem_append_right _ (List.mem_of_getElem? (i := 918) (by decide +kernel)), by decide +kernel⟩
theorem w_919 : Cond.code y_MO_lineWidth b_MO_lineWidth 4 (some .int) ∈ px_tw := List.mem_filter.mpr ⟨List.mem_append_right _ (List.mem_of_getElem? (i := 919) (by decide +kernel)), by decide +kernel⟩
theorem w_920 : Cond.methodLink R_MO 199 y_MO_width ∈ px_tw := List.mem_filter.mpr ⟨List.mem_append_right _ (List.mem_of_getElem? (i := 920) (by decide +kernel)), by decide +kernel⟩
theorem w_933 : Cond.methodLink R_MO 221 y_MO_find ∈ px_tw := List.mem_filter.mpr ⟨List.mem_append_right _ (List.mem_of_getElem? (i := 933) (by decide +kernel)), by decide +kernel⟩
theorem w_935 : Cond.instanceMethod y_MO_find ∈ px_tw := List.mem_filter.mpr ⟨List.mem_append_right _ (List.mem_of_getElem? (i := 935) (by decide +kernel)), by decide +kernel⟩
theorem w_936 : Cond.code y_MO_find b_MO_find 5 (some .int) ∈ px_tw := List.mem_filter.mpr ⟨List.mem_append_right _ (List.mem_of_getElem? (i := 936) (by decide +kernel)), by decide +kernel⟩
theorem ws_BL_add : Cond.selects R_BL y_BL_add y_BL_add ∈ px_tw := List.mem_filter.mpr ⟨List.mem_append_left _ (by decide +kernel), by decide +kernel⟩
theorem ws_BL_gatherOf : Cond.selects R_BL y_BL_gatherOf y_BL_gatherOf ∈ px_tw := List.mem_filter.mpr ⟨List.mem_append_left _ (by decide +kernel), by decide +kernel⟩
theorem ws_BO_has : Cond.selects R_BO y_BO_has y_BO_has ∈ px_tw := List.mem_filter.mpr ⟨List.mem_append_left _ (by decide +kernel), by decide +kernel⟩
theorem ws_LE_kernOf : Cond.selects R_LE y_LE_kernOf y_LE_kernOf ∈ px_tw := List.mem_filter.mpr ⟨List.mem_append_left _ (by decide +kernel), by decide +kernel⟩
theorem ws_LE_pairOf : Cond.selects R_LE y_LE_pairOf y_LE_pairOf ∈ px_tw := List.mem_filter.mpr ⟨List.mem_append_left _ (by decide +kernel), by decide +kernel⟩
theorem ws_LO_goesBefore : Cond.selects R_LO y_LO_goesBefore y_LO_goesBefore ∈ px_tw := List.mem_filter.mpr ⟨List.mem_append_left _ (by decide +kernel), by decide +kernel⟩
theorem ws_LO_insert : Cond.selects R_LO y_LO_insert y_LO_insert ∈ px_tw := List.mem_filter.mpr ⟨List.mem_append_left _ (by decide +kernel), by decide +kernel⟩
theorem ws_MO_before : Cond.selects R_MO y_MO_before y_MO_before ∈ px_tw := List.mem_filter.mpr ⟨List.mem_append_left _ (by decide +kernel), by decide +kernel⟩
theorem ws_MO_boardWidth : Cond.selects R_MO y_MO_boardWidth y_MO_boardWidth ∈ px_tw := List.mem_filter.mpr ⟨List.mem_append_left _ (by decide +kernel), by decide +kernel⟩
theorem ws_MO_distanceOf : Cond.selects R_MO y_MO_distanceOf y_MO_distanceOf ∈ px_tw := List.mem_filter.mpr ⟨List.mem_append_left _ (by decide +kernel), by decide +kernel⟩
theorem ws_MO_find : Cond.selects R_MO y_MO_find y_MO_find ∈ px_tw := List.mem_filter.mpr ⟨List.mem_append_left _ (by decide +kernel), by decide +kernel⟩
theorem ws_MO_goesBefore : Cond.selects R_MO y_MO_goesBefore y_MO_goesBefore ∈ px_tw := List.mem_filter.mpr ⟨List.mem_append_left _ (by decide +kernel), by decide +kernel⟩
theorem ws_MO_has : Cond.selects R_MO y_MO_has y_MO_has ∈ px_tw := List.mem_filter.mpr ⟨List.mem_append_left _ (by decide +kernel), by decide +kernel⟩
theorem ws_MO_isBoard : Cond.selects R_MO y_MO_isBoard y_MO_isBoard ∈ px_tw := List.mem_filter.mpr ⟨List.mem_append_left _ (by decide +kernel), by decide +kernel⟩
theorem ws_MO_isLess : Cond.selects R_MO y_MO_isLess y_MO_isLess ∈ px_tw := List.mem_filter.mpr ⟨List.mem_append_left _ (by decide +kernel), by decide +kernel⟩
theorem ws_MO_isLine : Cond.selects R_MO y_MO_isLine y_MO_isLine ∈ px_tw := List.mem_filter.mpr ⟨List.mem_append_left _ (by decide +kernel), by decide +kernel⟩
theorem ws_MO_isName : Cond.selects R_MO y_MO_isName y_MO_isName ∈ px_tw := List.mem_filter.mpr ⟨List.mem_append_left _ (by decide +kernel), by decide +kernel⟩
theorem ws_MO_isShown : Cond.selects R_MO y_MO_isShown y_MO_isShown ∈ px_tw := List.mem_filter.mpr ⟨List.mem_append_left _ (by decide +kernel), by decide +kernel⟩
theorem ws_MO_letter : Cond.selects R_MO y_MO_letter y_MO_letter ∈ px_tw := List.mem_filter.mpr ⟨List.mem_append_left _ (by decide +kernel), by decide +kernel⟩
theorem ws_MO_lineWidth : Cond.selects R_MO y_MO_lineWidth y_MO_lineWidth ∈ px_tw := List.mem_filter.mpr ⟨List.mem_append_left _ (by decide +kernel), by decide +kernel⟩
theorem ws_MO_look : Cond.selects R_MO y_MO_look y_MO_look ∈ px_tw := List.mem_filter.mpr ⟨List.mem_append_left _ (by decide +kernel), by decide +kernel⟩
theorem ws_MO_measure : Cond.selects R_MO y_MO_measure y_MO_measure ∈ px_tw := List.mem_filter.mpr ⟨List.mem_append_left _ (by decide +kernel), by decide +kernel⟩
theorem ws_MO_number : Cond.selects R_MO y_MO_number y_MO_number ∈ px_tw := List.mem_filter.mpr ⟨List.mem_append_left _ (by decide +kernel), by decide +kernel⟩
theorem ws_MO_pairOf : Cond.selects R_MO y_MO_pairOf y_MO_pairOf ∈ px_tw := List.mem_filter.mpr ⟨List.mem_append_left _ (by decide +kernel), by decide +kernel⟩
theorem ws_MO_rankAll : Cond.selects R_MO y_MO_rankAll y_MO_rankAll ∈ px_tw := List.mem_filter.mpr ⟨List.mem_append_left _ (by decide +kernel), by decide +kernel⟩
theorem ws_MO_readHeights : Cond.selects R_MO y_MO_readHeights y_MO_readHeights ∈ px_tw := List.mem_filter.mpr ⟨List.mem_append_left _ (by decide +kernel), by decide +kernel⟩
theorem ws_MO_readRule : Cond.selects R_MO y_MO_readRule y_MO_readRule ∈ px_tw := List.mem_filter.mpr ⟨List.mem_append_left _ (by decide +kernel), by decide +kernel⟩
theorem ws_RO_shortenBy : Cond.selects R_RO y_RO_shortenBy y_RO_shortenBy ∈ px_tw := List.mem_filter.mpr ⟨List.mem_append_left _ (by decide +kernel), by decide +kernel⟩
theorem ws_RR_nextSign : Cond.selects R_RR y_RR_nextSign y_RR_nextSign ∈ px_tw := List.mem_filter.mpr ⟨List.mem_append_left _ (by decide +kernel), by decide +kernel⟩
theorem ws_RR_pass : Cond.selects R_RR y_RR_pass y_RR_pass ∈ px_tw := List.mem_filter.mpr ⟨List.mem_append_left _ (by decide +kernel), by decide +kernel⟩
theorem ws_RR_readHeights : Cond.selects R_RR y_RR_readHeights y_RR_readHeights ∈ px_tw := List.mem_filter.mpr ⟨List.mem_append_left _ (by decide +kernel), by decide +kernel⟩
theorem ws_RR_readMargin : Cond.selects R_RR y_RR_readMargin y_RR_readMargin ∈ px_tw := List.mem_filter.mpr ⟨List.mem_append_left _ (by decide +kernel), by decide +kernel⟩
theorem ws_RR_readNumber : Cond.selects R_RR y_RR_readNumber y_RR_readNumber ∈ px_tw := List.mem_filter.mpr ⟨List.mem_append_left _ (by decide +kernel), by decide +kernel⟩
theorem ws_RR_readOrder : Cond.selects R_RR y_RR_readOrder y_RR_readOrder ∈ px_tw := List.mem_filter.mpr ⟨List.mem_append_left _ (by decide +kernel), by decide +kernel⟩
theorem ws_RR_readRule : Cond.selects R_RR y_RR_readRule y_RR_readRule ∈ px_tw := List.mem_filter.mpr ⟨List.mem_append_left _ (by decide +kernel), by decide +kernel⟩
theorem ws_SB_isBoard : Cond.selects R_SB y_SB_isBoard y_SB_isBoard ∈ px_tw := List.mem_filter.mpr ⟨List.mem_append_left _ (by decide +kernel), by decide +kernel⟩
theorem ws_SB_isLine : Cond.selects R_SB y_SB_isLine y_SB_isLine ∈ px_tw := List.mem_filter.mpr ⟨List.mem_append_left _ (by decide +kernel), by decide +kernel⟩
theorem ws_SB_isName : Cond.selects R_SB y_SB_isName y_SB_isName ∈ px_tw := List.mem_filter.mpr ⟨List.mem_append_left _ (by decide +kernel), by decide +kernel⟩
theorem ws_SH_arrowLeft : Cond.selects R_SH y_SH_arrowLeft y_SH_arrowLeft ∈ px_tw := List.mem_filter.mpr ⟨List.mem_append_left _ (by decide +kernel), by decide +kernel⟩
theorem ws_SH_letterLeft : Cond.selects R_SH y_SH_letterLeft y_SH_letterLeft ∈ px_tw := List.mem_filter.mpr ⟨List.mem_append_left _ (by decide +kernel), by decide +kernel⟩
theorem ws_SH_lineLeft : Cond.selects R_SH y_SH_lineLeft y_SH_lineLeft ∈ px_tw := List.mem_filter.mpr ⟨List.mem_append_left _ (by decide +kernel), by decide +kernel⟩
theorem ws_SH_lineWidth : Cond.selects R_SH y_SH_lineWidth y_SH_lineWidth ∈ px_tw := List.mem_filter.mpr ⟨List.mem_append_left _ (by decide +kernel), by decide +kernel⟩
theorem ws_SH_nameOf : Cond.selects R_SH y_SH_nameOf y_SH_nameOf ∈ px_tw := List.mem_filter.mpr ⟨List.mem_append_left _ (by decide +kernel), by decide +kernel⟩
end
