-- ===== PART A: goes FIRST, ahead of the names: the tables' words, and 'selects' of the private methods out of them =====
/-- a private method of a class that the tables say can be made, by its rows of tables_1 -/
def lw_okq (q : MethodName × Nat) : Prop := (q.1.cls ≠ "java/lang/invoke/MethodHandle" ∧ q.1.cls ≠ "java/lang/invoke/VarHandle") ∧ Cond.instantiable q.1.cls q.2 ∈ tables_1 ∧ Cond.privateMethod q.1 ∈ tables_1 ∧ Cond.instanceMethod q.1 ∈ tables_1
theorem lw_p0 : lw_okq (⟨"SignBoards$RuleReader", "readRule", "()Z"⟩, 6) := ⟨⟨by decide +kernel, by decide +kernel⟩, List.mem_of_getElem? (i := 39) (by decide +kernel), List.mem_of_getElem? (i := 356) (by decide +kernel), List.mem_of_getElem? (i := 357) (by decide +kernel)⟩
theorem lw_p1 : lw_okq (⟨"SignBoards$RuleReader", "nextSign", "()I"⟩, 6) := ⟨⟨by decide +kernel, by decide +kernel⟩, List.mem_of_getElem? (i := 39) (by decide +kernel), List.mem_of_getElem? (i := 360) (by decide +kernel), List.mem_of_getElem? (i := 361) (by decide +kernel)⟩
theorem lw_p2 : lw_okq (⟨"SignBoards$RuleReader", "readHeights", "()Z"⟩, 6) := ⟨⟨by decide +kernel, by decide +kernel⟩, List.mem_of_getElem? (i := 39) (by decide +kernel), List.mem_of_getElem? (i := 368) (by decide +kernel), List.mem_of_getElem? (i := 369) (by decide +kernel)⟩
theorem lw_p3 : lw_okq (⟨"SignBoards$RuleReader", "readNumber", "(I)I"⟩, 6) := ⟨⟨by decide +kernel, by decide +kernel⟩, List.mem_of_getElem? (i := 39) (by decide +kernel), List.mem_of_getElem? (i := 372) (by decide +kernel), List.mem_of_getElem? (i := 373) (by decide +kernel)⟩
theorem lw_p4 : lw_okq (⟨"SignBoards$RuleReader", "pass", "(I)Z"⟩, 6) := ⟨⟨by decide +kernel, by decide +kernel⟩, List.mem_of_getElem? (i := 39) (by decide +kernel), List.mem_of_getElem? (i := 381) (by decide +kernel), List.mem_of_getElem? (i := 382) (by decide +kernel)⟩
theorem lw_p5 : lw_okq (⟨"SignBoards$RuleReader", "readMargin", "()Z"⟩, 6) := ⟨⟨by decide +kernel, by decide +kernel⟩, List.mem_of_getElem? (i := 39) (by decide +kernel), List.mem_of_getElem? (i := 385) (by decide +kernel), List.mem_of_getElem? (i := 386) (by decide +kernel)⟩
theorem lw_p6 : lw_okq (⟨"SignBoards$RuleReader", "readOrder", "()Z"⟩, 6) := ⟨⟨by decide +kernel, by decide +kernel⟩, List.mem_of_getElem? (i := 39) (by decide +kernel), List.mem_of_getElem? (i := 389) (by decide +kernel), List.mem_of_getElem? (i := 390) (by decide +kernel)⟩
theorem lw_p7 : lw_okq (⟨"SignBoards$Letters", "pairOf", "(II)I"⟩, 5) := ⟨⟨by decide +kernel, by decide +kernel⟩, List.mem_of_getElem? (i := 104) (by decide +kernel), List.mem_of_getElem? (i := 422) (by decide +kernel), List.mem_of_getElem? (i := 423) (by decide +kernel)⟩
theorem lw_p8 : lw_okq (⟨"SignBoards", "isName", "(I)Z"⟩, 13) := ⟨⟨by decide +kernel, by decide +kernel⟩, List.mem_of_getElem? (i := 15) (by decide +kernel), List.mem_of_getElem? (i := 441) (by decide +kernel), List.mem_of_getElem? (i := 442) (by decide +kernel)⟩
theorem lw_p9 : lw_okq (⟨"SignBoards$Letters", "kernOf", "(II)I"⟩, 5) := ⟨⟨by decide +kernel, by decide +kernel⟩, List.mem_of_getElem? (i := 104) (by decide +kernel), List.mem_of_getElem? (i := 453) (by decide +kernel), List.mem_of_getElem? (i := 454) (by decide +kernel)⟩
theorem lw_p10 : lw_okq (⟨"SignBoards", "isBoard", "(I)Z"⟩, 13) := ⟨⟨by decide +kernel, by decide +kernel⟩, List.mem_of_getElem? (i := 15) (by decide +kernel), List.mem_of_getElem? (i := 486) (by decide +kernel), List.mem_of_getElem? (i := 487) (by decide +kernel)⟩
theorem lw_p11 : lw_okq (⟨"SignBoards$Board", "has", "(I)Z"⟩, 5) := ⟨⟨by decide +kernel, by decide +kernel⟩, List.mem_of_getElem? (i := 262) (by decide +kernel), List.mem_of_getElem? (i := 494) (by decide +kernel), List.mem_of_getElem? (i := 495) (by decide +kernel)⟩
theorem lw_p12 : lw_okq (⟨"SignBoards", "isLine", "(II)Z"⟩, 13) := ⟨⟨by decide +kernel, by decide +kernel⟩, List.mem_of_getElem? (i := 15) (by decide +kernel), List.mem_of_getElem? (i := 510) (by decide +kernel), List.mem_of_getElem? (i := 511) (by decide +kernel)⟩
theorem lw_p13 : lw_okq (⟨"SignBoards$Roads", "shortenBy", "(I)Z"⟩, 6) := ⟨⟨by decide +kernel, by decide +kernel⟩, List.mem_of_getElem? (i := 129) (by decide +kernel), List.mem_of_getElem? (i := 522) (by decide +kernel), List.mem_of_getElem? (i := 523) (by decide +kernel)⟩
theorem lw_p14 : lw_okq (⟨"SignBoards$LineOrder", "insert", "(LSignBoards$Board;II)V"⟩, 4) := ⟨⟨by decide +kernel, by decide +kernel⟩, List.mem_of_getElem? (i := 161) (by decide +kernel), List.mem_of_getElem? (i := 526) (by decide +kernel), List.mem_of_getElem? (i := 527) (by decide +kernel)⟩
theorem lw_p15 : lw_okq (⟨"SignBoards$LineOrder", "goesBefore", "(LSignBoards$Board;III)Z"⟩, 4) := ⟨⟨by decide +kernel, by decide +kernel⟩, List.mem_of_getElem? (i := 161) (by decide +kernel), List.mem_of_getElem? (i := 530) (by decide +kernel), List.mem_of_getElem? (i := 531) (by decide +kernel)⟩
def lw_privs_1 : List (MethodName × Nat) := [(⟨"SignBoards$RuleReader", "readRule", "()Z"⟩, 6), (⟨"SignBoards$RuleReader", "nextSign", "()I"⟩, 6), (⟨"SignBoards$RuleReader", "readHeights", "()Z"⟩, 6), (⟨"SignBoards$RuleReader", "readNumber", "(I)I"⟩, 6), (⟨"SignBoards$RuleReader", "pass", "(I)Z"⟩, 6), (⟨"SignBoards$RuleReader", "readMargin", "()Z"⟩, 6), (⟨"SignBoards$RuleReader", "readOrder", "()Z"⟩, 6), (⟨"SignBoards$Letters", "pairOf", "(II)I"⟩, 5), (⟨"SignBoards", "isName", "(I)Z"⟩, 13), (⟨"SignBoards$Letters", "kernOf", "(II)I"⟩, 5), (⟨"SignBoards", "isBoard", "(I)Z"⟩, 13), (⟨"SignBoards$Board", "has", "(I)Z"⟩, 5), (⟨"SignBoards", "isLine", "(II)Z"⟩, 13), (⟨"SignBoards$Roads", "shortenBy", "(I)Z"⟩, 6), (⟨"SignBoards$LineOrder", "insert", "(LSignBoards$Board;II)V"⟩, 4), (⟨"SignBoards$LineOrder", "goesBefore", "(LSignBoards$Board;III)Z"⟩, 4)]
theorem lw_r1 : ∀ q ∈ lw_privs_1, lw_okq q := List.forall_mem_cons.mpr ⟨lw_p0, List.forall_mem_cons.mpr ⟨lw_p1, List.forall_mem_cons.mpr ⟨lw_p2, List.forall_mem_cons.mpr ⟨lw_p3, List.forall_mem_cons.mpr ⟨lw_p4, List.forall_mem_cons.mpr ⟨lw_p5, List.forall_mem_cons.mpr ⟨lw_p6, List.forall_mem_cons.mpr ⟨lw_p7, List.forall_mem_cons.mpr ⟨lw_p8, List.forall_mem_cons.mpr ⟨lw_p9, List.forall_mem_cons.mpr ⟨lw_p10, List.forall_mem_cons.mpr ⟨lw_p11, List.forall_mem_cons.mpr ⟨lw_p12, List.forall_mem_cons.mpr ⟨lw_p13, List.forall_mem_cons.mpr ⟨lw_p14, List.forall_mem_cons.mpr ⟨lw_p15, fun _ h => absurd h List.not_mem_nil⟩⟩⟩⟩⟩⟩⟩⟩⟩⟩⟩⟩⟩⟩⟩⟩
theorem lw_p16 : lw_okq (⟨"SignBoards$Sheet", "nameOf", "(I)LSignBoards$Name;"⟩, 9) := ⟨⟨by decide +kernel, by decide +kernel⟩, List.mem_of_getElem? (i := 180) (by decide +kernel), List.mem_of_getElem? (i := 560) (by decide +kernel), List.mem_of_getElem? (i := 561) (by decide +kernel)⟩
theorem lw_p17 : lw_okq (⟨"SignBoards$Sheet", "lineWidth", "(I)I"⟩, 9) := ⟨⟨by decide +kernel, by decide +kernel⟩, List.mem_of_getElem? (i := 180) (by decide +kernel), List.mem_of_getElem? (i := 565) (by decide +kernel), List.mem_of_getElem? (i := 566) (by decide +kernel)⟩
theorem lw_p18 : lw_okq (⟨"SignBoards$Sheet", "arrowLeft", "(I)I"⟩, 9) := ⟨⟨by decide +kernel, by decide +kernel⟩, List.mem_of_getElem? (i := 180) (by decide +kernel), List.mem_of_getElem? (i := 584) (by decide +kernel), List.mem_of_getElem? (i := 585) (by decide +kernel)⟩
theorem lw_p19 : lw_okq (⟨"SignBoards$Sheet", "lineLeft", "(I)I"⟩, 9) := ⟨⟨by decide +kernel, by decide +kernel⟩, List.mem_of_getElem? (i := 180) (by decide +kernel), List.mem_of_getElem? (i := 588) (by decide +kernel), List.mem_of_getElem? (i := 589) (by decide +kernel)⟩
theorem lw_p20 : lw_okq (⟨"SignBoards$Sheet", "letterLeft", "(II)I"⟩, 9) := ⟨⟨by decide +kernel, by decide +kernel⟩, List.mem_of_getElem? (i := 180) (by decide +kernel), List.mem_of_getElem? (i := 592) (by decide +kernel), List.mem_of_getElem? (i := 593) (by decide +kernel)⟩
theorem lw_p21 : lw_okq (⟨"SignBoards$BreakList", "gatherOf", "(II)V"⟩, 6) := ⟨⟨by decide +kernel, by decide +kernel⟩, List.mem_of_getElem? (i := 215) (by decide +kernel), List.mem_of_getElem? (i := 613) (by decide +kernel), List.mem_of_getElem? (i := 614) (by decide +kernel)⟩
theorem lw_p22 : lw_okq (⟨"SignBoards$BreakList", "add", "(III)V"⟩, 6) := ⟨⟨by decide +kernel, by decide +kernel⟩, List.mem_of_getElem? (i := 215) (by decide +kernel), List.mem_of_getElem? (i := 627) (by decide +kernel), List.mem_of_getElem? (i := 628) (by decide +kernel)⟩
theorem lw_p23 : lw_okq (⟨"SignBoardsModel", "look", "()I"⟩, 42) := ⟨⟨by decide +kernel, by decide +kernel⟩, List.mem_of_getElem? (i := 640) (by decide +kernel), List.mem_of_getElem? (i := 784) (by decide +kernel), List.mem_of_getElem? (i := 785) (by decide +kernel)⟩
theorem lw_p24 : lw_okq (⟨"SignBoardsModel", "readRule", "(I)V"⟩, 42) := ⟨⟨by decide +kernel, by decide +kernel⟩, List.mem_of_getElem? (i := 640) (by decide +kernel), List.mem_of_getElem? (i := 788) (by decide +kernel), List.mem_of_getElem? (i := 789) (by decide +kernel)⟩
theorem lw_p25 : lw_okq (⟨"SignBoardsModel", "readHeights", "()V"⟩, 42) := ⟨⟨by decide +kernel, by decide +kernel⟩, List.mem_of_getElem? (i := 640) (by decide +kernel), List.mem_of_getElem? (i := 792) (by decide +kernel), List.mem_of_getElem? (i := 793) (by decide +kernel)⟩
theorem lw_p26 : lw_okq (⟨"SignBoardsModel", "number", "(I)I"⟩, 42) := ⟨⟨by decide +kernel, by decide +kernel⟩, List.mem_of_getElem? (i := 640) (by decide +kernel), List.mem_of_getElem? (i := 796) (by decide +kernel), List.mem_of_getElem? (i := 797) (by decide +kernel)⟩
theorem lw_p27 : lw_okq (⟨"SignBoardsModel", "pairOf", "(II)I"⟩, 42) := ⟨⟨by decide +kernel, by decide +kernel⟩, List.mem_of_getElem? (i := 640) (by decide +kernel), List.mem_of_getElem? (i := 812) (by decide +kernel), List.mem_of_getElem? (i := 813) (by decide +kernel)⟩
theorem lw_p28 : lw_okq (⟨"SignBoardsModel", "isName", "(I)Z"⟩, 42) := ⟨⟨by decide +kernel, by decide +kernel⟩, List.mem_of_getElem? (i := 640) (by decide +kernel), List.mem_of_getElem? (i := 827) (by decide +kernel), List.mem_of_getElem? (i := 828) (by decide +kernel)⟩
theorem lw_p29 : lw_okq (⟨"SignBoardsModel", "before", "(II)I"⟩, 42) := ⟨⟨by decide +kernel, by decide +kernel⟩, List.mem_of_getElem? (i := 640) (by decide +kernel), List.mem_of_getElem? (i := 831) (by decide +kernel), List.mem_of_getElem? (i := 832) (by decide +kernel)⟩
theorem lw_p30 : lw_okq (⟨"SignBoardsModel", "letter", "(II)I"⟩, 42) := ⟨⟨by decide +kernel, by decide +kernel⟩, List.mem_of_getElem? (i := 640) (by decide +kernel), List.mem_of_getElem? (i := 835) (by decide +kernel), List.mem_of_getElem? (i := 836) (by decide +kernel)⟩
theorem lw_p31 : lw_okq (⟨"SignBoardsModel", "isBoard", "(I)Z"⟩, 42) := ⟨⟨by decide +kernel, by decide +kernel⟩, List.mem_of_getElem? (i := 640) (by decide +kernel), List.mem_of_getElem? (i := 860) (by decide +kernel), List.mem_of_getElem? (i := 861) (by decide +kernel)⟩
def lw_privs_2 : List (MethodName × Nat) := [(⟨"SignBoards$Sheet", "nameOf", "(I)LSignBoards$Name;"⟩, 9), (⟨"SignBoards$Sheet", "lineWidth", "(I)I"⟩, 9), (⟨"SignBoards$Sheet", "arrowLeft", "(I)I"⟩, 9), (⟨"SignBoards$Sheet", "lineLeft", "(I)I"⟩, 9), (⟨"SignBoards$Sheet", "letterLeft", "(II)I"⟩, 9), (⟨"SignBoards$BreakList", "gatherOf", "(II)V"⟩, 6), (⟨"SignBoards$BreakList", "add", "(III)V"⟩, 6), (⟨"SignBoardsModel", "look", "()I"⟩, 42), (⟨"SignBoardsModel", "readRule", "(I)V"⟩, 42), (⟨"SignBoardsModel", "readHeights", "()V"⟩, 42), (⟨"SignBoardsModel", "number", "(I)I"⟩, 42), (⟨"SignBoardsModel", "pairOf", "(II)I"⟩, 42), (⟨"SignBoardsModel", "isName", "(I)Z"⟩, 42), (⟨"SignBoardsModel", "before", "(II)I"⟩, 42), (⟨"SignBoardsModel", "letter", "(II)I"⟩, 42), (⟨"SignBoardsModel", "isBoard", "(I)Z"⟩, 42)]
theorem lw_r2 : ∀ q ∈ lw_privs_2, lw_okq q := List.forall_mem_cons.mpr ⟨lw_p16, List.forall_mem_cons.mpr ⟨lw_p17, List.forall_mem_cons.mpr ⟨lw_p18, List.forall_mem_cons.mpr ⟨lw_p19, List.forall_mem_cons.mpr ⟨lw_p20, List.forall_mem_cons.mpr ⟨lw_p21, List.forall_mem_cons.mpr ⟨lw_p22, List.forall_mem_cons.mpr ⟨lw_p23, List.forall_mem_cons.mpr ⟨lw_p24, List.forall_mem_cons.mpr ⟨lw_p25, List.forall_mem_cons.mpr ⟨lw_p26, List.forall_mem_cons.mpr ⟨lw_p27, List.forall_mem_cons.mpr ⟨lw_p28, List.forall_mem_cons.mpr ⟨lw_p29, List.forall_mem_cons.mpr ⟨lw_p30, List.forall_mem_cons.mpr ⟨lw_p31, fun _ h => absurd h List.not_mem_nil⟩⟩⟩⟩⟩⟩⟩⟩⟩⟩⟩⟩⟩⟩⟩⟩
theorem lw_p32 : lw_okq (⟨"SignBoardsModel", "has", "(II)Z"⟩, 42) := ⟨⟨by decide +kernel, by decide +kernel⟩, List.mem_of_getElem? (i := 640) (by decide +kernel), List.mem_of_getElem? (i := 864) (by decide +kernel), List.mem_of_getElem? (i := 865) (by decide +kernel)⟩
theorem lw_p33 : lw_okq (⟨"SignBoardsModel", "isLine", "(II)Z"⟩, 42) := ⟨⟨by decide +kernel, by decide +kernel⟩, List.mem_of_getElem? (i := 640) (by decide +kernel), List.mem_of_getElem? (i := 876) (by decide +kernel), List.mem_of_getElem? (i := 877) (by decide +kernel)⟩
theorem lw_p34 : lw_okq (⟨"SignBoardsModel", "rankAll", "(I)V"⟩, 42) := ⟨⟨by decide +kernel, by decide +kernel⟩, List.mem_of_getElem? (i := 640) (by decide +kernel), List.mem_of_getElem? (i := 880) (by decide +kernel), List.mem_of_getElem? (i := 881) (by decide +kernel)⟩
theorem lw_p35 : lw_okq (⟨"SignBoardsModel", "distanceOf", "(II)I"⟩, 42) := ⟨⟨by decide +kernel, by decide +kernel⟩, List.mem_of_getElem? (i := 640) (by decide +kernel), List.mem_of_getElem? (i := 884) (by decide +kernel), List.mem_of_getElem? (i := 885) (by decide +kernel)⟩
theorem lw_p36 : lw_okq (⟨"SignBoardsModel", "measure", "(II)V"⟩, 42) := ⟨⟨by decide +kernel, by decide +kernel⟩, List.mem_of_getElem? (i := 640) (by decide +kernel), List.mem_of_getElem? (i := 888) (by decide +kernel), List.mem_of_getElem? (i := 889) (by decide +kernel)⟩
theorem lw_p37 : lw_okq (⟨"SignBoardsModel", "isShown", "(II)Z"⟩, 42) := ⟨⟨by decide +kernel, by decide +kernel⟩, List.mem_of_getElem? (i := 640) (by decide +kernel), List.mem_of_getElem? (i := 893) (by decide +kernel), List.mem_of_getElem? (i := 894) (by decide +kernel)⟩
theorem lw_p38 : lw_okq (⟨"SignBoardsModel", "goesBefore", "(III)Z"⟩, 42) := ⟨⟨by decide +kernel, by decide +kernel⟩, List.mem_of_getElem? (i := 640) (by decide +kernel), List.mem_of_getElem? (i := 897) (by decide +kernel), List.mem_of_getElem? (i := 898) (by decide +kernel)⟩
theorem lw_p39 : lw_okq (⟨"SignBoardsModel", "isLess", "(II)Z"⟩, 42) := ⟨⟨by decide +kernel, by decide +kernel⟩, List.mem_of_getElem? (i := 640) (by decide +kernel), List.mem_of_getElem? (i := 901) (by decide +kernel), List.mem_of_getElem? (i := 902) (by decide +kernel)⟩
theorem lw_p40 : lw_okq (⟨"SignBoardsModel", "boardWidth", "(II)I"⟩, 42) := ⟨⟨by decide +kernel, by decide +kernel⟩, List.mem_of_getElem? (i := 640) (by decide +kernel), List.mem_of_getElem? (i := 913) (by decide +kernel), List.mem_of_getElem? (i := 914) (by decide +kernel)⟩
theorem lw_p41 : lw_okq (⟨"SignBoardsModel", "lineWidth", "(III)I"⟩, 42) := ⟨⟨by decide +kernel, by decide +kernel⟩, List.mem_of_getElem? (i := 640) (by decide +kernel), List.mem_of_getElem? (i := 917) (by decide +kernel), List.mem_of_getElem? (i := 918) (by decide +kernel)⟩
theorem lw_p42 : lw_okq (⟨"SignBoardsModel", "find", "(I)I"⟩, 42) := ⟨⟨by decide +kernel, by decide +kernel⟩, List.mem_of_getElem? (i := 640) (by decide +kernel), List.mem_of_getElem? (i := 934) (by decide +kernel), List.mem_of_getElem? (i := 935) (by decide +kernel)⟩
def lw_privs_3 : List (MethodName × Nat) := [(⟨"SignBoardsModel", "has", "(II)Z"⟩, 42), (⟨"SignBoardsModel", "isLine", "(II)Z"⟩, 42), (⟨"SignBoardsModel", "rankAll", "(I)V"⟩, 42), (⟨"SignBoardsModel", "distanceOf", "(II)I"⟩, 42), (⟨"SignBoardsModel", "measure", "(II)V"⟩, 42), (⟨"SignBoardsModel", "isShown", "(II)Z"⟩, 42), (⟨"SignBoardsModel", "goesBefore", "(III)Z"⟩, 42), (⟨"SignBoardsModel", "isLess", "(II)Z"⟩, 42), (⟨"SignBoardsModel", "boardWidth", "(II)I"⟩, 42), (⟨"SignBoardsModel", "lineWidth", "(III)I"⟩, 42), (⟨"SignBoardsModel", "find", "(I)I"⟩, 42)]
theorem lw_r3 : ∀ q ∈ lw_privs_3, lw_okq q := List.forall_mem_cons.mpr ⟨lw_p32, List.forall_mem_cons.mpr ⟨lw_p33, List.forall_mem_cons.mpr ⟨lw_p34, List.forall_mem_cons.mpr ⟨lw_p35, List.forall_mem_cons.mpr ⟨lw_p36, List.forall_mem_cons.mpr ⟨lw_p37, List.forall_mem_cons.mpr ⟨lw_p38, List.forall_mem_cons.mpr ⟨lw_p39, List.forall_mem_cons.mpr ⟨lw_p40, List.forall_mem_cons.mpr ⟨lw_p41, List.forall_mem_cons.mpr ⟨lw_p42, fun _ h => absurd h List.not_mem_nil⟩⟩⟩⟩⟩⟩⟩⟩⟩⟩⟩
def lw_privs : List (MethodName × Nat) := lw_privs_1 ++ (lw_privs_2 ++ (lw_privs_3))
def lw_tbl : List Cond := k2_sels lw_privs ++ tables_1
theorem lw_privs_ok : ∀ q ∈ lw_privs, lw_okq q := by
  show ∀ q ∈ lw_privs_1 ++ (lw_privs_2 ++ (lw_privs_3)), lw_okq q
  exact List.forall_mem_append.mpr ⟨lw_r1, List.forall_mem_append.mpr ⟨lw_r2, lw_r3⟩⟩
def R_SB : String := "SignBoards"
def F_SB : u_T := fun k => match k with
  | 0 => ("SignBoards", "text", "LSignBoards$Text;", true)
  | 1 => ("SignBoards", "reader", "LSignBoards$RuleReader;", true)
  | 2 => ("SignBoards", "inForce", "LSignBoards$RuleSet;", false)
  | 3 => ("SignBoards", "draft", "LSignBoards$RuleSet;", false)
  | 4 => ("SignBoards", "letters", "LSignBoards$Letters;", true)
  | 5 => ("SignBoards", "names", "[LSignBoards$Name;", true)
  | 6 => ("SignBoards", "nameCount", "I", false)
  | 7 => ("SignBoards", "roads", "LSignBoards$Roads;", true)
  | 8 => ("SignBoards", "boards", "[LSignBoards$Board;", true)
  | 9 => ("SignBoards", "boardCount", "I", false)
  | 10 => ("SignBoards", "order", "LSignBoards$LineOrder;", true)
  | 11 => ("SignBoards", "sheet", "LSignBoards$Sheet;", true)
  | _ => ("SignBoards", "breakList", "LSignBoards$BreakList;", true)
def t_SB : Nat → FieldType := fun k => match k with
  | 0 => .object "SignBoards$Text"
  | 1 => .object "SignBoards$RuleReader"
  | 2 => .object "SignBoards$RuleSet"
  | 3 => .object "SignBoards$RuleSet"
  | 4 => .object "SignBoards$Letters"
  | 5 => .array (.object "SignBoards$Name")
  | 6 => .int
  | 7 => .object "SignBoards$Roads"
  | 8 => .array (.object "SignBoards$Board")
  | 9 => .int
  | 10 => .object "SignBoards$LineOrder"
  | 11 => .object "SignBoards$Sheet"
  | _ => .object "SignBoards$BreakList"
def R_TX : String := "SignBoards$Text"
def F_TX : u_T := fun k => match k with
  | 0 => ("SignBoards$Text", "signs", "[I", true)
  | _ => ("SignBoards$Text", "length", "I", false)
def t_TX : Nat → FieldType := fun k => match k with
  | 0 => .array .int
  | _ => .int
def R_RR : String := "SignBoards$RuleReader"
def F_RR : u_T := fun k => match k with
  | 0 => ("SignBoards$RuleReader", "text", "LSignBoards$Text;", true)
  | 1 => ("SignBoards$RuleReader", "target", "LSignBoards$RuleSet;", false)
  | 2 => ("SignBoards$RuleReader", "place", "I", false)
  | 3 => ("SignBoards$RuleReader", "heightsRead", "Z", false)
  | 4 => ("SignBoards$RuleReader", "marginRead", "Z", false)
  | _ => ("SignBoards$RuleReader", "orderRead", "Z", false)
def t_RR : Nat → FieldType := fun k => match k with
  | 0 => .object "SignBoards$Text"
  | 1 => .object "SignBoards$RuleSet"
  | 2 => .int
  | 3 => .boolean
  | 4 => .boolean
  | _ => .boolean
def R_RS : String := "SignBoards$RuleSet"
def F_RS : u_T := fun k => match k with
  | 0 => ("SignBoards$RuleSet", "speeds", "[I", true)
  | 1 => ("SignBoards$RuleSet", "heights", "[I", true)
  | 2 => ("SignBoards$RuleSet", "steps", "I", false)
  | 3 => ("SignBoards$RuleSet", "margin", "I", false)
  | 4 => ("SignBoards$RuleSet", "gap", "I", false)
  | _ => ("SignBoards$RuleSet", "lineOrder", "I", false)
def t_RS : Nat → FieldType := fun k => match k with
  | 0 => .array .int
  | 1 => .array .int
  | 2 => .int
  | 3 => .int
  | 4 => .int
  | _ => .int
def R_LE : String := "SignBoards$Letters"
def F_LE : u_T := fun k => match k with
  | 0 => ("SignBoards$Letters", "widths", "[I", true)
  | 1 => ("SignBoards$Letters", "firsts", "[I", true)
  | 2 => ("SignBoards$Letters", "seconds", "[I", true)
  | 3 => ("SignBoards$Letters", "kerns", "[I", true)
  | _ => ("SignBoards$Letters", "pairs", "I", false)
def t_LE : Nat → FieldType := fun k => match k with
  | 0 => .array .int
  | 1 => .array .int
  | 2 => .array .int
  | 3 => .array .int
  | _ => .int
def R_RO : String := "SignBoards$Roads"
def F_RO : u_T := fun k => match k with
  | 0 => ("SignBoards$Roads", "starts", "[I", true)
  | 1 => ("SignBoards$Roads", "ends", "[I", true)
  | 2 => ("SignBoards$Roads", "lengths", "[I", true)
  | 3 => ("SignBoards$Roads", "shown", "[I", true)
  | 4 => ("SignBoards$Roads", "least", "[I", true)
  | _ => ("SignBoards$Roads", "ways", "I", false)
def t_RO : Nat → FieldType := fun k => match k with
  | 0 => .array .int
  | 1 => .array .int
  | 2 => .array .int
  | 3 => .array .int
  | 4 => .array .int
  | _ => .int
def R_LO : String := "SignBoards$LineOrder"
def F_LO : u_T := fun k => match k with
  | 0 => ("SignBoards$LineOrder", "names", "[LSignBoards$Name;", true)
  | 1 => ("SignBoards$LineOrder", "roads", "LSignBoards$Roads;", true)
  | 2 => ("SignBoards$LineOrder", "sorted", "[I", true)
  | _ => ("SignBoards$LineOrder", "distances", "[I", true)
def t_LO : Nat → FieldType := fun k => match k with
  | 0 => .array (.object "SignBoards$Name")
  | 1 => .object "SignBoards$Roads"
  | 2 => .array .int
  | _ => .array .int
def R_SH : String := "SignBoards$Sheet"
def F_SH : u_T := fun k => match k with
  | 0 => ("SignBoards$Sheet", "names", "[LSignBoards$Name;", true)
  | 1 => ("SignBoards$Sheet", "letters", "LSignBoards$Letters;", true)
  | 2 => ("SignBoards$Sheet", "fields", "[I", true)
  | 3 => ("SignBoards$Sheet", "board", "LSignBoards$Board;", false)
  | 4 => ("SignBoards$Sheet", "mm", "I", false)
  | 5 => ("SignBoards$Sheet", "high", "I", false)
  | 6 => ("SignBoards$Sheet", "margin", "I", false)
  | 7 => ("SignBoards$Sheet", "gap", "I", false)
  | _ => ("SignBoards$Sheet", "fullWidth", "I", false)
def t_SH : Nat → FieldType := fun k => match k with
  | 0 => .array (.object "SignBoards$Name")
  | 1 => .object "SignBoards$Letters"
  | 2 => .array .int
  | 3 => .object "SignBoards$Board"
  | 4 => .int
  | 5 => .int
  | 6 => .int
  | 7 => .int
  | _ => .int
def R_BL : String := "SignBoards$BreakList"
def F_BL : u_T := fun k => match k with
  | 0 => ("SignBoards$BreakList", "names", "[LSignBoards$Name;", true)
  | 1 => ("SignBoards$BreakList", "roads", "LSignBoards$Roads;", true)
  | 2 => ("SignBoards$BreakList", "brokenNames", "[I", true)
  | 3 => ("SignBoards$BreakList", "brokenWays", "[I", true)
  | 4 => ("SignBoards$BreakList", "kinds", "[I", true)
  | _ => ("SignBoards$BreakList", "found", "I", false)
def t_BL : Nat → FieldType := fun k => match k with
  | 0 => .array (.object "SignBoards$Name")
  | 1 => .object "SignBoards$Roads"
  | 2 => .array .int
  | 3 => .array .int
  | 4 => .array .int
  | _ => .int
def R_NA : String := "SignBoards$Name"
def F_NA : u_T := fun k => match k with
  | 0 => ("SignBoards$Name", "signs", "[I", true)
  | 1 => ("SignBoards$Name", "length", "I", false)
  | _ => ("SignBoards$Name", "goalNode", "I", false)
def t_NA : Nat → FieldType := fun k => match k with
  | 0 => .array .int
  | 1 => .int
  | _ => .int
def R_BO : String := "SignBoards$Board"
def F_BO : u_T := fun k => match k with
  | 0 => ("SignBoards$Board", "lineNames", "[I", true)
  | 1 => ("SignBoards$Board", "arrows", "[I", true)
  | 2 => ("SignBoards$Board", "lines", "I", false)
  | 3 => ("SignBoards$Board", "standsOn", "I", false)
  | _ => ("SignBoards$Board", "leastMm", "I", false)
def t_BO : Nat → FieldType := fun k => match k with
  | 0 => .array .int
  | 1 => .array .int
  | 2 => .int
  | 3 => .int
  | _ => .int
def R_MO : String := "SignBoardsModel"
def F_MO : u_T := fun k => match k with
  | 0 => ("SignBoardsModel", "signs", "I", false)
  | 1 => ("SignBoardsModel", "text", "[I", true)
  | 2 => ("SignBoardsModel", "speeds", "I", false)
  | 3 => ("SignBoardsModel", "speed", "[I", true)
  | 4 => ("SignBoardsModel", "high", "[I", true)
  | 5 => ("SignBoardsModel", "margin", "I", false)
  | 6 => ("SignBoardsModel", "gap", "I", false)
  | 7 => ("SignBoardsModel", "order", "I", false)
  | 8 => ("SignBoardsModel", "newSpeeds", "I", false)
  | 9 => ("SignBoardsModel", "newSpeed", "[I", true)
  | 10 => ("SignBoardsModel", "newHigh", "[I", true)
  | 11 => ("SignBoardsModel", "newMargin", "I", false)
  | 12 => ("SignBoardsModel", "newGap", "I", false)
  | 13 => ("SignBoardsModel", "newOrder", "I", false)
  | 14 => ("SignBoardsModel", "at", "I", false)
  | 15 => ("SignBoardsModel", "wrong", "Z", false)
  | 16 => ("SignBoardsModel", "widths", "[I", true)
  | 17 => ("SignBoardsModel", "pairs", "I", false)
  | 18 => ("SignBoardsModel", "left", "[I", true)
  | 19 => ("SignBoardsModel", "right", "[I", true)
  | 20 => ("SignBoardsModel", "kerns", "[I", true)
  | 21 => ("SignBoardsModel", "names", "I", false)
  | 22 => ("SignBoardsModel", "sizes", "[I", true)
  | 23 => ("SignBoardsModel", "letters", "[I", true)
  | 24 => ("SignBoardsModel", "goals", "[I", true)
  | 25 => ("SignBoardsModel", "ways", "I", false)
  | 26 => ("SignBoardsModel", "from", "[I", true)
  | 27 => ("SignBoardsModel", "to", "[I", true)
  | 28 => ("SignBoardsModel", "length", "[I", true)
  | 29 => ("SignBoardsModel", "boards", "I", false)
  | 30 => ("SignBoardsModel", "wayOf", "[I", true)
  | 31 => ("SignBoardsModel", "lines", "[I", true)
  | 32 => ("SignBoardsModel", "lineName", "[I", true)
  | 33 => ("SignBoardsModel", "arrows", "[I", true)
  | 34 => ("SignBoardsModel", "least", "[I", true)
  | 35 => ("SignBoardsModel", "far", "[I", true)
  | 36 => ("SignBoardsModel", "away", "[I", true)
  | 37 => ("SignBoardsModel", "rank", "[I", true)
  | 38 => ("SignBoardsModel", "found", "I", false)
  | 39 => ("SignBoardsModel", "foundWay", "I", false)
  | 40 => ("SignBoardsModel", "foundName", "I", false)
  | _ => ("SignBoardsModel", "foundKind", "I", false)
def t_MO : Nat → FieldType := fun k => match k with
  | 0 => .int
  | 1 => .array .int
  | 2 => .int
  | 3 => .array .int
  | 4 => .array .int
  | 5 => .int
  | 6 => .int
  | 7 => .int
  | 8 => .int
  | 9 => .array .int
  | 10 => .array .int
  | 11 => .int
  | 12 => .int
  | 13 => .int
  | 14 => .int
  | 15 => .boolean
  | 16 => .array .int
  | 17 => .int
  | 18 => .array .int
  | 19 => .array .int
  | 20 => .array .int
  | 21 => .int
  | 22 => .array .int
  | 23 => .array .int
  | 24 => .array .int
  | 25 => .int
  | 26 => .array .int
  | 27 => .array .int
  | 28 => .array .int
  | 29 => .int
  | 30 => .array .int
  | 31 => .array .int
  | 32 => .array .int
  | 33 => .array .int
  | 34 => .array .int
  | 35 => .array .int
  | 36 => .array .int
  | 37 => .array .int
  | 38 => .int
  | 39 => .int
  | 40 => .int
  | _ => .int
abbrev b_SB_init : ByteArray := prog_1_method_1_code
def y_SB_init : MethodName := ⟨R_SB, "<init>", "()V"⟩
abbrev b_SB_unit : ByteArray := prog_1_method_2_code
def y_SB_unit : MethodName := ⟨R_SB, "unit", "(I)Z"⟩
abbrev b_SB_rules : ByteArray := prog_1_method_3_code
def y_SB_rules : MethodName := ⟨R_SB, "rules", "()I"⟩
abbrev b_SB_name : ByteArray := prog_1_method_4_code
def y_SB_name : MethodName := ⟨R_SB, "name", "()I"⟩
abbrev b_SB_glyph : ByteArray := prog_1_method_5_code
def y_SB_glyph : MethodName := ⟨R_SB, "glyph", "(II)Z"⟩
abbrev b_SB_kern : ByteArray := prog_1_method_6_code
def y_SB_kern : MethodName := ⟨R_SB, "kern", "(III)Z"⟩
abbrev b_SB_height : ByteArray := prog_1_method_7_code
def y_SB_height : MethodName := ⟨R_SB, "height", "(I)I"⟩
abbrev b_SB_width : ByteArray := prog_1_method_8_code
def y_SB_width : MethodName := ⟨R_SB, "width", "(II)I"⟩
abbrev b_SB_way : ByteArray := prog_1_method_9_code
def y_SB_way : MethodName := ⟨R_SB, "way", "(III)I"⟩
abbrev b_SB_goal : ByteArray := prog_1_method_10_code
def y_SB_goal : MethodName := ⟨R_SB, "goal", "(II)Z"⟩
abbrev b_SB_board : ByteArray := prog_1_method_11_code
def y_SB_board : MethodName := ⟨R_SB, "board", "(I)I"⟩
abbrev b_SB_on : ByteArray := prog_1_method_12_code
def y_SB_on : MethodName := ⟨R_SB, "on", "(III)Z"⟩
abbrev b_SB_wide : ByteArray := prog_1_method_13_code
def y_SB_wide : MethodName := ⟨R_SB, "wide", "(II)Z"⟩
abbrev b_SB_row : ByteArray := prog_1_method_14_code
def y_SB_row : MethodName := ⟨R_SB, "row", "(II)I"⟩
abbrev b_SB_distance : ByteArray := prog_1_method_15_code
def y_SB_distance : MethodName := ⟨R_SB, "distance", "(II)I"⟩
abbrev b_SB_size : ByteArray := prog_1_method_16_code
def y_SB_size : MethodName := ⟨R_SB, "size", "(III)I"⟩
abbrev b_SB_drawn : ByteArray := prog_1_method_17_code
def y_SB_drawn : MethodName := ⟨R_SB, "drawn", "(IIII)I"⟩
abbrev b_SB_shows : ByteArray := prog_1_method_18_code
def y_SB_shows : MethodName := ⟨R_SB, "shows", "(II)Z"⟩
abbrev b_SB_breaks : ByteArray := prog_1_method_19_code
def y_SB_breaks : MethodName := ⟨R_SB, "breaks", "(II)I"⟩
abbrev b_SB_count : ByteArray := prog_1_method_20_code
def y_SB_count : MethodName := ⟨R_SB, "count", "(I)I"⟩
abbrev b_SB_isWithin : ByteArray := prog_1_method_21_code
def y_SB_isWithin : MethodName := ⟨R_SB, "isWithin", "(III)Z"⟩
abbrev b_SB_isLetter : ByteArray := prog_1_method_22_code
def y_SB_isLetter : MethodName := ⟨R_SB, "isLetter", "(I)Z"⟩
abbrev b_SB_isSpeed : ByteArray := prog_1_method_23_code
def y_SB_isSpeed : MethodName := ⟨R_SB, "isSpeed", "(I)Z"⟩
abbrev b_SB_isNode : ByteArray := prog_1_method_24_code
def y_SB_isNode : MethodName := ⟨R_SB, "isNode", "(I)Z"⟩
abbrev b_SB_isName : ByteArray := prog_1_method_25_code
def y_SB_isName : MethodName := ⟨R_SB, "isName", "(I)Z"⟩
abbrev b_SB_isBoard : ByteArray := prog_1_method_26_code
def y_SB_isBoard : MethodName := ⟨R_SB, "isBoard", "(I)Z"⟩
abbrev b_SB_isLine : ByteArray := prog_1_method_27_code
def y_SB_isLine : MethodName := ⟨R_SB, "isLine", "(II)Z"⟩
abbrev b_MO_init : ByteArray := prog_13_method_1_code
def y_MO_init : MethodName := ⟨R_MO, "<init>", "()V"⟩
abbrev b_MO_isSign : ByteArray := prog_13_method_2_code
def y_MO_isSign : MethodName := ⟨R_MO, "isSign", "(I)Z"⟩
abbrev b_MO_unit : ByteArray := prog_13_method_3_code
def y_MO_unit : MethodName := ⟨R_MO, "unit", "(I)Z"⟩
abbrev b_MO_look : ByteArray := prog_13_method_4_code
def y_MO_look : MethodName := ⟨R_MO, "look", "()I"⟩
abbrev b_MO_number : ByteArray := prog_13_method_5_code
def y_MO_number : MethodName := ⟨R_MO, "number", "(I)I"⟩
abbrev b_MO_readHeights : ByteArray := prog_13_method_6_code
def y_MO_readHeights : MethodName := ⟨R_MO, "readHeights", "()V"⟩
abbrev b_MO_readRule : ByteArray := prog_13_method_7_code
def y_MO_readRule : MethodName := ⟨R_MO, "readRule", "(I)V"⟩
abbrev b_MO_rules : ByteArray := prog_13_method_8_code
def y_MO_rules : MethodName := ⟨R_MO, "rules", "()I"⟩
abbrev b_MO_name : ByteArray := prog_13_method_9_code
def y_MO_name : MethodName := ⟨R_MO, "name", "()I"⟩
abbrev b_MO_glyph : ByteArray := prog_13_method_10_code
def y_MO_glyph : MethodName := ⟨R_MO, "glyph", "(II)Z"⟩
abbrev b_MO_pairOf : ByteArray := prog_13_method_11_code
def y_MO_pairOf : MethodName := ⟨R_MO, "pairOf", "(II)I"⟩
abbrev b_MO_kern : ByteArray := prog_13_method_12_code
def y_MO_kern : MethodName := ⟨R_MO, "kern", "(III)Z"⟩
abbrev b_MO_isSpeed : ByteArray := prog_13_method_13_code
def y_MO_isSpeed : MethodName := ⟨R_MO, "isSpeed", "(I)Z"⟩
abbrev b_MO_height : ByteArray := prog_13_method_14_code
def y_MO_height : MethodName := ⟨R_MO, "height", "(I)I"⟩
abbrev b_MO_isName : ByteArray := prog_13_method_15_code
def y_MO_isName : MethodName := ⟨R_MO, "isName", "(I)Z"⟩
abbrev b_MO_letter : ByteArray := prog_13_method_16_code
def y_MO_letter : MethodName := ⟨R_MO, "letter", "(II)I"⟩
abbrev b_MO_before : ByteArray := prog_13_method_17_code
def y_MO_before : MethodName := ⟨R_MO, "before", "(II)I"⟩
abbrev b_MO_width : ByteArray := prog_13_method_18_code
def y_MO_width : MethodName := ⟨R_MO, "width", "(II)I"⟩
abbrev b_MO_isNode : ByteArray := prog_13_method_19_code
def y_MO_isNode : MethodName := ⟨R_MO, "isNode", "(I)Z"⟩
abbrev b_MO_way : ByteArray := prog_13_method_20_code
def y_MO_way : MethodName := ⟨R_MO, "way", "(III)I"⟩
abbrev b_MO_goal : ByteArray := prog_13_method_21_code
def y_MO_goal : MethodName := ⟨R_MO, "goal", "(II)Z"⟩
abbrev b_MO_board : ByteArray := prog_13_method_22_code
def y_MO_board : MethodName := ⟨R_MO, "board", "(I)I"⟩
abbrev b_MO_isBoard : ByteArray := prog_13_method_23_code
def y_MO_isBoard : MethodName := ⟨R_MO, "isBoard", "(I)Z"⟩
abbrev b_MO_has : ByteArray := prog_13_method_24_code
def y_MO_has : MethodName := ⟨R_MO, "has", "(II)Z"⟩
abbrev b_MO_on : ByteArray := prog_13_method_25_code
def y_MO_on : MethodName := ⟨R_MO, "on", "(III)Z"⟩
abbrev b_MO_wide : ByteArray := prog_13_method_26_code
def y_MO_wide : MethodName := ⟨R_MO, "wide", "(II)Z"⟩
abbrev b_MO_measure : ByteArray := prog_13_method_27_code
def y_MO_measure : MethodName := ⟨R_MO, "measure", "(II)V"⟩
abbrev b_MO_distanceOf : ByteArray := prog_13_method_28_code
def y_MO_distanceOf : MethodName := ⟨R_MO, "distanceOf", "(II)I"⟩
abbrev b_MO_isLess : ByteArray := prog_13_method_29_code
def y_MO_isLess : MethodName := ⟨R_MO, "isLess", "(II)Z"⟩
abbrev b_MO_goesBefore : ByteArray := prog_13_method_30_code
def y_MO_goesBefore : MethodName := ⟨R_MO, "goesBefore", "(III)Z"⟩
abbrev b_MO_rankAll : ByteArray := prog_13_method_31_code
def y_MO_rankAll : MethodName := ⟨R_MO, "rankAll", "(I)V"⟩
abbrev b_MO_isLine : ByteArray := prog_13_method_32_code
def y_MO_isLine : MethodName := ⟨R_MO, "isLine", "(II)Z"⟩
abbrev b_MO_row : ByteArray := prog_13_method_33_code
def y_MO_row : MethodName := ⟨R_MO, "row", "(II)I"⟩
abbrev b_MO_distance : ByteArray := prog_13_method_34_code
def y_MO_distance : MethodName := ⟨R_MO, "distance", "(II)I"⟩
abbrev b_MO_lineWidth : ByteArray := prog_13_method_35_code
def y_MO_lineWidth : MethodName := ⟨R_MO, "lineWidth", "(III)I"⟩
abbrev b_MO_boardWidth : ByteArray := prog_13_method_36_code
def y_MO_boardWidth : MethodName := ⟨R_MO, "boardWidth", "(II)I"⟩
abbrev b_MO_size : ByteArray := prog_13_method_37_code
def y_MO_size : MethodName := ⟨R_MO, "size", "(III)I"⟩
abbrev b_MO_drawn : ByteArray := prog_13_method_38_code
def y_MO_drawn : MethodName := ⟨R_MO, "drawn", "(IIII)I"⟩
abbrev b_MO_isShown : ByteArray := prog_13_method_39_code
def y_MO_isShown : MethodName := ⟨R_MO, "isShown", "(II)Z"⟩
abbrev b_MO_shows : ByteArray := prog_13_method_40_code
def y_MO_shows : MethodName := ⟨R_MO, "shows", "(II)Z"⟩
abbrev b_MO_find : ByteArray := prog_13_method_41_code
def y_MO_find : MethodName := ⟨R_MO, "find", "(I)I"⟩
abbrev b_MO_breaks : ByteArray := prog_13_method_42_code
def y_MO_breaks : MethodName := ⟨R_MO, "breaks", "(II)I"⟩
abbrev b_MO_count : ByteArray := prog_13_method_43_code
def y_MO_count : MethodName := ⟨R_MO, "count", "(I)I"⟩
abbrev b_BO_init : ByteArray := prog_2_method_1_code
def y_BO_init : MethodName := ⟨R_BO, "<init>", "()V"⟩
abbrev b_BO_addLine : ByteArray := prog_2_method_2_code
def y_BO_addLine : MethodName := ⟨R_BO, "addLine", "(II)Z"⟩
abbrev b_BO_has : ByteArray := prog_2_method_3_code
def y_BO_has : MethodName := ⟨R_BO, "has", "(I)Z"⟩
abbrev b_BL_init : ByteArray := prog_3_method_1_code
def y_BL_init : MethodName := ⟨R_BL, "<init>", "([LSignBoards$Name;LSignBoards$Roads;)V"⟩
abbrev b_BL_gather : ByteArray := prog_3_method_2_code
def y_BL_gather : MethodName := ⟨R_BL, "gather", "(I)V"⟩
abbrev b_BL_part : ByteArray := prog_3_method_3_code
def y_BL_part : MethodName := ⟨R_BL, "part", "(II)I"⟩
abbrev b_BL_gatherOf : ByteArray := prog_3_method_4_code
def y_BL_gatherOf : MethodName := ⟨R_BL, "gatherOf", "(II)V"⟩
abbrev b_BL_add : ByteArray := prog_3_method_5_code
def y_BL_add : MethodName := ⟨R_BL, "add", "(III)V"⟩
abbrev b_LE_init : ByteArray := prog_4_method_1_code
def y_LE_init : MethodName := ⟨R_LE, "<init>", "()V"⟩
abbrev b_LE_setWidth : ByteArray := prog_4_method_2_code
def y_LE_setWidth : MethodName := ⟨R_LE, "setWidth", "(II)V"⟩
abbrev b_LE_setKern : ByteArray := prog_4_method_3_code
def y_LE_setKern : MethodName := ⟨R_LE, "setKern", "(III)Z"⟩
abbrev b_LE_fieldOf : ByteArray := prog_4_method_4_code
def y_LE_fieldOf : MethodName := ⟨R_LE, "fieldOf", "(LSignBoards$Name;)I"⟩
abbrev b_LE_startOf : ByteArray := prog_4_method_5_code
def y_LE_startOf : MethodName := ⟨R_LE, "startOf", "(LSignBoards$Name;I)I"⟩
abbrev b_LE_kernOf : ByteArray := prog_4_method_6_code
def y_LE_kernOf : MethodName := ⟨R_LE, "kernOf", "(II)I"⟩
abbrev b_LE_pairOf : ByteArray := prog_4_method_7_code
def y_LE_pairOf : MethodName := ⟨R_LE, "pairOf", "(II)I"⟩
abbrev b_LO_init : ByteArray := prog_5_method_1_code
def y_LO_init : MethodName := ⟨R_LO, "<init>", "([LSignBoards$Name;LSignBoards$Roads;)V"⟩
abbrev b_LO_arrange : ByteArray := prog_5_method_2_code
def y_LO_arrange : MethodName := ⟨R_LO, "arrange", "(LSignBoards$Board;I)V"⟩
abbrev b_LO_lineAt : ByteArray := prog_5_method_3_code
def y_LO_lineAt : MethodName := ⟨R_LO, "lineAt", "(I)I"⟩
abbrev b_LO_distanceAt : ByteArray := prog_5_method_4_code
def y_LO_distanceAt : MethodName := ⟨R_LO, "distanceAt", "(I)I"⟩
abbrev b_LO_insert : ByteArray := prog_5_method_5_code
def y_LO_insert : MethodName := ⟨R_LO, "insert", "(LSignBoards$Board;II)V"⟩
abbrev b_LO_goesBefore : ByteArray := prog_5_method_6_code
def y_LO_goesBefore : MethodName := ⟨R_LO, "goesBefore", "(LSignBoards$Board;III)Z"⟩
abbrev b_NA_init : ByteArray := prog_6_method_1_code
def y_NA_init : MethodName := ⟨R_NA, "<init>", "()V"⟩
abbrev b_NA_take : ByteArray := prog_6_method_2_code
def y_NA_take : MethodName := ⟨R_NA, "take", "(LSignBoards$Text;)V"⟩
abbrev b_NA_isBeforeByLetters : ByteArray := prog_6_method_3_code
def y_NA_isBeforeByLetters : MethodName := ⟨R_NA, "isBeforeByLetters", "(LSignBoards$Name;)Z"⟩
abbrev b_RO_init : ByteArray := prog_7_method_1_code
def y_RO_init : MethodName := ⟨R_RO, "<init>", "()V"⟩
abbrev b_RO_isWay : ByteArray := prog_7_method_2_code
def y_RO_isWay : MethodName := ⟨R_RO, "isWay", "(I)Z"⟩
abbrev b_RO_addWay : ByteArray := prog_7_method_3_code
def y_RO_addWay : MethodName := ⟨R_RO, "addWay", "(III)I"⟩
abbrev b_RO_show : ByteArray := prog_7_method_4_code
def y_RO_show : MethodName := ⟨R_RO, "show", "(II)V"⟩
abbrev b_RO_isShown : ByteArray := prog_7_method_5_code
def y_RO_isShown : MethodName := ⟨R_RO, "isShown", "(II)Z"⟩
abbrev b_RO_measureFrom : ByteArray := prog_7_method_6_code
def y_RO_measureFrom : MethodName := ⟨R_RO, "measureFrom", "(I)V"⟩
abbrev b_RO_shortenBy : ByteArray := prog_7_method_7_code
def y_RO_shortenBy : MethodName := ⟨R_RO, "shortenBy", "(I)Z"⟩
abbrev b_RO_nodesLedTo : ByteArray := prog_7_method_8_code
def y_RO_nodesLedTo : MethodName := ⟨R_RO, "nodesLedTo", "(II)I"⟩
abbrev b_RO_isShownFrom : ByteArray := prog_7_method_9_code
def y_RO_isShownFrom : MethodName := ⟨R_RO, "isShownFrom", "(II)Z"⟩
abbrev b_RR_init : ByteArray := prog_8_method_1_code
def y_RR_init : MethodName := ⟨R_RR, "<init>", "(LSignBoards$Text;)V"⟩
abbrev b_RR_read : ByteArray := prog_8_method_2_code
def y_RR_read : MethodName := ⟨R_RR, "read", "(LSignBoards$RuleSet;)I"⟩
abbrev b_RR_readRule : ByteArray := prog_8_method_3_code
def y_RR_readRule : MethodName := ⟨R_RR, "readRule", "()Z"⟩
abbrev b_RR_readHeights : ByteArray := prog_8_method_4_code
def y_RR_readHeights : MethodName := ⟨R_RR, "readHeights", "()Z"⟩
abbrev b_RR_readMargin : ByteArray := prog_8_method_5_code
def y_RR_readMargin : MethodName := ⟨R_RR, "readMargin", "()Z"⟩
abbrev b_RR_readOrder : ByteArray := prog_8_method_6_code
def y_RR_readOrder : MethodName := ⟨R_RR, "readOrder", "()Z"⟩
abbrev b_RR_readNumber : ByteArray := prog_8_method_7_code
def y_RR_readNumber : MethodName := ⟨R_RR, "readNumber", "(I)I"⟩
abbrev b_RR_pass : ByteArray := prog_8_method_8_code
def y_RR_pass : MethodName := ⟨R_RR, "pass", "(I)Z"⟩
abbrev b_RR_nextSign : ByteArray := prog_8_method_9_code
def y_RR_nextSign : MethodName := ⟨R_RR, "nextSign", "()I"⟩
abbrev b_RS_init : ByteArray := prog_9_method_1_code
def y_RS_init : MethodName := ⟨R_RS, "<init>", "()V"⟩
abbrev b_RS_setAsAtFirst : ByteArray := prog_9_method_2_code
def y_RS_setAsAtFirst : MethodName := ⟨R_RS, "setAsAtFirst", "()V"⟩
abbrev b_RS_addStep : ByteArray := prog_9_method_3_code
def y_RS_addStep : MethodName := ⟨R_RS, "addStep", "(II)V"⟩
abbrev b_RS_heightAt : ByteArray := prog_9_method_4_code
def y_RS_heightAt : MethodName := ⟨R_RS, "heightAt", "(I)I"⟩
abbrev b_SH_init : ByteArray := prog_10_method_1_code
def y_SH_init : MethodName := ⟨R_SH, "<init>", "([LSignBoards$Name;LSignBoards$Letters;)V"⟩
abbrev b_SH_lay : ByteArray := prog_10_method_2_code
def y_SH_lay : MethodName := ⟨R_SH, "lay", "(LSignBoards$Board;LSignBoards$RuleSet;I)V"⟩
abbrev b_SH_fullHeight : ByteArray := prog_10_method_3_code
def y_SH_fullHeight : MethodName := ⟨R_SH, "fullHeight", "()I"⟩
abbrev b_SH_itemOf : ByteArray := prog_10_method_4_code
def y_SH_itemOf : MethodName := ⟨R_SH, "itemOf", "(IIII)I"⟩
abbrev b_SH_nameOf : ByteArray := prog_10_method_5_code
def y_SH_nameOf : MethodName := ⟨R_SH, "nameOf", "(I)LSignBoards$Name;"⟩
abbrev b_SH_lineWidth : ByteArray := prog_10_method_6_code
def y_SH_lineWidth : MethodName := ⟨R_SH, "lineWidth", "(I)I"⟩
abbrev b_SH_lineLeft : ByteArray := prog_10_method_7_code
def y_SH_lineLeft : MethodName := ⟨R_SH, "lineLeft", "(I)I"⟩
abbrev b_SH_arrowLeft : ByteArray := prog_10_method_8_code
def y_SH_arrowLeft : MethodName := ⟨R_SH, "arrowLeft", "(I)I"⟩
abbrev b_SH_letterLeft : ByteArray := prog_10_method_9_code
def y_SH_letterLeft : MethodName := ⟨R_SH, "letterLeft", "(II)I"⟩
abbrev b_TX_init : ByteArray := prog_11_method_1_code
def y_TX_init : MethodName := ⟨R_TX, "<init>", "()V"⟩
abbrev b_TX_add : ByteArray := prog_11_method_2_code
def y_TX_add : MethodName := ⟨R_TX, "add", "(I)Z"⟩
abbrev b_TX_signAt : ByteArray := prog_11_method_3_code
def y_TX_signAt : MethodName := ⟨R_TX, "signAt", "(I)I"⟩
abbrev b_TX_clear : ByteArray := prog_11_method_4_code
def y_TX_clear : MethodName := ⟨R_TX, "clear", "()V"⟩
abbrev px_cl : List vw_C := [(R_SB, F_SB, 13), (R_TX, F_TX, 2), (R_RR, F_RR, 6), (R_RS, F_RS, 6), (R_LE, F_LE, 5), (R_RO, F_RO, 6), (R_LO, F_LO, 4), (R_SH, F_SH, 9), (R_BL, F_BL, 6), (R_NA, F_NA, 3), (R_BO, F_BO, 5), (R_MO, F_MO, 42)]
def px_tys (G : Nat → ClassId) : List (ClassId × FieldType) := [(G 0, .int), (G 1, .object "SignBoards$Name"), (G 2, .object "SignBoards$Board")]
def px_over : List String := ["SignBoards$Name", "SignBoards$Board"]
theorem ov_NA : R_NA ∈ px_over := by decide +kernel
theorem ov_BO : R_BO ∈ px_over := by decide +kernel
def px_fuel : Nat := 5000
