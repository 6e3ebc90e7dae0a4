section
-- ===== PART A: goes FIRST, ahead of the names: the tables' words, and 'selects' of the private methods out of them =====
/-- a private method of a class that the tables say can be made, by its rows of tables_1 -/
def lw_okq (q : MethodName × Nat) : Prop := (q.1.cls ≠ "java/lang/invoke/MethodHandle" ∧ q.1.cls ≠ "java/lang/invoke/VarHandle") ∧ Cond.instantiable q.1.cls q.2 ∈ tables_1 ∧ Cond.privateMethod q.1 ∈ tables_1 ∧ Cond.instanceMethod q.1 ∈ tables_1
theorem lw_p0 : lw_okq (⟨"LineCodes$Packer", "fillCosts", "(I)V"⟩, 3) := ⟨⟨by decide +kernel, by decide +kernel⟩, List.mem_of_getElem? (i := 42) (by decide +kernel), List.mem_of_getElem? (i := 118) (by decide +kernel), List.mem_of_getElem? (i := 119) (by decide +kernel)⟩
theorem lw_p1 : lw_okq (⟨"LineCodes$Packer", "costOfTelling", "(II)I"⟩, 3) := ⟨⟨by decide +kernel, by decide +kernel⟩, List.mem_of_getElem? (i := 42) (by decide +kernel), List.mem_of_getElem? (i := 123) (by decide +kernel), List.mem_of_getElem? (i := 124) (by decide +kernel)⟩
theorem lw_p2 : lw_okq (⟨"LineCodes$Packer", "cost", "(II)I"⟩, 3) := ⟨⟨by decide +kernel, by decide +kernel⟩, List.mem_of_getElem? (i := 42) (by decide +kernel), List.mem_of_getElem? (i := 131) (by decide +kernel), List.mem_of_getElem? (i := 132) (by decide +kernel)⟩
theorem lw_p3 : lw_okq (⟨"LineCodes$Packer", "setCost", "(III)V"⟩, 3) := ⟨⟨by decide +kernel, by decide +kernel⟩, List.mem_of_getElem? (i := 42) (by decide +kernel), List.mem_of_getElem? (i := 144) (by decide +kernel), List.mem_of_getElem? (i := 145) (by decide +kernel)⟩
theorem lw_p4 : lw_okq (⟨"LineCodes$Packer", "addSymbols", "()V"⟩, 3) := ⟨⟨by decide +kernel, by decide +kernel⟩, List.mem_of_getElem? (i := 42) (by decide +kernel), List.mem_of_getElem? (i := 152) (by decide +kernel), List.mem_of_getElem? (i := 153) (by decide +kernel)⟩
theorem lw_p5 : lw_okq (⟨"LineCodes$Packer", "cheapestFirstSet", "()I"⟩, 3) := ⟨⟨by decide +kernel, by decide +kernel⟩, List.mem_of_getElem? (i := 42) (by decide +kernel), List.mem_of_getElem? (i := 156) (by decide +kernel), List.mem_of_getElem? (i := 157) (by decide +kernel)⟩
theorem lw_p6 : lw_okq (⟨"LineCodes$Packer", "nextSet", "(II)I"⟩, 3) := ⟨⟨by decide +kernel, by decide +kernel⟩, List.mem_of_getElem? (i := 42) (by decide +kernel), List.mem_of_getElem? (i := 167) (by decide +kernel), List.mem_of_getElem? (i := 168) (by decide +kernel)⟩
theorem lw_p7 : lw_okq (⟨"LineCodes$Packer", "addTold", "(II)I"⟩, 3) := ⟨⟨by decide +kernel, by decide +kernel⟩, List.mem_of_getElem? (i := 42) (by decide +kernel), List.mem_of_getElem? (i := 171) (by decide +kernel), List.mem_of_getElem? (i := 172) (by decide +kernel)⟩
theorem lw_p8 : lw_okq (⟨"LineCodes$Packer", "checkSymbol", "()I"⟩, 3) := ⟨⟨by decide +kernel, by decide +kernel⟩, List.mem_of_getElem? (i := 42) (by decide +kernel), List.mem_of_getElem? (i := 181) (by decide +kernel), List.mem_of_getElem? (i := 182) (by decide +kernel)⟩
theorem lw_p9 : lw_okq (⟨"LineCodes$Reader", "isThirteen", "()Z"⟩, 5) := ⟨⟨by decide +kernel, by decide +kernel⟩, List.mem_of_getElem? (i := 58) (by decide +kernel), List.mem_of_getElem? (i := 222) (by decide +kernel), List.mem_of_getElem? (i := 223) (by decide +kernel)⟩
theorem lw_p10 : lw_okq (⟨"LineCodes$Reader", "areSidesAndMiddleRight", "()Z"⟩, 5) := ⟨⟨by decide +kernel, by decide +kernel⟩, List.mem_of_getElem? (i := 58) (by decide +kernel), List.mem_of_getElem? (i := 226) (by decide +kernel), List.mem_of_getElem? (i := 227) (by decide +kernel)⟩
theorem lw_p11 : lw_okq (⟨"LineCodes$Reader", "sumOf", "(II)I"⟩, 5) := ⟨⟨by decide +kernel, by decide +kernel⟩, List.mem_of_getElem? (i := 58) (by decide +kernel), List.mem_of_getElem? (i := 230) (by decide +kernel), List.mem_of_getElem? (i := 231) (by decide +kernel)⟩
theorem lw_p12 : lw_okq (⟨"LineCodes$Reader", "countsOf", "(IIII)I"⟩, 5) := ⟨⟨by decide +kernel, by decide +kernel⟩, List.mem_of_getElem? (i := 58) (by decide +kernel), List.mem_of_getElem? (i := 235) (by decide +kernel), List.mem_of_getElem? (i := 236) (by decide +kernel)⟩
theorem lw_p13 : lw_okq (⟨"LineCodes$Reader", "isLeftHalf", "()Z"⟩, 5) := ⟨⟨by decide +kernel, by decide +kernel⟩, List.mem_of_getElem? (i := 58) (by decide +kernel), List.mem_of_getElem? (i := 239) (by decide +kernel), List.mem_of_getElem? (i := 240) (by decide +kernel)⟩
theorem lw_p14 : lw_okq (⟨"LineCodes$Reader", "figureCountsAt", "(I)I"⟩, 5) := ⟨⟨by decide +kernel, by decide +kernel⟩, List.mem_of_getElem? (i := 58) (by decide +kernel), List.mem_of_getElem? (i := 244) (by decide +kernel), List.mem_of_getElem? (i := 245) (by decide +kernel)⟩
theorem lw_p15 : lw_okq (⟨"LineCodes$Reader", "isRightHalf", "()Z"⟩, 5) := ⟨⟨by decide +kernel, by decide +kernel⟩, List.mem_of_getElem? (i := 58) (by decide +kernel), List.mem_of_getElem? (i := 265) (by decide +kernel), List.mem_of_getElem? (i := 266) (by decide +kernel)⟩
def lw_privs_1 : List (MethodName × Nat) := [(⟨"LineCodes$Packer", "fillCosts", "(I)V"⟩, 3), (⟨"LineCodes$Packer", "costOfTelling", "(II)I"⟩, 3), (⟨"LineCodes$Packer", "cost", "(II)I"⟩, 3), (⟨"LineCodes$Packer", "setCost", "(III)V"⟩, 3), (⟨"LineCodes$Packer", "addSymbols", "()V"⟩, 3), (⟨"LineCodes$Packer", "cheapestFirstSet", "()I"⟩, 3), (⟨"LineCodes$Packer", "nextSet", "(II)I"⟩, 3), (⟨"LineCodes$Packer", "addTold", "(II)I"⟩, 3), (⟨"LineCodes$Packer", "checkSymbol", "()I"⟩, 3), (⟨"LineCodes$Reader", "isThirteen", "()Z"⟩, 5), (⟨"LineCodes$Reader", "areSidesAndMiddleRight", "()Z"⟩, 5), (⟨"LineCodes$Reader", "sumOf", "(II)I"⟩, 5), (⟨"LineCodes$Reader", "countsOf", "(IIII)I"⟩, 5), (⟨"LineCodes$Reader", "isLeftHalf", "()Z"⟩, 5), (⟨"LineCodes$Reader", "figureCountsAt", "(I)I"⟩, 5), (⟨"LineCodes$Reader", "isRightHalf", "()Z"⟩, 5)]
theorem lw_r1 : ∀ q ∈ lw_privs_1, lw_okq q := List.forall_mem_cons.mpr ⟨lw_p0, List.forall_mem_cons.mpr ⟨lw_p1, List.forall_mem_cons.mpr ⟨lw_p2, List.forall_mem_cons.mpr ⟨lw_p3, List.forall_mem_cons.mpr ⟨lw_p4, List.forall_mem_cons.mpr ⟨lw_p5, List.forall_mem_cons.mpr ⟨lw_p6, List.forall_mem_cons.mpr ⟨lw_p7, List.forall_mem_cons.mpr ⟨lw_p8, List.forall_mem_cons.mpr ⟨lw_p9, List.forall_mem_cons.mpr ⟨lw_p10, List.forall_mem_cons.mpr ⟨lw_p11, List.forall_mem_cons.mpr ⟨lw_p12, List.forall_mem_cons.mpr ⟨lw_p13, List.forall_mem_cons.mpr ⟨lw_p14, List.forall_mem_cons.mpr ⟨lw_p15, fun _ h => absurd h List.not_mem_nil⟩⟩⟩⟩⟩⟩⟩⟩⟩⟩⟩⟩⟩⟩⟩⟩
theorem lw_p16 : lw_okq (⟨"LineCodes$Reader", "isRow", "()Z"⟩, 5) := ⟨⟨by decide +kernel, by decide +kernel⟩, List.mem_of_getElem? (i := 58) (by decide +kernel), List.mem_of_getElem? (i := 272) (by decide +kernel), List.mem_of_getElem? (i := 273) (by decide +kernel)⟩
theorem lw_p17 : lw_okq (⟨"LineCodes$Reader", "isLastAt", "(I)Z"⟩, 5) := ⟨⟨by decide +kernel, by decide +kernel⟩, List.mem_of_getElem? (i := 58) (by decide +kernel), List.mem_of_getElem? (i := 276) (by decide +kernel), List.mem_of_getElem? (i := 277) (by decide +kernel)⟩
theorem lw_p18 : lw_okq (⟨"LineCodes$Reader", "symbolAt", "(I)I"⟩, 5) := ⟨⟨by decide +kernel, by decide +kernel⟩, List.mem_of_getElem? (i := 58) (by decide +kernel), List.mem_of_getElem? (i := 281) (by decide +kernel), List.mem_of_getElem? (i := 282) (by decide +kernel)⟩
theorem lw_p19 : lw_okq (⟨"LineCodes$Reader", "isTold", "(I)Z"⟩, 5) := ⟨⟨by decide +kernel, by decide +kernel⟩, List.mem_of_getElem? (i := 58) (by decide +kernel), List.mem_of_getElem? (i := 293) (by decide +kernel), List.mem_of_getElem? (i := 294) (by decide +kernel)⟩
theorem lw_p20 : lw_okq (⟨"LineCodes$Reader", "isSwitched", "(I)Z"⟩, 5) := ⟨⟨by decide +kernel, by decide +kernel⟩, List.mem_of_getElem? (i := 58) (by decide +kernel), List.mem_of_getElem? (i := 301) (by decide +kernel), List.mem_of_getElem? (i := 302) (by decide +kernel)⟩
theorem lw_p21 : lw_okq (⟨"java/lang/Throwable", "fillInStackTrace", "(I)Ljava/lang/Throwable;"⟩, 6) := ⟨⟨by decide +kernel, by decide +kernel⟩, List.mem_of_getElem? (i := 377) (by decide +kernel), List.mem_of_getElem? (i := 375) (by decide +kernel), List.mem_of_getElem? (i := 376) (by decide +kernel)⟩
theorem lw_p22 : lw_okq (⟨"LineCodes", "addWidths", "(II)V"⟩, 5) := ⟨⟨by decide +kernel, by decide +kernel⟩, List.mem_of_getElem? (i := 17) (by decide +kernel), List.mem_of_getElem? (i := 455) (by decide +kernel), List.mem_of_getElem? (i := 456) (by decide +kernel)⟩
theorem lw_p23 : lw_okq (⟨"LineCodesModel", "relax", "()V"⟩, 18) := ⟨⟨by decide +kernel, by decide +kernel⟩, List.mem_of_getElem? (i := 529) (by decide +kernel), List.mem_of_getElem? (i := 714) (by decide +kernel), List.mem_of_getElem? (i := 715) (by decide +kernel)⟩
theorem lw_p24 : lw_okq (⟨"LineCodesModel", "with", "(III)I"⟩, 18) := ⟨⟨by decide +kernel, by decide +kernel⟩, List.mem_of_getElem? (i := 529) (by decide +kernel), List.mem_of_getElem? (i := 718) (by decide +kernel), List.mem_of_getElem? (i := 719) (by decide +kernel)⟩
theorem lw_p25 : lw_okq (⟨"LineCodesModel", "tells", "(III)I"⟩, 18) := ⟨⟨by decide +kernel, by decide +kernel⟩, List.mem_of_getElem? (i := 529) (by decide +kernel), List.mem_of_getElem? (i := 722) (by decide +kernel), List.mem_of_getElem? (i := 723) (by decide +kernel)⟩
theorem lw_p26 : lw_okq (⟨"LineCodesModel", "at", "(I)I"⟩, 18) := ⟨⟨by decide +kernel, by decide +kernel⟩, List.mem_of_getElem? (i := 529) (by decide +kernel), List.mem_of_getElem? (i := 726) (by decide +kernel), List.mem_of_getElem? (i := 727) (by decide +kernel)⟩
theorem lw_p27 : lw_okq (⟨"LineCodesModel", "isPair", "(II)Z"⟩, 18) := ⟨⟨by decide +kernel, by decide +kernel⟩, List.mem_of_getElem? (i := 529) (by decide +kernel), List.mem_of_getElem? (i := 730) (by decide +kernel), List.mem_of_getElem? (i := 731) (by decide +kernel)⟩
theorem lw_p28 : lw_okq (⟨"LineCodesModel", "leastAt", "(II)I"⟩, 18) := ⟨⟨by decide +kernel, by decide +kernel⟩, List.mem_of_getElem? (i := 529) (by decide +kernel), List.mem_of_getElem? (i := 737) (by decide +kernel), List.mem_of_getElem? (i := 738) (by decide +kernel)⟩
theorem lw_p29 : lw_okq (⟨"LineCodesModel", "isOther", "(II)Z"⟩, 18) := ⟨⟨by decide +kernel, by decide +kernel⟩, List.mem_of_getElem? (i := 529) (by decide +kernel), List.mem_of_getElem? (i := 744) (by decide +kernel), List.mem_of_getElem? (i := 745) (by decide +kernel)⟩
theorem lw_p30 : lw_okq (⟨"LineCodesModel", "add", "(I)V"⟩, 18) := ⟨⟨by decide +kernel, by decide +kernel⟩, List.mem_of_getElem? (i := 529) (by decide +kernel), List.mem_of_getElem? (i := 748) (by decide +kernel), List.mem_of_getElem? (i := 749) (by decide +kernel)⟩
theorem lw_p31 : lw_okq (⟨"LineCodesModel", "lay", "(III)V"⟩, 18) := ⟨⟨by decide +kernel, by decide +kernel⟩, List.mem_of_getElem? (i := 529) (by decide +kernel), List.mem_of_getElem? (i := 766) (by decide +kernel), List.mem_of_getElem? (i := 767) (by decide +kernel)⟩
def lw_privs_2 : List (MethodName × Nat) := [(⟨"LineCodes$Reader", "isRow", "()Z"⟩, 5), (⟨"LineCodes$Reader", "isLastAt", "(I)Z"⟩, 5), (⟨"LineCodes$Reader", "symbolAt", "(I)I"⟩, 5), (⟨"LineCodes$Reader", "isTold", "(I)Z"⟩, 5), (⟨"LineCodes$Reader", "isSwitched", "(I)Z"⟩, 5), (⟨"java/lang/Throwable", "fillInStackTrace", "(I)Ljava/lang/Throwable;"⟩, 6), (⟨"LineCodes", "addWidths", "(II)V"⟩, 5), (⟨"LineCodesModel", "relax", "()V"⟩, 18), (⟨"LineCodesModel", "with", "(III)I"⟩, 18), (⟨"LineCodesModel", "tells", "(III)I"⟩, 18), (⟨"LineCodesModel", "at", "(I)I"⟩, 18), (⟨"LineCodesModel", "isPair", "(II)Z"⟩, 18), (⟨"LineCodesModel", "leastAt", "(II)I"⟩, 18), (⟨"LineCodesModel", "isOther", "(II)Z"⟩, 18), (⟨"LineCodesModel", "add", "(I)V"⟩, 18), (⟨"LineCodesModel", "lay", "(III)V"⟩, 18)]
theorem lw_r2 : ∀ q ∈ lw_privs_2, lw_okq q := List.forall_mem_cons.mpr ⟨lw_p16, List.forall_mem_cons.mpr ⟨lw_p17, List.forall_mem_cons.mpr ⟨lw_p18, List.forall_mem_cons.mpr ⟨lw_p19, List.forall_mem_cons.mpr ⟨lw_p20, List.forall_mem_cons.mpr ⟨lw_p21, List.forall_mem_cons.mpr ⟨lw_p22, List.forall_mem_cons.mpr ⟨lw_p23, List.forall_mem_cons.mpr ⟨lw_p24, List.forall_mem_cons.mpr ⟨lw_p25, List.forall_mem_cons.mpr ⟨lw_p26, List.forall_mem_cons.mpr ⟨lw_p27, List.forall_mem_cons.mpr ⟨lw_p28, List.forall_mem_cons.mpr ⟨lw_p29, List.forall_mem_cons.mpr ⟨lw_p30, List.forall_mem_cons.mpr ⟨lw_p31, fun _ h => absurd h List.not_mem_nil⟩⟩⟩⟩⟩⟩⟩⟩⟩⟩⟩⟩⟩⟩⟩⟩
theorem lw_p32 : lw_okq (⟨"LineCodesModel", "isTurned", "(II)Z"⟩, 18) := ⟨⟨by decide +kernel, by decide +kernel⟩, List.mem_of_getElem? (i := 529) (by decide +kernel), List.mem_of_getElem? (i := 788) (by decide +kernel), List.mem_of_getElem? (i := 789) (by decide +kernel)⟩
theorem lw_p33 : lw_okq (⟨"LineCodesModel", "reverse", "([I[I)V"⟩, 18) := ⟨⟨by decide +kernel, by decide +kernel⟩, List.mem_of_getElem? (i := 529) (by decide +kernel), List.mem_of_getElem? (i := 815) (by decide +kernel), List.mem_of_getElem? (i := 816) (by decide +kernel)⟩
theorem lw_p34 : lw_okq (⟨"LineCodesModel", "isSome", "()Z"⟩, 18) := ⟨⟨by decide +kernel, by decide +kernel⟩, List.mem_of_getElem? (i := 529) (by decide +kernel), List.mem_of_getElem? (i := 823) (by decide +kernel), List.mem_of_getElem? (i := 824) (by decide +kernel)⟩
theorem lw_p35 : lw_okq (⟨"LineCodesModel", "isThirteen", "()Z"⟩, 18) := ⟨⟨by decide +kernel, by decide +kernel⟩, List.mem_of_getElem? (i := 529) (by decide +kernel), List.mem_of_getElem? (i := 827) (by decide +kernel), List.mem_of_getElem? (i := 828) (by decide +kernel)⟩
theorem lw_p36 : lw_okq (⟨"LineCodesModel", "sumOf", "(II)I"⟩, 18) := ⟨⟨by decide +kernel, by decide +kernel⟩, List.mem_of_getElem? (i := 529) (by decide +kernel), List.mem_of_getElem? (i := 831) (by decide +kernel), List.mem_of_getElem? (i := 832) (by decide +kernel)⟩
theorem lw_p37 : lw_okq (⟨"LineCodesModel", "counts", "(IIII)I"⟩, 18) := ⟨⟨by decide +kernel, by decide +kernel⟩, List.mem_of_getElem? (i := 529) (by decide +kernel), List.mem_of_getElem? (i := 835) (by decide +kernel), List.mem_of_getElem? (i := 836) (by decide +kernel)⟩
theorem lw_p38 : lw_okq (⟨"LineCodesModel", "tell", "(I)V"⟩, 18) := ⟨⟨by decide +kernel, by decide +kernel⟩, List.mem_of_getElem? (i := 529) (by decide +kernel), List.mem_of_getElem? (i := 842) (by decide +kernel), List.mem_of_getElem? (i := 843) (by decide +kernel)⟩
theorem lw_p39 : lw_okq (⟨"LineCodesModel", "isRow", "(I)Z"⟩, 18) := ⟨⟨by decide +kernel, by decide +kernel⟩, List.mem_of_getElem? (i := 529) (by decide +kernel), List.mem_of_getElem? (i := 846) (by decide +kernel), List.mem_of_getElem? (i := 847) (by decide +kernel)⟩
def lw_privs_3 : List (MethodName × Nat) := [(⟨"LineCodesModel", "isTurned", "(II)Z"⟩, 18), (⟨"LineCodesModel", "reverse", "([I[I)V"⟩, 18), (⟨"LineCodesModel", "isSome", "()Z"⟩, 18), (⟨"LineCodesModel", "isThirteen", "()Z"⟩, 18), (⟨"LineCodesModel", "sumOf", "(II)I"⟩, 18), (⟨"LineCodesModel", "counts", "(IIII)I"⟩, 18), (⟨"LineCodesModel", "tell", "(I)V"⟩, 18), (⟨"LineCodesModel", "isRow", "(I)Z"⟩, 18)]
theorem lw_r3 : ∀ q ∈ lw_privs_3, lw_okq q := List.forall_mem_cons.mpr ⟨lw_p32, List.forall_mem_cons.mpr ⟨lw_p33, List.forall_mem_cons.mpr ⟨lw_p34, List.forall_mem_cons.mpr ⟨lw_p35, List.forall_mem_cons.mpr ⟨lw_p36, List.forall_mem_cons.mpr ⟨lw_p37, List.forall_mem_cons.mpr ⟨lw_p38, List.forall_mem_cons.mpr ⟨lw_p39, fun _ h => absurd h List.not_mem_nil⟩⟩⟩⟩⟩⟩⟩⟩
def lw_privs : List (MethodName × Nat) := lw_privs_1 ++ (lw_privs_2 ++ (lw_privs_3))
def lw_tbl : List Cond := k2_sels lw_privs ++ tables_1
theorem lw_privs_ok : ∀ q ∈ lw_privs, lw_okq q := by
  show ∀ q ∈ lw_privs_1 ++ (lw_privs_2 ++ (lw_privs_3)), lw_okq q
  exact List.forall_mem_append.mpr ⟨lw_r1, List.forall_mem_append.mpr ⟨lw_r2, lw_r3⟩⟩

/-! The tables' words that every callee may ask for: one list for all methods. -/
def tb : List Cond := lw_tbl.filter goodWord
theorem tb_at {w : Cond} (i : Nat) (h : lw_tbl[i]? = some w) (hg : goodWord w = true) : w ∈ tb := List.mem_filter.mpr ⟨List.mem_of_getElem? h, hg⟩
theorem tb_good : GoodIn tb tb := fun w h => ⟨h, good_of_word (List.mem_filter.mp h).2⟩
theorem tb_sub {args : Array Value} {s : State} (h : ∀ w ∈ lw_tbl, w.before args s = true) : ∀ w ∈ tb, w.before args s = true := fun w hw => h w (List.mem_filter.mp hw).1
theorem g_C {v : Cond} (h5 : v ∈ tb) : GoodIn tb (v :: tb) := fun w hw => (List.mem_cons.mp hw).elim (fun e => e ▸ tb_good v h5) (tb_good w)
theorem g_V {own C : String} {idx : Nat} {y : MethodName} {v : Cond} (h1 : Cond.methodLink own idx y ∈ tb) (h2 : Cond.instanceMethod y ∈ tb) (h3 : Cond.selects C y y ∈ tb) (h4 : Cond.initialized C ∈ tb) (h5 : v ∈ tb) : GoodIn tb (wsV own idx C y (v :: tb)) := by
  intro w hw
  unfold wsV at hw
  rcases List.mem_append.mp hw with hw | hw
  · simp only [List.mem_cons, List.not_mem_nil, or_false] at hw
    rcases hw with rfl | rfl | rfl | rfl
    · exact tb_good _ h1
    · exact tb_good _ h2
    · exact tb_good _ h3
    · exact tb_good _ h4
  · exact g_C h5 w hw
theorem g_S {own : String} {idx : Nat} {y : MethodName} {v : Cond} (h1 : Cond.methodLink own idx y ∈ tb) (h2 : Cond.static y ∈ tb) (h4 : Cond.initialized y.cls ∈ tb) (h5 : v ∈ tb) : GoodIn tb (va_wsS own idx y (v :: tb)) := by
  intro w hw
  unfold va_wsS at hw
  rcases List.mem_append.mp hw with hw | hw
  · simp only [List.mem_cons, List.not_mem_nil, or_false] at hw
    rcases hw with rfl | rfl | rfl
    · exact tb_good _ h1
    · exact tb_good _ h2
    · exact tb_good _ h4
  · exact g_C h5 w hw
/-- a table of numbers -/
def tabL (l : List Nat) : Nat → Int32 := fun j => nI (l.getD j 0)
def symL : List Nat := [212222, 222122, 222221, 121223, 121322, 131222, 122213, 122312, 132212, 221213, 221312, 231212,
  112232, 122132, 122231, 113222, 123122, 123221, 223211, 221132, 221231, 213212, 223112, 312131,
  311222, 321122, 321221, 312212, 322112, 322211, 212123, 212321, 232121, 111323, 131123, 131321,
  112313, 132113, 132311, 211313, 231113, 231311, 112133, 112331, 132131, 113123, 113321, 133121,
  313121, 211331, 231131, 213113, 213311, 213131, 311123, 311321, 331121, 312113, 312311, 332111,
  314111, 221411, 431111, 111224, 111422, 121124, 121421, 141122, 141221, 112214, 112412, 122114,
  122411, 142112, 142211, 241211, 221114, 413111, 241112, 134111, 111242, 121142, 121241, 114212,
  124112, 124211, 411212, 421112, 421211, 212141, 214121, 412121, 111143, 111341, 131141, 114113,
  114311, 411113, 411311, 113141, 114131, 311141, 411131, 211412, 211214, 211232]
def figL : List Nat := [3211, 2221, 2122, 1411, 1132, 1231, 1114, 1312, 1213, 3112]
def trnL : List Nat := [0, 11, 13, 14, 19, 25, 28, 21, 22, 26]
def tabS : Nat → Int32 := tabL symL
def tabF : Nat → Int32 := tabL figL
def tabT : Nat → Int32 := tabL trnL
/-- the class's static tables, at the addresses ad -/
def sk (ad : Nat → Nat) (A : Nat → Prop) (U : State) (H : Heap) : Prop :=
  va_Z "LineCodes$Widths" "SYMBOLS" "[I" (.ref (ad 0)) A U H ∧ va_T .int (ad 0) 106 (fun j => .int (tabS j)) A U H ∧
  va_Z "LineCodes$Widths" "FIGURES" "[I" (.ref (ad 1)) A U H ∧ va_T .int (ad 1) 10 (fun j => .int (tabF j)) A U H ∧
  va_Z "LineCodes$Widths" "TURNS" "[I" (.ref (ad 2)) A U H ∧ va_T .int (ad 2) 10 (fun j => .int (tabT j)) A U H
/-- what the start gives holds the tables -/
def zs (Z : (Nat → Prop) → State → Heap → Prop) (ad : Nat → Nat) : Prop := ∀ (A : Nat → Prop) (U : State) (H : Heap), Z A U H → sk ad A U H
end
section
def R_Lw : String := "LineCodesLaw"
def R_Lc : String := "LineCodes"
def R_It : String := "LineCodes$Items"
def R_Se : String := "LineCodes$Sets"
def R_Wi : String := "LineCodes$Widths"
def R_Fi : String := "LineCodes$Figures"
def R_Pa : String := "LineCodes$Packer"
def R_Re : String := "LineCodes$Reader"
def R_Md : String := "LineCodesModel"
def T_It : u_T := fun k => match k with
  | 0 => ("LineCodes$Items", "items", "[I", true)
  | _ => ("LineCodes$Items", "count", "I", false)
def ty_It : Nat → FieldType := fun k => match k with
  | 0 => .array .int
  | _ => .int
theorem nn_It : ∀ a, a < 2 → ∀ b, b < 2 → a ≠ b → (T_It a).2.1 ≠ (T_It b).2.1 := by decide +kernel
theorem tk_It : ∀ k, k < 2 → parseFieldDescriptor (T_It k).2.2.1 = some (ty_It k) := by decide +kernel
def T_Pa : u_T := fun k => match k with
  | 0 => ("LineCodes$Packer", "text", "LLineCodes$Items;", true)
  | 1 => ("LineCodes$Packer", "row", "LLineCodes$Items;", true)
  | _ => ("LineCodes$Packer", "costs", "[I", true)
def ty_Pa : Nat → FieldType := fun k => match k with
  | 0 => .object "LineCodes$Items"
  | 1 => .object "LineCodes$Items"
  | _ => .array .int
theorem nn_Pa : ∀ a, a < 3 → ∀ b, b < 3 → a ≠ b → (T_Pa a).2.1 ≠ (T_Pa b).2.1 := by decide +kernel
theorem tk_Pa : ∀ k, k < 3 → parseFieldDescriptor (T_Pa k).2.2.1 = some (ty_Pa k) := by decide +kernel
def T_Re : u_T := fun k => match k with
  | 0 => ("LineCodes$Reader", "strip", "LLineCodes$Items;", true)
  | 1 => ("LineCodes$Reader", "told", "LLineCodes$Items;", true)
  | 2 => ("LineCodes$Reader", "fromBack", "Z", false)
  | 3 => ("LineCodes$Reader", "set", "I", false)
  | _ => ("LineCodes$Reader", "shifted", "Z", false)
def ty_Re : Nat → FieldType := fun k => match k with
  | 0 => .object "LineCodes$Items"
  | 1 => .object "LineCodes$Items"
  | 2 => .boolean
  | 3 => .int
  | _ => .boolean
theorem nn_Re : ∀ a, a < 5 → ∀ b, b < 5 → a ≠ b → (T_Re a).2.1 ≠ (T_Re b).2.1 := by decide +kernel
theorem tk_Re : ∀ k, k < 5 → parseFieldDescriptor (T_Re k).2.2.1 = some (ty_Re k) := by decide +kernel
def T_Lc : u_T := fun k => match k with
  | 0 => ("LineCodes", "text", "LLineCodes$Items;", true)
  | 1 => ("LineCodes", "row", "LLineCodes$Items;", true)
  | 2 => ("LineCodes", "strip", "LLineCodes$Items;", true)
  | 3 => ("LineCodes", "packer", "LLineCodes$Packer;", true)
  | _ => ("LineCodes", "reader", "LLineCodes$Reader;", true)
def ty_Lc : Nat → FieldType := fun k => match k with
  | 0 => .object "LineCodes$Items"
  | 1 => .object "LineCodes$Items"
  | 2 => .object "LineCodes$Items"
  | 3 => .object "LineCodes$Packer"
  | _ => .object "LineCodes$Reader"
theorem nn_Lc : ∀ a, a < 5 → ∀ b, b < 5 → a ≠ b → (T_Lc a).2.1 ≠ (T_Lc b).2.1 := by decide +kernel
theorem tk_Lc : ∀ k, k < 5 → parseFieldDescriptor (T_Lc k).2.2.1 = some (ty_Lc k) := by decide +kernel
def T_Md : u_T := fun k => match k with
  | 0 => ("LineCodesModel", "bars", "[I", true)
  | 1 => ("LineCodesModel", "figures", "[I", true)
  | 2 => ("LineCodesModel", "turns", "[I", true)
  | 3 => ("LineCodesModel", "thrown", "I", false)
  | 4 => ("LineCodesModel", "text", "[I", true)
  | 5 => ("LineCodesModel", "length", "I", false)
  | 6 => ("LineCodesModel", "least", "[I", true)
  | 7 => ("LineCodesModel", "row", "[I", true)
  | 8 => ("LineCodesModel", "symbols", "I", false)
  | 9 => ("LineCodesModel", "strip", "[I", true)
  | 10 => ("LineCodesModel", "widths", "I", false)
  | 11 => ("LineCodesModel", "turned", "[I", true)
  | 12 => ("LineCodesModel", "found", "[I", true)
  | 13 => ("LineCodesModel", "signs", "[I", true)
  | 14 => ("LineCodesModel", "told", "I", false)
  | 15 => ("LineCodesModel", "back", "Z", false)
  | 16 => ("LineCodesModel", "draft", "[I", true)
  | _ => ("LineCodesModel", "drafted", "I", false)
def ty_Md : Nat → FieldType := fun k => match k with
  | 0 => .array .int
  | 1 => .array .int
  | 2 => .array .int
  | 3 => .int
  | 4 => .array .int
  | 5 => .int
  | 6 => .array .int
  | 7 => .array .int
  | 8 => .int
  | 9 => .array .int
  | 10 => .int
  | 11 => .array .int
  | 12 => .array .int
  | 13 => .array .int
  | 14 => .int
  | 15 => .boolean
  | 16 => .array .int
  | _ => .int
theorem nn_Md : ∀ a, a < 18 → ∀ b, b < 18 → a ≠ b → (T_Md a).2.1 ≠ (T_Md b).2.1 := by decide +kernel
theorem tk_Md : ∀ k, k < 18 → parseFieldDescriptor (T_Md k).2.2.1 = some (ty_Md k) := by decide +kernel
abbrev vwCl : List vw_C := [(R_It, T_It, 2), (R_Pa, T_Pa, 3), (R_Re, T_Re, 5), (R_Lc, T_Lc, 5), (R_Md, T_Md, 18)]
abbrev c_Lc_init : ByteArray := prog_1_method_1_code
def y_Lc_init : MethodName := ⟨R_Lc, "<init>", "()V"⟩
abbrev wc_Lc_init : Cond := .code y_Lc_init c_Lc_init 1 none
abbrev ws_Lc_init : List Cond := wc_Lc_init :: tb
theorem hd_Lc_init : y_Lc_init.cls = R_Lc ∧ y_Lc_init.cls ≠ "java/lang/invoke/MethodHandle" ∧ y_Lc_init.cls ≠ "java/lang/invoke/VarHandle" ∧ (parseMethodDescriptor y_Lc_init.desc).map (fun d => d.parameters.length) = some 0 := by decide +kernel
abbrev c_Lc_write : ByteArray := prog_1_method_2_code
def y_Lc_write : MethodName := ⟨R_Lc, "write", "(IJ)I"⟩
abbrev wc_Lc_write : Cond := .code y_Lc_write c_Lc_write 5 (some .int)
abbrev ws_Lc_write : List Cond := wc_Lc_write :: tb
theorem hd_Lc_write : y_Lc_write.cls = R_Lc ∧ y_Lc_write.cls ≠ "java/lang/invoke/MethodHandle" ∧ y_Lc_write.cls ≠ "java/lang/invoke/VarHandle" ∧ (parseMethodDescriptor y_Lc_write.desc).map (fun d => d.parameters.length) = some 2 := by decide +kernel
abbrev c_Lc_wipe : ByteArray := prog_1_method_3_code
def y_Lc_wipe : MethodName := ⟨R_Lc, "wipe", "()I"⟩
abbrev wc_Lc_wipe : Cond := .code y_Lc_wipe c_Lc_wipe 1 (some .int)
abbrev ws_Lc_wipe : List Cond := wc_Lc_wipe :: tb
theorem hd_Lc_wipe : y_Lc_wipe.cls = R_Lc ∧ y_Lc_wipe.cls ≠ "java/lang/invoke/MethodHandle" ∧ y_Lc_wipe.cls ≠ "java/lang/invoke/VarHandle" ∧ (parseMethodDescriptor y_Lc_wipe.desc).map (fun d => d.parameters.length) = some 0 := by decide +kernel
abbrev c_Lc_pack : ByteArray := prog_1_method_4_code
def y_Lc_pack : MethodName := ⟨R_Lc, "pack", "()I"⟩
abbrev wc_Lc_pack : Cond := .code y_Lc_pack c_Lc_pack 1 (some .int)
abbrev ws_Lc_pack : List Cond := wc_Lc_pack :: tb
theorem hd_Lc_pack : y_Lc_pack.cls = R_Lc ∧ y_Lc_pack.cls ≠ "java/lang/invoke/MethodHandle" ∧ y_Lc_pack.cls ≠ "java/lang/invoke/VarHandle" ∧ (parseMethodDescriptor y_Lc_pack.desc).map (fun d => d.parameters.length) = some 0 := by decide +kernel
abbrev c_Lc_symbol : ByteArray := prog_1_method_5_code
def y_Lc_symbol : MethodName := ⟨R_Lc, "symbol", "(I)I"⟩
abbrev wc_Lc_symbol : Cond := .code y_Lc_symbol c_Lc_symbol 2 (some .int)
abbrev ws_Lc_symbol : List Cond := wc_Lc_symbol :: tb
theorem hd_Lc_symbol : y_Lc_symbol.cls = R_Lc ∧ y_Lc_symbol.cls ≠ "java/lang/invoke/MethodHandle" ∧ y_Lc_symbol.cls ≠ "java/lang/invoke/VarHandle" ∧ (parseMethodDescriptor y_Lc_symbol.desc).map (fun d => d.parameters.length) = some 1 := by decide +kernel
abbrev c_Lc_bars : ByteArray := prog_1_method_6_code
def y_Lc_bars : MethodName := ⟨R_Lc, "bars", "(I)I"⟩
abbrev wc_Lc_bars : Cond := .code y_Lc_bars c_Lc_bars 3 (some .int)
abbrev ws_Lc_bars : List Cond := wc_Lc_bars :: tb
theorem hd_Lc_bars : y_Lc_bars.cls = R_Lc ∧ y_Lc_bars.cls ≠ "java/lang/invoke/MethodHandle" ∧ y_Lc_bars.cls ≠ "java/lang/invoke/VarHandle" ∧ (parseMethodDescriptor y_Lc_bars.desc).map (fun d => d.parameters.length) = some 1 := by decide +kernel
abbrev c_Lc_checkFigure : ByteArray := prog_1_method_7_code
def y_Lc_checkFigure : MethodName := ⟨R_Lc, "checkFigure", "(J)I"⟩
abbrev wc_Lc_checkFigure : Cond := .code y_Lc_checkFigure c_Lc_checkFigure 3 (some .int)
abbrev ws_Lc_checkFigure : List Cond := wc_Lc_checkFigure :: tb
theorem hd_Lc_checkFigure : y_Lc_checkFigure.cls = R_Lc ∧ y_Lc_checkFigure.cls ≠ "java/lang/invoke/MethodHandle" ∧ y_Lc_checkFigure.cls ≠ "java/lang/invoke/VarHandle" ∧ (parseMethodDescriptor y_Lc_checkFigure.desc).map (fun d => d.parameters.length) = some 1 := by decide +kernel
abbrev c_Lc_thirteen : ByteArray := prog_1_method_8_code
def y_Lc_thirteen : MethodName := ⟨R_Lc, "thirteen", "(JI)I"⟩
abbrev wc_Lc_thirteen : Cond := .code y_Lc_thirteen c_Lc_thirteen 8 (some .int)
abbrev ws_Lc_thirteen : List Cond := wc_Lc_thirteen :: tb
theorem hd_Lc_thirteen : y_Lc_thirteen.cls = R_Lc ∧ y_Lc_thirteen.cls ≠ "java/lang/invoke/MethodHandle" ∧ y_Lc_thirteen.cls ≠ "java/lang/invoke/VarHandle" ∧ (parseMethodDescriptor y_Lc_thirteen.desc).map (fun d => d.parameters.length) = some 2 := by decide +kernel
abbrev c_Lc_put : ByteArray := prog_1_method_9_code
def y_Lc_put : MethodName := ⟨R_Lc, "put", "(IJ)I"⟩
abbrev wc_Lc_put : Cond := .code y_Lc_put c_Lc_put 5 (some .int)
abbrev ws_Lc_put : List Cond := wc_Lc_put :: tb
theorem hd_Lc_put : y_Lc_put.cls = R_Lc ∧ y_Lc_put.cls ≠ "java/lang/invoke/MethodHandle" ∧ y_Lc_put.cls ≠ "java/lang/invoke/VarHandle" ∧ (parseMethodDescriptor y_Lc_put.desc).map (fun d => d.parameters.length) = some 2 := by decide +kernel
abbrev c_Lc_clear : ByteArray := prog_1_method_10_code
def y_Lc_clear : MethodName := ⟨R_Lc, "clear", "()I"⟩
abbrev wc_Lc_clear : Cond := .code y_Lc_clear c_Lc_clear 1 (some .int)
abbrev ws_Lc_clear : List Cond := wc_Lc_clear :: tb
theorem hd_Lc_clear : y_Lc_clear.cls = R_Lc ∧ y_Lc_clear.cls ≠ "java/lang/invoke/MethodHandle" ∧ y_Lc_clear.cls ≠ "java/lang/invoke/VarHandle" ∧ (parseMethodDescriptor y_Lc_clear.desc).map (fun d => d.parameters.length) = some 0 := by decide +kernel
abbrev c_Lc_width : ByteArray := prog_1_method_11_code
def y_Lc_width : MethodName := ⟨R_Lc, "width", "(I)I"⟩
abbrev wc_Lc_width : Cond := .code y_Lc_width c_Lc_width 2 (some .int)
abbrev ws_Lc_width : List Cond := wc_Lc_width :: tb
theorem hd_Lc_width : y_Lc_width.cls = R_Lc ∧ y_Lc_width.cls ≠ "java/lang/invoke/MethodHandle" ∧ y_Lc_width.cls ≠ "java/lang/invoke/VarHandle" ∧ (parseMethodDescriptor y_Lc_width.desc).map (fun d => d.parameters.length) = some 1 := by decide +kernel
abbrev c_Lc_spoil : ByteArray := prog_1_method_12_code
def y_Lc_spoil : MethodName := ⟨R_Lc, "spoil", "(II)I"⟩
abbrev wc_Lc_spoil : Cond := .code y_Lc_spoil c_Lc_spoil 3 (some .int)
abbrev ws_Lc_spoil : List Cond := wc_Lc_spoil :: tb
theorem hd_Lc_spoil : y_Lc_spoil.cls = R_Lc ∧ y_Lc_spoil.cls ≠ "java/lang/invoke/MethodHandle" ∧ y_Lc_spoil.cls ≠ "java/lang/invoke/VarHandle" ∧ (parseMethodDescriptor y_Lc_spoil.desc).map (fun d => d.parameters.length) = some 2 := by decide +kernel
abbrev c_Lc_turn : ByteArray := prog_1_method_13_code
def y_Lc_turn : MethodName := ⟨R_Lc, "turn", "()I"⟩
abbrev wc_Lc_turn : Cond := .code y_Lc_turn c_Lc_turn 1 (some .int)
abbrev ws_Lc_turn : List Cond := wc_Lc_turn :: tb
theorem hd_Lc_turn : y_Lc_turn.cls = R_Lc ∧ y_Lc_turn.cls ≠ "java/lang/invoke/MethodHandle" ∧ y_Lc_turn.cls ≠ "java/lang/invoke/VarHandle" ∧ (parseMethodDescriptor y_Lc_turn.desc).map (fun d => d.parameters.length) = some 0 := by decide +kernel
abbrev c_Lc_read : ByteArray := prog_1_method_14_code
def y_Lc_read : MethodName := ⟨R_Lc, "read", "()I"⟩
abbrev wc_Lc_read : Cond := .code y_Lc_read c_Lc_read 2 (some .int)
abbrev ws_Lc_read : List Cond := wc_Lc_read :: tb
theorem hd_Lc_read : y_Lc_read.cls = R_Lc ∧ y_Lc_read.cls ≠ "java/lang/invoke/MethodHandle" ∧ y_Lc_read.cls ≠ "java/lang/invoke/VarHandle" ∧ (parseMethodDescriptor y_Lc_read.desc).map (fun d => d.parameters.length) = some 0 := by decide +kernel
abbrev c_Lc_sign : ByteArray := prog_1_method_15_code
def y_Lc_sign : MethodName := ⟨R_Lc, "sign", "(I)I"⟩
abbrev wc_Lc_sign : Cond := .code y_Lc_sign c_Lc_sign 2 (some .int)
abbrev ws_Lc_sign : List Cond := wc_Lc_sign :: tb
theorem hd_Lc_sign : y_Lc_sign.cls = R_Lc ∧ y_Lc_sign.cls ≠ "java/lang/invoke/MethodHandle" ∧ y_Lc_sign.cls ≠ "java/lang/invoke/VarHandle" ∧ (parseMethodDescriptor y_Lc_sign.desc).map (fun d => d.parameters.length) = some 1 := by decide +kernel
abbrev c_Lc_backwards : ByteArray := prog_1_method_16_code
def y_Lc_backwards : MethodName := ⟨R_Lc, "backwards", "()Z"⟩
abbrev wc_Lc_backwards : Cond := .code y_Lc_backwards c_Lc_backwards 1 (some .boolean)
abbrev ws_Lc_backwards : List Cond := wc_Lc_backwards :: tb
theorem hd_Lc_backwards : y_Lc_backwards.cls = R_Lc ∧ y_Lc_backwards.cls ≠ "java/lang/invoke/MethodHandle" ∧ y_Lc_backwards.cls ≠ "java/lang/invoke/VarHandle" ∧ (parseMethodDescriptor y_Lc_backwards.desc).map (fun d => d.parameters.length) = some 0 := by decide +kernel
abbrev c_Lc_refuseByteCount : ByteArray := prog_1_method_17_code
def y_Lc_refuseByteCount : MethodName := ⟨R_Lc, "refuseByteCount", "(I)V"⟩
abbrev wc_Lc_refuseByteCount : Cond := .code y_Lc_refuseByteCount c_Lc_refuseByteCount 1 none
abbrev ws_Lc_refuseByteCount : List Cond := wc_Lc_refuseByteCount :: tb
theorem hd_Lc_refuseByteCount : y_Lc_refuseByteCount.cls = R_Lc ∧ y_Lc_refuseByteCount.cls ≠ "java/lang/invoke/MethodHandle" ∧ y_Lc_refuseByteCount.cls ≠ "java/lang/invoke/VarHandle" ∧ (parseMethodDescriptor y_Lc_refuseByteCount.desc).map (fun d => d.parameters.length) = some 1 := by decide +kernel
abbrev c_Lc_refuseModule : ByteArray := prog_1_method_18_code
def y_Lc_refuseModule : MethodName := ⟨R_Lc, "refuseModule", "(I)V"⟩
abbrev wc_Lc_refuseModule : Cond := .code y_Lc_refuseModule c_Lc_refuseModule 1 none
abbrev ws_Lc_refuseModule : List Cond := wc_Lc_refuseModule :: tb
theorem hd_Lc_refuseModule : y_Lc_refuseModule.cls = R_Lc ∧ y_Lc_refuseModule.cls ≠ "java/lang/invoke/MethodHandle" ∧ y_Lc_refuseModule.cls ≠ "java/lang/invoke/VarHandle" ∧ (parseMethodDescriptor y_Lc_refuseModule.desc).map (fun d => d.parameters.length) = some 1 := by decide +kernel
abbrev c_Lc_refuseTwelve : ByteArray := prog_1_method_19_code
def y_Lc_refuseTwelve : MethodName := ⟨R_Lc, "refuseTwelve", "(J)V"⟩
abbrev wc_Lc_refuseTwelve : Cond := .code y_Lc_refuseTwelve c_Lc_refuseTwelve 2 none
abbrev ws_Lc_refuseTwelve : List Cond := wc_Lc_refuseTwelve :: tb
theorem hd_Lc_refuseTwelve : y_Lc_refuseTwelve.cls = R_Lc ∧ y_Lc_refuseTwelve.cls ≠ "java/lang/invoke/MethodHandle" ∧ y_Lc_refuseTwelve.cls ≠ "java/lang/invoke/VarHandle" ∧ (parseMethodDescriptor y_Lc_refuseTwelve.desc).map (fun d => d.parameters.length) = some 1 := by decide +kernel
abbrev c_Lc_byteOf : ByteArray := prog_1_method_20_code
def y_Lc_byteOf : MethodName := ⟨R_Lc, "byteOf", "(JI)I"⟩
abbrev wc_Lc_byteOf : Cond := .code y_Lc_byteOf c_Lc_byteOf 3 (some .int)
abbrev ws_Lc_byteOf : List Cond := wc_Lc_byteOf :: tb
theorem hd_Lc_byteOf : y_Lc_byteOf.cls = R_Lc ∧ y_Lc_byteOf.cls ≠ "java/lang/invoke/MethodHandle" ∧ y_Lc_byteOf.cls ≠ "java/lang/invoke/VarHandle" ∧ (parseMethodDescriptor y_Lc_byteOf.desc).map (fun d => d.parameters.length) = some 2 := by decide +kernel
abbrev c_Lc_addBytes : ByteArray := prog_1_method_21_code
def y_Lc_addBytes : MethodName := ⟨R_Lc, "addBytes", "(LLineCodes$Items;IJ)I"⟩
abbrev wc_Lc_addBytes : Cond := .code y_Lc_addBytes c_Lc_addBytes 5 (some .int)
abbrev ws_Lc_addBytes : List Cond := wc_Lc_addBytes :: tb
theorem hd_Lc_addBytes : y_Lc_addBytes.cls = R_Lc ∧ y_Lc_addBytes.cls ≠ "java/lang/invoke/MethodHandle" ∧ y_Lc_addBytes.cls ≠ "java/lang/invoke/VarHandle" ∧ (parseMethodDescriptor y_Lc_addBytes.desc).map (fun d => d.parameters.length) = some 3 := by decide +kernel
abbrev c_Lc_addWidths : ByteArray := prog_1_method_22_code
def y_Lc_addWidths : MethodName := ⟨R_Lc, "addWidths", "(II)V"⟩
abbrev wc_Lc_addWidths : Cond := .code y_Lc_addWidths c_Lc_addWidths 4 none
abbrev ws_Lc_addWidths : List Cond := wc_Lc_addWidths :: tb
theorem hd_Lc_addWidths : y_Lc_addWidths.cls = R_Lc ∧ y_Lc_addWidths.cls ≠ "java/lang/invoke/MethodHandle" ∧ y_Lc_addWidths.cls ≠ "java/lang/invoke/VarHandle" ∧ (parseMethodDescriptor y_Lc_addWidths.desc).map (fun d => d.parameters.length) = some 2 := by decide +kernel
abbrev c_Md_init : ByteArray := prog_9_method_1_code
def y_Md_init : MethodName := ⟨R_Md, "<init>", "()V"⟩
abbrev wc_Md_init : Cond := .code y_Md_init c_Md_init 1 none
abbrev ws_Md_init : List Cond := wc_Md_init :: tb
theorem hd_Md_init : y_Md_init.cls = R_Md ∧ y_Md_init.cls ≠ "java/lang/invoke/MethodHandle" ∧ y_Md_init.cls ≠ "java/lang/invoke/VarHandle" ∧ (parseMethodDescriptor y_Md_init.desc).map (fun d => d.parameters.length) = some 0 := by decide +kernel
abbrev c_Md_thrown : ByteArray := prog_9_method_2_code
def y_Md_thrown : MethodName := ⟨R_Md, "thrown", "()I"⟩
abbrev wc_Md_thrown : Cond := .code y_Md_thrown c_Md_thrown 1 (some .int)
abbrev ws_Md_thrown : List Cond := wc_Md_thrown :: tb
theorem hd_Md_thrown : y_Md_thrown.cls = R_Md ∧ y_Md_thrown.cls ≠ "java/lang/invoke/MethodHandle" ∧ y_Md_thrown.cls ≠ "java/lang/invoke/VarHandle" ∧ (parseMethodDescriptor y_Md_thrown.desc).map (fun d => d.parameters.length) = some 0 := by decide +kernel
abbrev c_Md_write : ByteArray := prog_9_method_3_code
def y_Md_write : MethodName := ⟨R_Md, "write", "(IJ)I"⟩
abbrev wc_Md_write : Cond := .code y_Md_write c_Md_write 5 (some .int)
abbrev ws_Md_write : List Cond := wc_Md_write :: tb
theorem hd_Md_write : y_Md_write.cls = R_Md ∧ y_Md_write.cls ≠ "java/lang/invoke/MethodHandle" ∧ y_Md_write.cls ≠ "java/lang/invoke/VarHandle" ∧ (parseMethodDescriptor y_Md_write.desc).map (fun d => d.parameters.length) = some 2 := by decide +kernel
abbrev c_Md_wipe : ByteArray := prog_9_method_4_code
def y_Md_wipe : MethodName := ⟨R_Md, "wipe", "()I"⟩
abbrev wc_Md_wipe : Cond := .code y_Md_wipe c_Md_wipe 2 (some .int)
abbrev ws_Md_wipe : List Cond := wc_Md_wipe :: tb
theorem hd_Md_wipe : y_Md_wipe.cls = R_Md ∧ y_Md_wipe.cls ≠ "java/lang/invoke/MethodHandle" ∧ y_Md_wipe.cls ≠ "java/lang/invoke/VarHandle" ∧ (parseMethodDescriptor y_Md_wipe.desc).map (fun d => d.parameters.length) = some 0 := by decide +kernel
abbrev c_Md_signOf : ByteArray := prog_9_method_5_code
def y_Md_signOf : MethodName := ⟨R_Md, "signOf", "(II)I"⟩
abbrev wc_Md_signOf : Cond := .code y_Md_signOf c_Md_signOf 2 (some .int)
abbrev ws_Md_signOf : List Cond := wc_Md_signOf :: tb
theorem hd_Md_signOf : y_Md_signOf.cls = R_Md ∧ y_Md_signOf.cls ≠ "java/lang/invoke/MethodHandle" ∧ y_Md_signOf.cls ≠ "java/lang/invoke/VarHandle" ∧ (parseMethodDescriptor y_Md_signOf.desc).map (fun d => d.parameters.length) = some 2 := by decide +kernel
abbrev c_Md_at : ByteArray := prog_9_method_6_code
def y_Md_at : MethodName := ⟨R_Md, "at", "(I)I"⟩
abbrev wc_Md_at : Cond := .code y_Md_at c_Md_at 2 (some .int)
abbrev ws_Md_at : List Cond := wc_Md_at :: tb
theorem hd_Md_at : y_Md_at.cls = R_Md ∧ y_Md_at.cls ≠ "java/lang/invoke/MethodHandle" ∧ y_Md_at.cls ≠ "java/lang/invoke/VarHandle" ∧ (parseMethodDescriptor y_Md_at.desc).map (fun d => d.parameters.length) = some 1 := by decide +kernel
abbrev c_Md_isPair : ByteArray := prog_9_method_7_code
def y_Md_isPair : MethodName := ⟨R_Md, "isPair", "(II)Z"⟩
abbrev wc_Md_isPair : Cond := .code y_Md_isPair c_Md_isPair 3 (some .boolean)
abbrev ws_Md_isPair : List Cond := wc_Md_isPair :: tb
theorem hd_Md_isPair : y_Md_isPair.cls = R_Md ∧ y_Md_isPair.cls ≠ "java/lang/invoke/MethodHandle" ∧ y_Md_isPair.cls ≠ "java/lang/invoke/VarHandle" ∧ (parseMethodDescriptor y_Md_isPair.desc).map (fun d => d.parameters.length) = some 2 := by decide +kernel
abbrev c_Md_tells : ByteArray := prog_9_method_8_code
def y_Md_tells : MethodName := ⟨R_Md, "tells", "(III)I"⟩
abbrev wc_Md_tells : Cond := .code y_Md_tells c_Md_tells 4 (some .int)
abbrev ws_Md_tells : List Cond := wc_Md_tells :: tb
theorem hd_Md_tells : y_Md_tells.cls = R_Md ∧ y_Md_tells.cls ≠ "java/lang/invoke/MethodHandle" ∧ y_Md_tells.cls ≠ "java/lang/invoke/VarHandle" ∧ (parseMethodDescriptor y_Md_tells.desc).map (fun d => d.parameters.length) = some 3 := by decide +kernel
abbrev c_Md_goes : ByteArray := prog_9_method_9_code
def y_Md_goes : MethodName := ⟨R_Md, "goes", "(II)I"⟩
abbrev wc_Md_goes : Cond := .code y_Md_goes c_Md_goes 3 (some .int)
abbrev ws_Md_goes : List Cond := wc_Md_goes :: tb
theorem hd_Md_goes : y_Md_goes.cls = R_Md ∧ y_Md_goes.cls ≠ "java/lang/invoke/MethodHandle" ∧ y_Md_goes.cls ≠ "java/lang/invoke/VarHandle" ∧ (parseMethodDescriptor y_Md_goes.desc).map (fun d => d.parameters.length) = some 2 := by decide +kernel
abbrev c_Md_leastAt : ByteArray := prog_9_method_10_code
def y_Md_leastAt : MethodName := ⟨R_Md, "leastAt", "(II)I"⟩
abbrev wc_Md_leastAt : Cond := .code y_Md_leastAt c_Md_leastAt 3 (some .int)
abbrev ws_Md_leastAt : List Cond := wc_Md_leastAt :: tb
theorem hd_Md_leastAt : y_Md_leastAt.cls = R_Md ∧ y_Md_leastAt.cls ≠ "java/lang/invoke/MethodHandle" ∧ y_Md_leastAt.cls ≠ "java/lang/invoke/VarHandle" ∧ (parseMethodDescriptor y_Md_leastAt.desc).map (fun d => d.parameters.length) = some 2 := by decide +kernel
abbrev c_Md_with : ByteArray := prog_9_method_11_code
def y_Md_with : MethodName := ⟨R_Md, "with", "(III)I"⟩
abbrev wc_Md_with : Cond := .code y_Md_with c_Md_with 5 (some .int)
abbrev ws_Md_with : List Cond := wc_Md_with :: tb
theorem hd_Md_with : y_Md_with.cls = R_Md ∧ y_Md_with.cls ≠ "java/lang/invoke/MethodHandle" ∧ y_Md_with.cls ≠ "java/lang/invoke/VarHandle" ∧ (parseMethodDescriptor y_Md_with.desc).map (fun d => d.parameters.length) = some 3 := by decide +kernel
abbrev c_Md_isOther : ByteArray := prog_9_method_12_code
def y_Md_isOther : MethodName := ⟨R_Md, "isOther", "(II)Z"⟩
abbrev wc_Md_isOther : Cond := .code y_Md_isOther c_Md_isOther 5 (some .boolean)
abbrev ws_Md_isOther : List Cond := wc_Md_isOther :: tb
theorem hd_Md_isOther : y_Md_isOther.cls = R_Md ∧ y_Md_isOther.cls ≠ "java/lang/invoke/MethodHandle" ∧ y_Md_isOther.cls ≠ "java/lang/invoke/VarHandle" ∧ (parseMethodDescriptor y_Md_isOther.desc).map (fun d => d.parameters.length) = some 2 := by decide +kernel
abbrev c_Md_relax : ByteArray := prog_9_method_13_code
def y_Md_relax : MethodName := ⟨R_Md, "relax", "()V"⟩
abbrev wc_Md_relax : Cond := .code y_Md_relax c_Md_relax 6 none
abbrev ws_Md_relax : List Cond := wc_Md_relax :: tb
theorem hd_Md_relax : y_Md_relax.cls = R_Md ∧ y_Md_relax.cls ≠ "java/lang/invoke/MethodHandle" ∧ y_Md_relax.cls ≠ "java/lang/invoke/VarHandle" ∧ (parseMethodDescriptor y_Md_relax.desc).map (fun d => d.parameters.length) = some 0 := by decide +kernel
abbrev c_Md_add : ByteArray := prog_9_method_14_code
def y_Md_add : MethodName := ⟨R_Md, "add", "(I)V"⟩
abbrev wc_Md_add : Cond := .code y_Md_add c_Md_add 2 none
abbrev ws_Md_add : List Cond := wc_Md_add :: tb
theorem hd_Md_add : y_Md_add.cls = R_Md ∧ y_Md_add.cls ≠ "java/lang/invoke/MethodHandle" ∧ y_Md_add.cls ≠ "java/lang/invoke/VarHandle" ∧ (parseMethodDescriptor y_Md_add.desc).map (fun d => d.parameters.length) = some 1 := by decide +kernel
abbrev c_Md_check : ByteArray := prog_9_method_15_code
def y_Md_check : MethodName := ⟨R_Md, "check", "([II)I"⟩
abbrev wc_Md_check : Cond := .code y_Md_check c_Md_check 4 (some .int)
abbrev ws_Md_check : List Cond := wc_Md_check :: tb
theorem hd_Md_check : y_Md_check.cls = R_Md ∧ y_Md_check.cls ≠ "java/lang/invoke/MethodHandle" ∧ y_Md_check.cls ≠ "java/lang/invoke/VarHandle" ∧ (parseMethodDescriptor y_Md_check.desc).map (fun d => d.parameters.length) = some 2 := by decide +kernel
abbrev c_Md_pack : ByteArray := prog_9_method_16_code
def y_Md_pack : MethodName := ⟨R_Md, "pack", "()I"⟩
abbrev wc_Md_pack : Cond := .code y_Md_pack c_Md_pack 5 (some .int)
abbrev ws_Md_pack : List Cond := wc_Md_pack :: tb
theorem hd_Md_pack : y_Md_pack.cls = R_Md ∧ y_Md_pack.cls ≠ "java/lang/invoke/MethodHandle" ∧ y_Md_pack.cls ≠ "java/lang/invoke/VarHandle" ∧ (parseMethodDescriptor y_Md_pack.desc).map (fun d => d.parameters.length) = some 0 := by decide +kernel
abbrev c_Md_symbol : ByteArray := prog_9_method_17_code
def y_Md_symbol : MethodName := ⟨R_Md, "symbol", "(I)I"⟩
abbrev wc_Md_symbol : Cond := .code y_Md_symbol c_Md_symbol 2 (some .int)
abbrev ws_Md_symbol : List Cond := wc_Md_symbol :: tb
theorem hd_Md_symbol : y_Md_symbol.cls = R_Md ∧ y_Md_symbol.cls ≠ "java/lang/invoke/MethodHandle" ∧ y_Md_symbol.cls ≠ "java/lang/invoke/VarHandle" ∧ (parseMethodDescriptor y_Md_symbol.desc).map (fun d => d.parameters.length) = some 1 := by decide +kernel
abbrev c_Md_lay : ByteArray := prog_9_method_18_code
def y_Md_lay : MethodName := ⟨R_Md, "lay", "(III)V"⟩
abbrev wc_Md_lay : Cond := .code y_Md_lay c_Md_lay 6 none
abbrev ws_Md_lay : List Cond := wc_Md_lay :: tb
theorem hd_Md_lay : y_Md_lay.cls = R_Md ∧ y_Md_lay.cls ≠ "java/lang/invoke/MethodHandle" ∧ y_Md_lay.cls ≠ "java/lang/invoke/VarHandle" ∧ (parseMethodDescriptor y_Md_lay.desc).map (fun d => d.parameters.length) = some 3 := by decide +kernel
abbrev c_Md_noModule : ByteArray := prog_9_method_19_code
def y_Md_noModule : MethodName := ⟨R_Md, "noModule", "(I)Z"⟩
abbrev wc_Md_noModule : Cond := .code y_Md_noModule c_Md_noModule 1 (some .boolean)
abbrev ws_Md_noModule : List Cond := wc_Md_noModule :: tb
theorem hd_Md_noModule : y_Md_noModule.cls = R_Md ∧ y_Md_noModule.cls ≠ "java/lang/invoke/MethodHandle" ∧ y_Md_noModule.cls ≠ "java/lang/invoke/VarHandle" ∧ (parseMethodDescriptor y_Md_noModule.desc).map (fun d => d.parameters.length) = some 1 := by decide +kernel
abbrev c_Md_bars : ByteArray := prog_9_method_20_code
def y_Md_bars : MethodName := ⟨R_Md, "bars", "(I)I"⟩
abbrev wc_Md_bars : Cond := .code y_Md_bars c_Md_bars 3 (some .int)
abbrev ws_Md_bars : List Cond := wc_Md_bars :: tb
theorem hd_Md_bars : y_Md_bars.cls = R_Md ∧ y_Md_bars.cls ≠ "java/lang/invoke/MethodHandle" ∧ y_Md_bars.cls ≠ "java/lang/invoke/VarHandle" ∧ (parseMethodDescriptor y_Md_bars.desc).map (fun d => d.parameters.length) = some 1 := by decide +kernel
abbrev c_Md_noTwelve : ByteArray := prog_9_method_21_code
def y_Md_noTwelve : MethodName := ⟨R_Md, "noTwelve", "(J)Z"⟩
abbrev wc_Md_noTwelve : Cond := .code y_Md_noTwelve c_Md_noTwelve 2 (some .boolean)
abbrev ws_Md_noTwelve : List Cond := wc_Md_noTwelve :: tb
theorem hd_Md_noTwelve : y_Md_noTwelve.cls = R_Md ∧ y_Md_noTwelve.cls ≠ "java/lang/invoke/MethodHandle" ∧ y_Md_noTwelve.cls ≠ "java/lang/invoke/VarHandle" ∧ (parseMethodDescriptor y_Md_noTwelve.desc).map (fun d => d.parameters.length) = some 1 := by decide +kernel
abbrev c_Md_figure : ByteArray := prog_9_method_22_code
def y_Md_figure : MethodName := ⟨R_Md, "figure", "(JI)I"⟩
abbrev wc_Md_figure : Cond := .code y_Md_figure c_Md_figure 6 (some .int)
abbrev ws_Md_figure : List Cond := wc_Md_figure :: tb
theorem hd_Md_figure : y_Md_figure.cls = R_Md ∧ y_Md_figure.cls ≠ "java/lang/invoke/MethodHandle" ∧ y_Md_figure.cls ≠ "java/lang/invoke/VarHandle" ∧ (parseMethodDescriptor y_Md_figure.desc).map (fun d => d.parameters.length) = some 2 := by decide +kernel
abbrev c_Md_checkFigure : ByteArray := prog_9_method_23_code
def y_Md_checkFigure : MethodName := ⟨R_Md, "checkFigure", "(J)I"⟩
abbrev wc_Md_checkFigure : Cond := .code y_Md_checkFigure c_Md_checkFigure 5 (some .int)
abbrev ws_Md_checkFigure : List Cond := wc_Md_checkFigure :: tb
theorem hd_Md_checkFigure : y_Md_checkFigure.cls = R_Md ∧ y_Md_checkFigure.cls ≠ "java/lang/invoke/MethodHandle" ∧ y_Md_checkFigure.cls ≠ "java/lang/invoke/VarHandle" ∧ (parseMethodDescriptor y_Md_checkFigure.desc).map (fun d => d.parameters.length) = some 1 := by decide +kernel
abbrev c_Md_reversed : ByteArray := prog_9_method_24_code
def y_Md_reversed : MethodName := ⟨R_Md, "reversed", "(I)I"⟩
abbrev wc_Md_reversed : Cond := .code y_Md_reversed c_Md_reversed 1 (some .int)
abbrev ws_Md_reversed : List Cond := wc_Md_reversed :: tb
theorem hd_Md_reversed : y_Md_reversed.cls = R_Md ∧ y_Md_reversed.cls ≠ "java/lang/invoke/MethodHandle" ∧ y_Md_reversed.cls ≠ "java/lang/invoke/VarHandle" ∧ (parseMethodDescriptor y_Md_reversed.desc).map (fun d => d.parameters.length) = some 1 := by decide +kernel
abbrev c_Md_isTurned : ByteArray := prog_9_method_25_code
def y_Md_isTurned : MethodName := ⟨R_Md, "isTurned", "(II)Z"⟩
abbrev wc_Md_isTurned : Cond := .code y_Md_isTurned c_Md_isTurned 3 (some .boolean)
abbrev ws_Md_isTurned : List Cond := wc_Md_isTurned :: tb
theorem hd_Md_isTurned : y_Md_isTurned.cls = R_Md ∧ y_Md_isTurned.cls ≠ "java/lang/invoke/MethodHandle" ∧ y_Md_isTurned.cls ≠ "java/lang/invoke/VarHandle" ∧ (parseMethodDescriptor y_Md_isTurned.desc).map (fun d => d.parameters.length) = some 2 := by decide +kernel
abbrev c_Md_thirteen : ByteArray := prog_9_method_26_code
def y_Md_thirteen : MethodName := ⟨R_Md, "thirteen", "(JI)I"⟩
abbrev wc_Md_thirteen : Cond := .code y_Md_thirteen c_Md_thirteen 7 (some .int)
abbrev ws_Md_thirteen : List Cond := wc_Md_thirteen :: tb
theorem hd_Md_thirteen : y_Md_thirteen.cls = R_Md ∧ y_Md_thirteen.cls ≠ "java/lang/invoke/MethodHandle" ∧ y_Md_thirteen.cls ≠ "java/lang/invoke/VarHandle" ∧ (parseMethodDescriptor y_Md_thirteen.desc).map (fun d => d.parameters.length) = some 2 := by decide +kernel
abbrev c_Md_put : ByteArray := prog_9_method_27_code
def y_Md_put : MethodName := ⟨R_Md, "put", "(IJ)I"⟩
abbrev wc_Md_put : Cond := .code y_Md_put c_Md_put 5 (some .int)
abbrev ws_Md_put : List Cond := wc_Md_put :: tb
theorem hd_Md_put : y_Md_put.cls = R_Md ∧ y_Md_put.cls ≠ "java/lang/invoke/MethodHandle" ∧ y_Md_put.cls ≠ "java/lang/invoke/VarHandle" ∧ (parseMethodDescriptor y_Md_put.desc).map (fun d => d.parameters.length) = some 2 := by decide +kernel
abbrev c_Md_clear : ByteArray := prog_9_method_28_code
def y_Md_clear : MethodName := ⟨R_Md, "clear", "()I"⟩
abbrev wc_Md_clear : Cond := .code y_Md_clear c_Md_clear 2 (some .int)
abbrev ws_Md_clear : List Cond := wc_Md_clear :: tb
theorem hd_Md_clear : y_Md_clear.cls = R_Md ∧ y_Md_clear.cls ≠ "java/lang/invoke/MethodHandle" ∧ y_Md_clear.cls ≠ "java/lang/invoke/VarHandle" ∧ (parseMethodDescriptor y_Md_clear.desc).map (fun d => d.parameters.length) = some 0 := by decide +kernel
abbrev c_Md_width : ByteArray := prog_9_method_29_code
def y_Md_width : MethodName := ⟨R_Md, "width", "(I)I"⟩
abbrev wc_Md_width : Cond := .code y_Md_width c_Md_width 2 (some .int)
abbrev ws_Md_width : List Cond := wc_Md_width :: tb
theorem hd_Md_width : y_Md_width.cls = R_Md ∧ y_Md_width.cls ≠ "java/lang/invoke/MethodHandle" ∧ y_Md_width.cls ≠ "java/lang/invoke/VarHandle" ∧ (parseMethodDescriptor y_Md_width.desc).map (fun d => d.parameters.length) = some 1 := by decide +kernel
abbrev c_Md_spoil : ByteArray := prog_9_method_30_code
def y_Md_spoil : MethodName := ⟨R_Md, "spoil", "(II)I"⟩
abbrev wc_Md_spoil : Cond := .code y_Md_spoil c_Md_spoil 4 (some .int)
abbrev ws_Md_spoil : List Cond := wc_Md_spoil :: tb
theorem hd_Md_spoil : y_Md_spoil.cls = R_Md ∧ y_Md_spoil.cls ≠ "java/lang/invoke/MethodHandle" ∧ y_Md_spoil.cls ≠ "java/lang/invoke/VarHandle" ∧ (parseMethodDescriptor y_Md_spoil.desc).map (fun d => d.parameters.length) = some 2 := by decide +kernel
abbrev c_Md_reverse : ByteArray := prog_9_method_31_code
def y_Md_reverse : MethodName := ⟨R_Md, "reverse", "([I[I)V"⟩
abbrev wc_Md_reverse : Cond := .code y_Md_reverse c_Md_reverse 4 none
abbrev ws_Md_reverse : List Cond := wc_Md_reverse :: tb
theorem hd_Md_reverse : y_Md_reverse.cls = R_Md ∧ y_Md_reverse.cls ≠ "java/lang/invoke/MethodHandle" ∧ y_Md_reverse.cls ≠ "java/lang/invoke/VarHandle" ∧ (parseMethodDescriptor y_Md_reverse.desc).map (fun d => d.parameters.length) = some 2 := by decide +kernel
abbrev c_Md_turn : ByteArray := prog_9_method_32_code
def y_Md_turn : MethodName := ⟨R_Md, "turn", "()I"⟩
abbrev wc_Md_turn : Cond := .code y_Md_turn c_Md_turn 1 (some .int)
abbrev ws_Md_turn : List Cond := wc_Md_turn :: tb
theorem hd_Md_turn : y_Md_turn.cls = R_Md ∧ y_Md_turn.cls ≠ "java/lang/invoke/MethodHandle" ∧ y_Md_turn.cls ≠ "java/lang/invoke/VarHandle" ∧ (parseMethodDescriptor y_Md_turn.desc).map (fun d => d.parameters.length) = some 0 := by decide +kernel
abbrev c_Md_counts : ByteArray := prog_9_method_33_code
def y_Md_counts : MethodName := ⟨R_Md, "counts", "(IIII)I"⟩
abbrev wc_Md_counts : Cond := .code y_Md_counts c_Md_counts 8 (some .int)
abbrev ws_Md_counts : List Cond := wc_Md_counts :: tb
theorem hd_Md_counts : y_Md_counts.cls = R_Md ∧ y_Md_counts.cls ≠ "java/lang/invoke/MethodHandle" ∧ y_Md_counts.cls ≠ "java/lang/invoke/VarHandle" ∧ (parseMethodDescriptor y_Md_counts.desc).map (fun d => d.parameters.length) = some 4 := by decide +kernel
abbrev c_Md_sumOf : ByteArray := prog_9_method_34_code
def y_Md_sumOf : MethodName := ⟨R_Md, "sumOf", "(II)I"⟩
abbrev wc_Md_sumOf : Cond := .code y_Md_sumOf c_Md_sumOf 5 (some .int)
abbrev ws_Md_sumOf : List Cond := wc_Md_sumOf :: tb
theorem hd_Md_sumOf : y_Md_sumOf.cls = R_Md ∧ y_Md_sumOf.cls ≠ "java/lang/invoke/MethodHandle" ∧ y_Md_sumOf.cls ≠ "java/lang/invoke/VarHandle" ∧ (parseMethodDescriptor y_Md_sumOf.desc).map (fun d => d.parameters.length) = some 2 := by decide +kernel
abbrev c_Md_place : ByteArray := prog_9_method_35_code
def y_Md_place : MethodName := ⟨R_Md, "place", "([II)I"⟩
abbrev wc_Md_place : Cond := .code y_Md_place c_Md_place 3 (some .int)
abbrev ws_Md_place : List Cond := wc_Md_place :: tb
theorem hd_Md_place : y_Md_place.cls = R_Md ∧ y_Md_place.cls ≠ "java/lang/invoke/MethodHandle" ∧ y_Md_place.cls ≠ "java/lang/invoke/VarHandle" ∧ (parseMethodDescriptor y_Md_place.desc).map (fun d => d.parameters.length) = some 2 := by decide +kernel
abbrev c_Md_isThirteen : ByteArray := prog_9_method_36_code
def y_Md_isThirteen : MethodName := ⟨R_Md, "isThirteen", "()Z"⟩
abbrev wc_Md_isThirteen : Cond := .code y_Md_isThirteen c_Md_isThirteen 7 (some .boolean)
abbrev ws_Md_isThirteen : List Cond := wc_Md_isThirteen :: tb
theorem hd_Md_isThirteen : y_Md_isThirteen.cls = R_Md ∧ y_Md_isThirteen.cls ≠ "java/lang/invoke/MethodHandle" ∧ y_Md_isThirteen.cls ≠ "java/lang/invoke/VarHandle" ∧ (parseMethodDescriptor y_Md_isThirteen.desc).map (fun d => d.parameters.length) = some 0 := by decide +kernel
abbrev c_Md_tell : ByteArray := prog_9_method_37_code
def y_Md_tell : MethodName := ⟨R_Md, "tell", "(I)V"⟩
abbrev wc_Md_tell : Cond := .code y_Md_tell c_Md_tell 2 none
abbrev ws_Md_tell : List Cond := wc_Md_tell :: tb
theorem hd_Md_tell : y_Md_tell.cls = R_Md ∧ y_Md_tell.cls ≠ "java/lang/invoke/MethodHandle" ∧ y_Md_tell.cls ≠ "java/lang/invoke/VarHandle" ∧ (parseMethodDescriptor y_Md_tell.desc).map (fun d => d.parameters.length) = some 1 := by decide +kernel
abbrev c_Md_isRow : ByteArray := prog_9_method_38_code
def y_Md_isRow : MethodName := ⟨R_Md, "isRow", "(I)Z"⟩
abbrev wc_Md_isRow : Cond := .code y_Md_isRow c_Md_isRow 5 (some .boolean)
abbrev ws_Md_isRow : List Cond := wc_Md_isRow :: tb
theorem hd_Md_isRow : y_Md_isRow.cls = R_Md ∧ y_Md_isRow.cls ≠ "java/lang/invoke/MethodHandle" ∧ y_Md_isRow.cls ≠ "java/lang/invoke/VarHandle" ∧ (parseMethodDescriptor y_Md_isRow.desc).map (fun d => d.parameters.length) = some 1 := by decide +kernel
abbrev c_Md_isSome : ByteArray := prog_9_method_39_code
def y_Md_isSome : MethodName := ⟨R_Md, "isSome", "()Z"⟩
abbrev wc_Md_isSome : Cond := .code y_Md_isSome c_Md_isSome 1 (some .boolean)
abbrev ws_Md_isSome : List Cond := wc_Md_isSome :: tb
theorem hd_Md_isSome : y_Md_isSome.cls = R_Md ∧ y_Md_isSome.cls ≠ "java/lang/invoke/MethodHandle" ∧ y_Md_isSome.cls ≠ "java/lang/invoke/VarHandle" ∧ (parseMethodDescriptor y_Md_isSome.desc).map (fun d => d.parameters.length) = some 0 := by decide +kernel
abbrev c_Md_read : ByteArray := prog_9_method_40_code
def y_Md_read : MethodName := ⟨R_Md, "read", "()I"⟩
abbrev wc_Md_read : Cond := .code y_Md_read c_Md_read 4 (some .int)
abbrev ws_Md_read : List Cond := wc_Md_read :: tb
theorem hd_Md_read : y_Md_read.cls = R_Md ∧ y_Md_read.cls ≠ "java/lang/invoke/MethodHandle" ∧ y_Md_read.cls ≠ "java/lang/invoke/VarHandle" ∧ (parseMethodDescriptor y_Md_read.desc).map (fun d => d.parameters.length) = some 0 := by decide +kernel
abbrev c_Md_sign : ByteArray := prog_9_method_41_code
def y_Md_sign : MethodName := ⟨R_Md, "sign", "(I)I"⟩
abbrev wc_Md_sign : Cond := .code y_Md_sign c_Md_sign 2 (some .int)
abbrev ws_Md_sign : List Cond := wc_Md_sign :: tb
theorem hd_Md_sign : y_Md_sign.cls = R_Md ∧ y_Md_sign.cls ≠ "java/lang/invoke/MethodHandle" ∧ y_Md_sign.cls ≠ "java/lang/invoke/VarHandle" ∧ (parseMethodDescriptor y_Md_sign.desc).map (fun d => d.parameters.length) = some 1 := by decide +kernel
abbrev c_Md_backwards : ByteArray := prog_9_method_42_code
def y_Md_backwards : MethodName := ⟨R_Md, "backwards", "()Z"⟩
abbrev wc_Md_backwards : Cond := .code y_Md_backwards c_Md_backwards 1 (some .boolean)
abbrev ws_Md_backwards : List Cond := wc_Md_backwards :: tb
theorem hd_Md_backwards : y_Md_backwards.cls = R_Md ∧ y_Md_backwards.cls ≠ "java/lang/invoke/MethodHandle" ∧ y_Md_backwards.cls ≠ "java/lang/invoke/VarHandle" ∧ (parseMethodDescriptor y_Md_backwards.desc).map (fun d => d.parameters.length) = some 0 := by decide +kernel
abbrev c_Fi_figureOf : ByteArray := prog_2_method_2_code
def y_Fi_figureOf : MethodName := ⟨R_Fi, "figureOf", "(JI)I"⟩
abbrev wc_Fi_figureOf : Cond := .code y_Fi_figureOf c_Fi_figureOf 6 (some .int)
abbrev ws_Fi_figureOf : List Cond := wc_Fi_figureOf :: tb
theorem hd_Fi_figureOf : y_Fi_figureOf.cls = R_Fi ∧ y_Fi_figureOf.cls ≠ "java/lang/invoke/MethodHandle" ∧ y_Fi_figureOf.cls ≠ "java/lang/invoke/VarHandle" ∧ (parseMethodDescriptor y_Fi_figureOf.desc).map (fun d => d.parameters.length) = some 2 := by decide +kernel
abbrev c_Fi_weightOf : ByteArray := prog_2_method_3_code
def y_Fi_weightOf : MethodName := ⟨R_Fi, "weightOf", "(I)I"⟩
abbrev wc_Fi_weightOf : Cond := .code y_Fi_weightOf c_Fi_weightOf 1 (some .int)
abbrev ws_Fi_weightOf : List Cond := wc_Fi_weightOf :: tb
theorem hd_Fi_weightOf : y_Fi_weightOf.cls = R_Fi ∧ y_Fi_weightOf.cls ≠ "java/lang/invoke/MethodHandle" ∧ y_Fi_weightOf.cls ≠ "java/lang/invoke/VarHandle" ∧ (parseMethodDescriptor y_Fi_weightOf.desc).map (fun d => d.parameters.length) = some 1 := by decide +kernel
abbrev c_Fi_checkOf : ByteArray := prog_2_method_4_code
def y_Fi_checkOf : MethodName := ⟨R_Fi, "checkOf", "(J)I"⟩
abbrev wc_Fi_checkOf : Cond := .code y_Fi_checkOf c_Fi_checkOf 4 (some .int)
abbrev ws_Fi_checkOf : List Cond := wc_Fi_checkOf :: tb
theorem hd_Fi_checkOf : y_Fi_checkOf.cls = R_Fi ∧ y_Fi_checkOf.cls ≠ "java/lang/invoke/MethodHandle" ∧ y_Fi_checkOf.cls ≠ "java/lang/invoke/VarHandle" ∧ (parseMethodDescriptor y_Fi_checkOf.desc).map (fun d => d.parameters.length) = some 1 := by decide +kernel
abbrev c_It_init : ByteArray := prog_3_method_1_code
def y_It_init : MethodName := ⟨R_It, "<init>", "(I)V"⟩
abbrev wc_It_init : Cond := .code y_It_init c_It_init 2 none
abbrev ws_It_init : List Cond := wc_It_init :: tb
theorem hd_It_init : y_It_init.cls = R_It ∧ y_It_init.cls ≠ "java/lang/invoke/MethodHandle" ∧ y_It_init.cls ≠ "java/lang/invoke/VarHandle" ∧ (parseMethodDescriptor y_It_init.desc).map (fun d => d.parameters.length) = some 1 := by decide +kernel
abbrev c_It_count : ByteArray := prog_3_method_2_code
def y_It_count : MethodName := ⟨R_It, "count", "()I"⟩
abbrev wc_It_count : Cond := .code y_It_count c_It_count 1 (some .int)
abbrev ws_It_count : List Cond := wc_It_count :: tb
theorem hd_It_count : y_It_count.cls = R_It ∧ y_It_count.cls ≠ "java/lang/invoke/MethodHandle" ∧ y_It_count.cls ≠ "java/lang/invoke/VarHandle" ∧ (parseMethodDescriptor y_It_count.desc).map (fun d => d.parameters.length) = some 0 := by decide +kernel
abbrev c_It_hasRoomFor : ByteArray := prog_3_method_3_code
def y_It_hasRoomFor : MethodName := ⟨R_It, "hasRoomFor", "(I)Z"⟩
abbrev wc_It_hasRoomFor : Cond := .code y_It_hasRoomFor c_It_hasRoomFor 2 (some .boolean)
abbrev ws_It_hasRoomFor : List Cond := wc_It_hasRoomFor :: tb
theorem hd_It_hasRoomFor : y_It_hasRoomFor.cls = R_It ∧ y_It_hasRoomFor.cls ≠ "java/lang/invoke/MethodHandle" ∧ y_It_hasRoomFor.cls ≠ "java/lang/invoke/VarHandle" ∧ (parseMethodDescriptor y_It_hasRoomFor.desc).map (fun d => d.parameters.length) = some 1 := by decide +kernel
abbrev c_It_at : ByteArray := prog_3_method_4_code
def y_It_at : MethodName := ⟨R_It, "at", "(I)I"⟩
abbrev wc_It_at : Cond := .code y_It_at c_It_at 2 (some .int)
abbrev ws_It_at : List Cond := wc_It_at :: tb
theorem hd_It_at : y_It_at.cls = R_It ∧ y_It_at.cls ≠ "java/lang/invoke/MethodHandle" ∧ y_It_at.cls ≠ "java/lang/invoke/VarHandle" ∧ (parseMethodDescriptor y_It_at.desc).map (fun d => d.parameters.length) = some 1 := by decide +kernel
abbrev c_It_add : ByteArray := prog_3_method_5_code
def y_It_add : MethodName := ⟨R_It, "add", "(I)Z"⟩
abbrev wc_It_add : Cond := .code y_It_add c_It_add 2 (some .boolean)
abbrev ws_It_add : List Cond := wc_It_add :: tb
theorem hd_It_add : y_It_add.cls = R_It ∧ y_It_add.cls ≠ "java/lang/invoke/MethodHandle" ∧ y_It_add.cls ≠ "java/lang/invoke/VarHandle" ∧ (parseMethodDescriptor y_It_add.desc).map (fun d => d.parameters.length) = some 1 := by decide +kernel
abbrev c_It_replace : ByteArray := prog_3_method_6_code
def y_It_replace : MethodName := ⟨R_It, "replace", "(II)I"⟩
abbrev wc_It_replace : Cond := .code y_It_replace c_It_replace 4 (some .int)
abbrev ws_It_replace : List Cond := wc_It_replace :: tb
theorem hd_It_replace : y_It_replace.cls = R_It ∧ y_It_replace.cls ≠ "java/lang/invoke/MethodHandle" ∧ y_It_replace.cls ≠ "java/lang/invoke/VarHandle" ∧ (parseMethodDescriptor y_It_replace.desc).map (fun d => d.parameters.length) = some 2 := by decide +kernel
abbrev c_It_empty : ByteArray := prog_3_method_7_code
def y_It_empty : MethodName := ⟨R_It, "empty", "()I"⟩
abbrev wc_It_empty : Cond := .code y_It_empty c_It_empty 2 (some .int)
abbrev ws_It_empty : List Cond := wc_It_empty :: tb
theorem hd_It_empty : y_It_empty.cls = R_It ∧ y_It_empty.cls ≠ "java/lang/invoke/MethodHandle" ∧ y_It_empty.cls ≠ "java/lang/invoke/VarHandle" ∧ (parseMethodDescriptor y_It_empty.desc).map (fun d => d.parameters.length) = some 0 := by decide +kernel
abbrev c_It_reverse : ByteArray := prog_3_method_8_code
def y_It_reverse : MethodName := ⟨R_It, "reverse", "()V"⟩
abbrev wc_It_reverse : Cond := .code y_It_reverse c_It_reverse 2 none
abbrev ws_It_reverse : List Cond := wc_It_reverse :: tb
theorem hd_It_reverse : y_It_reverse.cls = R_It ∧ y_It_reverse.cls ≠ "java/lang/invoke/MethodHandle" ∧ y_It_reverse.cls ≠ "java/lang/invoke/VarHandle" ∧ (parseMethodDescriptor y_It_reverse.desc).map (fun d => d.parameters.length) = some 0 := by decide +kernel
abbrev c_Pa_init : ByteArray := prog_4_method_1_code
def y_Pa_init : MethodName := ⟨R_Pa, "<init>", "(LLineCodes$Items;LLineCodes$Items;)V"⟩
abbrev wc_Pa_init : Cond := .code y_Pa_init c_Pa_init 3 none
abbrev ws_Pa_init : List Cond := wc_Pa_init :: tb
theorem hd_Pa_init : y_Pa_init.cls = R_Pa ∧ y_Pa_init.cls ≠ "java/lang/invoke/MethodHandle" ∧ y_Pa_init.cls ≠ "java/lang/invoke/VarHandle" ∧ (parseMethodDescriptor y_Pa_init.desc).map (fun d => d.parameters.length) = some 2 := by decide +kernel
abbrev c_Pa_makeRow : ByteArray := prog_4_method_2_code
def y_Pa_makeRow : MethodName := ⟨R_Pa, "makeRow", "()V"⟩
abbrev wc_Pa_makeRow : Cond := .code y_Pa_makeRow c_Pa_makeRow 2 none
abbrev ws_Pa_makeRow : List Cond := wc_Pa_makeRow :: tb
theorem hd_Pa_makeRow : y_Pa_makeRow.cls = R_Pa ∧ y_Pa_makeRow.cls ≠ "java/lang/invoke/MethodHandle" ∧ y_Pa_makeRow.cls ≠ "java/lang/invoke/VarHandle" ∧ (parseMethodDescriptor y_Pa_makeRow.desc).map (fun d => d.parameters.length) = some 0 := by decide +kernel
abbrev c_Pa_fillCosts : ByteArray := prog_4_method_3_code
def y_Pa_fillCosts : MethodName := ⟨R_Pa, "fillCosts", "(I)V"⟩
abbrev wc_Pa_fillCosts : Cond := .code y_Pa_fillCosts c_Pa_fillCosts 5 none
abbrev ws_Pa_fillCosts : List Cond := wc_Pa_fillCosts :: tb
theorem hd_Pa_fillCosts : y_Pa_fillCosts.cls = R_Pa ∧ y_Pa_fillCosts.cls ≠ "java/lang/invoke/MethodHandle" ∧ y_Pa_fillCosts.cls ≠ "java/lang/invoke/VarHandle" ∧ (parseMethodDescriptor y_Pa_fillCosts.desc).map (fun d => d.parameters.length) = some 1 := by decide +kernel
abbrev c_Pa_costOfTelling : ByteArray := prog_4_method_4_code
def y_Pa_costOfTelling : MethodName := ⟨R_Pa, "costOfTelling", "(II)I"⟩
abbrev wc_Pa_costOfTelling : Cond := .code y_Pa_costOfTelling c_Pa_costOfTelling 5 (some .int)
abbrev ws_Pa_costOfTelling : List Cond := wc_Pa_costOfTelling :: tb
theorem hd_Pa_costOfTelling : y_Pa_costOfTelling.cls = R_Pa ∧ y_Pa_costOfTelling.cls ≠ "java/lang/invoke/MethodHandle" ∧ y_Pa_costOfTelling.cls ≠ "java/lang/invoke/VarHandle" ∧ (parseMethodDescriptor y_Pa_costOfTelling.desc).map (fun d => d.parameters.length) = some 2 := by decide +kernel
abbrev c_Pa_addSymbols : ByteArray := prog_4_method_5_code
def y_Pa_addSymbols : MethodName := ⟨R_Pa, "addSymbols", "()V"⟩
abbrev wc_Pa_addSymbols : Cond := .code y_Pa_addSymbols c_Pa_addSymbols 5 none
abbrev ws_Pa_addSymbols : List Cond := wc_Pa_addSymbols :: tb
theorem hd_Pa_addSymbols : y_Pa_addSymbols.cls = R_Pa ∧ y_Pa_addSymbols.cls ≠ "java/lang/invoke/MethodHandle" ∧ y_Pa_addSymbols.cls ≠ "java/lang/invoke/VarHandle" ∧ (parseMethodDescriptor y_Pa_addSymbols.desc).map (fun d => d.parameters.length) = some 0 := by decide +kernel
abbrev c_Pa_cheapestFirstSet : ByteArray := prog_4_method_6_code
def y_Pa_cheapestFirstSet : MethodName := ⟨R_Pa, "cheapestFirstSet", "()I"⟩
abbrev wc_Pa_cheapestFirstSet : Cond := .code y_Pa_cheapestFirstSet c_Pa_cheapestFirstSet 3 (some .int)
abbrev ws_Pa_cheapestFirstSet : List Cond := wc_Pa_cheapestFirstSet :: tb
theorem hd_Pa_cheapestFirstSet : y_Pa_cheapestFirstSet.cls = R_Pa ∧ y_Pa_cheapestFirstSet.cls ≠ "java/lang/invoke/MethodHandle" ∧ y_Pa_cheapestFirstSet.cls ≠ "java/lang/invoke/VarHandle" ∧ (parseMethodDescriptor y_Pa_cheapestFirstSet.desc).map (fun d => d.parameters.length) = some 0 := by decide +kernel
abbrev c_Pa_nextSet : ByteArray := prog_4_method_7_code
def y_Pa_nextSet : MethodName := ⟨R_Pa, "nextSet", "(II)I"⟩
abbrev wc_Pa_nextSet : Cond := .code y_Pa_nextSet c_Pa_nextSet 5 (some .int)
abbrev ws_Pa_nextSet : List Cond := wc_Pa_nextSet :: tb
theorem hd_Pa_nextSet : y_Pa_nextSet.cls = R_Pa ∧ y_Pa_nextSet.cls ≠ "java/lang/invoke/MethodHandle" ∧ y_Pa_nextSet.cls ≠ "java/lang/invoke/VarHandle" ∧ (parseMethodDescriptor y_Pa_nextSet.desc).map (fun d => d.parameters.length) = some 2 := by decide +kernel
abbrev c_Pa_addTold : ByteArray := prog_4_method_8_code
def y_Pa_addTold : MethodName := ⟨R_Pa, "addTold", "(II)I"⟩
abbrev wc_Pa_addTold : Cond := .code y_Pa_addTold c_Pa_addTold 5 (some .int)
abbrev ws_Pa_addTold : List Cond := wc_Pa_addTold :: tb
theorem hd_Pa_addTold : y_Pa_addTold.cls = R_Pa ∧ y_Pa_addTold.cls ≠ "java/lang/invoke/MethodHandle" ∧ y_Pa_addTold.cls ≠ "java/lang/invoke/VarHandle" ∧ (parseMethodDescriptor y_Pa_addTold.desc).map (fun d => d.parameters.length) = some 2 := by decide +kernel
abbrev c_Pa_checkSymbol : ByteArray := prog_4_method_9_code
def y_Pa_checkSymbol : MethodName := ⟨R_Pa, "checkSymbol", "()I"⟩
abbrev wc_Pa_checkSymbol : Cond := .code y_Pa_checkSymbol c_Pa_checkSymbol 3 (some .int)
abbrev ws_Pa_checkSymbol : List Cond := wc_Pa_checkSymbol :: tb
theorem hd_Pa_checkSymbol : y_Pa_checkSymbol.cls = R_Pa ∧ y_Pa_checkSymbol.cls ≠ "java/lang/invoke/MethodHandle" ∧ y_Pa_checkSymbol.cls ≠ "java/lang/invoke/VarHandle" ∧ (parseMethodDescriptor y_Pa_checkSymbol.desc).map (fun d => d.parameters.length) = some 0 := by decide +kernel
abbrev c_Pa_cost : ByteArray := prog_4_method_10_code
def y_Pa_cost : MethodName := ⟨R_Pa, "cost", "(II)I"⟩
abbrev wc_Pa_cost : Cond := .code y_Pa_cost c_Pa_cost 4 (some .int)
abbrev ws_Pa_cost : List Cond := wc_Pa_cost :: tb
theorem hd_Pa_cost : y_Pa_cost.cls = R_Pa ∧ y_Pa_cost.cls ≠ "java/lang/invoke/MethodHandle" ∧ y_Pa_cost.cls ≠ "java/lang/invoke/VarHandle" ∧ (parseMethodDescriptor y_Pa_cost.desc).map (fun d => d.parameters.length) = some 2 := by decide +kernel
abbrev c_Pa_setCost : ByteArray := prog_4_method_11_code
def y_Pa_setCost : MethodName := ⟨R_Pa, "setCost", "(III)V"⟩
abbrev wc_Pa_setCost : Cond := .code y_Pa_setCost c_Pa_setCost 5 none
abbrev ws_Pa_setCost : List Cond := wc_Pa_setCost :: tb
theorem hd_Pa_setCost : y_Pa_setCost.cls = R_Pa ∧ y_Pa_setCost.cls ≠ "java/lang/invoke/MethodHandle" ∧ y_Pa_setCost.cls ≠ "java/lang/invoke/VarHandle" ∧ (parseMethodDescriptor y_Pa_setCost.desc).map (fun d => d.parameters.length) = some 3 := by decide +kernel
abbrev c_Re_init : ByteArray := prog_5_method_1_code
def y_Re_init : MethodName := ⟨R_Re, "<init>", "(LLineCodes$Items;)V"⟩
abbrev wc_Re_init : Cond := .code y_Re_init c_Re_init 2 none
abbrev ws_Re_init : List Cond := wc_Re_init :: tb
theorem hd_Re_init : y_Re_init.cls = R_Re ∧ y_Re_init.cls ≠ "java/lang/invoke/MethodHandle" ∧ y_Re_init.cls ≠ "java/lang/invoke/VarHandle" ∧ (parseMethodDescriptor y_Re_init.desc).map (fun d => d.parameters.length) = some 1 := by decide +kernel
abbrev c_Re_toldCount : ByteArray := prog_5_method_2_code
def y_Re_toldCount : MethodName := ⟨R_Re, "toldCount", "()I"⟩
abbrev wc_Re_toldCount : Cond := .code y_Re_toldCount c_Re_toldCount 1 (some .int)
abbrev ws_Re_toldCount : List Cond := wc_Re_toldCount :: tb
theorem hd_Re_toldCount : y_Re_toldCount.cls = R_Re ∧ y_Re_toldCount.cls ≠ "java/lang/invoke/MethodHandle" ∧ y_Re_toldCount.cls ≠ "java/lang/invoke/VarHandle" ∧ (parseMethodDescriptor y_Re_toldCount.desc).map (fun d => d.parameters.length) = some 0 := by decide +kernel
abbrev c_Re_toldAt : ByteArray := prog_5_method_3_code
def y_Re_toldAt : MethodName := ⟨R_Re, "toldAt", "(I)I"⟩
abbrev wc_Re_toldAt : Cond := .code y_Re_toldAt c_Re_toldAt 2 (some .int)
abbrev ws_Re_toldAt : List Cond := wc_Re_toldAt :: tb
theorem hd_Re_toldAt : y_Re_toldAt.cls = R_Re ∧ y_Re_toldAt.cls ≠ "java/lang/invoke/MethodHandle" ∧ y_Re_toldAt.cls ≠ "java/lang/invoke/VarHandle" ∧ (parseMethodDescriptor y_Re_toldAt.desc).map (fun d => d.parameters.length) = some 1 := by decide +kernel
abbrev c_Re_isFromBack : ByteArray := prog_5_method_4_code
def y_Re_isFromBack : MethodName := ⟨R_Re, "isFromBack", "()Z"⟩
abbrev wc_Re_isFromBack : Cond := .code y_Re_isFromBack c_Re_isFromBack 1 (some .boolean)
abbrev ws_Re_isFromBack : List Cond := wc_Re_isFromBack :: tb
theorem hd_Re_isFromBack : y_Re_isFromBack.cls = R_Re ∧ y_Re_isFromBack.cls ≠ "java/lang/invoke/MethodHandle" ∧ y_Re_isFromBack.cls ≠ "java/lang/invoke/VarHandle" ∧ (parseMethodDescriptor y_Re_isFromBack.desc).map (fun d => d.parameters.length) = some 0 := by decide +kernel
abbrev c_Re_isReadable : ByteArray := prog_5_method_5_code
def y_Re_isReadable : MethodName := ⟨R_Re, "isReadable", "(Z)Z"⟩
abbrev wc_Re_isReadable : Cond := .code y_Re_isReadable c_Re_isReadable 3 (some .boolean)
abbrev ws_Re_isReadable : List Cond := wc_Re_isReadable :: tb
theorem hd_Re_isReadable : y_Re_isReadable.cls = R_Re ∧ y_Re_isReadable.cls ≠ "java/lang/invoke/MethodHandle" ∧ y_Re_isReadable.cls ≠ "java/lang/invoke/VarHandle" ∧ (parseMethodDescriptor y_Re_isReadable.desc).map (fun d => d.parameters.length) = some 1 := by decide +kernel
abbrev c_Re_isThirteen : ByteArray := prog_5_method_6_code
def y_Re_isThirteen : MethodName := ⟨R_Re, "isThirteen", "()Z"⟩
abbrev wc_Re_isThirteen : Cond := .code y_Re_isThirteen c_Re_isThirteen 3 (some .boolean)
abbrev ws_Re_isThirteen : List Cond := wc_Re_isThirteen :: tb
theorem hd_Re_isThirteen : y_Re_isThirteen.cls = R_Re ∧ y_Re_isThirteen.cls ≠ "java/lang/invoke/MethodHandle" ∧ y_Re_isThirteen.cls ≠ "java/lang/invoke/VarHandle" ∧ (parseMethodDescriptor y_Re_isThirteen.desc).map (fun d => d.parameters.length) = some 0 := by decide +kernel
abbrev c_Re_areSidesAndMiddleRight : ByteArray := prog_5_method_7_code
def y_Re_areSidesAndMiddleRight : MethodName := ⟨R_Re, "areSidesAndMiddleRight", "()Z"⟩
abbrev wc_Re_areSidesAndMiddleRight : Cond := .code y_Re_areSidesAndMiddleRight c_Re_areSidesAndMiddleRight 2 (some .boolean)
abbrev ws_Re_areSidesAndMiddleRight : List Cond := wc_Re_areSidesAndMiddleRight :: tb
theorem hd_Re_areSidesAndMiddleRight : y_Re_areSidesAndMiddleRight.cls = R_Re ∧ y_Re_areSidesAndMiddleRight.cls ≠ "java/lang/invoke/MethodHandle" ∧ y_Re_areSidesAndMiddleRight.cls ≠ "java/lang/invoke/VarHandle" ∧ (parseMethodDescriptor y_Re_areSidesAndMiddleRight.desc).map (fun d => d.parameters.length) = some 0 := by decide +kernel
abbrev c_Re_isLeftHalf : ByteArray := prog_5_method_8_code
def y_Re_isLeftHalf : MethodName := ⟨R_Re, "isLeftHalf", "()Z"⟩
abbrev wc_Re_isLeftHalf : Cond := .code y_Re_isLeftHalf c_Re_isLeftHalf 6 (some .boolean)
abbrev ws_Re_isLeftHalf : List Cond := wc_Re_isLeftHalf :: tb
theorem hd_Re_isLeftHalf : y_Re_isLeftHalf.cls = R_Re ∧ y_Re_isLeftHalf.cls ≠ "java/lang/invoke/MethodHandle" ∧ y_Re_isLeftHalf.cls ≠ "java/lang/invoke/VarHandle" ∧ (parseMethodDescriptor y_Re_isLeftHalf.desc).map (fun d => d.parameters.length) = some 0 := by decide +kernel
abbrev c_Re_isRightHalf : ByteArray := prog_5_method_9_code
def y_Re_isRightHalf : MethodName := ⟨R_Re, "isRightHalf", "()Z"⟩
abbrev wc_Re_isRightHalf : Cond := .code y_Re_isRightHalf c_Re_isRightHalf 3 (some .boolean)
abbrev ws_Re_isRightHalf : List Cond := wc_Re_isRightHalf :: tb
theorem hd_Re_isRightHalf : y_Re_isRightHalf.cls = R_Re ∧ y_Re_isRightHalf.cls ≠ "java/lang/invoke/MethodHandle" ∧ y_Re_isRightHalf.cls ≠ "java/lang/invoke/VarHandle" ∧ (parseMethodDescriptor y_Re_isRightHalf.desc).map (fun d => d.parameters.length) = some 0 := by decide +kernel
abbrev c_Re_isRow : ByteArray := prog_5_method_10_code
def y_Re_isRow : MethodName := ⟨R_Re, "isRow", "()Z"⟩
abbrev wc_Re_isRow : Cond := .code y_Re_isRow c_Re_isRow 7 (some .boolean)
abbrev ws_Re_isRow : List Cond := wc_Re_isRow :: tb
theorem hd_Re_isRow : y_Re_isRow.cls = R_Re ∧ y_Re_isRow.cls ≠ "java/lang/invoke/MethodHandle" ∧ y_Re_isRow.cls ≠ "java/lang/invoke/VarHandle" ∧ (parseMethodDescriptor y_Re_isRow.desc).map (fun d => d.parameters.length) = some 0 := by decide +kernel
abbrev c_Re_isTold : ByteArray := prog_5_method_11_code
def y_Re_isTold : MethodName := ⟨R_Re, "isTold", "(I)Z"⟩
abbrev wc_Re_isTold : Cond := .code y_Re_isTold c_Re_isTold 2 (some .boolean)
abbrev ws_Re_isTold : List Cond := wc_Re_isTold :: tb
theorem hd_Re_isTold : y_Re_isTold.cls = R_Re ∧ y_Re_isTold.cls ≠ "java/lang/invoke/MethodHandle" ∧ y_Re_isTold.cls ≠ "java/lang/invoke/VarHandle" ∧ (parseMethodDescriptor y_Re_isTold.desc).map (fun d => d.parameters.length) = some 1 := by decide +kernel
abbrev c_Re_isSwitched : ByteArray := prog_5_method_12_code
def y_Re_isSwitched : MethodName := ⟨R_Re, "isSwitched", "(I)Z"⟩
abbrev wc_Re_isSwitched : Cond := .code y_Re_isSwitched c_Re_isSwitched 3 (some .boolean)
abbrev ws_Re_isSwitched : List Cond := wc_Re_isSwitched :: tb
theorem hd_Re_isSwitched : y_Re_isSwitched.cls = R_Re ∧ y_Re_isSwitched.cls ≠ "java/lang/invoke/MethodHandle" ∧ y_Re_isSwitched.cls ≠ "java/lang/invoke/VarHandle" ∧ (parseMethodDescriptor y_Re_isSwitched.desc).map (fun d => d.parameters.length) = some 1 := by decide +kernel
abbrev c_Re_figureCountsAt : ByteArray := prog_5_method_13_code
def y_Re_figureCountsAt : MethodName := ⟨R_Re, "figureCountsAt", "(I)I"⟩
abbrev wc_Re_figureCountsAt : Cond := .code y_Re_figureCountsAt c_Re_figureCountsAt 3 (some .int)
abbrev ws_Re_figureCountsAt : List Cond := wc_Re_figureCountsAt :: tb
theorem hd_Re_figureCountsAt : y_Re_figureCountsAt.cls = R_Re ∧ y_Re_figureCountsAt.cls ≠ "java/lang/invoke/MethodHandle" ∧ y_Re_figureCountsAt.cls ≠ "java/lang/invoke/VarHandle" ∧ (parseMethodDescriptor y_Re_figureCountsAt.desc).map (fun d => d.parameters.length) = some 1 := by decide +kernel
abbrev c_Re_symbolAt : ByteArray := prog_5_method_14_code
def y_Re_symbolAt : MethodName := ⟨R_Re, "symbolAt", "(I)I"⟩
abbrev wc_Re_symbolAt : Cond := .code y_Re_symbolAt c_Re_symbolAt 3 (some .int)
abbrev ws_Re_symbolAt : List Cond := wc_Re_symbolAt :: tb
theorem hd_Re_symbolAt : y_Re_symbolAt.cls = R_Re ∧ y_Re_symbolAt.cls ≠ "java/lang/invoke/MethodHandle" ∧ y_Re_symbolAt.cls ≠ "java/lang/invoke/VarHandle" ∧ (parseMethodDescriptor y_Re_symbolAt.desc).map (fun d => d.parameters.length) = some 1 := by decide +kernel
abbrev c_Re_isLastAt : ByteArray := prog_5_method_15_code
def y_Re_isLastAt : MethodName := ⟨R_Re, "isLastAt", "(I)Z"⟩
abbrev wc_Re_isLastAt : Cond := .code y_Re_isLastAt c_Re_isLastAt 3 (some .boolean)
abbrev ws_Re_isLastAt : List Cond := wc_Re_isLastAt :: tb
theorem hd_Re_isLastAt : y_Re_isLastAt.cls = R_Re ∧ y_Re_isLastAt.cls ≠ "java/lang/invoke/MethodHandle" ∧ y_Re_isLastAt.cls ≠ "java/lang/invoke/VarHandle" ∧ (parseMethodDescriptor y_Re_isLastAt.desc).map (fun d => d.parameters.length) = some 1 := by decide +kernel
abbrev c_Re_sumOf : ByteArray := prog_5_method_16_code
def y_Re_sumOf : MethodName := ⟨R_Re, "sumOf", "(II)I"⟩
abbrev wc_Re_sumOf : Cond := .code y_Re_sumOf c_Re_sumOf 5 (some .int)
abbrev ws_Re_sumOf : List Cond := wc_Re_sumOf :: tb
theorem hd_Re_sumOf : y_Re_sumOf.cls = R_Re ∧ y_Re_sumOf.cls ≠ "java/lang/invoke/MethodHandle" ∧ y_Re_sumOf.cls ≠ "java/lang/invoke/VarHandle" ∧ (parseMethodDescriptor y_Re_sumOf.desc).map (fun d => d.parameters.length) = some 2 := by decide +kernel
abbrev c_Re_countsOf : ByteArray := prog_5_method_17_code
def y_Re_countsOf : MethodName := ⟨R_Re, "countsOf", "(IIII)I"⟩
abbrev wc_Re_countsOf : Cond := .code y_Re_countsOf c_Re_countsOf 8 (some .int)
abbrev ws_Re_countsOf : List Cond := wc_Re_countsOf :: tb
theorem hd_Re_countsOf : y_Re_countsOf.cls = R_Re ∧ y_Re_countsOf.cls ≠ "java/lang/invoke/MethodHandle" ∧ y_Re_countsOf.cls ≠ "java/lang/invoke/VarHandle" ∧ (parseMethodDescriptor y_Re_countsOf.desc).map (fun d => d.parameters.length) = some 4 := by decide +kernel
abbrev c_Se_isFirst : ByteArray := prog_6_method_2_code
def y_Se_isFirst : MethodName := ⟨R_Se, "isFirst", "(I)Z"⟩
abbrev wc_Se_isFirst : Cond := .code y_Se_isFirst c_Se_isFirst 1 (some .boolean)
abbrev ws_Se_isFirst : List Cond := wc_Se_isFirst :: tb
theorem hd_Se_isFirst : y_Se_isFirst.cls = R_Se ∧ y_Se_isFirst.cls ≠ "java/lang/invoke/MethodHandle" ∧ y_Se_isFirst.cls ≠ "java/lang/invoke/VarHandle" ∧ (parseMethodDescriptor y_Se_isFirst.desc).map (fun d => d.parameters.length) = some 1 := by decide +kernel
abbrev c_Se_firstOf : ByteArray := prog_6_method_3_code
def y_Se_firstOf : MethodName := ⟨R_Se, "firstOf", "(I)I"⟩
abbrev wc_Se_firstOf : Cond := .code y_Se_firstOf c_Se_firstOf 1 (some .int)
abbrev ws_Se_firstOf : List Cond := wc_Se_firstOf :: tb
theorem hd_Se_firstOf : y_Se_firstOf.cls = R_Se ∧ y_Se_firstOf.cls ≠ "java/lang/invoke/MethodHandle" ∧ y_Se_firstOf.cls ≠ "java/lang/invoke/VarHandle" ∧ (parseMethodDescriptor y_Se_firstOf.desc).map (fun d => d.parameters.length) = some 1 := by decide +kernel
abbrev c_Se_switchTo : ByteArray := prog_6_method_4_code
def y_Se_switchTo : MethodName := ⟨R_Se, "switchTo", "(I)I"⟩
abbrev wc_Se_switchTo : Cond := .code y_Se_switchTo c_Se_switchTo 1 (some .int)
abbrev ws_Se_switchTo : List Cond := wc_Se_switchTo :: tb
theorem hd_Se_switchTo : y_Se_switchTo.cls = R_Se ∧ y_Se_switchTo.cls ≠ "java/lang/invoke/MethodHandle" ∧ y_Se_switchTo.cls ≠ "java/lang/invoke/VarHandle" ∧ (parseMethodDescriptor y_Se_switchTo.desc).map (fun d => d.parameters.length) = some 1 := by decide +kernel
abbrev c_Se_setAfter : ByteArray := prog_6_method_5_code
def y_Se_setAfter : MethodName := ⟨R_Se, "setAfter", "(II)I"⟩
abbrev wc_Se_setAfter : Cond := .code y_Se_setAfter c_Se_setAfter 3 (some .int)
abbrev ws_Se_setAfter : List Cond := wc_Se_setAfter :: tb
theorem hd_Se_setAfter : y_Se_setAfter.cls = R_Se ∧ y_Se_setAfter.cls ≠ "java/lang/invoke/MethodHandle" ∧ y_Se_setAfter.cls ≠ "java/lang/invoke/VarHandle" ∧ (parseMethodDescriptor y_Se_setAfter.desc).map (fun d => d.parameters.length) = some 2 := by decide +kernel
abbrev c_Se_otherOfAB : ByteArray := prog_6_method_6_code
def y_Se_otherOfAB : MethodName := ⟨R_Se, "otherOfAB", "(I)I"⟩
abbrev wc_Se_otherOfAB : Cond := .code y_Se_otherOfAB c_Se_otherOfAB 1 (some .int)
abbrev ws_Se_otherOfAB : List Cond := wc_Se_otherOfAB :: tb
theorem hd_Se_otherOfAB : y_Se_otherOfAB.cls = R_Se ∧ y_Se_otherOfAB.cls ≠ "java/lang/invoke/MethodHandle" ∧ y_Se_otherOfAB.cls ≠ "java/lang/invoke/VarHandle" ∧ (parseMethodDescriptor y_Se_otherOfAB.desc).map (fun d => d.parameters.length) = some 1 := by decide +kernel
abbrev c_Se_symbolOf : ByteArray := prog_6_method_7_code
def y_Se_symbolOf : MethodName := ⟨R_Se, "symbolOf", "(II)I"⟩
abbrev wc_Se_symbolOf : Cond := .code y_Se_symbolOf c_Se_symbolOf 2 (some .int)
abbrev ws_Se_symbolOf : List Cond := wc_Se_symbolOf :: tb
theorem hd_Se_symbolOf : y_Se_symbolOf.cls = R_Se ∧ y_Se_symbolOf.cls ≠ "java/lang/invoke/MethodHandle" ∧ y_Se_symbolOf.cls ≠ "java/lang/invoke/VarHandle" ∧ (parseMethodDescriptor y_Se_symbolOf.desc).map (fun d => d.parameters.length) = some 2 := by decide +kernel
abbrev c_Se_signOf : ByteArray := prog_6_method_8_code
def y_Se_signOf : MethodName := ⟨R_Se, "signOf", "(II)I"⟩
abbrev wc_Se_signOf : Cond := .code y_Se_signOf c_Se_signOf 2 (some .int)
abbrev ws_Se_signOf : List Cond := wc_Se_signOf :: tb
theorem hd_Se_signOf : y_Se_signOf.cls = R_Se ∧ y_Se_signOf.cls ≠ "java/lang/invoke/MethodHandle" ∧ y_Se_signOf.cls ≠ "java/lang/invoke/VarHandle" ∧ (parseMethodDescriptor y_Se_signOf.desc).map (fun d => d.parameters.length) = some 2 := by decide +kernel
abbrev c_Se_pairOf : ByteArray := prog_6_method_9_code
def y_Se_pairOf : MethodName := ⟨R_Se, "pairOf", "(II)I"⟩
abbrev wc_Se_pairOf : Cond := .code y_Se_pairOf c_Se_pairOf 2 (some .int)
abbrev ws_Se_pairOf : List Cond := wc_Se_pairOf :: tb
theorem hd_Se_pairOf : y_Se_pairOf.cls = R_Se ∧ y_Se_pairOf.cls ≠ "java/lang/invoke/MethodHandle" ∧ y_Se_pairOf.cls ≠ "java/lang/invoke/VarHandle" ∧ (parseMethodDescriptor y_Se_pairOf.desc).map (fun d => d.parameters.length) = some 2 := by decide +kernel
abbrev c_Se_isFigure : ByteArray := prog_6_method_10_code
def y_Se_isFigure : MethodName := ⟨R_Se, "isFigure", "(I)Z"⟩
abbrev wc_Se_isFigure : Cond := .code y_Se_isFigure c_Se_isFigure 1 (some .boolean)
abbrev ws_Se_isFigure : List Cond := wc_Se_isFigure :: tb
theorem hd_Se_isFigure : y_Se_isFigure.cls = R_Se ∧ y_Se_isFigure.cls ≠ "java/lang/invoke/MethodHandle" ∧ y_Se_isFigure.cls ≠ "java/lang/invoke/VarHandle" ∧ (parseMethodDescriptor y_Se_isFigure.desc).map (fun d => d.parameters.length) = some 1 := by decide +kernel
abbrev c_Wi_ofSymbol : ByteArray := prog_7_method_2_code
def y_Wi_ofSymbol : MethodName := ⟨R_Wi, "ofSymbol", "(I)I"⟩
abbrev wc_Wi_ofSymbol : Cond := .code y_Wi_ofSymbol c_Wi_ofSymbol 1 (some .int)
abbrev ws_Wi_ofSymbol : List Cond := wc_Wi_ofSymbol :: tb
theorem hd_Wi_ofSymbol : y_Wi_ofSymbol.cls = R_Wi ∧ y_Wi_ofSymbol.cls ≠ "java/lang/invoke/MethodHandle" ∧ y_Wi_ofSymbol.cls ≠ "java/lang/invoke/VarHandle" ∧ (parseMethodDescriptor y_Wi_ofSymbol.desc).map (fun d => d.parameters.length) = some 1 := by decide +kernel
abbrev c_Wi_ofFigure : ByteArray := prog_7_method_3_code
def y_Wi_ofFigure : MethodName := ⟨R_Wi, "ofFigure", "(I)I"⟩
abbrev wc_Wi_ofFigure : Cond := .code y_Wi_ofFigure c_Wi_ofFigure 1 (some .int)
abbrev ws_Wi_ofFigure : List Cond := wc_Wi_ofFigure :: tb
theorem hd_Wi_ofFigure : y_Wi_ofFigure.cls = R_Wi ∧ y_Wi_ofFigure.cls ≠ "java/lang/invoke/MethodHandle" ∧ y_Wi_ofFigure.cls ≠ "java/lang/invoke/VarHandle" ∧ (parseMethodDescriptor y_Wi_ofFigure.desc).map (fun d => d.parameters.length) = some 1 := by decide +kernel
abbrev c_Wi_turnsOf : ByteArray := prog_7_method_4_code
def y_Wi_turnsOf : MethodName := ⟨R_Wi, "turnsOf", "(I)I"⟩
abbrev wc_Wi_turnsOf : Cond := .code y_Wi_turnsOf c_Wi_turnsOf 1 (some .int)
abbrev ws_Wi_turnsOf : List Cond := wc_Wi_turnsOf :: tb
theorem hd_Wi_turnsOf : y_Wi_turnsOf.cls = R_Wi ∧ y_Wi_turnsOf.cls ≠ "java/lang/invoke/MethodHandle" ∧ y_Wi_turnsOf.cls ≠ "java/lang/invoke/VarHandle" ∧ (parseMethodDescriptor y_Wi_turnsOf.desc).map (fun d => d.parameters.length) = some 1 := by decide +kernel
abbrev c_Wi_symbolWith : ByteArray := prog_7_method_5_code
def y_Wi_symbolWith : MethodName := ⟨R_Wi, "symbolWith", "(I)I"⟩
abbrev wc_Wi_symbolWith : Cond := .code y_Wi_symbolWith c_Wi_symbolWith 1 (some .int)
abbrev ws_Wi_symbolWith : List Cond := wc_Wi_symbolWith :: tb
theorem hd_Wi_symbolWith : y_Wi_symbolWith.cls = R_Wi ∧ y_Wi_symbolWith.cls ≠ "java/lang/invoke/MethodHandle" ∧ y_Wi_symbolWith.cls ≠ "java/lang/invoke/VarHandle" ∧ (parseMethodDescriptor y_Wi_symbolWith.desc).map (fun d => d.parameters.length) = some 1 := by decide +kernel
abbrev c_Wi_figureWith : ByteArray := prog_7_method_6_code
def y_Wi_figureWith : MethodName := ⟨R_Wi, "figureWith", "(I)I"⟩
abbrev wc_Wi_figureWith : Cond := .code y_Wi_figureWith c_Wi_figureWith 1 (some .int)
abbrev ws_Wi_figureWith : List Cond := wc_Wi_figureWith :: tb
theorem hd_Wi_figureWith : y_Wi_figureWith.cls = R_Wi ∧ y_Wi_figureWith.cls ≠ "java/lang/invoke/MethodHandle" ∧ y_Wi_figureWith.cls ≠ "java/lang/invoke/VarHandle" ∧ (parseMethodDescriptor y_Wi_figureWith.desc).map (fun d => d.parameters.length) = some 1 := by decide +kernel
abbrev c_Wi_firstFigureWith : ByteArray := prog_7_method_7_code
def y_Wi_firstFigureWith : MethodName := ⟨R_Wi, "firstFigureWith", "(I)I"⟩
abbrev wc_Wi_firstFigureWith : Cond := .code y_Wi_firstFigureWith c_Wi_firstFigureWith 1 (some .int)
abbrev ws_Wi_firstFigureWith : List Cond := wc_Wi_firstFigureWith :: tb
theorem hd_Wi_firstFigureWith : y_Wi_firstFigureWith.cls = R_Wi ∧ y_Wi_firstFigureWith.cls ≠ "java/lang/invoke/MethodHandle" ∧ y_Wi_firstFigureWith.cls ≠ "java/lang/invoke/VarHandle" ∧ (parseMethodDescriptor y_Wi_firstFigureWith.desc).map (fun d => d.parameters.length) = some 1 := by decide +kernel
abbrev c_Wi_turned : ByteArray := prog_7_method_8_code
def y_Wi_turned : MethodName := ⟨R_Wi, "turned", "(I)I"⟩
abbrev wc_Wi_turned : Cond := .code y_Wi_turned c_Wi_turned 1 (some .int)
abbrev ws_Wi_turned : List Cond := wc_Wi_turned :: tb
theorem hd_Wi_turned : y_Wi_turned.cls = R_Wi ∧ y_Wi_turned.cls ≠ "java/lang/invoke/MethodHandle" ∧ y_Wi_turned.cls ≠ "java/lang/invoke/VarHandle" ∧ (parseMethodDescriptor y_Wi_turned.desc).map (fun d => d.parameters.length) = some 1 := by decide +kernel
abbrev c_Wi_entry : ByteArray := prog_7_method_9_code
def y_Wi_entry : MethodName := ⟨R_Wi, "entry", "([II)I"⟩
abbrev wc_Wi_entry : Cond := .code y_Wi_entry c_Wi_entry 2 (some .int)
abbrev ws_Wi_entry : List Cond := wc_Wi_entry :: tb
theorem hd_Wi_entry : y_Wi_entry.cls = R_Wi ∧ y_Wi_entry.cls ≠ "java/lang/invoke/MethodHandle" ∧ y_Wi_entry.cls ≠ "java/lang/invoke/VarHandle" ∧ (parseMethodDescriptor y_Wi_entry.desc).map (fun d => d.parameters.length) = some 2 := by decide +kernel
abbrev c_Wi_placeOf : ByteArray := prog_7_method_10_code
def y_Wi_placeOf : MethodName := ⟨R_Wi, "placeOf", "([II)I"⟩
abbrev wc_Wi_placeOf : Cond := .code y_Wi_placeOf c_Wi_placeOf 3 (some .int)
abbrev ws_Wi_placeOf : List Cond := wc_Wi_placeOf :: tb
theorem hd_Wi_placeOf : y_Wi_placeOf.cls = R_Wi ∧ y_Wi_placeOf.cls ≠ "java/lang/invoke/MethodHandle" ∧ y_Wi_placeOf.cls ≠ "java/lang/invoke/VarHandle" ∧ (parseMethodDescriptor y_Wi_placeOf.desc).map (fun d => d.parameters.length) = some 2 := by decide +kernel
abbrev c_Lw_write : ByteArray := method_3_code
def y_Lw_write : MethodName := ⟨R_Lw, "write", "(LLineCodes;IJ[J)I"⟩
abbrev wc_Lw_write : Cond := .codeWith y_Lw_write c_Lw_write 6 (some .int) [(0, 11, 14, 13)]
abbrev ws_Lw_write : List Cond := wc_Lw_write :: tb
theorem hd_Lw_write : y_Lw_write.cls = R_Lw ∧ y_Lw_write.cls ≠ "java/lang/invoke/MethodHandle" ∧ y_Lw_write.cls ≠ "java/lang/invoke/VarHandle" ∧ (parseMethodDescriptor y_Lw_write.desc).map (fun d => d.parameters.length) = some 4 := by decide +kernel
abbrev c_Lw_bars : ByteArray := method_4_code
def y_Lw_bars : MethodName := ⟨R_Lw, "bars", "(LLineCodes;I[J)I"⟩
abbrev wc_Lw_bars : Cond := .codeWith y_Lw_bars c_Lw_bars 4 (some .int) [(0, 9, 12, 13), (0, 9, 15, 19)]
abbrev ws_Lw_bars : List Cond := wc_Lw_bars :: tb
theorem hd_Lw_bars : y_Lw_bars.cls = R_Lw ∧ y_Lw_bars.cls ≠ "java/lang/invoke/MethodHandle" ∧ y_Lw_bars.cls ≠ "java/lang/invoke/VarHandle" ∧ (parseMethodDescriptor y_Lw_bars.desc).map (fun d => d.parameters.length) = some 3 := by decide +kernel
abbrev c_Lw_checkFigure : ByteArray := method_5_code
def y_Lw_checkFigure : MethodName := ⟨R_Lw, "checkFigure", "(LLineCodes;J[J)I"⟩
abbrev wc_Lw_checkFigure : Cond := .codeWith y_Lw_checkFigure c_Lw_checkFigure 5 (some .int) [(0, 9, 12, 13)]
abbrev ws_Lw_checkFigure : List Cond := wc_Lw_checkFigure :: tb
theorem hd_Lw_checkFigure : y_Lw_checkFigure.cls = R_Lw ∧ y_Lw_checkFigure.cls ≠ "java/lang/invoke/MethodHandle" ∧ y_Lw_checkFigure.cls ≠ "java/lang/invoke/VarHandle" ∧ (parseMethodDescriptor y_Lw_checkFigure.desc).map (fun d => d.parameters.length) = some 3 := by decide +kernel
abbrev c_Lw_thirteen : ByteArray := method_6_code
def y_Lw_thirteen : MethodName := ⟨R_Lw, "thirteen", "(LLineCodes;JI[J)I"⟩
abbrev wc_Lw_thirteen : Cond := .codeWith y_Lw_thirteen c_Lw_thirteen 6 (some .int) [(0, 11, 14, 13)]
abbrev ws_Lw_thirteen : List Cond := wc_Lw_thirteen :: tb
theorem hd_Lw_thirteen : y_Lw_thirteen.cls = R_Lw ∧ y_Lw_thirteen.cls ≠ "java/lang/invoke/MethodHandle" ∧ y_Lw_thirteen.cls ≠ "java/lang/invoke/VarHandle" ∧ (parseMethodDescriptor y_Lw_thirteen.desc).map (fun d => d.parameters.length) = some 4 := by decide +kernel
abbrev c_Lw_put : ByteArray := method_7_code
def y_Lw_put : MethodName := ⟨R_Lw, "put", "(LLineCodes;IJ[J)I"⟩
abbrev wc_Lw_put : Cond := .codeWith y_Lw_put c_Lw_put 6 (some .int) [(0, 11, 14, 13)]
abbrev ws_Lw_put : List Cond := wc_Lw_put :: tb
theorem hd_Lw_put : y_Lw_put.cls = R_Lw ∧ y_Lw_put.cls ≠ "java/lang/invoke/MethodHandle" ∧ y_Lw_put.cls ≠ "java/lang/invoke/VarHandle" ∧ (parseMethodDescriptor y_Lw_put.desc).map (fun d => d.parameters.length) = some 4 := by decide +kernel
abbrev c_Lw_spoil : ByteArray := method_8_code
def y_Lw_spoil : MethodName := ⟨R_Lw, "spoil", "(LLineCodes;II[J)I"⟩
abbrev wc_Lw_spoil : Cond := .codeWith y_Lw_spoil c_Lw_spoil 5 (some .int) [(0, 10, 13, 36), (0, 10, 17, 13)]
abbrev ws_Lw_spoil : List Cond := wc_Lw_spoil :: tb
theorem hd_Lw_spoil : y_Lw_spoil.cls = R_Lw ∧ y_Lw_spoil.cls ≠ "java/lang/invoke/MethodHandle" ∧ y_Lw_spoil.cls ≠ "java/lang/invoke/VarHandle" ∧ (parseMethodDescriptor y_Lw_spoil.desc).map (fun d => d.parameters.length) = some 4 := by decide +kernel
abbrev c_Lw_law : ByteArray := code
def y_Lw_law : MethodName := ⟨R_Lw, "law", "([I)Z"⟩
end
section
/-! Calls in one row: the callee's cells are cut out of the world, the contract is used, what came back is joined. -/
/-- facts of the tables and statics that outlive every call: they move with alike machines, stay where their cells stay, and hold of fewer places -/
def zk (Z : (Nat → Prop) → State → Heap → Prop) : Prop := (∀ (A : Nat → Prop) (u U : State) (H : Heap), u.vm.Alike U.vm → Z A u H → Z A U H) ∧ (∀ (A : Nat → Prop) (U : State) (H H1 : Heap), Z A U H → (∀ a : Nat, a < H.size → ¬ A a → H1[a]? = H[a]?) → Z A U H1) ∧ (∀ (A B : Nat → Prop) (U : State) (H : Heap), Z A U H → (∀ q, B q → A q) → Z B U H)
theorem zk_to {Z : (Nat → Prop) → State → Heap → Prop} (hz : zk Z) {A B : Nat → Prop} {s U : State} {H : Heap} {locs : List Loc} (h : Z A s s.heap) (hS : va_S A s.heap H locs) (hAB : ∀ q, B q → A q) (hU : U.heap = H) (hv : s.vm.Alike U.vm) : Z B U U.heap := by
  rw [hU]
  exact hz.2.2 _ _ _ _ (hz.1 _ _ _ _ hv (hz.2.1 _ _ _ _ h hS.2.1)) hAB
/-- a start of a method that only reads: the world, the array classes, the statics -/
def ro_ (D : va_G) (cl : List vw_C) (tys : List (ClassId × FieldType)) (ws : va_W) (Z : (Nat → Prop) → State → Heap → Prop) : State → Prop := fun U => va_P D cl ws U.heap ∧ va_K D cl tys U ∧ Z (fun _ => False) U U.heap
/-- a start of a method that writes -/
def rw_ (D : va_G) (cl : List vw_C) (tys : List (ClassId × FieldType)) (ws : va_W) (Z : (Nat → Prop) → State → Heap → Prop) (sz : Nat) : State → Prop := fun U => U.heap.size = sz ∧ va_P D cl ws U.heap ∧ va_K D cl tys U ∧ va_D (fun _ => True) ws ∧ Z (va_A ws sz) U U.heap
/-- the world behind a method -/
def at_ (D : va_G) (cl : List vw_C) (tys : List (ClassId × FieldType)) (A : Nat → Prop) (ws : va_W) (t : State) : Prop := va_P D cl ws t.heap ∧ va_K D cl tys t ∧ va_D A ws
theorem ro_blind {Z : (Nat → Prop) → State → Heap → Prop} (hz : zk Z) {D : va_G} {cl : List vw_C} {tys : List (ClassId × FieldType)} {ws : va_W} {av : List Value} : FrameBlind (va_Pc av (ro_ D cl tys ws Z)) := by
  intro a U g mk q
  obtain ⟨q0, qP, qK, qZ⟩ := q
  exact ⟨q0, qP, va_K.moved (u := U) (U := U.calling g mk a) (Vm.Alike.refl U.vm) qK, hz.1 _ U (U.calling g mk a) _ (Vm.Alike.refl U.vm) qZ⟩
theorem rw_blind {Z : (Nat → Prop) → State → Heap → Prop} (hz : zk Z) {D : va_G} {cl : List vw_C} {tys : List (ClassId × FieldType)} {ws : va_W} {av : List Value} {sz : Nat} : FrameBlind (va_Pc av (rw_ D cl tys ws Z sz)) := by
  intro a U g mk q
  obtain ⟨q0, q1, qP, qK, qD, qZ⟩ := q
  exact ⟨q0, q1, qP, va_K.moved (u := U) (U := U.calling g mk a) (Vm.Alike.refl U.vm) qK, qD, hz.1 _ U (U.calling g mk a) _ (Vm.Alike.refl U.vm) qZ⟩
section KCALLS
variable {p : Program} {l : Launch} {e : Env} {R : Room} {s : State} {m : MethodId} {args : Array Value} {below : List Frame} {meth : Method} {c : Code} {H : Heap} {locs : List Loc} {cells slots : Nat} {Q : State → Prop}
variable {cc : ByteArray} {pc nL n index : Nat} {ls : Array Slot} {st0 rest As : List Value} {Ts wsy : List Cond} {own C : String} {y : MethodName} {bytes : ByteArray} {maxL : Nat} {ret : Option FieldType} {rm : Room}
variable {D : va_G} {cl : List vw_C} {tys tysc : List (ClassId × FieldType)} {ws wc wr : va_W} {A : Nat → Prop} {Z : (Nat → Prop) → State → Heap → Prop} {b : Nat}
theorem ro_pre {av : List Value} (hz : zk Z) (isC isT : List Nat) (hP : va_P D cl ws H) (hK : va_K D cl tys s) (hZ : Z A s s.heap) (hS : va_S A s.heap H locs) (hC : isC.filterMap (fun i => ws[i]?) = wc) (hT : isT.filterMap (fun i => tys[i]?) = tysc) : ∀ U : State, U.heap = H → s.WarmedH U.vm → va_Pc av (ro_ D cl tysc wc Z) av.toArray U := by
  intro U hU hW
  exact ⟨rfl, by rw [hU]; exact hP.sub isC hC, va_K.moved hW.alike (hK.sub isT hT), zk_to hz hZ hS (fun _ h => h.elim) hU hW.alike⟩
/-- a reader of an object: int answer -/
theorem k_roVi {post : Int32 → Prop} (hz : zk Z) (isC isT : List Nat) (q0 ci : Nat) (S : CallFix p m c cc nL s args Ts own) (hM : Met l y wsy rm (va_Pc (.ref b :: As) (ro_ D cl tysc wc Z)) (vp_Si post) 0 0 (fun _ => False)) (cw : CallW R s args own C index y bytes maxL ret wsy rm 0 0 n)
    (hP : va_P D cl ws H) (hK : va_K D cl tys s) (hZ : Z A s s.heap) (hS : va_S A s.heap H locs) (hC : isC.filterMap (fun i => ws[i]?) = wc) (hT : isT.filterMap (fun i => tys[i]?) = tysc) {fs : List Value} {T : u_T} {N : Nat} (he : ws[q0]? = some (b, .inr (ci, fs))) (hc : cl[ci]? = some (C, T, N))
    (hn : As.length = n) (hsize : ls.size = nL) (hst : st0 = As.reverse ++ .ref b :: rest) (hW : (rest.map fun v => v.category).sum ≤ 8) (hdg : decode cc pc = .ok (.invokevirtual index, 3)) (hf : cells ≤ R.cells ∧ slots ≤ R.slots)
    (kk : ∀ r : Int32, post r → W p l e R s m args below meth c H locs cells slots Q (F0 m (pc + 3) ls (.int r :: rest))) : W p l e R s m args below meth c H locs cells slots Q (F0 m pc ls st0) :=
  vp_callSi (va_runV (As := As) (rest := rest) S hM cw ⟨ro_blind hz, va_recv hK hP hc he, ro_pre hz isC isT hP hK hZ hS hC hT⟩ rfl hn hsize hst (lv_room hW) hdg hf).run kk
/-- a static reader: int answer -/
theorem k_roSi {post : Int32 → Prop} (hz : zk Z) (isC isT : List Nat) (S : CallFix p m c cc nL s args Ts own) (hM : Met l y wsy rm (va_Pc As (ro_ D cl tysc wc Z)) (vp_Si post) 0 0 (fun _ => False)) (cw : CallB R s args own index y bytes maxL ret wsy rm 0 0 n ∧ (Cond.static y).before args s = true)
    (hP : va_P D cl ws H) (hK : va_K D cl tys s) (hZ : Z A s s.heap) (hS : va_S A s.heap H locs) (hC : isC.filterMap (fun i => ws[i]?) = wc) (hT : isT.filterMap (fun i => tys[i]?) = tysc)
    (hn : As.length = n) (hsize : ls.size = nL) (hst : st0 = As.reverse ++ rest) (hW : (rest.map fun v => v.category).sum ≤ 8) (hdg : decode cc pc = .ok (.invokestatic index, 3)) (hf : cells ≤ R.cells ∧ slots ≤ R.slots)
    (kk : ∀ r : Int32, post r → W p l e R s m args below meth c H locs cells slots Q (F0 m (pc + 3) ls (.int r :: rest))) : W p l e R s m args below meth c H locs cells slots Q (F0 m pc ls st0) :=
  vp_callSi (va_runS (As := As) (rest := rest) S hM cw ⟨ro_blind hz, ro_pre hz isC isT hP hK hZ hS hC hT⟩ rfl hn hsize hst (lv_room hW) hdg hf).run kk
theorem rw_pre {av : List Value} (hz : zk Z) (isC isT : List Nat) (hP : va_P D cl ws H) (hD : va_D A ws) (hK : va_K D cl tys s) (hZ : Z A s s.heap) (hS : va_S A s.heap H locs) (hA : ∀ q, s.heap.size ≤ q → A q) (hC : isC.map (fun i => ws[i]?) = wc.map some) (hC' : isC.filterMap (fun i => ws[i]?) = wc) (hn : va_nd isC = true) (hT : isT.filterMap (fun i => tys[i]?) = tysc) : ∀ U : State, U.heap = H → s.WarmedH U.vm → va_Pc av (rw_ D cl tysc wc Z H.size) av.toArray U := by
  intro U hU hW
  exact ⟨rfl, by rw [hU], by rw [hU]; exact hP.sub isC hC', va_K.moved hW.alike (hK.sub isT hT), (hD.sub isC hn hC).weaken (fun _ _ _ _ => trivial), zk_to hz hZ hS (va_free hD hS hA isC hC) hU hW.alike⟩
/-- a writer of an object: int answer -/
theorem k_rwVi {S1 : Type} {post : Int32 → S1 → Prop} {wn : S1 → va_W} (hz : zk Z) (isC isR isT : List Nat) (q0 ci : Nat) (S : CallFix p m c cc nL s args Ts own) (hM : Met l y wsy rm (va_Pc (.ref b :: As) (rw_ D cl tysc wc Z H.size)) (va_Qi post (fun u t => at_ D cl tysc (va_A wc H.size) (wn u) t) (va_A wc H.size)) 0 0 (va_A wc H.size)) (cw : CallW R s args own C index y bytes maxL ret wsy rm 0 0 n)
    (hP : va_P D cl ws H) (hD : va_D A ws) (hK : va_K D cl tys s) (hZ : Z A s s.heap) (hS : va_S A s.heap H locs) (hA : ∀ q, s.heap.size ≤ q → A q) (hC : isC.map (fun i => ws[i]?) = wc.map some) (hC' : isC.filterMap (fun i => ws[i]?) = wc) (hR : isR.map (fun i => ws[i]?) = wr.map some) (hnC : va_nd isC = true) (hnR : va_nd isR = true) (hdis : ∀ i ∈ isR, i ∉ isC) (hT : isT.filterMap (fun i => tys[i]?) = tysc) {fs : List Value} {T : u_T} {N : Nat} (he : ws[q0]? = some (b, .inr (ci, fs))) (hc : cl[ci]? = some (C, T, N))
    (hn : As.length = n) (hsize : ls.size = nL) (hst : st0 = As.reverse ++ .ref b :: rest) (hW : (rest.map fun v => v.category).sum ≤ 8) (hdg : decode cc pc = .ok (.invokevirtual index, 3)) (hf : cells ≤ R.cells ∧ slots ≤ R.slots)
    (kk : ∀ (r : Int32) (u : S1) (H1 : Heap) (locs1 : List Loc), post r u → va_P D cl (wr ++ wn u) H1 → va_D A (wr ++ wn u) → va_S A s.heap H1 locs1 → W p l e R s m args below meth c H1 locs1 cells slots Q (F0 m (pc + 3) ls (.int r :: rest))) : W p l e R s m args below meth c H locs cells slots Q (F0 m pc ls st0) := by
  have hFc := va_free (wc := wc) hD hS hA isC hC
  refine va_calli (va_runV (As := As) (rest := rest) S hM cw ⟨rw_blind hz, va_recv hK hP hc he, rw_pre hz isC isT hP hD hK hZ hS hA hC hC' hnC hT⟩ rfl hn hsize hst (lv_room hW) hdg hf) hS (fun q _ h => hFc q h) hFc (fun r u t H1 locs1 ht hvm hw hB hz1 hk1 hS1 => ?_)
  obtain ⟨hP1, hK1, hD1⟩ := hB
  rw [ht] at hP1
  obtain ⟨hP2, hD2⟩ := va_join (wr := wr) (w1 := wn u) hP hD isC isR hC hR hnR hdis hk1 hFc hP1 hD1
  exact kk r u H1 locs1 hw hP2 hD2 hS1
/-- a writer of an object: no answer -/
theorem k_rwVv {S1 : Type} {post : S1 → Prop} {wn : S1 → va_W} (hz : zk Z) (isC isR isT : List Nat) (q0 ci : Nat) (S : CallFix p m c cc nL s args Ts own) (hM : Met l y wsy rm (va_Pc (.ref b :: As) (rw_ D cl tysc wc Z H.size)) (va_Qv post (fun u t => at_ D cl tysc (va_A wc H.size) (wn u) t) (va_A wc H.size)) 0 0 (va_A wc H.size)) (cw : CallW R s args own C index y bytes maxL ret wsy rm 0 0 n)
    (hP : va_P D cl ws H) (hD : va_D A ws) (hK : va_K D cl tys s) (hZ : Z A s s.heap) (hS : va_S A s.heap H locs) (hA : ∀ q, s.heap.size ≤ q → A q) (hC : isC.map (fun i => ws[i]?) = wc.map some) (hC' : isC.filterMap (fun i => ws[i]?) = wc) (hR : isR.map (fun i => ws[i]?) = wr.map some) (hnC : va_nd isC = true) (hnR : va_nd isR = true) (hdis : ∀ i ∈ isR, i ∉ isC) (hT : isT.filterMap (fun i => tys[i]?) = tysc) {fs : List Value} {T : u_T} {N : Nat} (he : ws[q0]? = some (b, .inr (ci, fs))) (hc : cl[ci]? = some (C, T, N))
    (hn : As.length = n) (hsize : ls.size = nL) (hst : st0 = As.reverse ++ .ref b :: rest) (hW : (rest.map fun v => v.category).sum ≤ 8) (hdg : decode cc pc = .ok (.invokevirtual index, 3)) (hf : cells ≤ R.cells ∧ slots ≤ R.slots)
    (kk : ∀ (u : S1) (H1 : Heap) (locs1 : List Loc), post u → va_P D cl (wr ++ wn u) H1 → va_D A (wr ++ wn u) → va_S A s.heap H1 locs1 → W p l e R s m args below meth c H1 locs1 cells slots Q (F0 m (pc + 3) ls rest)) : W p l e R s m args below meth c H locs cells slots Q (F0 m pc ls st0) := by
  have hFc := va_free (wc := wc) hD hS hA isC hC
  refine va_callv (va_runV (As := As) (rest := rest) S hM cw ⟨rw_blind hz, va_recv hK hP hc he, rw_pre hz isC isT hP hD hK hZ hS hA hC hC' hnC hT⟩ rfl hn hsize hst (lv_room hW) hdg hf) hS (fun q _ h => hFc q h) hFc (fun u t H1 locs1 ht hvm hw hB hz1 hk1 hS1 => ?_)
  obtain ⟨hP1, hK1, hD1⟩ := hB
  rw [ht] at hP1
  obtain ⟨hP2, hD2⟩ := va_join (wr := wr) (w1 := wn u) hP hD isC isR hC hR hnR hdis hk1 hFc hP1 hD1
  exact kk u H1 locs1 hw hP2 hD2 hS1
/-- a static writer: int answer -/
theorem k_rwSi {S1 : Type} {post : Int32 → S1 → Prop} {wn : S1 → va_W} (hz : zk Z) (isC isR isT : List Nat) (S : CallFix p m c cc nL s args Ts own) (hM : Met l y wsy rm (va_Pc As (rw_ D cl tysc wc Z H.size)) (va_Qi post (fun u t => at_ D cl tysc (va_A wc H.size) (wn u) t) (va_A wc H.size)) 0 0 (va_A wc H.size)) (cw : CallB R s args own index y bytes maxL ret wsy rm 0 0 n ∧ (Cond.static y).before args s = true)
    (hP : va_P D cl ws H) (hD : va_D A ws) (hK : va_K D cl tys s) (hZ : Z A s s.heap) (hS : va_S A s.heap H locs) (hA : ∀ q, s.heap.size ≤ q → A q) (hC : isC.map (fun i => ws[i]?) = wc.map some) (hC' : isC.filterMap (fun i => ws[i]?) = wc) (hR : isR.map (fun i => ws[i]?) = wr.map some) (hnC : va_nd isC = true) (hnR : va_nd isR = true) (hdis : ∀ i ∈ isR, i ∉ isC) (hT : isT.filterMap (fun i => tys[i]?) = tysc)
    (hn : As.length = n) (hsize : ls.size = nL) (hst : st0 = As.reverse ++ rest) (hW : (rest.map fun v => v.category).sum ≤ 8) (hdg : decode cc pc = .ok (.invokestatic index, 3)) (hf : cells ≤ R.cells ∧ slots ≤ R.slots)
    (kk : ∀ (r : Int32) (u : S1) (H1 : Heap) (locs1 : List Loc), post r u → va_P D cl (wr ++ wn u) H1 → va_D A (wr ++ wn u) → va_S A s.heap H1 locs1 → W p l e R s m args below meth c H1 locs1 cells slots Q (F0 m (pc + 3) ls (.int r :: rest))) : W p l e R s m args below meth c H locs cells slots Q (F0 m pc ls st0) := by
  have hFc := va_free (wc := wc) hD hS hA isC hC
  refine va_calli (va_runS (As := As) (rest := rest) S hM cw ⟨rw_blind hz, rw_pre hz isC isT hP hD hK hZ hS hA hC hC' hnC hT⟩ rfl hn hsize hst (lv_room hW) hdg hf) hS (fun q _ h => hFc q h) hFc (fun r u t H1 locs1 ht hvm hw hB hz1 hk1 hS1 => ?_)
  obtain ⟨hP1, hK1, hD1⟩ := hB
  rw [ht] at hP1
  obtain ⟨hP2, hD2⟩ := va_join (wr := wr) (w1 := wn u) hP hD isC isR hC hR hnR hdis hk1 hFc hP1 hD1
  exact kk r u H1 locs1 hw hP2 hD2 hS1
/-- a constructor: new cells, new array classes -/
theorem k_Iv {S1 : Type} {post : S1 → Prop} {wn : S1 → va_W} {tn : S1 → List (ClassId × FieldType)} {mc ms : Nat} (hz : zk Z) (isC isR isT : List Nat) (S : CallFix p m c cc nL s args Ts own) (hM : Met l y wsy rm (va_Pc (.ref b :: As) (rw_ D cl tysc wc Z H.size)) (va_Qv post (fun u t => at_ D cl (tn u) (va_A wc H.size) (wn u) t) (va_A wc H.size)) mc ms (va_A wc H.size)) (cw : CallB R s args own index y bytes maxL none wsy rm mc ms n ∧ y.name = "<init>" ∧ (Cond.instanceMethod y).before args s = true)
    (hP : va_P D cl ws H) (hD : va_D A ws) (hK : va_K D cl tys s) (hZ : Z A s s.heap) (hS : va_S A s.heap H locs) (hA : ∀ q, s.heap.size ≤ q → A q) (hC : isC.map (fun i => ws[i]?) = wc.map some) (hC' : isC.filterMap (fun i => ws[i]?) = wc) (hR : isR.map (fun i => ws[i]?) = wr.map some) (hnC : va_nd isC = true) (hnR : va_nd isR = true) (hdis : ∀ i ∈ isR, i ∉ isC) (hT : isT.filterMap (fun i => tys[i]?) = tysc)
    (hn : As.length = n) (hsize : ls.size = nL) (hst : st0 = As.reverse ++ .ref b :: rest) (hW : (rest.map fun v => v.category).sum ≤ 8) (hdg : decode cc pc = .ok (.invokespecial index, 3)) (hf : cells + mc ≤ R.cells ∧ slots + ms ≤ R.slots)
    (kk : ∀ (u : S1) (H1 : Heap) (locs1 : List Loc), post u → va_P D cl (wr ++ wn u) H1 → va_D A (wr ++ wn u) → va_S A s.heap H1 locs1 → va_K D cl (tys ++ tn u) s → W p l e R s m args below meth c H1 locs1 (cells + mc) (slots + ms) Q (F0 m (pc + 3) ls rest)) : W p l e R s m args below meth c H locs cells slots Q (F0 m pc ls st0) := by
  have hFc := va_free (wc := wc) hD hS hA isC hC
  refine va_callv (va_runI (As := As) (rest := rest) S hM cw ⟨rw_blind hz, rw_pre hz isC isT hP hD hK hZ hS hA hC hC' hnC hT⟩ rfl hn hsize hst (lv_room hW) hdg hf) hS (fun q _ h => hFc q h) hFc (fun u t H1 locs1 ht hvm hw hB hz1 hk1 hS1 => ?_)
  obtain ⟨hP1, hK1, hD1⟩ := hB
  rw [ht] at hP1
  have hK2 := va_K.moved hvm.symm hK1
  obtain ⟨hP2, hD2⟩ := va_join (wr := wr) (w1 := wn u) hP hD isC isR hC hR hnR hdis hk1 hFc hP1 hD1
  exact kk u H1 locs1 hw hP2 hD2 hS1 (hK.app hK2)
end KCALLS
/-- 0 or 1: what a boolean is -/
def vz (x : Int32) : Prop := x = 0 ∨ x = 1
theorem vz_n {x : Int32} (h : vz x) : narrow .boolean (.int x) = .int x := by rcases h with rfl | rfl <;> rfl
theorem vz_f {x : Int32} (h : vz x) : fits .boolean (.int x) = true := by rcases h with rfl | rfl <;> rfl
/-- with one static table more -/
def zt (Z : (Nat → Prop) → State → Heap → Prop) (t N : Nat) (f : Nat → Int32) : (Nat → Prop) → State → Heap → Prop := fun A U H => Z A U H ∧ va_T .int t N (fun j => .int (f j)) A U H
theorem zt_zk {Z : (Nat → Prop) → State → Heap → Prop} {t N : Nat} {f : Nat → Int32} (hz : zk Z) : zk (zt Z t N f) :=
  ⟨fun A u U H hv h => ⟨hz.1 A u U H hv h.1, va_T.moved hv h.2⟩, fun A U H H1 h hq => ⟨hz.2.1 A U H H1 h.1 hq, va_T.kept h.2 hq⟩, fun A B U H h hAB => ⟨hz.2.2 A B U H h.1 hAB, va_T.narrow h.2 hAB⟩⟩
end
section
theorem mm_0 : Cond.selects R_Pa y_Pa_fillCosts y_Pa_fillCosts ∈ tb := tb_at 0 (by decide +kernel) (by decide +kernel)
theorem mm_1 : Cond.selects R_Pa y_Pa_costOfTelling y_Pa_costOfTelling ∈ tb := tb_at 1 (by decide +kernel) (by decide +kernel)
theorem mm_2 : Cond.selects R_Pa y_Pa_cost y_Pa_cost ∈ tb := tb_at 2 (by decide +kernel) (by decide +kernel)
theorem mm_3 : Cond.selects R_Pa y_Pa_setCost y_Pa_setCost ∈ tb := tb_at 3 (by decide +kernel) (by decide +kernel)
theorem mm_4 : Cond.selects R_Pa y_Pa_addSymbols y_Pa_addSymbols ∈ tb := tb_at 4 (by decide +kernel) (by decide +kernel)
theorem mm_5 : Cond.selects R_Pa y_Pa_cheapestFirstSet y_Pa_cheapestFirstSet ∈ tb := tb_at 5 (by decide +kernel) (by decide +kernel)
theorem mm_6 : Cond.selects R_Pa y_Pa_nextSet y_Pa_nextSet ∈ tb := tb_at 6 (by decide +kernel) (by decide +kernel)
theorem mm_7 : Cond.selects R_Pa y_Pa_addTold y_Pa_addTold ∈ tb := tb_at 7 (by decide +kernel) (by decide +kernel)
theorem mm_8 : Cond.selects R_Pa y_Pa_checkSymbol y_Pa_checkSymbol ∈ tb := tb_at 8 (by decide +kernel) (by decide +kernel)
theorem mm_9 : Cond.selects R_Re y_Re_isThirteen y_Re_isThirteen ∈ tb := tb_at 9 (by decide +kernel) (by decide +kernel)
theorem mm_10 : Cond.selects R_Re y_Re_areSidesAndMiddleRight y_Re_areSidesAndMiddleRight ∈ tb := tb_at 10 (by decide +kernel) (by decide +kernel)
theorem mm_11 : Cond.selects R_Re y_Re_sumOf y_Re_sumOf ∈ tb := tb_at 11 (by decide +kernel) (by decide +kernel)
theorem mm_12 : Cond.selects R_Re y_Re_countsOf y_Re_countsOf ∈ tb := tb_at 12 (by decide +kernel) (by decide +kernel)
theorem mm_13 : Cond.selects R_Re y_Re_isLeftHalf y_Re_isLeftHalf ∈ tb := tb_at 13 (by decide +kernel) (by decide +kernel)
theorem mm_14 : Cond.selects R_Re y_Re_figureCountsAt y_Re_figureCountsAt ∈ tb := tb_at 14 (by decide +kernel) (by decide +kernel)
theorem mm_15 : Cond.selects R_Re y_Re_isRightHalf y_Re_isRightHalf ∈ tb := tb_at 15 (by decide +kernel) (by decide +kernel)
theorem mm_16 : Cond.selects R_Re y_Re_isRow y_Re_isRow ∈ tb := tb_at 16 (by decide +kernel) (by decide +kernel)
theorem mm_17 : Cond.selects R_Re y_Re_isLastAt y_Re_isLastAt ∈ tb := tb_at 17 (by decide +kernel) (by decide +kernel)
theorem mm_18 : Cond.selects R_Re y_Re_symbolAt y_Re_symbolAt ∈ tb := tb_at 18 (by decide +kernel) (by decide +kernel)
theorem mm_19 : Cond.selects R_Re y_Re_isTold y_Re_isTold ∈ tb := tb_at 19 (by decide +kernel) (by decide +kernel)
theorem mm_20 : Cond.selects R_Re y_Re_isSwitched y_Re_isSwitched ∈ tb := tb_at 20 (by decide +kernel) (by decide +kernel)
theorem mm_22 : Cond.selects R_Lc y_Lc_addWidths y_Lc_addWidths ∈ tb := tb_at 22 (by decide +kernel) (by decide +kernel)
theorem mm_41 : Cond.initialized R_Lc ∈ tb := tb_at 41 (by decide +kernel) (by decide +kernel)
theorem mm_42 : Cond.initialized R_It ∈ tb := tb_at 42 (by decide +kernel) (by decide +kernel)
theorem mm_43 : Cond.initialized "java/lang/Math" ∈ tb := tb_at 43 (by decide +kernel) (by decide +kernel)
theorem mm_44 : Cond.initialized R_Pa ∈ tb := tb_at 44 (by decide +kernel) (by decide +kernel)
theorem mm_45 : Cond.initialized R_Re ∈ tb := tb_at 45 (by decide +kernel) (by decide +kernel)
theorem mm_51 : Cond.initialized R_Se ∈ tb := tb_at 51 (by decide +kernel) (by decide +kernel)
theorem mm_53 : Cond.initialized R_Wi ∈ tb := tb_at 53 (by decide +kernel) (by decide +kernel)
theorem mm_54 : Cond.initialized R_Fi ∈ tb := tb_at 54 (by decide +kernel) (by decide +kernel)
theorem mm_73 : Cond.fieldLink R_It 15 "LineCodes$Items" "items" "[I" ∈ tb := tb_at 73 (by decide +kernel) (by decide +kernel)
theorem mm_74 : Cond.fieldLink R_It 21 "LineCodes$Items" "count" "I" ∈ tb := tb_at 74 (by decide +kernel) (by decide +kernel)
theorem mm_75 : Cond.laysFinal R_It "LineCodes$Items" "items" "[I" ∈ tb := tb_at 75 (by decide +kernel) (by decide +kernel)
theorem mm_77 : Cond.lays R_It "LineCodes$Items" "count" "I" ∈ tb := tb_at 77 (by decide +kernel) (by decide +kernel)
theorem mm_87 : Cond.fieldLink R_Pa 9 "LineCodes$Packer" "text" "LLineCodes$Items;" ∈ tb := tb_at 87 (by decide +kernel) (by decide +kernel)
theorem mm_88 : Cond.fieldLink R_Pa 15 "LineCodes$Packer" "row" "LLineCodes$Items;" ∈ tb := tb_at 88 (by decide +kernel) (by decide +kernel)
theorem mm_89 : Cond.fieldLink R_Pa 20 "LineCodes$Packer" "costs" "[I" ∈ tb := tb_at 89 (by decide +kernel) (by decide +kernel)
theorem mm_90 : Cond.laysFinal R_Pa "LineCodes$Packer" "text" "LLineCodes$Items;" ∈ tb := tb_at 90 (by decide +kernel) (by decide +kernel)
theorem mm_92 : Cond.laysFinal R_Pa "LineCodes$Packer" "row" "LLineCodes$Items;" ∈ tb := tb_at 92 (by decide +kernel) (by decide +kernel)
theorem mm_94 : Cond.laysFinal R_Pa "LineCodes$Packer" "costs" "[I" ∈ tb := tb_at 94 (by decide +kernel) (by decide +kernel)
theorem mm_105 : Cond.fieldLink R_Re 9 "LineCodes$Reader" "strip" "LLineCodes$Items;" ∈ tb := tb_at 105 (by decide +kernel) (by decide +kernel)
theorem mm_106 : Cond.fieldLink R_Re 20 "LineCodes$Reader" "told" "LLineCodes$Items;" ∈ tb := tb_at 106 (by decide +kernel) (by decide +kernel)
theorem mm_107 : Cond.fieldLink R_Re 23 "LineCodes$Reader" "fromBack" "Z" ∈ tb := tb_at 107 (by decide +kernel) (by decide +kernel)
theorem mm_108 : Cond.fieldLink R_Re 29 "LineCodes$Reader" "set" "I" ∈ tb := tb_at 108 (by decide +kernel) (by decide +kernel)
theorem mm_109 : Cond.fieldLink R_Re 33 "LineCodes$Reader" "shifted" "Z" ∈ tb := tb_at 109 (by decide +kernel) (by decide +kernel)
theorem mm_110 : Cond.laysFinal R_Re "LineCodes$Reader" "strip" "LLineCodes$Items;" ∈ tb := tb_at 110 (by decide +kernel) (by decide +kernel)
theorem mm_112 : Cond.laysFinal R_Re "LineCodes$Reader" "told" "LLineCodes$Items;" ∈ tb := tb_at 112 (by decide +kernel) (by decide +kernel)
theorem mm_114 : Cond.lays R_Re "LineCodes$Reader" "fromBack" "Z" ∈ tb := tb_at 114 (by decide +kernel) (by decide +kernel)
theorem mm_116 : Cond.lays R_Re "LineCodes$Reader" "set" "I" ∈ tb := tb_at 116 (by decide +kernel) (by decide +kernel)
theorem mm_118 : Cond.lays R_Re "LineCodes$Reader" "shifted" "Z" ∈ tb := tb_at 118 (by decide +kernel) (by decide +kernel)
theorem mm_121 : Cond.fieldLink R_Lc 14 "LineCodes" "text" "LLineCodes$Items;" ∈ tb := tb_at 121 (by decide +kernel) (by decide +kernel)
theorem mm_122 : Cond.fieldLink R_Lc 18 "LineCodes" "row" "LLineCodes$Items;" ∈ tb := tb_at 122 (by decide +kernel) (by decide +kernel)
theorem mm_123 : Cond.fieldLink R_Lc 21 "LineCodes" "strip" "LLineCodes$Items;" ∈ tb := tb_at 123 (by decide +kernel) (by decide +kernel)
theorem mm_124 : Cond.fieldLink R_Lc 29 "LineCodes" "packer" "LLineCodes$Packer;" ∈ tb := tb_at 124 (by decide +kernel) (by decide +kernel)
theorem mm_125 : Cond.fieldLink R_Lc 38 "LineCodes" "reader" "LLineCodes$Reader;" ∈ tb := tb_at 125 (by decide +kernel) (by decide +kernel)
theorem mm_126 : Cond.laysFinal R_Lc "LineCodes" "text" "LLineCodes$Items;" ∈ tb := tb_at 126 (by decide +kernel) (by decide +kernel)
theorem mm_128 : Cond.laysFinal R_Lc "LineCodes" "row" "LLineCodes$Items;" ∈ tb := tb_at 128 (by decide +kernel) (by decide +kernel)
theorem mm_130 : Cond.laysFinal R_Lc "LineCodes" "strip" "LLineCodes$Items;" ∈ tb := tb_at 130 (by decide +kernel) (by decide +kernel)
theorem mm_132 : Cond.laysFinal R_Lc "LineCodes" "packer" "LLineCodes$Packer;" ∈ tb := tb_at 132 (by decide +kernel) (by decide +kernel)
theorem mm_134 : Cond.laysFinal R_Lc "LineCodes" "reader" "LLineCodes$Reader;" ∈ tb := tb_at 134 (by decide +kernel) (by decide +kernel)
theorem mm_141 : Cond.methodLink R_Lc 62 y_It_empty ∈ tb := tb_at 141 (by decide +kernel) (by decide +kernel)
theorem mm_142 : Cond.instanceMethod y_It_empty ∈ tb := tb_at 142 (by decide +kernel) (by decide +kernel)
theorem mm_143 : Cond.selects R_It y_It_empty y_It_empty ∈ tb := tb_at 143 (by decide +kernel) (by decide +kernel)
theorem mm_144 : wc_It_empty ∈ tb := tb_at 144 (by decide +kernel) (by decide +kernel)
theorem mm_149 : Cond.methodLink R_Lc 66 y_Pa_makeRow ∈ tb := tb_at 149 (by decide +kernel) (by decide +kernel)
theorem mm_150 : Cond.instanceMethod y_Pa_makeRow ∈ tb := tb_at 150 (by decide +kernel) (by decide +kernel)
theorem mm_151 : Cond.selects R_Pa y_Pa_makeRow y_Pa_makeRow ∈ tb := tb_at 151 (by decide +kernel) (by decide +kernel)
theorem mm_152 : wc_Pa_makeRow ∈ tb := tb_at 152 (by decide +kernel) (by decide +kernel)
theorem mm_153 : Cond.methodLink R_Pa 24 y_It_count ∈ tb := tb_at 153 (by decide +kernel) (by decide +kernel)
theorem mm_154 : Cond.instanceMethod y_It_count ∈ tb := tb_at 154 (by decide +kernel) (by decide +kernel)
theorem mm_155 : Cond.selects R_It y_It_count y_It_count ∈ tb := tb_at 155 (by decide +kernel) (by decide +kernel)
theorem mm_156 : wc_It_count ∈ tb := tb_at 156 (by decide +kernel) (by decide +kernel)
theorem mm_157 : Cond.methodLink R_Pa 30 y_Pa_fillCosts ∈ tb := tb_at 157 (by decide +kernel) (by decide +kernel)
theorem mm_159 : Cond.instanceMethod y_Pa_fillCosts ∈ tb := tb_at 159 (by decide +kernel) (by decide +kernel)
theorem mm_160 : wc_Pa_fillCosts ∈ tb := tb_at 160 (by decide +kernel) (by decide +kernel)
theorem mm_161 : Cond.constant R_Pa 47 1000000 ∈ tb := tb_at 161 (by decide +kernel) (by decide +kernel)
theorem mm_162 : Cond.methodLink R_Pa 48 y_Pa_costOfTelling ∈ tb := tb_at 162 (by decide +kernel) (by decide +kernel)
theorem mm_164 : Cond.instanceMethod y_Pa_costOfTelling ∈ tb := tb_at 164 (by decide +kernel) (by decide +kernel)
theorem mm_165 : wc_Pa_costOfTelling ∈ tb := tb_at 165 (by decide +kernel) (by decide +kernel)
theorem mm_166 : Cond.methodLink R_Pa 64 y_It_at ∈ tb := tb_at 166 (by decide +kernel) (by decide +kernel)
theorem mm_167 : Cond.instanceMethod y_It_at ∈ tb := tb_at 167 (by decide +kernel) (by decide +kernel)
theorem mm_168 : Cond.selects R_It y_It_at y_It_at ∈ tb := tb_at 168 (by decide +kernel) (by decide +kernel)
theorem mm_169 : wc_It_at ∈ tb := tb_at 169 (by decide +kernel) (by decide +kernel)
theorem mm_170 : Cond.methodLink R_Pa 61 y_Pa_cost ∈ tb := tb_at 170 (by decide +kernel) (by decide +kernel)
theorem mm_172 : Cond.instanceMethod y_Pa_cost ∈ tb := tb_at 172 (by decide +kernel) (by decide +kernel)
theorem mm_173 : wc_Pa_cost ∈ tb := tb_at 173 (by decide +kernel) (by decide +kernel)
theorem mm_174 : Cond.methodLink R_Pa 68 y_Se_pairOf ∈ tb := tb_at 174 (by decide +kernel) (by decide +kernel)
theorem mm_175 : Cond.static y_Se_pairOf ∈ tb := tb_at 175 (by decide +kernel) (by decide +kernel)
theorem mm_176 : wc_Se_pairOf ∈ tb := tb_at 176 (by decide +kernel) (by decide +kernel)
theorem mm_177 : Cond.methodLink R_Se 11 y_Se_isFigure ∈ tb := tb_at 177 (by decide +kernel) (by decide +kernel)
theorem mm_178 : Cond.static y_Se_isFigure ∈ tb := tb_at 178 (by decide +kernel) (by decide +kernel)
theorem mm_179 : wc_Se_isFigure ∈ tb := tb_at 179 (by decide +kernel) (by decide +kernel)
theorem mm_180 : Cond.methodLink R_Pa 71 y_Se_symbolOf ∈ tb := tb_at 180 (by decide +kernel) (by decide +kernel)
theorem mm_181 : Cond.static y_Se_symbolOf ∈ tb := tb_at 181 (by decide +kernel) (by decide +kernel)
theorem mm_182 : wc_Se_symbolOf ∈ tb := tb_at 182 (by decide +kernel) (by decide +kernel)
theorem mm_183 : Cond.methodLink R_Pa 52 y_Pa_setCost ∈ tb := tb_at 183 (by decide +kernel) (by decide +kernel)
theorem mm_185 : Cond.instanceMethod y_Pa_setCost ∈ tb := tb_at 185 (by decide +kernel) (by decide +kernel)
theorem mm_186 : wc_Pa_setCost ∈ tb := tb_at 186 (by decide +kernel) (by decide +kernel)
theorem mm_187 : Cond.methodLink R_Pa 56 Lib.Math.min.name ∈ tb := tb_at 187 (by decide +kernel) (by decide +kernel)
theorem mm_188 : Cond.static Lib.Math.min.name ∈ tb := tb_at 188 (by decide +kernel) (by decide +kernel)
theorem mm_189 : Cond.code Lib.Math.min.name Lib.Math.min.code 2 (some .int) ∈ tb := tb_at 189 (by decide +kernel) (by decide +kernel)
theorem mm_190 : Cond.methodLink R_Pa 34 y_It_empty ∈ tb := tb_at 190 (by decide +kernel) (by decide +kernel)
theorem mm_191 : Cond.methodLink R_Pa 37 y_Pa_addSymbols ∈ tb := tb_at 191 (by decide +kernel) (by decide +kernel)
theorem mm_193 : Cond.instanceMethod y_Pa_addSymbols ∈ tb := tb_at 193 (by decide +kernel) (by decide +kernel)
theorem mm_194 : wc_Pa_addSymbols ∈ tb := tb_at 194 (by decide +kernel) (by decide +kernel)
theorem mm_195 : Cond.methodLink R_Pa 74 y_Pa_cheapestFirstSet ∈ tb := tb_at 195 (by decide +kernel) (by decide +kernel)
theorem mm_197 : Cond.instanceMethod y_Pa_cheapestFirstSet ∈ tb := tb_at 197 (by decide +kernel) (by decide +kernel)
theorem mm_198 : wc_Pa_cheapestFirstSet ∈ tb := tb_at 198 (by decide +kernel) (by decide +kernel)
theorem mm_199 : Cond.methodLink R_Pa 77 y_Se_firstOf ∈ tb := tb_at 199 (by decide +kernel) (by decide +kernel)
theorem mm_200 : Cond.static y_Se_firstOf ∈ tb := tb_at 200 (by decide +kernel) (by decide +kernel)
theorem mm_201 : wc_Se_firstOf ∈ tb := tb_at 201 (by decide +kernel) (by decide +kernel)
theorem mm_202 : Cond.methodLink R_Pa 43 y_It_add ∈ tb := tb_at 202 (by decide +kernel) (by decide +kernel)
theorem mm_203 : Cond.instanceMethod y_It_add ∈ tb := tb_at 203 (by decide +kernel) (by decide +kernel)
theorem mm_204 : Cond.selects R_It y_It_add y_It_add ∈ tb := tb_at 204 (by decide +kernel) (by decide +kernel)
theorem mm_205 : wc_It_add ∈ tb := tb_at 205 (by decide +kernel) (by decide +kernel)
theorem mm_206 : Cond.methodLink R_Pa 80 y_Pa_nextSet ∈ tb := tb_at 206 (by decide +kernel) (by decide +kernel)
theorem mm_208 : Cond.instanceMethod y_Pa_nextSet ∈ tb := tb_at 208 (by decide +kernel) (by decide +kernel)
theorem mm_209 : wc_Pa_nextSet ∈ tb := tb_at 209 (by decide +kernel) (by decide +kernel)
theorem mm_210 : Cond.methodLink R_Pa 83 y_Pa_addTold ∈ tb := tb_at 210 (by decide +kernel) (by decide +kernel)
theorem mm_212 : Cond.instanceMethod y_Pa_addTold ∈ tb := tb_at 212 (by decide +kernel) (by decide +kernel)
theorem mm_213 : wc_Pa_addTold ∈ tb := tb_at 213 (by decide +kernel) (by decide +kernel)
theorem mm_214 : Cond.methodLink R_Pa 89 y_Se_otherOfAB ∈ tb := tb_at 214 (by decide +kernel) (by decide +kernel)
theorem mm_215 : Cond.static y_Se_otherOfAB ∈ tb := tb_at 215 (by decide +kernel) (by decide +kernel)
theorem mm_216 : wc_Se_otherOfAB ∈ tb := tb_at 216 (by decide +kernel) (by decide +kernel)
theorem mm_217 : Cond.methodLink R_Pa 86 y_Se_switchTo ∈ tb := tb_at 217 (by decide +kernel) (by decide +kernel)
theorem mm_218 : Cond.static y_Se_switchTo ∈ tb := tb_at 218 (by decide +kernel) (by decide +kernel)
theorem mm_219 : wc_Se_switchTo ∈ tb := tb_at 219 (by decide +kernel) (by decide +kernel)
theorem mm_220 : Cond.methodLink R_Pa 40 y_Pa_checkSymbol ∈ tb := tb_at 220 (by decide +kernel) (by decide +kernel)
theorem mm_222 : Cond.instanceMethod y_Pa_checkSymbol ∈ tb := tb_at 222 (by decide +kernel) (by decide +kernel)
theorem mm_223 : wc_Pa_checkSymbol ∈ tb := tb_at 223 (by decide +kernel) (by decide +kernel)
theorem mm_224 : Cond.methodLink R_Lc 69 y_It_count ∈ tb := tb_at 224 (by decide +kernel) (by decide +kernel)
theorem mm_229 : Cond.methodLink R_Lc 72 y_It_at ∈ tb := tb_at 229 (by decide +kernel) (by decide +kernel)
theorem mm_242 : Cond.methodLink R_Lc 128 y_It_reverse ∈ tb := tb_at 242 (by decide +kernel) (by decide +kernel)
theorem mm_243 : Cond.instanceMethod y_It_reverse ∈ tb := tb_at 243 (by decide +kernel) (by decide +kernel)
theorem mm_244 : Cond.selects R_It y_It_reverse y_It_reverse ∈ tb := tb_at 244 (by decide +kernel) (by decide +kernel)
theorem mm_245 : wc_It_reverse ∈ tb := tb_at 245 (by decide +kernel) (by decide +kernel)
theorem mm_246 : Cond.methodLink R_It 25 y_It_at ∈ tb := tb_at 246 (by decide +kernel) (by decide +kernel)
theorem mm_247 : Cond.methodLink R_It 29 y_It_replace ∈ tb := tb_at 247 (by decide +kernel) (by decide +kernel)
theorem mm_248 : Cond.instanceMethod y_It_replace ∈ tb := tb_at 248 (by decide +kernel) (by decide +kernel)
theorem mm_249 : Cond.selects R_It y_It_replace y_It_replace ∈ tb := tb_at 249 (by decide +kernel) (by decide +kernel)
theorem mm_250 : wc_It_replace ∈ tb := tb_at 250 (by decide +kernel) (by decide +kernel)
theorem mm_255 : Cond.methodLink R_Lc 131 y_Re_isReadable ∈ tb := tb_at 255 (by decide +kernel) (by decide +kernel)
theorem mm_256 : Cond.instanceMethod y_Re_isReadable ∈ tb := tb_at 256 (by decide +kernel) (by decide +kernel)
theorem mm_257 : Cond.selects R_Re y_Re_isReadable y_Re_isReadable ∈ tb := tb_at 257 (by decide +kernel) (by decide +kernel)
theorem mm_258 : wc_Re_isReadable ∈ tb := tb_at 258 (by decide +kernel) (by decide +kernel)
theorem mm_259 : Cond.methodLink R_Re 44 y_It_empty ∈ tb := tb_at 259 (by decide +kernel) (by decide +kernel)
theorem mm_260 : Cond.methodLink R_Re 36 y_It_count ∈ tb := tb_at 260 (by decide +kernel) (by decide +kernel)
theorem mm_261 : Cond.methodLink R_Re 47 y_Re_isThirteen ∈ tb := tb_at 261 (by decide +kernel) (by decide +kernel)
theorem mm_263 : Cond.instanceMethod y_Re_isThirteen ∈ tb := tb_at 263 (by decide +kernel) (by decide +kernel)
theorem mm_264 : wc_Re_isThirteen ∈ tb := tb_at 264 (by decide +kernel) (by decide +kernel)
theorem mm_265 : Cond.methodLink R_Re 54 y_Re_areSidesAndMiddleRight ∈ tb := tb_at 265 (by decide +kernel) (by decide +kernel)
theorem mm_267 : Cond.instanceMethod y_Re_areSidesAndMiddleRight ∈ tb := tb_at 267 (by decide +kernel) (by decide +kernel)
theorem mm_268 : wc_Re_areSidesAndMiddleRight ∈ tb := tb_at 268 (by decide +kernel) (by decide +kernel)
theorem mm_269 : Cond.methodLink R_Re 68 y_Re_sumOf ∈ tb := tb_at 269 (by decide +kernel) (by decide +kernel)
theorem mm_271 : Cond.instanceMethod y_Re_sumOf ∈ tb := tb_at 271 (by decide +kernel) (by decide +kernel)
theorem mm_272 : wc_Re_sumOf ∈ tb := tb_at 272 (by decide +kernel) (by decide +kernel)
theorem mm_273 : Cond.methodLink R_Re 40 y_It_at ∈ tb := tb_at 273 (by decide +kernel) (by decide +kernel)
theorem mm_274 : Cond.methodLink R_Re 74 y_Re_countsOf ∈ tb := tb_at 274 (by decide +kernel) (by decide +kernel)
theorem mm_276 : Cond.instanceMethod y_Re_countsOf ∈ tb := tb_at 276 (by decide +kernel) (by decide +kernel)
theorem mm_277 : wc_Re_countsOf ∈ tb := tb_at 277 (by decide +kernel) (by decide +kernel)
theorem mm_278 : Cond.methodLink R_Re 57 y_Re_isLeftHalf ∈ tb := tb_at 278 (by decide +kernel) (by decide +kernel)
theorem mm_280 : Cond.instanceMethod y_Re_isLeftHalf ∈ tb := tb_at 280 (by decide +kernel) (by decide +kernel)
theorem mm_281 : wc_Re_isLeftHalf ∈ tb := tb_at 281 (by decide +kernel) (by decide +kernel)
theorem mm_282 : Cond.methodLink R_Re 78 y_It_add ∈ tb := tb_at 282 (by decide +kernel) (by decide +kernel)
theorem mm_283 : Cond.methodLink R_Re 82 y_Re_figureCountsAt ∈ tb := tb_at 283 (by decide +kernel) (by decide +kernel)
theorem mm_285 : Cond.instanceMethod y_Re_figureCountsAt ∈ tb := tb_at 285 (by decide +kernel) (by decide +kernel)
theorem mm_286 : wc_Re_figureCountsAt ∈ tb := tb_at 286 (by decide +kernel) (by decide +kernel)
theorem mm_287 : Cond.methodLink R_Re 85 y_Wi_figureWith ∈ tb := tb_at 287 (by decide +kernel) (by decide +kernel)
theorem mm_288 : Cond.static y_Wi_figureWith ∈ tb := tb_at 288 (by decide +kernel) (by decide +kernel)
theorem mm_289 : wc_Wi_figureWith ∈ tb := tb_at 289 (by decide +kernel) (by decide +kernel)
theorem mm_290 : Cond.fieldLink R_Wi 22 "LineCodes$Widths" "FIGURES" "[I" ∈ tb := tb_at 290 (by decide +kernel) (by decide +kernel)
theorem mm_292 : Cond.methodLink R_Wi 28 y_Wi_placeOf ∈ tb := tb_at 292 (by decide +kernel) (by decide +kernel)
theorem mm_293 : Cond.static y_Wi_placeOf ∈ tb := tb_at 293 (by decide +kernel) (by decide +kernel)
theorem mm_294 : wc_Wi_placeOf ∈ tb := tb_at 294 (by decide +kernel) (by decide +kernel)
theorem mm_295 : Cond.methodLink R_Re 88 y_Wi_turned ∈ tb := tb_at 295 (by decide +kernel) (by decide +kernel)
theorem mm_296 : Cond.static y_Wi_turned ∈ tb := tb_at 296 (by decide +kernel) (by decide +kernel)
theorem mm_297 : wc_Wi_turned ∈ tb := tb_at 297 (by decide +kernel) (by decide +kernel)
theorem mm_298 : Cond.methodLink R_Re 91 y_Wi_firstFigureWith ∈ tb := tb_at 298 (by decide +kernel) (by decide +kernel)
theorem mm_299 : Cond.static y_Wi_firstFigureWith ∈ tb := tb_at 299 (by decide +kernel) (by decide +kernel)
theorem mm_300 : wc_Wi_firstFigureWith ∈ tb := tb_at 300 (by decide +kernel) (by decide +kernel)
theorem mm_301 : Cond.fieldLink R_Wi 25 "LineCodes$Widths" "TURNS" "[I" ∈ tb := tb_at 301 (by decide +kernel) (by decide +kernel)
theorem mm_303 : Cond.methodLink R_Re 94 y_It_replace ∈ tb := tb_at 303 (by decide +kernel) (by decide +kernel)
theorem mm_304 : Cond.methodLink R_Re 60 y_Re_isRightHalf ∈ tb := tb_at 304 (by decide +kernel) (by decide +kernel)
theorem mm_306 : Cond.instanceMethod y_Re_isRightHalf ∈ tb := tb_at 306 (by decide +kernel) (by decide +kernel)
theorem mm_307 : wc_Re_isRightHalf ∈ tb := tb_at 307 (by decide +kernel) (by decide +kernel)
theorem mm_308 : Cond.methodLink R_Re 65 y_Fi_weightOf ∈ tb := tb_at 308 (by decide +kernel) (by decide +kernel)
theorem mm_309 : Cond.static y_Fi_weightOf ∈ tb := tb_at 309 (by decide +kernel) (by decide +kernel)
theorem mm_310 : wc_Fi_weightOf ∈ tb := tb_at 310 (by decide +kernel) (by decide +kernel)
theorem mm_311 : Cond.methodLink R_Re 51 y_Re_isRow ∈ tb := tb_at 311 (by decide +kernel) (by decide +kernel)
theorem mm_313 : Cond.instanceMethod y_Re_isRow ∈ tb := tb_at 313 (by decide +kernel) (by decide +kernel)
theorem mm_314 : wc_Re_isRow ∈ tb := tb_at 314 (by decide +kernel) (by decide +kernel)
theorem mm_315 : Cond.methodLink R_Re 97 y_Re_isLastAt ∈ tb := tb_at 315 (by decide +kernel) (by decide +kernel)
theorem mm_317 : Cond.instanceMethod y_Re_isLastAt ∈ tb := tb_at 317 (by decide +kernel) (by decide +kernel)
theorem mm_318 : wc_Re_isLastAt ∈ tb := tb_at 318 (by decide +kernel) (by decide +kernel)
theorem mm_319 : Cond.constant R_Re 124 2331112 ∈ tb := tb_at 319 (by decide +kernel) (by decide +kernel)
theorem mm_320 : Cond.methodLink R_Re 100 y_Re_symbolAt ∈ tb := tb_at 320 (by decide +kernel) (by decide +kernel)
theorem mm_322 : Cond.instanceMethod y_Re_symbolAt ∈ tb := tb_at 322 (by decide +kernel) (by decide +kernel)
theorem mm_323 : wc_Re_symbolAt ∈ tb := tb_at 323 (by decide +kernel) (by decide +kernel)
theorem mm_324 : Cond.methodLink R_Re 121 y_Wi_symbolWith ∈ tb := tb_at 324 (by decide +kernel) (by decide +kernel)
theorem mm_325 : Cond.static y_Wi_symbolWith ∈ tb := tb_at 325 (by decide +kernel) (by decide +kernel)
theorem mm_326 : wc_Wi_symbolWith ∈ tb := tb_at 326 (by decide +kernel) (by decide +kernel)
theorem mm_327 : Cond.fieldLink R_Wi 14 "LineCodes$Widths" "SYMBOLS" "[I" ∈ tb := tb_at 327 (by decide +kernel) (by decide +kernel)
theorem mm_329 : Cond.methodLink R_Re 103 y_Se_isFirst ∈ tb := tb_at 329 (by decide +kernel) (by decide +kernel)
theorem mm_330 : Cond.static y_Se_isFirst ∈ tb := tb_at 330 (by decide +kernel) (by decide +kernel)
theorem mm_331 : wc_Se_isFirst ∈ tb := tb_at 331 (by decide +kernel) (by decide +kernel)
theorem mm_332 : Cond.methodLink R_Re 106 y_Re_isTold ∈ tb := tb_at 332 (by decide +kernel) (by decide +kernel)
theorem mm_334 : Cond.instanceMethod y_Re_isTold ∈ tb := tb_at 334 (by decide +kernel) (by decide +kernel)
theorem mm_335 : wc_Re_isTold ∈ tb := tb_at 335 (by decide +kernel) (by decide +kernel)
theorem mm_336 : Cond.methodLink R_Re 109 y_Se_otherOfAB ∈ tb := tb_at 336 (by decide +kernel) (by decide +kernel)
theorem mm_337 : Cond.methodLink R_Re 112 y_Se_signOf ∈ tb := tb_at 337 (by decide +kernel) (by decide +kernel)
theorem mm_338 : Cond.static y_Se_signOf ∈ tb := tb_at 338 (by decide +kernel) (by decide +kernel)
theorem mm_339 : wc_Se_signOf ∈ tb := tb_at 339 (by decide +kernel) (by decide +kernel)
theorem mm_340 : Cond.methodLink R_Re 115 y_Re_isSwitched ∈ tb := tb_at 340 (by decide +kernel) (by decide +kernel)
theorem mm_342 : Cond.instanceMethod y_Re_isSwitched ∈ tb := tb_at 342 (by decide +kernel) (by decide +kernel)
theorem mm_343 : wc_Re_isSwitched ∈ tb := tb_at 343 (by decide +kernel) (by decide +kernel)
theorem mm_344 : Cond.methodLink R_Re 118 y_Se_setAfter ∈ tb := tb_at 344 (by decide +kernel) (by decide +kernel)
theorem mm_345 : Cond.static y_Se_setAfter ∈ tb := tb_at 345 (by decide +kernel) (by decide +kernel)
theorem mm_346 : wc_Se_setAfter ∈ tb := tb_at 346 (by decide +kernel) (by decide +kernel)
theorem mm_347 : Cond.methodLink R_Lc 135 y_Re_toldCount ∈ tb := tb_at 347 (by decide +kernel) (by decide +kernel)
theorem mm_348 : Cond.instanceMethod y_Re_toldCount ∈ tb := tb_at 348 (by decide +kernel) (by decide +kernel)
theorem mm_349 : Cond.selects R_Re y_Re_toldCount y_Re_toldCount ∈ tb := tb_at 349 (by decide +kernel) (by decide +kernel)
theorem mm_350 : wc_Re_toldCount ∈ tb := tb_at 350 (by decide +kernel) (by decide +kernel)
theorem mm_355 : Cond.methodLink R_Lc 138 y_Re_toldAt ∈ tb := tb_at 355 (by decide +kernel) (by decide +kernel)
theorem mm_356 : Cond.instanceMethod y_Re_toldAt ∈ tb := tb_at 356 (by decide +kernel) (by decide +kernel)
theorem mm_357 : Cond.selects R_Re y_Re_toldAt y_Re_toldAt ∈ tb := tb_at 357 (by decide +kernel) (by decide +kernel)
theorem mm_358 : wc_Re_toldAt ∈ tb := tb_at 358 (by decide +kernel) (by decide +kernel)
theorem mm_363 : Cond.methodLink R_Lc 141 y_Re_isFromBack ∈ tb := tb_at 363 (by decide +kernel) (by decide +kernel)
theorem mm_364 : Cond.instanceMethod y_Re_isFromBack ∈ tb := tb_at 364 (by decide +kernel) (by decide +kernel)
theorem mm_365 : Cond.selects R_Re y_Re_isFromBack y_Re_isFromBack ∈ tb := tb_at 365 (by decide +kernel) (by decide +kernel)
theorem mm_366 : wc_Re_isFromBack ∈ tb := tb_at 366 (by decide +kernel) (by decide +kernel)
theorem mm_375 : Cond.methodLink R_Lc 42 y_Lc_refuseByteCount ∈ tb := tb_at 375 (by decide +kernel) (by decide +kernel)
theorem mm_376 : Cond.static y_Lc_refuseByteCount ∈ tb := tb_at 376 (by decide +kernel) (by decide +kernel)
theorem mm_377 : wc_Lc_refuseByteCount ∈ tb := tb_at 377 (by decide +kernel) (by decide +kernel)
theorem mm_446 : Cond.methodLink R_Lc 45 y_Lc_byteOf ∈ tb := tb_at 446 (by decide +kernel) (by decide +kernel)
theorem mm_447 : Cond.static y_Lc_byteOf ∈ tb := tb_at 447 (by decide +kernel) (by decide +kernel)
theorem mm_448 : wc_Lc_byteOf ∈ tb := tb_at 448 (by decide +kernel) (by decide +kernel)
theorem mm_449 : Cond.constantLong R_Lc 153 255 ∈ tb := tb_at 449 (by decide +kernel) (by decide +kernel)
theorem mm_451 : Cond.methodLink R_Lc 58 y_Lc_addBytes ∈ tb := tb_at 451 (by decide +kernel) (by decide +kernel)
theorem mm_452 : Cond.static y_Lc_addBytes ∈ tb := tb_at 452 (by decide +kernel) (by decide +kernel)
theorem mm_453 : wc_Lc_addBytes ∈ tb := tb_at 453 (by decide +kernel) (by decide +kernel)
theorem mm_454 : Cond.methodLink R_Lc 155 y_It_hasRoomFor ∈ tb := tb_at 454 (by decide +kernel) (by decide +kernel)
theorem mm_455 : Cond.instanceMethod y_It_hasRoomFor ∈ tb := tb_at 455 (by decide +kernel) (by decide +kernel)
theorem mm_456 : Cond.selects R_It y_It_hasRoomFor y_It_hasRoomFor ∈ tb := tb_at 456 (by decide +kernel) (by decide +kernel)
theorem mm_457 : wc_It_hasRoomFor ∈ tb := tb_at 457 (by decide +kernel) (by decide +kernel)
theorem mm_458 : Cond.methodLink R_Lc 159 y_It_add ∈ tb := tb_at 458 (by decide +kernel) (by decide +kernel)
theorem mm_467 : Cond.methodLink R_Lc 76 y_Lc_refuseModule ∈ tb := tb_at 467 (by decide +kernel) (by decide +kernel)
theorem mm_468 : Cond.static y_Lc_refuseModule ∈ tb := tb_at 468 (by decide +kernel) (by decide +kernel)
theorem mm_469 : wc_Lc_refuseModule ∈ tb := tb_at 469 (by decide +kernel) (by decide +kernel)
theorem mm_487 : Cond.methodLink R_Lc 84 y_Wi_ofSymbol ∈ tb := tb_at 487 (by decide +kernel) (by decide +kernel)
theorem mm_488 : Cond.static y_Wi_ofSymbol ∈ tb := tb_at 488 (by decide +kernel) (by decide +kernel)
theorem mm_489 : wc_Wi_ofSymbol ∈ tb := tb_at 489 (by decide +kernel) (by decide +kernel)
theorem mm_490 : Cond.constant R_Wi 13 2331112 ∈ tb := tb_at 490 (by decide +kernel) (by decide +kernel)
theorem mm_491 : Cond.methodLink R_Wi 18 y_Wi_entry ∈ tb := tb_at 491 (by decide +kernel) (by decide +kernel)
theorem mm_492 : Cond.static y_Wi_entry ∈ tb := tb_at 492 (by decide +kernel) (by decide +kernel)
theorem mm_493 : wc_Wi_entry ∈ tb := tb_at 493 (by decide +kernel) (by decide +kernel)
theorem mm_494 : Cond.methodLink R_Lc 89 y_Lc_addWidths ∈ tb := tb_at 494 (by decide +kernel) (by decide +kernel)
theorem mm_496 : Cond.instanceMethod y_Lc_addWidths ∈ tb := tb_at 496 (by decide +kernel) (by decide +kernel)
theorem mm_497 : wc_Lc_addWidths ∈ tb := tb_at 497 (by decide +kernel) (by decide +kernel)
theorem mm_498 : Cond.constant R_Lc 162 1000000 ∈ tb := tb_at 498 (by decide +kernel) (by decide +kernel)
theorem mm_506 : Cond.methodLink R_Lc 93 y_Lc_refuseTwelve ∈ tb := tb_at 506 (by decide +kernel) (by decide +kernel)
theorem mm_507 : Cond.static y_Lc_refuseTwelve ∈ tb := tb_at 507 (by decide +kernel) (by decide +kernel)
theorem mm_508 : wc_Lc_refuseTwelve ∈ tb := tb_at 508 (by decide +kernel) (by decide +kernel)
theorem mm_509 : Cond.constantLong R_Lc 149 999999999999 ∈ tb := tb_at 509 (by decide +kernel) (by decide +kernel)
theorem mm_511 : Cond.methodLink R_Lc 97 y_Fi_checkOf ∈ tb := tb_at 511 (by decide +kernel) (by decide +kernel)
theorem mm_512 : Cond.static y_Fi_checkOf ∈ tb := tb_at 512 (by decide +kernel) (by decide +kernel)
theorem mm_513 : wc_Fi_checkOf ∈ tb := tb_at 513 (by decide +kernel) (by decide +kernel)
theorem mm_514 : Cond.methodLink R_Fi 11 y_Fi_weightOf ∈ tb := tb_at 514 (by decide +kernel) (by decide +kernel)
theorem mm_515 : Cond.methodLink R_Fi 15 y_Fi_figureOf ∈ tb := tb_at 515 (by decide +kernel) (by decide +kernel)
theorem mm_516 : Cond.static y_Fi_figureOf ∈ tb := tb_at 516 (by decide +kernel) (by decide +kernel)
theorem mm_517 : wc_Fi_figureOf ∈ tb := tb_at 517 (by decide +kernel) (by decide +kernel)
theorem mm_518 : Cond.constantLong R_Fi 9 10 ∈ tb := tb_at 518 (by decide +kernel) (by decide +kernel)
theorem mm_526 : Cond.methodLink R_Lc 103 y_Fi_figureOf ∈ tb := tb_at 526 (by decide +kernel) (by decide +kernel)
theorem mm_527 : Cond.methodLink R_Lc 106 y_Wi_turnsOf ∈ tb := tb_at 527 (by decide +kernel) (by decide +kernel)
theorem mm_528 : Cond.static y_Wi_turnsOf ∈ tb := tb_at 528 (by decide +kernel) (by decide +kernel)
theorem mm_529 : wc_Wi_turnsOf ∈ tb := tb_at 529 (by decide +kernel) (by decide +kernel)
theorem mm_530 : Cond.methodLink R_Lc 109 y_Wi_ofFigure ∈ tb := tb_at 530 (by decide +kernel) (by decide +kernel)
theorem mm_531 : Cond.static y_Wi_ofFigure ∈ tb := tb_at 531 (by decide +kernel) (by decide +kernel)
theorem mm_532 : wc_Wi_ofFigure ∈ tb := tb_at 532 (by decide +kernel) (by decide +kernel)
theorem mm_533 : Cond.methodLink R_Lc 112 y_Wi_turned ∈ tb := tb_at 533 (by decide +kernel) (by decide +kernel)
theorem mm_567 : Cond.methodLink R_Lc 124 y_It_replace ∈ tb := tb_at 567 (by decide +kernel) (by decide +kernel)
theorem mm_698 : Cond.laysFinal R_Md "LineCodesModel" "bars" "[I" ∈ tb := tb_at 698 (by decide +kernel) (by decide +kernel)
theorem mm_700 : Cond.laysFinal R_Md "LineCodesModel" "figures" "[I" ∈ tb := tb_at 700 (by decide +kernel) (by decide +kernel)
theorem mm_702 : Cond.laysFinal R_Md "LineCodesModel" "turns" "[I" ∈ tb := tb_at 702 (by decide +kernel) (by decide +kernel)
theorem mm_704 : Cond.lays R_Md "LineCodesModel" "thrown" "I" ∈ tb := tb_at 704 (by decide +kernel) (by decide +kernel)
theorem mm_706 : Cond.laysFinal R_Md "LineCodesModel" "text" "[I" ∈ tb := tb_at 706 (by decide +kernel) (by decide +kernel)
theorem mm_708 : Cond.lays R_Md "LineCodesModel" "length" "I" ∈ tb := tb_at 708 (by decide +kernel) (by decide +kernel)
theorem mm_710 : Cond.laysFinal R_Md "LineCodesModel" "least" "[I" ∈ tb := tb_at 710 (by decide +kernel) (by decide +kernel)
theorem mm_712 : Cond.laysFinal R_Md "LineCodesModel" "row" "[I" ∈ tb := tb_at 712 (by decide +kernel) (by decide +kernel)
theorem mm_714 : Cond.lays R_Md "LineCodesModel" "symbols" "I" ∈ tb := tb_at 714 (by decide +kernel) (by decide +kernel)
theorem mm_716 : Cond.laysFinal R_Md "LineCodesModel" "strip" "[I" ∈ tb := tb_at 716 (by decide +kernel) (by decide +kernel)
theorem mm_718 : Cond.lays R_Md "LineCodesModel" "widths" "I" ∈ tb := tb_at 718 (by decide +kernel) (by decide +kernel)
theorem mm_720 : Cond.laysFinal R_Md "LineCodesModel" "turned" "[I" ∈ tb := tb_at 720 (by decide +kernel) (by decide +kernel)
theorem mm_722 : Cond.laysFinal R_Md "LineCodesModel" "found" "[I" ∈ tb := tb_at 722 (by decide +kernel) (by decide +kernel)
theorem mm_724 : Cond.laysFinal R_Md "LineCodesModel" "signs" "[I" ∈ tb := tb_at 724 (by decide +kernel) (by decide +kernel)
theorem mm_726 : Cond.lays R_Md "LineCodesModel" "told" "I" ∈ tb := tb_at 726 (by decide +kernel) (by decide +kernel)
theorem mm_728 : Cond.lays R_Md "LineCodesModel" "back" "Z" ∈ tb := tb_at 728 (by decide +kernel) (by decide +kernel)
theorem mm_730 : Cond.laysFinal R_Md "LineCodesModel" "draft" "[I" ∈ tb := tb_at 730 (by decide +kernel) (by decide +kernel)
theorem mm_732 : Cond.lays R_Md "LineCodesModel" "drafted" "I" ∈ tb := tb_at 732 (by decide +kernel) (by decide +kernel)
theorem in_It : ∀ w ∈ u_ws R_It T_It 2, w ∈ tb := List.forall_mem_cons.mpr ⟨mm_75, List.forall_mem_cons.mpr ⟨mm_77, fun _ h => absurd h List.not_mem_nil⟩⟩
theorem in_Pa : ∀ w ∈ u_ws R_Pa T_Pa 3, w ∈ tb := List.forall_mem_cons.mpr ⟨mm_90, List.forall_mem_cons.mpr ⟨mm_92, List.forall_mem_cons.mpr ⟨mm_94, fun _ h => absurd h List.not_mem_nil⟩⟩⟩
theorem in_Re : ∀ w ∈ u_ws R_Re T_Re 5, w ∈ tb := List.forall_mem_cons.mpr ⟨mm_110, List.forall_mem_cons.mpr ⟨mm_112, List.forall_mem_cons.mpr ⟨mm_114, List.forall_mem_cons.mpr ⟨mm_116, List.forall_mem_cons.mpr ⟨mm_118, fun _ h => absurd h List.not_mem_nil⟩⟩⟩⟩⟩
theorem in_Lc : ∀ w ∈ u_ws R_Lc T_Lc 5, w ∈ tb := List.forall_mem_cons.mpr ⟨mm_126, List.forall_mem_cons.mpr ⟨mm_128, List.forall_mem_cons.mpr ⟨mm_130, List.forall_mem_cons.mpr ⟨mm_132, List.forall_mem_cons.mpr ⟨mm_134, fun _ h => absurd h List.not_mem_nil⟩⟩⟩⟩⟩
theorem in_Md : ∀ w ∈ u_ws R_Md T_Md 18, w ∈ tb := List.forall_mem_cons.mpr ⟨mm_698, List.forall_mem_cons.mpr ⟨mm_700, List.forall_mem_cons.mpr ⟨mm_702, List.forall_mem_cons.mpr ⟨mm_704, List.forall_mem_cons.mpr ⟨mm_706, List.forall_mem_cons.mpr ⟨mm_708, List.forall_mem_cons.mpr ⟨mm_710, List.forall_mem_cons.mpr ⟨mm_712, List.forall_mem_cons.mpr ⟨mm_714, List.forall_mem_cons.mpr ⟨mm_716, List.forall_mem_cons.mpr ⟨mm_718, List.forall_mem_cons.mpr ⟨mm_720, List.forall_mem_cons.mpr ⟨mm_722, List.forall_mem_cons.mpr ⟨mm_724, List.forall_mem_cons.mpr ⟨mm_726, List.forall_mem_cons.mpr ⟨mm_728, List.forall_mem_cons.mpr ⟨mm_730, List.forall_mem_cons.mpr ⟨mm_732, fun _ h => absurd h List.not_mem_nil⟩⟩⟩⟩⟩⟩⟩⟩⟩⟩⟩⟩⟩⟩⟩⟩⟩⟩
end
section
theorem d_It_init_0 : decode c_It_init 0 = .ok (.aload_n 0, 1) := by decide +kernel
theorem d_It_init_1 : decode c_It_init 1 = .ok (.invokespecial 3, 3) := by decide +kernel
theorem d_It_init_4 : decode c_It_init 4 = .ok (.aload_n 0, 1) := by decide +kernel
theorem d_It_init_5 : decode c_It_init 5 = .ok (.iload_n 1, 1) := by decide +kernel
theorem d_It_init_6 : decode c_It_init 6 = .ok (.iconst 0, 1) := by decide +kernel
theorem d_It_init_7 : decode c_It_init 7 = .ok (.invokestatic 9, 3) := by decide +kernel
theorem d_It_init_10 : decode c_It_init 10 = .ok (.newarray .int, 2) := by decide +kernel
theorem d_It_init_12 : decode c_It_init 12 = .ok (.putfield 15, 3) := by decide +kernel
theorem d_It_init_15 : decode c_It_init 15 = .ok (.aload_n 0, 1) := by decide +kernel
theorem d_It_init_16 : decode c_It_init 16 = .ok (.iconst 0, 1) := by decide +kernel
theorem d_It_init_17 : decode c_It_init 17 = .ok (.putfield 21, 3) := by decide +kernel
theorem d_It_init_20 : decode c_It_init 20 = .ok (.return_, 1) := by decide +kernel
theorem d_It_count_0 : decode c_It_count 0 = .ok (.aload_n 0, 1) := by decide +kernel
theorem d_It_count_1 : decode c_It_count 1 = .ok (.getfield 21, 3) := by decide +kernel
theorem d_It_count_4 : decode c_It_count 4 = .ok (.ireturn, 1) := by decide +kernel
theorem d_It_hasRoomFor_0 : decode c_It_hasRoomFor 0 = .ok (.iload_n 1, 1) := by decide +kernel
theorem d_It_hasRoomFor_1 : decode c_It_hasRoomFor 1 = .ok (.aload_n 0, 1) := by decide +kernel
theorem d_It_hasRoomFor_2 : decode c_It_hasRoomFor 2 = .ok (.getfield 15, 3) := by decide +kernel
theorem d_It_hasRoomFor_5 : decode c_It_hasRoomFor 5 = .ok (.arraylength, 1) := by decide +kernel
theorem d_It_hasRoomFor_6 : decode c_It_hasRoomFor 6 = .ok (.aload_n 0, 1) := by decide +kernel
theorem d_It_hasRoomFor_7 : decode c_It_hasRoomFor 7 = .ok (.getfield 21, 3) := by decide +kernel
theorem d_It_hasRoomFor_10 : decode c_It_hasRoomFor 10 = .ok (.isub, 1) := by decide +kernel
theorem d_It_hasRoomFor_11 : decode c_It_hasRoomFor 11 = .ok (.if_icmp .gt 7, 3) := by decide +kernel
theorem d_It_hasRoomFor_14 : decode c_It_hasRoomFor 14 = .ok (.iconst 1, 1) := by decide +kernel
theorem d_It_hasRoomFor_15 : decode c_It_hasRoomFor 15 = .ok (.goto 4, 3) := by decide +kernel
theorem d_It_hasRoomFor_18 : decode c_It_hasRoomFor 18 = .ok (.iconst 0, 1) := by decide +kernel
theorem d_It_hasRoomFor_19 : decode c_It_hasRoomFor 19 = .ok (.ireturn, 1) := by decide +kernel
theorem d_It_at_0 : decode c_It_at 0 = .ok (.iload_n 1, 1) := by decide +kernel
theorem d_It_at_1 : decode c_It_at 1 = .ok (.ifCond .lt 29, 3) := by decide +kernel
theorem d_It_at_4 : decode c_It_at 4 = .ok (.iload_n 1, 1) := by decide +kernel
theorem d_It_at_5 : decode c_It_at 5 = .ok (.aload_n 0, 1) := by decide +kernel
theorem d_It_at_6 : decode c_It_at 6 = .ok (.getfield 21, 3) := by decide +kernel
theorem d_It_at_9 : decode c_It_at 9 = .ok (.if_icmp .ge 21, 3) := by decide +kernel
theorem d_It_at_12 : decode c_It_at 12 = .ok (.iload_n 1, 1) := by decide +kernel
theorem d_It_at_13 : decode c_It_at 13 = .ok (.aload_n 0, 1) := by decide +kernel
theorem d_It_at_14 : decode c_It_at 14 = .ok (.getfield 15, 3) := by decide +kernel
theorem d_It_at_17 : decode c_It_at 17 = .ok (.arraylength, 1) := by decide +kernel
theorem d_It_at_18 : decode c_It_at 18 = .ok (.if_icmp .ge 12, 3) := by decide +kernel
theorem d_It_at_21 : decode c_It_at 21 = .ok (.aload_n 0, 1) := by decide +kernel
theorem d_It_at_22 : decode c_It_at 22 = .ok (.getfield 15, 3) := by decide +kernel
theorem d_It_at_25 : decode c_It_at 25 = .ok (.iload_n 1, 1) := by decide +kernel
theorem d_It_at_26 : decode c_It_at 26 = .ok (.iaload, 1) := by decide +kernel
theorem d_It_at_27 : decode c_It_at 27 = .ok (.goto 4, 3) := by decide +kernel
theorem d_It_at_30 : decode c_It_at 30 = .ok (.iconst (-1), 1) := by decide +kernel
theorem d_It_at_31 : decode c_It_at 31 = .ok (.ireturn, 1) := by decide +kernel
theorem d_It_add_0 : decode c_It_add 0 = .ok (.aload_n 0, 1) := by decide +kernel
theorem d_It_add_1 : decode c_It_add 1 = .ok (.getfield 21, 3) := by decide +kernel
theorem d_It_add_4 : decode c_It_add 4 = .ok (.ifCond .lt 15, 3) := by decide +kernel
theorem d_It_add_7 : decode c_It_add 7 = .ok (.aload_n 0, 1) := by decide +kernel
theorem d_It_add_8 : decode c_It_add 8 = .ok (.getfield 21, 3) := by decide +kernel
theorem d_It_add_11 : decode c_It_add 11 = .ok (.aload_n 0, 1) := by decide +kernel
theorem d_It_add_12 : decode c_It_add 12 = .ok (.getfield 15, 3) := by decide +kernel
theorem d_It_add_15 : decode c_It_add 15 = .ok (.arraylength, 1) := by decide +kernel
theorem d_It_add_16 : decode c_It_add 16 = .ok (.if_icmp .lt 5, 3) := by decide +kernel
theorem d_It_add_19 : decode c_It_add 19 = .ok (.iconst 0, 1) := by decide +kernel
theorem d_It_add_20 : decode c_It_add 20 = .ok (.ireturn, 1) := by decide +kernel
theorem d_It_add_21 : decode c_It_add 21 = .ok (.aload_n 0, 1) := by decide +kernel
theorem d_It_add_22 : decode c_It_add 22 = .ok (.getfield 15, 3) := by decide +kernel
theorem d_It_add_25 : decode c_It_add 25 = .ok (.aload_n 0, 1) := by decide +kernel
theorem d_It_add_26 : decode c_It_add 26 = .ok (.getfield 21, 3) := by decide +kernel
theorem d_It_add_29 : decode c_It_add 29 = .ok (.iload_n 1, 1) := by decide +kernel
theorem d_It_add_30 : decode c_It_add 30 = .ok (.iastore, 1) := by decide +kernel
theorem d_It_add_31 : decode c_It_add 31 = .ok (.aload_n 0, 1) := by decide +kernel
theorem d_It_add_32 : decode c_It_add 32 = .ok (.dup, 1) := by decide +kernel
theorem d_It_add_33 : decode c_It_add 33 = .ok (.getfield 21, 3) := by decide +kernel
theorem d_It_add_36 : decode c_It_add 36 = .ok (.iconst 1, 1) := by decide +kernel
theorem d_It_add_37 : decode c_It_add 37 = .ok (.iadd, 1) := by decide +kernel
theorem d_It_add_38 : decode c_It_add 38 = .ok (.putfield 21, 3) := by decide +kernel
theorem d_It_add_41 : decode c_It_add 41 = .ok (.iconst 1, 1) := by decide +kernel
theorem d_It_add_42 : decode c_It_add 42 = .ok (.ireturn, 1) := by decide +kernel
theorem d_It_replace_0 : decode c_It_replace 0 = .ok (.iload_n 1, 1) := by decide +kernel
theorem d_It_replace_1 : decode c_It_replace 1 = .ok (.ifCond .lt 20, 3) := by decide +kernel
theorem d_It_replace_4 : decode c_It_replace 4 = .ok (.iload_n 1, 1) := by decide +kernel
theorem d_It_replace_5 : decode c_It_replace 5 = .ok (.aload_n 0, 1) := by decide +kernel
theorem d_It_replace_6 : decode c_It_replace 6 = .ok (.getfield 21, 3) := by decide +kernel
theorem d_It_replace_9 : decode c_It_replace 9 = .ok (.if_icmp .ge 12, 3) := by decide +kernel
theorem d_It_replace_12 : decode c_It_replace 12 = .ok (.iload_n 1, 1) := by decide +kernel
theorem d_It_replace_13 : decode c_It_replace 13 = .ok (.aload_n 0, 1) := by decide +kernel
theorem d_It_replace_14 : decode c_It_replace 14 = .ok (.getfield 15, 3) := by decide +kernel
theorem d_It_replace_17 : decode c_It_replace 17 = .ok (.arraylength, 1) := by decide +kernel
theorem d_It_replace_18 : decode c_It_replace 18 = .ok (.if_icmp .lt 5, 3) := by decide +kernel
theorem d_It_replace_21 : decode c_It_replace 21 = .ok (.iconst (-1), 1) := by decide +kernel
theorem d_It_replace_22 : decode c_It_replace 22 = .ok (.ireturn, 1) := by decide +kernel
theorem d_It_replace_23 : decode c_It_replace 23 = .ok (.aload_n 0, 1) := by decide +kernel
theorem d_It_replace_24 : decode c_It_replace 24 = .ok (.getfield 15, 3) := by decide +kernel
theorem d_It_replace_27 : decode c_It_replace 27 = .ok (.iload_n 1, 1) := by decide +kernel
theorem d_It_replace_28 : decode c_It_replace 28 = .ok (.iaload, 1) := by decide +kernel
theorem d_It_replace_29 : decode c_It_replace 29 = .ok (.istore_n 3, 1) := by decide +kernel
theorem d_It_replace_30 : decode c_It_replace 30 = .ok (.aload_n 0, 1) := by decide +kernel
theorem d_It_replace_31 : decode c_It_replace 31 = .ok (.getfield 15, 3) := by decide +kernel
theorem d_It_replace_34 : decode c_It_replace 34 = .ok (.iload_n 1, 1) := by decide +kernel
theorem d_It_replace_35 : decode c_It_replace 35 = .ok (.iload_n 2, 1) := by decide +kernel
theorem d_It_replace_36 : decode c_It_replace 36 = .ok (.iastore, 1) := by decide +kernel
theorem d_It_replace_37 : decode c_It_replace 37 = .ok (.iload_n 3, 1) := by decide +kernel
theorem d_It_replace_38 : decode c_It_replace 38 = .ok (.ireturn, 1) := by decide +kernel
theorem d_It_empty_0 : decode c_It_empty 0 = .ok (.aload_n 0, 1) := by decide +kernel
theorem d_It_empty_1 : decode c_It_empty 1 = .ok (.getfield 21, 3) := by decide +kernel
theorem d_It_empty_4 : decode c_It_empty 4 = .ok (.istore_n 1, 1) := by decide +kernel
theorem d_It_empty_5 : decode c_It_empty 5 = .ok (.aload_n 0, 1) := by decide +kernel
theorem d_It_empty_6 : decode c_It_empty 6 = .ok (.iconst 0, 1) := by decide +kernel
theorem d_It_empty_7 : decode c_It_empty 7 = .ok (.putfield 21, 3) := by decide +kernel
theorem d_It_empty_10 : decode c_It_empty 10 = .ok (.iload_n 1, 1) := by decide +kernel
theorem d_It_empty_11 : decode c_It_empty 11 = .ok (.ireturn, 1) := by decide +kernel
theorem d_It_reverse_0 : decode c_It_reverse 0 = .ok (.iconst 0, 1) := by decide +kernel
theorem d_It_reverse_1 : decode c_It_reverse 1 = .ok (.istore_n 1, 1) := by decide +kernel
theorem d_It_reverse_2 : decode c_It_reverse 2 = .ok (.iload_n 1, 1) := by decide +kernel
theorem d_It_reverse_3 : decode c_It_reverse 3 = .ok (.aload_n 0, 1) := by decide +kernel
theorem d_It_reverse_4 : decode c_It_reverse 4 = .ok (.getfield 21, 3) := by decide +kernel
theorem d_It_reverse_7 : decode c_It_reverse 7 = .ok (.iconst 2, 1) := by decide +kernel
theorem d_It_reverse_8 : decode c_It_reverse 8 = .ok (.idiv, 1) := by decide +kernel
theorem d_It_reverse_9 : decode c_It_reverse 9 = .ok (.if_icmp .ge 32, 3) := by decide +kernel
theorem d_It_reverse_12 : decode c_It_reverse 12 = .ok (.aload_n 0, 1) := by decide +kernel
theorem d_It_reverse_13 : decode c_It_reverse 13 = .ok (.iload_n 1, 1) := by decide +kernel
theorem d_It_reverse_14 : decode c_It_reverse 14 = .ok (.aload_n 0, 1) := by decide +kernel
theorem d_It_reverse_15 : decode c_It_reverse 15 = .ok (.aload_n 0, 1) := by decide +kernel
theorem d_It_reverse_16 : decode c_It_reverse 16 = .ok (.getfield 21, 3) := by decide +kernel
theorem d_It_reverse_19 : decode c_It_reverse 19 = .ok (.iconst 1, 1) := by decide +kernel
theorem d_It_reverse_20 : decode c_It_reverse 20 = .ok (.isub, 1) := by decide +kernel
theorem d_It_reverse_21 : decode c_It_reverse 21 = .ok (.iload_n 1, 1) := by decide +kernel
theorem d_It_reverse_22 : decode c_It_reverse 22 = .ok (.isub, 1) := by decide +kernel
theorem d_It_reverse_23 : decode c_It_reverse 23 = .ok (.aload_n 0, 1) := by decide +kernel
theorem d_It_reverse_24 : decode c_It_reverse 24 = .ok (.iload_n 1, 1) := by decide +kernel
theorem d_It_reverse_25 : decode c_It_reverse 25 = .ok (.invokevirtual 25, 3) := by decide +kernel
theorem d_It_reverse_28 : decode c_It_reverse 28 = .ok (.invokevirtual 29, 3) := by decide +kernel
theorem d_It_reverse_31 : decode c_It_reverse 31 = .ok (.invokevirtual 29, 3) := by decide +kernel
theorem d_It_reverse_34 : decode c_It_reverse 34 = .ok (.pop, 1) := by decide +kernel
theorem d_It_reverse_35 : decode c_It_reverse 35 = .ok (.iinc 1 1, 3) := by decide +kernel
theorem d_It_reverse_38 : decode c_It_reverse 38 = .ok (.goto (-36), 3) := by decide +kernel
theorem d_It_reverse_41 : decode c_It_reverse 41 = .ok (.return_, 1) := by decide +kernel
end
section
-- LineCodes$Items.hasRoomFor(I)Z
def w_It_hasRoomFor (post : Int32 → Prop) (n_items : Nat) (v_count : Int32) (x1 : Int32) : Prop := (((nI n_items) - v_count) < x1 → post 0) ∧ (¬ ((nI n_items) - v_count) < x1 → post 1)
abbrev rm_It_hasRoomFor : Room := { frames := 0, cells := 0, slots := 0, locals := 0 }
set_option maxHeartbeats 4000000 in
set_option maxRecDepth 100000 in
theorem met_It_hasRoomFor (l : Launch) (D : va_G) (Z : (Nat → Prop) → State → Heap → Prop) (hz : zk Z) (ad : Nat → Nat) (hk : zs Z ad) (a_this : Nat) (a_items : Nat) (k_items : ClassId) (n_items : Nat) (v_count : Int32) (f_items : Nat → Int32) (x1 : Int32) {post : Int32 → Prop} (hw : w_It_hasRoomFor post n_items v_count x1) : Met l y_It_hasRoomFor ws_It_hasRoomFor rm_It_hasRoomFor (va_Pc [.ref a_this, .int x1] (ro_ D vwCl [(k_items, .int)] [(a_this, .inr (0, [.ref a_items, .int v_count])), (a_items, .inl (k_items, n_items, .inl f_items))] (Z))) (vp_Si post) 0 0 (fun _ => False) := by
  refine Met.ofW (cc := c_It_hasRoomFor) (maxL := 2) (ret := (some .boolean)) (by decide) rfl ?_
  intro p e s m args below meth c s₁ B hml hv
  obtain ⟨rfl, hP, hK, hZ⟩ := hv
  have hx := B.exec
  have hb := B.bytes
  have hr := B.returns
  have hts0 := atoms_spec (ws := ws_It_hasRoomFor) B.pre
  have hts := fun (w : Cond) (h : w ∈ tb) => hts0 w (List.mem_cons_of_mem _ h)
  have hown : s.vm.findClass R_It = some m.cls := findClass_of_methodNamed B.named
  have hlocks := B.notSynchronized
  have hS : va_S (fun _ => False) s.heap s.heap [] := va_S.rf
  have hl := lv_entry ([.ref a_this, .int x1]) (n := 2) (Nat.le_of_ble_eq_true rfl)
  rw [lg_entry_eq]
  generalize (lg_sl ([.ref a_this, .int x1]) ++ List.replicate (2 - (lg_sl ([.ref a_this, .int x1])).length) Slot.unset).toArray = ls at hl ⊢
  have hl : lv_has ls 2 [(0, .ref a_this), (1, .int x1)] := hl
  unfold w_It_hasRoomFor at hw
  refine lv_iload_n hx hb d_It_hasRoomFor_0 rfl (lv_at hl 1 rfl) ?_
  refine lv_aload_n hx hb d_It_hasRoomFor_1 rfl (lv_at hl 0 rfl) ?_
  refine va_get (D := D) (ci := 0) (v := .ref a_items) (C := R_It) (T := T_It) (N := 2) hx hb hts in_It hown hK hP 0 rfl rfl 0 (by decide) (hts _ mm_73) (fun _ h9 => h9) rfl d_It_hasRoomFor_2 ?_
  refine va_alen (v := (nI n_items)) hx hb hK hP 1 0 rfl rfl rfl d_It_hasRoomFor_5 ?_
  refine lv_aload_n hx hb d_It_hasRoomFor_6 rfl (lv_at hl 0 rfl) ?_
  refine va_get (D := D) (ci := 0) (v := .int v_count) (C := R_It) (T := T_It) (N := 2) hx hb hts in_It hown hK hP 0 rfl rfl 1 (by decide) (hts _ mm_74) (fun _ h9 => h9) rfl d_It_hasRoomFor_7 ?_
  refine lv_isub hx hb d_It_hasRoomFor_10 ?_
  refine lv_icmp_gt (tgt := 18) hx hb d_It_hasRoomFor_11 (by decide) (fun c1 => ?_) (fun c1 => ?_)
  · have hw := hw.1 c1
    refine lv_iconst (v := 0) hx hb d_It_hasRoomFor_18 (by decide) ?_
    exact W.zret (v := 0) (ty := .boolean) hx hb hr rfl (fun t ht hW => ⟨0, rfl, hw, ht⟩) hS.2.2 d_It_hasRoomFor_19
  · have hw := hw.2 c1
    refine lv_iconst (v := 1) hx hb d_It_hasRoomFor_14 (by decide) ?_
    refine lv_goto (tgt := 19) hx hb d_It_hasRoomFor_15 (by decide) ?_
    exact W.zret (v := 1) (ty := .boolean) hx hb hr rfl (fun t ht hW => ⟨1, rfl, hw, ht⟩) hS.2.2 d_It_hasRoomFor_19
-- LineCodes$Items.add(I)Z
def w_It_add (post : Int32 → Int32 → (Nat → Int32) → Prop) (n_items : Nat) (v_count : Int32) (f_items : Nat → Int32) (x1 : Int32) : Prop := (v_count < 0 → post 0 v_count f_items) ∧ (¬ v_count < 0 → (v_count < (nI n_items) → vp_in v_count n_items ∧ post 1 (v_count + 1) (upd f_items v_count.toNatClampNeg x1)) ∧ (¬ v_count < (nI n_items) → post 0 v_count f_items))
abbrev rm_It_add : Room := { frames := 0, cells := 0, slots := 0, locals := 0 }
set_option maxHeartbeats 4000000 in
set_option maxRecDepth 100000 in
theorem met_It_add (l : Launch) (D : va_G) (Z : (Nat → Prop) → State → Heap → Prop) (hz : zk Z) (ad : Nat → Nat) (hk : zs Z ad) (a_this : Nat) (a_items : Nat) (k_items : ClassId) (n_items : Nat) (v_count : Int32) (f_items : Nat → Int32) (x1 : Int32) (sz : Nat) {post : Int32 → Int32 → (Nat → Int32) → Prop} (hw : w_It_add post n_items v_count f_items x1) : Met l y_It_add ws_It_add rm_It_add (va_Pc [.ref a_this, .int x1] (rw_ D vwCl [(k_items, .int)] [(a_this, .inr (0, [.ref a_items, .int v_count])), (a_items, .inl (k_items, n_items, .inl f_items))] (Z) sz)) (va_Qi (fun (r : Int32) (u : Int32 × (Nat → Int32)) => post r u.1 u.2) (fun u t => at_ D vwCl [(k_items, .int)] (va_A [(a_this, .inr (0, [.ref a_items, .int v_count])), (a_items, .inl (k_items, n_items, .inl f_items))] sz) [(a_this, .inr (0, [.ref a_items, .int u.1])), (a_items, .inl (k_items, n_items, .inl u.2))] t) (va_A [(a_this, .inr (0, [.ref a_items, .int v_count])), (a_items, .inl (k_items, n_items, .inl f_items))] sz)) 0 0 (va_A [(a_this, .inr (0, [.ref a_items, .int v_count])), (a_items, .inl (k_items, n_items, .inl f_items))] sz) := by
  refine Met.ofW (cc := c_It_add) (maxL := 2) (ret := (some .boolean)) (by decide) rfl ?_
  intro p e s m args below meth c s₁ B hml hv
  obtain ⟨rfl, hsz, hP, hK, hD0, hZ⟩ := hv
  have hx := B.exec
  have hb := B.bytes
  have hr := B.returns
  have hts0 := atoms_spec (ws := ws_It_add) B.pre
  have hts := fun (w : Cond) (h : w ∈ tb) => hts0 w (List.mem_cons_of_mem _ h)
  have hown : s.vm.findClass R_It = some m.cls := findClass_of_methodNamed B.named
  have hlocks := B.notSynchronized
  subst hsz
  have hD := hD0.self (sz := s.heap.size)
  generalize hAe : va_A [(a_this, .inr (0, [.ref a_items, .int v_count])), (a_items, .inl (k_items, n_items, .inl f_items))] s.heap.size = A at hD hZ ⊢
  have hA : ∀ q : Nat, s.heap.size ≤ q → A q := fun q h => by rw [← hAe]; exact Or.inr h
  have hS : va_S A s.heap s.heap [] := va_S.rf
  have hl := lv_entry ([.ref a_this, .int x1]) (n := 2) (Nat.le_of_ble_eq_true rfl)
  rw [lg_entry_eq]
  generalize (lg_sl ([.ref a_this, .int x1]) ++ List.replicate (2 - (lg_sl ([.ref a_this, .int x1])).length) Slot.unset).toArray = ls at hl ⊢
  have hl : lv_has ls 2 [(0, .ref a_this), (1, .int x1)] := hl
  unfold w_It_add at hw
  refine lv_aload_n hx hb d_It_add_0 rfl (lv_at hl 0 rfl) ?_
  refine va_get (D := D) (ci := 0) (v := .int v_count) (C := R_It) (T := T_It) (N := 2) hx hb hts in_It hown hK hP 0 rfl rfl 1 (by decide) (hts _ mm_74) (fun _ h9 => h9) rfl d_It_add_1 ?_
  refine lv_if_lt (tgt := 19) hx hb d_It_add_4 (by decide) (fun c1 => ?_) (fun c1 => ?_)
  · have hw := hw.1 c1
    refine lv_iconst (v := 0) hx hb d_It_add_19 (by decide) ?_
    have hP9 := hP.sub (ws' := [(a_this, .inr (0, [.ref a_items, .int v_count])), (a_items, .inl (k_items, n_items, .inl f_items))]) [0, 1] rfl
    have hD9 := hD.sub (ws' := [(a_this, .inr (0, [.ref a_items, .int v_count])), (a_items, .inl (k_items, n_items, .inl f_items))]) [0, 1] (by decide) rfl
    exact W.zret (v := 0) (ty := .boolean) hx hb hr rfl (fun t ht hW => ⟨⟨0, (v_count, f_items), rfl, hw, by rw [ht]; exact hP9, va_K.moved hW.alike hK, hD9⟩, hS.F ht⟩) hS.2.2 d_It_add_20
  · have hw := hw.2 c1
    refine lv_aload_n hx hb d_It_add_7 rfl (lv_at hl 0 rfl) ?_
    refine va_get (D := D) (ci := 0) (v := .int v_count) (C := R_It) (T := T_It) (N := 2) hx hb hts in_It hown hK hP 0 rfl rfl 1 (by decide) (hts _ mm_74) (fun _ h9 => h9) rfl d_It_add_8 ?_
    refine lv_aload_n hx hb d_It_add_11 rfl (lv_at hl 0 rfl) ?_
    refine va_get (D := D) (ci := 0) (v := .ref a_items) (C := R_It) (T := T_It) (N := 2) hx hb hts in_It hown hK hP 0 rfl rfl 0 (by decide) (hts _ mm_73) (fun _ h9 => h9) rfl d_It_add_12 ?_
    refine va_alen (v := (nI n_items)) hx hb hK hP 1 0 rfl rfl rfl d_It_add_15 ?_
    refine lv_icmp_lt (tgt := 21) hx hb d_It_add_16 (by decide) (fun c2 => ?_) (fun c2 => ?_)
    · have hw := hw.1 c2
      refine lv_aload_n hx hb d_It_add_21 rfl (lv_at hl 0 rfl) ?_
      refine va_get (D := D) (ci := 0) (v := .ref a_items) (C := R_It) (T := T_It) (N := 2) hx hb hts in_It hown hK hP 0 rfl rfl 0 (by decide) (hts _ mm_73) (fun _ h9 => h9) rfl d_It_add_22 ?_
      refine lv_aload_n hx hb d_It_add_25 rfl (lv_at hl 0 rfl) ?_
      refine va_get (D := D) (ci := 0) (v := .int v_count) (C := R_It) (T := T_It) (N := 2) hx hb hts in_It hown hK hP 0 rfl rfl 1 (by decide) (hts _ mm_74) (fun _ h9 => h9) rfl d_It_add_26 ?_
      refine lv_iload_n hx hb d_It_add_29 rfl (lv_at hl 1 rfl) ?_
      have hi30 := hw.1
      have hw := hw.2
      refine va_iast hx hb hK hP hD hS 1 0 rfl rfl hi30 d_It_add_30 (fun H locs hP hD hS => ?_)
      have hP : va_P D vwCl [(a_this, .inr (0, [.ref a_items, .int v_count])), (a_items, .inl (k_items, n_items, .inl (upd f_items v_count.toNatClampNeg x1)))] H := hP
      have hD : va_D A [(a_this, .inr (0, [.ref a_items, .int v_count])), (a_items, .inl (k_items, n_items, .inl (upd f_items v_count.toNatClampNeg x1)))] := hD
      refine lv_aload_n hx hb d_It_add_31 rfl (lv_at hl 0 rfl) ?_
      refine lv_dup hx hb d_It_add_32 rfl ?_
      refine va_get (D := D) (ci := 0) (v := .int v_count) (C := R_It) (T := T_It) (N := 2) hx hb hts in_It hown hK hP 0 rfl rfl 1 (by decide) (hts _ mm_74) (fun _ h9 => h9) rfl d_It_add_33 ?_
      refine lv_iconst (v := 1) hx hb d_It_add_36 (by decide) ?_
      refine lv_iadd hx hb d_It_add_37 ?_
      refine va_put (D := D) (ci := 0) (v := .int (v_count + 1)) (ty := .int) (C := R_It) (T := T_It) (N := 2) hx hb hts in_It ty_It tk_It nn_It hown hK hP hD hS 0 rfl rfl 1 (by decide) (hts _ mm_74) (fun _ h9 => h9) rfl (by decide +kernel) rfl rfl (Nat.le_of_ble_eq_true rfl) d_It_add_38 (fun H locs hP hD hS => ?_)
      have hP : va_P D vwCl [(a_this, .inr (0, [.ref a_items, .int (v_count + 1)])), (a_items, .inl (k_items, n_items, .inl (upd f_items v_count.toNatClampNeg x1)))] H := hP
      have hD : va_D A [(a_this, .inr (0, [.ref a_items, .int (v_count + 1)])), (a_items, .inl (k_items, n_items, .inl (upd f_items v_count.toNatClampNeg x1)))] := hD
      refine lv_iconst (v := 1) hx hb d_It_add_41 (by decide) ?_
      have hP9 := hP.sub (ws' := [(a_this, .inr (0, [.ref a_items, .int (v_count + 1)])), (a_items, .inl (k_items, n_items, .inl (upd f_items v_count.toNatClampNeg x1)))]) [0, 1] rfl
      have hD9 := hD.sub (ws' := [(a_this, .inr (0, [.ref a_items, .int (v_count + 1)])), (a_items, .inl (k_items, n_items, .inl (upd f_items v_count.toNatClampNeg x1)))]) [0, 1] (by decide) rfl
      exact W.zret (v := 1) (ty := .boolean) hx hb hr rfl (fun t ht hW => ⟨⟨1, ((v_count + 1), (upd f_items v_count.toNatClampNeg x1)), rfl, hw, by rw [ht]; exact hP9, va_K.moved hW.alike hK, hD9⟩, hS.F ht⟩) hS.2.2 d_It_add_42
    · have hw := hw.2 c2
      refine lv_iconst (v := 0) hx hb d_It_add_19 (by decide) ?_
      have hP9 := hP.sub (ws' := [(a_this, .inr (0, [.ref a_items, .int v_count])), (a_items, .inl (k_items, n_items, .inl f_items))]) [0, 1] rfl
      have hD9 := hD.sub (ws' := [(a_this, .inr (0, [.ref a_items, .int v_count])), (a_items, .inl (k_items, n_items, .inl f_items))]) [0, 1] (by decide) rfl
      exact W.zret (v := 0) (ty := .boolean) hx hb hr rfl (fun t ht hW => ⟨⟨0, (v_count, f_items), rfl, hw, by rw [ht]; exact hP9, va_K.moved hW.alike hK, hD9⟩, hS.F ht⟩) hS.2.2 d_It_add_20
-- LineCodes$Items.count()I
def w_It_count (post : Int32 → Prop) (v_count : Int32) : Prop := post v_count
abbrev rm_It_count : Room := { frames := 0, cells := 0, slots := 0, locals := 0 }
set_option maxHeartbeats 4000000 in
set_option maxRecDepth 100000 in
theorem met_It_count (l : Launch) (D : va_G) (Z : (Nat → Prop) → State → Heap → Prop) (hz : zk Z) (ad : Nat → Nat) (hk : zs Z ad) (a_this : Nat) (a_items : Nat) (k_items : ClassId) (n_items : Nat) (v_count : Int32) (f_items : Nat → Int32) {post : Int32 → Prop} (hw : w_It_count post v_count) : Met l y_It_count ws_It_count rm_It_count (va_Pc [.ref a_this] (ro_ D vwCl [(k_items, .int)] [(a_this, .inr (0, [.ref a_items, .int v_count])), (a_items, .inl (k_items, n_items, .inl f_items))] (Z))) (vp_Si post) 0 0 (fun _ => False) := by
  refine Met.ofW (cc := c_It_count) (maxL := 1) (ret := (some .int)) (by decide) rfl ?_
  intro p e s m args below meth c s₁ B hml hv
  obtain ⟨rfl, hP, hK, hZ⟩ := hv
  have hx := B.exec
  have hb := B.bytes
  have hr := B.returns
  have hts0 := atoms_spec (ws := ws_It_count) B.pre
  have hts := fun (w : Cond) (h : w ∈ tb) => hts0 w (List.mem_cons_of_mem _ h)
  have hown : s.vm.findClass R_It = some m.cls := findClass_of_methodNamed B.named
  have hlocks := B.notSynchronized
  have hS : va_S (fun _ => False) s.heap s.heap [] := va_S.rf
  have hl := lv_entry ([.ref a_this]) (n := 1) (Nat.le_of_ble_eq_true rfl)
  rw [lg_entry_eq]
  generalize (lg_sl ([.ref a_this]) ++ List.replicate (1 - (lg_sl ([.ref a_this])).length) Slot.unset).toArray = ls at hl ⊢
  have hl : lv_has ls 1 [(0, .ref a_this)] := hl
  unfold w_It_count at hw
  refine lv_aload_n hx hb d_It_count_0 rfl (lv_at hl 0 rfl) ?_
  refine va_get (D := D) (ci := 0) (v := .int v_count) (C := R_It) (T := T_It) (N := 2) hx hb hts in_It hown hK hP 0 rfl rfl 1 (by decide) (hts _ mm_74) (fun _ h9 => h9) rfl d_It_count_1 ?_
  exact W.iret (v := v_count) hx hb hr (fun t ht hW => ⟨v_count, rfl, hw, ht⟩) hS.2.2 d_It_count_4
-- LineCodes$Items.empty()I
def w_It_empty (post : Int32 → Int32 → Prop) (v_count : Int32) : Prop := post v_count 0
abbrev rm_It_empty : Room := { frames := 0, cells := 0, slots := 0, locals := 0 }
set_option maxHeartbeats 4000000 in
set_option maxRecDepth 100000 in
theorem met_It_empty (l : Launch) (D : va_G) (Z : (Nat → Prop) → State → Heap → Prop) (hz : zk Z) (ad : Nat → Nat) (hk : zs Z ad) (a_this : Nat) (a_items : Nat) (k_items : ClassId) (n_items : Nat) (v_count : Int32) (f_items : Nat → Int32) (sz : Nat) {post : Int32 → Int32 → Prop} (hw : w_It_empty post v_count) : Met l y_It_empty ws_It_empty rm_It_empty (va_Pc [.ref a_this] (rw_ D vwCl [(k_items, .int)] [(a_this, .inr (0, [.ref a_items, .int v_count])), (a_items, .inl (k_items, n_items, .inl f_items))] (Z) sz)) (va_Qi (fun (r : Int32) (u : Int32) => post r u) (fun u t => at_ D vwCl [(k_items, .int)] (va_A [(a_this, .inr (0, [.ref a_items, .int v_count])), (a_items, .inl (k_items, n_items, .inl f_items))] sz) [(a_this, .inr (0, [.ref a_items, .int u])), (a_items, .inl (k_items, n_items, .inl f_items))] t) (va_A [(a_this, .inr (0, [.ref a_items, .int v_count])), (a_items, .inl (k_items, n_items, .inl f_items))] sz)) 0 0 (va_A [(a_this, .inr (0, [.ref a_items, .int v_count])), (a_items, .inl (k_items, n_items, .inl f_items))] sz) := by
  refine Met.ofW (cc := c_It_empty) (maxL := 2) (ret := (some .int)) (by decide) rfl ?_
  intro p e s m args below meth c s₁ B hml hv
  obtain ⟨rfl, hsz, hP, hK, hD0, hZ⟩ := hv
  have hx := B.exec
  have hb := B.bytes
  have hr := B.returns
  have hts0 := atoms_spec (ws := ws_It_empty) B.pre
  have hts := fun (w : Cond) (h : w ∈ tb) => hts0 w (List.mem_cons_of_mem _ h)
  have hown : s.vm.findClass R_It = some m.cls := findClass_of_methodNamed B.named
  have hlocks := B.notSynchronized
  subst hsz
  have hD := hD0.self (sz := s.heap.size)
  generalize hAe : va_A [(a_this, .inr (0, [.ref a_items, .int v_count])), (a_items, .inl (k_items, n_items, .inl f_items))] s.heap.size = A at hD hZ ⊢
  have hA : ∀ q : Nat, s.heap.size ≤ q → A q := fun q h => by rw [← hAe]; exact Or.inr h
  have hS : va_S A s.heap s.heap [] := va_S.rf
  have hl := lv_entry ([.ref a_this]) (n := 2) (Nat.le_of_ble_eq_true rfl)
  rw [lg_entry_eq]
  generalize (lg_sl ([.ref a_this]) ++ List.replicate (2 - (lg_sl ([.ref a_this])).length) Slot.unset).toArray = ls at hl ⊢
  have hl : lv_has ls 2 [(0, .ref a_this)] := hl
  unfold w_It_empty at hw
  refine lv_aload_n hx hb d_It_empty_0 rfl (lv_at hl 0 rfl) ?_
  refine va_get (D := D) (ci := 0) (v := .int v_count) (C := R_It) (T := T_It) (N := 2) hx hb hts in_It hown hK hP 0 rfl rfl 1 (by decide) (hts _ mm_74) (fun _ h9 => h9) rfl d_It_empty_1 ?_
  refine lv_istore_n (lv' := [(1, .int v_count), (0, .ref a_this)]) hx hb d_It_empty_4 rfl hl (by decide) rfl (fun ls hl => ?_)
  refine lv_aload_n hx hb d_It_empty_5 rfl (lv_at hl 1 rfl) ?_
  refine lv_iconst (v := 0) hx hb d_It_empty_6 (by decide) ?_
  refine va_put (D := D) (ci := 0) (v := .int 0) (ty := .int) (C := R_It) (T := T_It) (N := 2) hx hb hts in_It ty_It tk_It nn_It hown hK hP hD hS 0 rfl rfl 1 (by decide) (hts _ mm_74) (fun _ h9 => h9) rfl (by decide +kernel) rfl rfl (Nat.le_of_ble_eq_true rfl) d_It_empty_7 (fun H locs hP hD hS => ?_)
  have hP : va_P D vwCl [(a_this, .inr (0, [.ref a_items, .int 0])), (a_items, .inl (k_items, n_items, .inl f_items))] H := hP
  have hD : va_D A [(a_this, .inr (0, [.ref a_items, .int 0])), (a_items, .inl (k_items, n_items, .inl f_items))] := hD
  refine lv_iload_n hx hb d_It_empty_10 rfl (lv_at hl 0 rfl) ?_
  have hP9 := hP.sub (ws' := [(a_this, .inr (0, [.ref a_items, .int 0])), (a_items, .inl (k_items, n_items, .inl f_items))]) [0, 1] rfl
  have hD9 := hD.sub (ws' := [(a_this, .inr (0, [.ref a_items, .int 0])), (a_items, .inl (k_items, n_items, .inl f_items))]) [0, 1] (by decide) rfl
  exact W.iret (v := v_count) hx hb hr (fun t ht hW => ⟨⟨v_count, 0, rfl, hw, by rw [ht]; exact hP9, va_K.moved hW.alike hK, hD9⟩, hS.F ht⟩) hS.2.2 d_It_empty_11
-- LineCodes$Items.at(I)I
def w_It_at (post : Int32 → Prop) (n_items : Nat) (v_count : Int32) (f_items : Nat → Int32) (x1 : Int32) : Prop := (x1 < 0 → post (-1)) ∧ (¬ x1 < 0 → (v_count ≤ x1 → post (-1)) ∧ (¬ v_count ≤ x1 → ((nI n_items) ≤ x1 → post (-1)) ∧ (¬ (nI n_items) ≤ x1 → vp_in x1 n_items ∧ post (f_items x1.toNatClampNeg))))
abbrev rm_It_at : Room := { frames := 0, cells := 0, slots := 0, locals := 0 }
set_option maxHeartbeats 4000000 in
set_option maxRecDepth 100000 in
theorem met_It_at (l : Launch) (D : va_G) (Z : (Nat → Prop) → State → Heap → Prop) (hz : zk Z) (ad : Nat → Nat) (hk : zs Z ad) (a_this : Nat) (a_items : Nat) (k_items : ClassId) (n_items : Nat) (v_count : Int32) (f_items : Nat → Int32) (x1 : Int32) {post : Int32 → Prop} (hw : w_It_at post n_items v_count f_items x1) : Met l y_It_at ws_It_at rm_It_at (va_Pc [.ref a_this, .int x1] (ro_ D vwCl [(k_items, .int)] [(a_this, .inr (0, [.ref a_items, .int v_count])), (a_items, .inl (k_items, n_items, .inl f_items))] (Z))) (vp_Si post) 0 0 (fun _ => False) := by
  refine Met.ofW (cc := c_It_at) (maxL := 2) (ret := (some .int)) (by decide) rfl ?_
  intro p e s m args below meth c s₁ B hml hv
  obtain ⟨rfl, hP, hK, hZ⟩ := hv
  have hx := B.exec
  have hb := B.bytes
  have hr := B.returns
  have hts0 := atoms_spec (ws := ws_It_at) B.pre
  have hts := fun (w : Cond) (h : w ∈ tb) => hts0 w (List.mem_cons_of_mem _ h)
  have hown : s.vm.findClass R_It = some m.cls := findClass_of_methodNamed B.named
  have hlocks := B.notSynchronized
  have hS : va_S (fun _ => False) s.heap s.heap [] := va_S.rf
  have hl := lv_entry ([.ref a_this, .int x1]) (n := 2) (Nat.le_of_ble_eq_true rfl)
  rw [lg_entry_eq]
  generalize (lg_sl ([.ref a_this, .int x1]) ++ List.replicate (2 - (lg_sl ([.ref a_this, .int x1])).length) Slot.unset).toArray = ls at hl ⊢
  have hl : lv_has ls 2 [(0, .ref a_this), (1, .int x1)] := hl
  unfold w_It_at at hw
  refine lv_iload_n hx hb d_It_at_0 rfl (lv_at hl 1 rfl) ?_
  refine lv_if_lt (tgt := 30) hx hb d_It_at_1 (by decide) (fun c1 => ?_) (fun c1 => ?_)
  · have hw := hw.1 c1
    refine lv_iconst (v := (-1)) hx hb d_It_at_30 (by decide) ?_
    exact W.iret (v := (-1)) hx hb hr (fun t ht hW => ⟨(-1), rfl, hw, ht⟩) hS.2.2 d_It_at_31
  · have hw := hw.2 c1
    refine lv_iload_n hx hb d_It_at_4 rfl (lv_at hl 1 rfl) ?_
    refine lv_aload_n hx hb d_It_at_5 rfl (lv_at hl 0 rfl) ?_
    refine va_get (D := D) (ci := 0) (v := .int v_count) (C := R_It) (T := T_It) (N := 2) hx hb hts in_It hown hK hP 0 rfl rfl 1 (by decide) (hts _ mm_74) (fun _ h9 => h9) rfl d_It_at_6 ?_
    refine lv_icmp_ge (tgt := 30) hx hb d_It_at_9 (by decide) (fun c2 => ?_) (fun c2 => ?_)
    · have hw := hw.1 c2
      refine lv_iconst (v := (-1)) hx hb d_It_at_30 (by decide) ?_
      exact W.iret (v := (-1)) hx hb hr (fun t ht hW => ⟨(-1), rfl, hw, ht⟩) hS.2.2 d_It_at_31
    · have hw := hw.2 c2
      refine lv_iload_n hx hb d_It_at_12 rfl (lv_at hl 1 rfl) ?_
      refine lv_aload_n hx hb d_It_at_13 rfl (lv_at hl 0 rfl) ?_
      refine va_get (D := D) (ci := 0) (v := .ref a_items) (C := R_It) (T := T_It) (N := 2) hx hb hts in_It hown hK hP 0 rfl rfl 0 (by decide) (hts _ mm_73) (fun _ h9 => h9) rfl d_It_at_14 ?_
      refine va_alen (v := (nI n_items)) hx hb hK hP 1 0 rfl rfl rfl d_It_at_17 ?_
      refine lv_icmp_ge (tgt := 30) hx hb d_It_at_18 (by decide) (fun c3 => ?_) (fun c3 => ?_)
      · have hw := hw.1 c3
        refine lv_iconst (v := (-1)) hx hb d_It_at_30 (by decide) ?_
        exact W.iret (v := (-1)) hx hb hr (fun t ht hW => ⟨(-1), rfl, hw, ht⟩) hS.2.2 d_It_at_31
      · have hw := hw.2 c3
        refine lv_aload_n hx hb d_It_at_21 rfl (lv_at hl 0 rfl) ?_
        refine va_get (D := D) (ci := 0) (v := .ref a_items) (C := R_It) (T := T_It) (N := 2) hx hb hts in_It hown hK hP 0 rfl rfl 0 (by decide) (hts _ mm_73) (fun _ h9 => h9) rfl d_It_at_22 ?_
        refine lv_iload_n hx hb d_It_at_25 rfl (lv_at hl 1 rfl) ?_
        have hi26 := hw.1
        have hw := hw.2
        refine va_iald hx hb hK hP 1 0 rfl rfl hi26 d_It_at_26 ?_
        refine lv_goto (tgt := 31) hx hb d_It_at_27 (by decide) ?_
        exact W.iret (v := (f_items x1.toNatClampNeg)) hx hb hr (fun t ht hW => ⟨(f_items x1.toNatClampNeg), rfl, hw, ht⟩) hS.2.2 d_It_at_31
-- LineCodes$Items.replace(II)I
def w_It_replace (post : Int32 → (Nat → Int32) → Prop) (n_items : Nat) (v_count : Int32) (f_items : Nat → Int32) (x1 : Int32) (x2 : Int32) : Prop := (x1 < 0 → post (-1) f_items) ∧ (¬ x1 < 0 → (v_count ≤ x1 → post (-1) f_items) ∧ (¬ v_count ≤ x1 → (x1 < (nI n_items) → vp_in x1 n_items ∧ vp_in x1 n_items ∧ post (f_items x1.toNatClampNeg) (upd f_items x1.toNatClampNeg x2)) ∧ (¬ x1 < (nI n_items) → post (-1) f_items)))
abbrev rm_It_replace : Room := { frames := 0, cells := 0, slots := 0, locals := 0 }
set_option maxHeartbeats 4000000 in
set_option maxRecDepth 100000 in
theorem met_It_replace (l : Launch) (D : va_G) (Z : (Nat → Prop) → State → Heap → Prop) (hz : zk Z) (ad : Nat → Nat) (hk : zs Z ad) (a_this : Nat) (a_items : Nat) (k_items : ClassId) (n_items : Nat) (v_count : Int32) (f_items : Nat → Int32) (x1 : Int32) (x2 : Int32) (sz : Nat) {post : Int32 → (Nat → Int32) → Prop} (hw : w_It_replace post n_items v_count f_items x1 x2) : Met l y_It_replace ws_It_replace rm_It_replace (va_Pc [.ref a_this, .int x1, .int x2] (rw_ D vwCl [(k_items, .int)] [(a_this, .inr (0, [.ref a_items, .int v_count])), (a_items, .inl (k_items, n_items, .inl f_items))] (Z) sz)) (va_Qi (fun (r : Int32) (u : (Nat → Int32)) => post r u) (fun u t => at_ D vwCl [(k_items, .int)] (va_A [(a_this, .inr (0, [.ref a_items, .int v_count])), (a_items, .inl (k_items, n_items, .inl f_items))] sz) [(a_this, .inr (0, [.ref a_items, .int v_count])), (a_items, .inl (k_items, n_items, .inl u))] t) (va_A [(a_this, .inr (0, [.ref a_items, .int v_count])), (a_items, .inl (k_items, n_items, .inl f_items))] sz)) 0 0 (va_A [(a_this, .inr (0, [.ref a_items, .int v_count])), (a_items, .inl (k_items, n_items, .inl f_items))] sz) := by
  refine Met.ofW (cc := c_It_replace) (maxL := 4) (ret := (some .int)) (by decide) rfl ?_
  intro p e s m args below meth c s₁ B hml hv
  obtain ⟨rfl, hsz, hP, hK, hD0, hZ⟩ := hv
  have hx := B.exec
  have hb := B.bytes
  have hr := B.returns
  have hts0 := atoms_spec (ws := ws_It_replace) B.pre
  have hts := fun (w : Cond) (h : w ∈ tb) => hts0 w (List.mem_cons_of_mem _ h)
  have hown : s.vm.findClass R_It = some m.cls := findClass_of_methodNamed B.named
  have hlocks := B.notSynchronized
  subst hsz
  have hD := hD0.self (sz := s.heap.size)
  generalize hAe : va_A [(a_this, .inr (0, [.ref a_items, .int v_count])), (a_items, .inl (k_items, n_items, .inl f_items))] s.heap.size = A at hD hZ ⊢
  have hA : ∀ q : Nat, s.heap.size ≤ q → A q := fun q h => by rw [← hAe]; exact Or.inr h
  have hS : va_S A s.heap s.heap [] := va_S.rf
  have hl := lv_entry ([.ref a_this, .int x1, .int x2]) (n := 4) (Nat.le_of_ble_eq_true rfl)
  rw [lg_entry_eq]
  generalize (lg_sl ([.ref a_this, .int x1, .int x2]) ++ List.replicate (4 - (lg_sl ([.ref a_this, .int x1, .int x2])).length) Slot.unset).toArray = ls at hl ⊢
  have hl : lv_has ls 4 [(0, .ref a_this), (1, .int x1), (2, .int x2)] := hl
  unfold w_It_replace at hw
  refine lv_iload_n hx hb d_It_replace_0 rfl (lv_at hl 1 rfl) ?_
  refine lv_if_lt (tgt := 21) hx hb d_It_replace_1 (by decide) (fun c1 => ?_) (fun c1 => ?_)
  · have hw := hw.1 c1
    refine lv_iconst (v := (-1)) hx hb d_It_replace_21 (by decide) ?_
    have hP9 := hP.sub (ws' := [(a_this, .inr (0, [.ref a_items, .int v_count])), (a_items, .inl (k_items, n_items, .inl f_items))]) [0, 1] rfl
    have hD9 := hD.sub (ws' := [(a_this, .inr (0, [.ref a_items, .int v_count])), (a_items, .inl (k_items, n_items, .inl f_items))]) [0, 1] (by decide) rfl
    exact W.iret (v := (-1)) hx hb hr (fun t ht hW => ⟨⟨(-1), f_items, rfl, hw, by rw [ht]; exact hP9, va_K.moved hW.alike hK, hD9⟩, hS.F ht⟩) hS.2.2 d_It_replace_22
  · have hw := hw.2 c1
    refine lv_iload_n hx hb d_It_replace_4 rfl (lv_at hl 1 rfl) ?_
    refine lv_aload_n hx hb d_It_replace_5 rfl (lv_at hl 0 rfl) ?_
    refine va_get (D := D) (ci := 0) (v := .int v_count) (C := R_It) (T := T_It) (N := 2) hx hb hts in_It hown hK hP 0 rfl rfl 1 (by decide) (hts _ mm_74) (fun _ h9 => h9) rfl d_It_replace_6 ?_
    refine lv_icmp_ge (tgt := 21) hx hb d_It_replace_9 (by decide) (fun c2 => ?_) (fun c2 => ?_)
    · have hw := hw.1 c2
      refine lv_iconst (v := (-1)) hx hb d_It_replace_21 (by decide) ?_
      have hP9 := hP.sub (ws' := [(a_this, .inr (0, [.ref a_items, .int v_count])), (a_items, .inl (k_items, n_items, .inl f_items))]) [0, 1] rfl
      have hD9 := hD.sub (ws' := [(a_this, .inr (0, [.ref a_items, .int v_count])), (a_items, .inl (k_items, n_items, .inl f_items))]) [0, 1] (by decide) rfl
      exact W.iret (v := (-1)) hx hb hr (fun t ht hW => ⟨⟨(-1), f_items, rfl, hw, by rw [ht]; exact hP9, va_K.moved hW.alike hK, hD9⟩, hS.F ht⟩) hS.2.2 d_It_replace_22
    · have hw := hw.2 c2
      refine lv_iload_n hx hb d_It_replace_12 rfl (lv_at hl 1 rfl) ?_
      refine lv_aload_n hx hb d_It_replace_13 rfl (lv_at hl 0 rfl) ?_
      refine va_get (D := D) (ci := 0) (v := .ref a_items) (C := R_It) (T := T_It) (N := 2) hx hb hts in_It hown hK hP 0 rfl rfl 0 (by decide) (hts _ mm_73) (fun _ h9 => h9) rfl d_It_replace_14 ?_
      refine va_alen (v := (nI n_items)) hx hb hK hP 1 0 rfl rfl rfl d_It_replace_17 ?_
      refine lv_icmp_lt (tgt := 23) hx hb d_It_replace_18 (by decide) (fun c3 => ?_) (fun c3 => ?_)
      · have hw := hw.1 c3
        refine lv_aload_n hx hb d_It_replace_23 rfl (lv_at hl 0 rfl) ?_
        refine va_get (D := D) (ci := 0) (v := .ref a_items) (C := R_It) (T := T_It) (N := 2) hx hb hts in_It hown hK hP 0 rfl rfl 0 (by decide) (hts _ mm_73) (fun _ h9 => h9) rfl d_It_replace_24 ?_
        refine lv_iload_n hx hb d_It_replace_27 rfl (lv_at hl 1 rfl) ?_
        have hi28 := hw.1
        have hw := hw.2
        refine va_iald hx hb hK hP 1 0 rfl rfl hi28 d_It_replace_28 ?_
        refine lv_istore_n (lv' := [(3, .int (f_items x1.toNatClampNeg)), (0, .ref a_this), (1, .int x1), (2, .int x2)]) hx hb d_It_replace_29 rfl hl (by decide) rfl (fun ls hl => ?_)
        refine lv_aload_n hx hb d_It_replace_30 rfl (lv_at hl 1 rfl) ?_
        refine va_get (D := D) (ci := 0) (v := .ref a_items) (C := R_It) (T := T_It) (N := 2) hx hb hts in_It hown hK hP 0 rfl rfl 0 (by decide) (hts _ mm_73) (fun _ h9 => h9) rfl d_It_replace_31 ?_
        refine lv_iload_n hx hb d_It_replace_34 rfl (lv_at hl 2 rfl) ?_
        refine lv_iload_n hx hb d_It_replace_35 rfl (lv_at hl 3 rfl) ?_
        have hi36 := hw.1
        have hw := hw.2
        refine va_iast hx hb hK hP hD hS 1 0 rfl rfl hi36 d_It_replace_36 (fun H locs hP hD hS => ?_)
        have hP : va_P D vwCl [(a_this, .inr (0, [.ref a_items, .int v_count])), (a_items, .inl (k_items, n_items, .inl (upd f_items x1.toNatClampNeg x2)))] H := hP
        have hD : va_D A [(a_this, .inr (0, [.ref a_items, .int v_count])), (a_items, .inl (k_items, n_items, .inl (upd f_items x1.toNatClampNeg x2)))] := hD
        refine lv_iload_n hx hb d_It_replace_37 rfl (lv_at hl 0 rfl) ?_
        have hP9 := hP.sub (ws' := [(a_this, .inr (0, [.ref a_items, .int v_count])), (a_items, .inl (k_items, n_items, .inl (upd f_items x1.toNatClampNeg x2)))]) [0, 1] rfl
        have hD9 := hD.sub (ws' := [(a_this, .inr (0, [.ref a_items, .int v_count])), (a_items, .inl (k_items, n_items, .inl (upd f_items x1.toNatClampNeg x2)))]) [0, 1] (by decide) rfl
        exact W.iret (v := (f_items x1.toNatClampNeg)) hx hb hr (fun t ht hW => ⟨⟨(f_items x1.toNatClampNeg), (upd f_items x1.toNatClampNeg x2), rfl, hw, by rw [ht]; exact hP9, va_K.moved hW.alike hK, hD9⟩, hS.F ht⟩) hS.2.2 d_It_replace_38
      · have hw := hw.2 c3
        refine lv_iconst (v := (-1)) hx hb d_It_replace_21 (by decide) ?_
        have hP9 := hP.sub (ws' := [(a_this, .inr (0, [.ref a_items, .int v_count])), (a_items, .inl (k_items, n_items, .inl f_items))]) [0, 1] rfl
        have hD9 := hD.sub (ws' := [(a_this, .inr (0, [.ref a_items, .int v_count])), (a_items, .inl (k_items, n_items, .inl f_items))]) [0, 1] (by decide) rfl
        exact W.iret (v := (-1)) hx hb hr (fun t ht hW => ⟨⟨(-1), f_items, rfl, hw, by rw [ht]; exact hP9, va_K.moved hW.alike hK, hD9⟩, hS.F ht⟩) hS.2.2 d_It_replace_22
-- LineCodes$Items.reverse()V
def w_It_reverse_2 (post : (Nat → Int32) → Prop) (n_items : Nat) (v_count : Int32) : Nat → (Nat → Int32) → Int32 → Prop
  | 0, _, _ => False
  | n + 1, f_items, y1 => ((v_count / 2) ≤ y1 → post f_items) ∧ (¬ (v_count / 2) ≤ y1 → w_It_at (fun r2 => w_It_replace (fun r3 s4 => w_It_replace (fun r5 s6 => w_It_reverse_2 post n_items v_count n s6 (y1 + 1)) n_items v_count s4 y1 r3) n_items v_count f_items ((v_count - 1) - y1) r2) n_items v_count f_items y1)
def w_It_reverse (post : (Nat → Int32) → Prop) (n_items : Nat) (v_count : Int32) (f_items : Nat → Int32) : Prop := ∃ n, w_It_reverse_2 post n_items v_count n f_items 0
abbrev rm_It_reverse : Room := { frames := 1, cells := 0, slots := 0, locals := 23 }
set_option maxHeartbeats 4000000 in
set_option maxRecDepth 100000 in
theorem lp_It_reverse_2 (l : Launch) (D : va_G) (Z : (Nat → Prop) → State → Heap → Prop) (hz : zk Z) (ad : Nat → Nat) (hk : zs Z ad) {p : Program} {e : Env} {s : State} {m : MethodId} {args : Array Value} {below : List Frame} {meth : Method} {c : Code} {A : Nat → Prop} (a_this : Nat) (a_items : Nat) (k_items : ClassId) (n_items : Nat) (v_count : Int32) {post : (Nat → Int32) → Prop} (hx : p.tables.exec = Jvm.exec) (hb : c.code = c_It_reverse) (hml : c.maxLocals = 2) (hr : meth.sig.returnType = (none)) (hts : ∀ w ∈ tb, w.before args s = true) (hown : s.vm.findClass R_It = some m.cls) (hlocks : meth.locks = false) (hK : va_K D vwCl [(k_items, .int)] s) (hZ : Z A s s.heap) (hA : ∀ q, s.heap.size ≤ q → A q) : ∀ (n : Nat) (f_items : Nat → Int32) (y1 : Int32), w_It_reverse_2 post n_items v_count n f_items y1 → ∀ (H : Heap) (locs : List Loc), va_P D vwCl [(a_this, .inr (0, [.ref a_items, .int v_count])), (a_items, .inl (k_items, n_items, .inl f_items))] H → va_D A [(a_this, .inr (0, [.ref a_items, .int v_count])), (a_items, .inl (k_items, n_items, .inl f_items))] → va_S A s.heap H locs → ∀ ls : Array Slot, lv_has ls 2 [(0, .ref a_this), (1, .int y1)] → W p l e (headSpec ws_It_reverse rm_It_reverse).room s m args below meth c H locs 0 0 (MQ below (va_Qv (fun u : (Nat → Int32) => post u) (fun u t => at_ D vwCl [(k_items, .int)] A [(a_this, .inr (0, [.ref a_items, .int v_count])), (a_items, .inl (k_items, n_items, .inl u))] t) A) args s 0 0 A) (F0 m 2 ls []) := by
  intro n
  induction n with
  | zero =>
    intro f_items y1 hw
    unfold w_It_reverse_2 at hw
    exact hw.elim
  | succ n ih =>
    intro f_items y1 hw H locs hP hD hS ls hl
    unfold w_It_reverse_2 at hw
    refine lv_iload_n hx hb d_It_reverse_2 rfl (lv_at hl 1 rfl) ?_
    refine lv_aload_n hx hb d_It_reverse_3 rfl (lv_at hl 0 rfl) ?_
    refine va_get (D := D) (ci := 0) (v := .int v_count) (C := R_It) (T := T_It) (N := 2) hx hb hts in_It hown hK hP 0 rfl rfl 1 (by decide) (hts _ mm_74) (fun _ h9 => h9) rfl d_It_reverse_4 ?_
    refine lv_iconst (v := 2) hx hb d_It_reverse_7 (by decide) ?_
    refine lv_idiv hx hb d_It_reverse_8 (by decide) ?_
    refine lv_icmp_ge (tgt := 41) hx hb d_It_reverse_9 (by decide) (fun c1 => ?_) (fun c1 => ?_)
    · have hw := hw.1 c1
      have hP9 := hP.sub (ws' := [(a_this, .inr (0, [.ref a_items, .int v_count])), (a_items, .inl (k_items, n_items, .inl f_items))]) [0, 1] rfl
      have hD9 := hD.sub (ws' := [(a_this, .inr (0, [.ref a_items, .int v_count])), (a_items, .inl (k_items, n_items, .inl f_items))]) [0, 1] (by decide) rfl
      exact W.vret hx hb hr (fun t ht hW => ⟨⟨f_items, rfl, hw, by rw [ht]; exact hP9, va_K.moved hW.alike hK, hD9⟩, hS.F ht⟩) hS.2.2 d_It_reverse_41
    · have hw := hw.2 c1
      refine lv_aload_n hx hb d_It_reverse_12 rfl (lv_at hl 0 rfl) ?_
      refine lv_iload_n hx hb d_It_reverse_13 rfl (lv_at hl 1 rfl) ?_
      refine lv_aload_n hx hb d_It_reverse_14 rfl (lv_at hl 0 rfl) ?_
      refine lv_aload_n hx hb d_It_reverse_15 rfl (lv_at hl 0 rfl) ?_
      refine va_get (D := D) (ci := 0) (v := .int v_count) (C := R_It) (T := T_It) (N := 2) hx hb hts in_It hown hK hP 0 rfl rfl 1 (by decide) (hts _ mm_74) (fun _ h9 => h9) rfl d_It_reverse_16 ?_
      refine lv_iconst (v := 1) hx hb d_It_reverse_19 (by decide) ?_
      refine lv_isub hx hb d_It_reverse_20 ?_
      refine lv_iload_n hx hb d_It_reverse_21 rfl (lv_at hl 1 rfl) ?_
      refine lv_isub hx hb d_It_reverse_22 ?_
      refine lv_aload_n hx hb d_It_reverse_23 rfl (lv_at hl 0 rfl) ?_
      refine lv_iload_n hx hb d_It_reverse_24 rfl (lv_at hl 1 rfl) ?_
      refine k_roVi (As := [.int y1]) (rest := [.int ((v_count - 1) - y1), .ref a_this, .int y1, .ref a_this]) hz [0, 1] [0] 0 0 ⟨hx, hb, hml, hown, hts⟩ (met_It_at l D Z hz ad hk a_this a_items k_items n_items v_count f_items y1 hw) (cwV 1 hts (g_V mm_246 mm_167 mm_168 mm_42 mm_169) rfl rfl rfl hd_It_at ⟨Nat.le_of_ble_eq_true rfl, Nat.le_of_ble_eq_true rfl⟩) hP hK hZ hS rfl rfl rfl rfl rfl hl.1 rfl (Nat.le_of_ble_eq_true rfl) d_It_reverse_25 ⟨Nat.le_of_ble_eq_true rfl, Nat.le_of_ble_eq_true rfl⟩ (fun r2 hw => ?_)
      refine k_rwVi (As := [.int ((v_count - 1) - y1), .int r2]) (rest := [.int y1, .ref a_this]) (wr := []) hz [0, 1] [] [0] 0 0 ⟨hx, hb, hml, hown, hts⟩ (met_It_replace l D Z hz ad hk a_this a_items k_items n_items v_count f_items ((v_count - 1) - y1) r2 _ hw) (cwV 2 hts (g_V mm_247 mm_248 mm_249 mm_42 mm_250) rfl rfl rfl hd_It_replace ⟨Nat.le_of_ble_eq_true rfl, Nat.le_of_ble_eq_true rfl⟩) hP hD hK hZ hS hA rfl rfl rfl rfl rfl (by decide) rfl rfl rfl rfl hl.1 rfl (Nat.le_of_ble_eq_true rfl) d_It_reverse_28 ⟨Nat.le_of_ble_eq_true rfl, Nat.le_of_ble_eq_true rfl⟩ (fun r3 s4 H locs hw hP hD hS => ?_)
      try dsimp only at hw
      have hP : va_P D vwCl [(a_this, .inr (0, [.ref a_items, .int v_count])), (a_items, .inl (k_items, n_items, .inl s4))] H := hP
      have hD : va_D A [(a_this, .inr (0, [.ref a_items, .int v_count])), (a_items, .inl (k_items, n_items, .inl s4))] := hD
      refine k_rwVi (As := [.int y1, .int r3]) (rest := []) (wr := []) hz [0, 1] [] [0] 0 0 ⟨hx, hb, hml, hown, hts⟩ (met_It_replace l D Z hz ad hk a_this a_items k_items n_items v_count s4 y1 r3 _ hw) (cwV 2 hts (g_V mm_247 mm_248 mm_249 mm_42 mm_250) rfl rfl rfl hd_It_replace ⟨Nat.le_of_ble_eq_true rfl, Nat.le_of_ble_eq_true rfl⟩) hP hD hK hZ hS hA rfl rfl rfl rfl rfl (by decide) rfl rfl rfl rfl hl.1 rfl (Nat.le_of_ble_eq_true rfl) d_It_reverse_31 ⟨Nat.le_of_ble_eq_true rfl, Nat.le_of_ble_eq_true rfl⟩ (fun r5 s6 H locs hw hP hD hS => ?_)
      try dsimp only at hw
      have hP : va_P D vwCl [(a_this, .inr (0, [.ref a_items, .int v_count])), (a_items, .inl (k_items, n_items, .inl s6))] H := hP
      have hD : va_D A [(a_this, .inr (0, [.ref a_items, .int v_count])), (a_items, .inl (k_items, n_items, .inl s6))] := hD
      refine lv_pop hx hb d_It_reverse_34 rfl ?_
      refine lv_iinc (v := (y1 + 1)) (lv' := [(1, .int (y1 + 1)), (0, .ref a_this)]) hx hb d_It_reverse_35 hl (k := 1) rfl rfl (by decide) rfl (fun ls hl => ?_)
      refine lv_goto (tgt := 2) hx hb d_It_reverse_38 (by decide) ?_
      exact ih s6 (y1 + 1) hw _ _ (hP.sub [0, 1] rfl) (hD.sub [0, 1] (by decide) rfl) hS ls (lv_sub hl [1, 0] rfl)
set_option maxHeartbeats 4000000 in
set_option maxRecDepth 100000 in
theorem met_It_reverse (l : Launch) (D : va_G) (Z : (Nat → Prop) → State → Heap → Prop) (hz : zk Z) (ad : Nat → Nat) (hk : zs Z ad) (a_this : Nat) (a_items : Nat) (k_items : ClassId) (n_items : Nat) (v_count : Int32) (f_items : Nat → Int32) (sz : Nat) {post : (Nat → Int32) → Prop} (hw : w_It_reverse post n_items v_count f_items) : Met l y_It_reverse ws_It_reverse rm_It_reverse (va_Pc [.ref a_this] (rw_ D vwCl [(k_items, .int)] [(a_this, .inr (0, [.ref a_items, .int v_count])), (a_items, .inl (k_items, n_items, .inl f_items))] (Z) sz)) (va_Qv (fun u : (Nat → Int32) => post u) (fun u t => at_ D vwCl [(k_items, .int)] (va_A [(a_this, .inr (0, [.ref a_items, .int v_count])), (a_items, .inl (k_items, n_items, .inl f_items))] sz) [(a_this, .inr (0, [.ref a_items, .int v_count])), (a_items, .inl (k_items, n_items, .inl u))] t) (va_A [(a_this, .inr (0, [.ref a_items, .int v_count])), (a_items, .inl (k_items, n_items, .inl f_items))] sz)) 0 0 (va_A [(a_this, .inr (0, [.ref a_items, .int v_count])), (a_items, .inl (k_items, n_items, .inl f_items))] sz) := by
  refine Met.ofW (cc := c_It_reverse) (maxL := 2) (ret := (none)) (by decide) rfl ?_
  intro p e s m args below meth c s₁ B hml hv
  obtain ⟨rfl, hsz, hP, hK, hD0, hZ⟩ := hv
  have hx := B.exec
  have hb := B.bytes
  have hr := B.returns
  have hts0 := atoms_spec (ws := ws_It_reverse) B.pre
  have hts := fun (w : Cond) (h : w ∈ tb) => hts0 w (List.mem_cons_of_mem _ h)
  have hown : s.vm.findClass R_It = some m.cls := findClass_of_methodNamed B.named
  have hlocks := B.notSynchronized
  subst hsz
  have hD := hD0.self (sz := s.heap.size)
  generalize hAe : va_A [(a_this, .inr (0, [.ref a_items, .int v_count])), (a_items, .inl (k_items, n_items, .inl f_items))] s.heap.size = A at hD hZ ⊢
  have hA : ∀ q : Nat, s.heap.size ≤ q → A q := fun q h => by rw [← hAe]; exact Or.inr h
  have hS : va_S A s.heap s.heap [] := va_S.rf
  have hl := lv_entry ([.ref a_this]) (n := 2) (Nat.le_of_ble_eq_true rfl)
  rw [lg_entry_eq]
  generalize (lg_sl ([.ref a_this]) ++ List.replicate (2 - (lg_sl ([.ref a_this])).length) Slot.unset).toArray = ls at hl ⊢
  have hl : lv_has ls 2 [(0, .ref a_this)] := hl
  unfold w_It_reverse at hw
  refine lv_iconst (v := 0) hx hb d_It_reverse_0 (by decide) ?_
  refine lv_istore_n (lv' := [(1, .int 0), (0, .ref a_this)]) hx hb d_It_reverse_1 rfl hl (by decide) rfl (fun ls hl => ?_)
  obtain ⟨n9, hw⟩ := hw
  exact lp_It_reverse_2 l D Z hz ad hk a_this a_items k_items n_items v_count hx hb hml hr hts hown hlocks hK hZ hA n9 f_items 0 hw _ _ (hP.sub [0, 1] rfl) (hD.sub [0, 1] (by decide) rfl) hS ls (lv_sub hl [1, 0] rfl)
end
section
theorem d_Se_isFirst_0 : decode c_Se_isFirst 0 = .ok (.iload_n 0, 1) := by decide +kernel
theorem d_Se_isFirst_1 : decode c_Se_isFirst 1 = .ok (.bipush 103, 2) := by decide +kernel
theorem d_Se_isFirst_3 : decode c_Se_isFirst 3 = .ok (.if_icmp .lt 13, 3) := by decide +kernel
theorem d_Se_isFirst_6 : decode c_Se_isFirst 6 = .ok (.iload_n 0, 1) := by decide +kernel
theorem d_Se_isFirst_7 : decode c_Se_isFirst 7 = .ok (.bipush 106, 2) := by decide +kernel
theorem d_Se_isFirst_9 : decode c_Se_isFirst 9 = .ok (.if_icmp .ge 7, 3) := by decide +kernel
theorem d_Se_isFirst_12 : decode c_Se_isFirst 12 = .ok (.iconst 1, 1) := by decide +kernel
theorem d_Se_isFirst_13 : decode c_Se_isFirst 13 = .ok (.goto 4, 3) := by decide +kernel
theorem d_Se_isFirst_16 : decode c_Se_isFirst 16 = .ok (.iconst 0, 1) := by decide +kernel
theorem d_Se_isFirst_17 : decode c_Se_isFirst 17 = .ok (.ireturn, 1) := by decide +kernel
theorem d_Se_firstOf_0 : decode c_Se_firstOf 0 = .ok (.bipush 103, 2) := by decide +kernel
theorem d_Se_firstOf_2 : decode c_Se_firstOf 2 = .ok (.iload_n 0, 1) := by decide +kernel
theorem d_Se_firstOf_3 : decode c_Se_firstOf 3 = .ok (.iadd, 1) := by decide +kernel
theorem d_Se_firstOf_4 : decode c_Se_firstOf 4 = .ok (.ireturn, 1) := by decide +kernel
theorem d_Se_switchTo_0 : decode c_Se_switchTo 0 = .ok (.bipush 101, 2) := by decide +kernel
theorem d_Se_switchTo_2 : decode c_Se_switchTo 2 = .ok (.iload_n 0, 1) := by decide +kernel
theorem d_Se_switchTo_3 : decode c_Se_switchTo 3 = .ok (.isub, 1) := by decide +kernel
theorem d_Se_switchTo_4 : decode c_Se_switchTo 4 = .ok (.ireturn, 1) := by decide +kernel
theorem d_Se_setAfter_0 : decode c_Se_setAfter 0 = .ok (.bipush 101, 2) := by decide +kernel
theorem d_Se_setAfter_2 : decode c_Se_setAfter 2 = .ok (.iload_n 1, 1) := by decide +kernel
theorem d_Se_setAfter_3 : decode c_Se_setAfter 3 = .ok (.isub, 1) := by decide +kernel
theorem d_Se_setAfter_4 : decode c_Se_setAfter 4 = .ok (.istore_n 2, 1) := by decide +kernel
theorem d_Se_setAfter_5 : decode c_Se_setAfter 5 = .ok (.iload_n 2, 1) := by decide +kernel
theorem d_Se_setAfter_6 : decode c_Se_setAfter 6 = .ok (.ifCond .lt 17, 3) := by decide +kernel
theorem d_Se_setAfter_9 : decode c_Se_setAfter 9 = .ok (.iload_n 2, 1) := by decide +kernel
theorem d_Se_setAfter_10 : decode c_Se_setAfter 10 = .ok (.iconst 3, 1) := by decide +kernel
theorem d_Se_setAfter_11 : decode c_Se_setAfter 11 = .ok (.if_icmp .ge 12, 3) := by decide +kernel
theorem d_Se_setAfter_14 : decode c_Se_setAfter 14 = .ok (.iload_n 2, 1) := by decide +kernel
theorem d_Se_setAfter_15 : decode c_Se_setAfter 15 = .ok (.iload_n 0, 1) := by decide +kernel
theorem d_Se_setAfter_16 : decode c_Se_setAfter 16 = .ok (.if_icmp .eq 7, 3) := by decide +kernel
theorem d_Se_setAfter_19 : decode c_Se_setAfter 19 = .ok (.iload_n 2, 1) := by decide +kernel
theorem d_Se_setAfter_20 : decode c_Se_setAfter 20 = .ok (.goto 4, 3) := by decide +kernel
theorem d_Se_setAfter_23 : decode c_Se_setAfter 23 = .ok (.iconst (-1), 1) := by decide +kernel
theorem d_Se_setAfter_24 : decode c_Se_setAfter 24 = .ok (.ireturn, 1) := by decide +kernel
theorem d_Se_otherOfAB_0 : decode c_Se_otherOfAB 0 = .ok (.iload_n 0, 1) := by decide +kernel
theorem d_Se_otherOfAB_1 : decode c_Se_otherOfAB 1 = .ok (.ifCond .ne 7, 3) := by decide +kernel
theorem d_Se_otherOfAB_4 : decode c_Se_otherOfAB 4 = .ok (.iconst 1, 1) := by decide +kernel
theorem d_Se_otherOfAB_5 : decode c_Se_otherOfAB 5 = .ok (.goto 4, 3) := by decide +kernel
theorem d_Se_otherOfAB_8 : decode c_Se_otherOfAB 8 = .ok (.iconst 0, 1) := by decide +kernel
theorem d_Se_otherOfAB_9 : decode c_Se_otherOfAB 9 = .ok (.ireturn, 1) := by decide +kernel
theorem d_Se_symbolOf_0 : decode c_Se_symbolOf 0 = .ok (.iload_n 1, 1) := by decide +kernel
theorem d_Se_symbolOf_1 : decode c_Se_symbolOf 1 = .ok (.ifCond .lt 10, 3) := by decide +kernel
theorem d_Se_symbolOf_4 : decode c_Se_symbolOf 4 = .ok (.iload_n 1, 1) := by decide +kernel
theorem d_Se_symbolOf_5 : decode c_Se_symbolOf 5 = .ok (.sipush 128, 3) := by decide +kernel
theorem d_Se_symbolOf_8 : decode c_Se_symbolOf 8 = .ok (.if_icmp .lt 5, 3) := by decide +kernel
theorem d_Se_symbolOf_11 : decode c_Se_symbolOf 11 = .ok (.iconst (-1), 1) := by decide +kernel
theorem d_Se_symbolOf_12 : decode c_Se_symbolOf 12 = .ok (.ireturn, 1) := by decide +kernel
theorem d_Se_symbolOf_13 : decode c_Se_symbolOf 13 = .ok (.iload_n 1, 1) := by decide +kernel
theorem d_Se_symbolOf_14 : decode c_Se_symbolOf 14 = .ok (.bipush 32, 2) := by decide +kernel
theorem d_Se_symbolOf_16 : decode c_Se_symbolOf 16 = .ok (.if_icmp .lt 23, 3) := by decide +kernel
theorem d_Se_symbolOf_19 : decode c_Se_symbolOf 19 = .ok (.iload_n 0, 1) := by decide +kernel
theorem d_Se_symbolOf_20 : decode c_Se_symbolOf 20 = .ok (.iconst 1, 1) := by decide +kernel
theorem d_Se_symbolOf_21 : decode c_Se_symbolOf 21 = .ok (.if_icmp .eq 9, 3) := by decide +kernel
theorem d_Se_symbolOf_24 : decode c_Se_symbolOf 24 = .ok (.iload_n 1, 1) := by decide +kernel
theorem d_Se_symbolOf_25 : decode c_Se_symbolOf 25 = .ok (.bipush 95, 2) := by decide +kernel
theorem d_Se_symbolOf_27 : decode c_Se_symbolOf 27 = .ok (.if_icmp .gt 10, 3) := by decide +kernel
theorem d_Se_symbolOf_30 : decode c_Se_symbolOf 30 = .ok (.iload_n 1, 1) := by decide +kernel
theorem d_Se_symbolOf_31 : decode c_Se_symbolOf 31 = .ok (.bipush 32, 2) := by decide +kernel
theorem d_Se_symbolOf_33 : decode c_Se_symbolOf 33 = .ok (.isub, 1) := by decide +kernel
theorem d_Se_symbolOf_34 : decode c_Se_symbolOf 34 = .ok (.goto 4, 3) := by decide +kernel
theorem d_Se_symbolOf_37 : decode c_Se_symbolOf 37 = .ok (.iconst (-1), 1) := by decide +kernel
theorem d_Se_symbolOf_38 : decode c_Se_symbolOf 38 = .ok (.ireturn, 1) := by decide +kernel
theorem d_Se_symbolOf_39 : decode c_Se_symbolOf 39 = .ok (.iload_n 0, 1) := by decide +kernel
theorem d_Se_symbolOf_40 : decode c_Se_symbolOf 40 = .ok (.ifCond .ne 10, 3) := by decide +kernel
theorem d_Se_symbolOf_43 : decode c_Se_symbolOf 43 = .ok (.iload_n 1, 1) := by decide +kernel
theorem d_Se_symbolOf_44 : decode c_Se_symbolOf 44 = .ok (.bipush 64, 2) := by decide +kernel
theorem d_Se_symbolOf_46 : decode c_Se_symbolOf 46 = .ok (.iadd, 1) := by decide +kernel
theorem d_Se_symbolOf_47 : decode c_Se_symbolOf 47 = .ok (.goto 4, 3) := by decide +kernel
theorem d_Se_symbolOf_50 : decode c_Se_symbolOf 50 = .ok (.iconst (-1), 1) := by decide +kernel
theorem d_Se_symbolOf_51 : decode c_Se_symbolOf 51 = .ok (.ireturn, 1) := by decide +kernel
theorem d_Se_signOf_0 : decode c_Se_signOf 0 = .ok (.iload_n 0, 1) := by decide +kernel
theorem d_Se_signOf_1 : decode c_Se_signOf 1 = .ok (.ifCond .ne 16, 3) := by decide +kernel
theorem d_Se_signOf_4 : decode c_Se_signOf 4 = .ok (.iload_n 1, 1) := by decide +kernel
theorem d_Se_signOf_5 : decode c_Se_signOf 5 = .ok (.bipush 63, 2) := by decide +kernel
theorem d_Se_signOf_7 : decode c_Se_signOf 7 = .ok (.if_icmp .le 10, 3) := by decide +kernel
theorem d_Se_signOf_10 : decode c_Se_signOf 10 = .ok (.iload_n 1, 1) := by decide +kernel
theorem d_Se_signOf_11 : decode c_Se_signOf 11 = .ok (.bipush 64, 2) := by decide +kernel
theorem d_Se_signOf_13 : decode c_Se_signOf 13 = .ok (.isub, 1) := by decide +kernel
theorem d_Se_signOf_14 : decode c_Se_signOf 14 = .ok (.goto 7, 3) := by decide +kernel
theorem d_Se_signOf_17 : decode c_Se_signOf 17 = .ok (.iload_n 1, 1) := by decide +kernel
theorem d_Se_signOf_18 : decode c_Se_signOf 18 = .ok (.bipush 32, 2) := by decide +kernel
theorem d_Se_signOf_20 : decode c_Se_signOf 20 = .ok (.iadd, 1) := by decide +kernel
theorem d_Se_signOf_21 : decode c_Se_signOf 21 = .ok (.ireturn, 1) := by decide +kernel
theorem d_Se_pairOf_0 : decode c_Se_pairOf 0 = .ok (.iload_n 0, 1) := by decide +kernel
theorem d_Se_pairOf_1 : decode c_Se_pairOf 1 = .ok (.invokestatic 11, 3) := by decide +kernel
theorem d_Se_pairOf_4 : decode c_Se_pairOf 4 = .ok (.ifCond .eq 25, 3) := by decide +kernel
theorem d_Se_pairOf_7 : decode c_Se_pairOf 7 = .ok (.iload_n 1, 1) := by decide +kernel
theorem d_Se_pairOf_8 : decode c_Se_pairOf 8 = .ok (.invokestatic 11, 3) := by decide +kernel
theorem d_Se_pairOf_11 : decode c_Se_pairOf 11 = .ok (.ifCond .eq 18, 3) := by decide +kernel
theorem d_Se_pairOf_14 : decode c_Se_pairOf 14 = .ok (.bipush 10, 2) := by decide +kernel
theorem d_Se_pairOf_16 : decode c_Se_pairOf 16 = .ok (.iload_n 0, 1) := by decide +kernel
theorem d_Se_pairOf_17 : decode c_Se_pairOf 17 = .ok (.bipush 48, 2) := by decide +kernel
theorem d_Se_pairOf_19 : decode c_Se_pairOf 19 = .ok (.isub, 1) := by decide +kernel
theorem d_Se_pairOf_20 : decode c_Se_pairOf 20 = .ok (.imul, 1) := by decide +kernel
theorem d_Se_pairOf_21 : decode c_Se_pairOf 21 = .ok (.iload_n 1, 1) := by decide +kernel
theorem d_Se_pairOf_22 : decode c_Se_pairOf 22 = .ok (.iadd, 1) := by decide +kernel
theorem d_Se_pairOf_23 : decode c_Se_pairOf 23 = .ok (.bipush 48, 2) := by decide +kernel
theorem d_Se_pairOf_25 : decode c_Se_pairOf 25 = .ok (.isub, 1) := by decide +kernel
theorem d_Se_pairOf_26 : decode c_Se_pairOf 26 = .ok (.goto 4, 3) := by decide +kernel
theorem d_Se_pairOf_29 : decode c_Se_pairOf 29 = .ok (.iconst (-1), 1) := by decide +kernel
theorem d_Se_pairOf_30 : decode c_Se_pairOf 30 = .ok (.ireturn, 1) := by decide +kernel
theorem d_Se_isFigure_0 : decode c_Se_isFigure 0 = .ok (.iload_n 0, 1) := by decide +kernel
theorem d_Se_isFigure_1 : decode c_Se_isFigure 1 = .ok (.bipush 48, 2) := by decide +kernel
theorem d_Se_isFigure_3 : decode c_Se_isFigure 3 = .ok (.if_icmp .lt 13, 3) := by decide +kernel
theorem d_Se_isFigure_6 : decode c_Se_isFigure 6 = .ok (.iload_n 0, 1) := by decide +kernel
theorem d_Se_isFigure_7 : decode c_Se_isFigure 7 = .ok (.bipush 57, 2) := by decide +kernel
theorem d_Se_isFigure_9 : decode c_Se_isFigure 9 = .ok (.if_icmp .gt 7, 3) := by decide +kernel
theorem d_Se_isFigure_12 : decode c_Se_isFigure 12 = .ok (.iconst 1, 1) := by decide +kernel
theorem d_Se_isFigure_13 : decode c_Se_isFigure 13 = .ok (.goto 4, 3) := by decide +kernel
theorem d_Se_isFigure_16 : decode c_Se_isFigure 16 = .ok (.iconst 0, 1) := by decide +kernel
theorem d_Se_isFigure_17 : decode c_Se_isFigure 17 = .ok (.ireturn, 1) := by decide +kernel
end
section
-- LineCodes$Sets.isFigure(I)Z
def w_Se_isFigure (post : Int32 → Prop) (x0 : Int32) : Prop := (x0 < 48 → post 0) ∧ (¬ x0 < 48 → (57 < x0 → post 0) ∧ (¬ 57 < x0 → post 1))
abbrev rm_Se_isFigure : Room := { frames := 0, cells := 0, slots := 0, locals := 0 }
set_option maxHeartbeats 4000000 in
set_option maxRecDepth 100000 in
theorem met_Se_isFigure (l : Launch) (D : va_G) (Z : (Nat → Prop) → State → Heap → Prop) (hz : zk Z) (ad : Nat → Nat) (hk : zs Z ad) (x0 : Int32) {post : Int32 → Prop} (hw : w_Se_isFigure post x0) : Met l y_Se_isFigure ws_Se_isFigure rm_Se_isFigure (va_Pc [.int x0] (ro_ D vwCl [] [] (Z))) (vp_Si post) 0 0 (fun _ => False) := by
  refine Met.ofW (cc := c_Se_isFigure) (maxL := 1) (ret := (some .boolean)) (by decide) rfl ?_
  intro p e s m args below meth c s₁ B hml hv
  obtain ⟨rfl, hP, hK, hZ⟩ := hv
  have hx := B.exec
  have hb := B.bytes
  have hr := B.returns
  have hts0 := atoms_spec (ws := ws_Se_isFigure) B.pre
  have hts := fun (w : Cond) (h : w ∈ tb) => hts0 w (List.mem_cons_of_mem _ h)
  have hown : s.vm.findClass R_Se = some m.cls := findClass_of_methodNamed B.named
  have hlocks := B.notSynchronized
  have hS : va_S (fun _ => False) s.heap s.heap [] := va_S.rf
  have hl := lv_entry ([.int x0]) (n := 1) (Nat.le_of_ble_eq_true rfl)
  rw [lg_entry_eq]
  generalize (lg_sl ([.int x0]) ++ List.replicate (1 - (lg_sl ([.int x0])).length) Slot.unset).toArray = ls at hl ⊢
  have hl : lv_has ls 1 [(0, .int x0)] := hl
  unfold w_Se_isFigure at hw
  refine lv_iload_n hx hb d_Se_isFigure_0 rfl (lv_at hl 0 rfl) ?_
  refine lv_bipush (v := 48) hx hb d_Se_isFigure_1 (by decide) ?_
  refine lv_icmp_lt (tgt := 16) hx hb d_Se_isFigure_3 (by decide) (fun c1 => ?_) (fun c1 => ?_)
  · have hw := hw.1 c1
    refine lv_iconst (v := 0) hx hb d_Se_isFigure_16 (by decide) ?_
    exact W.zret (v := 0) (ty := .boolean) hx hb hr rfl (fun t ht hW => ⟨0, rfl, hw, ht⟩) hS.2.2 d_Se_isFigure_17
  · have hw := hw.2 c1
    refine lv_iload_n hx hb d_Se_isFigure_6 rfl (lv_at hl 0 rfl) ?_
    refine lv_bipush (v := 57) hx hb d_Se_isFigure_7 (by decide) ?_
    refine lv_icmp_gt (tgt := 16) hx hb d_Se_isFigure_9 (by decide) (fun c2 => ?_) (fun c2 => ?_)
    · have hw := hw.1 c2
      refine lv_iconst (v := 0) hx hb d_Se_isFigure_16 (by decide) ?_
      exact W.zret (v := 0) (ty := .boolean) hx hb hr rfl (fun t ht hW => ⟨0, rfl, hw, ht⟩) hS.2.2 d_Se_isFigure_17
    · have hw := hw.2 c2
      refine lv_iconst (v := 1) hx hb d_Se_isFigure_12 (by decide) ?_
      refine lv_goto (tgt := 17) hx hb d_Se_isFigure_13 (by decide) ?_
      exact W.zret (v := 1) (ty := .boolean) hx hb hr rfl (fun t ht hW => ⟨1, rfl, hw, ht⟩) hS.2.2 d_Se_isFigure_17
-- LineCodes$Sets.pairOf(II)I
def w_Se_pairOf (post : Int32 → Prop) (x0 : Int32) (x1 : Int32) : Prop := w_Se_isFigure (fun r1 => (r1 = 0 → post (-1)) ∧ (¬ r1 = 0 → w_Se_isFigure (fun r3 => (r3 = 0 → post (-1)) ∧ (¬ r3 = 0 → post (((10 * (x0 - 48)) + x1) - 48))) x1)) x0
abbrev rm_Se_pairOf : Room := { frames := 1, cells := 0, slots := 0, locals := 20 }
set_option maxHeartbeats 4000000 in
set_option maxRecDepth 100000 in
theorem met_Se_pairOf (l : Launch) (D : va_G) (Z : (Nat → Prop) → State → Heap → Prop) (hz : zk Z) (ad : Nat → Nat) (hk : zs Z ad) (x0 : Int32) (x1 : Int32) {post : Int32 → Prop} (hw : w_Se_pairOf post x0 x1) : Met l y_Se_pairOf ws_Se_pairOf rm_Se_pairOf (va_Pc [.int x0, .int x1] (ro_ D vwCl [] [] (Z))) (vp_Si post) 0 0 (fun _ => False) := by
  refine Met.ofW (cc := c_Se_pairOf) (maxL := 2) (ret := (some .int)) (by decide) rfl ?_
  intro p e s m args below meth c s₁ B hml hv
  obtain ⟨rfl, hP, hK, hZ⟩ := hv
  have hx := B.exec
  have hb := B.bytes
  have hr := B.returns
  have hts0 := atoms_spec (ws := ws_Se_pairOf) B.pre
  have hts := fun (w : Cond) (h : w ∈ tb) => hts0 w (List.mem_cons_of_mem _ h)
  have hown : s.vm.findClass R_Se = some m.cls := findClass_of_methodNamed B.named
  have hlocks := B.notSynchronized
  have hS : va_S (fun _ => False) s.heap s.heap [] := va_S.rf
  have hl := lv_entry ([.int x0, .int x1]) (n := 2) (Nat.le_of_ble_eq_true rfl)
  rw [lg_entry_eq]
  generalize (lg_sl ([.int x0, .int x1]) ++ List.replicate (2 - (lg_sl ([.int x0, .int x1])).length) Slot.unset).toArray = ls at hl ⊢
  have hl : lv_has ls 2 [(0, .int x0), (1, .int x1)] := hl
  unfold w_Se_pairOf at hw
  refine lv_iload_n hx hb d_Se_pairOf_0 rfl (lv_at hl 0 rfl) ?_
  refine k_roSi (As := [.int x0]) (rest := []) hz [] [] ⟨hx, hb, hml, hown, hts⟩ (met_Se_isFigure l D Z hz ad hk x0 hw) (va_cwS 1 hts (g_S mm_177 mm_178 mm_51 mm_179) rfl rfl rfl hd_Se_isFigure.2 ⟨Nat.le_of_ble_eq_true rfl, Nat.le_of_ble_eq_true rfl⟩) hP hK hZ hS rfl rfl rfl hl.1 rfl (Nat.le_of_ble_eq_true rfl) d_Se_pairOf_1 ⟨Nat.le_of_ble_eq_true rfl, Nat.le_of_ble_eq_true rfl⟩ (fun r1 hw => ?_)
  refine lv_if_eq (tgt := 29) hx hb d_Se_pairOf_4 (by decide) (fun c2 => ?_) (fun c2 => ?_)
  · have hw := hw.1 c2
    refine lv_iconst (v := (-1)) hx hb d_Se_pairOf_29 (by decide) ?_
    exact W.iret (v := (-1)) hx hb hr (fun t ht hW => ⟨(-1), rfl, hw, ht⟩) hS.2.2 d_Se_pairOf_30
  · have hw := hw.2 c2
    refine lv_iload_n hx hb d_Se_pairOf_7 rfl (lv_at hl 1 rfl) ?_
    refine k_roSi (As := [.int x1]) (rest := []) hz [] [] ⟨hx, hb, hml, hown, hts⟩ (met_Se_isFigure l D Z hz ad hk x1 hw) (va_cwS 1 hts (g_S mm_177 mm_178 mm_51 mm_179) rfl rfl rfl hd_Se_isFigure.2 ⟨Nat.le_of_ble_eq_true rfl, Nat.le_of_ble_eq_true rfl⟩) hP hK hZ hS rfl rfl rfl hl.1 rfl (Nat.le_of_ble_eq_true rfl) d_Se_pairOf_8 ⟨Nat.le_of_ble_eq_true rfl, Nat.le_of_ble_eq_true rfl⟩ (fun r3 hw => ?_)
    refine lv_if_eq (tgt := 29) hx hb d_Se_pairOf_11 (by decide) (fun c4 => ?_) (fun c4 => ?_)
    · have hw := hw.1 c4
      refine lv_iconst (v := (-1)) hx hb d_Se_pairOf_29 (by decide) ?_
      exact W.iret (v := (-1)) hx hb hr (fun t ht hW => ⟨(-1), rfl, hw, ht⟩) hS.2.2 d_Se_pairOf_30
    · have hw := hw.2 c4
      refine lv_bipush (v := 10) hx hb d_Se_pairOf_14 (by decide) ?_
      refine lv_iload_n hx hb d_Se_pairOf_16 rfl (lv_at hl 0 rfl) ?_
      refine lv_bipush (v := 48) hx hb d_Se_pairOf_17 (by decide) ?_
      refine lv_isub hx hb d_Se_pairOf_19 ?_
      refine lv_imul hx hb d_Se_pairOf_20 ?_
      refine lv_iload_n hx hb d_Se_pairOf_21 rfl (lv_at hl 1 rfl) ?_
      refine lv_iadd hx hb d_Se_pairOf_22 ?_
      refine lv_bipush (v := 48) hx hb d_Se_pairOf_23 (by decide) ?_
      refine lv_isub hx hb d_Se_pairOf_25 ?_
      refine lv_goto (tgt := 30) hx hb d_Se_pairOf_26 (by decide) ?_
      exact W.iret (v := (((10 * (x0 - 48)) + x1) - 48)) hx hb hr (fun t ht hW => ⟨(((10 * (x0 - 48)) + x1) - 48), rfl, hw, ht⟩) hS.2.2 d_Se_pairOf_30
-- LineCodes$Sets.symbolOf(II)I
def w_Se_symbolOf (post : Int32 → Prop) (x0 : Int32) (x1 : Int32) : Prop := (x1 < 0 → post (-1)) ∧ (¬ x1 < 0 → (x1 < 128 → (x1 < 32 → (¬ x0 = 0 → post (-1)) ∧ (x0 = 0 → post (x1 + 64))) ∧ (¬ x1 < 32 → (x0 = 1 → post (x1 - 32)) ∧ (¬ x0 = 1 → (95 < x1 → post (-1)) ∧ (¬ 95 < x1 → post (x1 - 32))))) ∧ (¬ x1 < 128 → post (-1)))
abbrev rm_Se_symbolOf : Room := { frames := 0, cells := 0, slots := 0, locals := 0 }
set_option maxHeartbeats 4000000 in
set_option maxRecDepth 100000 in
theorem met_Se_symbolOf (l : Launch) (D : va_G) (Z : (Nat → Prop) → State → Heap → Prop) (hz : zk Z) (ad : Nat → Nat) (hk : zs Z ad) (x0 : Int32) (x1 : Int32) {post : Int32 → Prop} (hw : w_Se_symbolOf post x0 x1) : Met l y_Se_symbolOf ws_Se_symbolOf rm_Se_symbolOf (va_Pc [.int x0, .int x1] (ro_ D vwCl [] [] (Z))) (vp_Si post) 0 0 (fun _ => False) := by
  refine Met.ofW (cc := c_Se_symbolOf) (maxL := 2) (ret := (some .int)) (by decide) rfl ?_
  intro p e s m args below meth c s₁ B hml hv
  obtain ⟨rfl, hP, hK, hZ⟩ := hv
  have hx := B.exec
  have hb := B.bytes
  have hr := B.returns
  have hts0 := atoms_spec (ws := ws_Se_symbolOf) B.pre
  have hts := fun (w : Cond) (h : w ∈ tb) => hts0 w (List.mem_cons_of_mem _ h)
  have hown : s.vm.findClass R_Se = some m.cls := findClass_of_methodNamed B.named
  have hlocks := B.notSynchronized
  have hS : va_S (fun _ => False) s.heap s.heap [] := va_S.rf
  have hl := lv_entry ([.int x0, .int x1]) (n := 2) (Nat.le_of_ble_eq_true rfl)
  rw [lg_entry_eq]
  generalize (lg_sl ([.int x0, .int x1]) ++ List.replicate (2 - (lg_sl ([.int x0, .int x1])).length) Slot.unset).toArray = ls at hl ⊢
  have hl : lv_has ls 2 [(0, .int x0), (1, .int x1)] := hl
  unfold w_Se_symbolOf at hw
  refine lv_iload_n hx hb d_Se_symbolOf_0 rfl (lv_at hl 1 rfl) ?_
  refine lv_if_lt (tgt := 11) hx hb d_Se_symbolOf_1 (by decide) (fun c1 => ?_) (fun c1 => ?_)
  · have hw := hw.1 c1
    refine lv_iconst (v := (-1)) hx hb d_Se_symbolOf_11 (by decide) ?_
    exact W.iret (v := (-1)) hx hb hr (fun t ht hW => ⟨(-1), rfl, hw, ht⟩) hS.2.2 d_Se_symbolOf_12
  · have hw := hw.2 c1
    refine lv_iload_n hx hb d_Se_symbolOf_4 rfl (lv_at hl 1 rfl) ?_
    refine lv_sipush (v := 128) hx hb d_Se_symbolOf_5 (by decide) ?_
    refine lv_icmp_lt (tgt := 13) hx hb d_Se_symbolOf_8 (by decide) (fun c2 => ?_) (fun c2 => ?_)
    · have hw := hw.1 c2
      refine lv_iload_n hx hb d_Se_symbolOf_13 rfl (lv_at hl 1 rfl) ?_
      refine lv_bipush (v := 32) hx hb d_Se_symbolOf_14 (by decide) ?_
      refine lv_icmp_lt (tgt := 39) hx hb d_Se_symbolOf_16 (by decide) (fun c3 => ?_) (fun c3 => ?_)
      · have hw := hw.1 c3
        refine lv_iload_n hx hb d_Se_symbolOf_39 rfl (lv_at hl 0 rfl) ?_
        refine lv_if_ne (tgt := 50) hx hb d_Se_symbolOf_40 (by decide) (fun c4 => ?_) (fun c4 => ?_)
        · have hw := hw.1 c4
          refine lv_iconst (v := (-1)) hx hb d_Se_symbolOf_50 (by decide) ?_
          exact W.iret (v := (-1)) hx hb hr (fun t ht hW => ⟨(-1), rfl, hw, ht⟩) hS.2.2 d_Se_symbolOf_51
        · have hw := hw.2 c4
          refine lv_iload_n hx hb d_Se_symbolOf_43 rfl (lv_at hl 1 rfl) ?_
          refine lv_bipush (v := 64) hx hb d_Se_symbolOf_44 (by decide) ?_
          refine lv_iadd hx hb d_Se_symbolOf_46 ?_
          refine lv_goto (tgt := 51) hx hb d_Se_symbolOf_47 (by decide) ?_
          exact W.iret (v := (x1 + 64)) hx hb hr (fun t ht hW => ⟨(x1 + 64), rfl, hw, ht⟩) hS.2.2 d_Se_symbolOf_51
      · have hw := hw.2 c3
        refine lv_iload_n hx hb d_Se_symbolOf_19 rfl (lv_at hl 0 rfl) ?_
        refine lv_iconst (v := 1) hx hb d_Se_symbolOf_20 (by decide) ?_
        refine lv_icmp_eq (tgt := 30) hx hb d_Se_symbolOf_21 (by decide) (fun c5 => ?_) (fun c5 => ?_)
        · have hw := hw.1 c5
          refine lv_iload_n hx hb d_Se_symbolOf_30 rfl (lv_at hl 1 rfl) ?_
          refine lv_bipush (v := 32) hx hb d_Se_symbolOf_31 (by decide) ?_
          refine lv_isub hx hb d_Se_symbolOf_33 ?_
          refine lv_goto (tgt := 38) hx hb d_Se_symbolOf_34 (by decide) ?_
          exact W.iret (v := (x1 - 32)) hx hb hr (fun t ht hW => ⟨(x1 - 32), rfl, hw, ht⟩) hS.2.2 d_Se_symbolOf_38
        · have hw := hw.2 c5
          refine lv_iload_n hx hb d_Se_symbolOf_24 rfl (lv_at hl 1 rfl) ?_
          refine lv_bipush (v := 95) hx hb d_Se_symbolOf_25 (by decide) ?_
          refine lv_icmp_gt (tgt := 37) hx hb d_Se_symbolOf_27 (by decide) (fun c6 => ?_) (fun c6 => ?_)
          · have hw := hw.1 c6
            refine lv_iconst (v := (-1)) hx hb d_Se_symbolOf_37 (by decide) ?_
            exact W.iret (v := (-1)) hx hb hr (fun t ht hW => ⟨(-1), rfl, hw, ht⟩) hS.2.2 d_Se_symbolOf_38
          · have hw := hw.2 c6
            refine lv_iload_n hx hb d_Se_symbolOf_30 rfl (lv_at hl 1 rfl) ?_
            refine lv_bipush (v := 32) hx hb d_Se_symbolOf_31 (by decide) ?_
            refine lv_isub hx hb d_Se_symbolOf_33 ?_
            refine lv_goto (tgt := 38) hx hb d_Se_symbolOf_34 (by decide) ?_
            exact W.iret (v := (x1 - 32)) hx hb hr (fun t ht hW => ⟨(x1 - 32), rfl, hw, ht⟩) hS.2.2 d_Se_symbolOf_38
    · have hw := hw.2 c2
      refine lv_iconst (v := (-1)) hx hb d_Se_symbolOf_11 (by decide) ?_
      exact W.iret (v := (-1)) hx hb hr (fun t ht hW => ⟨(-1), rfl, hw, ht⟩) hS.2.2 d_Se_symbolOf_12
-- LineCodes$Sets.firstOf(I)I
def w_Se_firstOf (post : Int32 → Prop) (x0 : Int32) : Prop := post (103 + x0)
abbrev rm_Se_firstOf : Room := { frames := 0, cells := 0, slots := 0, locals := 0 }
set_option maxHeartbeats 4000000 in
set_option maxRecDepth 100000 in
theorem met_Se_firstOf (l : Launch) (D : va_G) (Z : (Nat → Prop) → State → Heap → Prop) (hz : zk Z) (ad : Nat → Nat) (hk : zs Z ad) (x0 : Int32) {post : Int32 → Prop} (hw : w_Se_firstOf post x0) : Met l y_Se_firstOf ws_Se_firstOf rm_Se_firstOf (va_Pc [.int x0] (ro_ D vwCl [] [] (Z))) (vp_Si post) 0 0 (fun _ => False) := by
  refine Met.ofW (cc := c_Se_firstOf) (maxL := 1) (ret := (some .int)) (by decide) rfl ?_
  intro p e s m args below meth c s₁ B hml hv
  obtain ⟨rfl, hP, hK, hZ⟩ := hv
  have hx := B.exec
  have hb := B.bytes
  have hr := B.returns
  have hts0 := atoms_spec (ws := ws_Se_firstOf) B.pre
  have hts := fun (w : Cond) (h : w ∈ tb) => hts0 w (List.mem_cons_of_mem _ h)
  have hown : s.vm.findClass R_Se = some m.cls := findClass_of_methodNamed B.named
  have hlocks := B.notSynchronized
  have hS : va_S (fun _ => False) s.heap s.heap [] := va_S.rf
  have hl := lv_entry ([.int x0]) (n := 1) (Nat.le_of_ble_eq_true rfl)
  rw [lg_entry_eq]
  generalize (lg_sl ([.int x0]) ++ List.replicate (1 - (lg_sl ([.int x0])).length) Slot.unset).toArray = ls at hl ⊢
  have hl : lv_has ls 1 [(0, .int x0)] := hl
  unfold w_Se_firstOf at hw
  refine lv_bipush (v := 103) hx hb d_Se_firstOf_0 (by decide) ?_
  refine lv_iload_n hx hb d_Se_firstOf_2 rfl (lv_at hl 0 rfl) ?_
  refine lv_iadd hx hb d_Se_firstOf_3 ?_
  exact W.iret (v := (103 + x0)) hx hb hr (fun t ht hW => ⟨(103 + x0), rfl, hw, ht⟩) hS.2.2 d_Se_firstOf_4
-- LineCodes$Sets.otherOfAB(I)I
def w_Se_otherOfAB (post : Int32 → Prop) (x0 : Int32) : Prop := (¬ x0 = 0 → post 0) ∧ (x0 = 0 → post 1)
abbrev rm_Se_otherOfAB : Room := { frames := 0, cells := 0, slots := 0, locals := 0 }
set_option maxHeartbeats 4000000 in
set_option maxRecDepth 100000 in
theorem met_Se_otherOfAB (l : Launch) (D : va_G) (Z : (Nat → Prop) → State → Heap → Prop) (hz : zk Z) (ad : Nat → Nat) (hk : zs Z ad) (x0 : Int32) {post : Int32 → Prop} (hw : w_Se_otherOfAB post x0) : Met l y_Se_otherOfAB ws_Se_otherOfAB rm_Se_otherOfAB (va_Pc [.int x0] (ro_ D vwCl [] [] (Z))) (vp_Si post) 0 0 (fun _ => False) := by
  refine Met.ofW (cc := c_Se_otherOfAB) (maxL := 1) (ret := (some .int)) (by decide) rfl ?_
  intro p e s m args below meth c s₁ B hml hv
  obtain ⟨rfl, hP, hK, hZ⟩ := hv
  have hx := B.exec
  have hb := B.bytes
  have hr := B.returns
  have hts0 := atoms_spec (ws := ws_Se_otherOfAB) B.pre
  have hts := fun (w : Cond) (h : w ∈ tb) => hts0 w (List.mem_cons_of_mem _ h)
  have hown : s.vm.findClass R_Se = some m.cls := findClass_of_methodNamed B.named
  have hlocks := B.notSynchronized
  have hS : va_S (fun _ => False) s.heap s.heap [] := va_S.rf
  have hl := lv_entry ([.int x0]) (n := 1) (Nat.le_of_ble_eq_true rfl)
  rw [lg_entry_eq]
  generalize (lg_sl ([.int x0]) ++ List.replicate (1 - (lg_sl ([.int x0])).length) Slot.unset).toArray = ls at hl ⊢
  have hl : lv_has ls 1 [(0, .int x0)] := hl
  unfold w_Se_otherOfAB at hw
  refine lv_iload_n hx hb d_Se_otherOfAB_0 rfl (lv_at hl 0 rfl) ?_
  refine lv_if_ne (tgt := 8) hx hb d_Se_otherOfAB_1 (by decide) (fun c1 => ?_) (fun c1 => ?_)
  · have hw := hw.1 c1
    refine lv_iconst (v := 0) hx hb d_Se_otherOfAB_8 (by decide) ?_
    exact W.iret (v := 0) hx hb hr (fun t ht hW => ⟨0, rfl, hw, ht⟩) hS.2.2 d_Se_otherOfAB_9
  · have hw := hw.2 c1
    refine lv_iconst (v := 1) hx hb d_Se_otherOfAB_4 (by decide) ?_
    refine lv_goto (tgt := 9) hx hb d_Se_otherOfAB_5 (by decide) ?_
    exact W.iret (v := 1) hx hb hr (fun t ht hW => ⟨1, rfl, hw, ht⟩) hS.2.2 d_Se_otherOfAB_9
-- LineCodes$Sets.switchTo(I)I
def w_Se_switchTo (post : Int32 → Prop) (x0 : Int32) : Prop := post (101 - x0)
abbrev rm_Se_switchTo : Room := { frames := 0, cells := 0, slots := 0, locals := 0 }
set_option maxHeartbeats 4000000 in
set_option maxRecDepth 100000 in
theorem met_Se_switchTo (l : Launch) (D : va_G) (Z : (Nat → Prop) → State → Heap → Prop) (hz : zk Z) (ad : Nat → Nat) (hk : zs Z ad) (x0 : Int32) {post : Int32 → Prop} (hw : w_Se_switchTo post x0) : Met l y_Se_switchTo ws_Se_switchTo rm_Se_switchTo (va_Pc [.int x0] (ro_ D vwCl [] [] (Z))) (vp_Si post) 0 0 (fun _ => False) := by
  refine Met.ofW (cc := c_Se_switchTo) (maxL := 1) (ret := (some .int)) (by decide) rfl ?_
  intro p e s m args below meth c s₁ B hml hv
  obtain ⟨rfl, hP, hK, hZ⟩ := hv
  have hx := B.exec
  have hb := B.bytes
  have hr := B.returns
  have hts0 := atoms_spec (ws := ws_Se_switchTo) B.pre
  have hts := fun (w : Cond) (h : w ∈ tb) => hts0 w (List.mem_cons_of_mem _ h)
  have hown : s.vm.findClass R_Se = some m.cls := findClass_of_methodNamed B.named
  have hlocks := B.notSynchronized
  have hS : va_S (fun _ => False) s.heap s.heap [] := va_S.rf
  have hl := lv_entry ([.int x0]) (n := 1) (Nat.le_of_ble_eq_true rfl)
  rw [lg_entry_eq]
  generalize (lg_sl ([.int x0]) ++ List.replicate (1 - (lg_sl ([.int x0])).length) Slot.unset).toArray = ls at hl ⊢
  have hl : lv_has ls 1 [(0, .int x0)] := hl
  unfold w_Se_switchTo at hw
  refine lv_bipush (v := 101) hx hb d_Se_switchTo_0 (by decide) ?_
  refine lv_iload_n hx hb d_Se_switchTo_2 rfl (lv_at hl 0 rfl) ?_
  refine lv_isub hx hb d_Se_switchTo_3 ?_
  exact W.iret (v := (101 - x0)) hx hb hr (fun t ht hW => ⟨(101 - x0), rfl, hw, ht⟩) hS.2.2 d_Se_switchTo_4
-- LineCodes$Sets.isFirst(I)Z
def w_Se_isFirst (post : Int32 → Prop) (x0 : Int32) : Prop := (x0 < 103 → post 0) ∧ (¬ x0 < 103 → (106 ≤ x0 → post 0) ∧ (¬ 106 ≤ x0 → post 1))
abbrev rm_Se_isFirst : Room := { frames := 0, cells := 0, slots := 0, locals := 0 }
set_option maxHeartbeats 4000000 in
set_option maxRecDepth 100000 in
theorem met_Se_isFirst (l : Launch) (D : va_G) (Z : (Nat → Prop) → State → Heap → Prop) (hz : zk Z) (ad : Nat → Nat) (hk : zs Z ad) (x0 : Int32) {post : Int32 → Prop} (hw : w_Se_isFirst post x0) : Met l y_Se_isFirst ws_Se_isFirst rm_Se_isFirst (va_Pc [.int x0] (ro_ D vwCl [] [] (Z))) (vp_Si post) 0 0 (fun _ => False) := by
  refine Met.ofW (cc := c_Se_isFirst) (maxL := 1) (ret := (some .boolean)) (by decide) rfl ?_
  intro p e s m args below meth c s₁ B hml hv
  obtain ⟨rfl, hP, hK, hZ⟩ := hv
  have hx := B.exec
  have hb := B.bytes
  have hr := B.returns
  have hts0 := atoms_spec (ws := ws_Se_isFirst) B.pre
  have hts := fun (w : Cond) (h : w ∈ tb) => hts0 w (List.mem_cons_of_mem _ h)
  have hown : s.vm.findClass R_Se = some m.cls := findClass_of_methodNamed B.named
  have hlocks := B.notSynchronized
  have hS : va_S (fun _ => False) s.heap s.heap [] := va_S.rf
  have hl := lv_entry ([.int x0]) (n := 1) (Nat.le_of_ble_eq_true rfl)
  rw [lg_entry_eq]
  generalize (lg_sl ([.int x0]) ++ List.replicate (1 - (lg_sl ([.int x0])).length) Slot.unset).toArray = ls at hl ⊢
  have hl : lv_has ls 1 [(0, .int x0)] := hl
  unfold w_Se_isFirst at hw
  refine lv_iload_n hx hb d_Se_isFirst_0 rfl (lv_at hl 0 rfl) ?_
  refine lv_bipush (v := 103) hx hb d_Se_isFirst_1 (by decide) ?_
  refine lv_icmp_lt (tgt := 16) hx hb d_Se_isFirst_3 (by decide) (fun c1 => ?_) (fun c1 => ?_)
  · have hw := hw.1 c1
    refine lv_iconst (v := 0) hx hb d_Se_isFirst_16 (by decide) ?_
    exact W.zret (v := 0) (ty := .boolean) hx hb hr rfl (fun t ht hW => ⟨0, rfl, hw, ht⟩) hS.2.2 d_Se_isFirst_17
  · have hw := hw.2 c1
    refine lv_iload_n hx hb d_Se_isFirst_6 rfl (lv_at hl 0 rfl) ?_
    refine lv_bipush (v := 106) hx hb d_Se_isFirst_7 (by decide) ?_
    refine lv_icmp_ge (tgt := 16) hx hb d_Se_isFirst_9 (by decide) (fun c2 => ?_) (fun c2 => ?_)
    · have hw := hw.1 c2
      refine lv_iconst (v := 0) hx hb d_Se_isFirst_16 (by decide) ?_
      exact W.zret (v := 0) (ty := .boolean) hx hb hr rfl (fun t ht hW => ⟨0, rfl, hw, ht⟩) hS.2.2 d_Se_isFirst_17
    · have hw := hw.2 c2
      refine lv_iconst (v := 1) hx hb d_Se_isFirst_12 (by decide) ?_
      refine lv_goto (tgt := 17) hx hb d_Se_isFirst_13 (by decide) ?_
      exact W.zret (v := 1) (ty := .boolean) hx hb hr rfl (fun t ht hW => ⟨1, rfl, hw, ht⟩) hS.2.2 d_Se_isFirst_17
-- LineCodes$Sets.signOf(II)I
def w_Se_signOf (post : Int32 → Prop) (x0 : Int32) (x1 : Int32) : Prop := (¬ x0 = 0 → post (x1 + 32)) ∧ (x0 = 0 → (x1 ≤ 63 → post (x1 + 32)) ∧ (¬ x1 ≤ 63 → post (x1 - 64)))
abbrev rm_Se_signOf : Room := { frames := 0, cells := 0, slots := 0, locals := 0 }
set_option maxHeartbeats 4000000 in
set_option maxRecDepth 100000 in
theorem met_Se_signOf (l : Launch) (D : va_G) (Z : (Nat → Prop) → State → Heap → Prop) (hz : zk Z) (ad : Nat → Nat) (hk : zs Z ad) (x0 : Int32) (x1 : Int32) {post : Int32 → Prop} (hw : w_Se_signOf post x0 x1) : Met l y_Se_signOf ws_Se_signOf rm_Se_signOf (va_Pc [.int x0, .int x1] (ro_ D vwCl [] [] (Z))) (vp_Si post) 0 0 (fun _ => False) := by
  refine Met.ofW (cc := c_Se_signOf) (maxL := 2) (ret := (some .int)) (by decide) rfl ?_
  intro p e s m args below meth c s₁ B hml hv
  obtain ⟨rfl, hP, hK, hZ⟩ := hv
  have hx := B.exec
  have hb := B.bytes
  have hr := B.returns
  have hts0 := atoms_spec (ws := ws_Se_signOf) B.pre
  have hts := fun (w : Cond) (h : w ∈ tb) => hts0 w (List.mem_cons_of_mem _ h)
  have hown : s.vm.findClass R_Se = some m.cls := findClass_of_methodNamed B.named
  have hlocks := B.notSynchronized
  have hS : va_S (fun _ => False) s.heap s.heap [] := va_S.rf
  have hl := lv_entry ([.int x0, .int x1]) (n := 2) (Nat.le_of_ble_eq_true rfl)
  rw [lg_entry_eq]
  generalize (lg_sl ([.int x0, .int x1]) ++ List.replicate (2 - (lg_sl ([.int x0, .int x1])).length) Slot.unset).toArray = ls at hl ⊢
  have hl : lv_has ls 2 [(0, .int x0), (1, .int x1)] := hl
  unfold w_Se_signOf at hw
  refine lv_iload_n hx hb d_Se_signOf_0 rfl (lv_at hl 0 rfl) ?_
  refine lv_if_ne (tgt := 17) hx hb d_Se_signOf_1 (by decide) (fun c1 => ?_) (fun c1 => ?_)
  · have hw := hw.1 c1
    refine lv_iload_n hx hb d_Se_signOf_17 rfl (lv_at hl 1 rfl) ?_
    refine lv_bipush (v := 32) hx hb d_Se_signOf_18 (by decide) ?_
    refine lv_iadd hx hb d_Se_signOf_20 ?_
    exact W.iret (v := (x1 + 32)) hx hb hr (fun t ht hW => ⟨(x1 + 32), rfl, hw, ht⟩) hS.2.2 d_Se_signOf_21
  · have hw := hw.2 c1
    refine lv_iload_n hx hb d_Se_signOf_4 rfl (lv_at hl 1 rfl) ?_
    refine lv_bipush (v := 63) hx hb d_Se_signOf_5 (by decide) ?_
    refine lv_icmp_le (tgt := 17) hx hb d_Se_signOf_7 (by decide) (fun c2 => ?_) (fun c2 => ?_)
    · have hw := hw.1 c2
      refine lv_iload_n hx hb d_Se_signOf_17 rfl (lv_at hl 1 rfl) ?_
      refine lv_bipush (v := 32) hx hb d_Se_signOf_18 (by decide) ?_
      refine lv_iadd hx hb d_Se_signOf_20 ?_
      exact W.iret (v := (x1 + 32)) hx hb hr (fun t ht hW => ⟨(x1 + 32), rfl, hw, ht⟩) hS.2.2 d_Se_signOf_21
    · have hw := hw.2 c2
      refine lv_iload_n hx hb d_Se_signOf_10 rfl (lv_at hl 1 rfl) ?_
      refine lv_bipush (v := 64) hx hb d_Se_signOf_11 (by decide) ?_
      refine lv_isub hx hb d_Se_signOf_13 ?_
      refine lv_goto (tgt := 21) hx hb d_Se_signOf_14 (by decide) ?_
      exact W.iret (v := (x1 - 64)) hx hb hr (fun t ht hW => ⟨(x1 - 64), rfl, hw, ht⟩) hS.2.2 d_Se_signOf_21
-- LineCodes$Sets.setAfter(II)I
def w_Se_setAfter (post : Int32 → Prop) (x0 : Int32) (x1 : Int32) : Prop := ((101 - x1) < 0 → post (-1)) ∧ (¬ (101 - x1) < 0 → (3 ≤ (101 - x1) → post (-1)) ∧ (¬ 3 ≤ (101 - x1) → ((101 - x1) = x0 → post (-1)) ∧ (¬ (101 - x1) = x0 → post (101 - x1))))
abbrev rm_Se_setAfter : Room := { frames := 0, cells := 0, slots := 0, locals := 0 }
set_option maxHeartbeats 4000000 in
set_option maxRecDepth 100000 in
theorem met_Se_setAfter (l : Launch) (D : va_G) (Z : (Nat → Prop) → State → Heap → Prop) (hz : zk Z) (ad : Nat → Nat) (hk : zs Z ad) (x0 : Int32) (x1 : Int32) {post : Int32 → Prop} (hw : w_Se_setAfter post x0 x1) : Met l y_Se_setAfter ws_Se_setAfter rm_Se_setAfter (va_Pc [.int x0, .int x1] (ro_ D vwCl [] [] (Z))) (vp_Si post) 0 0 (fun _ => False) := by
  refine Met.ofW (cc := c_Se_setAfter) (maxL := 3) (ret := (some .int)) (by decide) rfl ?_
  intro p e s m args below meth c s₁ B hml hv
  obtain ⟨rfl, hP, hK, hZ⟩ := hv
  have hx := B.exec
  have hb := B.bytes
  have hr := B.returns
  have hts0 := atoms_spec (ws := ws_Se_setAfter) B.pre
  have hts := fun (w : Cond) (h : w ∈ tb) => hts0 w (List.mem_cons_of_mem _ h)
  have hown : s.vm.findClass R_Se = some m.cls := findClass_of_methodNamed B.named
  have hlocks := B.notSynchronized
  have hS : va_S (fun _ => False) s.heap s.heap [] := va_S.rf
  have hl := lv_entry ([.int x0, .int x1]) (n := 3) (Nat.le_of_ble_eq_true rfl)
  rw [lg_entry_eq]
  generalize (lg_sl ([.int x0, .int x1]) ++ List.replicate (3 - (lg_sl ([.int x0, .int x1])).length) Slot.unset).toArray = ls at hl ⊢
  have hl : lv_has ls 3 [(0, .int x0), (1, .int x1)] := hl
  unfold w_Se_setAfter at hw
  refine lv_bipush (v := 101) hx hb d_Se_setAfter_0 (by decide) ?_
  refine lv_iload_n hx hb d_Se_setAfter_2 rfl (lv_at hl 1 rfl) ?_
  refine lv_isub hx hb d_Se_setAfter_3 ?_
  refine lv_istore_n (lv' := [(2, .int (101 - x1)), (0, .int x0), (1, .int x1)]) hx hb d_Se_setAfter_4 rfl hl (by decide) rfl (fun ls hl => ?_)
  refine lv_iload_n hx hb d_Se_setAfter_5 rfl (lv_at hl 0 rfl) ?_
  refine lv_if_lt (tgt := 23) hx hb d_Se_setAfter_6 (by decide) (fun c1 => ?_) (fun c1 => ?_)
  · have hw := hw.1 c1
    refine lv_iconst (v := (-1)) hx hb d_Se_setAfter_23 (by decide) ?_
    exact W.iret (v := (-1)) hx hb hr (fun t ht hW => ⟨(-1), rfl, hw, ht⟩) hS.2.2 d_Se_setAfter_24
  · have hw := hw.2 c1
    refine lv_iload_n hx hb d_Se_setAfter_9 rfl (lv_at hl 0 rfl) ?_
    refine lv_iconst (v := 3) hx hb d_Se_setAfter_10 (by decide) ?_
    refine lv_icmp_ge (tgt := 23) hx hb d_Se_setAfter_11 (by decide) (fun c2 => ?_) (fun c2 => ?_)
    · have hw := hw.1 c2
      refine lv_iconst (v := (-1)) hx hb d_Se_setAfter_23 (by decide) ?_
      exact W.iret (v := (-1)) hx hb hr (fun t ht hW => ⟨(-1), rfl, hw, ht⟩) hS.2.2 d_Se_setAfter_24
    · have hw := hw.2 c2
      refine lv_iload_n hx hb d_Se_setAfter_14 rfl (lv_at hl 0 rfl) ?_
      refine lv_iload_n hx hb d_Se_setAfter_15 rfl (lv_at hl 1 rfl) ?_
      refine lv_icmp_eq (tgt := 23) hx hb d_Se_setAfter_16 (by decide) (fun c3 => ?_) (fun c3 => ?_)
      · have hw := hw.1 c3
        refine lv_iconst (v := (-1)) hx hb d_Se_setAfter_23 (by decide) ?_
        exact W.iret (v := (-1)) hx hb hr (fun t ht hW => ⟨(-1), rfl, hw, ht⟩) hS.2.2 d_Se_setAfter_24
      · have hw := hw.2 c3
        refine lv_iload_n hx hb d_Se_setAfter_19 rfl (lv_at hl 0 rfl) ?_
        refine lv_goto (tgt := 24) hx hb d_Se_setAfter_20 (by decide) ?_
        exact W.iret (v := (101 - x1)) hx hb hr (fun t ht hW => ⟨(101 - x1), rfl, hw, ht⟩) hS.2.2 d_Se_setAfter_24
end
section
theorem d_Wi_ofSymbol_0 : decode c_Wi_ofSymbol 0 = .ok (.iload_n 0, 1) := by decide +kernel
theorem d_Wi_ofSymbol_1 : decode c_Wi_ofSymbol 1 = .ok (.bipush 106, 2) := by decide +kernel
theorem d_Wi_ofSymbol_3 : decode c_Wi_ofSymbol 3 = .ok (.if_icmp .ne 8, 3) := by decide +kernel
theorem d_Wi_ofSymbol_6 : decode c_Wi_ofSymbol 6 = .ok (.ldc 13, 2) := by decide +kernel
theorem d_Wi_ofSymbol_8 : decode c_Wi_ofSymbol 8 = .ok (.goto 10, 3) := by decide +kernel
theorem d_Wi_ofSymbol_11 : decode c_Wi_ofSymbol 11 = .ok (.getstatic 14, 3) := by decide +kernel
theorem d_Wi_ofSymbol_14 : decode c_Wi_ofSymbol 14 = .ok (.iload_n 0, 1) := by decide +kernel
theorem d_Wi_ofSymbol_15 : decode c_Wi_ofSymbol 15 = .ok (.invokestatic 18, 3) := by decide +kernel
theorem d_Wi_ofSymbol_18 : decode c_Wi_ofSymbol 18 = .ok (.ireturn, 1) := by decide +kernel
theorem d_Wi_ofFigure_0 : decode c_Wi_ofFigure 0 = .ok (.getstatic 22, 3) := by decide +kernel
theorem d_Wi_ofFigure_3 : decode c_Wi_ofFigure 3 = .ok (.iload_n 0, 1) := by decide +kernel
theorem d_Wi_ofFigure_4 : decode c_Wi_ofFigure 4 = .ok (.invokestatic 18, 3) := by decide +kernel
theorem d_Wi_ofFigure_7 : decode c_Wi_ofFigure 7 = .ok (.ireturn, 1) := by decide +kernel
theorem d_Wi_turnsOf_0 : decode c_Wi_turnsOf 0 = .ok (.getstatic 25, 3) := by decide +kernel
theorem d_Wi_turnsOf_3 : decode c_Wi_turnsOf 3 = .ok (.iload_n 0, 1) := by decide +kernel
theorem d_Wi_turnsOf_4 : decode c_Wi_turnsOf 4 = .ok (.invokestatic 18, 3) := by decide +kernel
theorem d_Wi_turnsOf_7 : decode c_Wi_turnsOf 7 = .ok (.ireturn, 1) := by decide +kernel
theorem d_Wi_symbolWith_0 : decode c_Wi_symbolWith 0 = .ok (.getstatic 14, 3) := by decide +kernel
theorem d_Wi_symbolWith_3 : decode c_Wi_symbolWith 3 = .ok (.iload_n 0, 1) := by decide +kernel
theorem d_Wi_symbolWith_4 : decode c_Wi_symbolWith 4 = .ok (.invokestatic 28, 3) := by decide +kernel
theorem d_Wi_symbolWith_7 : decode c_Wi_symbolWith 7 = .ok (.ireturn, 1) := by decide +kernel
theorem d_Wi_figureWith_0 : decode c_Wi_figureWith 0 = .ok (.getstatic 22, 3) := by decide +kernel
theorem d_Wi_figureWith_3 : decode c_Wi_figureWith 3 = .ok (.iload_n 0, 1) := by decide +kernel
theorem d_Wi_figureWith_4 : decode c_Wi_figureWith 4 = .ok (.invokestatic 28, 3) := by decide +kernel
theorem d_Wi_figureWith_7 : decode c_Wi_figureWith 7 = .ok (.ireturn, 1) := by decide +kernel
theorem d_Wi_firstFigureWith_0 : decode c_Wi_firstFigureWith 0 = .ok (.getstatic 25, 3) := by decide +kernel
theorem d_Wi_firstFigureWith_3 : decode c_Wi_firstFigureWith 3 = .ok (.iload_n 0, 1) := by decide +kernel
theorem d_Wi_firstFigureWith_4 : decode c_Wi_firstFigureWith 4 = .ok (.invokestatic 28, 3) := by decide +kernel
theorem d_Wi_firstFigureWith_7 : decode c_Wi_firstFigureWith 7 = .ok (.ireturn, 1) := by decide +kernel
theorem d_Wi_turned_0 : decode c_Wi_turned 0 = .ok (.iload_n 0, 1) := by decide +kernel
theorem d_Wi_turned_1 : decode c_Wi_turned 1 = .ok (.bipush 10, 2) := by decide +kernel
theorem d_Wi_turned_3 : decode c_Wi_turned 3 = .ok (.irem, 1) := by decide +kernel
theorem d_Wi_turned_4 : decode c_Wi_turned 4 = .ok (.sipush 1000, 3) := by decide +kernel
theorem d_Wi_turned_7 : decode c_Wi_turned 7 = .ok (.imul, 1) := by decide +kernel
theorem d_Wi_turned_8 : decode c_Wi_turned 8 = .ok (.iload_n 0, 1) := by decide +kernel
theorem d_Wi_turned_9 : decode c_Wi_turned 9 = .ok (.bipush 10, 2) := by decide +kernel
theorem d_Wi_turned_11 : decode c_Wi_turned 11 = .ok (.idiv, 1) := by decide +kernel
theorem d_Wi_turned_12 : decode c_Wi_turned 12 = .ok (.bipush 10, 2) := by decide +kernel
theorem d_Wi_turned_14 : decode c_Wi_turned 14 = .ok (.irem, 1) := by decide +kernel
theorem d_Wi_turned_15 : decode c_Wi_turned 15 = .ok (.bipush 100, 2) := by decide +kernel
theorem d_Wi_turned_17 : decode c_Wi_turned 17 = .ok (.imul, 1) := by decide +kernel
theorem d_Wi_turned_18 : decode c_Wi_turned 18 = .ok (.iadd, 1) := by decide +kernel
theorem d_Wi_turned_19 : decode c_Wi_turned 19 = .ok (.iload_n 0, 1) := by decide +kernel
theorem d_Wi_turned_20 : decode c_Wi_turned 20 = .ok (.bipush 100, 2) := by decide +kernel
theorem d_Wi_turned_22 : decode c_Wi_turned 22 = .ok (.idiv, 1) := by decide +kernel
theorem d_Wi_turned_23 : decode c_Wi_turned 23 = .ok (.bipush 10, 2) := by decide +kernel
theorem d_Wi_turned_25 : decode c_Wi_turned 25 = .ok (.irem, 1) := by decide +kernel
theorem d_Wi_turned_26 : decode c_Wi_turned 26 = .ok (.bipush 10, 2) := by decide +kernel
theorem d_Wi_turned_28 : decode c_Wi_turned 28 = .ok (.imul, 1) := by decide +kernel
theorem d_Wi_turned_29 : decode c_Wi_turned 29 = .ok (.iadd, 1) := by decide +kernel
theorem d_Wi_turned_30 : decode c_Wi_turned 30 = .ok (.iload_n 0, 1) := by decide +kernel
theorem d_Wi_turned_31 : decode c_Wi_turned 31 = .ok (.sipush 1000, 3) := by decide +kernel
theorem d_Wi_turned_34 : decode c_Wi_turned 34 = .ok (.idiv, 1) := by decide +kernel
theorem d_Wi_turned_35 : decode c_Wi_turned 35 = .ok (.bipush 10, 2) := by decide +kernel
theorem d_Wi_turned_37 : decode c_Wi_turned 37 = .ok (.irem, 1) := by decide +kernel
theorem d_Wi_turned_38 : decode c_Wi_turned 38 = .ok (.iadd, 1) := by decide +kernel
theorem d_Wi_turned_39 : decode c_Wi_turned 39 = .ok (.ireturn, 1) := by decide +kernel
theorem d_Wi_entry_0 : decode c_Wi_entry 0 = .ok (.iload_n 1, 1) := by decide +kernel
theorem d_Wi_entry_1 : decode c_Wi_entry 1 = .ok (.ifCond .lt 15, 3) := by decide +kernel
theorem d_Wi_entry_4 : decode c_Wi_entry 4 = .ok (.iload_n 1, 1) := by decide +kernel
theorem d_Wi_entry_5 : decode c_Wi_entry 5 = .ok (.aload_n 0, 1) := by decide +kernel
theorem d_Wi_entry_6 : decode c_Wi_entry 6 = .ok (.arraylength, 1) := by decide +kernel
theorem d_Wi_entry_7 : decode c_Wi_entry 7 = .ok (.if_icmp .ge 9, 3) := by decide +kernel
theorem d_Wi_entry_10 : decode c_Wi_entry 10 = .ok (.aload_n 0, 1) := by decide +kernel
theorem d_Wi_entry_11 : decode c_Wi_entry 11 = .ok (.iload_n 1, 1) := by decide +kernel
theorem d_Wi_entry_12 : decode c_Wi_entry 12 = .ok (.iaload, 1) := by decide +kernel
theorem d_Wi_entry_13 : decode c_Wi_entry 13 = .ok (.goto 4, 3) := by decide +kernel
theorem d_Wi_entry_16 : decode c_Wi_entry 16 = .ok (.iconst 0, 1) := by decide +kernel
theorem d_Wi_entry_17 : decode c_Wi_entry 17 = .ok (.ireturn, 1) := by decide +kernel
theorem d_Wi_placeOf_0 : decode c_Wi_placeOf 0 = .ok (.iconst 0, 1) := by decide +kernel
theorem d_Wi_placeOf_1 : decode c_Wi_placeOf 1 = .ok (.istore_n 2, 1) := by decide +kernel
theorem d_Wi_placeOf_2 : decode c_Wi_placeOf 2 = .ok (.iload_n 2, 1) := by decide +kernel
theorem d_Wi_placeOf_3 : decode c_Wi_placeOf 3 = .ok (.aload_n 0, 1) := by decide +kernel
theorem d_Wi_placeOf_4 : decode c_Wi_placeOf 4 = .ok (.arraylength, 1) := by decide +kernel
theorem d_Wi_placeOf_5 : decode c_Wi_placeOf 5 = .ok (.if_icmp .ge 18, 3) := by decide +kernel
theorem d_Wi_placeOf_8 : decode c_Wi_placeOf 8 = .ok (.aload_n 0, 1) := by decide +kernel
theorem d_Wi_placeOf_9 : decode c_Wi_placeOf 9 = .ok (.iload_n 2, 1) := by decide +kernel
theorem d_Wi_placeOf_10 : decode c_Wi_placeOf 10 = .ok (.iaload, 1) := by decide +kernel
theorem d_Wi_placeOf_11 : decode c_Wi_placeOf 11 = .ok (.iload_n 1, 1) := by decide +kernel
theorem d_Wi_placeOf_12 : decode c_Wi_placeOf 12 = .ok (.if_icmp .ne 5, 3) := by decide +kernel
theorem d_Wi_placeOf_15 : decode c_Wi_placeOf 15 = .ok (.iload_n 2, 1) := by decide +kernel
theorem d_Wi_placeOf_16 : decode c_Wi_placeOf 16 = .ok (.ireturn, 1) := by decide +kernel
theorem d_Wi_placeOf_17 : decode c_Wi_placeOf 17 = .ok (.iinc 2 1, 3) := by decide +kernel
theorem d_Wi_placeOf_20 : decode c_Wi_placeOf 20 = .ok (.goto (-18), 3) := by decide +kernel
theorem d_Wi_placeOf_23 : decode c_Wi_placeOf 23 = .ok (.iconst (-1), 1) := by decide +kernel
theorem d_Wi_placeOf_24 : decode c_Wi_placeOf 24 = .ok (.ireturn, 1) := by decide +kernel
end
section
-- LineCodes$Widths.entry([II)I
def w_Wi_entry (post : Int32 → Prop) (n_p0 : Nat) (t_p0 : Nat → Int32) (x1 : Int32) : Prop := (x1 < 0 → post 0) ∧ (¬ x1 < 0 → ((nI n_p0) ≤ x1 → post 0) ∧ (¬ (nI n_p0) ≤ x1 → vp_in x1 n_p0 ∧ post (t_p0 x1.toNatClampNeg)))
abbrev rm_Wi_entry : Room := { frames := 0, cells := 0, slots := 0, locals := 0 }
set_option maxHeartbeats 4000000 in
set_option maxRecDepth 100000 in
theorem met_Wi_entry (l : Launch) (D : va_G) (Z : (Nat → Prop) → State → Heap → Prop) (hz : zk Z) (ad : Nat → Nat) (hk : zs Z ad) (a_p0 : Nat) (n_p0 : Nat) (t_p0 : Nat → Int32) (x1 : Int32) {post : Int32 → Prop} (hw : w_Wi_entry post n_p0 t_p0 x1) : Met l y_Wi_entry ws_Wi_entry rm_Wi_entry (va_Pc [.ref a_p0, .int x1] (ro_ D vwCl [] [] (zt Z a_p0 n_p0 t_p0))) (vp_Si post) 0 0 (fun _ => False) := by
  refine Met.ofW (cc := c_Wi_entry) (maxL := 2) (ret := (some .int)) (by decide) rfl ?_
  intro p e s m args below meth c s₁ B hml hv
  obtain ⟨rfl, hP, hK, hZ⟩ := hv
  have hx := B.exec
  have hb := B.bytes
  have hr := B.returns
  have hts0 := atoms_spec (ws := ws_Wi_entry) B.pre
  have hts := fun (w : Cond) (h : w ∈ tb) => hts0 w (List.mem_cons_of_mem _ h)
  have hown : s.vm.findClass R_Wi = some m.cls := findClass_of_methodNamed B.named
  have hlocks := B.notSynchronized
  have hS : va_S (fun _ => False) s.heap s.heap [] := va_S.rf
  have hl := lv_entry ([.ref a_p0, .int x1]) (n := 2) (Nat.le_of_ble_eq_true rfl)
  rw [lg_entry_eq]
  generalize (lg_sl ([.ref a_p0, .int x1]) ++ List.replicate (2 - (lg_sl ([.ref a_p0, .int x1])).length) Slot.unset).toArray = ls at hl ⊢
  have hl : lv_has ls 2 [(0, .ref a_p0), (1, .int x1)] := hl
  unfold w_Wi_entry at hw
  refine lv_iload_n hx hb d_Wi_entry_0 rfl (lv_at hl 1 rfl) ?_
  refine lv_if_lt (tgt := 16) hx hb d_Wi_entry_1 (by decide) (fun c1 => ?_) (fun c1 => ?_)
  · have hw := hw.1 c1
    refine lv_iconst (v := 0) hx hb d_Wi_entry_16 (by decide) ?_
    exact W.iret (v := 0) hx hb hr (fun t ht hW => ⟨0, rfl, hw, ht⟩) hS.2.2 d_Wi_entry_17
  · have hw := hw.2 c1
    refine lv_iload_n hx hb d_Wi_entry_4 rfl (lv_at hl 1 rfl) ?_
    refine lv_aload_n hx hb d_Wi_entry_5 rfl (lv_at hl 0 rfl) ?_
    refine va_tlen (v := (nI n_p0)) hx hb hZ.2 hS rfl d_Wi_entry_6 ?_
    refine lv_icmp_ge (tgt := 16) hx hb d_Wi_entry_7 (by decide) (fun c2 => ?_) (fun c2 => ?_)
    · have hw := hw.1 c2
      refine lv_iconst (v := 0) hx hb d_Wi_entry_16 (by decide) ?_
      exact W.iret (v := 0) hx hb hr (fun t ht hW => ⟨0, rfl, hw, ht⟩) hS.2.2 d_Wi_entry_17
    · have hw := hw.2 c2
      refine lv_aload_n hx hb d_Wi_entry_10 rfl (lv_at hl 0 rfl) ?_
      refine lv_iload_n hx hb d_Wi_entry_11 rfl (lv_at hl 1 rfl) ?_
      have hi12 := hw.1
      have hw := hw.2
      refine va_ti (v := .int (t_p0 x1.toNatClampNeg)) hx hb hZ.2 hS hi12 rfl d_Wi_entry_12 ?_
      refine lv_goto (tgt := 17) hx hb d_Wi_entry_13 (by decide) ?_
      exact W.iret (v := (t_p0 x1.toNatClampNeg)) hx hb hr (fun t ht hW => ⟨(t_p0 x1.toNatClampNeg), rfl, hw, ht⟩) hS.2.2 d_Wi_entry_17
-- LineCodes$Widths.ofSymbol(I)I
def w_Wi_ofSymbol (post : Int32 → Prop) (x0 : Int32) : Prop := (¬ x0 = 106 → w_Wi_entry (fun r2 => post r2) 106 tabS x0) ∧ (x0 = 106 → post 2331112)
abbrev rm_Wi_ofSymbol : Room := { frames := 1, cells := 0, slots := 0, locals := 21 }
set_option maxHeartbeats 4000000 in
set_option maxRecDepth 100000 in
theorem met_Wi_ofSymbol (l : Launch) (D : va_G) (Z : (Nat → Prop) → State → Heap → Prop) (hz : zk Z) (ad : Nat → Nat) (hk : zs Z ad) (x0 : Int32) {post : Int32 → Prop} (hw : w_Wi_ofSymbol post x0) : Met l y_Wi_ofSymbol ws_Wi_ofSymbol rm_Wi_ofSymbol (va_Pc [.int x0] (ro_ D vwCl [] [] (Z))) (vp_Si post) 0 0 (fun _ => False) := by
  refine Met.ofW (cc := c_Wi_ofSymbol) (maxL := 1) (ret := (some .int)) (by decide) rfl ?_
  intro p e s m args below meth c s₁ B hml hv
  obtain ⟨rfl, hP, hK, hZ⟩ := hv
  have hx := B.exec
  have hb := B.bytes
  have hr := B.returns
  have hts0 := atoms_spec (ws := ws_Wi_ofSymbol) B.pre
  have hts := fun (w : Cond) (h : w ∈ tb) => hts0 w (List.mem_cons_of_mem _ h)
  have hown : s.vm.findClass R_Wi = some m.cls := findClass_of_methodNamed B.named
  have hlocks := B.notSynchronized
  have hS : va_S (fun _ => False) s.heap s.heap [] := va_S.rf
  have hl := lv_entry ([.int x0]) (n := 1) (Nat.le_of_ble_eq_true rfl)
  rw [lg_entry_eq]
  generalize (lg_sl ([.int x0]) ++ List.replicate (1 - (lg_sl ([.int x0])).length) Slot.unset).toArray = ls at hl ⊢
  have hl : lv_has ls 1 [(0, .int x0)] := hl
  unfold w_Wi_ofSymbol at hw
  refine lv_iload_n hx hb d_Wi_ofSymbol_0 rfl (lv_at hl 0 rfl) ?_
  refine lv_bipush (v := 106) hx hb d_Wi_ofSymbol_1 (by decide) ?_
  refine lv_icmp_ne (tgt := 11) hx hb d_Wi_ofSymbol_3 (by decide) (fun c1 => ?_) (fun c1 => ?_)
  · have hw := hw.1 c1
    refine va_gets hx hb (hk _ _ _ hZ).1 hS hown (hts _ mm_327) (fun _ h9 => h9) d_Wi_ofSymbol_11 ?_
    refine lv_iload_n hx hb d_Wi_ofSymbol_14 rfl (lv_at hl 0 rfl) ?_
    refine k_roSi (As := [.ref (ad 0), .int x0]) (rest := []) (zt_zk hz) [] [] ⟨hx, hb, hml, hown, hts⟩ (met_Wi_entry l D Z hz ad hk (ad 0) 106 tabS x0 hw) (va_cwS 2 hts (g_S mm_491 mm_492 mm_53 mm_493) rfl rfl rfl hd_Wi_entry.2 ⟨Nat.le_of_ble_eq_true rfl, Nat.le_of_ble_eq_true rfl⟩) hP hK ⟨hZ, (hk _ _ _ hZ).2.1⟩ hS rfl rfl rfl hl.1 rfl (Nat.le_of_ble_eq_true rfl) d_Wi_ofSymbol_15 ⟨Nat.le_of_ble_eq_true rfl, Nat.le_of_ble_eq_true rfl⟩ (fun r2 hw => ?_)
    exact W.iret (v := r2) hx hb hr (fun t ht hW => ⟨r2, rfl, hw, ht⟩) hS.2.2 d_Wi_ofSymbol_18
  · have hw := hw.2 c1
    refine lv_ldc (v := 2331112) hx hb hown (hts _ mm_490) d_Wi_ofSymbol_6 ?_
    refine lv_goto (tgt := 18) hx hb d_Wi_ofSymbol_8 (by decide) ?_
    exact W.iret (v := 2331112) hx hb hr (fun t ht hW => ⟨2331112, rfl, hw, ht⟩) hS.2.2 d_Wi_ofSymbol_18
-- LineCodes$Widths.turnsOf(I)I
def w_Wi_turnsOf (post : Int32 → Prop) (x0 : Int32) : Prop := w_Wi_entry (fun r1 => post r1) 10 tabT x0
abbrev rm_Wi_turnsOf : Room := { frames := 1, cells := 0, slots := 0, locals := 21 }
set_option maxHeartbeats 4000000 in
set_option maxRecDepth 100000 in
theorem met_Wi_turnsOf (l : Launch) (D : va_G) (Z : (Nat → Prop) → State → Heap → Prop) (hz : zk Z) (ad : Nat → Nat) (hk : zs Z ad) (x0 : Int32) {post : Int32 → Prop} (hw : w_Wi_turnsOf post x0) : Met l y_Wi_turnsOf ws_Wi_turnsOf rm_Wi_turnsOf (va_Pc [.int x0] (ro_ D vwCl [] [] (Z))) (vp_Si post) 0 0 (fun _ => False) := by
  refine Met.ofW (cc := c_Wi_turnsOf) (maxL := 1) (ret := (some .int)) (by decide) rfl ?_
  intro p e s m args below meth c s₁ B hml hv
  obtain ⟨rfl, hP, hK, hZ⟩ := hv
  have hx := B.exec
  have hb := B.bytes
  have hr := B.returns
  have hts0 := atoms_spec (ws := ws_Wi_turnsOf) B.pre
  have hts := fun (w : Cond) (h : w ∈ tb) => hts0 w (List.mem_cons_of_mem _ h)
  have hown : s.vm.findClass R_Wi = some m.cls := findClass_of_methodNamed B.named
  have hlocks := B.notSynchronized
  have hS : va_S (fun _ => False) s.heap s.heap [] := va_S.rf
  have hl := lv_entry ([.int x0]) (n := 1) (Nat.le_of_ble_eq_true rfl)
  rw [lg_entry_eq]
  generalize (lg_sl ([.int x0]) ++ List.replicate (1 - (lg_sl ([.int x0])).length) Slot.unset).toArray = ls at hl ⊢
  have hl : lv_has ls 1 [(0, .int x0)] := hl
  unfold w_Wi_turnsOf at hw
  refine va_gets hx hb (hk _ _ _ hZ).2.2.2.2.1 hS hown (hts _ mm_301) (fun _ h9 => h9) d_Wi_turnsOf_0 ?_
  refine lv_iload_n hx hb d_Wi_turnsOf_3 rfl (lv_at hl 0 rfl) ?_
  refine k_roSi (As := [.ref (ad 2), .int x0]) (rest := []) (zt_zk hz) [] [] ⟨hx, hb, hml, hown, hts⟩ (met_Wi_entry l D Z hz ad hk (ad 2) 10 tabT x0 hw) (va_cwS 2 hts (g_S mm_491 mm_492 mm_53 mm_493) rfl rfl rfl hd_Wi_entry.2 ⟨Nat.le_of_ble_eq_true rfl, Nat.le_of_ble_eq_true rfl⟩) hP hK ⟨hZ, (hk _ _ _ hZ).2.2.2.2.2⟩ hS rfl rfl rfl hl.1 rfl (Nat.le_of_ble_eq_true rfl) d_Wi_turnsOf_4 ⟨Nat.le_of_ble_eq_true rfl, Nat.le_of_ble_eq_true rfl⟩ (fun r1 hw => ?_)
  exact W.iret (v := r1) hx hb hr (fun t ht hW => ⟨r1, rfl, hw, ht⟩) hS.2.2 d_Wi_turnsOf_7
-- LineCodes$Widths.ofFigure(I)I
def w_Wi_ofFigure (post : Int32 → Prop) (x0 : Int32) : Prop := w_Wi_entry (fun r1 => post r1) 10 tabF x0
abbrev rm_Wi_ofFigure : Room := { frames := 1, cells := 0, slots := 0, locals := 21 }
set_option maxHeartbeats 4000000 in
set_option maxRecDepth 100000 in
theorem met_Wi_ofFigure (l : Launch) (D : va_G) (Z : (Nat → Prop) → State → Heap → Prop) (hz : zk Z) (ad : Nat → Nat) (hk : zs Z ad) (x0 : Int32) {post : Int32 → Prop} (hw : w_Wi_ofFigure post x0) : Met l y_Wi_ofFigure ws_Wi_ofFigure rm_Wi_ofFigure (va_Pc [.int x0] (ro_ D vwCl [] [] (Z))) (vp_Si post) 0 0 (fun _ => False) := by
  refine Met.ofW (cc := c_Wi_ofFigure) (maxL := 1) (ret := (some .int)) (by decide) rfl ?_
  intro p e s m args below meth c s₁ B hml hv
  obtain ⟨rfl, hP, hK, hZ⟩ := hv
  have hx := B.exec
  have hb := B.bytes
  have hr := B.returns
  have hts0 := atoms_spec (ws := ws_Wi_ofFigure) B.pre
  have hts := fun (w : Cond) (h : w ∈ tb) => hts0 w (List.mem_cons_of_mem _ h)
  have hown : s.vm.findClass R_Wi = some m.cls := findClass_of_methodNamed B.named
  have hlocks := B.notSynchronized
  have hS : va_S (fun _ => False) s.heap s.heap [] := va_S.rf
  have hl := lv_entry ([.int x0]) (n := 1) (Nat.le_of_ble_eq_true rfl)
  rw [lg_entry_eq]
  generalize (lg_sl ([.int x0]) ++ List.replicate (1 - (lg_sl ([.int x0])).length) Slot.unset).toArray = ls at hl ⊢
  have hl : lv_has ls 1 [(0, .int x0)] := hl
  unfold w_Wi_ofFigure at hw
  refine va_gets hx hb (hk _ _ _ hZ).2.2.1 hS hown (hts _ mm_290) (fun _ h9 => h9) d_Wi_ofFigure_0 ?_
  refine lv_iload_n hx hb d_Wi_ofFigure_3 rfl (lv_at hl 0 rfl) ?_
  refine k_roSi (As := [.ref (ad 1), .int x0]) (rest := []) (zt_zk hz) [] [] ⟨hx, hb, hml, hown, hts⟩ (met_Wi_entry l D Z hz ad hk (ad 1) 10 tabF x0 hw) (va_cwS 2 hts (g_S mm_491 mm_492 mm_53 mm_493) rfl rfl rfl hd_Wi_entry.2 ⟨Nat.le_of_ble_eq_true rfl, Nat.le_of_ble_eq_true rfl⟩) hP hK ⟨hZ, (hk _ _ _ hZ).2.2.2.1⟩ hS rfl rfl rfl hl.1 rfl (Nat.le_of_ble_eq_true rfl) d_Wi_ofFigure_4 ⟨Nat.le_of_ble_eq_true rfl, Nat.le_of_ble_eq_true rfl⟩ (fun r1 hw => ?_)
  exact W.iret (v := r1) hx hb hr (fun t ht hW => ⟨r1, rfl, hw, ht⟩) hS.2.2 d_Wi_ofFigure_7
-- LineCodes$Widths.turned(I)I
def w_Wi_turned (post : Int32 → Prop) (x0 : Int32) : Prop := post (((((x0 - x0 / 10 * 10) * 1000) + (((x0 / 10) - (x0 / 10) / 10 * 10) * 100)) + (((x0 / 100) - (x0 / 100) / 10 * 10) * 10)) + ((x0 / 1000) - (x0 / 1000) / 10 * 10))
abbrev rm_Wi_turned : Room := { frames := 0, cells := 0, slots := 0, locals := 0 }
set_option maxHeartbeats 4000000 in
set_option maxRecDepth 100000 in
theorem met_Wi_turned (l : Launch) (D : va_G) (Z : (Nat → Prop) → State → Heap → Prop) (hz : zk Z) (ad : Nat → Nat) (hk : zs Z ad) (x0 : Int32) {post : Int32 → Prop} (hw : w_Wi_turned post x0) : Met l y_Wi_turned ws_Wi_turned rm_Wi_turned (va_Pc [.int x0] (ro_ D vwCl [] [] (Z))) (vp_Si post) 0 0 (fun _ => False) := by
  refine Met.ofW (cc := c_Wi_turned) (maxL := 1) (ret := (some .int)) (by decide) rfl ?_
  intro p e s m args below meth c s₁ B hml hv
  obtain ⟨rfl, hP, hK, hZ⟩ := hv
  have hx := B.exec
  have hb := B.bytes
  have hr := B.returns
  have hts0 := atoms_spec (ws := ws_Wi_turned) B.pre
  have hts := fun (w : Cond) (h : w ∈ tb) => hts0 w (List.mem_cons_of_mem _ h)
  have hown : s.vm.findClass R_Wi = some m.cls := findClass_of_methodNamed B.named
  have hlocks := B.notSynchronized
  have hS : va_S (fun _ => False) s.heap s.heap [] := va_S.rf
  have hl := lv_entry ([.int x0]) (n := 1) (Nat.le_of_ble_eq_true rfl)
  rw [lg_entry_eq]
  generalize (lg_sl ([.int x0]) ++ List.replicate (1 - (lg_sl ([.int x0])).length) Slot.unset).toArray = ls at hl ⊢
  have hl : lv_has ls 1 [(0, .int x0)] := hl
  unfold w_Wi_turned at hw
  refine lv_iload_n hx hb d_Wi_turned_0 rfl (lv_at hl 0 rfl) ?_
  refine lv_bipush (v := 10) hx hb d_Wi_turned_1 (by decide) ?_
  refine lv_irem hx hb d_Wi_turned_3 (by decide) ?_
  refine lv_sipush (v := 1000) hx hb d_Wi_turned_4 (by decide) ?_
  refine lv_imul hx hb d_Wi_turned_7 ?_
  refine lv_iload_n hx hb d_Wi_turned_8 rfl (lv_at hl 0 rfl) ?_
  refine lv_bipush (v := 10) hx hb d_Wi_turned_9 (by decide) ?_
  refine lv_idiv hx hb d_Wi_turned_11 (by decide) ?_
  refine lv_bipush (v := 10) hx hb d_Wi_turned_12 (by decide) ?_
  refine lv_irem hx hb d_Wi_turned_14 (by decide) ?_
  refine lv_bipush (v := 100) hx hb d_Wi_turned_15 (by decide) ?_
  refine lv_imul hx hb d_Wi_turned_17 ?_
  refine lv_iadd hx hb d_Wi_turned_18 ?_
  refine lv_iload_n hx hb d_Wi_turned_19 rfl (lv_at hl 0 rfl) ?_
  refine lv_bipush (v := 100) hx hb d_Wi_turned_20 (by decide) ?_
  refine lv_idiv hx hb d_Wi_turned_22 (by decide) ?_
  refine lv_bipush (v := 10) hx hb d_Wi_turned_23 (by decide) ?_
  refine lv_irem hx hb d_Wi_turned_25 (by decide) ?_
  refine lv_bipush (v := 10) hx hb d_Wi_turned_26 (by decide) ?_
  refine lv_imul hx hb d_Wi_turned_28 ?_
  refine lv_iadd hx hb d_Wi_turned_29 ?_
  refine lv_iload_n hx hb d_Wi_turned_30 rfl (lv_at hl 0 rfl) ?_
  refine lv_sipush (v := 1000) hx hb d_Wi_turned_31 (by decide) ?_
  refine lv_idiv hx hb d_Wi_turned_34 (by decide) ?_
  refine lv_bipush (v := 10) hx hb d_Wi_turned_35 (by decide) ?_
  refine lv_irem hx hb d_Wi_turned_37 (by decide) ?_
  refine lv_iadd hx hb d_Wi_turned_38 ?_
  exact W.iret (v := (((((x0 - x0 / 10 * 10) * 1000) + (((x0 / 10) - (x0 / 10) / 10 * 10) * 100)) + (((x0 / 100) - (x0 / 100) / 10 * 10) * 10)) + ((x0 / 1000) - (x0 / 1000) / 10 * 10))) hx hb hr (fun t ht hW => ⟨(((((x0 - x0 / 10 * 10) * 1000) + (((x0 / 10) - (x0 / 10) / 10 * 10) * 100)) + (((x0 / 100) - (x0 / 100) / 10 * 10) * 10)) + ((x0 / 1000) - (x0 / 1000) / 10 * 10)), rfl, hw, ht⟩) hS.2.2 d_Wi_turned_39
-- LineCodes$Widths.placeOf([II)I
def w_Wi_placeOf_2 (post : Int32 → Prop) (n_p0 : Nat) (t_p0 : Nat → Int32) (x1 : Int32) : Nat → Int32 → Prop
  | 0, _ => False
  | n + 1, y2 => ((nI n_p0) ≤ y2 → post (-1)) ∧ (¬ (nI n_p0) ≤ y2 → vp_in y2 n_p0 ∧ (¬ (t_p0 y2.toNatClampNeg) = x1 → w_Wi_placeOf_2 post n_p0 t_p0 x1 n (y2 + 1)) ∧ ((t_p0 y2.toNatClampNeg) = x1 → post y2))
def w_Wi_placeOf (post : Int32 → Prop) (n_p0 : Nat) (t_p0 : Nat → Int32) (x1 : Int32) : Prop := ∃ n, w_Wi_placeOf_2 post n_p0 t_p0 x1 n 0
abbrev rm_Wi_placeOf : Room := { frames := 0, cells := 0, slots := 0, locals := 0 }
set_option maxHeartbeats 4000000 in
set_option maxRecDepth 100000 in
theorem lp_Wi_placeOf_2 (l : Launch) (D : va_G) (Z : (Nat → Prop) → State → Heap → Prop) (hz : zk Z) (ad : Nat → Nat) (hk : zs Z ad) {p : Program} {e : Env} {s : State} {m : MethodId} {args : Array Value} {below : List Frame} {meth : Method} {c : Code} (a_p0 : Nat) (n_p0 : Nat) (t_p0 : Nat → Int32) (x1 : Int32) {post : Int32 → Prop} (hx : p.tables.exec = Jvm.exec) (hb : c.code = c_Wi_placeOf) (hml : c.maxLocals = 3) (hr : meth.sig.returnType = (some .int)) (hts : ∀ w ∈ tb, w.before args s = true) (hown : s.vm.findClass R_Wi = some m.cls) (hlocks : meth.locks = false) (hK : va_K D vwCl [] s) (hZ : zt Z a_p0 n_p0 t_p0 (fun _ => False) s s.heap) (hP : va_P D vwCl [] s.heap) (hS : va_S (fun _ => False) s.heap s.heap []) : ∀ (n : Nat) (y2 : Int32), w_Wi_placeOf_2 post n_p0 t_p0 x1 n y2 → ∀ ls : Array Slot, lv_has ls 3 [(0, .ref a_p0), (1, .int x1), (2, .int y2)] → W p l e (headSpec ws_Wi_placeOf rm_Wi_placeOf).room s m args below meth c s.heap [] 0 0 (MQ below (vp_Si post) args s 0 0 (fun _ => False)) (F0 m 2 ls []) := by
  intro n
  induction n with
  | zero =>
    intro y2 hw
    unfold w_Wi_placeOf_2 at hw
    exact hw.elim
  | succ n ih =>
    intro y2 hw ls hl
    unfold w_Wi_placeOf_2 at hw
    refine lv_iload_n hx hb d_Wi_placeOf_2 rfl (lv_at hl 2 rfl) ?_
    refine lv_aload_n hx hb d_Wi_placeOf_3 rfl (lv_at hl 0 rfl) ?_
    refine va_tlen (v := (nI n_p0)) hx hb hZ.2 hS rfl d_Wi_placeOf_4 ?_
    refine lv_icmp_ge (tgt := 23) hx hb d_Wi_placeOf_5 (by decide) (fun c1 => ?_) (fun c1 => ?_)
    · have hw := hw.1 c1
      refine lv_iconst (v := (-1)) hx hb d_Wi_placeOf_23 (by decide) ?_
      exact W.iret (v := (-1)) hx hb hr (fun t ht hW => ⟨(-1), rfl, hw, ht⟩) hS.2.2 d_Wi_placeOf_24
    · have hw := hw.2 c1
      refine lv_aload_n hx hb d_Wi_placeOf_8 rfl (lv_at hl 0 rfl) ?_
      refine lv_iload_n hx hb d_Wi_placeOf_9 rfl (lv_at hl 2 rfl) ?_
      have hi10 := hw.1
      have hw := hw.2
      refine va_ti (v := .int (t_p0 y2.toNatClampNeg)) hx hb hZ.2 hS hi10 rfl d_Wi_placeOf_10 ?_
      refine lv_iload_n hx hb d_Wi_placeOf_11 rfl (lv_at hl 1 rfl) ?_
      refine lv_icmp_ne (tgt := 17) hx hb d_Wi_placeOf_12 (by decide) (fun c2 => ?_) (fun c2 => ?_)
      · have hw := hw.1 c2
        refine lv_iinc (v := (y2 + 1)) (lv' := [(2, .int (y2 + 1)), (0, .ref a_p0), (1, .int x1)]) hx hb d_Wi_placeOf_17 hl (k := 2) rfl rfl (by decide) rfl (fun ls hl => ?_)
        refine lv_goto (tgt := 2) hx hb d_Wi_placeOf_20 (by decide) ?_
        exact ih (y2 + 1) hw ls (lv_sub hl [1, 2, 0] rfl)
      · have hw := hw.2 c2
        refine lv_iload_n hx hb d_Wi_placeOf_15 rfl (lv_at hl 2 rfl) ?_
        exact W.iret (v := y2) hx hb hr (fun t ht hW => ⟨y2, rfl, hw, ht⟩) hS.2.2 d_Wi_placeOf_16
set_option maxHeartbeats 4000000 in
set_option maxRecDepth 100000 in
theorem met_Wi_placeOf (l : Launch) (D : va_G) (Z : (Nat → Prop) → State → Heap → Prop) (hz : zk Z) (ad : Nat → Nat) (hk : zs Z ad) (a_p0 : Nat) (n_p0 : Nat) (t_p0 : Nat → Int32) (x1 : Int32) {post : Int32 → Prop} (hw : w_Wi_placeOf post n_p0 t_p0 x1) : Met l y_Wi_placeOf ws_Wi_placeOf rm_Wi_placeOf (va_Pc [.ref a_p0, .int x1] (ro_ D vwCl [] [] (zt Z a_p0 n_p0 t_p0))) (vp_Si post) 0 0 (fun _ => False) := by
  refine Met.ofW (cc := c_Wi_placeOf) (maxL := 3) (ret := (some .int)) (by decide) rfl ?_
  intro p e s m args below meth c s₁ B hml hv
  obtain ⟨rfl, hP, hK, hZ⟩ := hv
  have hx := B.exec
  have hb := B.bytes
  have hr := B.returns
  have hts0 := atoms_spec (ws := ws_Wi_placeOf) B.pre
  have hts := fun (w : Cond) (h : w ∈ tb) => hts0 w (List.mem_cons_of_mem _ h)
  have hown : s.vm.findClass R_Wi = some m.cls := findClass_of_methodNamed B.named
  have hlocks := B.notSynchronized
  have hS : va_S (fun _ => False) s.heap s.heap [] := va_S.rf
  have hl := lv_entry ([.ref a_p0, .int x1]) (n := 3) (Nat.le_of_ble_eq_true rfl)
  rw [lg_entry_eq]
  generalize (lg_sl ([.ref a_p0, .int x1]) ++ List.replicate (3 - (lg_sl ([.ref a_p0, .int x1])).length) Slot.unset).toArray = ls at hl ⊢
  have hl : lv_has ls 3 [(0, .ref a_p0), (1, .int x1)] := hl
  unfold w_Wi_placeOf at hw
  refine lv_iconst (v := 0) hx hb d_Wi_placeOf_0 (by decide) ?_
  refine lv_istore_n (lv' := [(2, .int 0), (0, .ref a_p0), (1, .int x1)]) hx hb d_Wi_placeOf_1 rfl hl (by decide) rfl (fun ls hl => ?_)
  obtain ⟨n9, hw⟩ := hw
  exact lp_Wi_placeOf_2 l D Z hz ad hk a_p0 n_p0 t_p0 x1 hx hb hml hr hts hown hlocks hK hZ hP hS n9 0 hw ls (lv_sub hl [1, 2, 0] rfl)
-- LineCodes$Widths.figureWith(I)I
def w_Wi_figureWith (post : Int32 → Prop) (x0 : Int32) : Prop := w_Wi_placeOf (fun r1 => post r1) 10 tabF x0
abbrev rm_Wi_figureWith : Room := { frames := 1, cells := 0, slots := 0, locals := 22 }
set_option maxHeartbeats 4000000 in
set_option maxRecDepth 100000 in
theorem met_Wi_figureWith (l : Launch) (D : va_G) (Z : (Nat → Prop) → State → Heap → Prop) (hz : zk Z) (ad : Nat → Nat) (hk : zs Z ad) (x0 : Int32) {post : Int32 → Prop} (hw : w_Wi_figureWith post x0) : Met l y_Wi_figureWith ws_Wi_figureWith rm_Wi_figureWith (va_Pc [.int x0] (ro_ D vwCl [] [] (Z))) (vp_Si post) 0 0 (fun _ => False) := by
  refine Met.ofW (cc := c_Wi_figureWith) (maxL := 1) (ret := (some .int)) (by decide) rfl ?_
  intro p e s m args below meth c s₁ B hml hv
  obtain ⟨rfl, hP, hK, hZ⟩ := hv
  have hx := B.exec
  have hb := B.bytes
  have hr := B.returns
  have hts0 := atoms_spec (ws := ws_Wi_figureWith) B.pre
  have hts := fun (w : Cond) (h : w ∈ tb) => hts0 w (List.mem_cons_of_mem _ h)
  have hown : s.vm.findClass R_Wi = some m.cls := findClass_of_methodNamed B.named
  have hlocks := B.notSynchronized
  have hS : va_S (fun _ => False) s.heap s.heap [] := va_S.rf
  have hl := lv_entry ([.int x0]) (n := 1) (Nat.le_of_ble_eq_true rfl)
  rw [lg_entry_eq]
  generalize (lg_sl ([.int x0]) ++ List.replicate (1 - (lg_sl ([.int x0])).length) Slot.unset).toArray = ls at hl ⊢
  have hl : lv_has ls 1 [(0, .int x0)] := hl
  unfold w_Wi_figureWith at hw
  refine va_gets hx hb (hk _ _ _ hZ).2.2.1 hS hown (hts _ mm_290) (fun _ h9 => h9) d_Wi_figureWith_0 ?_
  refine lv_iload_n hx hb d_Wi_figureWith_3 rfl (lv_at hl 0 rfl) ?_
  refine k_roSi (As := [.ref (ad 1), .int x0]) (rest := []) (zt_zk hz) [] [] ⟨hx, hb, hml, hown, hts⟩ (met_Wi_placeOf l D Z hz ad hk (ad 1) 10 tabF x0 hw) (va_cwS 2 hts (g_S mm_292 mm_293 mm_53 mm_294) rfl rfl rfl hd_Wi_placeOf.2 ⟨Nat.le_of_ble_eq_true rfl, Nat.le_of_ble_eq_true rfl⟩) hP hK ⟨hZ, (hk _ _ _ hZ).2.2.2.1⟩ hS rfl rfl rfl hl.1 rfl (Nat.le_of_ble_eq_true rfl) d_Wi_figureWith_4 ⟨Nat.le_of_ble_eq_true rfl, Nat.le_of_ble_eq_true rfl⟩ (fun r1 hw => ?_)
  exact W.iret (v := r1) hx hb hr (fun t ht hW => ⟨r1, rfl, hw, ht⟩) hS.2.2 d_Wi_figureWith_7
-- LineCodes$Widths.firstFigureWith(I)I
def w_Wi_firstFigureWith (post : Int32 → Prop) (x0 : Int32) : Prop := w_Wi_placeOf (fun r1 => post r1) 10 tabT x0
abbrev rm_Wi_firstFigureWith : Room := { frames := 1, cells := 0, slots := 0, locals := 22 }
set_option maxHeartbeats 4000000 in
set_option maxRecDepth 100000 in
theorem met_Wi_firstFigureWith (l : Launch) (D : va_G) (Z : (Nat → Prop) → State → Heap → Prop) (hz : zk Z) (ad : Nat → Nat) (hk : zs Z ad) (x0 : Int32) {post : Int32 → Prop} (hw : w_Wi_firstFigureWith post x0) : Met l y_Wi_firstFigureWith ws_Wi_firstFigureWith rm_Wi_firstFigureWith (va_Pc [.int x0] (ro_ D vwCl [] [] (Z))) (vp_Si post) 0 0 (fun _ => False) := by
  refine Met.ofW (cc := c_Wi_firstFigureWith) (maxL := 1) (ret := (some .int)) (by decide) rfl ?_
  intro p e s m args below meth c s₁ B hml hv
  obtain ⟨rfl, hP, hK, hZ⟩ := hv
  have hx := B.exec
  have hb := B.bytes
  have hr := B.returns
  have hts0 := atoms_spec (ws := ws_Wi_firstFigureWith) B.pre
  have hts := fun (w : Cond) (h : w ∈ tb) => hts0 w (List.mem_cons_of_mem _ h)
  have hown : s.vm.findClass R_Wi = some m.cls := findClass_of_methodNamed B.named
  have hlocks := B.notSynchronized
  have hS : va_S (fun _ => False) s.heap s.heap [] := va_S.rf
  have hl := lv_entry ([.int x0]) (n := 1) (Nat.le_of_ble_eq_true rfl)
  rw [lg_entry_eq]
  generalize (lg_sl ([.int x0]) ++ List.replicate (1 - (lg_sl ([.int x0])).length) Slot.unset).toArray = ls at hl ⊢
  have hl : lv_has ls 1 [(0, .int x0)] := hl
  unfold w_Wi_firstFigureWith at hw
  refine va_gets hx hb (hk _ _ _ hZ).2.2.2.2.1 hS hown (hts _ mm_301) (fun _ h9 => h9) d_Wi_firstFigureWith_0 ?_
  refine lv_iload_n hx hb d_Wi_firstFigureWith_3 rfl (lv_at hl 0 rfl) ?_
  refine k_roSi (As := [.ref (ad 2), .int x0]) (rest := []) (zt_zk hz) [] [] ⟨hx, hb, hml, hown, hts⟩ (met_Wi_placeOf l D Z hz ad hk (ad 2) 10 tabT x0 hw) (va_cwS 2 hts (g_S mm_292 mm_293 mm_53 mm_294) rfl rfl rfl hd_Wi_placeOf.2 ⟨Nat.le_of_ble_eq_true rfl, Nat.le_of_ble_eq_true rfl⟩) hP hK ⟨hZ, (hk _ _ _ hZ).2.2.2.2.2⟩ hS rfl rfl rfl hl.1 rfl (Nat.le_of_ble_eq_true rfl) d_Wi_firstFigureWith_4 ⟨Nat.le_of_ble_eq_true rfl, Nat.le_of_ble_eq_true rfl⟩ (fun r1 hw => ?_)
  exact W.iret (v := r1) hx hb hr (fun t ht hW => ⟨r1, rfl, hw, ht⟩) hS.2.2 d_Wi_firstFigureWith_7
-- LineCodes$Widths.symbolWith(I)I
def w_Wi_symbolWith (post : Int32 → Prop) (x0 : Int32) : Prop := w_Wi_placeOf (fun r1 => post r1) 106 tabS x0
abbrev rm_Wi_symbolWith : Room := { frames := 1, cells := 0, slots := 0, locals := 22 }
set_option maxHeartbeats 4000000 in
set_option maxRecDepth 100000 in
theorem met_Wi_symbolWith (l : Launch) (D : va_G) (Z : (Nat → Prop) → State → Heap → Prop) (hz : zk Z) (ad : Nat → Nat) (hk : zs Z ad) (x0 : Int32) {post : Int32 → Prop} (hw : w_Wi_symbolWith post x0) : Met l y_Wi_symbolWith ws_Wi_symbolWith rm_Wi_symbolWith (va_Pc [.int x0] (ro_ D vwCl [] [] (Z))) (vp_Si post) 0 0 (fun _ => False) := by
  refine Met.ofW (cc := c_Wi_symbolWith) (maxL := 1) (ret := (some .int)) (by decide) rfl ?_
  intro p e s m args below meth c s₁ B hml hv
  obtain ⟨rfl, hP, hK, hZ⟩ := hv
  have hx := B.exec
  have hb := B.bytes
  have hr := B.returns
  have hts0 := atoms_spec (ws := ws_Wi_symbolWith) B.pre
  have hts := fun (w : Cond) (h : w ∈ tb) => hts0 w (List.mem_cons_of_mem _ h)
  have hown : s.vm.findClass R_Wi = some m.cls := findClass_of_methodNamed B.named
  have hlocks := B.notSynchronized
  have hS : va_S (fun _ => False) s.heap s.heap [] := va_S.rf
  have hl := lv_entry ([.int x0]) (n := 1) (Nat.le_of_ble_eq_true rfl)
  rw [lg_entry_eq]
  generalize (lg_sl ([.int x0]) ++ List.replicate (1 - (lg_sl ([.int x0])).length) Slot.unset).toArray = ls at hl ⊢
  have hl : lv_has ls 1 [(0, .int x0)] := hl
  unfold w_Wi_symbolWith at hw
  refine va_gets hx hb (hk _ _ _ hZ).1 hS hown (hts _ mm_327) (fun _ h9 => h9) d_Wi_symbolWith_0 ?_
  refine lv_iload_n hx hb d_Wi_symbolWith_3 rfl (lv_at hl 0 rfl) ?_
  refine k_roSi (As := [.ref (ad 0), .int x0]) (rest := []) (zt_zk hz) [] [] ⟨hx, hb, hml, hown, hts⟩ (met_Wi_placeOf l D Z hz ad hk (ad 0) 106 tabS x0 hw) (va_cwS 2 hts (g_S mm_292 mm_293 mm_53 mm_294) rfl rfl rfl hd_Wi_placeOf.2 ⟨Nat.le_of_ble_eq_true rfl, Nat.le_of_ble_eq_true rfl⟩) hP hK ⟨hZ, (hk _ _ _ hZ).2.1⟩ hS rfl rfl rfl hl.1 rfl (Nat.le_of_ble_eq_true rfl) d_Wi_symbolWith_4 ⟨Nat.le_of_ble_eq_true rfl, Nat.le_of_ble_eq_true rfl⟩ (fun r1 hw => ?_)
  exact W.iret (v := r1) hx hb hr (fun t ht hW => ⟨r1, rfl, hw, ht⟩) hS.2.2 d_Wi_symbolWith_7
end
section
theorem d_Fi_figureOf_0 : decode c_Fi_figureOf 0 = .ok (.lload_n 0, 1) := by decide +kernel
theorem d_Fi_figureOf_1 : decode c_Fi_figureOf 1 = .ok (.lstore_n 3, 1) := by decide +kernel
theorem d_Fi_figureOf_2 : decode c_Fi_figureOf 2 = .ok (.bipush 11, 2) := by decide +kernel
theorem d_Fi_figureOf_4 : decode c_Fi_figureOf 4 = .ok (.istore 5, 2) := by decide +kernel
theorem d_Fi_figureOf_6 : decode c_Fi_figureOf 6 = .ok (.iload 5, 2) := by decide +kernel
theorem d_Fi_figureOf_8 : decode c_Fi_figureOf 8 = .ok (.iload_n 2, 1) := by decide +kernel
theorem d_Fi_figureOf_9 : decode c_Fi_figureOf 9 = .ok (.if_icmp .le 15, 3) := by decide +kernel
theorem d_Fi_figureOf_12 : decode c_Fi_figureOf 12 = .ok (.lload_n 3, 1) := by decide +kernel
theorem d_Fi_figureOf_13 : decode c_Fi_figureOf 13 = .ok (.ldc2_w 9, 3) := by decide +kernel
theorem d_Fi_figureOf_16 : decode c_Fi_figureOf 16 = .ok (.ldiv, 1) := by decide +kernel
theorem d_Fi_figureOf_17 : decode c_Fi_figureOf 17 = .ok (.lstore_n 3, 1) := by decide +kernel
theorem d_Fi_figureOf_18 : decode c_Fi_figureOf 18 = .ok (.iinc 5 (-1), 3) := by decide +kernel
theorem d_Fi_figureOf_21 : decode c_Fi_figureOf 21 = .ok (.goto (-15), 3) := by decide +kernel
theorem d_Fi_figureOf_24 : decode c_Fi_figureOf 24 = .ok (.lload_n 3, 1) := by decide +kernel
theorem d_Fi_figureOf_25 : decode c_Fi_figureOf 25 = .ok (.ldc2_w 9, 3) := by decide +kernel
theorem d_Fi_figureOf_28 : decode c_Fi_figureOf 28 = .ok (.lrem, 1) := by decide +kernel
theorem d_Fi_figureOf_29 : decode c_Fi_figureOf 29 = .ok (.l2i, 1) := by decide +kernel
theorem d_Fi_figureOf_30 : decode c_Fi_figureOf 30 = .ok (.ireturn, 1) := by decide +kernel
theorem d_Fi_weightOf_0 : decode c_Fi_weightOf 0 = .ok (.iload_n 0, 1) := by decide +kernel
theorem d_Fi_weightOf_1 : decode c_Fi_weightOf 1 = .ok (.iconst 2, 1) := by decide +kernel
theorem d_Fi_weightOf_2 : decode c_Fi_weightOf 2 = .ok (.irem, 1) := by decide +kernel
theorem d_Fi_weightOf_3 : decode c_Fi_weightOf 3 = .ok (.ifCond .ne 7, 3) := by decide +kernel
theorem d_Fi_weightOf_6 : decode c_Fi_weightOf 6 = .ok (.iconst 1, 1) := by decide +kernel
theorem d_Fi_weightOf_7 : decode c_Fi_weightOf 7 = .ok (.goto 4, 3) := by decide +kernel
theorem d_Fi_weightOf_10 : decode c_Fi_weightOf 10 = .ok (.iconst 3, 1) := by decide +kernel
theorem d_Fi_weightOf_11 : decode c_Fi_weightOf 11 = .ok (.ireturn, 1) := by decide +kernel
theorem d_Fi_checkOf_0 : decode c_Fi_checkOf 0 = .ok (.iconst 0, 1) := by decide +kernel
theorem d_Fi_checkOf_1 : decode c_Fi_checkOf 1 = .ok (.istore_n 2, 1) := by decide +kernel
theorem d_Fi_checkOf_2 : decode c_Fi_checkOf 2 = .ok (.iconst 0, 1) := by decide +kernel
theorem d_Fi_checkOf_3 : decode c_Fi_checkOf 3 = .ok (.istore_n 3, 1) := by decide +kernel
theorem d_Fi_checkOf_4 : decode c_Fi_checkOf 4 = .ok (.iload_n 3, 1) := by decide +kernel
theorem d_Fi_checkOf_5 : decode c_Fi_checkOf 5 = .ok (.bipush 12, 2) := by decide +kernel
theorem d_Fi_checkOf_7 : decode c_Fi_checkOf 7 = .ok (.if_icmp .ge 22, 3) := by decide +kernel
theorem d_Fi_checkOf_10 : decode c_Fi_checkOf 10 = .ok (.iload_n 2, 1) := by decide +kernel
theorem d_Fi_checkOf_11 : decode c_Fi_checkOf 11 = .ok (.iload_n 3, 1) := by decide +kernel
theorem d_Fi_checkOf_12 : decode c_Fi_checkOf 12 = .ok (.invokestatic 11, 3) := by decide +kernel
theorem d_Fi_checkOf_15 : decode c_Fi_checkOf 15 = .ok (.lload_n 0, 1) := by decide +kernel
theorem d_Fi_checkOf_16 : decode c_Fi_checkOf 16 = .ok (.iload_n 3, 1) := by decide +kernel
theorem d_Fi_checkOf_17 : decode c_Fi_checkOf 17 = .ok (.invokestatic 15, 3) := by decide +kernel
theorem d_Fi_checkOf_20 : decode c_Fi_checkOf 20 = .ok (.imul, 1) := by decide +kernel
theorem d_Fi_checkOf_21 : decode c_Fi_checkOf 21 = .ok (.iadd, 1) := by decide +kernel
theorem d_Fi_checkOf_22 : decode c_Fi_checkOf 22 = .ok (.istore_n 2, 1) := by decide +kernel
theorem d_Fi_checkOf_23 : decode c_Fi_checkOf 23 = .ok (.iinc 3 1, 3) := by decide +kernel
theorem d_Fi_checkOf_26 : decode c_Fi_checkOf 26 = .ok (.goto (-22), 3) := by decide +kernel
theorem d_Fi_checkOf_29 : decode c_Fi_checkOf 29 = .ok (.bipush 10, 2) := by decide +kernel
theorem d_Fi_checkOf_31 : decode c_Fi_checkOf 31 = .ok (.iload_n 2, 1) := by decide +kernel
theorem d_Fi_checkOf_32 : decode c_Fi_checkOf 32 = .ok (.bipush 10, 2) := by decide +kernel
theorem d_Fi_checkOf_34 : decode c_Fi_checkOf 34 = .ok (.irem, 1) := by decide +kernel
theorem d_Fi_checkOf_35 : decode c_Fi_checkOf 35 = .ok (.isub, 1) := by decide +kernel
theorem d_Fi_checkOf_36 : decode c_Fi_checkOf 36 = .ok (.bipush 10, 2) := by decide +kernel
theorem d_Fi_checkOf_38 : decode c_Fi_checkOf 38 = .ok (.irem, 1) := by decide +kernel
theorem d_Fi_checkOf_39 : decode c_Fi_checkOf 39 = .ok (.ireturn, 1) := by decide +kernel
end
section
-- LineCodes$Figures.weightOf(I)I
def w_Fi_weightOf (post : Int32 → Prop) (x0 : Int32) : Prop := (¬ (x0 - x0 / 2 * 2) = 0 → post 3) ∧ ((x0 - x0 / 2 * 2) = 0 → post 1)
abbrev rm_Fi_weightOf : Room := { frames := 0, cells := 0, slots := 0, locals := 0 }
set_option maxHeartbeats 4000000 in
set_option maxRecDepth 100000 in
theorem met_Fi_weightOf (l : Launch) (D : va_G) (Z : (Nat → Prop) → State → Heap → Prop) (hz : zk Z) (ad : Nat → Nat) (hk : zs Z ad) (x0 : Int32) {post : Int32 → Prop} (hw : w_Fi_weightOf post x0) : Met l y_Fi_weightOf ws_Fi_weightOf rm_Fi_weightOf (va_Pc [.int x0] (ro_ D vwCl [] [] (Z))) (vp_Si post) 0 0 (fun _ => False) := by
  refine Met.ofW (cc := c_Fi_weightOf) (maxL := 1) (ret := (some .int)) (by decide) rfl ?_
  intro p e s m args below meth c s₁ B hml hv
  obtain ⟨rfl, hP, hK, hZ⟩ := hv
  have hx := B.exec
  have hb := B.bytes
  have hr := B.returns
  have hts0 := atoms_spec (ws := ws_Fi_weightOf) B.pre
  have hts := fun (w : Cond) (h : w ∈ tb) => hts0 w (List.mem_cons_of_mem _ h)
  have hown : s.vm.findClass R_Fi = some m.cls := findClass_of_methodNamed B.named
  have hlocks := B.notSynchronized
  have hS : va_S (fun _ => False) s.heap s.heap [] := va_S.rf
  have hl := lv_entry ([.int x0]) (n := 1) (Nat.le_of_ble_eq_true rfl)
  rw [lg_entry_eq]
  generalize (lg_sl ([.int x0]) ++ List.replicate (1 - (lg_sl ([.int x0])).length) Slot.unset).toArray = ls at hl ⊢
  have hl : lv_has ls 1 [(0, .int x0)] := hl
  unfold w_Fi_weightOf at hw
  refine lv_iload_n hx hb d_Fi_weightOf_0 rfl (lv_at hl 0 rfl) ?_
  refine lv_iconst (v := 2) hx hb d_Fi_weightOf_1 (by decide) ?_
  refine lv_irem hx hb d_Fi_weightOf_2 (by decide) ?_
  refine lv_if_ne (tgt := 10) hx hb d_Fi_weightOf_3 (by decide) (fun c1 => ?_) (fun c1 => ?_)
  · have hw := hw.1 c1
    refine lv_iconst (v := 3) hx hb d_Fi_weightOf_10 (by decide) ?_
    exact W.iret (v := 3) hx hb hr (fun t ht hW => ⟨3, rfl, hw, ht⟩) hS.2.2 d_Fi_weightOf_11
  · have hw := hw.2 c1
    refine lv_iconst (v := 1) hx hb d_Fi_weightOf_6 (by decide) ?_
    refine lv_goto (tgt := 11) hx hb d_Fi_weightOf_7 (by decide) ?_
    exact W.iret (v := 1) hx hb hr (fun t ht hW => ⟨1, rfl, hw, ht⟩) hS.2.2 d_Fi_weightOf_11
-- LineCodes$Figures.figureOf(JI)I
def w_Fi_figureOf_6 (post : Int32 → Prop) (x2 : Int32) : Nat → Int64 → Int32 → Prop
  | 0, _, _ => False
  | n + 1, y3, y5 => (y5 ≤ x2 → post ((y3 - y3 / 10 * 10).toInt32)) ∧ (¬ y5 ≤ x2 → w_Fi_figureOf_6 post x2 n (y3 / 10) (y5 + (-1)))
def w_Fi_figureOf (post : Int32 → Prop) (x0 : Int64) (x2 : Int32) : Prop := ∃ n, w_Fi_figureOf_6 post x2 n x0 11
abbrev rm_Fi_figureOf : Room := { frames := 0, cells := 0, slots := 0, locals := 0 }
set_option maxHeartbeats 4000000 in
set_option maxRecDepth 100000 in
theorem lp_Fi_figureOf_6 (l : Launch) (D : va_G) (Z : (Nat → Prop) → State → Heap → Prop) (hz : zk Z) (ad : Nat → Nat) (hk : zs Z ad) {p : Program} {e : Env} {s : State} {m : MethodId} {args : Array Value} {below : List Frame} {meth : Method} {c : Code} (x2 : Int32) {post : Int32 → Prop} (hx : p.tables.exec = Jvm.exec) (hb : c.code = c_Fi_figureOf) (hml : c.maxLocals = 6) (hr : meth.sig.returnType = (some .int)) (hts : ∀ w ∈ tb, w.before args s = true) (hown : s.vm.findClass R_Fi = some m.cls) (hlocks : meth.locks = false) (hK : va_K D vwCl [] s) (hZ : Z (fun _ => False) s s.heap) (hP : va_P D vwCl [] s.heap) (hS : va_S (fun _ => False) s.heap s.heap []) : ∀ (n : Nat) (y3 : Int64) (y5 : Int32), w_Fi_figureOf_6 post x2 n y3 y5 → ∀ ls : Array Slot, lv_has ls 6 [(2, .int x2), (3, .long y3), (5, .int y5)] → W p l e (headSpec ws_Fi_figureOf rm_Fi_figureOf).room s m args below meth c s.heap [] 0 0 (MQ below (vp_Si post) args s 0 0 (fun _ => False)) (F0 m 6 ls []) := by
  intro n
  induction n with
  | zero =>
    intro y3 y5 hw
    unfold w_Fi_figureOf_6 at hw
    exact hw.elim
  | succ n ih =>
    intro y3 y5 hw ls hl
    unfold w_Fi_figureOf_6 at hw
    refine lv_iload hx hb d_Fi_figureOf_6 (lv_at hl 2 rfl) ?_
    refine lv_iload_n hx hb d_Fi_figureOf_8 rfl (lv_at hl 0 rfl) ?_
    refine lv_icmp_le (tgt := 24) hx hb d_Fi_figureOf_9 (by decide) (fun c1 => ?_) (fun c1 => ?_)
    · have hw := hw.1 c1
      refine lv_lload_n hx hb d_Fi_figureOf_24 rfl (lv_at hl 1 rfl) ?_
      refine lv_ldc2 (v := 10) hx hb hown (hts _ mm_518) d_Fi_figureOf_25 ?_
      refine lv_lrem hx hb d_Fi_figureOf_28 (by decide) ?_
      refine lv_l2i hx hb d_Fi_figureOf_29 rfl ?_
      exact W.iret (v := (y3 - y3 / 10 * 10).toInt32) hx hb hr (fun t ht hW => ⟨(y3 - y3 / 10 * 10).toInt32, rfl, hw, ht⟩) hS.2.2 d_Fi_figureOf_30
    · have hw := hw.2 c1
      refine lv_lload_n hx hb d_Fi_figureOf_12 rfl (lv_at hl 1 rfl) ?_
      refine lv_ldc2 (v := 10) hx hb hown (hts _ mm_518) d_Fi_figureOf_13 ?_
      refine lv_ldiv hx hb d_Fi_figureOf_16 (by decide) ?_
      refine lv_lstore_n (lv' := [(3, .long (y3 / 10)), (2, .int x2), (5, .int y5)]) hx hb d_Fi_figureOf_17 rfl hl (by decide) rfl (fun ls hl => ?_)
      refine lv_iinc (v := (y5 + (-1))) (lv' := [(5, .int (y5 + (-1))), (3, .long (y3 / 10)), (2, .int x2)]) hx hb d_Fi_figureOf_18 hl (k := 2) rfl rfl (by decide) rfl (fun ls hl => ?_)
      refine lv_goto (tgt := 6) hx hb d_Fi_figureOf_21 (by decide) ?_
      exact ih (y3 / 10) (y5 + (-1)) hw ls (lv_sub hl [2, 1, 0] rfl)
set_option maxHeartbeats 4000000 in
set_option maxRecDepth 100000 in
theorem met_Fi_figureOf (l : Launch) (D : va_G) (Z : (Nat → Prop) → State → Heap → Prop) (hz : zk Z) (ad : Nat → Nat) (hk : zs Z ad) (x0 : Int64) (x2 : Int32) {post : Int32 → Prop} (hw : w_Fi_figureOf post x0 x2) : Met l y_Fi_figureOf ws_Fi_figureOf rm_Fi_figureOf (va_Pc [.long x0, .int x2] (ro_ D vwCl [] [] (Z))) (vp_Si post) 0 0 (fun _ => False) := by
  refine Met.ofW (cc := c_Fi_figureOf) (maxL := 6) (ret := (some .int)) (by decide) rfl ?_
  intro p e s m args below meth c s₁ B hml hv
  obtain ⟨rfl, hP, hK, hZ⟩ := hv
  have hx := B.exec
  have hb := B.bytes
  have hr := B.returns
  have hts0 := atoms_spec (ws := ws_Fi_figureOf) B.pre
  have hts := fun (w : Cond) (h : w ∈ tb) => hts0 w (List.mem_cons_of_mem _ h)
  have hown : s.vm.findClass R_Fi = some m.cls := findClass_of_methodNamed B.named
  have hlocks := B.notSynchronized
  have hS : va_S (fun _ => False) s.heap s.heap [] := va_S.rf
  have hl := lv_entry ([.long x0, .int x2]) (n := 6) (Nat.le_of_ble_eq_true rfl)
  rw [lg_entry_eq]
  generalize (lg_sl ([.long x0, .int x2]) ++ List.replicate (6 - (lg_sl ([.long x0, .int x2])).length) Slot.unset).toArray = ls at hl ⊢
  have hl : lv_has ls 6 [(0, .long x0), (2, .int x2)] := hl
  unfold w_Fi_figureOf at hw
  refine lv_lload_n hx hb d_Fi_figureOf_0 rfl (lv_at hl 0 rfl) ?_
  refine lv_lstore_n (lv' := [(3, .long x0), (0, .long x0), (2, .int x2)]) hx hb d_Fi_figureOf_1 rfl hl (by decide) rfl (fun ls hl => ?_)
  refine lv_bipush (v := 11) hx hb d_Fi_figureOf_2 (by decide) ?_
  refine lv_istore (lv' := [(5, .int 11), (3, .long x0), (0, .long x0), (2, .int x2)]) hx hb d_Fi_figureOf_4 hl (by decide) rfl (fun ls hl => ?_)
  obtain ⟨n9, hw⟩ := hw
  exact lp_Fi_figureOf_6 l D Z hz ad hk x2 hx hb hml hr hts hown hlocks hK hZ hP hS n9 x0 11 hw ls (lv_sub hl [3, 1, 0] rfl)
-- LineCodes$Figures.checkOf(J)I
def w_Fi_checkOf_4 (post : Int32 → Prop) (x0 : Int64) : Nat → Int32 → Int32 → Prop
  | 0, _, _ => False
  | n + 1, y2, y3 => (12 ≤ y3 → post ((10 - (y2 - y2 / 10 * 10)) - (10 - (y2 - y2 / 10 * 10)) / 10 * 10)) ∧ (¬ 12 ≤ y3 → w_Fi_weightOf (fun r2 => w_Fi_figureOf (fun r3 => w_Fi_checkOf_4 post x0 n (y2 + (r2 * r3)) (y3 + 1)) x0 y3) y3)
def w_Fi_checkOf (post : Int32 → Prop) (x0 : Int64) : Prop := ∃ n, w_Fi_checkOf_4 post x0 n 0 0
abbrev rm_Fi_checkOf : Room := { frames := 1, cells := 0, slots := 0, locals := 25 }
set_option maxHeartbeats 4000000 in
set_option maxRecDepth 100000 in
theorem lp_Fi_checkOf_4 (l : Launch) (D : va_G) (Z : (Nat → Prop) → State → Heap → Prop) (hz : zk Z) (ad : Nat → Nat) (hk : zs Z ad) {p : Program} {e : Env} {s : State} {m : MethodId} {args : Array Value} {below : List Frame} {meth : Method} {c : Code} (x0 : Int64) {post : Int32 → Prop} (hx : p.tables.exec = Jvm.exec) (hb : c.code = c_Fi_checkOf) (hml : c.maxLocals = 4) (hr : meth.sig.returnType = (some .int)) (hts : ∀ w ∈ tb, w.before args s = true) (hown : s.vm.findClass R_Fi = some m.cls) (hlocks : meth.locks = false) (hK : va_K D vwCl [] s) (hZ : Z (fun _ => False) s s.heap) (hP : va_P D vwCl [] s.heap) (hS : va_S (fun _ => False) s.heap s.heap []) : ∀ (n : Nat) (y2 : Int32) (y3 : Int32), w_Fi_checkOf_4 post x0 n y2 y3 → ∀ ls : Array Slot, lv_has ls 4 [(0, .long x0), (2, .int y2), (3, .int y3)] → W p l e (headSpec ws_Fi_checkOf rm_Fi_checkOf).room s m args below meth c s.heap [] 0 0 (MQ below (vp_Si post) args s 0 0 (fun _ => False)) (F0 m 4 ls []) := by
  intro n
  induction n with
  | zero =>
    intro y2 y3 hw
    unfold w_Fi_checkOf_4 at hw
    exact hw.elim
  | succ n ih =>
    intro y2 y3 hw ls hl
    unfold w_Fi_checkOf_4 at hw
    refine lv_iload_n hx hb d_Fi_checkOf_4 rfl (lv_at hl 2 rfl) ?_
    refine lv_bipush (v := 12) hx hb d_Fi_checkOf_5 (by decide) ?_
    refine lv_icmp_ge (tgt := 29) hx hb d_Fi_checkOf_7 (by decide) (fun c1 => ?_) (fun c1 => ?_)
    · have hw := hw.1 c1
      refine lv_bipush (v := 10) hx hb d_Fi_checkOf_29 (by decide) ?_
      refine lv_iload_n hx hb d_Fi_checkOf_31 rfl (lv_at hl 1 rfl) ?_
      refine lv_bipush (v := 10) hx hb d_Fi_checkOf_32 (by decide) ?_
      refine lv_irem hx hb d_Fi_checkOf_34 (by decide) ?_
      refine lv_isub hx hb d_Fi_checkOf_35 ?_
      refine lv_bipush (v := 10) hx hb d_Fi_checkOf_36 (by decide) ?_
      refine lv_irem hx hb d_Fi_checkOf_38 (by decide) ?_
      exact W.iret (v := ((10 - (y2 - y2 / 10 * 10)) - (10 - (y2 - y2 / 10 * 10)) / 10 * 10)) hx hb hr (fun t ht hW => ⟨((10 - (y2 - y2 / 10 * 10)) - (10 - (y2 - y2 / 10 * 10)) / 10 * 10), rfl, hw, ht⟩) hS.2.2 d_Fi_checkOf_39
    · have hw := hw.2 c1
      refine lv_iload_n hx hb d_Fi_checkOf_10 rfl (lv_at hl 1 rfl) ?_
      refine lv_iload_n hx hb d_Fi_checkOf_11 rfl (lv_at hl 2 rfl) ?_
      refine k_roSi (As := [.int y3]) (rest := [.int y2]) hz [] [] ⟨hx, hb, hml, hown, hts⟩ (met_Fi_weightOf l D Z hz ad hk y3 hw) (va_cwS 1 hts (g_S mm_514 mm_309 mm_54 mm_310) rfl rfl rfl hd_Fi_weightOf.2 ⟨Nat.le_of_ble_eq_true rfl, Nat.le_of_ble_eq_true rfl⟩) hP hK hZ hS rfl rfl rfl hl.1 rfl (Nat.le_of_ble_eq_true rfl) d_Fi_checkOf_12 ⟨Nat.le_of_ble_eq_true rfl, Nat.le_of_ble_eq_true rfl⟩ (fun r2 hw => ?_)
      refine lv_lload_n hx hb d_Fi_checkOf_15 rfl (lv_at hl 0 rfl) ?_
      refine lv_iload_n hx hb d_Fi_checkOf_16 rfl (lv_at hl 2 rfl) ?_
      refine k_roSi (As := [.long x0, .int y3]) (rest := [.int r2, .int y2]) hz [] [] ⟨hx, hb, hml, hown, hts⟩ (met_Fi_figureOf l D Z hz ad hk x0 y3 hw) (va_cwS 2 hts (g_S mm_515 mm_516 mm_54 mm_517) rfl rfl rfl hd_Fi_figureOf.2 ⟨Nat.le_of_ble_eq_true rfl, Nat.le_of_ble_eq_true rfl⟩) hP hK hZ hS rfl rfl rfl hl.1 rfl (Nat.le_of_ble_eq_true rfl) d_Fi_checkOf_17 ⟨Nat.le_of_ble_eq_true rfl, Nat.le_of_ble_eq_true rfl⟩ (fun r3 hw => ?_)
      refine lv_imul hx hb d_Fi_checkOf_20 ?_
      refine lv_iadd hx hb d_Fi_checkOf_21 ?_
      refine lv_istore_n (lv' := [(2, .int (y2 + (r2 * r3))), (0, .long x0), (3, .int y3)]) hx hb d_Fi_checkOf_22 rfl hl (by decide) rfl (fun ls hl => ?_)
      refine lv_iinc (v := (y3 + 1)) (lv' := [(3, .int (y3 + 1)), (2, .int (y2 + (r2 * r3))), (0, .long x0)]) hx hb d_Fi_checkOf_23 hl (k := 2) rfl rfl (by decide) rfl (fun ls hl => ?_)
      refine lv_goto (tgt := 4) hx hb d_Fi_checkOf_26 (by decide) ?_
      exact ih (y2 + (r2 * r3)) (y3 + 1) hw ls (lv_sub hl [2, 1, 0] rfl)
set_option maxHeartbeats 4000000 in
set_option maxRecDepth 100000 in
theorem met_Fi_checkOf (l : Launch) (D : va_G) (Z : (Nat → Prop) → State → Heap → Prop) (hz : zk Z) (ad : Nat → Nat) (hk : zs Z ad) (x0 : Int64) {post : Int32 → Prop} (hw : w_Fi_checkOf post x0) : Met l y_Fi_checkOf ws_Fi_checkOf rm_Fi_checkOf (va_Pc [.long x0] (ro_ D vwCl [] [] (Z))) (vp_Si post) 0 0 (fun _ => False) := by
  refine Met.ofW (cc := c_Fi_checkOf) (maxL := 4) (ret := (some .int)) (by decide) rfl ?_
  intro p e s m args below meth c s₁ B hml hv
  obtain ⟨rfl, hP, hK, hZ⟩ := hv
  have hx := B.exec
  have hb := B.bytes
  have hr := B.returns
  have hts0 := atoms_spec (ws := ws_Fi_checkOf) B.pre
  have hts := fun (w : Cond) (h : w ∈ tb) => hts0 w (List.mem_cons_of_mem _ h)
  have hown : s.vm.findClass R_Fi = some m.cls := findClass_of_methodNamed B.named
  have hlocks := B.notSynchronized
  have hS : va_S (fun _ => False) s.heap s.heap [] := va_S.rf
  have hl := lv_entry ([.long x0]) (n := 4) (Nat.le_of_ble_eq_true rfl)
  rw [lg_entry_eq]
  generalize (lg_sl ([.long x0]) ++ List.replicate (4 - (lg_sl ([.long x0])).length) Slot.unset).toArray = ls at hl ⊢
  have hl : lv_has ls 4 [(0, .long x0)] := hl
  unfold w_Fi_checkOf at hw
  refine lv_iconst (v := 0) hx hb d_Fi_checkOf_0 (by decide) ?_
  refine lv_istore_n (lv' := [(2, .int 0), (0, .long x0)]) hx hb d_Fi_checkOf_1 rfl hl (by decide) rfl (fun ls hl => ?_)
  refine lv_iconst (v := 0) hx hb d_Fi_checkOf_2 (by decide) ?_
  refine lv_istore_n (lv' := [(3, .int 0), (2, .int 0), (0, .long x0)]) hx hb d_Fi_checkOf_3 rfl hl (by decide) rfl (fun ls hl => ?_)
  obtain ⟨n9, hw⟩ := hw
  exact lp_Fi_checkOf_4 l D Z hz ad hk x0 hx hb hml hr hts hown hlocks hK hZ hP hS n9 0 0 hw ls (lv_sub hl [2, 1, 0] rfl)
end
section
theorem d_Pa_init_0 : decode c_Pa_init 0 = .ok (.aload_n 0, 1) := by decide +kernel
theorem d_Pa_init_1 : decode c_Pa_init 1 = .ok (.invokespecial 3, 3) := by decide +kernel
theorem d_Pa_init_4 : decode c_Pa_init 4 = .ok (.aload_n 0, 1) := by decide +kernel
theorem d_Pa_init_5 : decode c_Pa_init 5 = .ok (.aload_n 1, 1) := by decide +kernel
theorem d_Pa_init_6 : decode c_Pa_init 6 = .ok (.putfield 9, 3) := by decide +kernel
theorem d_Pa_init_9 : decode c_Pa_init 9 = .ok (.aload_n 0, 1) := by decide +kernel
theorem d_Pa_init_10 : decode c_Pa_init 10 = .ok (.aload_n 2, 1) := by decide +kernel
theorem d_Pa_init_11 : decode c_Pa_init 11 = .ok (.putfield 15, 3) := by decide +kernel
theorem d_Pa_init_14 : decode c_Pa_init 14 = .ok (.aload_n 0, 1) := by decide +kernel
theorem d_Pa_init_15 : decode c_Pa_init 15 = .ok (.sipush 195, 3) := by decide +kernel
theorem d_Pa_init_18 : decode c_Pa_init 18 = .ok (.newarray .int, 2) := by decide +kernel
theorem d_Pa_init_20 : decode c_Pa_init 20 = .ok (.putfield 20, 3) := by decide +kernel
theorem d_Pa_init_23 : decode c_Pa_init 23 = .ok (.return_, 1) := by decide +kernel
theorem d_Pa_makeRow_0 : decode c_Pa_makeRow 0 = .ok (.aload_n 0, 1) := by decide +kernel
theorem d_Pa_makeRow_1 : decode c_Pa_makeRow 1 = .ok (.getfield 9, 3) := by decide +kernel
theorem d_Pa_makeRow_4 : decode c_Pa_makeRow 4 = .ok (.invokevirtual 24, 3) := by decide +kernel
theorem d_Pa_makeRow_7 : decode c_Pa_makeRow 7 = .ok (.istore_n 1, 1) := by decide +kernel
theorem d_Pa_makeRow_8 : decode c_Pa_makeRow 8 = .ok (.iload_n 1, 1) := by decide +kernel
theorem d_Pa_makeRow_9 : decode c_Pa_makeRow 9 = .ok (.ifCond .lt 14, 3) := by decide +kernel
theorem d_Pa_makeRow_12 : decode c_Pa_makeRow 12 = .ok (.aload_n 0, 1) := by decide +kernel
theorem d_Pa_makeRow_13 : decode c_Pa_makeRow 13 = .ok (.iload_n 1, 1) := by decide +kernel
theorem d_Pa_makeRow_14 : decode c_Pa_makeRow 14 = .ok (.invokevirtual 30, 3) := by decide +kernel
theorem d_Pa_makeRow_17 : decode c_Pa_makeRow 17 = .ok (.iinc 1 (-1), 3) := by decide +kernel
theorem d_Pa_makeRow_20 : decode c_Pa_makeRow 20 = .ok (.goto (-12), 3) := by decide +kernel
theorem d_Pa_makeRow_23 : decode c_Pa_makeRow 23 = .ok (.aload_n 0, 1) := by decide +kernel
theorem d_Pa_makeRow_24 : decode c_Pa_makeRow 24 = .ok (.getfield 15, 3) := by decide +kernel
theorem d_Pa_makeRow_27 : decode c_Pa_makeRow 27 = .ok (.invokevirtual 34, 3) := by decide +kernel
theorem d_Pa_makeRow_30 : decode c_Pa_makeRow 30 = .ok (.pop, 1) := by decide +kernel
theorem d_Pa_makeRow_31 : decode c_Pa_makeRow 31 = .ok (.aload_n 0, 1) := by decide +kernel
theorem d_Pa_makeRow_32 : decode c_Pa_makeRow 32 = .ok (.invokevirtual 37, 3) := by decide +kernel
theorem d_Pa_makeRow_35 : decode c_Pa_makeRow 35 = .ok (.aload_n 0, 1) := by decide +kernel
theorem d_Pa_makeRow_36 : decode c_Pa_makeRow 36 = .ok (.getfield 15, 3) := by decide +kernel
theorem d_Pa_makeRow_39 : decode c_Pa_makeRow 39 = .ok (.aload_n 0, 1) := by decide +kernel
theorem d_Pa_makeRow_40 : decode c_Pa_makeRow 40 = .ok (.invokevirtual 40, 3) := by decide +kernel
theorem d_Pa_makeRow_43 : decode c_Pa_makeRow 43 = .ok (.invokevirtual 43, 3) := by decide +kernel
theorem d_Pa_makeRow_46 : decode c_Pa_makeRow 46 = .ok (.pop, 1) := by decide +kernel
theorem d_Pa_makeRow_47 : decode c_Pa_makeRow 47 = .ok (.aload_n 0, 1) := by decide +kernel
theorem d_Pa_makeRow_48 : decode c_Pa_makeRow 48 = .ok (.getfield 15, 3) := by decide +kernel
theorem d_Pa_makeRow_51 : decode c_Pa_makeRow 51 = .ok (.bipush 106, 2) := by decide +kernel
theorem d_Pa_makeRow_53 : decode c_Pa_makeRow 53 = .ok (.invokevirtual 43, 3) := by decide +kernel
theorem d_Pa_makeRow_56 : decode c_Pa_makeRow 56 = .ok (.pop, 1) := by decide +kernel
theorem d_Pa_makeRow_57 : decode c_Pa_makeRow 57 = .ok (.return_, 1) := by decide +kernel
theorem d_Pa_fillCosts_0 : decode c_Pa_fillCosts 0 = .ok (.ldc 47, 2) := by decide +kernel
theorem d_Pa_fillCosts_2 : decode c_Pa_fillCosts 2 = .ok (.istore_n 2, 1) := by decide +kernel
theorem d_Pa_fillCosts_3 : decode c_Pa_fillCosts 3 = .ok (.iconst 0, 1) := by decide +kernel
theorem d_Pa_fillCosts_4 : decode c_Pa_fillCosts 4 = .ok (.istore_n 3, 1) := by decide +kernel
theorem d_Pa_fillCosts_5 : decode c_Pa_fillCosts 5 = .ok (.iload_n 3, 1) := by decide +kernel
theorem d_Pa_fillCosts_6 : decode c_Pa_fillCosts 6 = .ok (.iconst 3, 1) := by decide +kernel
theorem d_Pa_fillCosts_7 : decode c_Pa_fillCosts 7 = .ok (.if_icmp .ge 47, 3) := by decide +kernel
theorem d_Pa_fillCosts_10 : decode c_Pa_fillCosts 10 = .ok (.iload_n 1, 1) := by decide +kernel
theorem d_Pa_fillCosts_11 : decode c_Pa_fillCosts 11 = .ok (.aload_n 0, 1) := by decide +kernel
theorem d_Pa_fillCosts_12 : decode c_Pa_fillCosts 12 = .ok (.getfield 9, 3) := by decide +kernel
theorem d_Pa_fillCosts_15 : decode c_Pa_fillCosts 15 = .ok (.invokevirtual 24, 3) := by decide +kernel
theorem d_Pa_fillCosts_18 : decode c_Pa_fillCosts 18 = .ok (.if_icmp .ne 7, 3) := by decide +kernel
theorem d_Pa_fillCosts_21 : decode c_Pa_fillCosts 21 = .ok (.iconst 0, 1) := by decide +kernel
theorem d_Pa_fillCosts_22 : decode c_Pa_fillCosts 22 = .ok (.goto 9, 3) := by decide +kernel
theorem d_Pa_fillCosts_25 : decode c_Pa_fillCosts 25 = .ok (.aload_n 0, 1) := by decide +kernel
theorem d_Pa_fillCosts_26 : decode c_Pa_fillCosts 26 = .ok (.iload_n 1, 1) := by decide +kernel
theorem d_Pa_fillCosts_27 : decode c_Pa_fillCosts 27 = .ok (.iload_n 3, 1) := by decide +kernel
theorem d_Pa_fillCosts_28 : decode c_Pa_fillCosts 28 = .ok (.invokevirtual 48, 3) := by decide +kernel
theorem d_Pa_fillCosts_31 : decode c_Pa_fillCosts 31 = .ok (.istore 4, 2) := by decide +kernel
theorem d_Pa_fillCosts_33 : decode c_Pa_fillCosts 33 = .ok (.aload_n 0, 1) := by decide +kernel
theorem d_Pa_fillCosts_34 : decode c_Pa_fillCosts 34 = .ok (.iload_n 1, 1) := by decide +kernel
theorem d_Pa_fillCosts_35 : decode c_Pa_fillCosts 35 = .ok (.iload_n 3, 1) := by decide +kernel
theorem d_Pa_fillCosts_36 : decode c_Pa_fillCosts 36 = .ok (.iload 4, 2) := by decide +kernel
theorem d_Pa_fillCosts_38 : decode c_Pa_fillCosts 38 = .ok (.invokevirtual 52, 3) := by decide +kernel
theorem d_Pa_fillCosts_41 : decode c_Pa_fillCosts 41 = .ok (.iload_n 2, 1) := by decide +kernel
theorem d_Pa_fillCosts_42 : decode c_Pa_fillCosts 42 = .ok (.iload 4, 2) := by decide +kernel
theorem d_Pa_fillCosts_44 : decode c_Pa_fillCosts 44 = .ok (.invokestatic 56, 3) := by decide +kernel
theorem d_Pa_fillCosts_47 : decode c_Pa_fillCosts 47 = .ok (.istore_n 2, 1) := by decide +kernel
theorem d_Pa_fillCosts_48 : decode c_Pa_fillCosts 48 = .ok (.iinc 3 1, 3) := by decide +kernel
theorem d_Pa_fillCosts_51 : decode c_Pa_fillCosts 51 = .ok (.goto (-46), 3) := by decide +kernel
theorem d_Pa_fillCosts_54 : decode c_Pa_fillCosts 54 = .ok (.iconst 0, 1) := by decide +kernel
theorem d_Pa_fillCosts_55 : decode c_Pa_fillCosts 55 = .ok (.istore_n 3, 1) := by decide +kernel
theorem d_Pa_fillCosts_56 : decode c_Pa_fillCosts 56 = .ok (.iload_n 3, 1) := by decide +kernel
theorem d_Pa_fillCosts_57 : decode c_Pa_fillCosts 57 = .ok (.iconst 3, 1) := by decide +kernel
theorem d_Pa_fillCosts_58 : decode c_Pa_fillCosts 58 = .ok (.if_icmp .ge 27, 3) := by decide +kernel
theorem d_Pa_fillCosts_61 : decode c_Pa_fillCosts 61 = .ok (.aload_n 0, 1) := by decide +kernel
theorem d_Pa_fillCosts_62 : decode c_Pa_fillCosts 62 = .ok (.iload_n 1, 1) := by decide +kernel
theorem d_Pa_fillCosts_63 : decode c_Pa_fillCosts 63 = .ok (.iload_n 3, 1) := by decide +kernel
theorem d_Pa_fillCosts_64 : decode c_Pa_fillCosts 64 = .ok (.aload_n 0, 1) := by decide +kernel
theorem d_Pa_fillCosts_65 : decode c_Pa_fillCosts 65 = .ok (.iload_n 1, 1) := by decide +kernel
theorem d_Pa_fillCosts_66 : decode c_Pa_fillCosts 66 = .ok (.iload_n 3, 1) := by decide +kernel
theorem d_Pa_fillCosts_67 : decode c_Pa_fillCosts 67 = .ok (.invokevirtual 61, 3) := by decide +kernel
theorem d_Pa_fillCosts_70 : decode c_Pa_fillCosts 70 = .ok (.iload_n 2, 1) := by decide +kernel
theorem d_Pa_fillCosts_71 : decode c_Pa_fillCosts 71 = .ok (.iconst 1, 1) := by decide +kernel
theorem d_Pa_fillCosts_72 : decode c_Pa_fillCosts 72 = .ok (.iadd, 1) := by decide +kernel
theorem d_Pa_fillCosts_73 : decode c_Pa_fillCosts 73 = .ok (.invokestatic 56, 3) := by decide +kernel
theorem d_Pa_fillCosts_76 : decode c_Pa_fillCosts 76 = .ok (.invokevirtual 52, 3) := by decide +kernel
theorem d_Pa_fillCosts_79 : decode c_Pa_fillCosts 79 = .ok (.iinc 3 1, 3) := by decide +kernel
theorem d_Pa_fillCosts_82 : decode c_Pa_fillCosts 82 = .ok (.goto (-26), 3) := by decide +kernel
theorem d_Pa_fillCosts_85 : decode c_Pa_fillCosts 85 = .ok (.return_, 1) := by decide +kernel
theorem d_Pa_costOfTelling_0 : decode c_Pa_costOfTelling 0 = .ok (.aload_n 0, 1) := by decide +kernel
theorem d_Pa_costOfTelling_1 : decode c_Pa_costOfTelling 1 = .ok (.getfield 9, 3) := by decide +kernel
theorem d_Pa_costOfTelling_4 : decode c_Pa_costOfTelling 4 = .ok (.iload_n 1, 1) := by decide +kernel
theorem d_Pa_costOfTelling_5 : decode c_Pa_costOfTelling 5 = .ok (.invokevirtual 64, 3) := by decide +kernel
theorem d_Pa_costOfTelling_8 : decode c_Pa_costOfTelling 8 = .ok (.istore_n 3, 1) := by decide +kernel
theorem d_Pa_costOfTelling_9 : decode c_Pa_costOfTelling 9 = .ok (.iload_n 3, 1) := by decide +kernel
theorem d_Pa_costOfTelling_10 : decode c_Pa_costOfTelling 10 = .ok (.sipush 128, 3) := by decide +kernel
theorem d_Pa_costOfTelling_13 : decode c_Pa_costOfTelling 13 = .ok (.if_icmp .ne 14, 3) := by decide +kernel
theorem d_Pa_costOfTelling_16 : decode c_Pa_costOfTelling 16 = .ok (.iconst 1, 1) := by decide +kernel
theorem d_Pa_costOfTelling_17 : decode c_Pa_costOfTelling 17 = .ok (.aload_n 0, 1) := by decide +kernel
theorem d_Pa_costOfTelling_18 : decode c_Pa_costOfTelling 18 = .ok (.iload_n 1, 1) := by decide +kernel
theorem d_Pa_costOfTelling_19 : decode c_Pa_costOfTelling 19 = .ok (.iconst 1, 1) := by decide +kernel
theorem d_Pa_costOfTelling_20 : decode c_Pa_costOfTelling 20 = .ok (.iadd, 1) := by decide +kernel
theorem d_Pa_costOfTelling_21 : decode c_Pa_costOfTelling 21 = .ok (.iload_n 2, 1) := by decide +kernel
theorem d_Pa_costOfTelling_22 : decode c_Pa_costOfTelling 22 = .ok (.invokevirtual 61, 3) := by decide +kernel
theorem d_Pa_costOfTelling_25 : decode c_Pa_costOfTelling 25 = .ok (.iadd, 1) := by decide +kernel
theorem d_Pa_costOfTelling_26 : decode c_Pa_costOfTelling 26 = .ok (.ireturn, 1) := by decide +kernel
theorem d_Pa_costOfTelling_27 : decode c_Pa_costOfTelling 27 = .ok (.iload_n 2, 1) := by decide +kernel
theorem d_Pa_costOfTelling_28 : decode c_Pa_costOfTelling 28 = .ok (.iconst 2, 1) := by decide +kernel
theorem d_Pa_costOfTelling_29 : decode c_Pa_costOfTelling 29 = .ok (.if_icmp .ne 49, 3) := by decide +kernel
theorem d_Pa_costOfTelling_32 : decode c_Pa_costOfTelling 32 = .ok (.iload_n 3, 1) := by decide +kernel
theorem d_Pa_costOfTelling_33 : decode c_Pa_costOfTelling 33 = .ok (.aload_n 0, 1) := by decide +kernel
theorem d_Pa_costOfTelling_34 : decode c_Pa_costOfTelling 34 = .ok (.getfield 9, 3) := by decide +kernel
theorem d_Pa_costOfTelling_37 : decode c_Pa_costOfTelling 37 = .ok (.iload_n 1, 1) := by decide +kernel
theorem d_Pa_costOfTelling_38 : decode c_Pa_costOfTelling 38 = .ok (.iconst 1, 1) := by decide +kernel
theorem d_Pa_costOfTelling_39 : decode c_Pa_costOfTelling 39 = .ok (.iadd, 1) := by decide +kernel
theorem d_Pa_costOfTelling_40 : decode c_Pa_costOfTelling 40 = .ok (.invokevirtual 64, 3) := by decide +kernel
theorem d_Pa_costOfTelling_43 : decode c_Pa_costOfTelling 43 = .ok (.invokestatic 68, 3) := by decide +kernel
theorem d_Pa_costOfTelling_46 : decode c_Pa_costOfTelling 46 = .ok (.iconst (-1), 1) := by decide +kernel
theorem d_Pa_costOfTelling_47 : decode c_Pa_costOfTelling 47 = .ok (.if_icmp .eq 7, 3) := by decide +kernel
theorem d_Pa_costOfTelling_50 : decode c_Pa_costOfTelling 50 = .ok (.iconst 1, 1) := by decide +kernel
theorem d_Pa_costOfTelling_51 : decode c_Pa_costOfTelling 51 = .ok (.goto 4, 3) := by decide +kernel
theorem d_Pa_costOfTelling_54 : decode c_Pa_costOfTelling 54 = .ok (.iconst 0, 1) := by decide +kernel
theorem d_Pa_costOfTelling_55 : decode c_Pa_costOfTelling 55 = .ok (.istore 4, 2) := by decide +kernel
theorem d_Pa_costOfTelling_57 : decode c_Pa_costOfTelling 57 = .ok (.iload 4, 2) := by decide +kernel
theorem d_Pa_costOfTelling_59 : decode c_Pa_costOfTelling 59 = .ok (.ifCond .eq 16, 3) := by decide +kernel
theorem d_Pa_costOfTelling_62 : decode c_Pa_costOfTelling 62 = .ok (.iconst 1, 1) := by decide +kernel
theorem d_Pa_costOfTelling_63 : decode c_Pa_costOfTelling 63 = .ok (.aload_n 0, 1) := by decide +kernel
theorem d_Pa_costOfTelling_64 : decode c_Pa_costOfTelling 64 = .ok (.iload_n 1, 1) := by decide +kernel
theorem d_Pa_costOfTelling_65 : decode c_Pa_costOfTelling 65 = .ok (.iconst 2, 1) := by decide +kernel
theorem d_Pa_costOfTelling_66 : decode c_Pa_costOfTelling 66 = .ok (.iadd, 1) := by decide +kernel
theorem d_Pa_costOfTelling_67 : decode c_Pa_costOfTelling 67 = .ok (.iload_n 2, 1) := by decide +kernel
theorem d_Pa_costOfTelling_68 : decode c_Pa_costOfTelling 68 = .ok (.invokevirtual 61, 3) := by decide +kernel
theorem d_Pa_costOfTelling_71 : decode c_Pa_costOfTelling 71 = .ok (.iadd, 1) := by decide +kernel
theorem d_Pa_costOfTelling_72 : decode c_Pa_costOfTelling 72 = .ok (.goto 5, 3) := by decide +kernel
theorem d_Pa_costOfTelling_75 : decode c_Pa_costOfTelling 75 = .ok (.ldc 47, 2) := by decide +kernel
theorem d_Pa_costOfTelling_77 : decode c_Pa_costOfTelling 77 = .ok (.ireturn, 1) := by decide +kernel
theorem d_Pa_costOfTelling_78 : decode c_Pa_costOfTelling 78 = .ok (.iload_n 2, 1) := by decide +kernel
theorem d_Pa_costOfTelling_79 : decode c_Pa_costOfTelling 79 = .ok (.iload_n 3, 1) := by decide +kernel
theorem d_Pa_costOfTelling_80 : decode c_Pa_costOfTelling 80 = .ok (.invokestatic 71, 3) := by decide +kernel
theorem d_Pa_costOfTelling_83 : decode c_Pa_costOfTelling 83 = .ok (.iconst (-1), 1) := by decide +kernel
theorem d_Pa_costOfTelling_84 : decode c_Pa_costOfTelling 84 = .ok (.if_icmp .eq 7, 3) := by decide +kernel
theorem d_Pa_costOfTelling_87 : decode c_Pa_costOfTelling 87 = .ok (.iconst 1, 1) := by decide +kernel
theorem d_Pa_costOfTelling_88 : decode c_Pa_costOfTelling 88 = .ok (.goto 4, 3) := by decide +kernel
theorem d_Pa_costOfTelling_91 : decode c_Pa_costOfTelling 91 = .ok (.iconst 0, 1) := by decide +kernel
theorem d_Pa_costOfTelling_92 : decode c_Pa_costOfTelling 92 = .ok (.istore 4, 2) := by decide +kernel
theorem d_Pa_costOfTelling_94 : decode c_Pa_costOfTelling 94 = .ok (.iload 4, 2) := by decide +kernel
theorem d_Pa_costOfTelling_96 : decode c_Pa_costOfTelling 96 = .ok (.ifCond .eq 7, 3) := by decide +kernel
theorem d_Pa_costOfTelling_99 : decode c_Pa_costOfTelling 99 = .ok (.iconst 1, 1) := by decide +kernel
theorem d_Pa_costOfTelling_100 : decode c_Pa_costOfTelling 100 = .ok (.goto 4, 3) := by decide +kernel
theorem d_Pa_costOfTelling_103 : decode c_Pa_costOfTelling 103 = .ok (.iconst 2, 1) := by decide +kernel
theorem d_Pa_costOfTelling_104 : decode c_Pa_costOfTelling 104 = .ok (.aload_n 0, 1) := by decide +kernel
theorem d_Pa_costOfTelling_105 : decode c_Pa_costOfTelling 105 = .ok (.iload_n 1, 1) := by decide +kernel
theorem d_Pa_costOfTelling_106 : decode c_Pa_costOfTelling 106 = .ok (.iconst 1, 1) := by decide +kernel
theorem d_Pa_costOfTelling_107 : decode c_Pa_costOfTelling 107 = .ok (.iadd, 1) := by decide +kernel
theorem d_Pa_costOfTelling_108 : decode c_Pa_costOfTelling 108 = .ok (.iload_n 2, 1) := by decide +kernel
theorem d_Pa_costOfTelling_109 : decode c_Pa_costOfTelling 109 = .ok (.invokevirtual 61, 3) := by decide +kernel
theorem d_Pa_costOfTelling_112 : decode c_Pa_costOfTelling 112 = .ok (.iadd, 1) := by decide +kernel
theorem d_Pa_costOfTelling_113 : decode c_Pa_costOfTelling 113 = .ok (.ireturn, 1) := by decide +kernel
theorem d_Pa_addSymbols_0 : decode c_Pa_addSymbols 0 = .ok (.aload_n 0, 1) := by decide +kernel
theorem d_Pa_addSymbols_1 : decode c_Pa_addSymbols 1 = .ok (.invokevirtual 74, 3) := by decide +kernel
theorem d_Pa_addSymbols_4 : decode c_Pa_addSymbols 4 = .ok (.istore_n 1, 1) := by decide +kernel
theorem d_Pa_addSymbols_5 : decode c_Pa_addSymbols 5 = .ok (.aload_n 0, 1) := by decide +kernel
theorem d_Pa_addSymbols_6 : decode c_Pa_addSymbols 6 = .ok (.getfield 15, 3) := by decide +kernel
theorem d_Pa_addSymbols_9 : decode c_Pa_addSymbols 9 = .ok (.iload_n 1, 1) := by decide +kernel
theorem d_Pa_addSymbols_10 : decode c_Pa_addSymbols 10 = .ok (.invokestatic 77, 3) := by decide +kernel
theorem d_Pa_addSymbols_13 : decode c_Pa_addSymbols 13 = .ok (.invokevirtual 43, 3) := by decide +kernel
theorem d_Pa_addSymbols_16 : decode c_Pa_addSymbols 16 = .ok (.pop, 1) := by decide +kernel
theorem d_Pa_addSymbols_17 : decode c_Pa_addSymbols 17 = .ok (.iconst 0, 1) := by decide +kernel
theorem d_Pa_addSymbols_18 : decode c_Pa_addSymbols 18 = .ok (.istore_n 2, 1) := by decide +kernel
theorem d_Pa_addSymbols_19 : decode c_Pa_addSymbols 19 = .ok (.iconst 0, 1) := by decide +kernel
theorem d_Pa_addSymbols_20 : decode c_Pa_addSymbols 20 = .ok (.istore_n 3, 1) := by decide +kernel
theorem d_Pa_addSymbols_21 : decode c_Pa_addSymbols 21 = .ok (.iload_n 3, 1) := by decide +kernel
theorem d_Pa_addSymbols_22 : decode c_Pa_addSymbols 22 = .ok (.bipush 99, 2) := by decide +kernel
theorem d_Pa_addSymbols_24 : decode c_Pa_addSymbols 24 = .ok (.if_icmp .ge 62, 3) := by decide +kernel
theorem d_Pa_addSymbols_27 : decode c_Pa_addSymbols 27 = .ok (.iload_n 2, 1) := by decide +kernel
theorem d_Pa_addSymbols_28 : decode c_Pa_addSymbols 28 = .ok (.aload_n 0, 1) := by decide +kernel
theorem d_Pa_addSymbols_29 : decode c_Pa_addSymbols 29 = .ok (.getfield 9, 3) := by decide +kernel
theorem d_Pa_addSymbols_32 : decode c_Pa_addSymbols 32 = .ok (.invokevirtual 24, 3) := by decide +kernel
theorem d_Pa_addSymbols_35 : decode c_Pa_addSymbols 35 = .ok (.if_icmp .ge 51, 3) := by decide +kernel
theorem d_Pa_addSymbols_38 : decode c_Pa_addSymbols 38 = .ok (.aload_n 0, 1) := by decide +kernel
theorem d_Pa_addSymbols_39 : decode c_Pa_addSymbols 39 = .ok (.iload_n 2, 1) := by decide +kernel
theorem d_Pa_addSymbols_40 : decode c_Pa_addSymbols 40 = .ok (.iload_n 1, 1) := by decide +kernel
theorem d_Pa_addSymbols_41 : decode c_Pa_addSymbols 41 = .ok (.invokevirtual 80, 3) := by decide +kernel
theorem d_Pa_addSymbols_44 : decode c_Pa_addSymbols 44 = .ok (.istore 4, 2) := by decide +kernel
theorem d_Pa_addSymbols_46 : decode c_Pa_addSymbols 46 = .ok (.iload 4, 2) := by decide +kernel
theorem d_Pa_addSymbols_48 : decode c_Pa_addSymbols 48 = .ok (.iload_n 1, 1) := by decide +kernel
theorem d_Pa_addSymbols_49 : decode c_Pa_addSymbols 49 = .ok (.if_icmp .ne 15, 3) := by decide +kernel
theorem d_Pa_addSymbols_52 : decode c_Pa_addSymbols 52 = .ok (.iload_n 2, 1) := by decide +kernel
theorem d_Pa_addSymbols_53 : decode c_Pa_addSymbols 53 = .ok (.aload_n 0, 1) := by decide +kernel
theorem d_Pa_addSymbols_54 : decode c_Pa_addSymbols 54 = .ok (.iload_n 2, 1) := by decide +kernel
theorem d_Pa_addSymbols_55 : decode c_Pa_addSymbols 55 = .ok (.iload_n 1, 1) := by decide +kernel
theorem d_Pa_addSymbols_56 : decode c_Pa_addSymbols 56 = .ok (.invokevirtual 83, 3) := by decide +kernel
theorem d_Pa_addSymbols_59 : decode c_Pa_addSymbols 59 = .ok (.iadd, 1) := by decide +kernel
theorem d_Pa_addSymbols_60 : decode c_Pa_addSymbols 60 = .ok (.istore_n 2, 1) := by decide +kernel
theorem d_Pa_addSymbols_61 : decode c_Pa_addSymbols 61 = .ok (.goto 19, 3) := by decide +kernel
theorem d_Pa_addSymbols_64 : decode c_Pa_addSymbols 64 = .ok (.aload_n 0, 1) := by decide +kernel
theorem d_Pa_addSymbols_65 : decode c_Pa_addSymbols 65 = .ok (.getfield 15, 3) := by decide +kernel
theorem d_Pa_addSymbols_68 : decode c_Pa_addSymbols 68 = .ok (.iload 4, 2) := by decide +kernel
theorem d_Pa_addSymbols_70 : decode c_Pa_addSymbols 70 = .ok (.invokestatic 86, 3) := by decide +kernel
theorem d_Pa_addSymbols_73 : decode c_Pa_addSymbols 73 = .ok (.invokevirtual 43, 3) := by decide +kernel
theorem d_Pa_addSymbols_76 : decode c_Pa_addSymbols 76 = .ok (.pop, 1) := by decide +kernel
theorem d_Pa_addSymbols_77 : decode c_Pa_addSymbols 77 = .ok (.iload 4, 2) := by decide +kernel
theorem d_Pa_addSymbols_79 : decode c_Pa_addSymbols 79 = .ok (.istore_n 1, 1) := by decide +kernel
theorem d_Pa_addSymbols_80 : decode c_Pa_addSymbols 80 = .ok (.iinc 3 1, 3) := by decide +kernel
theorem d_Pa_addSymbols_83 : decode c_Pa_addSymbols 83 = .ok (.goto (-62), 3) := by decide +kernel
theorem d_Pa_addSymbols_86 : decode c_Pa_addSymbols 86 = .ok (.return_, 1) := by decide +kernel
theorem d_Pa_cheapestFirstSet_0 : decode c_Pa_cheapestFirstSet 0 = .ok (.iconst 0, 1) := by decide +kernel
theorem d_Pa_cheapestFirstSet_1 : decode c_Pa_cheapestFirstSet 1 = .ok (.istore_n 1, 1) := by decide +kernel
theorem d_Pa_cheapestFirstSet_2 : decode c_Pa_cheapestFirstSet 2 = .ok (.iconst 1, 1) := by decide +kernel
theorem d_Pa_cheapestFirstSet_3 : decode c_Pa_cheapestFirstSet 3 = .ok (.istore_n 2, 1) := by decide +kernel
theorem d_Pa_cheapestFirstSet_4 : decode c_Pa_cheapestFirstSet 4 = .ok (.iload_n 2, 1) := by decide +kernel
theorem d_Pa_cheapestFirstSet_5 : decode c_Pa_cheapestFirstSet 5 = .ok (.iconst 3, 1) := by decide +kernel
theorem d_Pa_cheapestFirstSet_6 : decode c_Pa_cheapestFirstSet 6 = .ok (.if_icmp .ge 26, 3) := by decide +kernel
theorem d_Pa_cheapestFirstSet_9 : decode c_Pa_cheapestFirstSet 9 = .ok (.aload_n 0, 1) := by decide +kernel
theorem d_Pa_cheapestFirstSet_10 : decode c_Pa_cheapestFirstSet 10 = .ok (.iconst 0, 1) := by decide +kernel
theorem d_Pa_cheapestFirstSet_11 : decode c_Pa_cheapestFirstSet 11 = .ok (.iload_n 2, 1) := by decide +kernel
theorem d_Pa_cheapestFirstSet_12 : decode c_Pa_cheapestFirstSet 12 = .ok (.invokevirtual 61, 3) := by decide +kernel
theorem d_Pa_cheapestFirstSet_15 : decode c_Pa_cheapestFirstSet 15 = .ok (.aload_n 0, 1) := by decide +kernel
theorem d_Pa_cheapestFirstSet_16 : decode c_Pa_cheapestFirstSet 16 = .ok (.iconst 0, 1) := by decide +kernel
theorem d_Pa_cheapestFirstSet_17 : decode c_Pa_cheapestFirstSet 17 = .ok (.iload_n 1, 1) := by decide +kernel
theorem d_Pa_cheapestFirstSet_18 : decode c_Pa_cheapestFirstSet 18 = .ok (.invokevirtual 61, 3) := by decide +kernel
theorem d_Pa_cheapestFirstSet_21 : decode c_Pa_cheapestFirstSet 21 = .ok (.if_icmp .ge 5, 3) := by decide +kernel
theorem d_Pa_cheapestFirstSet_24 : decode c_Pa_cheapestFirstSet 24 = .ok (.iload_n 2, 1) := by decide +kernel
theorem d_Pa_cheapestFirstSet_25 : decode c_Pa_cheapestFirstSet 25 = .ok (.istore_n 1, 1) := by decide +kernel
theorem d_Pa_cheapestFirstSet_26 : decode c_Pa_cheapestFirstSet 26 = .ok (.iinc 2 1, 3) := by decide +kernel
theorem d_Pa_cheapestFirstSet_29 : decode c_Pa_cheapestFirstSet 29 = .ok (.goto (-25), 3) := by decide +kernel
theorem d_Pa_cheapestFirstSet_32 : decode c_Pa_cheapestFirstSet 32 = .ok (.iload_n 1, 1) := by decide +kernel
theorem d_Pa_cheapestFirstSet_33 : decode c_Pa_cheapestFirstSet 33 = .ok (.ireturn, 1) := by decide +kernel
theorem d_Pa_nextSet_0 : decode c_Pa_nextSet 0 = .ok (.aload_n 0, 1) := by decide +kernel
theorem d_Pa_nextSet_1 : decode c_Pa_nextSet 1 = .ok (.getfield 9, 3) := by decide +kernel
theorem d_Pa_nextSet_4 : decode c_Pa_nextSet 4 = .ok (.iload_n 1, 1) := by decide +kernel
theorem d_Pa_nextSet_5 : decode c_Pa_nextSet 5 = .ok (.invokevirtual 64, 3) := by decide +kernel
theorem d_Pa_nextSet_8 : decode c_Pa_nextSet 8 = .ok (.sipush 128, 3) := by decide +kernel
theorem d_Pa_nextSet_11 : decode c_Pa_nextSet 11 = .ok (.if_icmp .ne 7, 3) := by decide +kernel
theorem d_Pa_nextSet_14 : decode c_Pa_nextSet 14 = .ok (.iconst 1, 1) := by decide +kernel
theorem d_Pa_nextSet_15 : decode c_Pa_nextSet 15 = .ok (.goto 4, 3) := by decide +kernel
theorem d_Pa_nextSet_18 : decode c_Pa_nextSet 18 = .ok (.iconst 0, 1) := by decide +kernel
theorem d_Pa_nextSet_19 : decode c_Pa_nextSet 19 = .ok (.istore_n 3, 1) := by decide +kernel
theorem d_Pa_nextSet_20 : decode c_Pa_nextSet 20 = .ok (.iload_n 3, 1) := by decide +kernel
theorem d_Pa_nextSet_21 : decode c_Pa_nextSet 21 = .ok (.ifCond .ne 20, 3) := by decide +kernel
theorem d_Pa_nextSet_24 : decode c_Pa_nextSet 24 = .ok (.aload_n 0, 1) := by decide +kernel
theorem d_Pa_nextSet_25 : decode c_Pa_nextSet 25 = .ok (.iload_n 1, 1) := by decide +kernel
theorem d_Pa_nextSet_26 : decode c_Pa_nextSet 26 = .ok (.iload_n 2, 1) := by decide +kernel
theorem d_Pa_nextSet_27 : decode c_Pa_nextSet 27 = .ok (.invokevirtual 48, 3) := by decide +kernel
theorem d_Pa_nextSet_30 : decode c_Pa_nextSet 30 = .ok (.aload_n 0, 1) := by decide +kernel
theorem d_Pa_nextSet_31 : decode c_Pa_nextSet 31 = .ok (.iload_n 1, 1) := by decide +kernel
theorem d_Pa_nextSet_32 : decode c_Pa_nextSet 32 = .ok (.iload_n 2, 1) := by decide +kernel
theorem d_Pa_nextSet_33 : decode c_Pa_nextSet 33 = .ok (.invokevirtual 61, 3) := by decide +kernel
theorem d_Pa_nextSet_36 : decode c_Pa_nextSet 36 = .ok (.if_icmp .ne 5, 3) := by decide +kernel
theorem d_Pa_nextSet_39 : decode c_Pa_nextSet 39 = .ok (.iload_n 2, 1) := by decide +kernel
theorem d_Pa_nextSet_40 : decode c_Pa_nextSet 40 = .ok (.ireturn, 1) := by decide +kernel
theorem d_Pa_nextSet_41 : decode c_Pa_nextSet 41 = .ok (.iconst 2, 1) := by decide +kernel
theorem d_Pa_nextSet_42 : decode c_Pa_nextSet 42 = .ok (.istore 4, 2) := by decide +kernel
theorem d_Pa_nextSet_44 : decode c_Pa_nextSet 44 = .ok (.iload 4, 2) := by decide +kernel
theorem d_Pa_nextSet_46 : decode c_Pa_nextSet 46 = .ok (.ifCond .lt 36, 3) := by decide +kernel
theorem d_Pa_nextSet_49 : decode c_Pa_nextSet 49 = .ok (.iload 4, 2) := by decide +kernel
theorem d_Pa_nextSet_51 : decode c_Pa_nextSet 51 = .ok (.iload_n 2, 1) := by decide +kernel
theorem d_Pa_nextSet_52 : decode c_Pa_nextSet 52 = .ok (.if_icmp .eq 24, 3) := by decide +kernel
theorem d_Pa_nextSet_55 : decode c_Pa_nextSet 55 = .ok (.iconst 1, 1) := by decide +kernel
theorem d_Pa_nextSet_56 : decode c_Pa_nextSet 56 = .ok (.aload_n 0, 1) := by decide +kernel
theorem d_Pa_nextSet_57 : decode c_Pa_nextSet 57 = .ok (.iload_n 1, 1) := by decide +kernel
theorem d_Pa_nextSet_58 : decode c_Pa_nextSet 58 = .ok (.iload 4, 2) := by decide +kernel
theorem d_Pa_nextSet_60 : decode c_Pa_nextSet 60 = .ok (.invokevirtual 61, 3) := by decide +kernel
theorem d_Pa_nextSet_63 : decode c_Pa_nextSet 63 = .ok (.iadd, 1) := by decide +kernel
theorem d_Pa_nextSet_64 : decode c_Pa_nextSet 64 = .ok (.aload_n 0, 1) := by decide +kernel
theorem d_Pa_nextSet_65 : decode c_Pa_nextSet 65 = .ok (.iload_n 1, 1) := by decide +kernel
theorem d_Pa_nextSet_66 : decode c_Pa_nextSet 66 = .ok (.iload_n 2, 1) := by decide +kernel
theorem d_Pa_nextSet_67 : decode c_Pa_nextSet 67 = .ok (.invokevirtual 61, 3) := by decide +kernel
theorem d_Pa_nextSet_70 : decode c_Pa_nextSet 70 = .ok (.if_icmp .ne 6, 3) := by decide +kernel
theorem d_Pa_nextSet_73 : decode c_Pa_nextSet 73 = .ok (.iload 4, 2) := by decide +kernel
theorem d_Pa_nextSet_75 : decode c_Pa_nextSet 75 = .ok (.ireturn, 1) := by decide +kernel
theorem d_Pa_nextSet_76 : decode c_Pa_nextSet 76 = .ok (.iinc 4 (-1), 3) := by decide +kernel
theorem d_Pa_nextSet_79 : decode c_Pa_nextSet 79 = .ok (.goto (-35), 3) := by decide +kernel
theorem d_Pa_nextSet_82 : decode c_Pa_nextSet 82 = .ok (.iload_n 2, 1) := by decide +kernel
theorem d_Pa_nextSet_83 : decode c_Pa_nextSet 83 = .ok (.ireturn, 1) := by decide +kernel
theorem d_Pa_addTold_0 : decode c_Pa_addTold 0 = .ok (.aload_n 0, 1) := by decide +kernel
theorem d_Pa_addTold_1 : decode c_Pa_addTold 1 = .ok (.getfield 9, 3) := by decide +kernel
theorem d_Pa_addTold_4 : decode c_Pa_addTold 4 = .ok (.iload_n 1, 1) := by decide +kernel
theorem d_Pa_addTold_5 : decode c_Pa_addTold 5 = .ok (.invokevirtual 64, 3) := by decide +kernel
theorem d_Pa_addTold_8 : decode c_Pa_addTold 8 = .ok (.istore_n 3, 1) := by decide +kernel
theorem d_Pa_addTold_9 : decode c_Pa_addTold 9 = .ok (.iload_n 3, 1) := by decide +kernel
theorem d_Pa_addTold_10 : decode c_Pa_addTold 10 = .ok (.sipush 128, 3) := by decide +kernel
theorem d_Pa_addTold_13 : decode c_Pa_addTold 13 = .ok (.if_icmp .ne 15, 3) := by decide +kernel
theorem d_Pa_addTold_16 : decode c_Pa_addTold 16 = .ok (.aload_n 0, 1) := by decide +kernel
theorem d_Pa_addTold_17 : decode c_Pa_addTold 17 = .ok (.getfield 15, 3) := by decide +kernel
theorem d_Pa_addTold_20 : decode c_Pa_addTold 20 = .ok (.bipush 102, 2) := by decide +kernel
theorem d_Pa_addTold_22 : decode c_Pa_addTold 22 = .ok (.invokevirtual 43, 3) := by decide +kernel
theorem d_Pa_addTold_25 : decode c_Pa_addTold 25 = .ok (.pop, 1) := by decide +kernel
theorem d_Pa_addTold_26 : decode c_Pa_addTold 26 = .ok (.iconst 1, 1) := by decide +kernel
theorem d_Pa_addTold_27 : decode c_Pa_addTold 27 = .ok (.ireturn, 1) := by decide +kernel
theorem d_Pa_addTold_28 : decode c_Pa_addTold 28 = .ok (.iload_n 2, 1) := by decide +kernel
theorem d_Pa_addTold_29 : decode c_Pa_addTold 29 = .ok (.iconst 2, 1) := by decide +kernel
theorem d_Pa_addTold_30 : decode c_Pa_addTold 30 = .ok (.if_icmp .ne 27, 3) := by decide +kernel
theorem d_Pa_addTold_33 : decode c_Pa_addTold 33 = .ok (.aload_n 0, 1) := by decide +kernel
theorem d_Pa_addTold_34 : decode c_Pa_addTold 34 = .ok (.getfield 15, 3) := by decide +kernel
theorem d_Pa_addTold_37 : decode c_Pa_addTold 37 = .ok (.iload_n 3, 1) := by decide +kernel
theorem d_Pa_addTold_38 : decode c_Pa_addTold 38 = .ok (.aload_n 0, 1) := by decide +kernel
theorem d_Pa_addTold_39 : decode c_Pa_addTold 39 = .ok (.getfield 9, 3) := by decide +kernel
theorem d_Pa_addTold_42 : decode c_Pa_addTold 42 = .ok (.iload_n 1, 1) := by decide +kernel
theorem d_Pa_addTold_43 : decode c_Pa_addTold 43 = .ok (.iconst 1, 1) := by decide +kernel
theorem d_Pa_addTold_44 : decode c_Pa_addTold 44 = .ok (.iadd, 1) := by decide +kernel
theorem d_Pa_addTold_45 : decode c_Pa_addTold 45 = .ok (.invokevirtual 64, 3) := by decide +kernel
theorem d_Pa_addTold_48 : decode c_Pa_addTold 48 = .ok (.invokestatic 68, 3) := by decide +kernel
theorem d_Pa_addTold_51 : decode c_Pa_addTold 51 = .ok (.invokevirtual 43, 3) := by decide +kernel
theorem d_Pa_addTold_54 : decode c_Pa_addTold 54 = .ok (.pop, 1) := by decide +kernel
theorem d_Pa_addTold_55 : decode c_Pa_addTold 55 = .ok (.iconst 2, 1) := by decide +kernel
theorem d_Pa_addTold_56 : decode c_Pa_addTold 56 = .ok (.ireturn, 1) := by decide +kernel
theorem d_Pa_addTold_57 : decode c_Pa_addTold 57 = .ok (.iload_n 2, 1) := by decide +kernel
theorem d_Pa_addTold_58 : decode c_Pa_addTold 58 = .ok (.iload_n 3, 1) := by decide +kernel
theorem d_Pa_addTold_59 : decode c_Pa_addTold 59 = .ok (.invokestatic 71, 3) := by decide +kernel
theorem d_Pa_addTold_62 : decode c_Pa_addTold 62 = .ok (.istore 4, 2) := by decide +kernel
theorem d_Pa_addTold_64 : decode c_Pa_addTold 64 = .ok (.iload 4, 2) := by decide +kernel
theorem d_Pa_addTold_66 : decode c_Pa_addTold 66 = .ok (.iconst (-1), 1) := by decide +kernel
theorem d_Pa_addTold_67 : decode c_Pa_addTold 67 = .ok (.if_icmp .ne 23, 3) := by decide +kernel
theorem d_Pa_addTold_70 : decode c_Pa_addTold 70 = .ok (.aload_n 0, 1) := by decide +kernel
theorem d_Pa_addTold_71 : decode c_Pa_addTold 71 = .ok (.getfield 15, 3) := by decide +kernel
theorem d_Pa_addTold_74 : decode c_Pa_addTold 74 = .ok (.bipush 98, 2) := by decide +kernel
theorem d_Pa_addTold_76 : decode c_Pa_addTold 76 = .ok (.invokevirtual 43, 3) := by decide +kernel
theorem d_Pa_addTold_79 : decode c_Pa_addTold 79 = .ok (.pop, 1) := by decide +kernel
theorem d_Pa_addTold_80 : decode c_Pa_addTold 80 = .ok (.iload_n 2, 1) := by decide +kernel
theorem d_Pa_addTold_81 : decode c_Pa_addTold 81 = .ok (.invokestatic 89, 3) := by decide +kernel
theorem d_Pa_addTold_84 : decode c_Pa_addTold 84 = .ok (.iload_n 3, 1) := by decide +kernel
theorem d_Pa_addTold_85 : decode c_Pa_addTold 85 = .ok (.invokestatic 71, 3) := by decide +kernel
theorem d_Pa_addTold_88 : decode c_Pa_addTold 88 = .ok (.istore 4, 2) := by decide +kernel
theorem d_Pa_addTold_90 : decode c_Pa_addTold 90 = .ok (.aload_n 0, 1) := by decide +kernel
theorem d_Pa_addTold_91 : decode c_Pa_addTold 91 = .ok (.getfield 15, 3) := by decide +kernel
theorem d_Pa_addTold_94 : decode c_Pa_addTold 94 = .ok (.iload 4, 2) := by decide +kernel
theorem d_Pa_addTold_96 : decode c_Pa_addTold 96 = .ok (.invokevirtual 43, 3) := by decide +kernel
theorem d_Pa_addTold_99 : decode c_Pa_addTold 99 = .ok (.pop, 1) := by decide +kernel
theorem d_Pa_addTold_100 : decode c_Pa_addTold 100 = .ok (.iconst 1, 1) := by decide +kernel
theorem d_Pa_addTold_101 : decode c_Pa_addTold 101 = .ok (.ireturn, 1) := by decide +kernel
theorem d_Pa_checkSymbol_0 : decode c_Pa_checkSymbol 0 = .ok (.aload_n 0, 1) := by decide +kernel
theorem d_Pa_checkSymbol_1 : decode c_Pa_checkSymbol 1 = .ok (.getfield 15, 3) := by decide +kernel
theorem d_Pa_checkSymbol_4 : decode c_Pa_checkSymbol 4 = .ok (.iconst 0, 1) := by decide +kernel
theorem d_Pa_checkSymbol_5 : decode c_Pa_checkSymbol 5 = .ok (.invokevirtual 64, 3) := by decide +kernel
theorem d_Pa_checkSymbol_8 : decode c_Pa_checkSymbol 8 = .ok (.istore_n 1, 1) := by decide +kernel
theorem d_Pa_checkSymbol_9 : decode c_Pa_checkSymbol 9 = .ok (.iconst 1, 1) := by decide +kernel
theorem d_Pa_checkSymbol_10 : decode c_Pa_checkSymbol 10 = .ok (.istore_n 2, 1) := by decide +kernel
theorem d_Pa_checkSymbol_11 : decode c_Pa_checkSymbol 11 = .ok (.iload_n 2, 1) := by decide +kernel
theorem d_Pa_checkSymbol_12 : decode c_Pa_checkSymbol 12 = .ok (.aload_n 0, 1) := by decide +kernel
theorem d_Pa_checkSymbol_13 : decode c_Pa_checkSymbol 13 = .ok (.getfield 15, 3) := by decide +kernel
theorem d_Pa_checkSymbol_16 : decode c_Pa_checkSymbol 16 = .ok (.invokevirtual 24, 3) := by decide +kernel
theorem d_Pa_checkSymbol_19 : decode c_Pa_checkSymbol 19 = .ok (.if_icmp .ge 22, 3) := by decide +kernel
theorem d_Pa_checkSymbol_22 : decode c_Pa_checkSymbol 22 = .ok (.iload_n 1, 1) := by decide +kernel
theorem d_Pa_checkSymbol_23 : decode c_Pa_checkSymbol 23 = .ok (.iload_n 2, 1) := by decide +kernel
theorem d_Pa_checkSymbol_24 : decode c_Pa_checkSymbol 24 = .ok (.aload_n 0, 1) := by decide +kernel
theorem d_Pa_checkSymbol_25 : decode c_Pa_checkSymbol 25 = .ok (.getfield 15, 3) := by decide +kernel
theorem d_Pa_checkSymbol_28 : decode c_Pa_checkSymbol 28 = .ok (.iload_n 2, 1) := by decide +kernel
theorem d_Pa_checkSymbol_29 : decode c_Pa_checkSymbol 29 = .ok (.invokevirtual 64, 3) := by decide +kernel
theorem d_Pa_checkSymbol_32 : decode c_Pa_checkSymbol 32 = .ok (.imul, 1) := by decide +kernel
theorem d_Pa_checkSymbol_33 : decode c_Pa_checkSymbol 33 = .ok (.iadd, 1) := by decide +kernel
theorem d_Pa_checkSymbol_34 : decode c_Pa_checkSymbol 34 = .ok (.istore_n 1, 1) := by decide +kernel
theorem d_Pa_checkSymbol_35 : decode c_Pa_checkSymbol 35 = .ok (.iinc 2 1, 3) := by decide +kernel
theorem d_Pa_checkSymbol_38 : decode c_Pa_checkSymbol 38 = .ok (.goto (-27), 3) := by decide +kernel
theorem d_Pa_checkSymbol_41 : decode c_Pa_checkSymbol 41 = .ok (.iload_n 1, 1) := by decide +kernel
theorem d_Pa_checkSymbol_42 : decode c_Pa_checkSymbol 42 = .ok (.bipush 103, 2) := by decide +kernel
theorem d_Pa_checkSymbol_44 : decode c_Pa_checkSymbol 44 = .ok (.irem, 1) := by decide +kernel
theorem d_Pa_checkSymbol_45 : decode c_Pa_checkSymbol 45 = .ok (.ireturn, 1) := by decide +kernel
theorem d_Pa_cost_0 : decode c_Pa_cost 0 = .ok (.iconst 3, 1) := by decide +kernel
theorem d_Pa_cost_1 : decode c_Pa_cost 1 = .ok (.iload_n 1, 1) := by decide +kernel
theorem d_Pa_cost_2 : decode c_Pa_cost 2 = .ok (.imul, 1) := by decide +kernel
theorem d_Pa_cost_3 : decode c_Pa_cost 3 = .ok (.iload_n 2, 1) := by decide +kernel
theorem d_Pa_cost_4 : decode c_Pa_cost 4 = .ok (.iadd, 1) := by decide +kernel
theorem d_Pa_cost_5 : decode c_Pa_cost 5 = .ok (.istore_n 3, 1) := by decide +kernel
theorem d_Pa_cost_6 : decode c_Pa_cost 6 = .ok (.iload_n 3, 1) := by decide +kernel
theorem d_Pa_cost_7 : decode c_Pa_cost 7 = .ok (.ifCond .lt 21, 3) := by decide +kernel
theorem d_Pa_cost_10 : decode c_Pa_cost 10 = .ok (.iload_n 3, 1) := by decide +kernel
theorem d_Pa_cost_11 : decode c_Pa_cost 11 = .ok (.aload_n 0, 1) := by decide +kernel
theorem d_Pa_cost_12 : decode c_Pa_cost 12 = .ok (.getfield 20, 3) := by decide +kernel
theorem d_Pa_cost_15 : decode c_Pa_cost 15 = .ok (.arraylength, 1) := by decide +kernel
theorem d_Pa_cost_16 : decode c_Pa_cost 16 = .ok (.if_icmp .ge 12, 3) := by decide +kernel
theorem d_Pa_cost_19 : decode c_Pa_cost 19 = .ok (.aload_n 0, 1) := by decide +kernel
theorem d_Pa_cost_20 : decode c_Pa_cost 20 = .ok (.getfield 20, 3) := by decide +kernel
theorem d_Pa_cost_23 : decode c_Pa_cost 23 = .ok (.iload_n 3, 1) := by decide +kernel
theorem d_Pa_cost_24 : decode c_Pa_cost 24 = .ok (.iaload, 1) := by decide +kernel
theorem d_Pa_cost_25 : decode c_Pa_cost 25 = .ok (.goto 5, 3) := by decide +kernel
theorem d_Pa_cost_28 : decode c_Pa_cost 28 = .ok (.ldc 47, 2) := by decide +kernel
theorem d_Pa_cost_30 : decode c_Pa_cost 30 = .ok (.ireturn, 1) := by decide +kernel
theorem d_Pa_setCost_0 : decode c_Pa_setCost 0 = .ok (.iconst 3, 1) := by decide +kernel
theorem d_Pa_setCost_1 : decode c_Pa_setCost 1 = .ok (.iload_n 1, 1) := by decide +kernel
theorem d_Pa_setCost_2 : decode c_Pa_setCost 2 = .ok (.imul, 1) := by decide +kernel
theorem d_Pa_setCost_3 : decode c_Pa_setCost 3 = .ok (.iload_n 2, 1) := by decide +kernel
theorem d_Pa_setCost_4 : decode c_Pa_setCost 4 = .ok (.iadd, 1) := by decide +kernel
theorem d_Pa_setCost_5 : decode c_Pa_setCost 5 = .ok (.istore 4, 2) := by decide +kernel
theorem d_Pa_setCost_7 : decode c_Pa_setCost 7 = .ok (.iload 4, 2) := by decide +kernel
theorem d_Pa_setCost_9 : decode c_Pa_setCost 9 = .ok (.ifCond .lt 21, 3) := by decide +kernel
theorem d_Pa_setCost_12 : decode c_Pa_setCost 12 = .ok (.iload 4, 2) := by decide +kernel
theorem d_Pa_setCost_14 : decode c_Pa_setCost 14 = .ok (.aload_n 0, 1) := by decide +kernel
theorem d_Pa_setCost_15 : decode c_Pa_setCost 15 = .ok (.getfield 20, 3) := by decide +kernel
theorem d_Pa_setCost_18 : decode c_Pa_setCost 18 = .ok (.arraylength, 1) := by decide +kernel
theorem d_Pa_setCost_19 : decode c_Pa_setCost 19 = .ok (.if_icmp .ge 11, 3) := by decide +kernel
theorem d_Pa_setCost_22 : decode c_Pa_setCost 22 = .ok (.aload_n 0, 1) := by decide +kernel
theorem d_Pa_setCost_23 : decode c_Pa_setCost 23 = .ok (.getfield 20, 3) := by decide +kernel
theorem d_Pa_setCost_26 : decode c_Pa_setCost 26 = .ok (.iload 4, 2) := by decide +kernel
theorem d_Pa_setCost_28 : decode c_Pa_setCost 28 = .ok (.iload_n 3, 1) := by decide +kernel
theorem d_Pa_setCost_29 : decode c_Pa_setCost 29 = .ok (.iastore, 1) := by decide +kernel
theorem d_Pa_setCost_30 : decode c_Pa_setCost 30 = .ok (.return_, 1) := by decide +kernel
end
section
-- LineCodes$Packer.cost(II)I
def w_Pa_cost (post : Int32 → Prop) (f_costs : Nat → Int32) (x1 : Int32) (x2 : Int32) : Prop := (((3 * x1) + x2) < 0 → post 1000000) ∧ (¬ ((3 * x1) + x2) < 0 → (195 ≤ ((3 * x1) + x2) → post 1000000) ∧ (¬ 195 ≤ ((3 * x1) + x2) → vp_in ((3 * x1) + x2) 195 ∧ post (f_costs ((3 * x1) + x2).toNatClampNeg)))
abbrev rm_Pa_cost : Room := { frames := 0, cells := 0, slots := 0, locals := 0 }
set_option maxHeartbeats 4000000 in
set_option maxRecDepth 100000 in
theorem met_Pa_cost (l : Launch) (D : va_G) (Z : (Nat → Prop) → State → Heap → Prop) (hz : zk Z) (ad : Nat → Nat) (hk : zs Z ad) (a_this : Nat) (a_text : Nat) (a_text_items : Nat) (a_row : Nat) (a_row_items : Nat) (a_costs : Nat) (k_text_items : ClassId) (k_row_items : ClassId) (k_costs : ClassId) (v_text_count : Int32) (f_text_items : Nat → Int32) (v_row_count : Int32) (f_row_items : Nat → Int32) (f_costs : Nat → Int32) (x1 : Int32) (x2 : Int32) {post : Int32 → Prop} (hw : w_Pa_cost post f_costs x1 x2) : Met l y_Pa_cost ws_Pa_cost rm_Pa_cost (va_Pc [.ref a_this, .int x1, .int x2] (ro_ D vwCl [(k_text_items, .int), (k_row_items, .int), (k_costs, .int)] [(a_this, .inr (1, [.ref a_text, .ref a_row, .ref a_costs])), (a_text, .inr (0, [.ref a_text_items, .int v_text_count])), (a_text_items, .inl (k_text_items, 64, .inl f_text_items)), (a_row, .inr (0, [.ref a_row_items, .int v_row_count])), (a_row_items, .inl (k_row_items, 99, .inl f_row_items)), (a_costs, .inl (k_costs, 195, .inl f_costs))] (Z))) (vp_Si post) 0 0 (fun _ => False) := by
  refine Met.ofW (cc := c_Pa_cost) (maxL := 4) (ret := (some .int)) (by decide) rfl ?_
  intro p e s m args below meth c s₁ B hml hv
  obtain ⟨rfl, hP, hK, hZ⟩ := hv
  have hx := B.exec
  have hb := B.bytes
  have hr := B.returns
  have hts0 := atoms_spec (ws := ws_Pa_cost) B.pre
  have hts := fun (w : Cond) (h : w ∈ tb) => hts0 w (List.mem_cons_of_mem _ h)
  have hown : s.vm.findClass R_Pa = some m.cls := findClass_of_methodNamed B.named
  have hlocks := B.notSynchronized
  have hS : va_S (fun _ => False) s.heap s.heap [] := va_S.rf
  have hl := lv_entry ([.ref a_this, .int x1, .int x2]) (n := 4) (Nat.le_of_ble_eq_true rfl)
  rw [lg_entry_eq]
  generalize (lg_sl ([.ref a_this, .int x1, .int x2]) ++ List.replicate (4 - (lg_sl ([.ref a_this, .int x1, .int x2])).length) Slot.unset).toArray = ls at hl ⊢
  have hl : lv_has ls 4 [(0, .ref a_this), (1, .int x1), (2, .int x2)] := hl
  unfold w_Pa_cost at hw
  refine lv_iconst (v := 3) hx hb d_Pa_cost_0 (by decide) ?_
  refine lv_iload_n hx hb d_Pa_cost_1 rfl (lv_at hl 1 rfl) ?_
  refine lv_imul hx hb d_Pa_cost_2 ?_
  refine lv_iload_n hx hb d_Pa_cost_3 rfl (lv_at hl 2 rfl) ?_
  refine lv_iadd hx hb d_Pa_cost_4 ?_
  refine lv_istore_n (lv' := [(3, .int ((3 * x1) + x2)), (0, .ref a_this), (1, .int x1), (2, .int x2)]) hx hb d_Pa_cost_5 rfl hl (by decide) rfl (fun ls hl => ?_)
  refine lv_iload_n hx hb d_Pa_cost_6 rfl (lv_at hl 0 rfl) ?_
  refine lv_if_lt (tgt := 28) hx hb d_Pa_cost_7 (by decide) (fun c1 => ?_) (fun c1 => ?_)
  · have hw := hw.1 c1
    refine lv_ldc (v := 1000000) hx hb hown (hts _ mm_161) d_Pa_cost_28 ?_
    exact W.iret (v := 1000000) hx hb hr (fun t ht hW => ⟨1000000, rfl, hw, ht⟩) hS.2.2 d_Pa_cost_30
  · have hw := hw.2 c1
    refine lv_iload_n hx hb d_Pa_cost_10 rfl (lv_at hl 0 rfl) ?_
    refine lv_aload_n hx hb d_Pa_cost_11 rfl (lv_at hl 1 rfl) ?_
    refine va_get (D := D) (ci := 1) (v := .ref a_costs) (C := R_Pa) (T := T_Pa) (N := 3) hx hb hts in_Pa hown hK hP 0 rfl rfl 2 (by decide) (hts _ mm_89) (fun _ h9 => h9) rfl d_Pa_cost_12 ?_
    refine va_alen (v := 195) hx hb hK hP 5 2 rfl rfl rfl d_Pa_cost_15 ?_
    refine lv_icmp_ge (tgt := 28) hx hb d_Pa_cost_16 (by decide) (fun c2 => ?_) (fun c2 => ?_)
    · have hw := hw.1 c2
      refine lv_ldc (v := 1000000) hx hb hown (hts _ mm_161) d_Pa_cost_28 ?_
      exact W.iret (v := 1000000) hx hb hr (fun t ht hW => ⟨1000000, rfl, hw, ht⟩) hS.2.2 d_Pa_cost_30
    · have hw := hw.2 c2
      refine lv_aload_n hx hb d_Pa_cost_19 rfl (lv_at hl 1 rfl) ?_
      refine va_get (D := D) (ci := 1) (v := .ref a_costs) (C := R_Pa) (T := T_Pa) (N := 3) hx hb hts in_Pa hown hK hP 0 rfl rfl 2 (by decide) (hts _ mm_89) (fun _ h9 => h9) rfl d_Pa_cost_20 ?_
      refine lv_iload_n hx hb d_Pa_cost_23 rfl (lv_at hl 0 rfl) ?_
      have hi24 := hw.1
      have hw := hw.2
      refine va_iald hx hb hK hP 5 2 rfl rfl hi24 d_Pa_cost_24 ?_
      refine lv_goto (tgt := 30) hx hb d_Pa_cost_25 (by decide) ?_
      exact W.iret (v := (f_costs ((3 * x1) + x2).toNatClampNeg)) hx hb hr (fun t ht hW => ⟨(f_costs ((3 * x1) + x2).toNatClampNeg), rfl, hw, ht⟩) hS.2.2 d_Pa_cost_30
-- LineCodes$Packer.costOfTelling(II)I
def w_Pa_costOfTelling (post : Int32 → Prop) (v_text_count : Int32) (f_text_items : Nat → Int32) (f_costs : Nat → Int32) (x1 : Int32) (x2 : Int32) : Prop := w_It_at (fun r1 => (¬ r1 = 128 → (¬ x2 = 2 → w_Se_symbolOf (fun r4 => (r4 = (-1) → w_Pa_cost (fun r6 => post (2 + r6)) f_costs (x1 + 1) x2) ∧ (¬ r4 = (-1) → w_Pa_cost (fun r7 => post (1 + r7)) f_costs (x1 + 1) x2)) x2 r1) ∧ (x2 = 2 → w_It_at (fun r8 => w_Se_pairOf (fun r9 => (r9 = (-1) → post 1000000) ∧ (¬ r9 = (-1) → w_Pa_cost (fun r11 => post (1 + r11)) f_costs (x1 + 2) x2)) r1 r8) 64 v_text_count f_text_items (x1 + 1))) ∧ (r1 = 128 → w_Pa_cost (fun r12 => post (1 + r12)) f_costs (x1 + 1) x2)) 64 v_text_count f_text_items x1
abbrev rm_Pa_costOfTelling : Room := { frames := 2, cells := 0, slots := 0, locals := 41 }
set_option maxHeartbeats 4000000 in
set_option maxRecDepth 100000 in
theorem met_Pa_costOfTelling (l : Launch) (D : va_G) (Z : (Nat → Prop) → State → Heap → Prop) (hz : zk Z) (ad : Nat → Nat) (hk : zs Z ad) (a_this : Nat) (a_text : Nat) (a_text_items : Nat) (a_row : Nat) (a_row_items : Nat) (a_costs : Nat) (k_text_items : ClassId) (k_row_items : ClassId) (k_costs : ClassId) (v_text_count : Int32) (f_text_items : Nat → Int32) (v_row_count : Int32) (f_row_items : Nat → Int32) (f_costs : Nat → Int32) (x1 : Int32) (x2 : Int32) {post : Int32 → Prop} (hw : w_Pa_costOfTelling post v_text_count f_text_items f_costs x1 x2) : Met l y_Pa_costOfTelling ws_Pa_costOfTelling rm_Pa_costOfTelling (va_Pc [.ref a_this, .int x1, .int x2] (ro_ D vwCl [(k_text_items, .int), (k_row_items, .int), (k_costs, .int)] [(a_this, .inr (1, [.ref a_text, .ref a_row, .ref a_costs])), (a_text, .inr (0, [.ref a_text_items, .int v_text_count])), (a_text_items, .inl (k_text_items, 64, .inl f_text_items)), (a_row, .inr (0, [.ref a_row_items, .int v_row_count])), (a_row_items, .inl (k_row_items, 99, .inl f_row_items)), (a_costs, .inl (k_costs, 195, .inl f_costs))] (Z))) (vp_Si post) 0 0 (fun _ => False) := by
  refine Met.ofW (cc := c_Pa_costOfTelling) (maxL := 5) (ret := (some .int)) (by decide) rfl ?_
  intro p e s m args below meth c s₁ B hml hv
  obtain ⟨rfl, hP, hK, hZ⟩ := hv
  have hx := B.exec
  have hb := B.bytes
  have hr := B.returns
  have hts0 := atoms_spec (ws := ws_Pa_costOfTelling) B.pre
  have hts := fun (w : Cond) (h : w ∈ tb) => hts0 w (List.mem_cons_of_mem _ h)
  have hown : s.vm.findClass R_Pa = some m.cls := findClass_of_methodNamed B.named
  have hlocks := B.notSynchronized
  have hS : va_S (fun _ => False) s.heap s.heap [] := va_S.rf
  have hl := lv_entry ([.ref a_this, .int x1, .int x2]) (n := 5) (Nat.le_of_ble_eq_true rfl)
  rw [lg_entry_eq]
  generalize (lg_sl ([.ref a_this, .int x1, .int x2]) ++ List.replicate (5 - (lg_sl ([.ref a_this, .int x1, .int x2])).length) Slot.unset).toArray = ls at hl ⊢
  have hl : lv_has ls 5 [(0, .ref a_this), (1, .int x1), (2, .int x2)] := hl
  unfold w_Pa_costOfTelling at hw
  refine lv_aload_n hx hb d_Pa_costOfTelling_0 rfl (lv_at hl 0 rfl) ?_
  refine va_get (D := D) (ci := 1) (v := .ref a_text) (C := R_Pa) (T := T_Pa) (N := 3) hx hb hts in_Pa hown hK hP 0 rfl rfl 0 (by decide) (hts _ mm_87) (fun _ h9 => h9) rfl d_Pa_costOfTelling_1 ?_
  refine lv_iload_n hx hb d_Pa_costOfTelling_4 rfl (lv_at hl 1 rfl) ?_
  refine k_roVi (As := [.int x1]) (rest := []) hz [1, 2] [0] 1 0 ⟨hx, hb, hml, hown, hts⟩ (met_It_at l D Z hz ad hk a_text a_text_items k_text_items 64 v_text_count f_text_items x1 hw) (cwV 1 hts (g_V mm_166 mm_167 mm_168 mm_42 mm_169) rfl rfl rfl hd_It_at ⟨Nat.le_of_ble_eq_true rfl, Nat.le_of_ble_eq_true rfl⟩) hP hK hZ hS rfl rfl rfl rfl rfl hl.1 rfl (Nat.le_of_ble_eq_true rfl) d_Pa_costOfTelling_5 ⟨Nat.le_of_ble_eq_true rfl, Nat.le_of_ble_eq_true rfl⟩ (fun r1 hw => ?_)
  refine lv_istore_n (lv' := [(3, .int r1), (0, .ref a_this), (1, .int x1), (2, .int x2)]) hx hb d_Pa_costOfTelling_8 rfl hl (by decide) rfl (fun ls hl => ?_)
  refine lv_iload_n hx hb d_Pa_costOfTelling_9 rfl (lv_at hl 0 rfl) ?_
  refine lv_sipush (v := 128) hx hb d_Pa_costOfTelling_10 (by decide) ?_
  refine lv_icmp_ne (tgt := 27) hx hb d_Pa_costOfTelling_13 (by decide) (fun c2 => ?_) (fun c2 => ?_)
  · have hw := hw.1 c2
    refine lv_iload_n hx hb d_Pa_costOfTelling_27 rfl (lv_at hl 3 rfl) ?_
    refine lv_iconst (v := 2) hx hb d_Pa_costOfTelling_28 (by decide) ?_
    refine lv_icmp_ne (tgt := 78) hx hb d_Pa_costOfTelling_29 (by decide) (fun c3 => ?_) (fun c3 => ?_)
    · have hw := hw.1 c3
      refine lv_iload_n hx hb d_Pa_costOfTelling_78 rfl (lv_at hl 3 rfl) ?_
      refine lv_iload_n hx hb d_Pa_costOfTelling_79 rfl (lv_at hl 0 rfl) ?_
      refine k_roSi (As := [.int x2, .int r1]) (rest := []) hz [] [] ⟨hx, hb, hml, hown, hts⟩ (met_Se_symbolOf l D Z hz ad hk x2 r1 hw) (va_cwS 2 hts (g_S mm_180 mm_181 mm_51 mm_182) rfl rfl rfl hd_Se_symbolOf.2 ⟨Nat.le_of_ble_eq_true rfl, Nat.le_of_ble_eq_true rfl⟩) hP hK hZ hS rfl rfl rfl hl.1 rfl (Nat.le_of_ble_eq_true rfl) d_Pa_costOfTelling_80 ⟨Nat.le_of_ble_eq_true rfl, Nat.le_of_ble_eq_true rfl⟩ (fun r4 hw => ?_)
      refine lv_iconst (v := (-1)) hx hb d_Pa_costOfTelling_83 (by decide) ?_
      refine lv_icmp_eq (tgt := 91) hx hb d_Pa_costOfTelling_84 (by decide) (fun c5 => ?_) (fun c5 => ?_)
      · have hw := hw.1 c5
        refine lv_iconst (v := 0) hx hb d_Pa_costOfTelling_91 (by decide) ?_
        refine lv_istore (lv' := [(4, .int 0), (3, .int r1), (0, .ref a_this), (1, .int x1), (2, .int x2)]) hx hb d_Pa_costOfTelling_92 hl (by decide) rfl (fun ls hl => ?_)
        refine lv_iload hx hb d_Pa_costOfTelling_94 (lv_at hl 0 rfl) ?_
        refine lv_if_eq (tgt := 103) hx hb d_Pa_costOfTelling_96 (by decide) (fun _ => ?_) (fun c9 => absurd c9 (by decide))
        refine lv_iconst (v := 2) hx hb d_Pa_costOfTelling_103 (by decide) ?_
        refine lv_aload_n hx hb d_Pa_costOfTelling_104 rfl (lv_at hl 2 rfl) ?_
        refine lv_iload_n hx hb d_Pa_costOfTelling_105 rfl (lv_at hl 3 rfl) ?_
        refine lv_iconst (v := 1) hx hb d_Pa_costOfTelling_106 (by decide) ?_
        refine lv_iadd hx hb d_Pa_costOfTelling_107 ?_
        refine lv_iload_n hx hb d_Pa_costOfTelling_108 rfl (lv_at hl 4 rfl) ?_
        refine k_roVi (As := [.int (x1 + 1), .int x2]) (rest := [.int 2]) hz [0, 1, 2, 3, 4, 5] [0, 1, 2] 0 1 ⟨hx, hb, hml, hown, hts⟩ (met_Pa_cost l D Z hz ad hk a_this a_text a_text_items a_row a_row_items a_costs k_text_items k_row_items k_costs v_text_count f_text_items v_row_count f_row_items f_costs (x1 + 1) x2 hw) (cwV 2 hts (g_V mm_170 mm_172 mm_2 mm_44 mm_173) rfl rfl rfl hd_Pa_cost ⟨Nat.le_of_ble_eq_true rfl, Nat.le_of_ble_eq_true rfl⟩) hP hK hZ hS rfl rfl rfl rfl rfl hl.1 rfl (Nat.le_of_ble_eq_true rfl) d_Pa_costOfTelling_109 ⟨Nat.le_of_ble_eq_true rfl, Nat.le_of_ble_eq_true rfl⟩ (fun r6 hw => ?_)
        refine lv_iadd hx hb d_Pa_costOfTelling_112 ?_
        exact W.iret (v := (2 + r6)) hx hb hr (fun t ht hW => ⟨(2 + r6), rfl, hw, ht⟩) hS.2.2 d_Pa_costOfTelling_113
      · have hw := hw.2 c5
        refine lv_iconst (v := 1) hx hb d_Pa_costOfTelling_87 (by decide) ?_
        refine lv_goto (tgt := 92) hx hb d_Pa_costOfTelling_88 (by decide) ?_
        refine lv_istore (lv' := [(4, .int 1), (3, .int r1), (0, .ref a_this), (1, .int x1), (2, .int x2)]) hx hb d_Pa_costOfTelling_92 hl (by decide) rfl (fun ls hl => ?_)
        refine lv_iload hx hb d_Pa_costOfTelling_94 (lv_at hl 0 rfl) ?_
        refine lv_if_eq (tgt := 103) hx hb d_Pa_costOfTelling_96 (by decide) (fun c9 => absurd c9 (by decide)) (fun _ => ?_)
        refine lv_iconst (v := 1) hx hb d_Pa_costOfTelling_99 (by decide) ?_
        refine lv_goto (tgt := 104) hx hb d_Pa_costOfTelling_100 (by decide) ?_
        refine lv_aload_n hx hb d_Pa_costOfTelling_104 rfl (lv_at hl 2 rfl) ?_
        refine lv_iload_n hx hb d_Pa_costOfTelling_105 rfl (lv_at hl 3 rfl) ?_
        refine lv_iconst (v := 1) hx hb d_Pa_costOfTelling_106 (by decide) ?_
        refine lv_iadd hx hb d_Pa_costOfTelling_107 ?_
        refine lv_iload_n hx hb d_Pa_costOfTelling_108 rfl (lv_at hl 4 rfl) ?_
        refine k_roVi (As := [.int (x1 + 1), .int x2]) (rest := [.int 1]) hz [0, 1, 2, 3, 4, 5] [0, 1, 2] 0 1 ⟨hx, hb, hml, hown, hts⟩ (met_Pa_cost l D Z hz ad hk a_this a_text a_text_items a_row a_row_items a_costs k_text_items k_row_items k_costs v_text_count f_text_items v_row_count f_row_items f_costs (x1 + 1) x2 hw) (cwV 2 hts (g_V mm_170 mm_172 mm_2 mm_44 mm_173) rfl rfl rfl hd_Pa_cost ⟨Nat.le_of_ble_eq_true rfl, Nat.le_of_ble_eq_true rfl⟩) hP hK hZ hS rfl rfl rfl rfl rfl hl.1 rfl (Nat.le_of_ble_eq_true rfl) d_Pa_costOfTelling_109 ⟨Nat.le_of_ble_eq_true rfl, Nat.le_of_ble_eq_true rfl⟩ (fun r7 hw => ?_)
        refine lv_iadd hx hb d_Pa_costOfTelling_112 ?_
        exact W.iret (v := (1 + r7)) hx hb hr (fun t ht hW => ⟨(1 + r7), rfl, hw, ht⟩) hS.2.2 d_Pa_costOfTelling_113
    · have hw := hw.2 c3
      refine lv_iload_n hx hb d_Pa_costOfTelling_32 rfl (lv_at hl 0 rfl) ?_
      refine lv_aload_n hx hb d_Pa_costOfTelling_33 rfl (lv_at hl 1 rfl) ?_
      refine va_get (D := D) (ci := 1) (v := .ref a_text) (C := R_Pa) (T := T_Pa) (N := 3) hx hb hts in_Pa hown hK hP 0 rfl rfl 0 (by decide) (hts _ mm_87) (fun _ h9 => h9) rfl d_Pa_costOfTelling_34 ?_
      refine lv_iload_n hx hb d_Pa_costOfTelling_37 rfl (lv_at hl 2 rfl) ?_
      refine lv_iconst (v := 1) hx hb d_Pa_costOfTelling_38 (by decide) ?_
      refine lv_iadd hx hb d_Pa_costOfTelling_39 ?_
      refine k_roVi (As := [.int (x1 + 1)]) (rest := [.int r1]) hz [1, 2] [0] 1 0 ⟨hx, hb, hml, hown, hts⟩ (met_It_at l D Z hz ad hk a_text a_text_items k_text_items 64 v_text_count f_text_items (x1 + 1) hw) (cwV 1 hts (g_V mm_166 mm_167 mm_168 mm_42 mm_169) rfl rfl rfl hd_It_at ⟨Nat.le_of_ble_eq_true rfl, Nat.le_of_ble_eq_true rfl⟩) hP hK hZ hS rfl rfl rfl rfl rfl hl.1 rfl (Nat.le_of_ble_eq_true rfl) d_Pa_costOfTelling_40 ⟨Nat.le_of_ble_eq_true rfl, Nat.le_of_ble_eq_true rfl⟩ (fun r8 hw => ?_)
      refine k_roSi (As := [.int r1, .int r8]) (rest := []) hz [] [] ⟨hx, hb, hml, hown, hts⟩ (met_Se_pairOf l D Z hz ad hk r1 r8 hw) (va_cwS 2 hts (g_S mm_174 mm_175 mm_51 mm_176) rfl rfl rfl hd_Se_pairOf.2 ⟨Nat.le_of_ble_eq_true rfl, Nat.le_of_ble_eq_true rfl⟩) hP hK hZ hS rfl rfl rfl hl.1 rfl (Nat.le_of_ble_eq_true rfl) d_Pa_costOfTelling_43 ⟨Nat.le_of_ble_eq_true rfl, Nat.le_of_ble_eq_true rfl⟩ (fun r9 hw => ?_)
      refine lv_iconst (v := (-1)) hx hb d_Pa_costOfTelling_46 (by decide) ?_
      refine lv_icmp_eq (tgt := 54) hx hb d_Pa_costOfTelling_47 (by decide) (fun c10 => ?_) (fun c10 => ?_)
      · have hw := hw.1 c10
        refine lv_iconst (v := 0) hx hb d_Pa_costOfTelling_54 (by decide) ?_
        refine lv_istore (lv' := [(4, .int 0), (3, .int r1), (0, .ref a_this), (1, .int x1), (2, .int x2)]) hx hb d_Pa_costOfTelling_55 hl (by decide) rfl (fun ls hl => ?_)
        refine lv_iload hx hb d_Pa_costOfTelling_57 (lv_at hl 0 rfl) ?_
        refine lv_if_eq (tgt := 75) hx hb d_Pa_costOfTelling_59 (by decide) (fun _ => ?_) (fun c9 => absurd c9 (by decide))
        refine lv_ldc (v := 1000000) hx hb hown (hts _ mm_161) d_Pa_costOfTelling_75 ?_
        exact W.iret (v := 1000000) hx hb hr (fun t ht hW => ⟨1000000, rfl, hw, ht⟩) hS.2.2 d_Pa_costOfTelling_77
      · have hw := hw.2 c10
        refine lv_iconst (v := 1) hx hb d_Pa_costOfTelling_50 (by decide) ?_
        refine lv_goto (tgt := 55) hx hb d_Pa_costOfTelling_51 (by decide) ?_
        refine lv_istore (lv' := [(4, .int 1), (3, .int r1), (0, .ref a_this), (1, .int x1), (2, .int x2)]) hx hb d_Pa_costOfTelling_55 hl (by decide) rfl (fun ls hl => ?_)
        refine lv_iload hx hb d_Pa_costOfTelling_57 (lv_at hl 0 rfl) ?_
        refine lv_if_eq (tgt := 75) hx hb d_Pa_costOfTelling_59 (by decide) (fun c9 => absurd c9 (by decide)) (fun _ => ?_)
        refine lv_iconst (v := 1) hx hb d_Pa_costOfTelling_62 (by decide) ?_
        refine lv_aload_n hx hb d_Pa_costOfTelling_63 rfl (lv_at hl 2 rfl) ?_
        refine lv_iload_n hx hb d_Pa_costOfTelling_64 rfl (lv_at hl 3 rfl) ?_
        refine lv_iconst (v := 2) hx hb d_Pa_costOfTelling_65 (by decide) ?_
        refine lv_iadd hx hb d_Pa_costOfTelling_66 ?_
        refine lv_iload_n hx hb d_Pa_costOfTelling_67 rfl (lv_at hl 4 rfl) ?_
        refine k_roVi (As := [.int (x1 + 2), .int x2]) (rest := [.int 1]) hz [0, 1, 2, 3, 4, 5] [0, 1, 2] 0 1 ⟨hx, hb, hml, hown, hts⟩ (met_Pa_cost l D Z hz ad hk a_this a_text a_text_items a_row a_row_items a_costs k_text_items k_row_items k_costs v_text_count f_text_items v_row_count f_row_items f_costs (x1 + 2) x2 hw) (cwV 2 hts (g_V mm_170 mm_172 mm_2 mm_44 mm_173) rfl rfl rfl hd_Pa_cost ⟨Nat.le_of_ble_eq_true rfl, Nat.le_of_ble_eq_true rfl⟩) hP hK hZ hS rfl rfl rfl rfl rfl hl.1 rfl (Nat.le_of_ble_eq_true rfl) d_Pa_costOfTelling_68 ⟨Nat.le_of_ble_eq_true rfl, Nat.le_of_ble_eq_true rfl⟩ (fun r11 hw => ?_)
        refine lv_iadd hx hb d_Pa_costOfTelling_71 ?_
        refine lv_goto (tgt := 77) hx hb d_Pa_costOfTelling_72 (by decide) ?_
        exact W.iret (v := (1 + r11)) hx hb hr (fun t ht hW => ⟨(1 + r11), rfl, hw, ht⟩) hS.2.2 d_Pa_costOfTelling_77
  · have hw := hw.2 c2
    refine lv_iconst (v := 1) hx hb d_Pa_costOfTelling_16 (by decide) ?_
    refine lv_aload_n hx hb d_Pa_costOfTelling_17 rfl (lv_at hl 1 rfl) ?_
    refine lv_iload_n hx hb d_Pa_costOfTelling_18 rfl (lv_at hl 2 rfl) ?_
    refine lv_iconst (v := 1) hx hb d_Pa_costOfTelling_19 (by decide) ?_
    refine lv_iadd hx hb d_Pa_costOfTelling_20 ?_
    refine lv_iload_n hx hb d_Pa_costOfTelling_21 rfl (lv_at hl 3 rfl) ?_
    refine k_roVi (As := [.int (x1 + 1), .int x2]) (rest := [.int 1]) hz [0, 1, 2, 3, 4, 5] [0, 1, 2] 0 1 ⟨hx, hb, hml, hown, hts⟩ (met_Pa_cost l D Z hz ad hk a_this a_text a_text_items a_row a_row_items a_costs k_text_items k_row_items k_costs v_text_count f_text_items v_row_count f_row_items f_costs (x1 + 1) x2 hw) (cwV 2 hts (g_V mm_170 mm_172 mm_2 mm_44 mm_173) rfl rfl rfl hd_Pa_cost ⟨Nat.le_of_ble_eq_true rfl, Nat.le_of_ble_eq_true rfl⟩) hP hK hZ hS rfl rfl rfl rfl rfl hl.1 rfl (Nat.le_of_ble_eq_true rfl) d_Pa_costOfTelling_22 ⟨Nat.le_of_ble_eq_true rfl, Nat.le_of_ble_eq_true rfl⟩ (fun r12 hw => ?_)
    refine lv_iadd hx hb d_Pa_costOfTelling_25 ?_
    exact W.iret (v := (1 + r12)) hx hb hr (fun t ht hW => ⟨(1 + r12), rfl, hw, ht⟩) hS.2.2 d_Pa_costOfTelling_26
-- LineCodes$Packer.setCost(III)V
def w_Pa_setCost (post : (Nat → Int32) → Prop) (f_costs : Nat → Int32) (x1 : Int32) (x2 : Int32) (x3 : Int32) : Prop := (((3 * x1) + x2) < 0 → post f_costs) ∧ (¬ ((3 * x1) + x2) < 0 → (195 ≤ ((3 * x1) + x2) → post f_costs) ∧ (¬ 195 ≤ ((3 * x1) + x2) → vp_in ((3 * x1) + x2) 195 ∧ post (upd f_costs ((3 * x1) + x2).toNatClampNeg x3)))
abbrev rm_Pa_setCost : Room := { frames := 0, cells := 0, slots := 0, locals := 0 }
set_option maxHeartbeats 4000000 in
set_option maxRecDepth 100000 in
theorem met_Pa_setCost (l : Launch) (D : va_G) (Z : (Nat → Prop) → State → Heap → Prop) (hz : zk Z) (ad : Nat → Nat) (hk : zs Z ad) (a_this : Nat) (a_text : Nat) (a_text_items : Nat) (a_row : Nat) (a_row_items : Nat) (a_costs : Nat) (k_text_items : ClassId) (k_row_items : ClassId) (k_costs : ClassId) (v_text_count : Int32) (f_text_items : Nat → Int32) (v_row_count : Int32) (f_row_items : Nat → Int32) (f_costs : Nat → Int32) (x1 : Int32) (x2 : Int32) (x3 : Int32) (sz : Nat) {post : (Nat → Int32) → Prop} (hw : w_Pa_setCost post f_costs x1 x2 x3) : Met l y_Pa_setCost ws_Pa_setCost rm_Pa_setCost (va_Pc [.ref a_this, .int x1, .int x2, .int x3] (rw_ D vwCl [(k_text_items, .int), (k_row_items, .int), (k_costs, .int)] [(a_this, .inr (1, [.ref a_text, .ref a_row, .ref a_costs])), (a_text, .inr (0, [.ref a_text_items, .int v_text_count])), (a_text_items, .inl (k_text_items, 64, .inl f_text_items)), (a_row, .inr (0, [.ref a_row_items, .int v_row_count])), (a_row_items, .inl (k_row_items, 99, .inl f_row_items)), (a_costs, .inl (k_costs, 195, .inl f_costs))] (Z) sz)) (va_Qv (fun u : (Nat → Int32) => post u) (fun u t => at_ D vwCl [(k_text_items, .int), (k_row_items, .int), (k_costs, .int)] (va_A [(a_this, .inr (1, [.ref a_text, .ref a_row, .ref a_costs])), (a_text, .inr (0, [.ref a_text_items, .int v_text_count])), (a_text_items, .inl (k_text_items, 64, .inl f_text_items)), (a_row, .inr (0, [.ref a_row_items, .int v_row_count])), (a_row_items, .inl (k_row_items, 99, .inl f_row_items)), (a_costs, .inl (k_costs, 195, .inl f_costs))] sz) [(a_this, .inr (1, [.ref a_text, .ref a_row, .ref a_costs])), (a_text, .inr (0, [.ref a_text_items, .int v_text_count])), (a_text_items, .inl (k_text_items, 64, .inl f_text_items)), (a_row, .inr (0, [.ref a_row_items, .int v_row_count])), (a_row_items, .inl (k_row_items, 99, .inl f_row_items)), (a_costs, .inl (k_costs, 195, .inl u))] t) (va_A [(a_this, .inr (1, [.ref a_text, .ref a_row, .ref a_costs])), (a_text, .inr (0, [.ref a_text_items, .int v_text_count])), (a_text_items, .inl (k_text_items, 64, .inl f_text_items)), (a_row, .inr (0, [.ref a_row_items, .int v_row_count])), (a_row_items, .inl (k_row_items, 99, .inl f_row_items)), (a_costs, .inl (k_costs, 195, .inl f_costs))] sz)) 0 0 (va_A [(a_this, .inr (1, [.ref a_text, .ref a_row, .ref a_costs])), (a_text, .inr (0, [.ref a_text_items, .int v_text_count])), (a_text_items, .inl (k_text_items, 64, .inl f_text_items)), (a_row, .inr (0, [.ref a_row_items, .int v_row_count])), (a_row_items, .inl (k_row_items, 99, .inl f_row_items)), (a_costs, .inl (k_costs, 195, .inl f_costs))] sz) := by
  refine Met.ofW (cc := c_Pa_setCost) (maxL := 5) (ret := (none)) (by decide) rfl ?_
  intro p e s m args below meth c s₁ B hml hv
  obtain ⟨rfl, hsz, hP, hK, hD0, hZ⟩ := hv
  have hx := B.exec
  have hb := B.bytes
  have hr := B.returns
  have hts0 := atoms_spec (ws := ws_Pa_setCost) B.pre
  have hts := fun (w : Cond) (h : w ∈ tb) => hts0 w (List.mem_cons_of_mem _ h)
  have hown : s.vm.findClass R_Pa = some m.cls := findClass_of_methodNamed B.named
  have hlocks := B.notSynchronized
  subst hsz
  have hD := hD0.self (sz := s.heap.size)
  generalize hAe : va_A [(a_this, .inr (1, [.ref a_text, .ref a_row, .ref a_costs])), (a_text, .inr (0, [.ref a_text_items, .int v_text_count])), (a_text_items, .inl (k_text_items, 64, .inl f_text_items)), (a_row, .inr (0, [.ref a_row_items, .int v_row_count])), (a_row_items, .inl (k_row_items, 99, .inl f_row_items)), (a_costs, .inl (k_costs, 195, .inl f_costs))] s.heap.size = A at hD hZ ⊢
  have hA : ∀ q : Nat, s.heap.size ≤ q → A q := fun q h => by rw [← hAe]; exact Or.inr h
  have hS : va_S A s.heap s.heap [] := va_S.rf
  have hl := lv_entry ([.ref a_this, .int x1, .int x2, .int x3]) (n := 5) (Nat.le_of_ble_eq_true rfl)
  rw [lg_entry_eq]
  generalize (lg_sl ([.ref a_this, .int x1, .int x2, .int x3]) ++ List.replicate (5 - (lg_sl ([.ref a_this, .int x1, .int x2, .int x3])).length) Slot.unset).toArray = ls at hl ⊢
  have hl : lv_has ls 5 [(0, .ref a_this), (1, .int x1), (2, .int x2), (3, .int x3)] := hl
  unfold w_Pa_setCost at hw
  refine lv_iconst (v := 3) hx hb d_Pa_setCost_0 (by decide) ?_
  refine lv_iload_n hx hb d_Pa_setCost_1 rfl (lv_at hl 1 rfl) ?_
  refine lv_imul hx hb d_Pa_setCost_2 ?_
  refine lv_iload_n hx hb d_Pa_setCost_3 rfl (lv_at hl 2 rfl) ?_
  refine lv_iadd hx hb d_Pa_setCost_4 ?_
  refine lv_istore (lv' := [(4, .int ((3 * x1) + x2)), (0, .ref a_this), (1, .int x1), (2, .int x2), (3, .int x3)]) hx hb d_Pa_setCost_5 hl (by decide) rfl (fun ls hl => ?_)
  refine lv_iload hx hb d_Pa_setCost_7 (lv_at hl 0 rfl) ?_
  refine lv_if_lt (tgt := 30) hx hb d_Pa_setCost_9 (by decide) (fun c1 => ?_) (fun c1 => ?_)
  · have hw := hw.1 c1
    have hP9 := hP.sub (ws' := [(a_this, .inr (1, [.ref a_text, .ref a_row, .ref a_costs])), (a_text, .inr (0, [.ref a_text_items, .int v_text_count])), (a_text_items, .inl (k_text_items, 64, .inl f_text_items)), (a_row, .inr (0, [.ref a_row_items, .int v_row_count])), (a_row_items, .inl (k_row_items, 99, .inl f_row_items)), (a_costs, .inl (k_costs, 195, .inl f_costs))]) [0, 1, 2, 3, 4, 5] rfl
    have hD9 := hD.sub (ws' := [(a_this, .inr (1, [.ref a_text, .ref a_row, .ref a_costs])), (a_text, .inr (0, [.ref a_text_items, .int v_text_count])), (a_text_items, .inl (k_text_items, 64, .inl f_text_items)), (a_row, .inr (0, [.ref a_row_items, .int v_row_count])), (a_row_items, .inl (k_row_items, 99, .inl f_row_items)), (a_costs, .inl (k_costs, 195, .inl f_costs))]) [0, 1, 2, 3, 4, 5] (by decide) rfl
    exact W.vret hx hb hr (fun t ht hW => ⟨⟨f_costs, rfl, hw, by rw [ht]; exact hP9, va_K.moved hW.alike hK, hD9⟩, hS.F ht⟩) hS.2.2 d_Pa_setCost_30
  · have hw := hw.2 c1
    refine lv_iload hx hb d_Pa_setCost_12 (lv_at hl 0 rfl) ?_
    refine lv_aload_n hx hb d_Pa_setCost_14 rfl (lv_at hl 1 rfl) ?_
    refine va_get (D := D) (ci := 1) (v := .ref a_costs) (C := R_Pa) (T := T_Pa) (N := 3) hx hb hts in_Pa hown hK hP 0 rfl rfl 2 (by decide) (hts _ mm_89) (fun _ h9 => h9) rfl d_Pa_setCost_15 ?_
    refine va_alen (v := 195) hx hb hK hP 5 2 rfl rfl rfl d_Pa_setCost_18 ?_
    refine lv_icmp_ge (tgt := 30) hx hb d_Pa_setCost_19 (by decide) (fun c2 => ?_) (fun c2 => ?_)
    · have hw := hw.1 c2
      have hP9 := hP.sub (ws' := [(a_this, .inr (1, [.ref a_text, .ref a_row, .ref a_costs])), (a_text, .inr (0, [.ref a_text_items, .int v_text_count])), (a_text_items, .inl (k_text_items, 64, .inl f_text_items)), (a_row, .inr (0, [.ref a_row_items, .int v_row_count])), (a_row_items, .inl (k_row_items, 99, .inl f_row_items)), (a_costs, .inl (k_costs, 195, .inl f_costs))]) [0, 1, 2, 3, 4, 5] rfl
      have hD9 := hD.sub (ws' := [(a_this, .inr (1, [.ref a_text, .ref a_row, .ref a_costs])), (a_text, .inr (0, [.ref a_text_items, .int v_text_count])), (a_text_items, .inl (k_text_items, 64, .inl f_text_items)), (a_row, .inr (0, [.ref a_row_items, .int v_row_count])), (a_row_items, .inl (k_row_items, 99, .inl f_row_items)), (a_costs, .inl (k_costs, 195, .inl f_costs))]) [0, 1, 2, 3, 4, 5] (by decide) rfl
      exact W.vret hx hb hr (fun t ht hW => ⟨⟨f_costs, rfl, hw, by rw [ht]; exact hP9, va_K.moved hW.alike hK, hD9⟩, hS.F ht⟩) hS.2.2 d_Pa_setCost_30
    · have hw := hw.2 c2
      refine lv_aload_n hx hb d_Pa_setCost_22 rfl (lv_at hl 1 rfl) ?_
      refine va_get (D := D) (ci := 1) (v := .ref a_costs) (C := R_Pa) (T := T_Pa) (N := 3) hx hb hts in_Pa hown hK hP 0 rfl rfl 2 (by decide) (hts _ mm_89) (fun _ h9 => h9) rfl d_Pa_setCost_23 ?_
      refine lv_iload hx hb d_Pa_setCost_26 (lv_at hl 0 rfl) ?_
      refine lv_iload_n hx hb d_Pa_setCost_28 rfl (lv_at hl 4 rfl) ?_
      have hi29 := hw.1
      have hw := hw.2
      refine va_iast hx hb hK hP hD hS 5 2 rfl rfl hi29 d_Pa_setCost_29 (fun H locs hP hD hS => ?_)
      have hP : va_P D vwCl [(a_this, .inr (1, [.ref a_text, .ref a_row, .ref a_costs])), (a_text, .inr (0, [.ref a_text_items, .int v_text_count])), (a_text_items, .inl (k_text_items, 64, .inl f_text_items)), (a_row, .inr (0, [.ref a_row_items, .int v_row_count])), (a_row_items, .inl (k_row_items, 99, .inl f_row_items)), (a_costs, .inl (k_costs, 195, .inl (upd f_costs ((3 * x1) + x2).toNatClampNeg x3)))] H := hP
      have hD : va_D A [(a_this, .inr (1, [.ref a_text, .ref a_row, .ref a_costs])), (a_text, .inr (0, [.ref a_text_items, .int v_text_count])), (a_text_items, .inl (k_text_items, 64, .inl f_text_items)), (a_row, .inr (0, [.ref a_row_items, .int v_row_count])), (a_row_items, .inl (k_row_items, 99, .inl f_row_items)), (a_costs, .inl (k_costs, 195, .inl (upd f_costs ((3 * x1) + x2).toNatClampNeg x3)))] := hD
      have hP9 := hP.sub (ws' := [(a_this, .inr (1, [.ref a_text, .ref a_row, .ref a_costs])), (a_text, .inr (0, [.ref a_text_items, .int v_text_count])), (a_text_items, .inl (k_text_items, 64, .inl f_text_items)), (a_row, .inr (0, [.ref a_row_items, .int v_row_count])), (a_row_items, .inl (k_row_items, 99, .inl f_row_items)), (a_costs, .inl (k_costs, 195, .inl (upd f_costs ((3 * x1) + x2).toNatClampNeg x3)))]) [0, 1, 2, 3, 4, 5] rfl
      have hD9 := hD.sub (ws' := [(a_this, .inr (1, [.ref a_text, .ref a_row, .ref a_costs])), (a_text, .inr (0, [.ref a_text_items, .int v_text_count])), (a_text_items, .inl (k_text_items, 64, .inl f_text_items)), (a_row, .inr (0, [.ref a_row_items, .int v_row_count])), (a_row_items, .inl (k_row_items, 99, .inl f_row_items)), (a_costs, .inl (k_costs, 195, .inl (upd f_costs ((3 * x1) + x2).toNatClampNeg x3)))]) [0, 1, 2, 3, 4, 5] (by decide) rfl
      exact W.vret hx hb hr (fun t ht hW => ⟨⟨(upd f_costs ((3 * x1) + x2).toNatClampNeg x3), rfl, hw, by rw [ht]; exact hP9, va_K.moved hW.alike hK, hD9⟩, hS.F ht⟩) hS.2.2 d_Pa_setCost_30
-- LineCodes$Packer.fillCosts(I)V
def w_Pa_fillCosts_56 (post : (Nat → Int32) → Prop) (x1 : Int32) (y2 : Int32) : Nat → (Nat → Int32) → Int32 → Prop
  | 0, _, _ => False
  | n + 1, f_costs, y3 => (3 ≤ y3 → post f_costs) ∧ (¬ 3 ≤ y3 → w_Pa_cost (fun r3 => w_Pa_setCost (fun s4 => w_Pa_fillCosts_56 post x1 y2 n s4 (y3 + 1)) f_costs x1 y3 (if (y2 + 1) < r3 then (y2 + 1) else r3)) f_costs x1 y3)
def w_Pa_fillCosts_5 (post : (Nat → Int32) → Prop) (v_text_count : Int32) (f_text_items : Nat → Int32) (x1 : Int32) : Nat → (Nat → Int32) → Int32 → Int32 → Prop
  | 0, _, _, _ => False
  | n + 1, f_costs, y2, y3 => (3 ≤ y3 → ∃ n, w_Pa_fillCosts_56 post x1 y2 n f_costs 0) ∧ (¬ 3 ≤ y3 → w_It_count (fun r5 => (¬ x1 = r5 → w_Pa_costOfTelling (fun r7 => w_Pa_setCost (fun s8 => w_Pa_fillCosts_5 post v_text_count f_text_items x1 n s8 (if r7 < y2 then r7 else y2) (y3 + 1)) f_costs x1 y3 r7) v_text_count f_text_items f_costs x1 y3) ∧ (x1 = r5 → w_Pa_setCost (fun s9 => w_Pa_fillCosts_5 post v_text_count f_text_items x1 n s9 (if 0 < y2 then 0 else y2) (y3 + 1)) f_costs x1 y3 0)) v_text_count)
def w_Pa_fillCosts (post : (Nat → Int32) → Prop) (v_text_count : Int32) (f_text_items : Nat → Int32) (f_costs : Nat → Int32) (x1 : Int32) : Prop := ∃ n, w_Pa_fillCosts_5 post v_text_count f_text_items x1 n f_costs 1000000 0
abbrev rm_Pa_fillCosts : Room := { frames := 3, cells := 0, slots := 0, locals := 65 }
set_option maxHeartbeats 4000000 in
set_option maxRecDepth 100000 in
theorem lp_Pa_fillCosts_56 (l : Launch) (D : va_G) (Z : (Nat → Prop) → State → Heap → Prop) (hz : zk Z) (ad : Nat → Nat) (hk : zs Z ad) {p : Program} {e : Env} {s : State} {m : MethodId} {args : Array Value} {below : List Frame} {meth : Method} {c : Code} {A : Nat → Prop} (a_this : Nat) (a_text : Nat) (a_text_items : Nat) (a_row : Nat) (a_row_items : Nat) (a_costs : Nat) (k_text_items : ClassId) (k_row_items : ClassId) (k_costs : ClassId) (v_text_count : Int32) (f_text_items : Nat → Int32) (v_row_count : Int32) (f_row_items : Nat → Int32) (x1 : Int32) (y2 : Int32) {post : (Nat → Int32) → Prop} (hx : p.tables.exec = Jvm.exec) (hb : c.code = c_Pa_fillCosts) (hml : c.maxLocals = 5) (hr : meth.sig.returnType = (none)) (hts : ∀ w ∈ tb, w.before args s = true) (hown : s.vm.findClass R_Pa = some m.cls) (hlocks : meth.locks = false) (hK : va_K D vwCl [(k_text_items, .int), (k_row_items, .int), (k_costs, .int)] s) (hZ : Z A s s.heap) (hA : ∀ q, s.heap.size ≤ q → A q) : ∀ (n : Nat) (f_costs : Nat → Int32) (y3 : Int32), w_Pa_fillCosts_56 post x1 y2 n f_costs y3 → ∀ (H : Heap) (locs : List Loc), va_P D vwCl [(a_this, .inr (1, [.ref a_text, .ref a_row, .ref a_costs])), (a_text, .inr (0, [.ref a_text_items, .int v_text_count])), (a_text_items, .inl (k_text_items, 64, .inl f_text_items)), (a_row, .inr (0, [.ref a_row_items, .int v_row_count])), (a_row_items, .inl (k_row_items, 99, .inl f_row_items)), (a_costs, .inl (k_costs, 195, .inl f_costs))] H → va_D A [(a_this, .inr (1, [.ref a_text, .ref a_row, .ref a_costs])), (a_text, .inr (0, [.ref a_text_items, .int v_text_count])), (a_text_items, .inl (k_text_items, 64, .inl f_text_items)), (a_row, .inr (0, [.ref a_row_items, .int v_row_count])), (a_row_items, .inl (k_row_items, 99, .inl f_row_items)), (a_costs, .inl (k_costs, 195, .inl f_costs))] → va_S A s.heap H locs → ∀ ls : Array Slot, lv_has ls 5 [(0, .ref a_this), (1, .int x1), (2, .int y2), (3, .int y3)] → W p l e (headSpec ws_Pa_fillCosts rm_Pa_fillCosts).room s m args below meth c H locs 0 0 (MQ below (va_Qv (fun u : (Nat → Int32) => post u) (fun u t => at_ D vwCl [(k_text_items, .int), (k_row_items, .int), (k_costs, .int)] A [(a_this, .inr (1, [.ref a_text, .ref a_row, .ref a_costs])), (a_text, .inr (0, [.ref a_text_items, .int v_text_count])), (a_text_items, .inl (k_text_items, 64, .inl f_text_items)), (a_row, .inr (0, [.ref a_row_items, .int v_row_count])), (a_row_items, .inl (k_row_items, 99, .inl f_row_items)), (a_costs, .inl (k_costs, 195, .inl u))] t) A) args s 0 0 A) (F0 m 56 ls []) := by
  intro n
  induction n with
  | zero =>
    intro f_costs y3 hw
    unfold w_Pa_fillCosts_56 at hw
    exact hw.elim
  | succ n ih =>
    intro f_costs y3 hw H locs hP hD hS ls hl
    unfold w_Pa_fillCosts_56 at hw
    refine lv_iload_n hx hb d_Pa_fillCosts_56 rfl (lv_at hl 3 rfl) ?_
    refine lv_iconst (v := 3) hx hb d_Pa_fillCosts_57 (by decide) ?_
    refine lv_icmp_ge (tgt := 85) hx hb d_Pa_fillCosts_58 (by decide) (fun c2 => ?_) (fun c2 => ?_)
    · have hw := hw.1 c2
      have hP9 := hP.sub (ws' := [(a_this, .inr (1, [.ref a_text, .ref a_row, .ref a_costs])), (a_text, .inr (0, [.ref a_text_items, .int v_text_count])), (a_text_items, .inl (k_text_items, 64, .inl f_text_items)), (a_row, .inr (0, [.ref a_row_items, .int v_row_count])), (a_row_items, .inl (k_row_items, 99, .inl f_row_items)), (a_costs, .inl (k_costs, 195, .inl f_costs))]) [0, 1, 2, 3, 4, 5] rfl
      have hD9 := hD.sub (ws' := [(a_this, .inr (1, [.ref a_text, .ref a_row, .ref a_costs])), (a_text, .inr (0, [.ref a_text_items, .int v_text_count])), (a_text_items, .inl (k_text_items, 64, .inl f_text_items)), (a_row, .inr (0, [.ref a_row_items, .int v_row_count])), (a_row_items, .inl (k_row_items, 99, .inl f_row_items)), (a_costs, .inl (k_costs, 195, .inl f_costs))]) [0, 1, 2, 3, 4, 5] (by decide) rfl
      exact W.vret hx hb hr (fun t ht hW => ⟨⟨f_costs, rfl, hw, by rw [ht]; exact hP9, va_K.moved hW.alike hK, hD9⟩, hS.F ht⟩) hS.2.2 d_Pa_fillCosts_85
    · have hw := hw.2 c2
      refine lv_aload_n hx hb d_Pa_fillCosts_61 rfl (lv_at hl 0 rfl) ?_
      refine lv_iload_n hx hb d_Pa_fillCosts_62 rfl (lv_at hl 1 rfl) ?_
      refine lv_iload_n hx hb d_Pa_fillCosts_63 rfl (lv_at hl 3 rfl) ?_
      refine lv_aload_n hx hb d_Pa_fillCosts_64 rfl (lv_at hl 0 rfl) ?_
      refine lv_iload_n hx hb d_Pa_fillCosts_65 rfl (lv_at hl 1 rfl) ?_
      refine lv_iload_n hx hb d_Pa_fillCosts_66 rfl (lv_at hl 3 rfl) ?_
      refine k_roVi (As := [.int x1, .int y3]) (rest := [.int y3, .int x1, .ref a_this]) hz [0, 1, 2, 3, 4, 5] [0, 1, 2] 0 1 ⟨hx, hb, hml, hown, hts⟩ (met_Pa_cost l D Z hz ad hk a_this a_text a_text_items a_row a_row_items a_costs k_text_items k_row_items k_costs v_text_count f_text_items v_row_count f_row_items f_costs x1 y3 hw) (cwV 2 hts (g_V mm_170 mm_172 mm_2 mm_44 mm_173) rfl rfl rfl hd_Pa_cost ⟨Nat.le_of_ble_eq_true rfl, Nat.le_of_ble_eq_true rfl⟩) hP hK hZ hS rfl rfl rfl rfl rfl hl.1 rfl (Nat.le_of_ble_eq_true rfl) d_Pa_fillCosts_67 ⟨Nat.le_of_ble_eq_true rfl, Nat.le_of_ble_eq_true rfl⟩ (fun r3 hw => ?_)
      refine lv_iload_n hx hb d_Pa_fillCosts_70 rfl (lv_at hl 2 rfl) ?_
      refine lv_iconst (v := 1) hx hb d_Pa_fillCosts_71 (by decide) ?_
      refine lv_iadd hx hb d_Pa_fillCosts_72 ?_
      refine va_mmin hx hb (hml.trans hl.1.symm) hown (hts _ mm_187) (hts _ mm_188) (hts _ mm_43) (hts _ mm_189) (Nat.le_of_ble_eq_true rfl) (Nat.le_of_ble_eq_true rfl) (Nat.le_of_ble_eq_true rfl) (Nat.le_of_ble_eq_true rfl) d_Pa_fillCosts_73 ?_
      refine k_rwVv (As := [.int x1, .int y3, .int (if (y2 + 1) < r3 then (y2 + 1) else r3)]) (rest := []) (wr := []) hz [0, 1, 2, 3, 4, 5] [] [0, 1, 2] 0 1 ⟨hx, hb, hml, hown, hts⟩ (met_Pa_setCost l D Z hz ad hk a_this a_text a_text_items a_row a_row_items a_costs k_text_items k_row_items k_costs v_text_count f_text_items v_row_count f_row_items f_costs x1 y3 (if (y2 + 1) < r3 then (y2 + 1) else r3) _ hw) (cwV 3 hts (g_V mm_183 mm_185 mm_3 mm_44 mm_186) rfl rfl rfl hd_Pa_setCost ⟨Nat.le_of_ble_eq_true rfl, Nat.le_of_ble_eq_true rfl⟩) hP hD hK hZ hS hA rfl rfl rfl rfl rfl (by decide) rfl rfl rfl rfl hl.1 rfl (Nat.le_of_ble_eq_true rfl) d_Pa_fillCosts_76 ⟨Nat.le_of_ble_eq_true rfl, Nat.le_of_ble_eq_true rfl⟩ (fun s4 H locs hw hP hD hS => ?_)
      try dsimp only at hw
      have hP : va_P D vwCl [(a_this, .inr (1, [.ref a_text, .ref a_row, .ref a_costs])), (a_text, .inr (0, [.ref a_text_items, .int v_text_count])), (a_text_items, .inl (k_text_items, 64, .inl f_text_items)), (a_row, .inr (0, [.ref a_row_items, .int v_row_count])), (a_row_items, .inl (k_row_items, 99, .inl f_row_items)), (a_costs, .inl (k_costs, 195, .inl s4))] H := hP
      have hD : va_D A [(a_this, .inr (1, [.ref a_text, .ref a_row, .ref a_costs])), (a_text, .inr (0, [.ref a_text_items, .int v_text_count])), (a_text_items, .inl (k_text_items, 64, .inl f_text_items)), (a_row, .inr (0, [.ref a_row_items, .int v_row_count])), (a_row_items, .inl (k_row_items, 99, .inl f_row_items)), (a_costs, .inl (k_costs, 195, .inl s4))] := hD
      refine lv_iinc (v := (y3 + 1)) (lv' := [(3, .int (y3 + 1)), (0, .ref a_this), (1, .int x1), (2, .int y2)]) hx hb d_Pa_fillCosts_79 hl (k := 3) rfl rfl (by decide) rfl (fun ls hl => ?_)
      refine lv_goto (tgt := 56) hx hb d_Pa_fillCosts_82 (by decide) ?_
      exact ih s4 (y3 + 1) hw _ _ (hP.sub [0, 1, 2, 3, 4, 5] rfl) (hD.sub [0, 1, 2, 3, 4, 5] (by decide) rfl) hS ls (lv_sub hl [1, 2, 3, 0] rfl)
set_option maxHeartbeats 4000000 in
set_option maxRecDepth 100000 in
theorem lp_Pa_fillCosts_5 (l : Launch) (D : va_G) (Z : (Nat → Prop) → State → Heap → Prop) (hz : zk Z) (ad : Nat → Nat) (hk : zs Z ad) {p : Program} {e : Env} {s : State} {m : MethodId} {args : Array Value} {below : List Frame} {meth : Method} {c : Code} {A : Nat → Prop} (a_this : Nat) (a_text : Nat) (a_text_items : Nat) (a_row : Nat) (a_row_items : Nat) (a_costs : Nat) (k_text_items : ClassId) (k_row_items : ClassId) (k_costs : ClassId) (v_text_count : Int32) (f_text_items : Nat → Int32) (v_row_count : Int32) (f_row_items : Nat → Int32) (x1 : Int32) {post : (Nat → Int32) → Prop} (hx : p.tables.exec = Jvm.exec) (hb : c.code = c_Pa_fillCosts) (hml : c.maxLocals = 5) (hr : meth.sig.returnType = (none)) (hts : ∀ w ∈ tb, w.before args s = true) (hown : s.vm.findClass R_Pa = some m.cls) (hlocks : meth.locks = false) (hK : va_K D vwCl [(k_text_items, .int), (k_row_items, .int), (k_costs, .int)] s) (hZ : Z A s s.heap) (hA : ∀ q, s.heap.size ≤ q → A q) : ∀ (n : Nat) (f_costs : Nat → Int32) (y2 : Int32) (y3 : Int32), w_Pa_fillCosts_5 post v_text_count f_text_items x1 n f_costs y2 y3 → ∀ (H : Heap) (locs : List Loc), va_P D vwCl [(a_this, .inr (1, [.ref a_text, .ref a_row, .ref a_costs])), (a_text, .inr (0, [.ref a_text_items, .int v_text_count])), (a_text_items, .inl (k_text_items, 64, .inl f_text_items)), (a_row, .inr (0, [.ref a_row_items, .int v_row_count])), (a_row_items, .inl (k_row_items, 99, .inl f_row_items)), (a_costs, .inl (k_costs, 195, .inl f_costs))] H → va_D A [(a_this, .inr (1, [.ref a_text, .ref a_row, .ref a_costs])), (a_text, .inr (0, [.ref a_text_items, .int v_text_count])), (a_text_items, .inl (k_text_items, 64, .inl f_text_items)), (a_row, .inr (0, [.ref a_row_items, .int v_row_count])), (a_row_items, .inl (k_row_items, 99, .inl f_row_items)), (a_costs, .inl (k_costs, 195, .inl f_costs))] → va_S A s.heap H locs → ∀ ls : Array Slot, lv_has ls 5 [(0, .ref a_this), (1, .int x1), (2, .int y2), (3, .int y3)] → W p l e (headSpec ws_Pa_fillCosts rm_Pa_fillCosts).room s m args below meth c H locs 0 0 (MQ below (va_Qv (fun u : (Nat → Int32) => post u) (fun u t => at_ D vwCl [(k_text_items, .int), (k_row_items, .int), (k_costs, .int)] A [(a_this, .inr (1, [.ref a_text, .ref a_row, .ref a_costs])), (a_text, .inr (0, [.ref a_text_items, .int v_text_count])), (a_text_items, .inl (k_text_items, 64, .inl f_text_items)), (a_row, .inr (0, [.ref a_row_items, .int v_row_count])), (a_row_items, .inl (k_row_items, 99, .inl f_row_items)), (a_costs, .inl (k_costs, 195, .inl u))] t) A) args s 0 0 A) (F0 m 5 ls []) := by
  intro n
  induction n with
  | zero =>
    intro f_costs y2 y3 hw
    unfold w_Pa_fillCosts_5 at hw
    exact hw.elim
  | succ n ih =>
    intro f_costs y2 y3 hw H locs hP hD hS ls hl
    unfold w_Pa_fillCosts_5 at hw
    refine lv_iload_n hx hb d_Pa_fillCosts_5 rfl (lv_at hl 3 rfl) ?_
    refine lv_iconst (v := 3) hx hb d_Pa_fillCosts_6 (by decide) ?_
    refine lv_icmp_ge (tgt := 54) hx hb d_Pa_fillCosts_7 (by decide) (fun c1 => ?_) (fun c1 => ?_)
    · have hw := hw.1 c1
      refine lv_iconst (v := 0) hx hb d_Pa_fillCosts_54 (by decide) ?_
      refine lv_istore_n (lv' := [(3, .int 0), (0, .ref a_this), (1, .int x1), (2, .int y2)]) hx hb d_Pa_fillCosts_55 rfl hl (by decide) rfl (fun ls hl => ?_)
      obtain ⟨n9, hw⟩ := hw
      exact lp_Pa_fillCosts_56 l D Z hz ad hk a_this a_text a_text_items a_row a_row_items a_costs k_text_items k_row_items k_costs v_text_count f_text_items v_row_count f_row_items x1 y2 hx hb hml hr hts hown hlocks hK hZ hA n9 f_costs 0 hw _ _ (hP.sub [0, 1, 2, 3, 4, 5] rfl) (hD.sub [0, 1, 2, 3, 4, 5] (by decide) rfl) hS ls (lv_sub hl [1, 2, 3, 0] rfl)
    · have hw := hw.2 c1
      refine lv_iload_n hx hb d_Pa_fillCosts_10 rfl (lv_at hl 1 rfl) ?_
      refine lv_aload_n hx hb d_Pa_fillCosts_11 rfl (lv_at hl 0 rfl) ?_
      refine va_get (D := D) (ci := 1) (v := .ref a_text) (C := R_Pa) (T := T_Pa) (N := 3) hx hb hts in_Pa hown hK hP 0 rfl rfl 0 (by decide) (hts _ mm_87) (fun _ h9 => h9) rfl d_Pa_fillCosts_12 ?_
      refine k_roVi (As := []) (rest := [.int x1]) hz [1, 2] [0] 1 0 ⟨hx, hb, hml, hown, hts⟩ (met_It_count l D Z hz ad hk a_text a_text_items k_text_items 64 v_text_count f_text_items hw) (cwV 0 hts (g_V mm_153 mm_154 mm_155 mm_42 mm_156) rfl rfl rfl hd_It_count ⟨Nat.le_of_ble_eq_true rfl, Nat.le_of_ble_eq_true rfl⟩) hP hK hZ hS rfl rfl rfl rfl rfl hl.1 rfl (Nat.le_of_ble_eq_true rfl) d_Pa_fillCosts_15 ⟨Nat.le_of_ble_eq_true rfl, Nat.le_of_ble_eq_true rfl⟩ (fun r5 hw => ?_)
      refine lv_icmp_ne (tgt := 25) hx hb d_Pa_fillCosts_18 (by decide) (fun c6 => ?_) (fun c6 => ?_)
      · have hw := hw.1 c6
        refine lv_aload_n hx hb d_Pa_fillCosts_25 rfl (lv_at hl 0 rfl) ?_
        refine lv_iload_n hx hb d_Pa_fillCosts_26 rfl (lv_at hl 1 rfl) ?_
        refine lv_iload_n hx hb d_Pa_fillCosts_27 rfl (lv_at hl 3 rfl) ?_
        refine k_roVi (As := [.int x1, .int y3]) (rest := []) hz [0, 1, 2, 3, 4, 5] [0, 1, 2] 0 1 ⟨hx, hb, hml, hown, hts⟩ (met_Pa_costOfTelling l D Z hz ad hk a_this a_text a_text_items a_row a_row_items a_costs k_text_items k_row_items k_costs v_text_count f_text_items v_row_count f_row_items f_costs x1 y3 hw) (cwV 2 hts (g_V mm_162 mm_164 mm_1 mm_44 mm_165) rfl rfl rfl hd_Pa_costOfTelling ⟨Nat.le_of_ble_eq_true rfl, Nat.le_of_ble_eq_true rfl⟩) hP hK hZ hS rfl rfl rfl rfl rfl hl.1 rfl (Nat.le_of_ble_eq_true rfl) d_Pa_fillCosts_28 ⟨Nat.le_of_ble_eq_true rfl, Nat.le_of_ble_eq_true rfl⟩ (fun r7 hw => ?_)
        refine lv_istore (lv' := [(4, .int r7), (0, .ref a_this), (1, .int x1), (2, .int y2), (3, .int y3)]) hx hb d_Pa_fillCosts_31 hl (by decide) rfl (fun ls hl => ?_)
        refine lv_aload_n hx hb d_Pa_fillCosts_33 rfl (lv_at hl 1 rfl) ?_
        refine lv_iload_n hx hb d_Pa_fillCosts_34 rfl (lv_at hl 2 rfl) ?_
        refine lv_iload_n hx hb d_Pa_fillCosts_35 rfl (lv_at hl 4 rfl) ?_
        refine lv_iload hx hb d_Pa_fillCosts_36 (lv_at hl 0 rfl) ?_
        refine k_rwVv (As := [.int x1, .int y3, .int r7]) (rest := []) (wr := []) hz [0, 1, 2, 3, 4, 5] [] [0, 1, 2] 0 1 ⟨hx, hb, hml, hown, hts⟩ (met_Pa_setCost l D Z hz ad hk a_this a_text a_text_items a_row a_row_items a_costs k_text_items k_row_items k_costs v_text_count f_text_items v_row_count f_row_items f_costs x1 y3 r7 _ hw) (cwV 3 hts (g_V mm_183 mm_185 mm_3 mm_44 mm_186) rfl rfl rfl hd_Pa_setCost ⟨Nat.le_of_ble_eq_true rfl, Nat.le_of_ble_eq_true rfl⟩) hP hD hK hZ hS hA rfl rfl rfl rfl rfl (by decide) rfl rfl rfl rfl hl.1 rfl (Nat.le_of_ble_eq_true rfl) d_Pa_fillCosts_38 ⟨Nat.le_of_ble_eq_true rfl, Nat.le_of_ble_eq_true rfl⟩ (fun s8 H locs hw hP hD hS => ?_)
        try dsimp only at hw
        have hP : va_P D vwCl [(a_this, .inr (1, [.ref a_text, .ref a_row, .ref a_costs])), (a_text, .inr (0, [.ref a_text_items, .int v_text_count])), (a_text_items, .inl (k_text_items, 64, .inl f_text_items)), (a_row, .inr (0, [.ref a_row_items, .int v_row_count])), (a_row_items, .inl (k_row_items, 99, .inl f_row_items)), (a_costs, .inl (k_costs, 195, .inl s8))] H := hP
        have hD : va_D A [(a_this, .inr (1, [.ref a_text, .ref a_row, .ref a_costs])), (a_text, .inr (0, [.ref a_text_items, .int v_text_count])), (a_text_items, .inl (k_text_items, 64, .inl f_text_items)), (a_row, .inr (0, [.ref a_row_items, .int v_row_count])), (a_row_items, .inl (k_row_items, 99, .inl f_row_items)), (a_costs, .inl (k_costs, 195, .inl s8))] := hD
        refine lv_iload_n hx hb d_Pa_fillCosts_41 rfl (lv_at hl 3 rfl) ?_
        refine lv_iload hx hb d_Pa_fillCosts_42 (lv_at hl 0 rfl) ?_
        refine va_mmin hx hb (hml.trans hl.1.symm) hown (hts _ mm_187) (hts _ mm_188) (hts _ mm_43) (hts _ mm_189) (Nat.le_of_ble_eq_true rfl) (Nat.le_of_ble_eq_true rfl) (Nat.le_of_ble_eq_true rfl) (Nat.le_of_ble_eq_true rfl) d_Pa_fillCosts_44 ?_
        refine lv_istore_n (lv' := [(2, .int (if r7 < y2 then r7 else y2)), (4, .int r7), (0, .ref a_this), (1, .int x1), (3, .int y3)]) hx hb d_Pa_fillCosts_47 rfl hl (by decide) rfl (fun ls hl => ?_)
        refine lv_iinc (v := (y3 + 1)) (lv' := [(3, .int (y3 + 1)), (2, .int (if r7 < y2 then r7 else y2)), (4, .int r7), (0, .ref a_this), (1, .int x1)]) hx hb d_Pa_fillCosts_48 hl (k := 4) rfl rfl (by decide) rfl (fun ls hl => ?_)
        refine lv_goto (tgt := 5) hx hb d_Pa_fillCosts_51 (by decide) ?_
        exact ih s8 (if r7 < y2 then r7 else y2) (y3 + 1) hw _ _ (hP.sub [0, 1, 2, 3, 4, 5] rfl) (hD.sub [0, 1, 2, 3, 4, 5] (by decide) rfl) hS ls (lv_sub hl [3, 4, 1, 0] rfl)
      · have hw := hw.2 c6
        refine lv_iconst (v := 0) hx hb d_Pa_fillCosts_21 (by decide) ?_
        refine lv_goto (tgt := 31) hx hb d_Pa_fillCosts_22 (by decide) ?_
        refine lv_istore (lv' := [(4, .int 0), (0, .ref a_this), (1, .int x1), (2, .int y2), (3, .int y3)]) hx hb d_Pa_fillCosts_31 hl (by decide) rfl (fun ls hl => ?_)
        refine lv_aload_n hx hb d_Pa_fillCosts_33 rfl (lv_at hl 1 rfl) ?_
        refine lv_iload_n hx hb d_Pa_fillCosts_34 rfl (lv_at hl 2 rfl) ?_
        refine lv_iload_n hx hb d_Pa_fillCosts_35 rfl (lv_at hl 4 rfl) ?_
        refine lv_iload hx hb d_Pa_fillCosts_36 (lv_at hl 0 rfl) ?_
        refine k_rwVv (As := [.int x1, .int y3, .int 0]) (rest := []) (wr := []) hz [0, 1, 2, 3, 4, 5] [] [0, 1, 2] 0 1 ⟨hx, hb, hml, hown, hts⟩ (met_Pa_setCost l D Z hz ad hk a_this a_text a_text_items a_row a_row_items a_costs k_text_items k_row_items k_costs v_text_count f_text_items v_row_count f_row_items f_costs x1 y3 0 _ hw) (cwV 3 hts (g_V mm_183 mm_185 mm_3 mm_44 mm_186) rfl rfl rfl hd_Pa_setCost ⟨Nat.le_of_ble_eq_true rfl, Nat.le_of_ble_eq_true rfl⟩) hP hD hK hZ hS hA rfl rfl rfl rfl rfl (by decide) rfl rfl rfl rfl hl.1 rfl (Nat.le_of_ble_eq_true rfl) d_Pa_fillCosts_38 ⟨Nat.le_of_ble_eq_true rfl, Nat.le_of_ble_eq_true rfl⟩ (fun s9 H locs hw hP hD hS => ?_)
        try dsimp only at hw
        have hP : va_P D vwCl [(a_this, .inr (1, [.ref a_text, .ref a_row, .ref a_costs])), (a_text, .inr (0, [.ref a_text_items, .int v_text_count])), (a_text_items, .inl (k_text_items, 64, .inl f_text_items)), (a_row, .inr (0, [.ref a_row_items, .int v_row_count])), (a_row_items, .inl (k_row_items, 99, .inl f_row_items)), (a_costs, .inl (k_costs, 195, .inl s9))] H := hP
        have hD : va_D A [(a_this, .inr (1, [.ref a_text, .ref a_row, .ref a_costs])), (a_text, .inr (0, [.ref a_text_items, .int v_text_count])), (a_text_items, .inl (k_text_items, 64, .inl f_text_items)), (a_row, .inr (0, [.ref a_row_items, .int v_row_count])), (a_row_items, .inl (k_row_items, 99, .inl f_row_items)), (a_costs, .inl (k_costs, 195, .inl s9))] := hD
        refine lv_iload_n hx hb d_Pa_fillCosts_41 rfl (lv_at hl 3 rfl) ?_
        refine lv_iload hx hb d_Pa_fillCosts_42 (lv_at hl 0 rfl) ?_
        refine va_mmin hx hb (hml.trans hl.1.symm) hown (hts _ mm_187) (hts _ mm_188) (hts _ mm_43) (hts _ mm_189) (Nat.le_of_ble_eq_true rfl) (Nat.le_of_ble_eq_true rfl) (Nat.le_of_ble_eq_true rfl) (Nat.le_of_ble_eq_true rfl) d_Pa_fillCosts_44 ?_
        refine lv_istore_n (lv' := [(2, .int (if 0 < y2 then 0 else y2)), (4, .int 0), (0, .ref a_this), (1, .int x1), (3, .int y3)]) hx hb d_Pa_fillCosts_47 rfl hl (by decide) rfl (fun ls hl => ?_)
        refine lv_iinc (v := (y3 + 1)) (lv' := [(3, .int (y3 + 1)), (2, .int (if 0 < y2 then 0 else y2)), (4, .int 0), (0, .ref a_this), (1, .int x1)]) hx hb d_Pa_fillCosts_48 hl (k := 4) rfl rfl (by decide) rfl (fun ls hl => ?_)
        refine lv_goto (tgt := 5) hx hb d_Pa_fillCosts_51 (by decide) ?_
        exact ih s9 (if 0 < y2 then 0 else y2) (y3 + 1) hw _ _ (hP.sub [0, 1, 2, 3, 4, 5] rfl) (hD.sub [0, 1, 2, 3, 4, 5] (by decide) rfl) hS ls (lv_sub hl [3, 4, 1, 0] rfl)
set_option maxHeartbeats 4000000 in
set_option maxRecDepth 100000 in
theorem met_Pa_fillCosts (l : Launch) (D : va_G) (Z : (Nat → Prop) → State → Heap → Prop) (hz : zk Z) (ad : Nat → Nat) (hk : zs Z ad) (a_this : Nat) (a_text : Nat) (a_text_items : Nat) (a_row : Nat) (a_row_items : Nat) (a_costs : Nat) (k_text_items : ClassId) (k_row_items : ClassId) (k_costs : ClassId) (v_text_count : Int32) (f_text_items : Nat → Int32) (v_row_count : Int32) (f_row_items : Nat → Int32) (f_costs : Nat → Int32) (x1 : Int32) (sz : Nat) {post : (Nat → Int32) → Prop} (hw : w_Pa_fillCosts post v_text_count f_text_items f_costs x1) : Met l y_Pa_fillCosts ws_Pa_fillCosts rm_Pa_fillCosts (va_Pc [.ref a_this, .int x1] (rw_ D vwCl [(k_text_items, .int), (k_row_items, .int), (k_costs, .int)] [(a_this, .inr (1, [.ref a_text, .ref a_row, .ref a_costs])), (a_text, .inr (0, [.ref a_text_items, .int v_text_count])), (a_text_items, .inl (k_text_items, 64, .inl f_text_items)), (a_row, .inr (0, [.ref a_row_items, .int v_row_count])), (a_row_items, .inl (k_row_items, 99, .inl f_row_items)), (a_costs, .inl (k_costs, 195, .inl f_costs))] (Z) sz)) (va_Qv (fun u : (Nat → Int32) => post u) (fun u t => at_ D vwCl [(k_text_items, .int), (k_row_items, .int), (k_costs, .int)] (va_A [(a_this, .inr (1, [.ref a_text, .ref a_row, .ref a_costs])), (a_text, .inr (0, [.ref a_text_items, .int v_text_count])), (a_text_items, .inl (k_text_items, 64, .inl f_text_items)), (a_row, .inr (0, [.ref a_row_items, .int v_row_count])), (a_row_items, .inl (k_row_items, 99, .inl f_row_items)), (a_costs, .inl (k_costs, 195, .inl f_costs))] sz) [(a_this, .inr (1, [.ref a_text, .ref a_row, .ref a_costs])), (a_text, .inr (0, [.ref a_text_items, .int v_text_count])), (a_text_items, .inl (k_text_items, 64, .inl f_text_items)), (a_row, .inr (0, [.ref a_row_items, .int v_row_count])), (a_row_items, .inl (k_row_items, 99, .inl f_row_items)), (a_costs, .inl (k_costs, 195, .inl u))] t) (va_A [(a_this, .inr (1, [.ref a_text, .ref a_row, .ref a_costs])), (a_text, .inr (0, [.ref a_text_items, .int v_text_count])), (a_text_items, .inl (k_text_items, 64, .inl f_text_items)), (a_row, .inr (0, [.ref a_row_items, .int v_row_count])), (a_row_items, .inl (k_row_items, 99, .inl f_row_items)), (a_costs, .inl (k_costs, 195, .inl f_costs))] sz)) 0 0 (va_A [(a_this, .inr (1, [.ref a_text, .ref a_row, .ref a_costs])), (a_text, .inr (0, [.ref a_text_items, .int v_text_count])), (a_text_items, .inl (k_text_items, 64, .inl f_text_items)), (a_row, .inr (0, [.ref a_row_items, .int v_row_count])), (a_row_items, .inl (k_row_items, 99, .inl f_row_items)), (a_costs, .inl (k_costs, 195, .inl f_costs))] sz) := by
  refine Met.ofW (cc := c_Pa_fillCosts) (maxL := 5) (ret := (none)) (by decide) rfl ?_
  intro p e s m args below meth c s₁ B hml hv
  obtain ⟨rfl, hsz, hP, hK, hD0, hZ⟩ := hv
  have hx := B.exec
  have hb := B.bytes
  have hr := B.returns
  have hts0 := atoms_spec (ws := ws_Pa_fillCosts) B.pre
  have hts := fun (w : Cond) (h : w ∈ tb) => hts0 w (List.mem_cons_of_mem _ h)
  have hown : s.vm.findClass R_Pa = some m.cls := findClass_of_methodNamed B.named
  have hlocks := B.notSynchronized
  subst hsz
  have hD := hD0.self (sz := s.heap.size)
  generalize hAe : va_A [(a_this, .inr (1, [.ref a_text, .ref a_row, .ref a_costs])), (a_text, .inr (0, [.ref a_text_items, .int v_text_count])), (a_text_items, .inl (k_text_items, 64, .inl f_text_items)), (a_row, .inr (0, [.ref a_row_items, .int v_row_count])), (a_row_items, .inl (k_row_items, 99, .inl f_row_items)), (a_costs, .inl (k_costs, 195, .inl f_costs))] s.heap.size = A at hD hZ ⊢
  have hA : ∀ q : Nat, s.heap.size ≤ q → A q := fun q h => by rw [← hAe]; exact Or.inr h
  have hS : va_S A s.heap s.heap [] := va_S.rf
  have hl := lv_entry ([.ref a_this, .int x1]) (n := 5) (Nat.le_of_ble_eq_true rfl)
  rw [lg_entry_eq]
  generalize (lg_sl ([.ref a_this, .int x1]) ++ List.replicate (5 - (lg_sl ([.ref a_this, .int x1])).length) Slot.unset).toArray = ls at hl ⊢
  have hl : lv_has ls 5 [(0, .ref a_this), (1, .int x1)] := hl
  unfold w_Pa_fillCosts at hw
  refine lv_ldc (v := 1000000) hx hb hown (hts _ mm_161) d_Pa_fillCosts_0 ?_
  refine lv_istore_n (lv' := [(2, .int 1000000), (0, .ref a_this), (1, .int x1)]) hx hb d_Pa_fillCosts_2 rfl hl (by decide) rfl (fun ls hl => ?_)
  refine lv_iconst (v := 0) hx hb d_Pa_fillCosts_3 (by decide) ?_
  refine lv_istore_n (lv' := [(3, .int 0), (2, .int 1000000), (0, .ref a_this), (1, .int x1)]) hx hb d_Pa_fillCosts_4 rfl hl (by decide) rfl (fun ls hl => ?_)
  obtain ⟨n9, hw⟩ := hw
  exact lp_Pa_fillCosts_5 l D Z hz ad hk a_this a_text a_text_items a_row a_row_items a_costs k_text_items k_row_items k_costs v_text_count f_text_items v_row_count f_row_items x1 hx hb hml hr hts hown hlocks hK hZ hA n9 f_costs 1000000 0 hw _ _ (hP.sub [0, 1, 2, 3, 4, 5] rfl) (hD.sub [0, 1, 2, 3, 4, 5] (by decide) rfl) hS ls (lv_sub hl [2, 3, 1, 0] rfl)
-- LineCodes$Packer.cheapestFirstSet()I
def w_Pa_cheapestFirstSet_4 (post : Int32 → Prop) (f_costs : Nat → Int32) : Nat → Int32 → Int32 → Prop
  | 0, _, _ => False
  | n + 1, y1, y2 => (3 ≤ y2 → post y1) ∧ (¬ 3 ≤ y2 → w_Pa_cost (fun r2 => w_Pa_cost (fun r3 => (r3 ≤ r2 → w_Pa_cheapestFirstSet_4 post f_costs n y1 (y2 + 1)) ∧ (¬ r3 ≤ r2 → w_Pa_cheapestFirstSet_4 post f_costs n y2 (y2 + 1))) f_costs 0 y1) f_costs 0 y2)
def w_Pa_cheapestFirstSet (post : Int32 → Prop) (f_costs : Nat → Int32) : Prop := ∃ n, w_Pa_cheapestFirstSet_4 post f_costs n 0 1
abbrev rm_Pa_cheapestFirstSet : Room := { frames := 1, cells := 0, slots := 0, locals := 23 }
set_option maxHeartbeats 4000000 in
set_option maxRecDepth 100000 in
theorem lp_Pa_cheapestFirstSet_4 (l : Launch) (D : va_G) (Z : (Nat → Prop) → State → Heap → Prop) (hz : zk Z) (ad : Nat → Nat) (hk : zs Z ad) {p : Program} {e : Env} {s : State} {m : MethodId} {args : Array Value} {below : List Frame} {meth : Method} {c : Code} (a_this : Nat) (a_text : Nat) (a_text_items : Nat) (a_row : Nat) (a_row_items : Nat) (a_costs : Nat) (k_text_items : ClassId) (k_row_items : ClassId) (k_costs : ClassId) (v_text_count : Int32) (f_text_items : Nat → Int32) (v_row_count : Int32) (f_row_items : Nat → Int32) (f_costs : Nat → Int32) {post : Int32 → Prop} (hx : p.tables.exec = Jvm.exec) (hb : c.code = c_Pa_cheapestFirstSet) (hml : c.maxLocals = 3) (hr : meth.sig.returnType = (some .int)) (hts : ∀ w ∈ tb, w.before args s = true) (hown : s.vm.findClass R_Pa = some m.cls) (hlocks : meth.locks = false) (hK : va_K D vwCl [(k_text_items, .int), (k_row_items, .int), (k_costs, .int)] s) (hZ : Z (fun _ => False) s s.heap) (hP : va_P D vwCl [(a_this, .inr (1, [.ref a_text, .ref a_row, .ref a_costs])), (a_text, .inr (0, [.ref a_text_items, .int v_text_count])), (a_text_items, .inl (k_text_items, 64, .inl f_text_items)), (a_row, .inr (0, [.ref a_row_items, .int v_row_count])), (a_row_items, .inl (k_row_items, 99, .inl f_row_items)), (a_costs, .inl (k_costs, 195, .inl f_costs))] s.heap) (hS : va_S (fun _ => False) s.heap s.heap []) : ∀ (n : Nat) (y1 : Int32) (y2 : Int32), w_Pa_cheapestFirstSet_4 post f_costs n y1 y2 → ∀ ls : Array Slot, lv_has ls 3 [(0, .ref a_this), (1, .int y1), (2, .int y2)] → W p l e (headSpec ws_Pa_cheapestFirstSet rm_Pa_cheapestFirstSet).room s m args below meth c s.heap [] 0 0 (MQ below (vp_Si post) args s 0 0 (fun _ => False)) (F0 m 4 ls []) := by
  intro n
  induction n with
  | zero =>
    intro y1 y2 hw
    unfold w_Pa_cheapestFirstSet_4 at hw
    exact hw.elim
  | succ n ih =>
    intro y1 y2 hw ls hl
    unfold w_Pa_cheapestFirstSet_4 at hw
    refine lv_iload_n hx hb d_Pa_cheapestFirstSet_4 rfl (lv_at hl 2 rfl) ?_
    refine lv_iconst (v := 3) hx hb d_Pa_cheapestFirstSet_5 (by decide) ?_
    refine lv_icmp_ge (tgt := 32) hx hb d_Pa_cheapestFirstSet_6 (by decide) (fun c1 => ?_) (fun c1 => ?_)
    · have hw := hw.1 c1
      refine lv_iload_n hx hb d_Pa_cheapestFirstSet_32 rfl (lv_at hl 1 rfl) ?_
      exact W.iret (v := y1) hx hb hr (fun t ht hW => ⟨y1, rfl, hw, ht⟩) hS.2.2 d_Pa_cheapestFirstSet_33
    · have hw := hw.2 c1
      refine lv_aload_n hx hb d_Pa_cheapestFirstSet_9 rfl (lv_at hl 0 rfl) ?_
      refine lv_iconst (v := 0) hx hb d_Pa_cheapestFirstSet_10 (by decide) ?_
      refine lv_iload_n hx hb d_Pa_cheapestFirstSet_11 rfl (lv_at hl 2 rfl) ?_
      refine k_roVi (As := [.int 0, .int y2]) (rest := []) hz [0, 1, 2, 3, 4, 5] [0, 1, 2] 0 1 ⟨hx, hb, hml, hown, hts⟩ (met_Pa_cost l D Z hz ad hk a_this a_text a_text_items a_row a_row_items a_costs k_text_items k_row_items k_costs v_text_count f_text_items v_row_count f_row_items f_costs 0 y2 hw) (cwV 2 hts (g_V mm_170 mm_172 mm_2 mm_44 mm_173) rfl rfl rfl hd_Pa_cost ⟨Nat.le_of_ble_eq_true rfl, Nat.le_of_ble_eq_true rfl⟩) hP hK hZ hS rfl rfl rfl rfl rfl hl.1 rfl (Nat.le_of_ble_eq_true rfl) d_Pa_cheapestFirstSet_12 ⟨Nat.le_of_ble_eq_true rfl, Nat.le_of_ble_eq_true rfl⟩ (fun r2 hw => ?_)
      refine lv_aload_n hx hb d_Pa_cheapestFirstSet_15 rfl (lv_at hl 0 rfl) ?_
      refine lv_iconst (v := 0) hx hb d_Pa_cheapestFirstSet_16 (by decide) ?_
      refine lv_iload_n hx hb d_Pa_cheapestFirstSet_17 rfl (lv_at hl 1 rfl) ?_
      refine k_roVi (As := [.int 0, .int y1]) (rest := [.int r2]) hz [0, 1, 2, 3, 4, 5] [0, 1, 2] 0 1 ⟨hx, hb, hml, hown, hts⟩ (met_Pa_cost l D Z hz ad hk a_this a_text a_text_items a_row a_row_items a_costs k_text_items k_row_items k_costs v_text_count f_text_items v_row_count f_row_items f_costs 0 y1 hw) (cwV 2 hts (g_V mm_170 mm_172 mm_2 mm_44 mm_173) rfl rfl rfl hd_Pa_cost ⟨Nat.le_of_ble_eq_true rfl, Nat.le_of_ble_eq_true rfl⟩) hP hK hZ hS rfl rfl rfl rfl rfl hl.1 rfl (Nat.le_of_ble_eq_true rfl) d_Pa_cheapestFirstSet_18 ⟨Nat.le_of_ble_eq_true rfl, Nat.le_of_ble_eq_true rfl⟩ (fun r3 hw => ?_)
      refine lv_icmp_ge (tgt := 26) hx hb d_Pa_cheapestFirstSet_21 (by decide) (fun c4 => ?_) (fun c4 => ?_)
      · have hw := hw.1 c4
        refine lv_iinc (v := (y2 + 1)) (lv' := [(2, .int (y2 + 1)), (0, .ref a_this), (1, .int y1)]) hx hb d_Pa_cheapestFirstSet_26 hl (k := 2) rfl rfl (by decide) rfl (fun ls hl => ?_)
        refine lv_goto (tgt := 4) hx hb d_Pa_cheapestFirstSet_29 (by decide) ?_
        exact ih y1 (y2 + 1) hw ls (lv_sub hl [1, 2, 0] rfl)
      · have hw := hw.2 c4
        refine lv_iload_n hx hb d_Pa_cheapestFirstSet_24 rfl (lv_at hl 2 rfl) ?_
        refine lv_istore_n (lv' := [(1, .int y2), (0, .ref a_this), (2, .int y2)]) hx hb d_Pa_cheapestFirstSet_25 rfl hl (by decide) rfl (fun ls hl => ?_)
        refine lv_iinc (v := (y2 + 1)) (lv' := [(2, .int (y2 + 1)), (1, .int y2), (0, .ref a_this)]) hx hb d_Pa_cheapestFirstSet_26 hl (k := 2) rfl rfl (by decide) rfl (fun ls hl => ?_)
        refine lv_goto (tgt := 4) hx hb d_Pa_cheapestFirstSet_29 (by decide) ?_
        exact ih y2 (y2 + 1) hw ls (lv_sub hl [2, 1, 0] rfl)
set_option maxHeartbeats 4000000 in
set_option maxRecDepth 100000 in
theorem met_Pa_cheapestFirstSet (l : Launch) (D : va_G) (Z : (Nat → Prop) → State → Heap → Prop) (hz : zk Z) (ad : Nat → Nat) (hk : zs Z ad) (a_this : Nat) (a_text : Nat) (a_text_items : Nat) (a_row : Nat) (a_row_items : Nat) (a_costs : Nat) (k_text_items : ClassId) (k_row_items : ClassId) (k_costs : ClassId) (v_text_count : Int32) (f_text_items : Nat → Int32) (v_row_count : Int32) (f_row_items : Nat → Int32) (f_costs : Nat → Int32) {post : Int32 → Prop} (hw : w_Pa_cheapestFirstSet post f_costs) : Met l y_Pa_cheapestFirstSet ws_Pa_cheapestFirstSet rm_Pa_cheapestFirstSet (va_Pc [.ref a_this] (ro_ D vwCl [(k_text_items, .int), (k_row_items, .int), (k_costs, .int)] [(a_this, .inr (1, [.ref a_text, .ref a_row, .ref a_costs])), (a_text, .inr (0, [.ref a_text_items, .int v_text_count])), (a_text_items, .inl (k_text_items, 64, .inl f_text_items)), (a_row, .inr (0, [.ref a_row_items, .int v_row_count])), (a_row_items, .inl (k_row_items, 99, .inl f_row_items)), (a_costs, .inl (k_costs, 195, .inl f_costs))] (Z))) (vp_Si post) 0 0 (fun _ => False) := by
  refine Met.ofW (cc := c_Pa_cheapestFirstSet) (maxL := 3) (ret := (some .int)) (by decide) rfl ?_
  intro p e s m args below meth c s₁ B hml hv
  obtain ⟨rfl, hP, hK, hZ⟩ := hv
  have hx := B.exec
  have hb := B.bytes
  have hr := B.returns
  have hts0 := atoms_spec (ws := ws_Pa_cheapestFirstSet) B.pre
  have hts := fun (w : Cond) (h : w ∈ tb) => hts0 w (List.mem_cons_of_mem _ h)
  have hown : s.vm.findClass R_Pa = some m.cls := findClass_of_methodNamed B.named
  have hlocks := B.notSynchronized
  have hS : va_S (fun _ => False) s.heap s.heap [] := va_S.rf
  have hl := lv_entry ([.ref a_this]) (n := 3) (Nat.le_of_ble_eq_true rfl)
  rw [lg_entry_eq]
  generalize (lg_sl ([.ref a_this]) ++ List.replicate (3 - (lg_sl ([.ref a_this])).length) Slot.unset).toArray = ls at hl ⊢
  have hl : lv_has ls 3 [(0, .ref a_this)] := hl
  unfold w_Pa_cheapestFirstSet at hw
  refine lv_iconst (v := 0) hx hb d_Pa_cheapestFirstSet_0 (by decide) ?_
  refine lv_istore_n (lv' := [(1, .int 0), (0, .ref a_this)]) hx hb d_Pa_cheapestFirstSet_1 rfl hl (by decide) rfl (fun ls hl => ?_)
  refine lv_iconst (v := 1) hx hb d_Pa_cheapestFirstSet_2 (by decide) ?_
  refine lv_istore_n (lv' := [(2, .int 1), (1, .int 0), (0, .ref a_this)]) hx hb d_Pa_cheapestFirstSet_3 rfl hl (by decide) rfl (fun ls hl => ?_)
  obtain ⟨n9, hw⟩ := hw
  exact lp_Pa_cheapestFirstSet_4 l D Z hz ad hk a_this a_text a_text_items a_row a_row_items a_costs k_text_items k_row_items k_costs v_text_count f_text_items v_row_count f_row_items f_costs hx hb hml hr hts hown hlocks hK hZ hP hS n9 0 1 hw ls (lv_sub hl [2, 1, 0] rfl)
-- LineCodes$Packer.nextSet(II)I
def w_Pa_nextSet_44 (post : Int32 → Prop) (f_costs : Nat → Int32) (x1 : Int32) (x2 : Int32) : Nat → Int32 → Prop
  | 0, _ => False
  | n + 1, y4 => (y4 < 0 → post x2) ∧ (¬ y4 < 0 → (y4 = x2 → w_Pa_nextSet_44 post f_costs x1 x2 n (y4 + (-1))) ∧ (¬ y4 = x2 → w_Pa_cost (fun r8 => w_Pa_cost (fun r9 => (¬ (1 + r8) = r9 → w_Pa_nextSet_44 post f_costs x1 x2 n (y4 + (-1))) ∧ ((1 + r8) = r9 → post y4)) f_costs x1 x2) f_costs x1 y4))
def w_Pa_nextSet (post : Int32 → Prop) (v_text_count : Int32) (f_text_items : Nat → Int32) (f_costs : Nat → Int32) (x1 : Int32) (x2 : Int32) : Prop := w_It_at (fun r1 => (¬ r1 = 128 → w_Pa_costOfTelling (fun r3 => w_Pa_cost (fun r4 => (¬ r3 = r4 → ∃ n, w_Pa_nextSet_44 post f_costs x1 x2 n 2) ∧ (r3 = r4 → post x2)) f_costs x1 x2) v_text_count f_text_items f_costs x1 x2) ∧ (r1 = 128 → ∃ n, w_Pa_nextSet_44 post f_costs x1 x2 n 2)) 64 v_text_count f_text_items x1
abbrev rm_Pa_nextSet : Room := { frames := 3, cells := 0, slots := 0, locals := 65 }
set_option maxHeartbeats 4000000 in
set_option maxRecDepth 100000 in
theorem lp_Pa_nextSet_44 (l : Launch) (D : va_G) (Z : (Nat → Prop) → State → Heap → Prop) (hz : zk Z) (ad : Nat → Nat) (hk : zs Z ad) {p : Program} {e : Env} {s : State} {m : MethodId} {args : Array Value} {below : List Frame} {meth : Method} {c : Code} (a_this : Nat) (a_text : Nat) (a_text_items : Nat) (a_row : Nat) (a_row_items : Nat) (a_costs : Nat) (k_text_items : ClassId) (k_row_items : ClassId) (k_costs : ClassId) (v_text_count : Int32) (f_text_items : Nat → Int32) (v_row_count : Int32) (f_row_items : Nat → Int32) (f_costs : Nat → Int32) (x1 : Int32) (x2 : Int32) {post : Int32 → Prop} (hx : p.tables.exec = Jvm.exec) (hb : c.code = c_Pa_nextSet) (hml : c.maxLocals = 5) (hr : meth.sig.returnType = (some .int)) (hts : ∀ w ∈ tb, w.before args s = true) (hown : s.vm.findClass R_Pa = some m.cls) (hlocks : meth.locks = false) (hK : va_K D vwCl [(k_text_items, .int), (k_row_items, .int), (k_costs, .int)] s) (hZ : Z (fun _ => False) s s.heap) (hP : va_P D vwCl [(a_this, .inr (1, [.ref a_text, .ref a_row, .ref a_costs])), (a_text, .inr (0, [.ref a_text_items, .int v_text_count])), (a_text_items, .inl (k_text_items, 64, .inl f_text_items)), (a_row, .inr (0, [.ref a_row_items, .int v_row_count])), (a_row_items, .inl (k_row_items, 99, .inl f_row_items)), (a_costs, .inl (k_costs, 195, .inl f_costs))] s.heap) (hS : va_S (fun _ => False) s.heap s.heap []) : ∀ (n : Nat) (y4 : Int32), w_Pa_nextSet_44 post f_costs x1 x2 n y4 → ∀ ls : Array Slot, lv_has ls 5 [(0, .ref a_this), (1, .int x1), (2, .int x2), (4, .int y4)] → W p l e (headSpec ws_Pa_nextSet rm_Pa_nextSet).room s m args below meth c s.heap [] 0 0 (MQ below (vp_Si post) args s 0 0 (fun _ => False)) (F0 m 44 ls []) := by
  intro n
  induction n with
  | zero =>
    intro y4 hw
    unfold w_Pa_nextSet_44 at hw
    exact hw.elim
  | succ n ih =>
    intro y4 hw ls hl
    unfold w_Pa_nextSet_44 at hw
    refine lv_iload hx hb d_Pa_nextSet_44 (lv_at hl 3 rfl) ?_
    refine lv_if_lt (tgt := 82) hx hb d_Pa_nextSet_46 (by decide) (fun c6 => ?_) (fun c6 => ?_)
    · have hw := hw.1 c6
      refine lv_iload_n hx hb d_Pa_nextSet_82 rfl (lv_at hl 2 rfl) ?_
      exact W.iret (v := x2) hx hb hr (fun t ht hW => ⟨x2, rfl, hw, ht⟩) hS.2.2 d_Pa_nextSet_83
    · have hw := hw.2 c6
      refine lv_iload hx hb d_Pa_nextSet_49 (lv_at hl 3 rfl) ?_
      refine lv_iload_n hx hb d_Pa_nextSet_51 rfl (lv_at hl 2 rfl) ?_
      refine lv_icmp_eq (tgt := 76) hx hb d_Pa_nextSet_52 (by decide) (fun c7 => ?_) (fun c7 => ?_)
      · have hw := hw.1 c7
        refine lv_iinc (v := (y4 + (-1))) (lv' := [(4, .int (y4 + (-1))), (0, .ref a_this), (1, .int x1), (2, .int x2)]) hx hb d_Pa_nextSet_76 hl (k := 3) rfl rfl (by decide) rfl (fun ls hl => ?_)
        refine lv_goto (tgt := 44) hx hb d_Pa_nextSet_79 (by decide) ?_
        exact ih (y4 + (-1)) hw ls (lv_sub hl [1, 2, 3, 0] rfl)
      · have hw := hw.2 c7
        refine lv_iconst (v := 1) hx hb d_Pa_nextSet_55 (by decide) ?_
        refine lv_aload_n hx hb d_Pa_nextSet_56 rfl (lv_at hl 0 rfl) ?_
        refine lv_iload_n hx hb d_Pa_nextSet_57 rfl (lv_at hl 1 rfl) ?_
        refine lv_iload hx hb d_Pa_nextSet_58 (lv_at hl 3 rfl) ?_
        refine k_roVi (As := [.int x1, .int y4]) (rest := [.int 1]) hz [0, 1, 2, 3, 4, 5] [0, 1, 2] 0 1 ⟨hx, hb, hml, hown, hts⟩ (met_Pa_cost l D Z hz ad hk a_this a_text a_text_items a_row a_row_items a_costs k_text_items k_row_items k_costs v_text_count f_text_items v_row_count f_row_items f_costs x1 y4 hw) (cwV 2 hts (g_V mm_170 mm_172 mm_2 mm_44 mm_173) rfl rfl rfl hd_Pa_cost ⟨Nat.le_of_ble_eq_true rfl, Nat.le_of_ble_eq_true rfl⟩) hP hK hZ hS rfl rfl rfl rfl rfl hl.1 rfl (Nat.le_of_ble_eq_true rfl) d_Pa_nextSet_60 ⟨Nat.le_of_ble_eq_true rfl, Nat.le_of_ble_eq_true rfl⟩ (fun r8 hw => ?_)
        refine lv_iadd hx hb d_Pa_nextSet_63 ?_
        refine lv_aload_n hx hb d_Pa_nextSet_64 rfl (lv_at hl 0 rfl) ?_
        refine lv_iload_n hx hb d_Pa_nextSet_65 rfl (lv_at hl 1 rfl) ?_
        refine lv_iload_n hx hb d_Pa_nextSet_66 rfl (lv_at hl 2 rfl) ?_
        refine k_roVi (As := [.int x1, .int x2]) (rest := [.int (1 + r8)]) hz [0, 1, 2, 3, 4, 5] [0, 1, 2] 0 1 ⟨hx, hb, hml, hown, hts⟩ (met_Pa_cost l D Z hz ad hk a_this a_text a_text_items a_row a_row_items a_costs k_text_items k_row_items k_costs v_text_count f_text_items v_row_count f_row_items f_costs x1 x2 hw) (cwV 2 hts (g_V mm_170 mm_172 mm_2 mm_44 mm_173) rfl rfl rfl hd_Pa_cost ⟨Nat.le_of_ble_eq_true rfl, Nat.le_of_ble_eq_true rfl⟩) hP hK hZ hS rfl rfl rfl rfl rfl hl.1 rfl (Nat.le_of_ble_eq_true rfl) d_Pa_nextSet_67 ⟨Nat.le_of_ble_eq_true rfl, Nat.le_of_ble_eq_true rfl⟩ (fun r9 hw => ?_)
        refine lv_icmp_ne (tgt := 76) hx hb d_Pa_nextSet_70 (by decide) (fun c10 => ?_) (fun c10 => ?_)
        · have hw := hw.1 c10
          refine lv_iinc (v := (y4 + (-1))) (lv' := [(4, .int (y4 + (-1))), (0, .ref a_this), (1, .int x1), (2, .int x2)]) hx hb d_Pa_nextSet_76 hl (k := 3) rfl rfl (by decide) rfl (fun ls hl => ?_)
          refine lv_goto (tgt := 44) hx hb d_Pa_nextSet_79 (by decide) ?_
          exact ih (y4 + (-1)) hw ls (lv_sub hl [1, 2, 3, 0] rfl)
        · have hw := hw.2 c10
          refine lv_iload hx hb d_Pa_nextSet_73 (lv_at hl 3 rfl) ?_
          exact W.iret (v := y4) hx hb hr (fun t ht hW => ⟨y4, rfl, hw, ht⟩) hS.2.2 d_Pa_nextSet_75
set_option maxHeartbeats 4000000 in
set_option maxRecDepth 100000 in
theorem met_Pa_nextSet (l : Launch) (D : va_G) (Z : (Nat → Prop) → State → Heap → Prop) (hz : zk Z) (ad : Nat → Nat) (hk : zs Z ad) (a_this : Nat) (a_text : Nat) (a_text_items : Nat) (a_row : Nat) (a_row_items : Nat) (a_costs : Nat) (k_text_items : ClassId) (k_row_items : ClassId) (k_costs : ClassId) (v_text_count : Int32) (f_text_items : Nat → Int32) (v_row_count : Int32) (f_row_items : Nat → Int32) (f_costs : Nat → Int32) (x1 : Int32) (x2 : Int32) {post : Int32 → Prop} (hw : w_Pa_nextSet post v_text_count f_text_items f_costs x1 x2) : Met l y_Pa_nextSet ws_Pa_nextSet rm_Pa_nextSet (va_Pc [.ref a_this, .int x1, .int x2] (ro_ D vwCl [(k_text_items, .int), (k_row_items, .int), (k_costs, .int)] [(a_this, .inr (1, [.ref a_text, .ref a_row, .ref a_costs])), (a_text, .inr (0, [.ref a_text_items, .int v_text_count])), (a_text_items, .inl (k_text_items, 64, .inl f_text_items)), (a_row, .inr (0, [.ref a_row_items, .int v_row_count])), (a_row_items, .inl (k_row_items, 99, .inl f_row_items)), (a_costs, .inl (k_costs, 195, .inl f_costs))] (Z))) (vp_Si post) 0 0 (fun _ => False) := by
  refine Met.ofW (cc := c_Pa_nextSet) (maxL := 5) (ret := (some .int)) (by decide) rfl ?_
  intro p e s m args below meth c s₁ B hml hv
  obtain ⟨rfl, hP, hK, hZ⟩ := hv
  have hx := B.exec
  have hb := B.bytes
  have hr := B.returns
  have hts0 := atoms_spec (ws := ws_Pa_nextSet) B.pre
  have hts := fun (w : Cond) (h : w ∈ tb) => hts0 w (List.mem_cons_of_mem _ h)
  have hown : s.vm.findClass R_Pa = some m.cls := findClass_of_methodNamed B.named
  have hlocks := B.notSynchronized
  have hS : va_S (fun _ => False) s.heap s.heap [] := va_S.rf
  have hl := lv_entry ([.ref a_this, .int x1, .int x2]) (n := 5) (Nat.le_of_ble_eq_true rfl)
  rw [lg_entry_eq]
  generalize (lg_sl ([.ref a_this, .int x1, .int x2]) ++ List.replicate (5 - (lg_sl ([.ref a_this, .int x1, .int x2])).length) Slot.unset).toArray = ls at hl ⊢
  have hl : lv_has ls 5 [(0, .ref a_this), (1, .int x1), (2, .int x2)] := hl
  unfold w_Pa_nextSet at hw
  refine lv_aload_n hx hb d_Pa_nextSet_0 rfl (lv_at hl 0 rfl) ?_
  refine va_get (D := D) (ci := 1) (v := .ref a_text) (C := R_Pa) (T := T_Pa) (N := 3) hx hb hts in_Pa hown hK hP 0 rfl rfl 0 (by decide) (hts _ mm_87) (fun _ h9 => h9) rfl d_Pa_nextSet_1 ?_
  refine lv_iload_n hx hb d_Pa_nextSet_4 rfl (lv_at hl 1 rfl) ?_
  refine k_roVi (As := [.int x1]) (rest := []) hz [1, 2] [0] 1 0 ⟨hx, hb, hml, hown, hts⟩ (met_It_at l D Z hz ad hk a_text a_text_items k_text_items 64 v_text_count f_text_items x1 hw) (cwV 1 hts (g_V mm_166 mm_167 mm_168 mm_42 mm_169) rfl rfl rfl hd_It_at ⟨Nat.le_of_ble_eq_true rfl, Nat.le_of_ble_eq_true rfl⟩) hP hK hZ hS rfl rfl rfl rfl rfl hl.1 rfl (Nat.le_of_ble_eq_true rfl) d_Pa_nextSet_5 ⟨Nat.le_of_ble_eq_true rfl, Nat.le_of_ble_eq_true rfl⟩ (fun r1 hw => ?_)
  refine lv_sipush (v := 128) hx hb d_Pa_nextSet_8 (by decide) ?_
  refine lv_icmp_ne (tgt := 18) hx hb d_Pa_nextSet_11 (by decide) (fun c2 => ?_) (fun c2 => ?_)
  · have hw := hw.1 c2
    refine lv_iconst (v := 0) hx hb d_Pa_nextSet_18 (by decide) ?_
    refine lv_istore_n (lv' := [(3, .int 0), (0, .ref a_this), (1, .int x1), (2, .int x2)]) hx hb d_Pa_nextSet_19 rfl hl (by decide) rfl (fun ls hl => ?_)
    refine lv_iload_n hx hb d_Pa_nextSet_20 rfl (lv_at hl 0 rfl) ?_
    refine lv_if_ne (tgt := 41) hx hb d_Pa_nextSet_21 (by decide) (fun c9 => absurd c9 (by decide)) (fun _ => ?_)
    refine lv_aload_n hx hb d_Pa_nextSet_24 rfl (lv_at hl 1 rfl) ?_
    refine lv_iload_n hx hb d_Pa_nextSet_25 rfl (lv_at hl 2 rfl) ?_
    refine lv_iload_n hx hb d_Pa_nextSet_26 rfl (lv_at hl 3 rfl) ?_
    refine k_roVi (As := [.int x1, .int x2]) (rest := []) hz [0, 1, 2, 3, 4, 5] [0, 1, 2] 0 1 ⟨hx, hb, hml, hown, hts⟩ (met_Pa_costOfTelling l D Z hz ad hk a_this a_text a_text_items a_row a_row_items a_costs k_text_items k_row_items k_costs v_text_count f_text_items v_row_count f_row_items f_costs x1 x2 hw) (cwV 2 hts (g_V mm_162 mm_164 mm_1 mm_44 mm_165) rfl rfl rfl hd_Pa_costOfTelling ⟨Nat.le_of_ble_eq_true rfl, Nat.le_of_ble_eq_true rfl⟩) hP hK hZ hS rfl rfl rfl rfl rfl hl.1 rfl (Nat.le_of_ble_eq_true rfl) d_Pa_nextSet_27 ⟨Nat.le_of_ble_eq_true rfl, Nat.le_of_ble_eq_true rfl⟩ (fun r3 hw => ?_)
    refine lv_aload_n hx hb d_Pa_nextSet_30 rfl (lv_at hl 1 rfl) ?_
    refine lv_iload_n hx hb d_Pa_nextSet_31 rfl (lv_at hl 2 rfl) ?_
    refine lv_iload_n hx hb d_Pa_nextSet_32 rfl (lv_at hl 3 rfl) ?_
    refine k_roVi (As := [.int x1, .int x2]) (rest := [.int r3]) hz [0, 1, 2, 3, 4, 5] [0, 1, 2] 0 1 ⟨hx, hb, hml, hown, hts⟩ (met_Pa_cost l D Z hz ad hk a_this a_text a_text_items a_row a_row_items a_costs k_text_items k_row_items k_costs v_text_count f_text_items v_row_count f_row_items f_costs x1 x2 hw) (cwV 2 hts (g_V mm_170 mm_172 mm_2 mm_44 mm_173) rfl rfl rfl hd_Pa_cost ⟨Nat.le_of_ble_eq_true rfl, Nat.le_of_ble_eq_true rfl⟩) hP hK hZ hS rfl rfl rfl rfl rfl hl.1 rfl (Nat.le_of_ble_eq_true rfl) d_Pa_nextSet_33 ⟨Nat.le_of_ble_eq_true rfl, Nat.le_of_ble_eq_true rfl⟩ (fun r4 hw => ?_)
    refine lv_icmp_ne (tgt := 41) hx hb d_Pa_nextSet_36 (by decide) (fun c5 => ?_) (fun c5 => ?_)
    · have hw := hw.1 c5
      refine lv_iconst (v := 2) hx hb d_Pa_nextSet_41 (by decide) ?_
      refine lv_istore (lv' := [(4, .int 2), (3, .int 0), (0, .ref a_this), (1, .int x1), (2, .int x2)]) hx hb d_Pa_nextSet_42 hl (by decide) rfl (fun ls hl => ?_)
      obtain ⟨n9, hw⟩ := hw
      exact lp_Pa_nextSet_44 l D Z hz ad hk a_this a_text a_text_items a_row a_row_items a_costs k_text_items k_row_items k_costs v_text_count f_text_items v_row_count f_row_items f_costs x1 x2 hx hb hml hr hts hown hlocks hK hZ hP hS n9 2 hw ls (lv_sub hl [2, 3, 4, 0] rfl)
    · have hw := hw.2 c5
      refine lv_iload_n hx hb d_Pa_nextSet_39 rfl (lv_at hl 3 rfl) ?_
      exact W.iret (v := x2) hx hb hr (fun t ht hW => ⟨x2, rfl, hw, ht⟩) hS.2.2 d_Pa_nextSet_40
  · have hw := hw.2 c2
    refine lv_iconst (v := 1) hx hb d_Pa_nextSet_14 (by decide) ?_
    refine lv_goto (tgt := 19) hx hb d_Pa_nextSet_15 (by decide) ?_
    refine lv_istore_n (lv' := [(3, .int 1), (0, .ref a_this), (1, .int x1), (2, .int x2)]) hx hb d_Pa_nextSet_19 rfl hl (by decide) rfl (fun ls hl => ?_)
    refine lv_iload_n hx hb d_Pa_nextSet_20 rfl (lv_at hl 0 rfl) ?_
    refine lv_if_ne (tgt := 41) hx hb d_Pa_nextSet_21 (by decide) (fun _ => ?_) (fun c9 => absurd c9 (by decide))
    refine lv_iconst (v := 2) hx hb d_Pa_nextSet_41 (by decide) ?_
    refine lv_istore (lv' := [(4, .int 2), (3, .int 1), (0, .ref a_this), (1, .int x1), (2, .int x2)]) hx hb d_Pa_nextSet_42 hl (by decide) rfl (fun ls hl => ?_)
    obtain ⟨n9, hw⟩ := hw
    exact lp_Pa_nextSet_44 l D Z hz ad hk a_this a_text a_text_items a_row a_row_items a_costs k_text_items k_row_items k_costs v_text_count f_text_items v_row_count f_row_items f_costs x1 x2 hx hb hml hr hts hown hlocks hK hZ hP hS n9 2 hw ls (lv_sub hl [2, 3, 4, 0] rfl)
-- LineCodes$Packer.addTold(II)I
def w_Pa_addTold (post : Int32 → Int32 → (Nat → Int32) → Prop) (v_text_count : Int32) (f_text_items : Nat → Int32) (v_row_count : Int32) (f_row_items : Nat → Int32) (x1 : Int32) (x2 : Int32) : Prop := w_It_at (fun r1 => (¬ r1 = 128 → (¬ x2 = 2 → w_Se_symbolOf (fun r4 => (¬ r4 = (-1) → w_It_add (fun r6 s7 s8 => post 1 s7 s8) 99 v_row_count f_row_items r4) ∧ (r4 = (-1) → w_It_add (fun r9 s10 s11 => w_Se_otherOfAB (fun r12 => w_Se_symbolOf (fun r13 => w_It_add (fun r14 s15 s16 => post 1 s15 s16) 99 s10 s11 r13) r12 r1) x2) 99 v_row_count f_row_items 98)) x2 r1) ∧ (x2 = 2 → w_It_at (fun r17 => w_Se_pairOf (fun r18 => w_It_add (fun r19 s20 s21 => post 2 s20 s21) 99 v_row_count f_row_items r18) r1 r17) 64 v_text_count f_text_items (x1 + 1))) ∧ (r1 = 128 → w_It_add (fun r22 s23 s24 => post 1 s23 s24) 99 v_row_count f_row_items 102)) 64 v_text_count f_text_items x1
abbrev rm_Pa_addTold : Room := { frames := 2, cells := 0, slots := 0, locals := 41 }
set_option maxHeartbeats 4000000 in
set_option maxRecDepth 100000 in
theorem met_Pa_addTold (l : Launch) (D : va_G) (Z : (Nat → Prop) → State → Heap → Prop) (hz : zk Z) (ad : Nat → Nat) (hk : zs Z ad) (a_this : Nat) (a_text : Nat) (a_text_items : Nat) (a_row : Nat) (a_row_items : Nat) (a_costs : Nat) (k_text_items : ClassId) (k_row_items : ClassId) (k_costs : ClassId) (v_text_count : Int32) (f_text_items : Nat → Int32) (v_row_count : Int32) (f_row_items : Nat → Int32) (f_costs : Nat → Int32) (x1 : Int32) (x2 : Int32) (sz : Nat) {post : Int32 → Int32 → (Nat → Int32) → Prop} (hw : w_Pa_addTold post v_text_count f_text_items v_row_count f_row_items x1 x2) : Met l y_Pa_addTold ws_Pa_addTold rm_Pa_addTold (va_Pc [.ref a_this, .int x1, .int x2] (rw_ D vwCl [(k_text_items, .int), (k_row_items, .int), (k_costs, .int)] [(a_this, .inr (1, [.ref a_text, .ref a_row, .ref a_costs])), (a_text, .inr (0, [.ref a_text_items, .int v_text_count])), (a_text_items, .inl (k_text_items, 64, .inl f_text_items)), (a_row, .inr (0, [.ref a_row_items, .int v_row_count])), (a_row_items, .inl (k_row_items, 99, .inl f_row_items)), (a_costs, .inl (k_costs, 195, .inl f_costs))] (Z) sz)) (va_Qi (fun (r : Int32) (u : Int32 × (Nat → Int32)) => post r u.1 u.2) (fun u t => at_ D vwCl [(k_text_items, .int), (k_row_items, .int), (k_costs, .int)] (va_A [(a_this, .inr (1, [.ref a_text, .ref a_row, .ref a_costs])), (a_text, .inr (0, [.ref a_text_items, .int v_text_count])), (a_text_items, .inl (k_text_items, 64, .inl f_text_items)), (a_row, .inr (0, [.ref a_row_items, .int v_row_count])), (a_row_items, .inl (k_row_items, 99, .inl f_row_items)), (a_costs, .inl (k_costs, 195, .inl f_costs))] sz) [(a_this, .inr (1, [.ref a_text, .ref a_row, .ref a_costs])), (a_text, .inr (0, [.ref a_text_items, .int v_text_count])), (a_text_items, .inl (k_text_items, 64, .inl f_text_items)), (a_row, .inr (0, [.ref a_row_items, .int u.1])), (a_row_items, .inl (k_row_items, 99, .inl u.2)), (a_costs, .inl (k_costs, 195, .inl f_costs))] t) (va_A [(a_this, .inr (1, [.ref a_text, .ref a_row, .ref a_costs])), (a_text, .inr (0, [.ref a_text_items, .int v_text_count])), (a_text_items, .inl (k_text_items, 64, .inl f_text_items)), (a_row, .inr (0, [.ref a_row_items, .int v_row_count])), (a_row_items, .inl (k_row_items, 99, .inl f_row_items)), (a_costs, .inl (k_costs, 195, .inl f_costs))] sz)) 0 0 (va_A [(a_this, .inr (1, [.ref a_text, .ref a_row, .ref a_costs])), (a_text, .inr (0, [.ref a_text_items, .int v_text_count])), (a_text_items, .inl (k_text_items, 64, .inl f_text_items)), (a_row, .inr (0, [.ref a_row_items, .int v_row_count])), (a_row_items, .inl (k_row_items, 99, .inl f_row_items)), (a_costs, .inl (k_costs, 195, .inl f_costs))] sz) := by
  refine Met.ofW (cc := c_Pa_addTold) (maxL := 5) (ret := (some .int)) (by decide) rfl ?_
  intro p e s m args below meth c s₁ B hml hv
  obtain ⟨rfl, hsz, hP, hK, hD0, hZ⟩ := hv
  have hx := B.exec
  have hb := B.bytes
  have hr := B.returns
  have hts0 := atoms_spec (ws := ws_Pa_addTold) B.pre
  have hts := fun (w : Cond) (h : w ∈ tb) => hts0 w (List.mem_cons_of_mem _ h)
  have hown : s.vm.findClass R_Pa = some m.cls := findClass_of_methodNamed B.named
  have hlocks := B.notSynchronized
  subst hsz
  have hD := hD0.self (sz := s.heap.size)
  generalize hAe : va_A [(a_this, .inr (1, [.ref a_text, .ref a_row, .ref a_costs])), (a_text, .inr (0, [.ref a_text_items, .int v_text_count])), (a_text_items, .inl (k_text_items, 64, .inl f_text_items)), (a_row, .inr (0, [.ref a_row_items, .int v_row_count])), (a_row_items, .inl (k_row_items, 99, .inl f_row_items)), (a_costs, .inl (k_costs, 195, .inl f_costs))] s.heap.size = A at hD hZ ⊢
  have hA : ∀ q : Nat, s.heap.size ≤ q → A q := fun q h => by rw [← hAe]; exact Or.inr h
  have hS : va_S A s.heap s.heap [] := va_S.rf
  have hl := lv_entry ([.ref a_this, .int x1, .int x2]) (n := 5) (Nat.le_of_ble_eq_true rfl)
  rw [lg_entry_eq]
  generalize (lg_sl ([.ref a_this, .int x1, .int x2]) ++ List.replicate (5 - (lg_sl ([.ref a_this, .int x1, .int x2])).length) Slot.unset).toArray = ls at hl ⊢
  have hl : lv_has ls 5 [(0, .ref a_this), (1, .int x1), (2, .int x2)] := hl
  unfold w_Pa_addTold at hw
  refine lv_aload_n hx hb d_Pa_addTold_0 rfl (lv_at hl 0 rfl) ?_
  refine va_get (D := D) (ci := 1) (v := .ref a_text) (C := R_Pa) (T := T_Pa) (N := 3) hx hb hts in_Pa hown hK hP 0 rfl rfl 0 (by decide) (hts _ mm_87) (fun _ h9 => h9) rfl d_Pa_addTold_1 ?_
  refine lv_iload_n hx hb d_Pa_addTold_4 rfl (lv_at hl 1 rfl) ?_
  refine k_roVi (As := [.int x1]) (rest := []) hz [1, 2] [0] 1 0 ⟨hx, hb, hml, hown, hts⟩ (met_It_at l D Z hz ad hk a_text a_text_items k_text_items 64 v_text_count f_text_items x1 hw) (cwV 1 hts (g_V mm_166 mm_167 mm_168 mm_42 mm_169) rfl rfl rfl hd_It_at ⟨Nat.le_of_ble_eq_true rfl, Nat.le_of_ble_eq_true rfl⟩) hP hK hZ hS rfl rfl rfl rfl rfl hl.1 rfl (Nat.le_of_ble_eq_true rfl) d_Pa_addTold_5 ⟨Nat.le_of_ble_eq_true rfl, Nat.le_of_ble_eq_true rfl⟩ (fun r1 hw => ?_)
  refine lv_istore_n (lv' := [(3, .int r1), (0, .ref a_this), (1, .int x1), (2, .int x2)]) hx hb d_Pa_addTold_8 rfl hl (by decide) rfl (fun ls hl => ?_)
  refine lv_iload_n hx hb d_Pa_addTold_9 rfl (lv_at hl 0 rfl) ?_
  refine lv_sipush (v := 128) hx hb d_Pa_addTold_10 (by decide) ?_
  refine lv_icmp_ne (tgt := 28) hx hb d_Pa_addTold_13 (by decide) (fun c2 => ?_) (fun c2 => ?_)
  · have hw := hw.1 c2
    refine lv_iload_n hx hb d_Pa_addTold_28 rfl (lv_at hl 3 rfl) ?_
    refine lv_iconst (v := 2) hx hb d_Pa_addTold_29 (by decide) ?_
    refine lv_icmp_ne (tgt := 57) hx hb d_Pa_addTold_30 (by decide) (fun c3 => ?_) (fun c3 => ?_)
    · have hw := hw.1 c3
      refine lv_iload_n hx hb d_Pa_addTold_57 rfl (lv_at hl 3 rfl) ?_
      refine lv_iload_n hx hb d_Pa_addTold_58 rfl (lv_at hl 0 rfl) ?_
      refine k_roSi (As := [.int x2, .int r1]) (rest := []) hz [] [] ⟨hx, hb, hml, hown, hts⟩ (met_Se_symbolOf l D Z hz ad hk x2 r1 hw) (va_cwS 2 hts (g_S mm_180 mm_181 mm_51 mm_182) rfl rfl rfl hd_Se_symbolOf.2 ⟨Nat.le_of_ble_eq_true rfl, Nat.le_of_ble_eq_true rfl⟩) hP hK hZ hS rfl rfl rfl hl.1 rfl (Nat.le_of_ble_eq_true rfl) d_Pa_addTold_59 ⟨Nat.le_of_ble_eq_true rfl, Nat.le_of_ble_eq_true rfl⟩ (fun r4 hw => ?_)
      refine lv_istore (lv' := [(4, .int r4), (3, .int r1), (0, .ref a_this), (1, .int x1), (2, .int x2)]) hx hb d_Pa_addTold_62 hl (by decide) rfl (fun ls hl => ?_)
      refine lv_iload hx hb d_Pa_addTold_64 (lv_at hl 0 rfl) ?_
      refine lv_iconst (v := (-1)) hx hb d_Pa_addTold_66 (by decide) ?_
      refine lv_icmp_ne (tgt := 90) hx hb d_Pa_addTold_67 (by decide) (fun c5 => ?_) (fun c5 => ?_)
      · have hw := hw.1 c5
        refine lv_aload_n hx hb d_Pa_addTold_90 rfl (lv_at hl 2 rfl) ?_
        refine va_get (D := D) (ci := 1) (v := .ref a_row) (C := R_Pa) (T := T_Pa) (N := 3) hx hb hts in_Pa hown hK hP 0 rfl rfl 1 (by decide) (hts _ mm_88) (fun _ h9 => h9) rfl d_Pa_addTold_91 ?_
        refine lv_iload hx hb d_Pa_addTold_94 (lv_at hl 0 rfl) ?_
        refine k_rwVi (As := [.int r4]) (rest := []) (wr := [(a_this, .inr (1, [.ref a_text, .ref a_row, .ref a_costs])), (a_text, .inr (0, [.ref a_text_items, .int v_text_count])), (a_text_items, .inl (k_text_items, 64, .inl f_text_items)), (a_costs, .inl (k_costs, 195, .inl f_costs))]) hz [3, 4] [0, 1, 2, 5] [1] 3 0 ⟨hx, hb, hml, hown, hts⟩ (met_It_add l D Z hz ad hk a_row a_row_items k_row_items 99 v_row_count f_row_items r4 _ hw) (cwV 1 hts (g_V mm_202 mm_203 mm_204 mm_42 mm_205) rfl rfl rfl hd_It_add ⟨Nat.le_of_ble_eq_true rfl, Nat.le_of_ble_eq_true rfl⟩) hP hD hK hZ hS hA rfl rfl rfl rfl rfl (by decide) rfl rfl rfl rfl hl.1 rfl (Nat.le_of_ble_eq_true rfl) d_Pa_addTold_96 ⟨Nat.le_of_ble_eq_true rfl, Nat.le_of_ble_eq_true rfl⟩ (fun r6 u9 H locs hw hP hD hS => ?_)
        obtain ⟨s7, s8⟩ := u9
        try dsimp only at hw
        have hP : va_P D vwCl [(a_this, .inr (1, [.ref a_text, .ref a_row, .ref a_costs])), (a_text, .inr (0, [.ref a_text_items, .int v_text_count])), (a_text_items, .inl (k_text_items, 64, .inl f_text_items)), (a_costs, .inl (k_costs, 195, .inl f_costs)), (a_row, .inr (0, [.ref a_row_items, .int s7])), (a_row_items, .inl (k_row_items, 99, .inl s8))] H := hP
        have hD : va_D A [(a_this, .inr (1, [.ref a_text, .ref a_row, .ref a_costs])), (a_text, .inr (0, [.ref a_text_items, .int v_text_count])), (a_text_items, .inl (k_text_items, 64, .inl f_text_items)), (a_costs, .inl (k_costs, 195, .inl f_costs)), (a_row, .inr (0, [.ref a_row_items, .int s7])), (a_row_items, .inl (k_row_items, 99, .inl s8))] := hD
        refine lv_pop hx hb d_Pa_addTold_99 rfl ?_
        refine lv_iconst (v := 1) hx hb d_Pa_addTold_100 (by decide) ?_
        have hP9 := hP.sub (ws' := [(a_this, .inr (1, [.ref a_text, .ref a_row, .ref a_costs])), (a_text, .inr (0, [.ref a_text_items, .int v_text_count])), (a_text_items, .inl (k_text_items, 64, .inl f_text_items)), (a_row, .inr (0, [.ref a_row_items, .int s7])), (a_row_items, .inl (k_row_items, 99, .inl s8)), (a_costs, .inl (k_costs, 195, .inl f_costs))]) [0, 1, 2, 4, 5, 3] rfl
        have hD9 := hD.sub (ws' := [(a_this, .inr (1, [.ref a_text, .ref a_row, .ref a_costs])), (a_text, .inr (0, [.ref a_text_items, .int v_text_count])), (a_text_items, .inl (k_text_items, 64, .inl f_text_items)), (a_row, .inr (0, [.ref a_row_items, .int s7])), (a_row_items, .inl (k_row_items, 99, .inl s8)), (a_costs, .inl (k_costs, 195, .inl f_costs))]) [0, 1, 2, 4, 5, 3] (by decide) rfl
        exact W.iret (v := 1) hx hb hr (fun t ht hW => ⟨⟨1, (s7, s8), rfl, hw, by rw [ht]; exact hP9, va_K.moved hW.alike hK, hD9⟩, hS.F ht⟩) hS.2.2 d_Pa_addTold_101
      · have hw := hw.2 c5
        refine lv_aload_n hx hb d_Pa_addTold_70 rfl (lv_at hl 2 rfl) ?_
        refine va_get (D := D) (ci := 1) (v := .ref a_row) (C := R_Pa) (T := T_Pa) (N := 3) hx hb hts in_Pa hown hK hP 0 rfl rfl 1 (by decide) (hts _ mm_88) (fun _ h9 => h9) rfl d_Pa_addTold_71 ?_
        refine lv_bipush (v := 98) hx hb d_Pa_addTold_74 (by decide) ?_
        refine k_rwVi (As := [.int 98]) (rest := []) (wr := [(a_this, .inr (1, [.ref a_text, .ref a_row, .ref a_costs])), (a_text, .inr (0, [.ref a_text_items, .int v_text_count])), (a_text_items, .inl (k_text_items, 64, .inl f_text_items)), (a_costs, .inl (k_costs, 195, .inl f_costs))]) hz [3, 4] [0, 1, 2, 5] [1] 3 0 ⟨hx, hb, hml, hown, hts⟩ (met_It_add l D Z hz ad hk a_row a_row_items k_row_items 99 v_row_count f_row_items 98 _ hw) (cwV 1 hts (g_V mm_202 mm_203 mm_204 mm_42 mm_205) rfl rfl rfl hd_It_add ⟨Nat.le_of_ble_eq_true rfl, Nat.le_of_ble_eq_true rfl⟩) hP hD hK hZ hS hA rfl rfl rfl rfl rfl (by decide) rfl rfl rfl rfl hl.1 rfl (Nat.le_of_ble_eq_true rfl) d_Pa_addTold_76 ⟨Nat.le_of_ble_eq_true rfl, Nat.le_of_ble_eq_true rfl⟩ (fun r9 u9 H locs hw hP hD hS => ?_)
        obtain ⟨s10, s11⟩ := u9
        try dsimp only at hw
        have hP : va_P D vwCl [(a_this, .inr (1, [.ref a_text, .ref a_row, .ref a_costs])), (a_text, .inr (0, [.ref a_text_items, .int v_text_count])), (a_text_items, .inl (k_text_items, 64, .inl f_text_items)), (a_costs, .inl (k_costs, 195, .inl f_costs)), (a_row, .inr (0, [.ref a_row_items, .int s10])), (a_row_items, .inl (k_row_items, 99, .inl s11))] H := hP
        have hD : va_D A [(a_this, .inr (1, [.ref a_text, .ref a_row, .ref a_costs])), (a_text, .inr (0, [.ref a_text_items, .int v_text_count])), (a_text_items, .inl (k_text_items, 64, .inl f_text_items)), (a_costs, .inl (k_costs, 195, .inl f_costs)), (a_row, .inr (0, [.ref a_row_items, .int s10])), (a_row_items, .inl (k_row_items, 99, .inl s11))] := hD
        refine lv_pop hx hb d_Pa_addTold_79 rfl ?_
        refine lv_iload_n hx hb d_Pa_addTold_80 rfl (lv_at hl 4 rfl) ?_
        refine k_roSi (As := [.int x2]) (rest := []) hz [] [] ⟨hx, hb, hml, hown, hts⟩ (met_Se_otherOfAB l D Z hz ad hk x2 hw) (va_cwS 1 hts (g_S mm_214 mm_215 mm_51 mm_216) rfl rfl rfl hd_Se_otherOfAB.2 ⟨Nat.le_of_ble_eq_true rfl, Nat.le_of_ble_eq_true rfl⟩) hP hK hZ hS rfl rfl rfl hl.1 rfl (Nat.le_of_ble_eq_true rfl) d_Pa_addTold_81 ⟨Nat.le_of_ble_eq_true rfl, Nat.le_of_ble_eq_true rfl⟩ (fun r12 hw => ?_)
        refine lv_iload_n hx hb d_Pa_addTold_84 rfl (lv_at hl 1 rfl) ?_
        refine k_roSi (As := [.int r12, .int r1]) (rest := []) hz [] [] ⟨hx, hb, hml, hown, hts⟩ (met_Se_symbolOf l D Z hz ad hk r12 r1 hw) (va_cwS 2 hts (g_S mm_180 mm_181 mm_51 mm_182) rfl rfl rfl hd_Se_symbolOf.2 ⟨Nat.le_of_ble_eq_true rfl, Nat.le_of_ble_eq_true rfl⟩) hP hK hZ hS rfl rfl rfl hl.1 rfl (Nat.le_of_ble_eq_true rfl) d_Pa_addTold_85 ⟨Nat.le_of_ble_eq_true rfl, Nat.le_of_ble_eq_true rfl⟩ (fun r13 hw => ?_)
        refine lv_istore (lv' := [(4, .int r13), (3, .int r1), (0, .ref a_this), (1, .int x1), (2, .int x2)]) hx hb d_Pa_addTold_88 hl (by decide) rfl (fun ls hl => ?_)
        refine lv_aload_n hx hb d_Pa_addTold_90 rfl (lv_at hl 2 rfl) ?_
        refine va_get (D := D) (ci := 1) (v := .ref a_row) (C := R_Pa) (T := T_Pa) (N := 3) hx hb hts in_Pa hown hK hP 0 rfl rfl 1 (by decide) (hts _ mm_88) (fun _ h9 => h9) rfl d_Pa_addTold_91 ?_
        refine lv_iload hx hb d_Pa_addTold_94 (lv_at hl 0 rfl) ?_
        refine k_rwVi (As := [.int r13]) (rest := []) (wr := [(a_this, .inr (1, [.ref a_text, .ref a_row, .ref a_costs])), (a_text, .inr (0, [.ref a_text_items, .int v_text_count])), (a_text_items, .inl (k_text_items, 64, .inl f_text_items)), (a_costs, .inl (k_costs, 195, .inl f_costs))]) hz [4, 5] [0, 1, 2, 3] [1] 4 0 ⟨hx, hb, hml, hown, hts⟩ (met_It_add l D Z hz ad hk a_row a_row_items k_row_items 99 s10 s11 r13 _ hw) (cwV 1 hts (g_V mm_202 mm_203 mm_204 mm_42 mm_205) rfl rfl rfl hd_It_add ⟨Nat.le_of_ble_eq_true rfl, Nat.le_of_ble_eq_true rfl⟩) hP hD hK hZ hS hA rfl rfl rfl rfl rfl (by decide) rfl rfl rfl rfl hl.1 rfl (Nat.le_of_ble_eq_true rfl) d_Pa_addTold_96 ⟨Nat.le_of_ble_eq_true rfl, Nat.le_of_ble_eq_true rfl⟩ (fun r14 u9 H locs hw hP hD hS => ?_)
        obtain ⟨s15, s16⟩ := u9
        try dsimp only at hw
        have hP : va_P D vwCl [(a_this, .inr (1, [.ref a_text, .ref a_row, .ref a_costs])), (a_text, .inr (0, [.ref a_text_items, .int v_text_count])), (a_text_items, .inl (k_text_items, 64, .inl f_text_items)), (a_costs, .inl (k_costs, 195, .inl f_costs)), (a_row, .inr (0, [.ref a_row_items, .int s15])), (a_row_items, .inl (k_row_items, 99, .inl s16))] H := hP
        have hD : va_D A [(a_this, .inr (1, [.ref a_text, .ref a_row, .ref a_costs])), (a_text, .inr (0, [.ref a_text_items, .int v_text_count])), (a_text_items, .inl (k_text_items, 64, .inl f_text_items)), (a_costs, .inl (k_costs, 195, .inl f_costs)), (a_row, .inr (0, [.ref a_row_items, .int s15])), (a_row_items, .inl (k_row_items, 99, .inl s16))] := hD
        refine lv_pop hx hb d_Pa_addTold_99 rfl ?_
        refine lv_iconst (v := 1) hx hb d_Pa_addTold_100 (by decide) ?_
        have hP9 := hP.sub (ws' := [(a_this, .inr (1, [.ref a_text, .ref a_row, .ref a_costs])), (a_text, .inr (0, [.ref a_text_items, .int v_text_count])), (a_text_items, .inl (k_text_items, 64, .inl f_text_items)), (a_row, .inr (0, [.ref a_row_items, .int s15])), (a_row_items, .inl (k_row_items, 99, .inl s16)), (a_costs, .inl (k_costs, 195, .inl f_costs))]) [0, 1, 2, 4, 5, 3] rfl
        have hD9 := hD.sub (ws' := [(a_this, .inr (1, [.ref a_text, .ref a_row, .ref a_costs])), (a_text, .inr (0, [.ref a_text_items, .int v_text_count])), (a_text_items, .inl (k_text_items, 64, .inl f_text_items)), (a_row, .inr (0, [.ref a_row_items, .int s15])), (a_row_items, .inl (k_row_items, 99, .inl s16)), (a_costs, .inl (k_costs, 195, .inl f_costs))]) [0, 1, 2, 4, 5, 3] (by decide) rfl
        exact W.iret (v := 1) hx hb hr (fun t ht hW => ⟨⟨1, (s15, s16), rfl, hw, by rw [ht]; exact hP9, va_K.moved hW.alike hK, hD9⟩, hS.F ht⟩) hS.2.2 d_Pa_addTold_101
    · have hw := hw.2 c3
      refine lv_aload_n hx hb d_Pa_addTold_33 rfl (lv_at hl 1 rfl) ?_
      refine va_get (D := D) (ci := 1) (v := .ref a_row) (C := R_Pa) (T := T_Pa) (N := 3) hx hb hts in_Pa hown hK hP 0 rfl rfl 1 (by decide) (hts _ mm_88) (fun _ h9 => h9) rfl d_Pa_addTold_34 ?_
      refine lv_iload_n hx hb d_Pa_addTold_37 rfl (lv_at hl 0 rfl) ?_
      refine lv_aload_n hx hb d_Pa_addTold_38 rfl (lv_at hl 1 rfl) ?_
      refine va_get (D := D) (ci := 1) (v := .ref a_text) (C := R_Pa) (T := T_Pa) (N := 3) hx hb hts in_Pa hown hK hP 0 rfl rfl 0 (by decide) (hts _ mm_87) (fun _ h9 => h9) rfl d_Pa_addTold_39 ?_
      refine lv_iload_n hx hb d_Pa_addTold_42 rfl (lv_at hl 2 rfl) ?_
      refine lv_iconst (v := 1) hx hb d_Pa_addTold_43 (by decide) ?_
      refine lv_iadd hx hb d_Pa_addTold_44 ?_
      refine k_roVi (As := [.int (x1 + 1)]) (rest := [.int r1, .ref a_row]) hz [1, 2] [0] 1 0 ⟨hx, hb, hml, hown, hts⟩ (met_It_at l D Z hz ad hk a_text a_text_items k_text_items 64 v_text_count f_text_items (x1 + 1) hw) (cwV 1 hts (g_V mm_166 mm_167 mm_168 mm_42 mm_169) rfl rfl rfl hd_It_at ⟨Nat.le_of_ble_eq_true rfl, Nat.le_of_ble_eq_true rfl⟩) hP hK hZ hS rfl rfl rfl rfl rfl hl.1 rfl (Nat.le_of_ble_eq_true rfl) d_Pa_addTold_45 ⟨Nat.le_of_ble_eq_true rfl, Nat.le_of_ble_eq_true rfl⟩ (fun r17 hw => ?_)
      refine k_roSi (As := [.int r1, .int r17]) (rest := [.ref a_row]) hz [] [] ⟨hx, hb, hml, hown, hts⟩ (met_Se_pairOf l D Z hz ad hk r1 r17 hw) (va_cwS 2 hts (g_S mm_174 mm_175 mm_51 mm_176) rfl rfl rfl hd_Se_pairOf.2 ⟨Nat.le_of_ble_eq_true rfl, Nat.le_of_ble_eq_true rfl⟩) hP hK hZ hS rfl rfl rfl hl.1 rfl (Nat.le_of_ble_eq_true rfl) d_Pa_addTold_48 ⟨Nat.le_of_ble_eq_true rfl, Nat.le_of_ble_eq_true rfl⟩ (fun r18 hw => ?_)
      refine k_rwVi (As := [.int r18]) (rest := []) (wr := [(a_this, .inr (1, [.ref a_text, .ref a_row, .ref a_costs])), (a_text, .inr (0, [.ref a_text_items, .int v_text_count])), (a_text_items, .inl (k_text_items, 64, .inl f_text_items)), (a_costs, .inl (k_costs, 195, .inl f_costs))]) hz [3, 4] [0, 1, 2, 5] [1] 3 0 ⟨hx, hb, hml, hown, hts⟩ (met_It_add l D Z hz ad hk a_row a_row_items k_row_items 99 v_row_count f_row_items r18 _ hw) (cwV 1 hts (g_V mm_202 mm_203 mm_204 mm_42 mm_205) rfl rfl rfl hd_It_add ⟨Nat.le_of_ble_eq_true rfl, Nat.le_of_ble_eq_true rfl⟩) hP hD hK hZ hS hA rfl rfl rfl rfl rfl (by decide) rfl rfl rfl rfl hl.1 rfl (Nat.le_of_ble_eq_true rfl) d_Pa_addTold_51 ⟨Nat.le_of_ble_eq_true rfl, Nat.le_of_ble_eq_true rfl⟩ (fun r19 u9 H locs hw hP hD hS => ?_)
      obtain ⟨s20, s21⟩ := u9
      try dsimp only at hw
      have hP : va_P D vwCl [(a_this, .inr (1, [.ref a_text, .ref a_row, .ref a_costs])), (a_text, .inr (0, [.ref a_text_items, .int v_text_count])), (a_text_items, .inl (k_text_items, 64, .inl f_text_items)), (a_costs, .inl (k_costs, 195, .inl f_costs)), (a_row, .inr (0, [.ref a_row_items, .int s20])), (a_row_items, .inl (k_row_items, 99, .inl s21))] H := hP
      have hD : va_D A [(a_this, .inr (1, [.ref a_text, .ref a_row, .ref a_costs])), (a_text, .inr (0, [.ref a_text_items, .int v_text_count])), (a_text_items, .inl (k_text_items, 64, .inl f_text_items)), (a_costs, .inl (k_costs, 195, .inl f_costs)), (a_row, .inr (0, [.ref a_row_items, .int s20])), (a_row_items, .inl (k_row_items, 99, .inl s21))] := hD
      refine lv_pop hx hb d_Pa_addTold_54 rfl ?_
      refine lv_iconst (v := 2) hx hb d_Pa_addTold_55 (by decide) ?_
      have hP9 := hP.sub (ws' := [(a_this, .inr (1, [.ref a_text, .ref a_row, .ref a_costs])), (a_text, .inr (0, [.ref a_text_items, .int v_text_count])), (a_text_items, .inl (k_text_items, 64, .inl f_text_items)), (a_row, .inr (0, [.ref a_row_items, .int s20])), (a_row_items, .inl (k_row_items, 99, .inl s21)), (a_costs, .inl (k_costs, 195, .inl f_costs))]) [0, 1, 2, 4, 5, 3] rfl
      have hD9 := hD.sub (ws' := [(a_this, .inr (1, [.ref a_text, .ref a_row, .ref a_costs])), (a_text, .inr (0, [.ref a_text_items, .int v_text_count])), (a_text_items, .inl (k_text_items, 64, .inl f_text_items)), (a_row, .inr (0, [.ref a_row_items, .int s20])), (a_row_items, .inl (k_row_items, 99, .inl s21)), (a_costs, .inl (k_costs, 195, .inl f_costs))]) [0, 1, 2, 4, 5, 3] (by decide) rfl
      exact W.iret (v := 2) hx hb hr (fun t ht hW => ⟨⟨2, (s20, s21), rfl, hw, by rw [ht]; exact hP9, va_K.moved hW.alike hK, hD9⟩, hS.F ht⟩) hS.2.2 d_Pa_addTold_56
  · have hw := hw.2 c2
    refine lv_aload_n hx hb d_Pa_addTold_16 rfl (lv_at hl 1 rfl) ?_
    refine va_get (D := D) (ci := 1) (v := .ref a_row) (C := R_Pa) (T := T_Pa) (N := 3) hx hb hts in_Pa hown hK hP 0 rfl rfl 1 (by decide) (hts _ mm_88) (fun _ h9 => h9) rfl d_Pa_addTold_17 ?_
    refine lv_bipush (v := 102) hx hb d_Pa_addTold_20 (by decide) ?_
    refine k_rwVi (As := [.int 102]) (rest := []) (wr := [(a_this, .inr (1, [.ref a_text, .ref a_row, .ref a_costs])), (a_text, .inr (0, [.ref a_text_items, .int v_text_count])), (a_text_items, .inl (k_text_items, 64, .inl f_text_items)), (a_costs, .inl (k_costs, 195, .inl f_costs))]) hz [3, 4] [0, 1, 2, 5] [1] 3 0 ⟨hx, hb, hml, hown, hts⟩ (met_It_add l D Z hz ad hk a_row a_row_items k_row_items 99 v_row_count f_row_items 102 _ hw) (cwV 1 hts (g_V mm_202 mm_203 mm_204 mm_42 mm_205) rfl rfl rfl hd_It_add ⟨Nat.le_of_ble_eq_true rfl, Nat.le_of_ble_eq_true rfl⟩) hP hD hK hZ hS hA rfl rfl rfl rfl rfl (by decide) rfl rfl rfl rfl hl.1 rfl (Nat.le_of_ble_eq_true rfl) d_Pa_addTold_22 ⟨Nat.le_of_ble_eq_true rfl, Nat.le_of_ble_eq_true rfl⟩ (fun r22 u9 H locs hw hP hD hS => ?_)
    obtain ⟨s23, s24⟩ := u9
    try dsimp only at hw
    have hP : va_P D vwCl [(a_this, .inr (1, [.ref a_text, .ref a_row, .ref a_costs])), (a_text, .inr (0, [.ref a_text_items, .int v_text_count])), (a_text_items, .inl (k_text_items, 64, .inl f_text_items)), (a_costs, .inl (k_costs, 195, .inl f_costs)), (a_row, .inr (0, [.ref a_row_items, .int s23])), (a_row_items, .inl (k_row_items, 99, .inl s24))] H := hP
    have hD : va_D A [(a_this, .inr (1, [.ref a_text, .ref a_row, .ref a_costs])), (a_text, .inr (0, [.ref a_text_items, .int v_text_count])), (a_text_items, .inl (k_text_items, 64, .inl f_text_items)), (a_costs, .inl (k_costs, 195, .inl f_costs)), (a_row, .inr (0, [.ref a_row_items, .int s23])), (a_row_items, .inl (k_row_items, 99, .inl s24))] := hD
    refine lv_pop hx hb d_Pa_addTold_25 rfl ?_
    refine lv_iconst (v := 1) hx hb d_Pa_addTold_26 (by decide) ?_
    have hP9 := hP.sub (ws' := [(a_this, .inr (1, [.ref a_text, .ref a_row, .ref a_costs])), (a_text, .inr (0, [.ref a_text_items, .int v_text_count])), (a_text_items, .inl (k_text_items, 64, .inl f_text_items)), (a_row, .inr (0, [.ref a_row_items, .int s23])), (a_row_items, .inl (k_row_items, 99, .inl s24)), (a_costs, .inl (k_costs, 195, .inl f_costs))]) [0, 1, 2, 4, 5, 3] rfl
    have hD9 := hD.sub (ws' := [(a_this, .inr (1, [.ref a_text, .ref a_row, .ref a_costs])), (a_text, .inr (0, [.ref a_text_items, .int v_text_count])), (a_text_items, .inl (k_text_items, 64, .inl f_text_items)), (a_row, .inr (0, [.ref a_row_items, .int s23])), (a_row_items, .inl (k_row_items, 99, .inl s24)), (a_costs, .inl (k_costs, 195, .inl f_costs))]) [0, 1, 2, 4, 5, 3] (by decide) rfl
    exact W.iret (v := 1) hx hb hr (fun t ht hW => ⟨⟨1, (s23, s24), rfl, hw, by rw [ht]; exact hP9, va_K.moved hW.alike hK, hD9⟩, hS.F ht⟩) hS.2.2 d_Pa_addTold_27
-- LineCodes$Packer.addSymbols()V
def w_Pa_addSymbols_21 (post : Int32 → (Nat → Int32) → Prop) (v_text_count : Int32) (f_text_items : Nat → Int32) (f_costs : Nat → Int32) : Nat → Int32 → (Nat → Int32) → Int32 → Int32 → Int32 → Prop
  | 0, _, _, _, _, _ => False
  | n + 1, v_row_count, f_row_items, y1, y2, y3 => (99 ≤ y3 → post v_row_count f_row_items) ∧ (¬ 99 ≤ y3 → w_It_count (fun r7 => (r7 ≤ y2 → post v_row_count f_row_items) ∧ (¬ r7 ≤ y2 → w_Pa_nextSet (fun r9 => (¬ r9 = y1 → w_Se_switchTo (fun r11 => w_It_add (fun r12 s13 s14 => w_Pa_addSymbols_21 post v_text_count f_text_items f_costs n s13 s14 r9 y2 (y3 + 1)) 99 v_row_count f_row_items r11) r9) ∧ (r9 = y1 → w_Pa_addTold (fun r15 s16 s17 => w_Pa_addSymbols_21 post v_text_count f_text_items f_costs n s16 s17 y1 (y2 + r15) (y3 + 1)) v_text_count f_text_items v_row_count f_row_items y2 y1)) v_text_count f_text_items f_costs y2 y1)) v_text_count)
def w_Pa_addSymbols (post : Int32 → (Nat → Int32) → Prop) (v_text_count : Int32) (f_text_items : Nat → Int32) (v_row_count : Int32) (f_row_items : Nat → Int32) (f_costs : Nat → Int32) : Prop := w_Pa_cheapestFirstSet (fun r1 => w_Se_firstOf (fun r2 => w_It_add (fun r3 s4 s5 => ∃ n, w_Pa_addSymbols_21 post v_text_count f_text_items f_costs n s4 s5 r1 0 0) 99 v_row_count f_row_items r2) r1) f_costs
abbrev rm_Pa_addSymbols : Room := { frames := 4, cells := 0, slots := 0, locals := 89 }
set_option maxHeartbeats 4000000 in
set_option maxRecDepth 100000 in
theorem lp_Pa_addSymbols_21 (l : Launch) (D : va_G) (Z : (Nat → Prop) → State → Heap → Prop) (hz : zk Z) (ad : Nat → Nat) (hk : zs Z ad) {p : Program} {e : Env} {s : State} {m : MethodId} {args : Array Value} {below : List Frame} {meth : Method} {c : Code} {A : Nat → Prop} (a_this : Nat) (a_text : Nat) (a_text_items : Nat) (a_row : Nat) (a_row_items : Nat) (a_costs : Nat) (k_text_items : ClassId) (k_row_items : ClassId) (k_costs : ClassId) (v_text_count : Int32) (f_text_items : Nat → Int32) (f_costs : Nat → Int32) {post : Int32 → (Nat → Int32) → Prop} (hx : p.tables.exec = Jvm.exec) (hb : c.code = c_Pa_addSymbols) (hml : c.maxLocals = 5) (hr : meth.sig.returnType = (none)) (hts : ∀ w ∈ tb, w.before args s = true) (hown : s.vm.findClass R_Pa = some m.cls) (hlocks : meth.locks = false) (hK : va_K D vwCl [(k_text_items, .int), (k_row_items, .int), (k_costs, .int)] s) (hZ : Z A s s.heap) (hA : ∀ q, s.heap.size ≤ q → A q) : ∀ (n : Nat) (v_row_count : Int32) (f_row_items : Nat → Int32) (y1 : Int32) (y2 : Int32) (y3 : Int32), w_Pa_addSymbols_21 post v_text_count f_text_items f_costs n v_row_count f_row_items y1 y2 y3 → ∀ (H : Heap) (locs : List Loc), va_P D vwCl [(a_this, .inr (1, [.ref a_text, .ref a_row, .ref a_costs])), (a_text, .inr (0, [.ref a_text_items, .int v_text_count])), (a_text_items, .inl (k_text_items, 64, .inl f_text_items)), (a_row, .inr (0, [.ref a_row_items, .int v_row_count])), (a_row_items, .inl (k_row_items, 99, .inl f_row_items)), (a_costs, .inl (k_costs, 195, .inl f_costs))] H → va_D A [(a_this, .inr (1, [.ref a_text, .ref a_row, .ref a_costs])), (a_text, .inr (0, [.ref a_text_items, .int v_text_count])), (a_text_items, .inl (k_text_items, 64, .inl f_text_items)), (a_row, .inr (0, [.ref a_row_items, .int v_row_count])), (a_row_items, .inl (k_row_items, 99, .inl f_row_items)), (a_costs, .inl (k_costs, 195, .inl f_costs))] → va_S A s.heap H locs → ∀ ls : Array Slot, lv_has ls 5 [(0, .ref a_this), (1, .int y1), (2, .int y2), (3, .int y3)] → W p l e (headSpec ws_Pa_addSymbols rm_Pa_addSymbols).room s m args below meth c H locs 0 0 (MQ below (va_Qv (fun u : Int32 × (Nat → Int32) => post u.1 u.2) (fun u t => at_ D vwCl [(k_text_items, .int), (k_row_items, .int), (k_costs, .int)] A [(a_this, .inr (1, [.ref a_text, .ref a_row, .ref a_costs])), (a_text, .inr (0, [.ref a_text_items, .int v_text_count])), (a_text_items, .inl (k_text_items, 64, .inl f_text_items)), (a_row, .inr (0, [.ref a_row_items, .int u.1])), (a_row_items, .inl (k_row_items, 99, .inl u.2)), (a_costs, .inl (k_costs, 195, .inl f_costs))] t) A) args s 0 0 A) (F0 m 21 ls []) := by
  intro n
  induction n with
  | zero =>
    intro v_row_count f_row_items y1 y2 y3 hw
    unfold w_Pa_addSymbols_21 at hw
    exact hw.elim
  | succ n ih =>
    intro v_row_count f_row_items y1 y2 y3 hw H locs hP hD hS ls hl
    unfold w_Pa_addSymbols_21 at hw
    refine lv_iload_n hx hb d_Pa_addSymbols_21 rfl (lv_at hl 3 rfl) ?_
    refine lv_bipush (v := 99) hx hb d_Pa_addSymbols_22 (by decide) ?_
    refine lv_icmp_ge (tgt := 86) hx hb d_Pa_addSymbols_24 (by decide) (fun c6 => ?_) (fun c6 => ?_)
    · have hw := hw.1 c6
      have hP9 := hP.sub (ws' := [(a_this, .inr (1, [.ref a_text, .ref a_row, .ref a_costs])), (a_text, .inr (0, [.ref a_text_items, .int v_text_count])), (a_text_items, .inl (k_text_items, 64, .inl f_text_items)), (a_row, .inr (0, [.ref a_row_items, .int v_row_count])), (a_row_items, .inl (k_row_items, 99, .inl f_row_items)), (a_costs, .inl (k_costs, 195, .inl f_costs))]) [0, 1, 2, 3, 4, 5] rfl
      have hD9 := hD.sub (ws' := [(a_this, .inr (1, [.ref a_text, .ref a_row, .ref a_costs])), (a_text, .inr (0, [.ref a_text_items, .int v_text_count])), (a_text_items, .inl (k_text_items, 64, .inl f_text_items)), (a_row, .inr (0, [.ref a_row_items, .int v_row_count])), (a_row_items, .inl (k_row_items, 99, .inl f_row_items)), (a_costs, .inl (k_costs, 195, .inl f_costs))]) [0, 1, 2, 3, 4, 5] (by decide) rfl
      exact W.vret hx hb hr (fun t ht hW => ⟨⟨(v_row_count, f_row_items), rfl, hw, by rw [ht]; exact hP9, va_K.moved hW.alike hK, hD9⟩, hS.F ht⟩) hS.2.2 d_Pa_addSymbols_86
    · have hw := hw.2 c6
      refine lv_iload_n hx hb d_Pa_addSymbols_27 rfl (lv_at hl 2 rfl) ?_
      refine lv_aload_n hx hb d_Pa_addSymbols_28 rfl (lv_at hl 0 rfl) ?_
      refine va_get (D := D) (ci := 1) (v := .ref a_text) (C := R_Pa) (T := T_Pa) (N := 3) hx hb hts in_Pa hown hK hP 0 rfl rfl 0 (by decide) (hts _ mm_87) (fun _ h9 => h9) rfl d_Pa_addSymbols_29 ?_
      refine k_roVi (As := []) (rest := [.int y2]) hz [1, 2] [0] 1 0 ⟨hx, hb, hml, hown, hts⟩ (met_It_count l D Z hz ad hk a_text a_text_items k_text_items 64 v_text_count f_text_items hw) (cwV 0 hts (g_V mm_153 mm_154 mm_155 mm_42 mm_156) rfl rfl rfl hd_It_count ⟨Nat.le_of_ble_eq_true rfl, Nat.le_of_ble_eq_true rfl⟩) hP hK hZ hS rfl rfl rfl rfl rfl hl.1 rfl (Nat.le_of_ble_eq_true rfl) d_Pa_addSymbols_32 ⟨Nat.le_of_ble_eq_true rfl, Nat.le_of_ble_eq_true rfl⟩ (fun r7 hw => ?_)
      refine lv_icmp_ge (tgt := 86) hx hb d_Pa_addSymbols_35 (by decide) (fun c8 => ?_) (fun c8 => ?_)
      · have hw := hw.1 c8
        have hP9 := hP.sub (ws' := [(a_this, .inr (1, [.ref a_text, .ref a_row, .ref a_costs])), (a_text, .inr (0, [.ref a_text_items, .int v_text_count])), (a_text_items, .inl (k_text_items, 64, .inl f_text_items)), (a_row, .inr (0, [.ref a_row_items, .int v_row_count])), (a_row_items, .inl (k_row_items, 99, .inl f_row_items)), (a_costs, .inl (k_costs, 195, .inl f_costs))]) [0, 1, 2, 3, 4, 5] rfl
        have hD9 := hD.sub (ws' := [(a_this, .inr (1, [.ref a_text, .ref a_row, .ref a_costs])), (a_text, .inr (0, [.ref a_text_items, .int v_text_count])), (a_text_items, .inl (k_text_items, 64, .inl f_text_items)), (a_row, .inr (0, [.ref a_row_items, .int v_row_count])), (a_row_items, .inl (k_row_items, 99, .inl f_row_items)), (a_costs, .inl (k_costs, 195, .inl f_costs))]) [0, 1, 2, 3, 4, 5] (by decide) rfl
        exact W.vret hx hb hr (fun t ht hW => ⟨⟨(v_row_count, f_row_items), rfl, hw, by rw [ht]; exact hP9, va_K.moved hW.alike hK, hD9⟩, hS.F ht⟩) hS.2.2 d_Pa_addSymbols_86
      · have hw := hw.2 c8
        refine lv_aload_n hx hb d_Pa_addSymbols_38 rfl (lv_at hl 0 rfl) ?_
        refine lv_iload_n hx hb d_Pa_addSymbols_39 rfl (lv_at hl 2 rfl) ?_
        refine lv_iload_n hx hb d_Pa_addSymbols_40 rfl (lv_at hl 1 rfl) ?_
        refine k_roVi (As := [.int y2, .int y1]) (rest := []) hz [0, 1, 2, 3, 4, 5] [0, 1, 2] 0 1 ⟨hx, hb, hml, hown, hts⟩ (met_Pa_nextSet l D Z hz ad hk a_this a_text a_text_items a_row a_row_items a_costs k_text_items k_row_items k_costs v_text_count f_text_items v_row_count f_row_items f_costs y2 y1 hw) (cwV 2 hts (g_V mm_206 mm_208 mm_6 mm_44 mm_209) rfl rfl rfl hd_Pa_nextSet ⟨Nat.le_of_ble_eq_true rfl, Nat.le_of_ble_eq_true rfl⟩) hP hK hZ hS rfl rfl rfl rfl rfl hl.1 rfl (Nat.le_of_ble_eq_true rfl) d_Pa_addSymbols_41 ⟨Nat.le_of_ble_eq_true rfl, Nat.le_of_ble_eq_true rfl⟩ (fun r9 hw => ?_)
        refine lv_istore (lv' := [(4, .int r9), (0, .ref a_this), (1, .int y1), (2, .int y2), (3, .int y3)]) hx hb d_Pa_addSymbols_44 hl (by decide) rfl (fun ls hl => ?_)
        refine lv_iload hx hb d_Pa_addSymbols_46 (lv_at hl 0 rfl) ?_
        refine lv_iload_n hx hb d_Pa_addSymbols_48 rfl (lv_at hl 2 rfl) ?_
        refine lv_icmp_ne (tgt := 64) hx hb d_Pa_addSymbols_49 (by decide) (fun c10 => ?_) (fun c10 => ?_)
        · have hw := hw.1 c10
          refine lv_aload_n hx hb d_Pa_addSymbols_64 rfl (lv_at hl 1 rfl) ?_
          refine va_get (D := D) (ci := 1) (v := .ref a_row) (C := R_Pa) (T := T_Pa) (N := 3) hx hb hts in_Pa hown hK hP 0 rfl rfl 1 (by decide) (hts _ mm_88) (fun _ h9 => h9) rfl d_Pa_addSymbols_65 ?_
          refine lv_iload hx hb d_Pa_addSymbols_68 (lv_at hl 0 rfl) ?_
          refine k_roSi (As := [.int r9]) (rest := [.ref a_row]) hz [] [] ⟨hx, hb, hml, hown, hts⟩ (met_Se_switchTo l D Z hz ad hk r9 hw) (va_cwS 1 hts (g_S mm_217 mm_218 mm_51 mm_219) rfl rfl rfl hd_Se_switchTo.2 ⟨Nat.le_of_ble_eq_true rfl, Nat.le_of_ble_eq_true rfl⟩) hP hK hZ hS rfl rfl rfl hl.1 rfl (Nat.le_of_ble_eq_true rfl) d_Pa_addSymbols_70 ⟨Nat.le_of_ble_eq_true rfl, Nat.le_of_ble_eq_true rfl⟩ (fun r11 hw => ?_)
          refine k_rwVi (As := [.int r11]) (rest := []) (wr := [(a_this, .inr (1, [.ref a_text, .ref a_row, .ref a_costs])), (a_text, .inr (0, [.ref a_text_items, .int v_text_count])), (a_text_items, .inl (k_text_items, 64, .inl f_text_items)), (a_costs, .inl (k_costs, 195, .inl f_costs))]) hz [3, 4] [0, 1, 2, 5] [1] 3 0 ⟨hx, hb, hml, hown, hts⟩ (met_It_add l D Z hz ad hk a_row a_row_items k_row_items 99 v_row_count f_row_items r11 _ hw) (cwV 1 hts (g_V mm_202 mm_203 mm_204 mm_42 mm_205) rfl rfl rfl hd_It_add ⟨Nat.le_of_ble_eq_true rfl, Nat.le_of_ble_eq_true rfl⟩) hP hD hK hZ hS hA rfl rfl rfl rfl rfl (by decide) rfl rfl rfl rfl hl.1 rfl (Nat.le_of_ble_eq_true rfl) d_Pa_addSymbols_73 ⟨Nat.le_of_ble_eq_true rfl, Nat.le_of_ble_eq_true rfl⟩ (fun r12 u9 H locs hw hP hD hS => ?_)
          obtain ⟨s13, s14⟩ := u9
          try dsimp only at hw
          have hP : va_P D vwCl [(a_this, .inr (1, [.ref a_text, .ref a_row, .ref a_costs])), (a_text, .inr (0, [.ref a_text_items, .int v_text_count])), (a_text_items, .inl (k_text_items, 64, .inl f_text_items)), (a_costs, .inl (k_costs, 195, .inl f_costs)), (a_row, .inr (0, [.ref a_row_items, .int s13])), (a_row_items, .inl (k_row_items, 99, .inl s14))] H := hP
          have hD : va_D A [(a_this, .inr (1, [.ref a_text, .ref a_row, .ref a_costs])), (a_text, .inr (0, [.ref a_text_items, .int v_text_count])), (a_text_items, .inl (k_text_items, 64, .inl f_text_items)), (a_costs, .inl (k_costs, 195, .inl f_costs)), (a_row, .inr (0, [.ref a_row_items, .int s13])), (a_row_items, .inl (k_row_items, 99, .inl s14))] := hD
          refine lv_pop hx hb d_Pa_addSymbols_76 rfl ?_
          refine lv_iload hx hb d_Pa_addSymbols_77 (lv_at hl 0 rfl) ?_
          refine lv_istore_n (lv' := [(1, .int r9), (4, .int r9), (0, .ref a_this), (2, .int y2), (3, .int y3)]) hx hb d_Pa_addSymbols_79 rfl hl (by decide) rfl (fun ls hl => ?_)
          refine lv_iinc (v := (y3 + 1)) (lv' := [(3, .int (y3 + 1)), (1, .int r9), (4, .int r9), (0, .ref a_this), (2, .int y2)]) hx hb d_Pa_addSymbols_80 hl (k := 4) rfl rfl (by decide) rfl (fun ls hl => ?_)
          refine lv_goto (tgt := 21) hx hb d_Pa_addSymbols_83 (by decide) ?_
          exact ih s13 s14 r9 y2 (y3 + 1) hw _ _ (hP.sub [0, 1, 2, 4, 5, 3] rfl) (hD.sub [0, 1, 2, 4, 5, 3] (by decide) rfl) hS ls (lv_sub hl [3, 1, 4, 0] rfl)
        · have hw := hw.2 c10
          refine lv_iload_n hx hb d_Pa_addSymbols_52 rfl (lv_at hl 3 rfl) ?_
          refine lv_aload_n hx hb d_Pa_addSymbols_53 rfl (lv_at hl 1 rfl) ?_
          refine lv_iload_n hx hb d_Pa_addSymbols_54 rfl (lv_at hl 3 rfl) ?_
          refine lv_iload_n hx hb d_Pa_addSymbols_55 rfl (lv_at hl 2 rfl) ?_
          refine k_rwVi (As := [.int y2, .int y1]) (rest := [.int y2]) (wr := []) hz [0, 1, 2, 3, 4, 5] [] [0, 1, 2] 0 1 ⟨hx, hb, hml, hown, hts⟩ (met_Pa_addTold l D Z hz ad hk a_this a_text a_text_items a_row a_row_items a_costs k_text_items k_row_items k_costs v_text_count f_text_items v_row_count f_row_items f_costs y2 y1 _ hw) (cwV 2 hts (g_V mm_210 mm_212 mm_7 mm_44 mm_213) rfl rfl rfl hd_Pa_addTold ⟨Nat.le_of_ble_eq_true rfl, Nat.le_of_ble_eq_true rfl⟩) hP hD hK hZ hS hA rfl rfl rfl rfl rfl (by decide) rfl rfl rfl rfl hl.1 rfl (Nat.le_of_ble_eq_true rfl) d_Pa_addSymbols_56 ⟨Nat.le_of_ble_eq_true rfl, Nat.le_of_ble_eq_true rfl⟩ (fun r15 u9 H locs hw hP hD hS => ?_)
          obtain ⟨s16, s17⟩ := u9
          try dsimp only at hw
          have hP : va_P D vwCl [(a_this, .inr (1, [.ref a_text, .ref a_row, .ref a_costs])), (a_text, .inr (0, [.ref a_text_items, .int v_text_count])), (a_text_items, .inl (k_text_items, 64, .inl f_text_items)), (a_row, .inr (0, [.ref a_row_items, .int s16])), (a_row_items, .inl (k_row_items, 99, .inl s17)), (a_costs, .inl (k_costs, 195, .inl f_costs))] H := hP
          have hD : va_D A [(a_this, .inr (1, [.ref a_text, .ref a_row, .ref a_costs])), (a_text, .inr (0, [.ref a_text_items, .int v_text_count])), (a_text_items, .inl (k_text_items, 64, .inl f_text_items)), (a_row, .inr (0, [.ref a_row_items, .int s16])), (a_row_items, .inl (k_row_items, 99, .inl s17)), (a_costs, .inl (k_costs, 195, .inl f_costs))] := hD
          refine lv_iadd hx hb d_Pa_addSymbols_59 ?_
          refine lv_istore_n (lv' := [(2, .int (y2 + r15)), (4, .int r9), (0, .ref a_this), (1, .int y1), (3, .int y3)]) hx hb d_Pa_addSymbols_60 rfl hl (by decide) rfl (fun ls hl => ?_)
          refine lv_goto (tgt := 80) hx hb d_Pa_addSymbols_61 (by decide) ?_
          refine lv_iinc (v := (y3 + 1)) (lv' := [(3, .int (y3 + 1)), (2, .int (y2 + r15)), (4, .int r9), (0, .ref a_this), (1, .int y1)]) hx hb d_Pa_addSymbols_80 hl (k := 4) rfl rfl (by decide) rfl (fun ls hl => ?_)
          refine lv_goto (tgt := 21) hx hb d_Pa_addSymbols_83 (by decide) ?_
          exact ih s16 s17 y1 (y2 + r15) (y3 + 1) hw _ _ (hP.sub [0, 1, 2, 3, 4, 5] rfl) (hD.sub [0, 1, 2, 3, 4, 5] (by decide) rfl) hS ls (lv_sub hl [3, 4, 1, 0] rfl)
set_option maxHeartbeats 4000000 in
set_option maxRecDepth 100000 in
theorem met_Pa_addSymbols (l : Launch) (D : va_G) (Z : (Nat → Prop) → State → Heap → Prop) (hz : zk Z) (ad : Nat → Nat) (hk : zs Z ad) (a_this : Nat) (a_text : Nat) (a_text_items : Nat) (a_row : Nat) (a_row_items : Nat) (a_costs : Nat) (k_text_items : ClassId) (k_row_items : ClassId) (k_costs : ClassId) (v_text_count : Int32) (f_text_items : Nat → Int32) (v_row_count : Int32) (f_row_items : Nat → Int32) (f_costs : Nat → Int32) (sz : Nat) {post : Int32 → (Nat → Int32) → Prop} (hw : w_Pa_addSymbols post v_text_count f_text_items v_row_count f_row_items f_costs) : Met l y_Pa_addSymbols ws_Pa_addSymbols rm_Pa_addSymbols (va_Pc [.ref a_this] (rw_ D vwCl [(k_text_items, .int), (k_row_items, .int), (k_costs, .int)] [(a_this, .inr (1, [.ref a_text, .ref a_row, .ref a_costs])), (a_text, .inr (0, [.ref a_text_items, .int v_text_count])), (a_text_items, .inl (k_text_items, 64, .inl f_text_items)), (a_row, .inr (0, [.ref a_row_items, .int v_row_count])), (a_row_items, .inl (k_row_items, 99, .inl f_row_items)), (a_costs, .inl (k_costs, 195, .inl f_costs))] (Z) sz)) (va_Qv (fun u : Int32 × (Nat → Int32) => post u.1 u.2) (fun u t => at_ D vwCl [(k_text_items, .int), (k_row_items, .int), (k_costs, .int)] (va_A [(a_this, .inr (1, [.ref a_text, .ref a_row, .ref a_costs])), (a_text, .inr (0, [.ref a_text_items, .int v_text_count])), (a_text_items, .inl (k_text_items, 64, .inl f_text_items)), (a_row, .inr (0, [.ref a_row_items, .int v_row_count])), (a_row_items, .inl (k_row_items, 99, .inl f_row_items)), (a_costs, .inl (k_costs, 195, .inl f_costs))] sz) [(a_this, .inr (1, [.ref a_text, .ref a_row, .ref a_costs])), (a_text, .inr (0, [.ref a_text_items, .int v_text_count])), (a_text_items, .inl (k_text_items, 64, .inl f_text_items)), (a_row, .inr (0, [.ref a_row_items, .int u.1])), (a_row_items, .inl (k_row_items, 99, .inl u.2)), (a_costs, .inl (k_costs, 195, .inl f_costs))] t) (va_A [(a_this, .inr (1, [.ref a_text, .ref a_row, .ref a_costs])), (a_text, .inr (0, [.ref a_text_items, .int v_text_count])), (a_text_items, .inl (k_text_items, 64, .inl f_text_items)), (a_row, .inr (0, [.ref a_row_items, .int v_row_count])), (a_row_items, .inl (k_row_items, 99, .inl f_row_items)), (a_costs, .inl (k_costs, 195, .inl f_costs))] sz)) 0 0 (va_A [(a_this, .inr (1, [.ref a_text, .ref a_row, .ref a_costs])), (a_text, .inr (0, [.ref a_text_items, .int v_text_count])), (a_text_items, .inl (k_text_items, 64, .inl f_text_items)), (a_row, .inr (0, [.ref a_row_items, .int v_row_count])), (a_row_items, .inl (k_row_items, 99, .inl f_row_items)), (a_costs, .inl (k_costs, 195, .inl f_costs))] sz) := by
  refine Met.ofW (cc := c_Pa_addSymbols) (maxL := 5) (ret := (none)) (by decide) rfl ?_
  intro p e s m args below meth c s₁ B hml hv
  obtain ⟨rfl, hsz, hP, hK, hD0, hZ⟩ := hv
  have hx := B.exec
  have hb := B.bytes
  have hr := B.returns
  have hts0 := atoms_spec (ws := ws_Pa_addSymbols) B.pre
  have hts := fun (w : Cond) (h : w ∈ tb) => hts0 w (List.mem_cons_of_mem _ h)
  have hown : s.vm.findClass R_Pa = some m.cls := findClass_of_methodNamed B.named
  have hlocks := B.notSynchronized
  subst hsz
  have hD := hD0.self (sz := s.heap.size)
  generalize hAe : va_A [(a_this, .inr (1, [.ref a_text, .ref a_row, .ref a_costs])), (a_text, .inr (0, [.ref a_text_items, .int v_text_count])), (a_text_items, .inl (k_text_items, 64, .inl f_text_items)), (a_row, .inr (0, [.ref a_row_items, .int v_row_count])), (a_row_items, .inl (k_row_items, 99, .inl f_row_items)), (a_costs, .inl (k_costs, 195, .inl f_costs))] s.heap.size = A at hD hZ ⊢
  have hA : ∀ q : Nat, s.heap.size ≤ q → A q := fun q h => by rw [← hAe]; exact Or.inr h
  have hS : va_S A s.heap s.heap [] := va_S.rf
  have hl := lv_entry ([.ref a_this]) (n := 5) (Nat.le_of_ble_eq_true rfl)
  rw [lg_entry_eq]
  generalize (lg_sl ([.ref a_this]) ++ List.replicate (5 - (lg_sl ([.ref a_this])).length) Slot.unset).toArray = ls at hl ⊢
  have hl : lv_has ls 5 [(0, .ref a_this)] := hl
  unfold w_Pa_addSymbols at hw
  refine lv_aload_n hx hb d_Pa_addSymbols_0 rfl (lv_at hl 0 rfl) ?_
  refine k_roVi (As := []) (rest := []) hz [0, 1, 2, 3, 4, 5] [0, 1, 2] 0 1 ⟨hx, hb, hml, hown, hts⟩ (met_Pa_cheapestFirstSet l D Z hz ad hk a_this a_text a_text_items a_row a_row_items a_costs k_text_items k_row_items k_costs v_text_count f_text_items v_row_count f_row_items f_costs hw) (cwV 0 hts (g_V mm_195 mm_197 mm_5 mm_44 mm_198) rfl rfl rfl hd_Pa_cheapestFirstSet ⟨Nat.le_of_ble_eq_true rfl, Nat.le_of_ble_eq_true rfl⟩) hP hK hZ hS rfl rfl rfl rfl rfl hl.1 rfl (Nat.le_of_ble_eq_true rfl) d_Pa_addSymbols_1 ⟨Nat.le_of_ble_eq_true rfl, Nat.le_of_ble_eq_true rfl⟩ (fun r1 hw => ?_)
  refine lv_istore_n (lv' := [(1, .int r1), (0, .ref a_this)]) hx hb d_Pa_addSymbols_4 rfl hl (by decide) rfl (fun ls hl => ?_)
  refine lv_aload_n hx hb d_Pa_addSymbols_5 rfl (lv_at hl 1 rfl) ?_
  refine va_get (D := D) (ci := 1) (v := .ref a_row) (C := R_Pa) (T := T_Pa) (N := 3) hx hb hts in_Pa hown hK hP 0 rfl rfl 1 (by decide) (hts _ mm_88) (fun _ h9 => h9) rfl d_Pa_addSymbols_6 ?_
  refine lv_iload_n hx hb d_Pa_addSymbols_9 rfl (lv_at hl 0 rfl) ?_
  refine k_roSi (As := [.int r1]) (rest := [.ref a_row]) hz [] [] ⟨hx, hb, hml, hown, hts⟩ (met_Se_firstOf l D Z hz ad hk r1 hw) (va_cwS 1 hts (g_S mm_199 mm_200 mm_51 mm_201) rfl rfl rfl hd_Se_firstOf.2 ⟨Nat.le_of_ble_eq_true rfl, Nat.le_of_ble_eq_true rfl⟩) hP hK hZ hS rfl rfl rfl hl.1 rfl (Nat.le_of_ble_eq_true rfl) d_Pa_addSymbols_10 ⟨Nat.le_of_ble_eq_true rfl, Nat.le_of_ble_eq_true rfl⟩ (fun r2 hw => ?_)
  refine k_rwVi (As := [.int r2]) (rest := []) (wr := [(a_this, .inr (1, [.ref a_text, .ref a_row, .ref a_costs])), (a_text, .inr (0, [.ref a_text_items, .int v_text_count])), (a_text_items, .inl (k_text_items, 64, .inl f_text_items)), (a_costs, .inl (k_costs, 195, .inl f_costs))]) hz [3, 4] [0, 1, 2, 5] [1] 3 0 ⟨hx, hb, hml, hown, hts⟩ (met_It_add l D Z hz ad hk a_row a_row_items k_row_items 99 v_row_count f_row_items r2 _ hw) (cwV 1 hts (g_V mm_202 mm_203 mm_204 mm_42 mm_205) rfl rfl rfl hd_It_add ⟨Nat.le_of_ble_eq_true rfl, Nat.le_of_ble_eq_true rfl⟩) hP hD hK hZ hS hA rfl rfl rfl rfl rfl (by decide) rfl rfl rfl rfl hl.1 rfl (Nat.le_of_ble_eq_true rfl) d_Pa_addSymbols_13 ⟨Nat.le_of_ble_eq_true rfl, Nat.le_of_ble_eq_true rfl⟩ (fun r3 u9 H locs hw hP hD hS => ?_)
  obtain ⟨s4, s5⟩ := u9
  try dsimp only at hw
  have hP : va_P D vwCl [(a_this, .inr (1, [.ref a_text, .ref a_row, .ref a_costs])), (a_text, .inr (0, [.ref a_text_items, .int v_text_count])), (a_text_items, .inl (k_text_items, 64, .inl f_text_items)), (a_costs, .inl (k_costs, 195, .inl f_costs)), (a_row, .inr (0, [.ref a_row_items, .int s4])), (a_row_items, .inl (k_row_items, 99, .inl s5))] H := hP
  have hD : va_D A [(a_this, .inr (1, [.ref a_text, .ref a_row, .ref a_costs])), (a_text, .inr (0, [.ref a_text_items, .int v_text_count])), (a_text_items, .inl (k_text_items, 64, .inl f_text_items)), (a_costs, .inl (k_costs, 195, .inl f_costs)), (a_row, .inr (0, [.ref a_row_items, .int s4])), (a_row_items, .inl (k_row_items, 99, .inl s5))] := hD
  refine lv_pop hx hb d_Pa_addSymbols_16 rfl ?_
  refine lv_iconst (v := 0) hx hb d_Pa_addSymbols_17 (by decide) ?_
  refine lv_istore_n (lv' := [(2, .int 0), (1, .int r1), (0, .ref a_this)]) hx hb d_Pa_addSymbols_18 rfl hl (by decide) rfl (fun ls hl => ?_)
  refine lv_iconst (v := 0) hx hb d_Pa_addSymbols_19 (by decide) ?_
  refine lv_istore_n (lv' := [(3, .int 0), (2, .int 0), (1, .int r1), (0, .ref a_this)]) hx hb d_Pa_addSymbols_20 rfl hl (by decide) rfl (fun ls hl => ?_)
  obtain ⟨n9, hw⟩ := hw
  exact lp_Pa_addSymbols_21 l D Z hz ad hk a_this a_text a_text_items a_row a_row_items a_costs k_text_items k_row_items k_costs v_text_count f_text_items f_costs hx hb hml hr hts hown hlocks hK hZ hA n9 s4 s5 r1 0 0 hw _ _ (hP.sub [0, 1, 2, 4, 5, 3] rfl) (hD.sub [0, 1, 2, 4, 5, 3] (by decide) rfl) hS ls (lv_sub hl [3, 2, 1, 0] rfl)
-- LineCodes$Packer.checkSymbol()I
def w_Pa_checkSymbol_11 (post : Int32 → Prop) (v_row_count : Int32) (f_row_items : Nat → Int32) : Nat → Int32 → Int32 → Prop
  | 0, _, _ => False
  | n + 1, y1, y2 => w_It_count (fun r2 => (r2 ≤ y2 → post (y1 - y1 / 103 * 103)) ∧ (¬ r2 ≤ y2 → w_It_at (fun r4 => w_Pa_checkSymbol_11 post v_row_count f_row_items n (y1 + (y2 * r4)) (y2 + 1)) 99 v_row_count f_row_items y2)) v_row_count
def w_Pa_checkSymbol (post : Int32 → Prop) (v_row_count : Int32) (f_row_items : Nat → Int32) : Prop := w_It_at (fun r1 => ∃ n, w_Pa_checkSymbol_11 post v_row_count f_row_items n r1 1) 99 v_row_count f_row_items 0
abbrev rm_Pa_checkSymbol : Room := { frames := 1, cells := 0, slots := 0, locals := 21 }
set_option maxHeartbeats 4000000 in
set_option maxRecDepth 100000 in
theorem lp_Pa_checkSymbol_11 (l : Launch) (D : va_G) (Z : (Nat → Prop) → State → Heap → Prop) (hz : zk Z) (ad : Nat → Nat) (hk : zs Z ad) {p : Program} {e : Env} {s : State} {m : MethodId} {args : Array Value} {below : List Frame} {meth : Method} {c : Code} (a_this : Nat) (a_text : Nat) (a_text_items : Nat) (a_row : Nat) (a_row_items : Nat) (a_costs : Nat) (k_text_items : ClassId) (k_row_items : ClassId) (k_costs : ClassId) (v_text_count : Int32) (f_text_items : Nat → Int32) (v_row_count : Int32) (f_row_items : Nat → Int32) (f_costs : Nat → Int32) {post : Int32 → Prop} (hx : p.tables.exec = Jvm.exec) (hb : c.code = c_Pa_checkSymbol) (hml : c.maxLocals = 3) (hr : meth.sig.returnType = (some .int)) (hts : ∀ w ∈ tb, w.before args s = true) (hown : s.vm.findClass R_Pa = some m.cls) (hlocks : meth.locks = false) (hK : va_K D vwCl [(k_text_items, .int), (k_row_items, .int), (k_costs, .int)] s) (hZ : Z (fun _ => False) s s.heap) (hP : va_P D vwCl [(a_this, .inr (1, [.ref a_text, .ref a_row, .ref a_costs])), (a_text, .inr (0, [.ref a_text_items, .int v_text_count])), (a_text_items, .inl (k_text_items, 64, .inl f_text_items)), (a_row, .inr (0, [.ref a_row_items, .int v_row_count])), (a_row_items, .inl (k_row_items, 99, .inl f_row_items)), (a_costs, .inl (k_costs, 195, .inl f_costs))] s.heap) (hS : va_S (fun _ => False) s.heap s.heap []) : ∀ (n : Nat) (y1 : Int32) (y2 : Int32), w_Pa_checkSymbol_11 post v_row_count f_row_items n y1 y2 → ∀ ls : Array Slot, lv_has ls 3 [(0, .ref a_this), (1, .int y1), (2, .int y2)] → W p l e (headSpec ws_Pa_checkSymbol rm_Pa_checkSymbol).room s m args below meth c s.heap [] 0 0 (MQ below (vp_Si post) args s 0 0 (fun _ => False)) (F0 m 11 ls []) := by
  intro n
  induction n with
  | zero =>
    intro y1 y2 hw
    unfold w_Pa_checkSymbol_11 at hw
    exact hw.elim
  | succ n ih =>
    intro y1 y2 hw ls hl
    unfold w_Pa_checkSymbol_11 at hw
    refine lv_iload_n hx hb d_Pa_checkSymbol_11 rfl (lv_at hl 2 rfl) ?_
    refine lv_aload_n hx hb d_Pa_checkSymbol_12 rfl (lv_at hl 0 rfl) ?_
    refine va_get (D := D) (ci := 1) (v := .ref a_row) (C := R_Pa) (T := T_Pa) (N := 3) hx hb hts in_Pa hown hK hP 0 rfl rfl 1 (by decide) (hts _ mm_88) (fun _ h9 => h9) rfl d_Pa_checkSymbol_13 ?_
    refine k_roVi (As := []) (rest := [.int y2]) hz [3, 4] [1] 3 0 ⟨hx, hb, hml, hown, hts⟩ (met_It_count l D Z hz ad hk a_row a_row_items k_row_items 99 v_row_count f_row_items hw) (cwV 0 hts (g_V mm_153 mm_154 mm_155 mm_42 mm_156) rfl rfl rfl hd_It_count ⟨Nat.le_of_ble_eq_true rfl, Nat.le_of_ble_eq_true rfl⟩) hP hK hZ hS rfl rfl rfl rfl rfl hl.1 rfl (Nat.le_of_ble_eq_true rfl) d_Pa_checkSymbol_16 ⟨Nat.le_of_ble_eq_true rfl, Nat.le_of_ble_eq_true rfl⟩ (fun r2 hw => ?_)
    refine lv_icmp_ge (tgt := 41) hx hb d_Pa_checkSymbol_19 (by decide) (fun c3 => ?_) (fun c3 => ?_)
    · have hw := hw.1 c3
      refine lv_iload_n hx hb d_Pa_checkSymbol_41 rfl (lv_at hl 1 rfl) ?_
      refine lv_bipush (v := 103) hx hb d_Pa_checkSymbol_42 (by decide) ?_
      refine lv_irem hx hb d_Pa_checkSymbol_44 (by decide) ?_
      exact W.iret (v := (y1 - y1 / 103 * 103)) hx hb hr (fun t ht hW => ⟨(y1 - y1 / 103 * 103), rfl, hw, ht⟩) hS.2.2 d_Pa_checkSymbol_45
    · have hw := hw.2 c3
      refine lv_iload_n hx hb d_Pa_checkSymbol_22 rfl (lv_at hl 1 rfl) ?_
      refine lv_iload_n hx hb d_Pa_checkSymbol_23 rfl (lv_at hl 2 rfl) ?_
      refine lv_aload_n hx hb d_Pa_checkSymbol_24 rfl (lv_at hl 0 rfl) ?_
      refine va_get (D := D) (ci := 1) (v := .ref a_row) (C := R_Pa) (T := T_Pa) (N := 3) hx hb hts in_Pa hown hK hP 0 rfl rfl 1 (by decide) (hts _ mm_88) (fun _ h9 => h9) rfl d_Pa_checkSymbol_25 ?_
      refine lv_iload_n hx hb d_Pa_checkSymbol_28 rfl (lv_at hl 2 rfl) ?_
      refine k_roVi (As := [.int y2]) (rest := [.int y2, .int y1]) hz [3, 4] [1] 3 0 ⟨hx, hb, hml, hown, hts⟩ (met_It_at l D Z hz ad hk a_row a_row_items k_row_items 99 v_row_count f_row_items y2 hw) (cwV 1 hts (g_V mm_166 mm_167 mm_168 mm_42 mm_169) rfl rfl rfl hd_It_at ⟨Nat.le_of_ble_eq_true rfl, Nat.le_of_ble_eq_true rfl⟩) hP hK hZ hS rfl rfl rfl rfl rfl hl.1 rfl (Nat.le_of_ble_eq_true rfl) d_Pa_checkSymbol_29 ⟨Nat.le_of_ble_eq_true rfl, Nat.le_of_ble_eq_true rfl⟩ (fun r4 hw => ?_)
      refine lv_imul hx hb d_Pa_checkSymbol_32 ?_
      refine lv_iadd hx hb d_Pa_checkSymbol_33 ?_
      refine lv_istore_n (lv' := [(1, .int (y1 + (y2 * r4))), (0, .ref a_this), (2, .int y2)]) hx hb d_Pa_checkSymbol_34 rfl hl (by decide) rfl (fun ls hl => ?_)
      refine lv_iinc (v := (y2 + 1)) (lv' := [(2, .int (y2 + 1)), (1, .int (y1 + (y2 * r4))), (0, .ref a_this)]) hx hb d_Pa_checkSymbol_35 hl (k := 2) rfl rfl (by decide) rfl (fun ls hl => ?_)
      refine lv_goto (tgt := 11) hx hb d_Pa_checkSymbol_38 (by decide) ?_
      exact ih (y1 + (y2 * r4)) (y2 + 1) hw ls (lv_sub hl [2, 1, 0] rfl)
set_option maxHeartbeats 4000000 in
set_option maxRecDepth 100000 in
theorem met_Pa_checkSymbol (l : Launch) (D : va_G) (Z : (Nat → Prop) → State → Heap → Prop) (hz : zk Z) (ad : Nat → Nat) (hk : zs Z ad) (a_this : Nat) (a_text : Nat) (a_text_items : Nat) (a_row : Nat) (a_row_items : Nat) (a_costs : Nat) (k_text_items : ClassId) (k_row_items : ClassId) (k_costs : ClassId) (v_text_count : Int32) (f_text_items : Nat → Int32) (v_row_count : Int32) (f_row_items : Nat → Int32) (f_costs : Nat → Int32) {post : Int32 → Prop} (hw : w_Pa_checkSymbol post v_row_count f_row_items) : Met l y_Pa_checkSymbol ws_Pa_checkSymbol rm_Pa_checkSymbol (va_Pc [.ref a_this] (ro_ D vwCl [(k_text_items, .int), (k_row_items, .int), (k_costs, .int)] [(a_this, .inr (1, [.ref a_text, .ref a_row, .ref a_costs])), (a_text, .inr (0, [.ref a_text_items, .int v_text_count])), (a_text_items, .inl (k_text_items, 64, .inl f_text_items)), (a_row, .inr (0, [.ref a_row_items, .int v_row_count])), (a_row_items, .inl (k_row_items, 99, .inl f_row_items)), (a_costs, .inl (k_costs, 195, .inl f_costs))] (Z))) (vp_Si post) 0 0 (fun _ => False) := by
  refine Met.ofW (cc := c_Pa_checkSymbol) (maxL := 3) (ret := (some .int)) (by decide) rfl ?_
  intro p e s m args below meth c s₁ B hml hv
  obtain ⟨rfl, hP, hK, hZ⟩ := hv
  have hx := B.exec
  have hb := B.bytes
  have hr := B.returns
  have hts0 := atoms_spec (ws := ws_Pa_checkSymbol) B.pre
  have hts := fun (w : Cond) (h : w ∈ tb) => hts0 w (List.mem_cons_of_mem _ h)
  have hown : s.vm.findClass R_Pa = some m.cls := findClass_of_methodNamed B.named
  have hlocks := B.notSynchronized
  have hS : va_S (fun _ => False) s.heap s.heap [] := va_S.rf
  have hl := lv_entry ([.ref a_this]) (n := 3) (Nat.le_of_ble_eq_true rfl)
  rw [lg_entry_eq]
  generalize (lg_sl ([.ref a_this]) ++ List.replicate (3 - (lg_sl ([.ref a_this])).length) Slot.unset).toArray = ls at hl ⊢
  have hl : lv_has ls 3 [(0, .ref a_this)] := hl
  unfold w_Pa_checkSymbol at hw
  refine lv_aload_n hx hb d_Pa_checkSymbol_0 rfl (lv_at hl 0 rfl) ?_
  refine va_get (D := D) (ci := 1) (v := .ref a_row) (C := R_Pa) (T := T_Pa) (N := 3) hx hb hts in_Pa hown hK hP 0 rfl rfl 1 (by decide) (hts _ mm_88) (fun _ h9 => h9) rfl d_Pa_checkSymbol_1 ?_
  refine lv_iconst (v := 0) hx hb d_Pa_checkSymbol_4 (by decide) ?_
  refine k_roVi (As := [.int 0]) (rest := []) hz [3, 4] [1] 3 0 ⟨hx, hb, hml, hown, hts⟩ (met_It_at l D Z hz ad hk a_row a_row_items k_row_items 99 v_row_count f_row_items 0 hw) (cwV 1 hts (g_V mm_166 mm_167 mm_168 mm_42 mm_169) rfl rfl rfl hd_It_at ⟨Nat.le_of_ble_eq_true rfl, Nat.le_of_ble_eq_true rfl⟩) hP hK hZ hS rfl rfl rfl rfl rfl hl.1 rfl (Nat.le_of_ble_eq_true rfl) d_Pa_checkSymbol_5 ⟨Nat.le_of_ble_eq_true rfl, Nat.le_of_ble_eq_true rfl⟩ (fun r1 hw => ?_)
  refine lv_istore_n (lv' := [(1, .int r1), (0, .ref a_this)]) hx hb d_Pa_checkSymbol_8 rfl hl (by decide) rfl (fun ls hl => ?_)
  refine lv_iconst (v := 1) hx hb d_Pa_checkSymbol_9 (by decide) ?_
  refine lv_istore_n (lv' := [(2, .int 1), (1, .int r1), (0, .ref a_this)]) hx hb d_Pa_checkSymbol_10 rfl hl (by decide) rfl (fun ls hl => ?_)
  obtain ⟨n9, hw⟩ := hw
  exact lp_Pa_checkSymbol_11 l D Z hz ad hk a_this a_text a_text_items a_row a_row_items a_costs k_text_items k_row_items k_costs v_text_count f_text_items v_row_count f_row_items f_costs hx hb hml hr hts hown hlocks hK hZ hP hS n9 r1 1 hw ls (lv_sub hl [2, 1, 0] rfl)
-- LineCodes$Packer.makeRow()V
def w_Pa_makeRow_8 (post : Int32 → (Nat → Int32) → (Nat → Int32) → Prop) (v_text_count : Int32) (f_text_items : Nat → Int32) (v_row_count : Int32) (f_row_items : Nat → Int32) : Nat → (Nat → Int32) → Int32 → Prop
  | 0, _, _ => False
  | n + 1, f_costs, y1 => (y1 < 0 → w_It_empty (fun r3 s4 => w_Pa_addSymbols (fun s5 s6 => w_Pa_checkSymbol (fun r7 => w_It_add (fun r8 s9 s10 => w_It_add (fun r11 s12 s13 => post s12 s13 f_costs) 99 s9 s10 106) 99 s5 s6 r7) s5 s6) v_text_count f_text_items s4 f_row_items f_costs) v_row_count) ∧ (¬ y1 < 0 → w_Pa_fillCosts (fun s14 => w_Pa_makeRow_8 post v_text_count f_text_items v_row_count f_row_items n s14 (y1 + (-1))) v_text_count f_text_items f_costs y1)
def w_Pa_makeRow (post : Int32 → (Nat → Int32) → (Nat → Int32) → Prop) (v_text_count : Int32) (f_text_items : Nat → Int32) (v_row_count : Int32) (f_row_items : Nat → Int32) (f_costs : Nat → Int32) : Prop := w_It_count (fun r1 => ∃ n, w_Pa_makeRow_8 post v_text_count f_text_items v_row_count f_row_items n f_costs r1) v_text_count
abbrev rm_Pa_makeRow : Room := { frames := 5, cells := 0, slots := 0, locals := 113 }
set_option maxHeartbeats 4000000 in
set_option maxRecDepth 100000 in
theorem lp_Pa_makeRow_8 (l : Launch) (D : va_G) (Z : (Nat → Prop) → State → Heap → Prop) (hz : zk Z) (ad : Nat → Nat) (hk : zs Z ad) {p : Program} {e : Env} {s : State} {m : MethodId} {args : Array Value} {below : List Frame} {meth : Method} {c : Code} {A : Nat → Prop} (a_this : Nat) (a_text : Nat) (a_text_items : Nat) (a_row : Nat) (a_row_items : Nat) (a_costs : Nat) (k_text_items : ClassId) (k_row_items : ClassId) (k_costs : ClassId) (v_text_count : Int32) (f_text_items : Nat → Int32) (v_row_count : Int32) (f_row_items : Nat → Int32) {post : Int32 → (Nat → Int32) → (Nat → Int32) → Prop} (hx : p.tables.exec = Jvm.exec) (hb : c.code = c_Pa_makeRow) (hml : c.maxLocals = 2) (hr : meth.sig.returnType = (none)) (hts : ∀ w ∈ tb, w.before args s = true) (hown : s.vm.findClass R_Pa = some m.cls) (hlocks : meth.locks = false) (hK : va_K D vwCl [(k_text_items, .int), (k_row_items, .int), (k_costs, .int)] s) (hZ : Z A s s.heap) (hA : ∀ q, s.heap.size ≤ q → A q) : ∀ (n : Nat) (f_costs : Nat → Int32) (y1 : Int32), w_Pa_makeRow_8 post v_text_count f_text_items v_row_count f_row_items n f_costs y1 → ∀ (H : Heap) (locs : List Loc), va_P D vwCl [(a_this, .inr (1, [.ref a_text, .ref a_row, .ref a_costs])), (a_text, .inr (0, [.ref a_text_items, .int v_text_count])), (a_text_items, .inl (k_text_items, 64, .inl f_text_items)), (a_row, .inr (0, [.ref a_row_items, .int v_row_count])), (a_row_items, .inl (k_row_items, 99, .inl f_row_items)), (a_costs, .inl (k_costs, 195, .inl f_costs))] H → va_D A [(a_this, .inr (1, [.ref a_text, .ref a_row, .ref a_costs])), (a_text, .inr (0, [.ref a_text_items, .int v_text_count])), (a_text_items, .inl (k_text_items, 64, .inl f_text_items)), (a_row, .inr (0, [.ref a_row_items, .int v_row_count])), (a_row_items, .inl (k_row_items, 99, .inl f_row_items)), (a_costs, .inl (k_costs, 195, .inl f_costs))] → va_S A s.heap H locs → ∀ ls : Array Slot, lv_has ls 2 [(0, .ref a_this), (1, .int y1)] → W p l e (headSpec ws_Pa_makeRow rm_Pa_makeRow).room s m args below meth c H locs 0 0 (MQ below (va_Qv (fun u : Int32 × (Nat → Int32) × (Nat → Int32) => post u.1 u.2.1 u.2.2) (fun u t => at_ D vwCl [(k_text_items, .int), (k_row_items, .int), (k_costs, .int)] A [(a_this, .inr (1, [.ref a_text, .ref a_row, .ref a_costs])), (a_text, .inr (0, [.ref a_text_items, .int v_text_count])), (a_text_items, .inl (k_text_items, 64, .inl f_text_items)), (a_row, .inr (0, [.ref a_row_items, .int u.1])), (a_row_items, .inl (k_row_items, 99, .inl u.2.1)), (a_costs, .inl (k_costs, 195, .inl u.2.2))] t) A) args s 0 0 A) (F0 m 8 ls []) := by
  intro n
  induction n with
  | zero =>
    intro f_costs y1 hw
    unfold w_Pa_makeRow_8 at hw
    exact hw.elim
  | succ n ih =>
    intro f_costs y1 hw H locs hP hD hS ls hl
    unfold w_Pa_makeRow_8 at hw
    refine lv_iload_n hx hb d_Pa_makeRow_8 rfl (lv_at hl 1 rfl) ?_
    refine lv_if_lt (tgt := 23) hx hb d_Pa_makeRow_9 (by decide) (fun c2 => ?_) (fun c2 => ?_)
    · have hw := hw.1 c2
      refine lv_aload_n hx hb d_Pa_makeRow_23 rfl (lv_at hl 0 rfl) ?_
      refine va_get (D := D) (ci := 1) (v := .ref a_row) (C := R_Pa) (T := T_Pa) (N := 3) hx hb hts in_Pa hown hK hP 0 rfl rfl 1 (by decide) (hts _ mm_88) (fun _ h9 => h9) rfl d_Pa_makeRow_24 ?_
      refine k_rwVi (As := []) (rest := []) (wr := [(a_this, .inr (1, [.ref a_text, .ref a_row, .ref a_costs])), (a_text, .inr (0, [.ref a_text_items, .int v_text_count])), (a_text_items, .inl (k_text_items, 64, .inl f_text_items)), (a_costs, .inl (k_costs, 195, .inl f_costs))]) hz [3, 4] [0, 1, 2, 5] [1] 3 0 ⟨hx, hb, hml, hown, hts⟩ (met_It_empty l D Z hz ad hk a_row a_row_items k_row_items 99 v_row_count f_row_items _ hw) (cwV 0 hts (g_V mm_190 mm_142 mm_143 mm_42 mm_144) rfl rfl rfl hd_It_empty ⟨Nat.le_of_ble_eq_true rfl, Nat.le_of_ble_eq_true rfl⟩) hP hD hK hZ hS hA rfl rfl rfl rfl rfl (by decide) rfl rfl rfl rfl hl.1 rfl (Nat.le_of_ble_eq_true rfl) d_Pa_makeRow_27 ⟨Nat.le_of_ble_eq_true rfl, Nat.le_of_ble_eq_true rfl⟩ (fun r3 s4 H locs hw hP hD hS => ?_)
      try dsimp only at hw
      have hP : va_P D vwCl [(a_this, .inr (1, [.ref a_text, .ref a_row, .ref a_costs])), (a_text, .inr (0, [.ref a_text_items, .int v_text_count])), (a_text_items, .inl (k_text_items, 64, .inl f_text_items)), (a_costs, .inl (k_costs, 195, .inl f_costs)), (a_row, .inr (0, [.ref a_row_items, .int s4])), (a_row_items, .inl (k_row_items, 99, .inl f_row_items))] H := hP
      have hD : va_D A [(a_this, .inr (1, [.ref a_text, .ref a_row, .ref a_costs])), (a_text, .inr (0, [.ref a_text_items, .int v_text_count])), (a_text_items, .inl (k_text_items, 64, .inl f_text_items)), (a_costs, .inl (k_costs, 195, .inl f_costs)), (a_row, .inr (0, [.ref a_row_items, .int s4])), (a_row_items, .inl (k_row_items, 99, .inl f_row_items))] := hD
      refine lv_pop hx hb d_Pa_makeRow_30 rfl ?_
      refine lv_aload_n hx hb d_Pa_makeRow_31 rfl (lv_at hl 0 rfl) ?_
      refine k_rwVv (As := []) (rest := []) (wr := []) hz [0, 1, 2, 4, 5, 3] [] [0, 1, 2] 0 1 ⟨hx, hb, hml, hown, hts⟩ (met_Pa_addSymbols l D Z hz ad hk a_this a_text a_text_items a_row a_row_items a_costs k_text_items k_row_items k_costs v_text_count f_text_items s4 f_row_items f_costs _ hw) (cwV 0 hts (g_V mm_191 mm_193 mm_4 mm_44 mm_194) rfl rfl rfl hd_Pa_addSymbols ⟨Nat.le_of_ble_eq_true rfl, Nat.le_of_ble_eq_true rfl⟩) hP hD hK hZ hS hA rfl rfl rfl rfl rfl (by decide) rfl rfl rfl rfl hl.1 rfl (Nat.le_of_ble_eq_true rfl) d_Pa_makeRow_32 ⟨Nat.le_of_ble_eq_true rfl, Nat.le_of_ble_eq_true rfl⟩ (fun u9 H locs hw hP hD hS => ?_)
      obtain ⟨s5, s6⟩ := u9
      try dsimp only at hw
      have hP : va_P D vwCl [(a_this, .inr (1, [.ref a_text, .ref a_row, .ref a_costs])), (a_text, .inr (0, [.ref a_text_items, .int v_text_count])), (a_text_items, .inl (k_text_items, 64, .inl f_text_items)), (a_row, .inr (0, [.ref a_row_items, .int s5])), (a_row_items, .inl (k_row_items, 99, .inl s6)), (a_costs, .inl (k_costs, 195, .inl f_costs))] H := hP
      have hD : va_D A [(a_this, .inr (1, [.ref a_text, .ref a_row, .ref a_costs])), (a_text, .inr (0, [.ref a_text_items, .int v_text_count])), (a_text_items, .inl (k_text_items, 64, .inl f_text_items)), (a_row, .inr (0, [.ref a_row_items, .int s5])), (a_row_items, .inl (k_row_items, 99, .inl s6)), (a_costs, .inl (k_costs, 195, .inl f_costs))] := hD
      refine lv_aload_n hx hb d_Pa_makeRow_35 rfl (lv_at hl 0 rfl) ?_
      refine va_get (D := D) (ci := 1) (v := .ref a_row) (C := R_Pa) (T := T_Pa) (N := 3) hx hb hts in_Pa hown hK hP 0 rfl rfl 1 (by decide) (hts _ mm_88) (fun _ h9 => h9) rfl d_Pa_makeRow_36 ?_
      refine lv_aload_n hx hb d_Pa_makeRow_39 rfl (lv_at hl 0 rfl) ?_
      refine k_roVi (As := []) (rest := [.ref a_row]) hz [0, 1, 2, 3, 4, 5] [0, 1, 2] 0 1 ⟨hx, hb, hml, hown, hts⟩ (met_Pa_checkSymbol l D Z hz ad hk a_this a_text a_text_items a_row a_row_items a_costs k_text_items k_row_items k_costs v_text_count f_text_items s5 s6 f_costs hw) (cwV 0 hts (g_V mm_220 mm_222 mm_8 mm_44 mm_223) rfl rfl rfl hd_Pa_checkSymbol ⟨Nat.le_of_ble_eq_true rfl, Nat.le_of_ble_eq_true rfl⟩) hP hK hZ hS rfl rfl rfl rfl rfl hl.1 rfl (Nat.le_of_ble_eq_true rfl) d_Pa_makeRow_40 ⟨Nat.le_of_ble_eq_true rfl, Nat.le_of_ble_eq_true rfl⟩ (fun r7 hw => ?_)
      refine k_rwVi (As := [.int r7]) (rest := []) (wr := [(a_this, .inr (1, [.ref a_text, .ref a_row, .ref a_costs])), (a_text, .inr (0, [.ref a_text_items, .int v_text_count])), (a_text_items, .inl (k_text_items, 64, .inl f_text_items)), (a_costs, .inl (k_costs, 195, .inl f_costs))]) hz [3, 4] [0, 1, 2, 5] [1] 3 0 ⟨hx, hb, hml, hown, hts⟩ (met_It_add l D Z hz ad hk a_row a_row_items k_row_items 99 s5 s6 r7 _ hw) (cwV 1 hts (g_V mm_202 mm_203 mm_204 mm_42 mm_205) rfl rfl rfl hd_It_add ⟨Nat.le_of_ble_eq_true rfl, Nat.le_of_ble_eq_true rfl⟩) hP hD hK hZ hS hA rfl rfl rfl rfl rfl (by decide) rfl rfl rfl rfl hl.1 rfl (Nat.le_of_ble_eq_true rfl) d_Pa_makeRow_43 ⟨Nat.le_of_ble_eq_true rfl, Nat.le_of_ble_eq_true rfl⟩ (fun r8 u9 H locs hw hP hD hS => ?_)
      obtain ⟨s9, s10⟩ := u9
      try dsimp only at hw
      have hP : va_P D vwCl [(a_this, .inr (1, [.ref a_text, .ref a_row, .ref a_costs])), (a_text, .inr (0, [.ref a_text_items, .int v_text_count])), (a_text_items, .inl (k_text_items, 64, .inl f_text_items)), (a_costs, .inl (k_costs, 195, .inl f_costs)), (a_row, .inr (0, [.ref a_row_items, .int s9])), (a_row_items, .inl (k_row_items, 99, .inl s10))] H := hP
      have hD : va_D A [(a_this, .inr (1, [.ref a_text, .ref a_row, .ref a_costs])), (a_text, .inr (0, [.ref a_text_items, .int v_text_count])), (a_text_items, .inl (k_text_items, 64, .inl f_text_items)), (a_costs, .inl (k_costs, 195, .inl f_costs)), (a_row, .inr (0, [.ref a_row_items, .int s9])), (a_row_items, .inl (k_row_items, 99, .inl s10))] := hD
      refine lv_pop hx hb d_Pa_makeRow_46 rfl ?_
      refine lv_aload_n hx hb d_Pa_makeRow_47 rfl (lv_at hl 0 rfl) ?_
      refine va_get (D := D) (ci := 1) (v := .ref a_row) (C := R_Pa) (T := T_Pa) (N := 3) hx hb hts in_Pa hown hK hP 0 rfl rfl 1 (by decide) (hts _ mm_88) (fun _ h9 => h9) rfl d_Pa_makeRow_48 ?_
      refine lv_bipush (v := 106) hx hb d_Pa_makeRow_51 (by decide) ?_
      refine k_rwVi (As := [.int 106]) (rest := []) (wr := [(a_this, .inr (1, [.ref a_text, .ref a_row, .ref a_costs])), (a_text, .inr (0, [.ref a_text_items, .int v_text_count])), (a_text_items, .inl (k_text_items, 64, .inl f_text_items)), (a_costs, .inl (k_costs, 195, .inl f_costs))]) hz [4, 5] [0, 1, 2, 3] [1] 4 0 ⟨hx, hb, hml, hown, hts⟩ (met_It_add l D Z hz ad hk a_row a_row_items k_row_items 99 s9 s10 106 _ hw) (cwV 1 hts (g_V mm_202 mm_203 mm_204 mm_42 mm_205) rfl rfl rfl hd_It_add ⟨Nat.le_of_ble_eq_true rfl, Nat.le_of_ble_eq_true rfl⟩) hP hD hK hZ hS hA rfl rfl rfl rfl rfl (by decide) rfl rfl rfl rfl hl.1 rfl (Nat.le_of_ble_eq_true rfl) d_Pa_makeRow_53 ⟨Nat.le_of_ble_eq_true rfl, Nat.le_of_ble_eq_true rfl⟩ (fun r11 u9 H locs hw hP hD hS => ?_)
      obtain ⟨s12, s13⟩ := u9
      try dsimp only at hw
      have hP : va_P D vwCl [(a_this, .inr (1, [.ref a_text, .ref a_row, .ref a_costs])), (a_text, .inr (0, [.ref a_text_items, .int v_text_count])), (a_text_items, .inl (k_text_items, 64, .inl f_text_items)), (a_costs, .inl (k_costs, 195, .inl f_costs)), (a_row, .inr (0, [.ref a_row_items, .int s12])), (a_row_items, .inl (k_row_items, 99, .inl s13))] H := hP
      have hD : va_D A [(a_this, .inr (1, [.ref a_text, .ref a_row, .ref a_costs])), (a_text, .inr (0, [.ref a_text_items, .int v_text_count])), (a_text_items, .inl (k_text_items, 64, .inl f_text_items)), (a_costs, .inl (k_costs, 195, .inl f_costs)), (a_row, .inr (0, [.ref a_row_items, .int s12])), (a_row_items, .inl (k_row_items, 99, .inl s13))] := hD
      refine lv_pop hx hb d_Pa_makeRow_56 rfl ?_
      have hP9 := hP.sub (ws' := [(a_this, .inr (1, [.ref a_text, .ref a_row, .ref a_costs])), (a_text, .inr (0, [.ref a_text_items, .int v_text_count])), (a_text_items, .inl (k_text_items, 64, .inl f_text_items)), (a_row, .inr (0, [.ref a_row_items, .int s12])), (a_row_items, .inl (k_row_items, 99, .inl s13)), (a_costs, .inl (k_costs, 195, .inl f_costs))]) [0, 1, 2, 4, 5, 3] rfl
      have hD9 := hD.sub (ws' := [(a_this, .inr (1, [.ref a_text, .ref a_row, .ref a_costs])), (a_text, .inr (0, [.ref a_text_items, .int v_text_count])), (a_text_items, .inl (k_text_items, 64, .inl f_text_items)), (a_row, .inr (0, [.ref a_row_items, .int s12])), (a_row_items, .inl (k_row_items, 99, .inl s13)), (a_costs, .inl (k_costs, 195, .inl f_costs))]) [0, 1, 2, 4, 5, 3] (by decide) rfl
      exact W.vret hx hb hr (fun t ht hW => ⟨⟨(s12, s13, f_costs), rfl, hw, by rw [ht]; exact hP9, va_K.moved hW.alike hK, hD9⟩, hS.F ht⟩) hS.2.2 d_Pa_makeRow_57
    · have hw := hw.2 c2
      refine lv_aload_n hx hb d_Pa_makeRow_12 rfl (lv_at hl 0 rfl) ?_
      refine lv_iload_n hx hb d_Pa_makeRow_13 rfl (lv_at hl 1 rfl) ?_
      refine k_rwVv (As := [.int y1]) (rest := []) (wr := []) hz [0, 1, 2, 3, 4, 5] [] [0, 1, 2] 0 1 ⟨hx, hb, hml, hown, hts⟩ (met_Pa_fillCosts l D Z hz ad hk a_this a_text a_text_items a_row a_row_items a_costs k_text_items k_row_items k_costs v_text_count f_text_items v_row_count f_row_items f_costs y1 _ hw) (cwV 1 hts (g_V mm_157 mm_159 mm_0 mm_44 mm_160) rfl rfl rfl hd_Pa_fillCosts ⟨Nat.le_of_ble_eq_true rfl, Nat.le_of_ble_eq_true rfl⟩) hP hD hK hZ hS hA rfl rfl rfl rfl rfl (by decide) rfl rfl rfl rfl hl.1 rfl (Nat.le_of_ble_eq_true rfl) d_Pa_makeRow_14 ⟨Nat.le_of_ble_eq_true rfl, Nat.le_of_ble_eq_true rfl⟩ (fun s14 H locs hw hP hD hS => ?_)
      try dsimp only at hw
      have hP : va_P D vwCl [(a_this, .inr (1, [.ref a_text, .ref a_row, .ref a_costs])), (a_text, .inr (0, [.ref a_text_items, .int v_text_count])), (a_text_items, .inl (k_text_items, 64, .inl f_text_items)), (a_row, .inr (0, [.ref a_row_items, .int v_row_count])), (a_row_items, .inl (k_row_items, 99, .inl f_row_items)), (a_costs, .inl (k_costs, 195, .inl s14))] H := hP
      have hD : va_D A [(a_this, .inr (1, [.ref a_text, .ref a_row, .ref a_costs])), (a_text, .inr (0, [.ref a_text_items, .int v_text_count])), (a_text_items, .inl (k_text_items, 64, .inl f_text_items)), (a_row, .inr (0, [.ref a_row_items, .int v_row_count])), (a_row_items, .inl (k_row_items, 99, .inl f_row_items)), (a_costs, .inl (k_costs, 195, .inl s14))] := hD
      refine lv_iinc (v := (y1 + (-1))) (lv' := [(1, .int (y1 + (-1))), (0, .ref a_this)]) hx hb d_Pa_makeRow_17 hl (k := 1) rfl rfl (by decide) rfl (fun ls hl => ?_)
      refine lv_goto (tgt := 8) hx hb d_Pa_makeRow_20 (by decide) ?_
      exact ih s14 (y1 + (-1)) hw _ _ (hP.sub [0, 1, 2, 3, 4, 5] rfl) (hD.sub [0, 1, 2, 3, 4, 5] (by decide) rfl) hS ls (lv_sub hl [1, 0] rfl)
set_option maxHeartbeats 4000000 in
set_option maxRecDepth 100000 in
theorem met_Pa_makeRow (l : Launch) (D : va_G) (Z : (Nat → Prop) → State → Heap → Prop) (hz : zk Z) (ad : Nat → Nat) (hk : zs Z ad) (a_this : Nat) (a_text : Nat) (a_text_items : Nat) (a_row : Nat) (a_row_items : Nat) (a_costs : Nat) (k_text_items : ClassId) (k_row_items : ClassId) (k_costs : ClassId) (v_text_count : Int32) (f_text_items : Nat → Int32) (v_row_count : Int32) (f_row_items : Nat → Int32) (f_costs : Nat → Int32) (sz : Nat) {post : Int32 → (Nat → Int32) → (Nat → Int32) → Prop} (hw : w_Pa_makeRow post v_text_count f_text_items v_row_count f_row_items f_costs) : Met l y_Pa_makeRow ws_Pa_makeRow rm_Pa_makeRow (va_Pc [.ref a_this] (rw_ D vwCl [(k_text_items, .int), (k_row_items, .int), (k_costs, .int)] [(a_this, .inr (1, [.ref a_text, .ref a_row, .ref a_costs])), (a_text, .inr (0, [.ref a_text_items, .int v_text_count])), (a_text_items, .inl (k_text_items, 64, .inl f_text_items)), (a_row, .inr (0, [.ref a_row_items, .int v_row_count])), (a_row_items, .inl (k_row_items, 99, .inl f_row_items)), (a_costs, .inl (k_costs, 195, .inl f_costs))] (Z) sz)) (va_Qv (fun u : Int32 × (Nat → Int32) × (Nat → Int32) => post u.1 u.2.1 u.2.2) (fun u t => at_ D vwCl [(k_text_items, .int), (k_row_items, .int), (k_costs, .int)] (va_A [(a_this, .inr (1, [.ref a_text, .ref a_row, .ref a_costs])), (a_text, .inr (0, [.ref a_text_items, .int v_text_count])), (a_text_items, .inl (k_text_items, 64, .inl f_text_items)), (a_row, .inr (0, [.ref a_row_items, .int v_row_count])), (a_row_items, .inl (k_row_items, 99, .inl f_row_items)), (a_costs, .inl (k_costs, 195, .inl f_costs))] sz) [(a_this, .inr (1, [.ref a_text, .ref a_row, .ref a_costs])), (a_text, .inr (0, [.ref a_text_items, .int v_text_count])), (a_text_items, .inl (k_text_items, 64, .inl f_text_items)), (a_row, .inr (0, [.ref a_row_items, .int u.1])), (a_row_items, .inl (k_row_items, 99, .inl u.2.1)), (a_costs, .inl (k_costs, 195, .inl u.2.2))] t) (va_A [(a_this, .inr (1, [.ref a_text, .ref a_row, .ref a_costs])), (a_text, .inr (0, [.ref a_text_items, .int v_text_count])), (a_text_items, .inl (k_text_items, 64, .inl f_text_items)), (a_row, .inr (0, [.ref a_row_items, .int v_row_count])), (a_row_items, .inl (k_row_items, 99, .inl f_row_items)), (a_costs, .inl (k_costs, 195, .inl f_costs))] sz)) 0 0 (va_A [(a_this, .inr (1, [.ref a_text, .ref a_row, .ref a_costs])), (a_text, .inr (0, [.ref a_text_items, .int v_text_count])), (a_text_items, .inl (k_text_items, 64, .inl f_text_items)), (a_row, .inr (0, [.ref a_row_items, .int v_row_count])), (a_row_items, .inl (k_row_items, 99, .inl f_row_items)), (a_costs, .inl (k_costs, 195, .inl f_costs))] sz) := by
  refine Met.ofW (cc := c_Pa_makeRow) (maxL := 2) (ret := (none)) (by decide) rfl ?_
  intro p e s m args below meth c s₁ B hml hv
  obtain ⟨rfl, hsz, hP, hK, hD0, hZ⟩ := hv
  have hx := B.exec
  have hb := B.bytes
  have hr := B.returns
  have hts0 := atoms_spec (ws := ws_Pa_makeRow) B.pre
  have hts := fun (w : Cond) (h : w ∈ tb) => hts0 w (List.mem_cons_of_mem _ h)
  have hown : s.vm.findClass R_Pa = some m.cls := findClass_of_methodNamed B.named
  have hlocks := B.notSynchronized
  subst hsz
  have hD := hD0.self (sz := s.heap.size)
  generalize hAe : va_A [(a_this, .inr (1, [.ref a_text, .ref a_row, .ref a_costs])), (a_text, .inr (0, [.ref a_text_items, .int v_text_count])), (a_text_items, .inl (k_text_items, 64, .inl f_text_items)), (a_row, .inr (0, [.ref a_row_items, .int v_row_count])), (a_row_items, .inl (k_row_items, 99, .inl f_row_items)), (a_costs, .inl (k_costs, 195, .inl f_costs))] s.heap.size = A at hD hZ ⊢
  have hA : ∀ q : Nat, s.heap.size ≤ q → A q := fun q h => by rw [← hAe]; exact Or.inr h
  have hS : va_S A s.heap s.heap [] := va_S.rf
  have hl := lv_entry ([.ref a_this]) (n := 2) (Nat.le_of_ble_eq_true rfl)
  rw [lg_entry_eq]
  generalize (lg_sl ([.ref a_this]) ++ List.replicate (2 - (lg_sl ([.ref a_this])).length) Slot.unset).toArray = ls at hl ⊢
  have hl : lv_has ls 2 [(0, .ref a_this)] := hl
  unfold w_Pa_makeRow at hw
  refine lv_aload_n hx hb d_Pa_makeRow_0 rfl (lv_at hl 0 rfl) ?_
  refine va_get (D := D) (ci := 1) (v := .ref a_text) (C := R_Pa) (T := T_Pa) (N := 3) hx hb hts in_Pa hown hK hP 0 rfl rfl 0 (by decide) (hts _ mm_87) (fun _ h9 => h9) rfl d_Pa_makeRow_1 ?_
  refine k_roVi (As := []) (rest := []) hz [1, 2] [0] 1 0 ⟨hx, hb, hml, hown, hts⟩ (met_It_count l D Z hz ad hk a_text a_text_items k_text_items 64 v_text_count f_text_items hw) (cwV 0 hts (g_V mm_153 mm_154 mm_155 mm_42 mm_156) rfl rfl rfl hd_It_count ⟨Nat.le_of_ble_eq_true rfl, Nat.le_of_ble_eq_true rfl⟩) hP hK hZ hS rfl rfl rfl rfl rfl hl.1 rfl (Nat.le_of_ble_eq_true rfl) d_Pa_makeRow_4 ⟨Nat.le_of_ble_eq_true rfl, Nat.le_of_ble_eq_true rfl⟩ (fun r1 hw => ?_)
  refine lv_istore_n (lv' := [(1, .int r1), (0, .ref a_this)]) hx hb d_Pa_makeRow_7 rfl hl (by decide) rfl (fun ls hl => ?_)
  obtain ⟨n9, hw⟩ := hw
  exact lp_Pa_makeRow_8 l D Z hz ad hk a_this a_text a_text_items a_row a_row_items a_costs k_text_items k_row_items k_costs v_text_count f_text_items v_row_count f_row_items hx hb hml hr hts hown hlocks hK hZ hA n9 f_costs r1 hw _ _ (hP.sub [0, 1, 2, 3, 4, 5] rfl) (hD.sub [0, 1, 2, 3, 4, 5] (by decide) rfl) hS ls (lv_sub hl [1, 0] rfl)
end
section
theorem d_Re_init_0 : decode c_Re_init 0 = .ok (.aload_n 0, 1) := by decide +kernel
theorem d_Re_init_1 : decode c_Re_init 1 = .ok (.invokespecial 3, 3) := by decide +kernel
theorem d_Re_init_4 : decode c_Re_init 4 = .ok (.aload_n 0, 1) := by decide +kernel
theorem d_Re_init_5 : decode c_Re_init 5 = .ok (.aload_n 1, 1) := by decide +kernel
theorem d_Re_init_6 : decode c_Re_init 6 = .ok (.putfield 9, 3) := by decide +kernel
theorem d_Re_init_9 : decode c_Re_init 9 = .ok (.aload_n 0, 1) := by decide +kernel
theorem d_Re_init_10 : decode c_Re_init 10 = .ok (.new 15, 3) := by decide +kernel
theorem d_Re_init_13 : decode c_Re_init 13 = .ok (.dup, 1) := by decide +kernel
theorem d_Re_init_14 : decode c_Re_init 14 = .ok (.sipush 260, 3) := by decide +kernel
theorem d_Re_init_17 : decode c_Re_init 17 = .ok (.invokespecial 17, 3) := by decide +kernel
theorem d_Re_init_20 : decode c_Re_init 20 = .ok (.putfield 20, 3) := by decide +kernel
theorem d_Re_init_23 : decode c_Re_init 23 = .ok (.aload_n 0, 1) := by decide +kernel
theorem d_Re_init_24 : decode c_Re_init 24 = .ok (.iconst 0, 1) := by decide +kernel
theorem d_Re_init_25 : decode c_Re_init 25 = .ok (.putfield 23, 3) := by decide +kernel
theorem d_Re_init_28 : decode c_Re_init 28 = .ok (.aload_n 0, 1) := by decide +kernel
theorem d_Re_init_29 : decode c_Re_init 29 = .ok (.iconst 0, 1) := by decide +kernel
theorem d_Re_init_30 : decode c_Re_init 30 = .ok (.putfield 29, 3) := by decide +kernel
theorem d_Re_init_33 : decode c_Re_init 33 = .ok (.aload_n 0, 1) := by decide +kernel
theorem d_Re_init_34 : decode c_Re_init 34 = .ok (.iconst 0, 1) := by decide +kernel
theorem d_Re_init_35 : decode c_Re_init 35 = .ok (.putfield 33, 3) := by decide +kernel
theorem d_Re_init_38 : decode c_Re_init 38 = .ok (.return_, 1) := by decide +kernel
theorem d_Re_toldCount_0 : decode c_Re_toldCount 0 = .ok (.aload_n 0, 1) := by decide +kernel
theorem d_Re_toldCount_1 : decode c_Re_toldCount 1 = .ok (.getfield 20, 3) := by decide +kernel
theorem d_Re_toldCount_4 : decode c_Re_toldCount 4 = .ok (.invokevirtual 36, 3) := by decide +kernel
theorem d_Re_toldCount_7 : decode c_Re_toldCount 7 = .ok (.ireturn, 1) := by decide +kernel
theorem d_Re_toldAt_0 : decode c_Re_toldAt 0 = .ok (.aload_n 0, 1) := by decide +kernel
theorem d_Re_toldAt_1 : decode c_Re_toldAt 1 = .ok (.getfield 20, 3) := by decide +kernel
theorem d_Re_toldAt_4 : decode c_Re_toldAt 4 = .ok (.iload_n 1, 1) := by decide +kernel
theorem d_Re_toldAt_5 : decode c_Re_toldAt 5 = .ok (.invokevirtual 40, 3) := by decide +kernel
theorem d_Re_toldAt_8 : decode c_Re_toldAt 8 = .ok (.ireturn, 1) := by decide +kernel
theorem d_Re_isFromBack_0 : decode c_Re_isFromBack 0 = .ok (.aload_n 0, 1) := by decide +kernel
theorem d_Re_isFromBack_1 : decode c_Re_isFromBack 1 = .ok (.getfield 23, 3) := by decide +kernel
theorem d_Re_isFromBack_4 : decode c_Re_isFromBack 4 = .ok (.ireturn, 1) := by decide +kernel
theorem d_Re_isReadable_0 : decode c_Re_isReadable 0 = .ok (.aload_n 0, 1) := by decide +kernel
theorem d_Re_isReadable_1 : decode c_Re_isReadable 1 = .ok (.getfield 20, 3) := by decide +kernel
theorem d_Re_isReadable_4 : decode c_Re_isReadable 4 = .ok (.invokevirtual 44, 3) := by decide +kernel
theorem d_Re_isReadable_7 : decode c_Re_isReadable 7 = .ok (.pop, 1) := by decide +kernel
theorem d_Re_isReadable_8 : decode c_Re_isReadable 8 = .ok (.aload_n 0, 1) := by decide +kernel
theorem d_Re_isReadable_9 : decode c_Re_isReadable 9 = .ok (.getfield 9, 3) := by decide +kernel
theorem d_Re_isReadable_12 : decode c_Re_isReadable 12 = .ok (.invokevirtual 36, 3) := by decide +kernel
theorem d_Re_isReadable_15 : decode c_Re_isReadable 15 = .ok (.bipush 59, 2) := by decide +kernel
theorem d_Re_isReadable_17 : decode c_Re_isReadable 17 = .ok (.if_icmp .ne 10, 3) := by decide +kernel
theorem d_Re_isReadable_20 : decode c_Re_isReadable 20 = .ok (.aload_n 0, 1) := by decide +kernel
theorem d_Re_isReadable_21 : decode c_Re_isReadable 21 = .ok (.invokevirtual 47, 3) := by decide +kernel
theorem d_Re_isReadable_24 : decode c_Re_isReadable 24 = .ok (.goto 7, 3) := by decide +kernel
theorem d_Re_isReadable_27 : decode c_Re_isReadable 27 = .ok (.aload_n 0, 1) := by decide +kernel
theorem d_Re_isReadable_28 : decode c_Re_isReadable 28 = .ok (.invokevirtual 51, 3) := by decide +kernel
theorem d_Re_isReadable_31 : decode c_Re_isReadable 31 = .ok (.istore_n 2, 1) := by decide +kernel
theorem d_Re_isReadable_32 : decode c_Re_isReadable 32 = .ok (.iload_n 2, 1) := by decide +kernel
theorem d_Re_isReadable_33 : decode c_Re_isReadable 33 = .ok (.ifCond .ne 11, 3) := by decide +kernel
theorem d_Re_isReadable_36 : decode c_Re_isReadable 36 = .ok (.aload_n 0, 1) := by decide +kernel
theorem d_Re_isReadable_37 : decode c_Re_isReadable 37 = .ok (.getfield 20, 3) := by decide +kernel
theorem d_Re_isReadable_40 : decode c_Re_isReadable 40 = .ok (.invokevirtual 44, 3) := by decide +kernel
theorem d_Re_isReadable_43 : decode c_Re_isReadable 43 = .ok (.pop, 1) := by decide +kernel
theorem d_Re_isReadable_44 : decode c_Re_isReadable 44 = .ok (.aload_n 0, 1) := by decide +kernel
theorem d_Re_isReadable_45 : decode c_Re_isReadable 45 = .ok (.iload_n 2, 1) := by decide +kernel
theorem d_Re_isReadable_46 : decode c_Re_isReadable 46 = .ok (.ifCond .eq 11, 3) := by decide +kernel
theorem d_Re_isReadable_49 : decode c_Re_isReadable 49 = .ok (.iload_n 1, 1) := by decide +kernel
theorem d_Re_isReadable_50 : decode c_Re_isReadable 50 = .ok (.ifCond .eq 7, 3) := by decide +kernel
theorem d_Re_isReadable_53 : decode c_Re_isReadable 53 = .ok (.iconst 1, 1) := by decide +kernel
theorem d_Re_isReadable_54 : decode c_Re_isReadable 54 = .ok (.goto 4, 3) := by decide +kernel
theorem d_Re_isReadable_57 : decode c_Re_isReadable 57 = .ok (.iconst 0, 1) := by decide +kernel
theorem d_Re_isReadable_58 : decode c_Re_isReadable 58 = .ok (.putfield 23, 3) := by decide +kernel
theorem d_Re_isReadable_61 : decode c_Re_isReadable 61 = .ok (.iload_n 2, 1) := by decide +kernel
theorem d_Re_isReadable_62 : decode c_Re_isReadable 62 = .ok (.ireturn, 1) := by decide +kernel
theorem d_Re_isThirteen_0 : decode c_Re_isThirteen 0 = .ok (.aload_n 0, 1) := by decide +kernel
theorem d_Re_isThirteen_1 : decode c_Re_isThirteen 1 = .ok (.invokevirtual 54, 3) := by decide +kernel
theorem d_Re_isThirteen_4 : decode c_Re_isThirteen 4 = .ok (.ifCond .eq 17, 3) := by decide +kernel
theorem d_Re_isThirteen_7 : decode c_Re_isThirteen 7 = .ok (.aload_n 0, 1) := by decide +kernel
theorem d_Re_isThirteen_8 : decode c_Re_isThirteen 8 = .ok (.invokevirtual 57, 3) := by decide +kernel
theorem d_Re_isThirteen_11 : decode c_Re_isThirteen 11 = .ok (.ifCond .eq 10, 3) := by decide +kernel
theorem d_Re_isThirteen_14 : decode c_Re_isThirteen 14 = .ok (.aload_n 0, 1) := by decide +kernel
theorem d_Re_isThirteen_15 : decode c_Re_isThirteen 15 = .ok (.invokevirtual 60, 3) := by decide +kernel
theorem d_Re_isThirteen_18 : decode c_Re_isThirteen 18 = .ok (.ifCond .ne 5, 3) := by decide +kernel
theorem d_Re_isThirteen_21 : decode c_Re_isThirteen 21 = .ok (.iconst 0, 1) := by decide +kernel
theorem d_Re_isThirteen_22 : decode c_Re_isThirteen 22 = .ok (.ireturn, 1) := by decide +kernel
theorem d_Re_isThirteen_23 : decode c_Re_isThirteen 23 = .ok (.iconst 0, 1) := by decide +kernel
theorem d_Re_isThirteen_24 : decode c_Re_isThirteen 24 = .ok (.istore_n 1, 1) := by decide +kernel
theorem d_Re_isThirteen_25 : decode c_Re_isThirteen 25 = .ok (.iconst 0, 1) := by decide +kernel
theorem d_Re_isThirteen_26 : decode c_Re_isThirteen 26 = .ok (.istore_n 2, 1) := by decide +kernel
theorem d_Re_isThirteen_27 : decode c_Re_isThirteen 27 = .ok (.iload_n 2, 1) := by decide +kernel
theorem d_Re_isThirteen_28 : decode c_Re_isThirteen 28 = .ok (.bipush 13, 2) := by decide +kernel
theorem d_Re_isThirteen_30 : decode c_Re_isThirteen 30 = .ok (.if_icmp .ge 28, 3) := by decide +kernel
theorem d_Re_isThirteen_33 : decode c_Re_isThirteen 33 = .ok (.iload_n 1, 1) := by decide +kernel
theorem d_Re_isThirteen_34 : decode c_Re_isThirteen 34 = .ok (.iload_n 2, 1) := by decide +kernel
theorem d_Re_isThirteen_35 : decode c_Re_isThirteen 35 = .ok (.invokestatic 65, 3) := by decide +kernel
theorem d_Re_isThirteen_38 : decode c_Re_isThirteen 38 = .ok (.aload_n 0, 1) := by decide +kernel
theorem d_Re_isThirteen_39 : decode c_Re_isThirteen 39 = .ok (.getfield 20, 3) := by decide +kernel
theorem d_Re_isThirteen_42 : decode c_Re_isThirteen 42 = .ok (.iload_n 2, 1) := by decide +kernel
theorem d_Re_isThirteen_43 : decode c_Re_isThirteen 43 = .ok (.invokevirtual 40, 3) := by decide +kernel
theorem d_Re_isThirteen_46 : decode c_Re_isThirteen 46 = .ok (.bipush 48, 2) := by decide +kernel
theorem d_Re_isThirteen_48 : decode c_Re_isThirteen 48 = .ok (.isub, 1) := by decide +kernel
theorem d_Re_isThirteen_49 : decode c_Re_isThirteen 49 = .ok (.imul, 1) := by decide +kernel
theorem d_Re_isThirteen_50 : decode c_Re_isThirteen 50 = .ok (.iadd, 1) := by decide +kernel
theorem d_Re_isThirteen_51 : decode c_Re_isThirteen 51 = .ok (.istore_n 1, 1) := by decide +kernel
theorem d_Re_isThirteen_52 : decode c_Re_isThirteen 52 = .ok (.iinc 2 1, 3) := by decide +kernel
theorem d_Re_isThirteen_55 : decode c_Re_isThirteen 55 = .ok (.goto (-28), 3) := by decide +kernel
theorem d_Re_isThirteen_58 : decode c_Re_isThirteen 58 = .ok (.iload_n 1, 1) := by decide +kernel
theorem d_Re_isThirteen_59 : decode c_Re_isThirteen 59 = .ok (.bipush 10, 2) := by decide +kernel
theorem d_Re_isThirteen_61 : decode c_Re_isThirteen 61 = .ok (.irem, 1) := by decide +kernel
theorem d_Re_isThirteen_62 : decode c_Re_isThirteen 62 = .ok (.ifCond .ne 7, 3) := by decide +kernel
theorem d_Re_isThirteen_65 : decode c_Re_isThirteen 65 = .ok (.iconst 1, 1) := by decide +kernel
theorem d_Re_isThirteen_66 : decode c_Re_isThirteen 66 = .ok (.goto 4, 3) := by decide +kernel
theorem d_Re_isThirteen_69 : decode c_Re_isThirteen 69 = .ok (.iconst 0, 1) := by decide +kernel
theorem d_Re_isThirteen_70 : decode c_Re_isThirteen 70 = .ok (.ireturn, 1) := by decide +kernel
theorem d_Re_areSidesAndMiddleRight_0 : decode c_Re_areSidesAndMiddleRight 0 = .ok (.aload_n 0, 1) := by decide +kernel
theorem d_Re_areSidesAndMiddleRight_1 : decode c_Re_areSidesAndMiddleRight 1 = .ok (.iconst 0, 1) := by decide +kernel
theorem d_Re_areSidesAndMiddleRight_2 : decode c_Re_areSidesAndMiddleRight 2 = .ok (.bipush 59, 2) := by decide +kernel
theorem d_Re_areSidesAndMiddleRight_4 : decode c_Re_areSidesAndMiddleRight 4 = .ok (.invokevirtual 68, 3) := by decide +kernel
theorem d_Re_areSidesAndMiddleRight_7 : decode c_Re_areSidesAndMiddleRight 7 = .ok (.istore_n 1, 1) := by decide +kernel
theorem d_Re_areSidesAndMiddleRight_8 : decode c_Re_areSidesAndMiddleRight 8 = .ok (.aload_n 0, 1) := by decide +kernel
theorem d_Re_areSidesAndMiddleRight_9 : decode c_Re_areSidesAndMiddleRight 9 = .ok (.iconst 0, 1) := by decide +kernel
theorem d_Re_areSidesAndMiddleRight_10 : decode c_Re_areSidesAndMiddleRight 10 = .ok (.iconst 3, 1) := by decide +kernel
theorem d_Re_areSidesAndMiddleRight_11 : decode c_Re_areSidesAndMiddleRight 11 = .ok (.bipush 95, 2) := by decide +kernel
theorem d_Re_areSidesAndMiddleRight_13 : decode c_Re_areSidesAndMiddleRight 13 = .ok (.iload_n 1, 1) := by decide +kernel
theorem d_Re_areSidesAndMiddleRight_14 : decode c_Re_areSidesAndMiddleRight 14 = .ok (.invokevirtual 74, 3) := by decide +kernel
theorem d_Re_areSidesAndMiddleRight_17 : decode c_Re_areSidesAndMiddleRight 17 = .ok (.bipush 111, 2) := by decide +kernel
theorem d_Re_areSidesAndMiddleRight_19 : decode c_Re_areSidesAndMiddleRight 19 = .ok (.if_icmp .ne 38, 3) := by decide +kernel
theorem d_Re_areSidesAndMiddleRight_22 : decode c_Re_areSidesAndMiddleRight 22 = .ok (.aload_n 0, 1) := by decide +kernel
theorem d_Re_areSidesAndMiddleRight_23 : decode c_Re_areSidesAndMiddleRight 23 = .ok (.bipush 27, 2) := by decide +kernel
theorem d_Re_areSidesAndMiddleRight_25 : decode c_Re_areSidesAndMiddleRight 25 = .ok (.iconst 5, 1) := by decide +kernel
theorem d_Re_areSidesAndMiddleRight_26 : decode c_Re_areSidesAndMiddleRight 26 = .ok (.bipush 95, 2) := by decide +kernel
theorem d_Re_areSidesAndMiddleRight_28 : decode c_Re_areSidesAndMiddleRight 28 = .ok (.iload_n 1, 1) := by decide +kernel
theorem d_Re_areSidesAndMiddleRight_29 : decode c_Re_areSidesAndMiddleRight 29 = .ok (.invokevirtual 74, 3) := by decide +kernel
theorem d_Re_areSidesAndMiddleRight_32 : decode c_Re_areSidesAndMiddleRight 32 = .ok (.sipush 11111, 3) := by decide +kernel
theorem d_Re_areSidesAndMiddleRight_35 : decode c_Re_areSidesAndMiddleRight 35 = .ok (.if_icmp .ne 22, 3) := by decide +kernel
theorem d_Re_areSidesAndMiddleRight_38 : decode c_Re_areSidesAndMiddleRight 38 = .ok (.aload_n 0, 1) := by decide +kernel
theorem d_Re_areSidesAndMiddleRight_39 : decode c_Re_areSidesAndMiddleRight 39 = .ok (.bipush 56, 2) := by decide +kernel
theorem d_Re_areSidesAndMiddleRight_41 : decode c_Re_areSidesAndMiddleRight 41 = .ok (.iconst 3, 1) := by decide +kernel
theorem d_Re_areSidesAndMiddleRight_42 : decode c_Re_areSidesAndMiddleRight 42 = .ok (.bipush 95, 2) := by decide +kernel
theorem d_Re_areSidesAndMiddleRight_44 : decode c_Re_areSidesAndMiddleRight 44 = .ok (.iload_n 1, 1) := by decide +kernel
theorem d_Re_areSidesAndMiddleRight_45 : decode c_Re_areSidesAndMiddleRight 45 = .ok (.invokevirtual 74, 3) := by decide +kernel
theorem d_Re_areSidesAndMiddleRight_48 : decode c_Re_areSidesAndMiddleRight 48 = .ok (.bipush 111, 2) := by decide +kernel
theorem d_Re_areSidesAndMiddleRight_50 : decode c_Re_areSidesAndMiddleRight 50 = .ok (.if_icmp .ne 7, 3) := by decide +kernel
theorem d_Re_areSidesAndMiddleRight_53 : decode c_Re_areSidesAndMiddleRight 53 = .ok (.iconst 1, 1) := by decide +kernel
theorem d_Re_areSidesAndMiddleRight_54 : decode c_Re_areSidesAndMiddleRight 54 = .ok (.goto 4, 3) := by decide +kernel
theorem d_Re_areSidesAndMiddleRight_57 : decode c_Re_areSidesAndMiddleRight 57 = .ok (.iconst 0, 1) := by decide +kernel
theorem d_Re_areSidesAndMiddleRight_58 : decode c_Re_areSidesAndMiddleRight 58 = .ok (.ireturn, 1) := by decide +kernel
theorem d_Re_isLeftHalf_0 : decode c_Re_isLeftHalf 0 = .ok (.aload_n 0, 1) := by decide +kernel
theorem d_Re_isLeftHalf_1 : decode c_Re_isLeftHalf 1 = .ok (.getfield 20, 3) := by decide +kernel
theorem d_Re_isLeftHalf_4 : decode c_Re_isLeftHalf 4 = .ok (.iconst (-1), 1) := by decide +kernel
theorem d_Re_isLeftHalf_5 : decode c_Re_isLeftHalf 5 = .ok (.invokevirtual 78, 3) := by decide +kernel
theorem d_Re_isLeftHalf_8 : decode c_Re_isLeftHalf 8 = .ok (.pop, 1) := by decide +kernel
theorem d_Re_isLeftHalf_9 : decode c_Re_isLeftHalf 9 = .ok (.iconst 0, 1) := by decide +kernel
theorem d_Re_isLeftHalf_10 : decode c_Re_isLeftHalf 10 = .ok (.istore_n 1, 1) := by decide +kernel
theorem d_Re_isLeftHalf_11 : decode c_Re_isLeftHalf 11 = .ok (.iconst 0, 1) := by decide +kernel
theorem d_Re_isLeftHalf_12 : decode c_Re_isLeftHalf 12 = .ok (.istore_n 2, 1) := by decide +kernel
theorem d_Re_isLeftHalf_13 : decode c_Re_isLeftHalf 13 = .ok (.iload_n 2, 1) := by decide +kernel
theorem d_Re_isLeftHalf_14 : decode c_Re_isLeftHalf 14 = .ok (.bipush 6, 2) := by decide +kernel
theorem d_Re_isLeftHalf_16 : decode c_Re_isLeftHalf 16 = .ok (.if_icmp .ge 88, 3) := by decide +kernel
theorem d_Re_isLeftHalf_19 : decode c_Re_isLeftHalf 19 = .ok (.aload_n 0, 1) := by decide +kernel
theorem d_Re_isLeftHalf_20 : decode c_Re_isLeftHalf 20 = .ok (.iconst 3, 1) := by decide +kernel
theorem d_Re_isLeftHalf_21 : decode c_Re_isLeftHalf 21 = .ok (.iconst 4, 1) := by decide +kernel
theorem d_Re_isLeftHalf_22 : decode c_Re_isLeftHalf 22 = .ok (.iload_n 2, 1) := by decide +kernel
theorem d_Re_isLeftHalf_23 : decode c_Re_isLeftHalf 23 = .ok (.imul, 1) := by decide +kernel
theorem d_Re_isLeftHalf_24 : decode c_Re_isLeftHalf 24 = .ok (.iadd, 1) := by decide +kernel
theorem d_Re_isLeftHalf_25 : decode c_Re_isLeftHalf 25 = .ok (.invokevirtual 82, 3) := by decide +kernel
theorem d_Re_isLeftHalf_28 : decode c_Re_isLeftHalf 28 = .ok (.istore_n 3, 1) := by decide +kernel
theorem d_Re_isLeftHalf_29 : decode c_Re_isLeftHalf 29 = .ok (.iload_n 3, 1) := by decide +kernel
theorem d_Re_isLeftHalf_30 : decode c_Re_isLeftHalf 30 = .ok (.invokestatic 85, 3) := by decide +kernel
theorem d_Re_isLeftHalf_33 : decode c_Re_isLeftHalf 33 = .ok (.istore 4, 2) := by decide +kernel
theorem d_Re_isLeftHalf_35 : decode c_Re_isLeftHalf 35 = .ok (.iload 4, 2) := by decide +kernel
theorem d_Re_isLeftHalf_37 : decode c_Re_isLeftHalf 37 = .ok (.iconst (-1), 1) := by decide +kernel
theorem d_Re_isLeftHalf_38 : decode c_Re_isLeftHalf 38 = .ok (.if_icmp .ne 7, 3) := by decide +kernel
theorem d_Re_isLeftHalf_41 : decode c_Re_isLeftHalf 41 = .ok (.iconst 1, 1) := by decide +kernel
theorem d_Re_isLeftHalf_42 : decode c_Re_isLeftHalf 42 = .ok (.goto 4, 3) := by decide +kernel
theorem d_Re_isLeftHalf_45 : decode c_Re_isLeftHalf 45 = .ok (.iconst 0, 1) := by decide +kernel
theorem d_Re_isLeftHalf_46 : decode c_Re_isLeftHalf 46 = .ok (.istore 5, 2) := by decide +kernel
theorem d_Re_isLeftHalf_48 : decode c_Re_isLeftHalf 48 = .ok (.iload 5, 2) := by decide +kernel
theorem d_Re_isLeftHalf_50 : decode c_Re_isLeftHalf 50 = .ok (.ifCond .eq 12, 3) := by decide +kernel
theorem d_Re_isLeftHalf_53 : decode c_Re_isLeftHalf 53 = .ok (.iload_n 3, 1) := by decide +kernel
theorem d_Re_isLeftHalf_54 : decode c_Re_isLeftHalf 54 = .ok (.invokestatic 88, 3) := by decide +kernel
theorem d_Re_isLeftHalf_57 : decode c_Re_isLeftHalf 57 = .ok (.invokestatic 85, 3) := by decide +kernel
theorem d_Re_isLeftHalf_60 : decode c_Re_isLeftHalf 60 = .ok (.istore 4, 2) := by decide +kernel
theorem d_Re_isLeftHalf_62 : decode c_Re_isLeftHalf 62 = .ok (.iload 4, 2) := by decide +kernel
theorem d_Re_isLeftHalf_64 : decode c_Re_isLeftHalf 64 = .ok (.iconst (-1), 1) := by decide +kernel
theorem d_Re_isLeftHalf_65 : decode c_Re_isLeftHalf 65 = .ok (.if_icmp .ne 5, 3) := by decide +kernel
theorem d_Re_isLeftHalf_68 : decode c_Re_isLeftHalf 68 = .ok (.iconst 0, 1) := by decide +kernel
theorem d_Re_isLeftHalf_69 : decode c_Re_isLeftHalf 69 = .ok (.ireturn, 1) := by decide +kernel
theorem d_Re_isLeftHalf_70 : decode c_Re_isLeftHalf 70 = .ok (.iconst 2, 1) := by decide +kernel
theorem d_Re_isLeftHalf_71 : decode c_Re_isLeftHalf 71 = .ok (.iload_n 1, 1) := by decide +kernel
theorem d_Re_isLeftHalf_72 : decode c_Re_isLeftHalf 72 = .ok (.imul, 1) := by decide +kernel
theorem d_Re_isLeftHalf_73 : decode c_Re_isLeftHalf 73 = .ok (.iload 5, 2) := by decide +kernel
theorem d_Re_isLeftHalf_75 : decode c_Re_isLeftHalf 75 = .ok (.ifCond .eq 7, 3) := by decide +kernel
theorem d_Re_isLeftHalf_78 : decode c_Re_isLeftHalf 78 = .ok (.iconst 1, 1) := by decide +kernel
theorem d_Re_isLeftHalf_79 : decode c_Re_isLeftHalf 79 = .ok (.goto 4, 3) := by decide +kernel
theorem d_Re_isLeftHalf_82 : decode c_Re_isLeftHalf 82 = .ok (.iconst 0, 1) := by decide +kernel
theorem d_Re_isLeftHalf_83 : decode c_Re_isLeftHalf 83 = .ok (.iadd, 1) := by decide +kernel
theorem d_Re_isLeftHalf_84 : decode c_Re_isLeftHalf 84 = .ok (.istore_n 1, 1) := by decide +kernel
theorem d_Re_isLeftHalf_85 : decode c_Re_isLeftHalf 85 = .ok (.aload_n 0, 1) := by decide +kernel
theorem d_Re_isLeftHalf_86 : decode c_Re_isLeftHalf 86 = .ok (.getfield 20, 3) := by decide +kernel
theorem d_Re_isLeftHalf_89 : decode c_Re_isLeftHalf 89 = .ok (.bipush 48, 2) := by decide +kernel
theorem d_Re_isLeftHalf_91 : decode c_Re_isLeftHalf 91 = .ok (.iload 4, 2) := by decide +kernel
theorem d_Re_isLeftHalf_93 : decode c_Re_isLeftHalf 93 = .ok (.iadd, 1) := by decide +kernel
theorem d_Re_isLeftHalf_94 : decode c_Re_isLeftHalf 94 = .ok (.invokevirtual 78, 3) := by decide +kernel
theorem d_Re_isLeftHalf_97 : decode c_Re_isLeftHalf 97 = .ok (.pop, 1) := by decide +kernel
theorem d_Re_isLeftHalf_98 : decode c_Re_isLeftHalf 98 = .ok (.iinc 2 1, 3) := by decide +kernel
theorem d_Re_isLeftHalf_101 : decode c_Re_isLeftHalf 101 = .ok (.goto (-88), 3) := by decide +kernel
theorem d_Re_isLeftHalf_104 : decode c_Re_isLeftHalf 104 = .ok (.iload_n 1, 1) := by decide +kernel
theorem d_Re_isLeftHalf_105 : decode c_Re_isLeftHalf 105 = .ok (.invokestatic 91, 3) := by decide +kernel
theorem d_Re_isLeftHalf_108 : decode c_Re_isLeftHalf 108 = .ok (.istore_n 2, 1) := by decide +kernel
theorem d_Re_isLeftHalf_109 : decode c_Re_isLeftHalf 109 = .ok (.aload_n 0, 1) := by decide +kernel
theorem d_Re_isLeftHalf_110 : decode c_Re_isLeftHalf 110 = .ok (.getfield 20, 3) := by decide +kernel
theorem d_Re_isLeftHalf_113 : decode c_Re_isLeftHalf 113 = .ok (.iconst 0, 1) := by decide +kernel
theorem d_Re_isLeftHalf_114 : decode c_Re_isLeftHalf 114 = .ok (.bipush 48, 2) := by decide +kernel
theorem d_Re_isLeftHalf_116 : decode c_Re_isLeftHalf 116 = .ok (.iload_n 2, 1) := by decide +kernel
theorem d_Re_isLeftHalf_117 : decode c_Re_isLeftHalf 117 = .ok (.iadd, 1) := by decide +kernel
theorem d_Re_isLeftHalf_118 : decode c_Re_isLeftHalf 118 = .ok (.invokevirtual 94, 3) := by decide +kernel
theorem d_Re_isLeftHalf_121 : decode c_Re_isLeftHalf 121 = .ok (.pop, 1) := by decide +kernel
theorem d_Re_isLeftHalf_122 : decode c_Re_isLeftHalf 122 = .ok (.iload_n 2, 1) := by decide +kernel
theorem d_Re_isLeftHalf_123 : decode c_Re_isLeftHalf 123 = .ok (.iconst (-1), 1) := by decide +kernel
theorem d_Re_isLeftHalf_124 : decode c_Re_isLeftHalf 124 = .ok (.if_icmp .eq 7, 3) := by decide +kernel
theorem d_Re_isLeftHalf_127 : decode c_Re_isLeftHalf 127 = .ok (.iconst 1, 1) := by decide +kernel
theorem d_Re_isLeftHalf_128 : decode c_Re_isLeftHalf 128 = .ok (.goto 4, 3) := by decide +kernel
theorem d_Re_isLeftHalf_131 : decode c_Re_isLeftHalf 131 = .ok (.iconst 0, 1) := by decide +kernel
theorem d_Re_isLeftHalf_132 : decode c_Re_isLeftHalf 132 = .ok (.ireturn, 1) := by decide +kernel
theorem d_Re_isRightHalf_0 : decode c_Re_isRightHalf 0 = .ok (.iconst 0, 1) := by decide +kernel
theorem d_Re_isRightHalf_1 : decode c_Re_isRightHalf 1 = .ok (.istore_n 1, 1) := by decide +kernel
theorem d_Re_isRightHalf_2 : decode c_Re_isRightHalf 2 = .ok (.iload_n 1, 1) := by decide +kernel
theorem d_Re_isRightHalf_3 : decode c_Re_isRightHalf 3 = .ok (.bipush 6, 2) := by decide +kernel
theorem d_Re_isRightHalf_5 : decode c_Re_isRightHalf 5 = .ok (.if_icmp .ge 42, 3) := by decide +kernel
theorem d_Re_isRightHalf_8 : decode c_Re_isRightHalf 8 = .ok (.aload_n 0, 1) := by decide +kernel
theorem d_Re_isRightHalf_9 : decode c_Re_isRightHalf 9 = .ok (.bipush 32, 2) := by decide +kernel
theorem d_Re_isRightHalf_11 : decode c_Re_isRightHalf 11 = .ok (.iconst 4, 1) := by decide +kernel
theorem d_Re_isRightHalf_12 : decode c_Re_isRightHalf 12 = .ok (.iload_n 1, 1) := by decide +kernel
theorem d_Re_isRightHalf_13 : decode c_Re_isRightHalf 13 = .ok (.imul, 1) := by decide +kernel
theorem d_Re_isRightHalf_14 : decode c_Re_isRightHalf 14 = .ok (.iadd, 1) := by decide +kernel
theorem d_Re_isRightHalf_15 : decode c_Re_isRightHalf 15 = .ok (.invokevirtual 82, 3) := by decide +kernel
theorem d_Re_isRightHalf_18 : decode c_Re_isRightHalf 18 = .ok (.invokestatic 85, 3) := by decide +kernel
theorem d_Re_isRightHalf_21 : decode c_Re_isRightHalf 21 = .ok (.istore_n 2, 1) := by decide +kernel
theorem d_Re_isRightHalf_22 : decode c_Re_isRightHalf 22 = .ok (.iload_n 2, 1) := by decide +kernel
theorem d_Re_isRightHalf_23 : decode c_Re_isRightHalf 23 = .ok (.iconst (-1), 1) := by decide +kernel
theorem d_Re_isRightHalf_24 : decode c_Re_isRightHalf 24 = .ok (.if_icmp .ne 5, 3) := by decide +kernel
theorem d_Re_isRightHalf_27 : decode c_Re_isRightHalf 27 = .ok (.iconst 0, 1) := by decide +kernel
theorem d_Re_isRightHalf_28 : decode c_Re_isRightHalf 28 = .ok (.ireturn, 1) := by decide +kernel
theorem d_Re_isRightHalf_29 : decode c_Re_isRightHalf 29 = .ok (.aload_n 0, 1) := by decide +kernel
theorem d_Re_isRightHalf_30 : decode c_Re_isRightHalf 30 = .ok (.getfield 20, 3) := by decide +kernel
theorem d_Re_isRightHalf_33 : decode c_Re_isRightHalf 33 = .ok (.bipush 48, 2) := by decide +kernel
theorem d_Re_isRightHalf_35 : decode c_Re_isRightHalf 35 = .ok (.iload_n 2, 1) := by decide +kernel
theorem d_Re_isRightHalf_36 : decode c_Re_isRightHalf 36 = .ok (.iadd, 1) := by decide +kernel
theorem d_Re_isRightHalf_37 : decode c_Re_isRightHalf 37 = .ok (.invokevirtual 78, 3) := by decide +kernel
theorem d_Re_isRightHalf_40 : decode c_Re_isRightHalf 40 = .ok (.pop, 1) := by decide +kernel
theorem d_Re_isRightHalf_41 : decode c_Re_isRightHalf 41 = .ok (.iinc 1 1, 3) := by decide +kernel
theorem d_Re_isRightHalf_44 : decode c_Re_isRightHalf 44 = .ok (.goto (-42), 3) := by decide +kernel
theorem d_Re_isRightHalf_47 : decode c_Re_isRightHalf 47 = .ok (.iconst 1, 1) := by decide +kernel
theorem d_Re_isRightHalf_48 : decode c_Re_isRightHalf 48 = .ok (.ireturn, 1) := by decide +kernel
theorem d_Re_isRow_0 : decode c_Re_isRow 0 = .ok (.aload_n 0, 1) := by decide +kernel
theorem d_Re_isRow_1 : decode c_Re_isRow 1 = .ok (.getfield 9, 3) := by decide +kernel
theorem d_Re_isRow_4 : decode c_Re_isRow 4 = .ok (.invokevirtual 36, 3) := by decide +kernel
theorem d_Re_isRow_7 : decode c_Re_isRow 7 = .ok (.bipush 7, 2) := by decide +kernel
theorem d_Re_isRow_9 : decode c_Re_isRow 9 = .ok (.isub, 1) := by decide +kernel
theorem d_Re_isRow_10 : decode c_Re_isRow 10 = .ok (.istore_n 1, 1) := by decide +kernel
theorem d_Re_isRow_11 : decode c_Re_isRow 11 = .ok (.iload_n 1, 1) := by decide +kernel
theorem d_Re_isRow_12 : decode c_Re_isRow 12 = .ok (.bipush 6, 2) := by decide +kernel
theorem d_Re_isRow_14 : decode c_Re_isRow 14 = .ok (.idiv, 1) := by decide +kernel
theorem d_Re_isRow_15 : decode c_Re_isRow 15 = .ok (.istore_n 2, 1) := by decide +kernel
theorem d_Re_isRow_16 : decode c_Re_isRow 16 = .ok (.iload_n 2, 1) := by decide +kernel
theorem d_Re_isRow_17 : decode c_Re_isRow 17 = .ok (.iconst 2, 1) := by decide +kernel
theorem d_Re_isRow_18 : decode c_Re_isRow 18 = .ok (.if_icmp .lt 19, 3) := by decide +kernel
theorem d_Re_isRow_21 : decode c_Re_isRow 21 = .ok (.iload_n 1, 1) := by decide +kernel
theorem d_Re_isRow_22 : decode c_Re_isRow 22 = .ok (.iload_n 2, 1) := by decide +kernel
theorem d_Re_isRow_23 : decode c_Re_isRow 23 = .ok (.bipush 6, 2) := by decide +kernel
theorem d_Re_isRow_25 : decode c_Re_isRow 25 = .ok (.imul, 1) := by decide +kernel
theorem d_Re_isRow_26 : decode c_Re_isRow 26 = .ok (.if_icmp .ne 11, 3) := by decide +kernel
theorem d_Re_isRow_29 : decode c_Re_isRow 29 = .ok (.aload_n 0, 1) := by decide +kernel
theorem d_Re_isRow_30 : decode c_Re_isRow 30 = .ok (.iload_n 1, 1) := by decide +kernel
theorem d_Re_isRow_31 : decode c_Re_isRow 31 = .ok (.invokevirtual 97, 3) := by decide +kernel
theorem d_Re_isRow_34 : decode c_Re_isRow 34 = .ok (.ifCond .ne 5, 3) := by decide +kernel
theorem d_Re_isRow_37 : decode c_Re_isRow 37 = .ok (.iconst 0, 1) := by decide +kernel
theorem d_Re_isRow_38 : decode c_Re_isRow 38 = .ok (.ireturn, 1) := by decide +kernel
theorem d_Re_isRow_39 : decode c_Re_isRow 39 = .ok (.aload_n 0, 1) := by decide +kernel
theorem d_Re_isRow_40 : decode c_Re_isRow 40 = .ok (.iconst 0, 1) := by decide +kernel
theorem d_Re_isRow_41 : decode c_Re_isRow 41 = .ok (.invokevirtual 100, 3) := by decide +kernel
theorem d_Re_isRow_44 : decode c_Re_isRow 44 = .ok (.istore_n 3, 1) := by decide +kernel
theorem d_Re_isRow_45 : decode c_Re_isRow 45 = .ok (.iload_n 3, 1) := by decide +kernel
theorem d_Re_isRow_46 : decode c_Re_isRow 46 = .ok (.invokestatic 103, 3) := by decide +kernel
theorem d_Re_isRow_49 : decode c_Re_isRow 49 = .ok (.ifCond .ne 5, 3) := by decide +kernel
theorem d_Re_isRow_52 : decode c_Re_isRow 52 = .ok (.iconst 0, 1) := by decide +kernel
theorem d_Re_isRow_53 : decode c_Re_isRow 53 = .ok (.ireturn, 1) := by decide +kernel
theorem d_Re_isRow_54 : decode c_Re_isRow 54 = .ok (.aload_n 0, 1) := by decide +kernel
theorem d_Re_isRow_55 : decode c_Re_isRow 55 = .ok (.iload_n 3, 1) := by decide +kernel
theorem d_Re_isRow_56 : decode c_Re_isRow 56 = .ok (.bipush 103, 2) := by decide +kernel
theorem d_Re_isRow_58 : decode c_Re_isRow 58 = .ok (.isub, 1) := by decide +kernel
theorem d_Re_isRow_59 : decode c_Re_isRow 59 = .ok (.putfield 29, 3) := by decide +kernel
theorem d_Re_isRow_62 : decode c_Re_isRow 62 = .ok (.aload_n 0, 1) := by decide +kernel
theorem d_Re_isRow_63 : decode c_Re_isRow 63 = .ok (.iconst 0, 1) := by decide +kernel
theorem d_Re_isRow_64 : decode c_Re_isRow 64 = .ok (.putfield 33, 3) := by decide +kernel
theorem d_Re_isRow_67 : decode c_Re_isRow 67 = .ok (.iload_n 3, 1) := by decide +kernel
theorem d_Re_isRow_68 : decode c_Re_isRow 68 = .ok (.istore 4, 2) := by decide +kernel
theorem d_Re_isRow_70 : decode c_Re_isRow 70 = .ok (.iconst 1, 1) := by decide +kernel
theorem d_Re_isRow_71 : decode c_Re_isRow 71 = .ok (.istore 5, 2) := by decide +kernel
theorem d_Re_isRow_73 : decode c_Re_isRow 73 = .ok (.iload 5, 2) := by decide +kernel
theorem d_Re_isRow_75 : decode c_Re_isRow 75 = .ok (.iload_n 2, 1) := by decide +kernel
theorem d_Re_isRow_76 : decode c_Re_isRow 76 = .ok (.iconst 1, 1) := by decide +kernel
theorem d_Re_isRow_77 : decode c_Re_isRow 77 = .ok (.isub, 1) := by decide +kernel
theorem d_Re_isRow_78 : decode c_Re_isRow 78 = .ok (.if_icmp .ge 47, 3) := by decide +kernel
theorem d_Re_isRow_81 : decode c_Re_isRow 81 = .ok (.aload_n 0, 1) := by decide +kernel
theorem d_Re_isRow_82 : decode c_Re_isRow 82 = .ok (.bipush 6, 2) := by decide +kernel
theorem d_Re_isRow_84 : decode c_Re_isRow 84 = .ok (.iload 5, 2) := by decide +kernel
theorem d_Re_isRow_86 : decode c_Re_isRow 86 = .ok (.imul, 1) := by decide +kernel
theorem d_Re_isRow_87 : decode c_Re_isRow 87 = .ok (.invokevirtual 100, 3) := by decide +kernel
theorem d_Re_isRow_90 : decode c_Re_isRow 90 = .ok (.istore 6, 2) := by decide +kernel
theorem d_Re_isRow_92 : decode c_Re_isRow 92 = .ok (.iload 6, 2) := by decide +kernel
theorem d_Re_isRow_94 : decode c_Re_isRow 94 = .ok (.iconst (-1), 1) := by decide +kernel
theorem d_Re_isRow_95 : decode c_Re_isRow 95 = .ok (.if_icmp .eq 12, 3) := by decide +kernel
theorem d_Re_isRow_98 : decode c_Re_isRow 98 = .ok (.aload_n 0, 1) := by decide +kernel
theorem d_Re_isRow_99 : decode c_Re_isRow 99 = .ok (.iload 6, 2) := by decide +kernel
theorem d_Re_isRow_101 : decode c_Re_isRow 101 = .ok (.invokevirtual 106, 3) := by decide +kernel
theorem d_Re_isRow_104 : decode c_Re_isRow 104 = .ok (.ifCond .ne 5, 3) := by decide +kernel
theorem d_Re_isRow_107 : decode c_Re_isRow 107 = .ok (.iconst 0, 1) := by decide +kernel
theorem d_Re_isRow_108 : decode c_Re_isRow 108 = .ok (.ireturn, 1) := by decide +kernel
theorem d_Re_isRow_109 : decode c_Re_isRow 109 = .ok (.iload 4, 2) := by decide +kernel
theorem d_Re_isRow_111 : decode c_Re_isRow 111 = .ok (.iload 5, 2) := by decide +kernel
theorem d_Re_isRow_113 : decode c_Re_isRow 113 = .ok (.iload 6, 2) := by decide +kernel
theorem d_Re_isRow_115 : decode c_Re_isRow 115 = .ok (.imul, 1) := by decide +kernel
theorem d_Re_isRow_116 : decode c_Re_isRow 116 = .ok (.iadd, 1) := by decide +kernel
theorem d_Re_isRow_117 : decode c_Re_isRow 117 = .ok (.istore 4, 2) := by decide +kernel
theorem d_Re_isRow_119 : decode c_Re_isRow 119 = .ok (.iinc 5 1, 3) := by decide +kernel
theorem d_Re_isRow_122 : decode c_Re_isRow 122 = .ok (.goto (-49), 3) := by decide +kernel
theorem d_Re_isRow_125 : decode c_Re_isRow 125 = .ok (.aload_n 0, 1) := by decide +kernel
theorem d_Re_isRow_126 : decode c_Re_isRow 126 = .ok (.getfield 33, 3) := by decide +kernel
theorem d_Re_isRow_129 : decode c_Re_isRow 129 = .ok (.ifCond .ne 23, 3) := by decide +kernel
theorem d_Re_isRow_132 : decode c_Re_isRow 132 = .ok (.aload_n 0, 1) := by decide +kernel
theorem d_Re_isRow_133 : decode c_Re_isRow 133 = .ok (.iload_n 1, 1) := by decide +kernel
theorem d_Re_isRow_134 : decode c_Re_isRow 134 = .ok (.bipush 6, 2) := by decide +kernel
theorem d_Re_isRow_136 : decode c_Re_isRow 136 = .ok (.isub, 1) := by decide +kernel
theorem d_Re_isRow_137 : decode c_Re_isRow 137 = .ok (.invokevirtual 100, 3) := by decide +kernel
theorem d_Re_isRow_140 : decode c_Re_isRow 140 = .ok (.iload 4, 2) := by decide +kernel
theorem d_Re_isRow_142 : decode c_Re_isRow 142 = .ok (.bipush 103, 2) := by decide +kernel
theorem d_Re_isRow_144 : decode c_Re_isRow 144 = .ok (.irem, 1) := by decide +kernel
theorem d_Re_isRow_145 : decode c_Re_isRow 145 = .ok (.if_icmp .ne 7, 3) := by decide +kernel
theorem d_Re_isRow_148 : decode c_Re_isRow 148 = .ok (.iconst 1, 1) := by decide +kernel
theorem d_Re_isRow_149 : decode c_Re_isRow 149 = .ok (.goto 4, 3) := by decide +kernel
theorem d_Re_isRow_152 : decode c_Re_isRow 152 = .ok (.iconst 0, 1) := by decide +kernel
theorem d_Re_isRow_153 : decode c_Re_isRow 153 = .ok (.ireturn, 1) := by decide +kernel
theorem d_Re_isTold_0 : decode c_Re_isTold 0 = .ok (.aload_n 0, 1) := by decide +kernel
theorem d_Re_isTold_1 : decode c_Re_isTold 1 = .ok (.getfield 33, 3) := by decide +kernel
theorem d_Re_isTold_4 : decode c_Re_isTold 4 = .ok (.ifCond .eq 41, 3) := by decide +kernel
theorem d_Re_isTold_7 : decode c_Re_isTold 7 = .ok (.aload_n 0, 1) := by decide +kernel
theorem d_Re_isTold_8 : decode c_Re_isTold 8 = .ok (.iconst 0, 1) := by decide +kernel
theorem d_Re_isTold_9 : decode c_Re_isTold 9 = .ok (.putfield 33, 3) := by decide +kernel
theorem d_Re_isTold_12 : decode c_Re_isTold 12 = .ok (.iload_n 1, 1) := by decide +kernel
theorem d_Re_isTold_13 : decode c_Re_isTold 13 = .ok (.bipush 95, 2) := by decide +kernel
theorem d_Re_isTold_15 : decode c_Re_isTold 15 = .ok (.if_icmp .gt 28, 3) := by decide +kernel
theorem d_Re_isTold_18 : decode c_Re_isTold 18 = .ok (.aload_n 0, 1) := by decide +kernel
theorem d_Re_isTold_19 : decode c_Re_isTold 19 = .ok (.getfield 20, 3) := by decide +kernel
theorem d_Re_isTold_22 : decode c_Re_isTold 22 = .ok (.aload_n 0, 1) := by decide +kernel
theorem d_Re_isTold_23 : decode c_Re_isTold 23 = .ok (.getfield 29, 3) := by decide +kernel
theorem d_Re_isTold_26 : decode c_Re_isTold 26 = .ok (.invokestatic 109, 3) := by decide +kernel
theorem d_Re_isTold_29 : decode c_Re_isTold 29 = .ok (.iload_n 1, 1) := by decide +kernel
theorem d_Re_isTold_30 : decode c_Re_isTold 30 = .ok (.invokestatic 112, 3) := by decide +kernel
theorem d_Re_isTold_33 : decode c_Re_isTold 33 = .ok (.invokevirtual 78, 3) := by decide +kernel
theorem d_Re_isTold_36 : decode c_Re_isTold 36 = .ok (.ifCond .eq 7, 3) := by decide +kernel
theorem d_Re_isTold_39 : decode c_Re_isTold 39 = .ok (.iconst 1, 1) := by decide +kernel
theorem d_Re_isTold_40 : decode c_Re_isTold 40 = .ok (.goto 4, 3) := by decide +kernel
theorem d_Re_isTold_43 : decode c_Re_isTold 43 = .ok (.iconst 0, 1) := by decide +kernel
theorem d_Re_isTold_44 : decode c_Re_isTold 44 = .ok (.ireturn, 1) := by decide +kernel
theorem d_Re_isTold_45 : decode c_Re_isTold 45 = .ok (.iload_n 1, 1) := by decide +kernel
theorem d_Re_isTold_46 : decode c_Re_isTold 46 = .ok (.bipush 102, 2) := by decide +kernel
theorem d_Re_isTold_48 : decode c_Re_isTold 48 = .ok (.if_icmp .ne 14, 3) := by decide +kernel
theorem d_Re_isTold_51 : decode c_Re_isTold 51 = .ok (.aload_n 0, 1) := by decide +kernel
theorem d_Re_isTold_52 : decode c_Re_isTold 52 = .ok (.getfield 20, 3) := by decide +kernel
theorem d_Re_isTold_55 : decode c_Re_isTold 55 = .ok (.sipush 128, 3) := by decide +kernel
theorem d_Re_isTold_58 : decode c_Re_isTold 58 = .ok (.invokevirtual 78, 3) := by decide +kernel
theorem d_Re_isTold_61 : decode c_Re_isTold 61 = .ok (.ireturn, 1) := by decide +kernel
theorem d_Re_isTold_62 : decode c_Re_isTold 62 = .ok (.aload_n 0, 1) := by decide +kernel
theorem d_Re_isTold_63 : decode c_Re_isTold 63 = .ok (.getfield 29, 3) := by decide +kernel
theorem d_Re_isTold_66 : decode c_Re_isTold 66 = .ok (.iconst 2, 1) := by decide +kernel
theorem d_Re_isTold_67 : decode c_Re_isTold 67 = .ok (.if_icmp .ne 49, 3) := by decide +kernel
theorem d_Re_isTold_70 : decode c_Re_isTold 70 = .ok (.iload_n 1, 1) := by decide +kernel
theorem d_Re_isTold_71 : decode c_Re_isTold 71 = .ok (.bipush 99, 2) := by decide +kernel
theorem d_Re_isTold_73 : decode c_Re_isTold 73 = .ok (.if_icmp .gt 43, 3) := by decide +kernel
theorem d_Re_isTold_76 : decode c_Re_isTold 76 = .ok (.aload_n 0, 1) := by decide +kernel
theorem d_Re_isTold_77 : decode c_Re_isTold 77 = .ok (.getfield 20, 3) := by decide +kernel
theorem d_Re_isTold_80 : decode c_Re_isTold 80 = .ok (.bipush 48, 2) := by decide +kernel
theorem d_Re_isTold_82 : decode c_Re_isTold 82 = .ok (.iload_n 1, 1) := by decide +kernel
theorem d_Re_isTold_83 : decode c_Re_isTold 83 = .ok (.bipush 10, 2) := by decide +kernel
theorem d_Re_isTold_85 : decode c_Re_isTold 85 = .ok (.idiv, 1) := by decide +kernel
theorem d_Re_isTold_86 : decode c_Re_isTold 86 = .ok (.iadd, 1) := by decide +kernel
theorem d_Re_isTold_87 : decode c_Re_isTold 87 = .ok (.invokevirtual 78, 3) := by decide +kernel
theorem d_Re_isTold_90 : decode c_Re_isTold 90 = .ok (.ifCond .eq 24, 3) := by decide +kernel
theorem d_Re_isTold_93 : decode c_Re_isTold 93 = .ok (.aload_n 0, 1) := by decide +kernel
theorem d_Re_isTold_94 : decode c_Re_isTold 94 = .ok (.getfield 20, 3) := by decide +kernel
theorem d_Re_isTold_97 : decode c_Re_isTold 97 = .ok (.bipush 48, 2) := by decide +kernel
theorem d_Re_isTold_99 : decode c_Re_isTold 99 = .ok (.iload_n 1, 1) := by decide +kernel
theorem d_Re_isTold_100 : decode c_Re_isTold 100 = .ok (.bipush 10, 2) := by decide +kernel
theorem d_Re_isTold_102 : decode c_Re_isTold 102 = .ok (.irem, 1) := by decide +kernel
theorem d_Re_isTold_103 : decode c_Re_isTold 103 = .ok (.iadd, 1) := by decide +kernel
theorem d_Re_isTold_104 : decode c_Re_isTold 104 = .ok (.invokevirtual 78, 3) := by decide +kernel
theorem d_Re_isTold_107 : decode c_Re_isTold 107 = .ok (.ifCond .eq 7, 3) := by decide +kernel
theorem d_Re_isTold_110 : decode c_Re_isTold 110 = .ok (.iconst 1, 1) := by decide +kernel
theorem d_Re_isTold_111 : decode c_Re_isTold 111 = .ok (.goto 4, 3) := by decide +kernel
theorem d_Re_isTold_114 : decode c_Re_isTold 114 = .ok (.iconst 0, 1) := by decide +kernel
theorem d_Re_isTold_115 : decode c_Re_isTold 115 = .ok (.ireturn, 1) := by decide +kernel
theorem d_Re_isTold_116 : decode c_Re_isTold 116 = .ok (.iload_n 1, 1) := by decide +kernel
theorem d_Re_isTold_117 : decode c_Re_isTold 117 = .ok (.bipush 95, 2) := by decide +kernel
theorem d_Re_isTold_119 : decode c_Re_isTold 119 = .ok (.if_icmp .gt 19, 3) := by decide +kernel
theorem d_Re_isTold_122 : decode c_Re_isTold 122 = .ok (.aload_n 0, 1) := by decide +kernel
theorem d_Re_isTold_123 : decode c_Re_isTold 123 = .ok (.getfield 20, 3) := by decide +kernel
theorem d_Re_isTold_126 : decode c_Re_isTold 126 = .ok (.aload_n 0, 1) := by decide +kernel
theorem d_Re_isTold_127 : decode c_Re_isTold 127 = .ok (.getfield 29, 3) := by decide +kernel
theorem d_Re_isTold_130 : decode c_Re_isTold 130 = .ok (.iload_n 1, 1) := by decide +kernel
theorem d_Re_isTold_131 : decode c_Re_isTold 131 = .ok (.invokestatic 112, 3) := by decide +kernel
theorem d_Re_isTold_134 : decode c_Re_isTold 134 = .ok (.invokevirtual 78, 3) := by decide +kernel
theorem d_Re_isTold_137 : decode c_Re_isTold 137 = .ok (.ireturn, 1) := by decide +kernel
theorem d_Re_isTold_138 : decode c_Re_isTold 138 = .ok (.iload_n 1, 1) := by decide +kernel
theorem d_Re_isTold_139 : decode c_Re_isTold 139 = .ok (.bipush 98, 2) := by decide +kernel
theorem d_Re_isTold_141 : decode c_Re_isTold 141 = .ok (.if_icmp .ne 10, 3) := by decide +kernel
theorem d_Re_isTold_144 : decode c_Re_isTold 144 = .ok (.aload_n 0, 1) := by decide +kernel
theorem d_Re_isTold_145 : decode c_Re_isTold 145 = .ok (.iconst 1, 1) := by decide +kernel
theorem d_Re_isTold_146 : decode c_Re_isTold 146 = .ok (.putfield 33, 3) := by decide +kernel
theorem d_Re_isTold_149 : decode c_Re_isTold 149 = .ok (.iconst 1, 1) := by decide +kernel
theorem d_Re_isTold_150 : decode c_Re_isTold 150 = .ok (.ireturn, 1) := by decide +kernel
theorem d_Re_isTold_151 : decode c_Re_isTold 151 = .ok (.aload_n 0, 1) := by decide +kernel
theorem d_Re_isTold_152 : decode c_Re_isTold 152 = .ok (.iload_n 1, 1) := by decide +kernel
theorem d_Re_isTold_153 : decode c_Re_isTold 153 = .ok (.invokevirtual 115, 3) := by decide +kernel
theorem d_Re_isTold_156 : decode c_Re_isTold 156 = .ok (.ireturn, 1) := by decide +kernel
theorem d_Re_isSwitched_0 : decode c_Re_isSwitched 0 = .ok (.aload_n 0, 1) := by decide +kernel
theorem d_Re_isSwitched_1 : decode c_Re_isSwitched 1 = .ok (.getfield 29, 3) := by decide +kernel
theorem d_Re_isSwitched_4 : decode c_Re_isSwitched 4 = .ok (.iload_n 1, 1) := by decide +kernel
theorem d_Re_isSwitched_5 : decode c_Re_isSwitched 5 = .ok (.invokestatic 118, 3) := by decide +kernel
theorem d_Re_isSwitched_8 : decode c_Re_isSwitched 8 = .ok (.istore_n 2, 1) := by decide +kernel
theorem d_Re_isSwitched_9 : decode c_Re_isSwitched 9 = .ok (.iload_n 2, 1) := by decide +kernel
theorem d_Re_isSwitched_10 : decode c_Re_isSwitched 10 = .ok (.iconst (-1), 1) := by decide +kernel
theorem d_Re_isSwitched_11 : decode c_Re_isSwitched 11 = .ok (.if_icmp .ne 5, 3) := by decide +kernel
theorem d_Re_isSwitched_14 : decode c_Re_isSwitched 14 = .ok (.iconst 0, 1) := by decide +kernel
theorem d_Re_isSwitched_15 : decode c_Re_isSwitched 15 = .ok (.ireturn, 1) := by decide +kernel
theorem d_Re_isSwitched_16 : decode c_Re_isSwitched 16 = .ok (.aload_n 0, 1) := by decide +kernel
theorem d_Re_isSwitched_17 : decode c_Re_isSwitched 17 = .ok (.iload_n 2, 1) := by decide +kernel
theorem d_Re_isSwitched_18 : decode c_Re_isSwitched 18 = .ok (.putfield 29, 3) := by decide +kernel
theorem d_Re_isSwitched_21 : decode c_Re_isSwitched 21 = .ok (.iconst 1, 1) := by decide +kernel
theorem d_Re_isSwitched_22 : decode c_Re_isSwitched 22 = .ok (.ireturn, 1) := by decide +kernel
theorem d_Re_figureCountsAt_0 : decode c_Re_figureCountsAt 0 = .ok (.aload_n 0, 1) := by decide +kernel
theorem d_Re_figureCountsAt_1 : decode c_Re_figureCountsAt 1 = .ok (.iload_n 1, 1) := by decide +kernel
theorem d_Re_figureCountsAt_2 : decode c_Re_figureCountsAt 2 = .ok (.iconst 4, 1) := by decide +kernel
theorem d_Re_figureCountsAt_3 : decode c_Re_figureCountsAt 3 = .ok (.invokevirtual 68, 3) := by decide +kernel
theorem d_Re_figureCountsAt_6 : decode c_Re_figureCountsAt 6 = .ok (.istore_n 2, 1) := by decide +kernel
theorem d_Re_figureCountsAt_7 : decode c_Re_figureCountsAt 7 = .ok (.aload_n 0, 1) := by decide +kernel
theorem d_Re_figureCountsAt_8 : decode c_Re_figureCountsAt 8 = .ok (.iload_n 1, 1) := by decide +kernel
theorem d_Re_figureCountsAt_9 : decode c_Re_figureCountsAt 9 = .ok (.iconst 4, 1) := by decide +kernel
theorem d_Re_figureCountsAt_10 : decode c_Re_figureCountsAt 10 = .ok (.bipush 7, 2) := by decide +kernel
theorem d_Re_figureCountsAt_12 : decode c_Re_figureCountsAt 12 = .ok (.iload_n 2, 1) := by decide +kernel
theorem d_Re_figureCountsAt_13 : decode c_Re_figureCountsAt 13 = .ok (.invokevirtual 74, 3) := by decide +kernel
theorem d_Re_figureCountsAt_16 : decode c_Re_figureCountsAt 16 = .ok (.ireturn, 1) := by decide +kernel
theorem d_Re_symbolAt_0 : decode c_Re_symbolAt 0 = .ok (.aload_n 0, 1) := by decide +kernel
theorem d_Re_symbolAt_1 : decode c_Re_symbolAt 1 = .ok (.iload_n 1, 1) := by decide +kernel
theorem d_Re_symbolAt_2 : decode c_Re_symbolAt 2 = .ok (.bipush 6, 2) := by decide +kernel
theorem d_Re_symbolAt_4 : decode c_Re_symbolAt 4 = .ok (.invokevirtual 68, 3) := by decide +kernel
theorem d_Re_symbolAt_7 : decode c_Re_symbolAt 7 = .ok (.istore_n 2, 1) := by decide +kernel
theorem d_Re_symbolAt_8 : decode c_Re_symbolAt 8 = .ok (.aload_n 0, 1) := by decide +kernel
theorem d_Re_symbolAt_9 : decode c_Re_symbolAt 9 = .ok (.iload_n 1, 1) := by decide +kernel
theorem d_Re_symbolAt_10 : decode c_Re_symbolAt 10 = .ok (.bipush 6, 2) := by decide +kernel
theorem d_Re_symbolAt_12 : decode c_Re_symbolAt 12 = .ok (.bipush 11, 2) := by decide +kernel
theorem d_Re_symbolAt_14 : decode c_Re_symbolAt 14 = .ok (.iload_n 2, 1) := by decide +kernel
theorem d_Re_symbolAt_15 : decode c_Re_symbolAt 15 = .ok (.invokevirtual 74, 3) := by decide +kernel
theorem d_Re_symbolAt_18 : decode c_Re_symbolAt 18 = .ok (.invokestatic 121, 3) := by decide +kernel
theorem d_Re_symbolAt_21 : decode c_Re_symbolAt 21 = .ok (.ireturn, 1) := by decide +kernel
theorem d_Re_isLastAt_0 : decode c_Re_isLastAt 0 = .ok (.aload_n 0, 1) := by decide +kernel
theorem d_Re_isLastAt_1 : decode c_Re_isLastAt 1 = .ok (.iload_n 1, 1) := by decide +kernel
theorem d_Re_isLastAt_2 : decode c_Re_isLastAt 2 = .ok (.bipush 7, 2) := by decide +kernel
theorem d_Re_isLastAt_4 : decode c_Re_isLastAt 4 = .ok (.invokevirtual 68, 3) := by decide +kernel
theorem d_Re_isLastAt_7 : decode c_Re_isLastAt 7 = .ok (.istore_n 2, 1) := by decide +kernel
theorem d_Re_isLastAt_8 : decode c_Re_isLastAt 8 = .ok (.aload_n 0, 1) := by decide +kernel
theorem d_Re_isLastAt_9 : decode c_Re_isLastAt 9 = .ok (.iload_n 1, 1) := by decide +kernel
theorem d_Re_isLastAt_10 : decode c_Re_isLastAt 10 = .ok (.bipush 7, 2) := by decide +kernel
theorem d_Re_isLastAt_12 : decode c_Re_isLastAt 12 = .ok (.bipush 13, 2) := by decide +kernel
theorem d_Re_isLastAt_14 : decode c_Re_isLastAt 14 = .ok (.iload_n 2, 1) := by decide +kernel
theorem d_Re_isLastAt_15 : decode c_Re_isLastAt 15 = .ok (.invokevirtual 74, 3) := by decide +kernel
theorem d_Re_isLastAt_18 : decode c_Re_isLastAt 18 = .ok (.ldc 124, 2) := by decide +kernel
theorem d_Re_isLastAt_20 : decode c_Re_isLastAt 20 = .ok (.if_icmp .ne 7, 3) := by decide +kernel
theorem d_Re_isLastAt_23 : decode c_Re_isLastAt 23 = .ok (.iconst 1, 1) := by decide +kernel
theorem d_Re_isLastAt_24 : decode c_Re_isLastAt 24 = .ok (.goto 4, 3) := by decide +kernel
theorem d_Re_isLastAt_27 : decode c_Re_isLastAt 27 = .ok (.iconst 0, 1) := by decide +kernel
theorem d_Re_isLastAt_28 : decode c_Re_isLastAt 28 = .ok (.ireturn, 1) := by decide +kernel
theorem d_Re_sumOf_0 : decode c_Re_sumOf 0 = .ok (.iconst 0, 1) := by decide +kernel
theorem d_Re_sumOf_1 : decode c_Re_sumOf 1 = .ok (.istore_n 3, 1) := by decide +kernel
theorem d_Re_sumOf_2 : decode c_Re_sumOf 2 = .ok (.iconst 0, 1) := by decide +kernel
theorem d_Re_sumOf_3 : decode c_Re_sumOf 3 = .ok (.istore 4, 2) := by decide +kernel
theorem d_Re_sumOf_5 : decode c_Re_sumOf 5 = .ok (.iload 4, 2) := by decide +kernel
theorem d_Re_sumOf_7 : decode c_Re_sumOf 7 = .ok (.iload_n 2, 1) := by decide +kernel
theorem d_Re_sumOf_8 : decode c_Re_sumOf 8 = .ok (.if_icmp .ge 23, 3) := by decide +kernel
theorem d_Re_sumOf_11 : decode c_Re_sumOf 11 = .ok (.iload_n 3, 1) := by decide +kernel
theorem d_Re_sumOf_12 : decode c_Re_sumOf 12 = .ok (.aload_n 0, 1) := by decide +kernel
theorem d_Re_sumOf_13 : decode c_Re_sumOf 13 = .ok (.getfield 9, 3) := by decide +kernel
theorem d_Re_sumOf_16 : decode c_Re_sumOf 16 = .ok (.iload_n 1, 1) := by decide +kernel
theorem d_Re_sumOf_17 : decode c_Re_sumOf 17 = .ok (.iload 4, 2) := by decide +kernel
theorem d_Re_sumOf_19 : decode c_Re_sumOf 19 = .ok (.iadd, 1) := by decide +kernel
theorem d_Re_sumOf_20 : decode c_Re_sumOf 20 = .ok (.invokevirtual 40, 3) := by decide +kernel
theorem d_Re_sumOf_23 : decode c_Re_sumOf 23 = .ok (.iadd, 1) := by decide +kernel
theorem d_Re_sumOf_24 : decode c_Re_sumOf 24 = .ok (.istore_n 3, 1) := by decide +kernel
theorem d_Re_sumOf_25 : decode c_Re_sumOf 25 = .ok (.iinc 4 1, 3) := by decide +kernel
theorem d_Re_sumOf_28 : decode c_Re_sumOf 28 = .ok (.goto (-23), 3) := by decide +kernel
theorem d_Re_sumOf_31 : decode c_Re_sumOf 31 = .ok (.iload_n 3, 1) := by decide +kernel
theorem d_Re_sumOf_32 : decode c_Re_sumOf 32 = .ok (.ireturn, 1) := by decide +kernel
theorem d_Re_countsOf_0 : decode c_Re_countsOf 0 = .ok (.iload 4, 2) := by decide +kernel
theorem d_Re_countsOf_2 : decode c_Re_countsOf 2 = .ok (.iconst 1, 1) := by decide +kernel
theorem d_Re_countsOf_3 : decode c_Re_countsOf 3 = .ok (.if_icmp .ge 5, 3) := by decide +kernel
theorem d_Re_countsOf_6 : decode c_Re_countsOf 6 = .ok (.iconst 0, 1) := by decide +kernel
theorem d_Re_countsOf_7 : decode c_Re_countsOf 7 = .ok (.ireturn, 1) := by decide +kernel
theorem d_Re_countsOf_8 : decode c_Re_countsOf 8 = .ok (.iconst 0, 1) := by decide +kernel
theorem d_Re_countsOf_9 : decode c_Re_countsOf 9 = .ok (.istore 5, 2) := by decide +kernel
theorem d_Re_countsOf_11 : decode c_Re_countsOf 11 = .ok (.iconst 0, 1) := by decide +kernel
theorem d_Re_countsOf_12 : decode c_Re_countsOf 12 = .ok (.istore 6, 2) := by decide +kernel
theorem d_Re_countsOf_14 : decode c_Re_countsOf 14 = .ok (.iload 6, 2) := by decide +kernel
theorem d_Re_countsOf_16 : decode c_Re_countsOf 16 = .ok (.iload_n 2, 1) := by decide +kernel
theorem d_Re_countsOf_17 : decode c_Re_countsOf 17 = .ok (.if_icmp .ge 58, 3) := by decide +kernel
theorem d_Re_countsOf_20 : decode c_Re_countsOf 20 = .ok (.iconst 2, 1) := by decide +kernel
theorem d_Re_countsOf_21 : decode c_Re_countsOf 21 = .ok (.iload_n 3, 1) := by decide +kernel
theorem d_Re_countsOf_22 : decode c_Re_countsOf 22 = .ok (.imul, 1) := by decide +kernel
theorem d_Re_countsOf_23 : decode c_Re_countsOf 23 = .ok (.aload_n 0, 1) := by decide +kernel
theorem d_Re_countsOf_24 : decode c_Re_countsOf 24 = .ok (.getfield 9, 3) := by decide +kernel
theorem d_Re_countsOf_27 : decode c_Re_countsOf 27 = .ok (.iload_n 1, 1) := by decide +kernel
theorem d_Re_countsOf_28 : decode c_Re_countsOf 28 = .ok (.iload 6, 2) := by decide +kernel
theorem d_Re_countsOf_30 : decode c_Re_countsOf 30 = .ok (.iadd, 1) := by decide +kernel
theorem d_Re_countsOf_31 : decode c_Re_countsOf 31 = .ok (.invokevirtual 40, 3) := by decide +kernel
theorem d_Re_countsOf_34 : decode c_Re_countsOf 34 = .ok (.imul, 1) := by decide +kernel
theorem d_Re_countsOf_35 : decode c_Re_countsOf 35 = .ok (.iload 4, 2) := by decide +kernel
theorem d_Re_countsOf_37 : decode c_Re_countsOf 37 = .ok (.iadd, 1) := by decide +kernel
theorem d_Re_countsOf_38 : decode c_Re_countsOf 38 = .ok (.iconst 2, 1) := by decide +kernel
theorem d_Re_countsOf_39 : decode c_Re_countsOf 39 = .ok (.iload 4, 2) := by decide +kernel
theorem d_Re_countsOf_41 : decode c_Re_countsOf 41 = .ok (.imul, 1) := by decide +kernel
theorem d_Re_countsOf_42 : decode c_Re_countsOf 42 = .ok (.idiv, 1) := by decide +kernel
theorem d_Re_countsOf_43 : decode c_Re_countsOf 43 = .ok (.istore 7, 2) := by decide +kernel
theorem d_Re_countsOf_45 : decode c_Re_countsOf 45 = .ok (.iload 7, 2) := by decide +kernel
theorem d_Re_countsOf_47 : decode c_Re_countsOf 47 = .ok (.iconst 1, 1) := by decide +kernel
theorem d_Re_countsOf_48 : decode c_Re_countsOf 48 = .ok (.if_icmp .lt 9, 3) := by decide +kernel
theorem d_Re_countsOf_51 : decode c_Re_countsOf 51 = .ok (.iload 7, 2) := by decide +kernel
theorem d_Re_countsOf_53 : decode c_Re_countsOf 53 = .ok (.iconst 4, 1) := by decide +kernel
theorem d_Re_countsOf_54 : decode c_Re_countsOf 54 = .ok (.if_icmp .le 5, 3) := by decide +kernel
theorem d_Re_countsOf_57 : decode c_Re_countsOf 57 = .ok (.iconst 0, 1) := by decide +kernel
theorem d_Re_countsOf_58 : decode c_Re_countsOf 58 = .ok (.ireturn, 1) := by decide +kernel
theorem d_Re_countsOf_59 : decode c_Re_countsOf 59 = .ok (.bipush 10, 2) := by decide +kernel
theorem d_Re_countsOf_61 : decode c_Re_countsOf 61 = .ok (.iload 5, 2) := by decide +kernel
theorem d_Re_countsOf_63 : decode c_Re_countsOf 63 = .ok (.imul, 1) := by decide +kernel
theorem d_Re_countsOf_64 : decode c_Re_countsOf 64 = .ok (.iload 7, 2) := by decide +kernel
theorem d_Re_countsOf_66 : decode c_Re_countsOf 66 = .ok (.iadd, 1) := by decide +kernel
theorem d_Re_countsOf_67 : decode c_Re_countsOf 67 = .ok (.istore 5, 2) := by decide +kernel
theorem d_Re_countsOf_69 : decode c_Re_countsOf 69 = .ok (.iinc 6 1, 3) := by decide +kernel
theorem d_Re_countsOf_72 : decode c_Re_countsOf 72 = .ok (.goto (-58), 3) := by decide +kernel
theorem d_Re_countsOf_75 : decode c_Re_countsOf 75 = .ok (.iload 5, 2) := by decide +kernel
theorem d_Re_countsOf_77 : decode c_Re_countsOf 77 = .ok (.ireturn, 1) := by decide +kernel
end
section
-- LineCodes$Reader.sumOf(II)I
def w_Re_sumOf_5 (post : Int32 → Prop) (v_strip_count : Int32) (f_strip_items : Nat → Int32) (x1 : Int32) (x2 : Int32) : Nat → Int32 → Int32 → Prop
  | 0, _, _ => False
  | n + 1, y3, y4 => (x2 ≤ y4 → post y3) ∧ (¬ x2 ≤ y4 → w_It_at (fun r2 => w_Re_sumOf_5 post v_strip_count f_strip_items x1 x2 n (y3 + r2) (y4 + 1)) 800 v_strip_count f_strip_items (x1 + y4))
def w_Re_sumOf (post : Int32 → Prop) (v_strip_count : Int32) (f_strip_items : Nat → Int32) (x1 : Int32) (x2 : Int32) : Prop := ∃ n, w_Re_sumOf_5 post v_strip_count f_strip_items x1 x2 n 0 0
abbrev rm_Re_sumOf : Room := { frames := 1, cells := 0, slots := 0, locals := 21 }
set_option maxHeartbeats 4000000 in
set_option maxRecDepth 100000 in
theorem lp_Re_sumOf_5 (l : Launch) (D : va_G) (Z : (Nat → Prop) → State → Heap → Prop) (hz : zk Z) (ad : Nat → Nat) (hk : zs Z ad) {p : Program} {e : Env} {s : State} {m : MethodId} {args : Array Value} {below : List Frame} {meth : Method} {c : Code} (a_this : Nat) (a_strip : Nat) (a_strip_items : Nat) (a_told : Nat) (a_told_items : Nat) (k_strip_items : ClassId) (k_told_items : ClassId) (v_fromBack : Int32) (v_set : Int32) (v_shifted : Int32) (v_strip_count : Int32) (f_strip_items : Nat → Int32) (v_told_count : Int32) (f_told_items : Nat → Int32) (x1 : Int32) (x2 : Int32) {post : Int32 → Prop} (hx : p.tables.exec = Jvm.exec) (hb : c.code = c_Re_sumOf) (hml : c.maxLocals = 5) (hr : meth.sig.returnType = (some .int)) (hts : ∀ w ∈ tb, w.before args s = true) (hown : s.vm.findClass R_Re = some m.cls) (hlocks : meth.locks = false) (hK : va_K D vwCl [(k_strip_items, .int), (k_told_items, .int)] s) (hZ : Z (fun _ => False) s s.heap) (hP : va_P D vwCl [(a_this, .inr (2, [.ref a_strip, .ref a_told, .int v_fromBack, .int v_set, .int v_shifted])), (a_strip, .inr (0, [.ref a_strip_items, .int v_strip_count])), (a_strip_items, .inl (k_strip_items, 800, .inl f_strip_items)), (a_told, .inr (0, [.ref a_told_items, .int v_told_count])), (a_told_items, .inl (k_told_items, 260, .inl f_told_items))] s.heap) (hS : va_S (fun _ => False) s.heap s.heap []) : ∀ (n : Nat) (y3 : Int32) (y4 : Int32), w_Re_sumOf_5 post v_strip_count f_strip_items x1 x2 n y3 y4 → ∀ ls : Array Slot, lv_has ls 5 [(0, .ref a_this), (1, .int x1), (2, .int x2), (3, .int y3), (4, .int y4)] → W p l e (headSpec ws_Re_sumOf rm_Re_sumOf).room s m args below meth c s.heap [] 0 0 (MQ below (vp_Si post) args s 0 0 (fun _ => False)) (F0 m 5 ls []) := by
  intro n
  induction n with
  | zero =>
    intro y3 y4 hw
    unfold w_Re_sumOf_5 at hw
    exact hw.elim
  | succ n ih =>
    intro y3 y4 hw ls hl
    unfold w_Re_sumOf_5 at hw
    refine lv_iload hx hb d_Re_sumOf_5 (lv_at hl 4 rfl) ?_
    refine lv_iload_n hx hb d_Re_sumOf_7 rfl (lv_at hl 2 rfl) ?_
    refine lv_icmp_ge (tgt := 31) hx hb d_Re_sumOf_8 (by decide) (fun c1 => ?_) (fun c1 => ?_)
    · have hw := hw.1 c1
      refine lv_iload_n hx hb d_Re_sumOf_31 rfl (lv_at hl 3 rfl) ?_
      exact W.iret (v := y3) hx hb hr (fun t ht hW => ⟨y3, rfl, hw, ht⟩) hS.2.2 d_Re_sumOf_32
    · have hw := hw.2 c1
      refine lv_iload_n hx hb d_Re_sumOf_11 rfl (lv_at hl 3 rfl) ?_
      refine lv_aload_n hx hb d_Re_sumOf_12 rfl (lv_at hl 0 rfl) ?_
      refine va_get (D := D) (ci := 2) (v := .ref a_strip) (C := R_Re) (T := T_Re) (N := 5) hx hb hts in_Re hown hK hP 0 rfl rfl 0 (by decide) (hts _ mm_105) (fun _ h9 => h9) rfl d_Re_sumOf_13 ?_
      refine lv_iload_n hx hb d_Re_sumOf_16 rfl (lv_at hl 1 rfl) ?_
      refine lv_iload hx hb d_Re_sumOf_17 (lv_at hl 4 rfl) ?_
      refine lv_iadd hx hb d_Re_sumOf_19 ?_
      refine k_roVi (As := [.int (x1 + y4)]) (rest := [.int y3]) hz [1, 2] [0] 1 0 ⟨hx, hb, hml, hown, hts⟩ (met_It_at l D Z hz ad hk a_strip a_strip_items k_strip_items 800 v_strip_count f_strip_items (x1 + y4) hw) (cwV 1 hts (g_V mm_273 mm_167 mm_168 mm_42 mm_169) rfl rfl rfl hd_It_at ⟨Nat.le_of_ble_eq_true rfl, Nat.le_of_ble_eq_true rfl⟩) hP hK hZ hS rfl rfl rfl rfl rfl hl.1 rfl (Nat.le_of_ble_eq_true rfl) d_Re_sumOf_20 ⟨Nat.le_of_ble_eq_true rfl, Nat.le_of_ble_eq_true rfl⟩ (fun r2 hw => ?_)
      refine lv_iadd hx hb d_Re_sumOf_23 ?_
      refine lv_istore_n (lv' := [(3, .int (y3 + r2)), (0, .ref a_this), (1, .int x1), (2, .int x2), (4, .int y4)]) hx hb d_Re_sumOf_24 rfl hl (by decide) rfl (fun ls hl => ?_)
      refine lv_iinc (v := (y4 + 1)) (lv' := [(4, .int (y4 + 1)), (3, .int (y3 + r2)), (0, .ref a_this), (1, .int x1), (2, .int x2)]) hx hb d_Re_sumOf_25 hl (k := 4) rfl rfl (by decide) rfl (fun ls hl => ?_)
      refine lv_goto (tgt := 5) hx hb d_Re_sumOf_28 (by decide) ?_
      exact ih (y3 + r2) (y4 + 1) hw ls (lv_sub hl [2, 3, 4, 1, 0] rfl)
set_option maxHeartbeats 4000000 in
set_option maxRecDepth 100000 in
theorem met_Re_sumOf (l : Launch) (D : va_G) (Z : (Nat → Prop) → State → Heap → Prop) (hz : zk Z) (ad : Nat → Nat) (hk : zs Z ad) (a_this : Nat) (a_strip : Nat) (a_strip_items : Nat) (a_told : Nat) (a_told_items : Nat) (k_strip_items : ClassId) (k_told_items : ClassId) (v_fromBack : Int32) (v_set : Int32) (v_shifted : Int32) (v_strip_count : Int32) (f_strip_items : Nat → Int32) (v_told_count : Int32) (f_told_items : Nat → Int32) (x1 : Int32) (x2 : Int32) {post : Int32 → Prop} (hw : w_Re_sumOf post v_strip_count f_strip_items x1 x2) : Met l y_Re_sumOf ws_Re_sumOf rm_Re_sumOf (va_Pc [.ref a_this, .int x1, .int x2] (ro_ D vwCl [(k_strip_items, .int), (k_told_items, .int)] [(a_this, .inr (2, [.ref a_strip, .ref a_told, .int v_fromBack, .int v_set, .int v_shifted])), (a_strip, .inr (0, [.ref a_strip_items, .int v_strip_count])), (a_strip_items, .inl (k_strip_items, 800, .inl f_strip_items)), (a_told, .inr (0, [.ref a_told_items, .int v_told_count])), (a_told_items, .inl (k_told_items, 260, .inl f_told_items))] (Z))) (vp_Si post) 0 0 (fun _ => False) := by
  refine Met.ofW (cc := c_Re_sumOf) (maxL := 5) (ret := (some .int)) (by decide) rfl ?_
  intro p e s m args below meth c s₁ B hml hv
  obtain ⟨rfl, hP, hK, hZ⟩ := hv
  have hx := B.exec
  have hb := B.bytes
  have hr := B.returns
  have hts0 := atoms_spec (ws := ws_Re_sumOf) B.pre
  have hts := fun (w : Cond) (h : w ∈ tb) => hts0 w (List.mem_cons_of_mem _ h)
  have hown : s.vm.findClass R_Re = some m.cls := findClass_of_methodNamed B.named
  have hlocks := B.notSynchronized
  have hS : va_S (fun _ => False) s.heap s.heap [] := va_S.rf
  have hl := lv_entry ([.ref a_this, .int x1, .int x2]) (n := 5) (Nat.le_of_ble_eq_true rfl)
  rw [lg_entry_eq]
  generalize (lg_sl ([.ref a_this, .int x1, .int x2]) ++ List.replicate (5 - (lg_sl ([.ref a_this, .int x1, .int x2])).length) Slot.unset).toArray = ls at hl ⊢
  have hl : lv_has ls 5 [(0, .ref a_this), (1, .int x1), (2, .int x2)] := hl
  unfold w_Re_sumOf at hw
  refine lv_iconst (v := 0) hx hb d_Re_sumOf_0 (by decide) ?_
  refine lv_istore_n (lv' := [(3, .int 0), (0, .ref a_this), (1, .int x1), (2, .int x2)]) hx hb d_Re_sumOf_1 rfl hl (by decide) rfl (fun ls hl => ?_)
  refine lv_iconst (v := 0) hx hb d_Re_sumOf_2 (by decide) ?_
  refine lv_istore (lv' := [(4, .int 0), (3, .int 0), (0, .ref a_this), (1, .int x1), (2, .int x2)]) hx hb d_Re_sumOf_3 hl (by decide) rfl (fun ls hl => ?_)
  obtain ⟨n9, hw⟩ := hw
  exact lp_Re_sumOf_5 l D Z hz ad hk a_this a_strip a_strip_items a_told a_told_items k_strip_items k_told_items v_fromBack v_set v_shifted v_strip_count f_strip_items v_told_count f_told_items x1 x2 hx hb hml hr hts hown hlocks hK hZ hP hS n9 0 0 hw ls (lv_sub hl [2, 3, 4, 1, 0] rfl)
-- LineCodes$Reader.countsOf(IIII)I
def w_Re_countsOf_14 (post : Int32 → Prop) (v_strip_count : Int32) (f_strip_items : Nat → Int32) (x1 : Int32) (x2 : Int32) (x3 : Int32) (x4 : Int32) : Nat → Int32 → Int32 → Prop
  | 0, _, _ => False
  | n + 1, y5, y6 => (x2 ≤ y6 → post y5) ∧ (¬ x2 ≤ y6 → w_It_at (fun r3 => ¬ (2 * x4) = 0 ∧ (((((2 * x3) * r3) + x4) / (2 * x4)) < 1 → post 0) ∧ (¬ ((((2 * x3) * r3) + x4) / (2 * x4)) < 1 → (((((2 * x3) * r3) + x4) / (2 * x4)) ≤ 4 → w_Re_countsOf_14 post v_strip_count f_strip_items x1 x2 x3 x4 n ((10 * y5) + ((((2 * x3) * r3) + x4) / (2 * x4))) (y6 + 1)) ∧ (¬ ((((2 * x3) * r3) + x4) / (2 * x4)) ≤ 4 → post 0))) 800 v_strip_count f_strip_items (x1 + y6))
def w_Re_countsOf (post : Int32 → Prop) (v_strip_count : Int32) (f_strip_items : Nat → Int32) (x1 : Int32) (x2 : Int32) (x3 : Int32) (x4 : Int32) : Prop := (1 ≤ x4 → ∃ n, w_Re_countsOf_14 post v_strip_count f_strip_items x1 x2 x3 x4 n 0 0) ∧ (¬ 1 ≤ x4 → post 0)
abbrev rm_Re_countsOf : Room := { frames := 1, cells := 0, slots := 0, locals := 21 }
set_option maxHeartbeats 4000000 in
set_option maxRecDepth 100000 in
theorem lp_Re_countsOf_14 (l : Launch) (D : va_G) (Z : (Nat → Prop) → State → Heap → Prop) (hz : zk Z) (ad : Nat → Nat) (hk : zs Z ad) {p : Program} {e : Env} {s : State} {m : MethodId} {args : Array Value} {below : List Frame} {meth : Method} {c : Code} (a_this : Nat) (a_strip : Nat) (a_strip_items : Nat) (a_told : Nat) (a_told_items : Nat) (k_strip_items : ClassId) (k_told_items : ClassId) (v_fromBack : Int32) (v_set : Int32) (v_shifted : Int32) (v_strip_count : Int32) (f_strip_items : Nat → Int32) (v_told_count : Int32) (f_told_items : Nat → Int32) (x1 : Int32) (x2 : Int32) (x3 : Int32) (x4 : Int32) {post : Int32 → Prop} (hx : p.tables.exec = Jvm.exec) (hb : c.code = c_Re_countsOf) (hml : c.maxLocals = 8) (hr : meth.sig.returnType = (some .int)) (hts : ∀ w ∈ tb, w.before args s = true) (hown : s.vm.findClass R_Re = some m.cls) (hlocks : meth.locks = false) (hK : va_K D vwCl [(k_strip_items, .int), (k_told_items, .int)] s) (hZ : Z (fun _ => False) s s.heap) (hP : va_P D vwCl [(a_this, .inr (2, [.ref a_strip, .ref a_told, .int v_fromBack, .int v_set, .int v_shifted])), (a_strip, .inr (0, [.ref a_strip_items, .int v_strip_count])), (a_strip_items, .inl (k_strip_items, 800, .inl f_strip_items)), (a_told, .inr (0, [.ref a_told_items, .int v_told_count])), (a_told_items, .inl (k_told_items, 260, .inl f_told_items))] s.heap) (hS : va_S (fun _ => False) s.heap s.heap []) : ∀ (n : Nat) (y5 : Int32) (y6 : Int32), w_Re_countsOf_14 post v_strip_count f_strip_items x1 x2 x3 x4 n y5 y6 → ∀ ls : Array Slot, lv_has ls 8 [(0, .ref a_this), (1, .int x1), (2, .int x2), (3, .int x3), (4, .int x4), (5, .int y5), (6, .int y6)] → W p l e (headSpec ws_Re_countsOf rm_Re_countsOf).room s m args below meth c s.heap [] 0 0 (MQ below (vp_Si post) args s 0 0 (fun _ => False)) (F0 m 14 ls []) := by
  intro n
  induction n with
  | zero =>
    intro y5 y6 hw
    unfold w_Re_countsOf_14 at hw
    exact hw.elim
  | succ n ih =>
    intro y5 y6 hw ls hl
    unfold w_Re_countsOf_14 at hw
    refine lv_iload hx hb d_Re_countsOf_14 (lv_at hl 6 rfl) ?_
    refine lv_iload_n hx hb d_Re_countsOf_16 rfl (lv_at hl 2 rfl) ?_
    refine lv_icmp_ge (tgt := 75) hx hb d_Re_countsOf_17 (by decide) (fun c2 => ?_) (fun c2 => ?_)
    · have hw := hw.1 c2
      refine lv_iload hx hb d_Re_countsOf_75 (lv_at hl 5 rfl) ?_
      exact W.iret (v := y5) hx hb hr (fun t ht hW => ⟨y5, rfl, hw, ht⟩) hS.2.2 d_Re_countsOf_77
    · have hw := hw.2 c2
      refine lv_iconst (v := 2) hx hb d_Re_countsOf_20 (by decide) ?_
      refine lv_iload_n hx hb d_Re_countsOf_21 rfl (lv_at hl 3 rfl) ?_
      refine lv_imul hx hb d_Re_countsOf_22 ?_
      refine lv_aload_n hx hb d_Re_countsOf_23 rfl (lv_at hl 0 rfl) ?_
      refine va_get (D := D) (ci := 2) (v := .ref a_strip) (C := R_Re) (T := T_Re) (N := 5) hx hb hts in_Re hown hK hP 0 rfl rfl 0 (by decide) (hts _ mm_105) (fun _ h9 => h9) rfl d_Re_countsOf_24 ?_
      refine lv_iload_n hx hb d_Re_countsOf_27 rfl (lv_at hl 1 rfl) ?_
      refine lv_iload hx hb d_Re_countsOf_28 (lv_at hl 6 rfl) ?_
      refine lv_iadd hx hb d_Re_countsOf_30 ?_
      refine k_roVi (As := [.int (x1 + y6)]) (rest := [.int (2 * x3)]) hz [1, 2] [0] 1 0 ⟨hx, hb, hml, hown, hts⟩ (met_It_at l D Z hz ad hk a_strip a_strip_items k_strip_items 800 v_strip_count f_strip_items (x1 + y6) hw) (cwV 1 hts (g_V mm_273 mm_167 mm_168 mm_42 mm_169) rfl rfl rfl hd_It_at ⟨Nat.le_of_ble_eq_true rfl, Nat.le_of_ble_eq_true rfl⟩) hP hK hZ hS rfl rfl rfl rfl rfl hl.1 rfl (Nat.le_of_ble_eq_true rfl) d_Re_countsOf_31 ⟨Nat.le_of_ble_eq_true rfl, Nat.le_of_ble_eq_true rfl⟩ (fun r3 hw => ?_)
      refine lv_imul hx hb d_Re_countsOf_34 ?_
      refine lv_iload hx hb d_Re_countsOf_35 (lv_at hl 4 rfl) ?_
      refine lv_iadd hx hb d_Re_countsOf_37 ?_
      refine lv_iconst (v := 2) hx hb d_Re_countsOf_38 (by decide) ?_
      refine lv_iload hx hb d_Re_countsOf_39 (lv_at hl 4 rfl) ?_
      refine lv_imul hx hb d_Re_countsOf_41 ?_
      have hn42 := hw.1
      have hw := hw.2
      refine lv_idiv hx hb d_Re_countsOf_42 hn42 ?_
      refine lv_istore (lv' := [(7, .int ((((2 * x3) * r3) + x4) / (2 * x4))), (0, .ref a_this), (1, .int x1), (2, .int x2), (3, .int x3), (4, .int x4), (5, .int y5), (6, .int y6)]) hx hb d_Re_countsOf_43 hl (by decide) rfl (fun ls hl => ?_)
      refine lv_iload hx hb d_Re_countsOf_45 (lv_at hl 0 rfl) ?_
      refine lv_iconst (v := 1) hx hb d_Re_countsOf_47 (by decide) ?_
      refine lv_icmp_lt (tgt := 57) hx hb d_Re_countsOf_48 (by decide) (fun c4 => ?_) (fun c4 => ?_)
      · have hw := hw.1 c4
        refine lv_iconst (v := 0) hx hb d_Re_countsOf_57 (by decide) ?_
        exact W.iret (v := 0) hx hb hr (fun t ht hW => ⟨0, rfl, hw, ht⟩) hS.2.2 d_Re_countsOf_58
      · have hw := hw.2 c4
        refine lv_iload hx hb d_Re_countsOf_51 (lv_at hl 0 rfl) ?_
        refine lv_iconst (v := 4) hx hb d_Re_countsOf_53 (by decide) ?_
        refine lv_icmp_le (tgt := 59) hx hb d_Re_countsOf_54 (by decide) (fun c5 => ?_) (fun c5 => ?_)
        · have hw := hw.1 c5
          refine lv_bipush (v := 10) hx hb d_Re_countsOf_59 (by decide) ?_
          refine lv_iload hx hb d_Re_countsOf_61 (lv_at hl 6 rfl) ?_
          refine lv_imul hx hb d_Re_countsOf_63 ?_
          refine lv_iload hx hb d_Re_countsOf_64 (lv_at hl 0 rfl) ?_
          refine lv_iadd hx hb d_Re_countsOf_66 ?_
          refine lv_istore (lv' := [(5, .int ((10 * y5) + ((((2 * x3) * r3) + x4) / (2 * x4)))), (7, .int ((((2 * x3) * r3) + x4) / (2 * x4))), (0, .ref a_this), (1, .int x1), (2, .int x2), (3, .int x3), (4, .int x4), (6, .int y6)]) hx hb d_Re_countsOf_67 hl (by decide) rfl (fun ls hl => ?_)
          refine lv_iinc (v := (y6 + 1)) (lv' := [(6, .int (y6 + 1)), (5, .int ((10 * y5) + ((((2 * x3) * r3) + x4) / (2 * x4)))), (7, .int ((((2 * x3) * r3) + x4) / (2 * x4))), (0, .ref a_this), (1, .int x1), (2, .int x2), (3, .int x3), (4, .int x4)]) hx hb d_Re_countsOf_69 hl (k := 7) rfl rfl (by decide) rfl (fun ls hl => ?_)
          refine lv_goto (tgt := 14) hx hb d_Re_countsOf_72 (by decide) ?_
          exact ih ((10 * y5) + ((((2 * x3) * r3) + x4) / (2 * x4))) (y6 + 1) hw ls (lv_sub hl [3, 4, 5, 6, 7, 1, 0] rfl)
        · have hw := hw.2 c5
          refine lv_iconst (v := 0) hx hb d_Re_countsOf_57 (by decide) ?_
          exact W.iret (v := 0) hx hb hr (fun t ht hW => ⟨0, rfl, hw, ht⟩) hS.2.2 d_Re_countsOf_58
set_option maxHeartbeats 4000000 in
set_option maxRecDepth 100000 in
theorem met_Re_countsOf (l : Launch) (D : va_G) (Z : (Nat → Prop) → State → Heap → Prop) (hz : zk Z) (ad : Nat → Nat) (hk : zs Z ad) (a_this : Nat) (a_strip : Nat) (a_strip_items : Nat) (a_told : Nat) (a_told_items : Nat) (k_strip_items : ClassId) (k_told_items : ClassId) (v_fromBack : Int32) (v_set : Int32) (v_shifted : Int32) (v_strip_count : Int32) (f_strip_items : Nat → Int32) (v_told_count : Int32) (f_told_items : Nat → Int32) (x1 : Int32) (x2 : Int32) (x3 : Int32) (x4 : Int32) {post : Int32 → Prop} (hw : w_Re_countsOf post v_strip_count f_strip_items x1 x2 x3 x4) : Met l y_Re_countsOf ws_Re_countsOf rm_Re_countsOf (va_Pc [.ref a_this, .int x1, .int x2, .int x3, .int x4] (ro_ D vwCl [(k_strip_items, .int), (k_told_items, .int)] [(a_this, .inr (2, [.ref a_strip, .ref a_told, .int v_fromBack, .int v_set, .int v_shifted])), (a_strip, .inr (0, [.ref a_strip_items, .int v_strip_count])), (a_strip_items, .inl (k_strip_items, 800, .inl f_strip_items)), (a_told, .inr (0, [.ref a_told_items, .int v_told_count])), (a_told_items, .inl (k_told_items, 260, .inl f_told_items))] (Z))) (vp_Si post) 0 0 (fun _ => False) := by
  refine Met.ofW (cc := c_Re_countsOf) (maxL := 8) (ret := (some .int)) (by decide) rfl ?_
  intro p e s m args below meth c s₁ B hml hv
  obtain ⟨rfl, hP, hK, hZ⟩ := hv
  have hx := B.exec
  have hb := B.bytes
  have hr := B.returns
  have hts0 := atoms_spec (ws := ws_Re_countsOf) B.pre
  have hts := fun (w : Cond) (h : w ∈ tb) => hts0 w (List.mem_cons_of_mem _ h)
  have hown : s.vm.findClass R_Re = some m.cls := findClass_of_methodNamed B.named
  have hlocks := B.notSynchronized
  have hS : va_S (fun _ => False) s.heap s.heap [] := va_S.rf
  have hl := lv_entry ([.ref a_this, .int x1, .int x2, .int x3, .int x4]) (n := 8) (Nat.le_of_ble_eq_true rfl)
  rw [lg_entry_eq]
  generalize (lg_sl ([.ref a_this, .int x1, .int x2, .int x3, .int x4]) ++ List.replicate (8 - (lg_sl ([.ref a_this, .int x1, .int x2, .int x3, .int x4])).length) Slot.unset).toArray = ls at hl ⊢
  have hl : lv_has ls 8 [(0, .ref a_this), (1, .int x1), (2, .int x2), (3, .int x3), (4, .int x4)] := hl
  unfold w_Re_countsOf at hw
  refine lv_iload hx hb d_Re_countsOf_0 (lv_at hl 4 rfl) ?_
  refine lv_iconst (v := 1) hx hb d_Re_countsOf_2 (by decide) ?_
  refine lv_icmp_ge (tgt := 8) hx hb d_Re_countsOf_3 (by decide) (fun c1 => ?_) (fun c1 => ?_)
  · have hw := hw.1 c1
    refine lv_iconst (v := 0) hx hb d_Re_countsOf_8 (by decide) ?_
    refine lv_istore (lv' := [(5, .int 0), (0, .ref a_this), (1, .int x1), (2, .int x2), (3, .int x3), (4, .int x4)]) hx hb d_Re_countsOf_9 hl (by decide) rfl (fun ls hl => ?_)
    refine lv_iconst (v := 0) hx hb d_Re_countsOf_11 (by decide) ?_
    refine lv_istore (lv' := [(6, .int 0), (5, .int 0), (0, .ref a_this), (1, .int x1), (2, .int x2), (3, .int x3), (4, .int x4)]) hx hb d_Re_countsOf_12 hl (by decide) rfl (fun ls hl => ?_)
    obtain ⟨n9, hw⟩ := hw
    exact lp_Re_countsOf_14 l D Z hz ad hk a_this a_strip a_strip_items a_told a_told_items k_strip_items k_told_items v_fromBack v_set v_shifted v_strip_count f_strip_items v_told_count f_told_items x1 x2 x3 x4 hx hb hml hr hts hown hlocks hK hZ hP hS n9 0 0 hw ls (lv_sub hl [2, 3, 4, 5, 6, 1, 0] rfl)
  · have hw := hw.2 c1
    refine lv_iconst (v := 0) hx hb d_Re_countsOf_6 (by decide) ?_
    exact W.iret (v := 0) hx hb hr (fun t ht hW => ⟨0, rfl, hw, ht⟩) hS.2.2 d_Re_countsOf_7
-- LineCodes$Reader.areSidesAndMiddleRight()Z
def w_Re_areSidesAndMiddleRight (post : Int32 → Prop) (v_strip_count : Int32) (f_strip_items : Nat → Int32) : Prop := w_Re_sumOf (fun r1 => w_Re_countsOf (fun r2 => (¬ r2 = 111 → post 0) ∧ (r2 = 111 → w_Re_countsOf (fun r4 => (¬ r4 = 11111 → post 0) ∧ (r4 = 11111 → w_Re_countsOf (fun r6 => (¬ r6 = 111 → post 0) ∧ (r6 = 111 → post 1)) v_strip_count f_strip_items 56 3 95 r1)) v_strip_count f_strip_items 27 5 95 r1)) v_strip_count f_strip_items 0 3 95 r1) v_strip_count f_strip_items 0 59
abbrev rm_Re_areSidesAndMiddleRight : Room := { frames := 2, cells := 0, slots := 0, locals := 48 }
set_option maxHeartbeats 4000000 in
set_option maxRecDepth 100000 in
theorem met_Re_areSidesAndMiddleRight (l : Launch) (D : va_G) (Z : (Nat → Prop) → State → Heap → Prop) (hz : zk Z) (ad : Nat → Nat) (hk : zs Z ad) (a_this : Nat) (a_strip : Nat) (a_strip_items : Nat) (a_told : Nat) (a_told_items : Nat) (k_strip_items : ClassId) (k_told_items : ClassId) (v_fromBack : Int32) (v_set : Int32) (v_shifted : Int32) (v_strip_count : Int32) (f_strip_items : Nat → Int32) (v_told_count : Int32) (f_told_items : Nat → Int32) {post : Int32 → Prop} (hw : w_Re_areSidesAndMiddleRight post v_strip_count f_strip_items) : Met l y_Re_areSidesAndMiddleRight ws_Re_areSidesAndMiddleRight rm_Re_areSidesAndMiddleRight (va_Pc [.ref a_this] (ro_ D vwCl [(k_strip_items, .int), (k_told_items, .int)] [(a_this, .inr (2, [.ref a_strip, .ref a_told, .int v_fromBack, .int v_set, .int v_shifted])), (a_strip, .inr (0, [.ref a_strip_items, .int v_strip_count])), (a_strip_items, .inl (k_strip_items, 800, .inl f_strip_items)), (a_told, .inr (0, [.ref a_told_items, .int v_told_count])), (a_told_items, .inl (k_told_items, 260, .inl f_told_items))] (Z))) (vp_Si post) 0 0 (fun _ => False) := by
  refine Met.ofW (cc := c_Re_areSidesAndMiddleRight) (maxL := 2) (ret := (some .boolean)) (by decide) rfl ?_
  intro p e s m args below meth c s₁ B hml hv
  obtain ⟨rfl, hP, hK, hZ⟩ := hv
  have hx := B.exec
  have hb := B.bytes
  have hr := B.returns
  have hts0 := atoms_spec (ws := ws_Re_areSidesAndMiddleRight) B.pre
  have hts := fun (w : Cond) (h : w ∈ tb) => hts0 w (List.mem_cons_of_mem _ h)
  have hown : s.vm.findClass R_Re = some m.cls := findClass_of_methodNamed B.named
  have hlocks := B.notSynchronized
  have hS : va_S (fun _ => False) s.heap s.heap [] := va_S.rf
  have hl := lv_entry ([.ref a_this]) (n := 2) (Nat.le_of_ble_eq_true rfl)
  rw [lg_entry_eq]
  generalize (lg_sl ([.ref a_this]) ++ List.replicate (2 - (lg_sl ([.ref a_this])).length) Slot.unset).toArray = ls at hl ⊢
  have hl : lv_has ls 2 [(0, .ref a_this)] := hl
  unfold w_Re_areSidesAndMiddleRight at hw
  refine lv_aload_n hx hb d_Re_areSidesAndMiddleRight_0 rfl (lv_at hl 0 rfl) ?_
  refine lv_iconst (v := 0) hx hb d_Re_areSidesAndMiddleRight_1 (by decide) ?_
  refine lv_bipush (v := 59) hx hb d_Re_areSidesAndMiddleRight_2 (by decide) ?_
  refine k_roVi (As := [.int 0, .int 59]) (rest := []) hz [0, 1, 2, 3, 4] [0, 1] 0 2 ⟨hx, hb, hml, hown, hts⟩ (met_Re_sumOf l D Z hz ad hk a_this a_strip a_strip_items a_told a_told_items k_strip_items k_told_items v_fromBack v_set v_shifted v_strip_count f_strip_items v_told_count f_told_items 0 59 hw) (cwV 2 hts (g_V mm_269 mm_271 mm_11 mm_45 mm_272) rfl rfl rfl hd_Re_sumOf ⟨Nat.le_of_ble_eq_true rfl, Nat.le_of_ble_eq_true rfl⟩) hP hK hZ hS rfl rfl rfl rfl rfl hl.1 rfl (Nat.le_of_ble_eq_true rfl) d_Re_areSidesAndMiddleRight_4 ⟨Nat.le_of_ble_eq_true rfl, Nat.le_of_ble_eq_true rfl⟩ (fun r1 hw => ?_)
  refine lv_istore_n (lv' := [(1, .int r1), (0, .ref a_this)]) hx hb d_Re_areSidesAndMiddleRight_7 rfl hl (by decide) rfl (fun ls hl => ?_)
  refine lv_aload_n hx hb d_Re_areSidesAndMiddleRight_8 rfl (lv_at hl 1 rfl) ?_
  refine lv_iconst (v := 0) hx hb d_Re_areSidesAndMiddleRight_9 (by decide) ?_
  refine lv_iconst (v := 3) hx hb d_Re_areSidesAndMiddleRight_10 (by decide) ?_
  refine lv_bipush (v := 95) hx hb d_Re_areSidesAndMiddleRight_11 (by decide) ?_
  refine lv_iload_n hx hb d_Re_areSidesAndMiddleRight_13 rfl (lv_at hl 0 rfl) ?_
  refine k_roVi (As := [.int 0, .int 3, .int 95, .int r1]) (rest := []) hz [0, 1, 2, 3, 4] [0, 1] 0 2 ⟨hx, hb, hml, hown, hts⟩ (met_Re_countsOf l D Z hz ad hk a_this a_strip a_strip_items a_told a_told_items k_strip_items k_told_items v_fromBack v_set v_shifted v_strip_count f_strip_items v_told_count f_told_items 0 3 95 r1 hw) (cwV 4 hts (g_V mm_274 mm_276 mm_12 mm_45 mm_277) rfl rfl rfl hd_Re_countsOf ⟨Nat.le_of_ble_eq_true rfl, Nat.le_of_ble_eq_true rfl⟩) hP hK hZ hS rfl rfl rfl rfl rfl hl.1 rfl (Nat.le_of_ble_eq_true rfl) d_Re_areSidesAndMiddleRight_14 ⟨Nat.le_of_ble_eq_true rfl, Nat.le_of_ble_eq_true rfl⟩ (fun r2 hw => ?_)
  refine lv_bipush (v := 111) hx hb d_Re_areSidesAndMiddleRight_17 (by decide) ?_
  refine lv_icmp_ne (tgt := 57) hx hb d_Re_areSidesAndMiddleRight_19 (by decide) (fun c3 => ?_) (fun c3 => ?_)
  · have hw := hw.1 c3
    refine lv_iconst (v := 0) hx hb d_Re_areSidesAndMiddleRight_57 (by decide) ?_
    exact W.zret (v := 0) (ty := .boolean) hx hb hr rfl (fun t ht hW => ⟨0, rfl, hw, ht⟩) hS.2.2 d_Re_areSidesAndMiddleRight_58
  · have hw := hw.2 c3
    refine lv_aload_n hx hb d_Re_areSidesAndMiddleRight_22 rfl (lv_at hl 1 rfl) ?_
    refine lv_bipush (v := 27) hx hb d_Re_areSidesAndMiddleRight_23 (by decide) ?_
    refine lv_iconst (v := 5) hx hb d_Re_areSidesAndMiddleRight_25 (by decide) ?_
    refine lv_bipush (v := 95) hx hb d_Re_areSidesAndMiddleRight_26 (by decide) ?_
    refine lv_iload_n hx hb d_Re_areSidesAndMiddleRight_28 rfl (lv_at hl 0 rfl) ?_
    refine k_roVi (As := [.int 27, .int 5, .int 95, .int r1]) (rest := []) hz [0, 1, 2, 3, 4] [0, 1] 0 2 ⟨hx, hb, hml, hown, hts⟩ (met_Re_countsOf l D Z hz ad hk a_this a_strip a_strip_items a_told a_told_items k_strip_items k_told_items v_fromBack v_set v_shifted v_strip_count f_strip_items v_told_count f_told_items 27 5 95 r1 hw) (cwV 4 hts (g_V mm_274 mm_276 mm_12 mm_45 mm_277) rfl rfl rfl hd_Re_countsOf ⟨Nat.le_of_ble_eq_true rfl, Nat.le_of_ble_eq_true rfl⟩) hP hK hZ hS rfl rfl rfl rfl rfl hl.1 rfl (Nat.le_of_ble_eq_true rfl) d_Re_areSidesAndMiddleRight_29 ⟨Nat.le_of_ble_eq_true rfl, Nat.le_of_ble_eq_true rfl⟩ (fun r4 hw => ?_)
    refine lv_sipush (v := 11111) hx hb d_Re_areSidesAndMiddleRight_32 (by decide) ?_
    refine lv_icmp_ne (tgt := 57) hx hb d_Re_areSidesAndMiddleRight_35 (by decide) (fun c5 => ?_) (fun c5 => ?_)
    · have hw := hw.1 c5
      refine lv_iconst (v := 0) hx hb d_Re_areSidesAndMiddleRight_57 (by decide) ?_
      exact W.zret (v := 0) (ty := .boolean) hx hb hr rfl (fun t ht hW => ⟨0, rfl, hw, ht⟩) hS.2.2 d_Re_areSidesAndMiddleRight_58
    · have hw := hw.2 c5
      refine lv_aload_n hx hb d_Re_areSidesAndMiddleRight_38 rfl (lv_at hl 1 rfl) ?_
      refine lv_bipush (v := 56) hx hb d_Re_areSidesAndMiddleRight_39 (by decide) ?_
      refine lv_iconst (v := 3) hx hb d_Re_areSidesAndMiddleRight_41 (by decide) ?_
      refine lv_bipush (v := 95) hx hb d_Re_areSidesAndMiddleRight_42 (by decide) ?_
      refine lv_iload_n hx hb d_Re_areSidesAndMiddleRight_44 rfl (lv_at hl 0 rfl) ?_
      refine k_roVi (As := [.int 56, .int 3, .int 95, .int r1]) (rest := []) hz [0, 1, 2, 3, 4] [0, 1] 0 2 ⟨hx, hb, hml, hown, hts⟩ (met_Re_countsOf l D Z hz ad hk a_this a_strip a_strip_items a_told a_told_items k_strip_items k_told_items v_fromBack v_set v_shifted v_strip_count f_strip_items v_told_count f_told_items 56 3 95 r1 hw) (cwV 4 hts (g_V mm_274 mm_276 mm_12 mm_45 mm_277) rfl rfl rfl hd_Re_countsOf ⟨Nat.le_of_ble_eq_true rfl, Nat.le_of_ble_eq_true rfl⟩) hP hK hZ hS rfl rfl rfl rfl rfl hl.1 rfl (Nat.le_of_ble_eq_true rfl) d_Re_areSidesAndMiddleRight_45 ⟨Nat.le_of_ble_eq_true rfl, Nat.le_of_ble_eq_true rfl⟩ (fun r6 hw => ?_)
      refine lv_bipush (v := 111) hx hb d_Re_areSidesAndMiddleRight_48 (by decide) ?_
      refine lv_icmp_ne (tgt := 57) hx hb d_Re_areSidesAndMiddleRight_50 (by decide) (fun c7 => ?_) (fun c7 => ?_)
      · have hw := hw.1 c7
        refine lv_iconst (v := 0) hx hb d_Re_areSidesAndMiddleRight_57 (by decide) ?_
        exact W.zret (v := 0) (ty := .boolean) hx hb hr rfl (fun t ht hW => ⟨0, rfl, hw, ht⟩) hS.2.2 d_Re_areSidesAndMiddleRight_58
      · have hw := hw.2 c7
        refine lv_iconst (v := 1) hx hb d_Re_areSidesAndMiddleRight_53 (by decide) ?_
        refine lv_goto (tgt := 58) hx hb d_Re_areSidesAndMiddleRight_54 (by decide) ?_
        exact W.zret (v := 1) (ty := .boolean) hx hb hr rfl (fun t ht hW => ⟨1, rfl, hw, ht⟩) hS.2.2 d_Re_areSidesAndMiddleRight_58
-- LineCodes$Reader.figureCountsAt(I)I
def w_Re_figureCountsAt (post : Int32 → Prop) (v_strip_count : Int32) (f_strip_items : Nat → Int32) (x1 : Int32) : Prop := w_Re_sumOf (fun r1 => w_Re_countsOf (fun r2 => post r2) v_strip_count f_strip_items x1 4 7 r1) v_strip_count f_strip_items x1 4
abbrev rm_Re_figureCountsAt : Room := { frames := 2, cells := 0, slots := 0, locals := 48 }
set_option maxHeartbeats 4000000 in
set_option maxRecDepth 100000 in
theorem met_Re_figureCountsAt (l : Launch) (D : va_G) (Z : (Nat → Prop) → State → Heap → Prop) (hz : zk Z) (ad : Nat → Nat) (hk : zs Z ad) (a_this : Nat) (a_strip : Nat) (a_strip_items : Nat) (a_told : Nat) (a_told_items : Nat) (k_strip_items : ClassId) (k_told_items : ClassId) (v_fromBack : Int32) (v_set : Int32) (v_shifted : Int32) (v_strip_count : Int32) (f_strip_items : Nat → Int32) (v_told_count : Int32) (f_told_items : Nat → Int32) (x1 : Int32) {post : Int32 → Prop} (hw : w_Re_figureCountsAt post v_strip_count f_strip_items x1) : Met l y_Re_figureCountsAt ws_Re_figureCountsAt rm_Re_figureCountsAt (va_Pc [.ref a_this, .int x1] (ro_ D vwCl [(k_strip_items, .int), (k_told_items, .int)] [(a_this, .inr (2, [.ref a_strip, .ref a_told, .int v_fromBack, .int v_set, .int v_shifted])), (a_strip, .inr (0, [.ref a_strip_items, .int v_strip_count])), (a_strip_items, .inl (k_strip_items, 800, .inl f_strip_items)), (a_told, .inr (0, [.ref a_told_items, .int v_told_count])), (a_told_items, .inl (k_told_items, 260, .inl f_told_items))] (Z))) (vp_Si post) 0 0 (fun _ => False) := by
  refine Met.ofW (cc := c_Re_figureCountsAt) (maxL := 3) (ret := (some .int)) (by decide) rfl ?_
  intro p e s m args below meth c s₁ B hml hv
  obtain ⟨rfl, hP, hK, hZ⟩ := hv
  have hx := B.exec
  have hb := B.bytes
  have hr := B.returns
  have hts0 := atoms_spec (ws := ws_Re_figureCountsAt) B.pre
  have hts := fun (w : Cond) (h : w ∈ tb) => hts0 w (List.mem_cons_of_mem _ h)
  have hown : s.vm.findClass R_Re = some m.cls := findClass_of_methodNamed B.named
  have hlocks := B.notSynchronized
  have hS : va_S (fun _ => False) s.heap s.heap [] := va_S.rf
  have hl := lv_entry ([.ref a_this, .int x1]) (n := 3) (Nat.le_of_ble_eq_true rfl)
  rw [lg_entry_eq]
  generalize (lg_sl ([.ref a_this, .int x1]) ++ List.replicate (3 - (lg_sl ([.ref a_this, .int x1])).length) Slot.unset).toArray = ls at hl ⊢
  have hl : lv_has ls 3 [(0, .ref a_this), (1, .int x1)] := hl
  unfold w_Re_figureCountsAt at hw
  refine lv_aload_n hx hb d_Re_figureCountsAt_0 rfl (lv_at hl 0 rfl) ?_
  refine lv_iload_n hx hb d_Re_figureCountsAt_1 rfl (lv_at hl 1 rfl) ?_
  refine lv_iconst (v := 4) hx hb d_Re_figureCountsAt_2 (by decide) ?_
  refine k_roVi (As := [.int x1, .int 4]) (rest := []) hz [0, 1, 2, 3, 4] [0, 1] 0 2 ⟨hx, hb, hml, hown, hts⟩ (met_Re_sumOf l D Z hz ad hk a_this a_strip a_strip_items a_told a_told_items k_strip_items k_told_items v_fromBack v_set v_shifted v_strip_count f_strip_items v_told_count f_told_items x1 4 hw) (cwV 2 hts (g_V mm_269 mm_271 mm_11 mm_45 mm_272) rfl rfl rfl hd_Re_sumOf ⟨Nat.le_of_ble_eq_true rfl, Nat.le_of_ble_eq_true rfl⟩) hP hK hZ hS rfl rfl rfl rfl rfl hl.1 rfl (Nat.le_of_ble_eq_true rfl) d_Re_figureCountsAt_3 ⟨Nat.le_of_ble_eq_true rfl, Nat.le_of_ble_eq_true rfl⟩ (fun r1 hw => ?_)
  refine lv_istore_n (lv' := [(2, .int r1), (0, .ref a_this), (1, .int x1)]) hx hb d_Re_figureCountsAt_6 rfl hl (by decide) rfl (fun ls hl => ?_)
  refine lv_aload_n hx hb d_Re_figureCountsAt_7 rfl (lv_at hl 1 rfl) ?_
  refine lv_iload_n hx hb d_Re_figureCountsAt_8 rfl (lv_at hl 2 rfl) ?_
  refine lv_iconst (v := 4) hx hb d_Re_figureCountsAt_9 (by decide) ?_
  refine lv_bipush (v := 7) hx hb d_Re_figureCountsAt_10 (by decide) ?_
  refine lv_iload_n hx hb d_Re_figureCountsAt_12 rfl (lv_at hl 0 rfl) ?_
  refine k_roVi (As := [.int x1, .int 4, .int 7, .int r1]) (rest := []) hz [0, 1, 2, 3, 4] [0, 1] 0 2 ⟨hx, hb, hml, hown, hts⟩ (met_Re_countsOf l D Z hz ad hk a_this a_strip a_strip_items a_told a_told_items k_strip_items k_told_items v_fromBack v_set v_shifted v_strip_count f_strip_items v_told_count f_told_items x1 4 7 r1 hw) (cwV 4 hts (g_V mm_274 mm_276 mm_12 mm_45 mm_277) rfl rfl rfl hd_Re_countsOf ⟨Nat.le_of_ble_eq_true rfl, Nat.le_of_ble_eq_true rfl⟩) hP hK hZ hS rfl rfl rfl rfl rfl hl.1 rfl (Nat.le_of_ble_eq_true rfl) d_Re_figureCountsAt_13 ⟨Nat.le_of_ble_eq_true rfl, Nat.le_of_ble_eq_true rfl⟩ (fun r2 hw => ?_)
  exact W.iret (v := r2) hx hb hr (fun t ht hW => ⟨r2, rfl, hw, ht⟩) hS.2.2 d_Re_figureCountsAt_16
-- LineCodes$Reader.isLeftHalf()Z
def w_Re_isLeftHalf_13 (post : Int32 → Int32 → (Nat → Int32) → Prop) (v_strip_count : Int32) (f_strip_items : Nat → Int32) : Nat → Int32 → (Nat → Int32) → Int32 → Int32 → Prop
  | 0, _, _, _, _ => False
  | n + 1, v_told_count, f_told_items, y1, y2 => (6 ≤ y2 → w_Wi_firstFigureWith (fun r5 => w_It_replace (fun r6 s7 => (r5 = (-1) → post 0 v_told_count s7) ∧ (¬ r5 = (-1) → post 1 v_told_count s7)) 260 v_told_count f_told_items 0 (48 + r5)) y1) ∧ (¬ 6 ≤ y2 → w_Re_figureCountsAt (fun r9 => w_Wi_figureWith (fun r10 => (¬ r10 = (-1) → (¬ r10 = (-1) → w_It_add (fun r13 s14 s15 => w_Re_isLeftHalf_13 post v_strip_count f_strip_items n s14 s15 ((2 * y1) + 0) (y2 + 1)) 260 v_told_count f_told_items (48 + r10)) ∧ (r10 = (-1) → post 0 v_told_count f_told_items)) ∧ (r10 = (-1) → w_Wi_turned (fun r16 => w_Wi_figureWith (fun r17 => (¬ r17 = (-1) → w_It_add (fun r19 s20 s21 => w_Re_isLeftHalf_13 post v_strip_count f_strip_items n s20 s21 ((2 * y1) + 1) (y2 + 1)) 260 v_told_count f_told_items (48 + r17)) ∧ (r17 = (-1) → post 0 v_told_count f_told_items)) r16) r9)) r9) v_strip_count f_strip_items (3 + (4 * y2)))
def w_Re_isLeftHalf (post : Int32 → Int32 → (Nat → Int32) → Prop) (v_strip_count : Int32) (f_strip_items : Nat → Int32) (v_told_count : Int32) (f_told_items : Nat → Int32) : Prop := w_It_add (fun r1 s2 s3 => ∃ n, w_Re_isLeftHalf_13 post v_strip_count f_strip_items n s2 s3 0 0) 260 v_told_count f_told_items (-1)
abbrev rm_Re_isLeftHalf : Room := { frames := 3, cells := 0, slots := 0, locals := 70 }
set_option maxHeartbeats 4000000 in
set_option maxRecDepth 100000 in
theorem lp_Re_isLeftHalf_13 (l : Launch) (D : va_G) (Z : (Nat → Prop) → State → Heap → Prop) (hz : zk Z) (ad : Nat → Nat) (hk : zs Z ad) {p : Program} {e : Env} {s : State} {m : MethodId} {args : Array Value} {below : List Frame} {meth : Method} {c : Code} {A : Nat → Prop} (a_this : Nat) (a_strip : Nat) (a_strip_items : Nat) (a_told : Nat) (a_told_items : Nat) (k_strip_items : ClassId) (k_told_items : ClassId) (v_fromBack : Int32) (v_set : Int32) (v_shifted : Int32) (v_strip_count : Int32) (f_strip_items : Nat → Int32) {post : Int32 → Int32 → (Nat → Int32) → Prop} (hx : p.tables.exec = Jvm.exec) (hb : c.code = c_Re_isLeftHalf) (hml : c.maxLocals = 6) (hr : meth.sig.returnType = (some .boolean)) (hts : ∀ w ∈ tb, w.before args s = true) (hown : s.vm.findClass R_Re = some m.cls) (hlocks : meth.locks = false) (hK : va_K D vwCl [(k_strip_items, .int), (k_told_items, .int)] s) (hZ : Z A s s.heap) (hA : ∀ q, s.heap.size ≤ q → A q) : ∀ (n : Nat) (v_told_count : Int32) (f_told_items : Nat → Int32) (y1 : Int32) (y2 : Int32), w_Re_isLeftHalf_13 post v_strip_count f_strip_items n v_told_count f_told_items y1 y2 → ∀ (H : Heap) (locs : List Loc), va_P D vwCl [(a_this, .inr (2, [.ref a_strip, .ref a_told, .int v_fromBack, .int v_set, .int v_shifted])), (a_strip, .inr (0, [.ref a_strip_items, .int v_strip_count])), (a_strip_items, .inl (k_strip_items, 800, .inl f_strip_items)), (a_told, .inr (0, [.ref a_told_items, .int v_told_count])), (a_told_items, .inl (k_told_items, 260, .inl f_told_items))] H → va_D A [(a_this, .inr (2, [.ref a_strip, .ref a_told, .int v_fromBack, .int v_set, .int v_shifted])), (a_strip, .inr (0, [.ref a_strip_items, .int v_strip_count])), (a_strip_items, .inl (k_strip_items, 800, .inl f_strip_items)), (a_told, .inr (0, [.ref a_told_items, .int v_told_count])), (a_told_items, .inl (k_told_items, 260, .inl f_told_items))] → va_S A s.heap H locs → ∀ ls : Array Slot, lv_has ls 6 [(0, .ref a_this), (1, .int y1), (2, .int y2)] → W p l e (headSpec ws_Re_isLeftHalf rm_Re_isLeftHalf).room s m args below meth c H locs 0 0 (MQ below (va_Qi (fun (r : Int32) (u : Int32 × (Nat → Int32)) => post r u.1 u.2) (fun u t => at_ D vwCl [(k_strip_items, .int), (k_told_items, .int)] A [(a_this, .inr (2, [.ref a_strip, .ref a_told, .int v_fromBack, .int v_set, .int v_shifted])), (a_strip, .inr (0, [.ref a_strip_items, .int v_strip_count])), (a_strip_items, .inl (k_strip_items, 800, .inl f_strip_items)), (a_told, .inr (0, [.ref a_told_items, .int u.1])), (a_told_items, .inl (k_told_items, 260, .inl u.2))] t) A) args s 0 0 A) (F0 m 13 ls []) := by
  intro n
  induction n with
  | zero =>
    intro v_told_count f_told_items y1 y2 hw
    unfold w_Re_isLeftHalf_13 at hw
    exact hw.elim
  | succ n ih =>
    intro v_told_count f_told_items y1 y2 hw H locs hP hD hS ls hl
    unfold w_Re_isLeftHalf_13 at hw
    refine lv_iload_n hx hb d_Re_isLeftHalf_13 rfl (lv_at hl 2 rfl) ?_
    refine lv_bipush (v := 6) hx hb d_Re_isLeftHalf_14 (by decide) ?_
    refine lv_icmp_ge (tgt := 104) hx hb d_Re_isLeftHalf_16 (by decide) (fun c4 => ?_) (fun c4 => ?_)
    · have hw := hw.1 c4
      refine lv_iload_n hx hb d_Re_isLeftHalf_104 rfl (lv_at hl 1 rfl) ?_
      refine k_roSi (As := [.int y1]) (rest := []) hz [] [] ⟨hx, hb, hml, hown, hts⟩ (met_Wi_firstFigureWith l D Z hz ad hk y1 hw) (va_cwS 1 hts (g_S mm_298 mm_299 mm_53 mm_300) rfl rfl rfl hd_Wi_firstFigureWith.2 ⟨Nat.le_of_ble_eq_true rfl, Nat.le_of_ble_eq_true rfl⟩) hP hK hZ hS rfl rfl rfl hl.1 rfl (Nat.le_of_ble_eq_true rfl) d_Re_isLeftHalf_105 ⟨Nat.le_of_ble_eq_true rfl, Nat.le_of_ble_eq_true rfl⟩ (fun r5 hw => ?_)
      refine lv_istore_n (lv' := [(2, .int r5), (0, .ref a_this), (1, .int y1)]) hx hb d_Re_isLeftHalf_108 rfl hl (by decide) rfl (fun ls hl => ?_)
      refine lv_aload_n hx hb d_Re_isLeftHalf_109 rfl (lv_at hl 1 rfl) ?_
      refine va_get (D := D) (ci := 2) (v := .ref a_told) (C := R_Re) (T := T_Re) (N := 5) hx hb hts in_Re hown hK hP 0 rfl rfl 1 (by decide) (hts _ mm_106) (fun _ h9 => h9) rfl d_Re_isLeftHalf_110 ?_
      refine lv_iconst (v := 0) hx hb d_Re_isLeftHalf_113 (by decide) ?_
      refine lv_bipush (v := 48) hx hb d_Re_isLeftHalf_114 (by decide) ?_
      refine lv_iload_n hx hb d_Re_isLeftHalf_116 rfl (lv_at hl 0 rfl) ?_
      refine lv_iadd hx hb d_Re_isLeftHalf_117 ?_
      refine k_rwVi (As := [.int 0, .int (48 + r5)]) (rest := []) (wr := [(a_this, .inr (2, [.ref a_strip, .ref a_told, .int v_fromBack, .int v_set, .int v_shifted])), (a_strip, .inr (0, [.ref a_strip_items, .int v_strip_count])), (a_strip_items, .inl (k_strip_items, 800, .inl f_strip_items))]) hz [3, 4] [0, 1, 2] [1] 3 0 ⟨hx, hb, hml, hown, hts⟩ (met_It_replace l D Z hz ad hk a_told a_told_items k_told_items 260 v_told_count f_told_items 0 (48 + r5) _ hw) (cwV 2 hts (g_V mm_303 mm_248 mm_249 mm_42 mm_250) rfl rfl rfl hd_It_replace ⟨Nat.le_of_ble_eq_true rfl, Nat.le_of_ble_eq_true rfl⟩) hP hD hK hZ hS hA rfl rfl rfl rfl rfl (by decide) rfl rfl rfl rfl hl.1 rfl (Nat.le_of_ble_eq_true rfl) d_Re_isLeftHalf_118 ⟨Nat.le_of_ble_eq_true rfl, Nat.le_of_ble_eq_true rfl⟩ (fun r6 s7 H locs hw hP hD hS => ?_)
      try dsimp only at hw
      have hP : va_P D vwCl [(a_this, .inr (2, [.ref a_strip, .ref a_told, .int v_fromBack, .int v_set, .int v_shifted])), (a_strip, .inr (0, [.ref a_strip_items, .int v_strip_count])), (a_strip_items, .inl (k_strip_items, 800, .inl f_strip_items)), (a_told, .inr (0, [.ref a_told_items, .int v_told_count])), (a_told_items, .inl (k_told_items, 260, .inl s7))] H := hP
      have hD : va_D A [(a_this, .inr (2, [.ref a_strip, .ref a_told, .int v_fromBack, .int v_set, .int v_shifted])), (a_strip, .inr (0, [.ref a_strip_items, .int v_strip_count])), (a_strip_items, .inl (k_strip_items, 800, .inl f_strip_items)), (a_told, .inr (0, [.ref a_told_items, .int v_told_count])), (a_told_items, .inl (k_told_items, 260, .inl s7))] := hD
      refine lv_pop hx hb d_Re_isLeftHalf_121 rfl ?_
      refine lv_iload_n hx hb d_Re_isLeftHalf_122 rfl (lv_at hl 0 rfl) ?_
      refine lv_iconst (v := (-1)) hx hb d_Re_isLeftHalf_123 (by decide) ?_
      refine lv_icmp_eq (tgt := 131) hx hb d_Re_isLeftHalf_124 (by decide) (fun c8 => ?_) (fun c8 => ?_)
      · have hw := hw.1 c8
        refine lv_iconst (v := 0) hx hb d_Re_isLeftHalf_131 (by decide) ?_
        have hP9 := hP.sub (ws' := [(a_this, .inr (2, [.ref a_strip, .ref a_told, .int v_fromBack, .int v_set, .int v_shifted])), (a_strip, .inr (0, [.ref a_strip_items, .int v_strip_count])), (a_strip_items, .inl (k_strip_items, 800, .inl f_strip_items)), (a_told, .inr (0, [.ref a_told_items, .int v_told_count])), (a_told_items, .inl (k_told_items, 260, .inl s7))]) [0, 1, 2, 3, 4] rfl
        have hD9 := hD.sub (ws' := [(a_this, .inr (2, [.ref a_strip, .ref a_told, .int v_fromBack, .int v_set, .int v_shifted])), (a_strip, .inr (0, [.ref a_strip_items, .int v_strip_count])), (a_strip_items, .inl (k_strip_items, 800, .inl f_strip_items)), (a_told, .inr (0, [.ref a_told_items, .int v_told_count])), (a_told_items, .inl (k_told_items, 260, .inl s7))]) [0, 1, 2, 3, 4] (by decide) rfl
        exact W.zret (v := 0) (ty := .boolean) hx hb hr rfl (fun t ht hW => ⟨⟨0, (v_told_count, s7), rfl, hw, by rw [ht]; exact hP9, va_K.moved hW.alike hK, hD9⟩, hS.F ht⟩) hS.2.2 d_Re_isLeftHalf_132
      · have hw := hw.2 c8
        refine lv_iconst (v := 1) hx hb d_Re_isLeftHalf_127 (by decide) ?_
        refine lv_goto (tgt := 132) hx hb d_Re_isLeftHalf_128 (by decide) ?_
        have hP9 := hP.sub (ws' := [(a_this, .inr (2, [.ref a_strip, .ref a_told, .int v_fromBack, .int v_set, .int v_shifted])), (a_strip, .inr (0, [.ref a_strip_items, .int v_strip_count])), (a_strip_items, .inl (k_strip_items, 800, .inl f_strip_items)), (a_told, .inr (0, [.ref a_told_items, .int v_told_count])), (a_told_items, .inl (k_told_items, 260, .inl s7))]) [0, 1, 2, 3, 4] rfl
        have hD9 := hD.sub (ws' := [(a_this, .inr (2, [.ref a_strip, .ref a_told, .int v_fromBack, .int v_set, .int v_shifted])), (a_strip, .inr (0, [.ref a_strip_items, .int v_strip_count])), (a_strip_items, .inl (k_strip_items, 800, .inl f_strip_items)), (a_told, .inr (0, [.ref a_told_items, .int v_told_count])), (a_told_items, .inl (k_told_items, 260, .inl s7))]) [0, 1, 2, 3, 4] (by decide) rfl
        exact W.zret (v := 1) (ty := .boolean) hx hb hr rfl (fun t ht hW => ⟨⟨1, (v_told_count, s7), rfl, hw, by rw [ht]; exact hP9, va_K.moved hW.alike hK, hD9⟩, hS.F ht⟩) hS.2.2 d_Re_isLeftHalf_132
    · have hw := hw.2 c4
      refine lv_aload_n hx hb d_Re_isLeftHalf_19 rfl (lv_at hl 0 rfl) ?_
      refine lv_iconst (v := 3) hx hb d_Re_isLeftHalf_20 (by decide) ?_
      refine lv_iconst (v := 4) hx hb d_Re_isLeftHalf_21 (by decide) ?_
      refine lv_iload_n hx hb d_Re_isLeftHalf_22 rfl (lv_at hl 2 rfl) ?_
      refine lv_imul hx hb d_Re_isLeftHalf_23 ?_
      refine lv_iadd hx hb d_Re_isLeftHalf_24 ?_
      refine k_roVi (As := [.int (3 + (4 * y2))]) (rest := []) hz [0, 1, 2, 3, 4] [0, 1] 0 2 ⟨hx, hb, hml, hown, hts⟩ (met_Re_figureCountsAt l D Z hz ad hk a_this a_strip a_strip_items a_told a_told_items k_strip_items k_told_items v_fromBack v_set v_shifted v_strip_count f_strip_items v_told_count f_told_items (3 + (4 * y2)) hw) (cwV 1 hts (g_V mm_283 mm_285 mm_14 mm_45 mm_286) rfl rfl rfl hd_Re_figureCountsAt ⟨Nat.le_of_ble_eq_true rfl, Nat.le_of_ble_eq_true rfl⟩) hP hK hZ hS rfl rfl rfl rfl rfl hl.1 rfl (Nat.le_of_ble_eq_true rfl) d_Re_isLeftHalf_25 ⟨Nat.le_of_ble_eq_true rfl, Nat.le_of_ble_eq_true rfl⟩ (fun r9 hw => ?_)
      refine lv_istore_n (lv' := [(3, .int r9), (0, .ref a_this), (1, .int y1), (2, .int y2)]) hx hb d_Re_isLeftHalf_28 rfl hl (by decide) rfl (fun ls hl => ?_)
      refine lv_iload_n hx hb d_Re_isLeftHalf_29 rfl (lv_at hl 0 rfl) ?_
      refine k_roSi (As := [.int r9]) (rest := []) hz [] [] ⟨hx, hb, hml, hown, hts⟩ (met_Wi_figureWith l D Z hz ad hk r9 hw) (va_cwS 1 hts (g_S mm_287 mm_288 mm_53 mm_289) rfl rfl rfl hd_Wi_figureWith.2 ⟨Nat.le_of_ble_eq_true rfl, Nat.le_of_ble_eq_true rfl⟩) hP hK hZ hS rfl rfl rfl hl.1 rfl (Nat.le_of_ble_eq_true rfl) d_Re_isLeftHalf_30 ⟨Nat.le_of_ble_eq_true rfl, Nat.le_of_ble_eq_true rfl⟩ (fun r10 hw => ?_)
      refine lv_istore (lv' := [(4, .int r10), (3, .int r9), (0, .ref a_this), (1, .int y1), (2, .int y2)]) hx hb d_Re_isLeftHalf_33 hl (by decide) rfl (fun ls hl => ?_)
      refine lv_iload hx hb d_Re_isLeftHalf_35 (lv_at hl 0 rfl) ?_
      refine lv_iconst (v := (-1)) hx hb d_Re_isLeftHalf_37 (by decide) ?_
      refine lv_icmp_ne (tgt := 45) hx hb d_Re_isLeftHalf_38 (by decide) (fun c11 => ?_) (fun c11 => ?_)
      · have hw := hw.1 c11
        refine lv_iconst (v := 0) hx hb d_Re_isLeftHalf_45 (by decide) ?_
        refine lv_istore (lv' := [(5, .int 0), (4, .int r10), (3, .int r9), (0, .ref a_this), (1, .int y1), (2, .int y2)]) hx hb d_Re_isLeftHalf_46 hl (by decide) rfl (fun ls hl => ?_)
        refine lv_iload hx hb d_Re_isLeftHalf_48 (lv_at hl 0 rfl) ?_
        refine lv_if_eq (tgt := 62) hx hb d_Re_isLeftHalf_50 (by decide) (fun _ => ?_) (fun c9 => absurd c9 (by decide))
        refine lv_iload hx hb d_Re_isLeftHalf_62 (lv_at hl 1 rfl) ?_
        refine lv_iconst (v := (-1)) hx hb d_Re_isLeftHalf_64 (by decide) ?_
        refine lv_icmp_ne (tgt := 70) hx hb d_Re_isLeftHalf_65 (by decide) (fun c12 => ?_) (fun c12 => ?_)
        · have hw := hw.1 c12
          refine lv_iconst (v := 2) hx hb d_Re_isLeftHalf_70 (by decide) ?_
          refine lv_iload_n hx hb d_Re_isLeftHalf_71 rfl (lv_at hl 4 rfl) ?_
          refine lv_imul hx hb d_Re_isLeftHalf_72 ?_
          refine lv_iload hx hb d_Re_isLeftHalf_73 (lv_at hl 0 rfl) ?_
          refine lv_if_eq (tgt := 82) hx hb d_Re_isLeftHalf_75 (by decide) (fun _ => ?_) (fun c9 => absurd c9 (by decide))
          refine lv_iconst (v := 0) hx hb d_Re_isLeftHalf_82 (by decide) ?_
          refine lv_iadd hx hb d_Re_isLeftHalf_83 ?_
          refine lv_istore_n (lv' := [(1, .int ((2 * y1) + 0)), (5, .int 0), (4, .int r10), (3, .int r9), (0, .ref a_this), (2, .int y2)]) hx hb d_Re_isLeftHalf_84 rfl hl (by decide) rfl (fun ls hl => ?_)
          refine lv_aload_n hx hb d_Re_isLeftHalf_85 rfl (lv_at hl 4 rfl) ?_
          refine va_get (D := D) (ci := 2) (v := .ref a_told) (C := R_Re) (T := T_Re) (N := 5) hx hb hts in_Re hown hK hP 0 rfl rfl 1 (by decide) (hts _ mm_106) (fun _ h9 => h9) rfl d_Re_isLeftHalf_86 ?_
          refine lv_bipush (v := 48) hx hb d_Re_isLeftHalf_89 (by decide) ?_
          refine lv_iload hx hb d_Re_isLeftHalf_91 (lv_at hl 2 rfl) ?_
          refine lv_iadd hx hb d_Re_isLeftHalf_93 ?_
          refine k_rwVi (As := [.int (48 + r10)]) (rest := []) (wr := [(a_this, .inr (2, [.ref a_strip, .ref a_told, .int v_fromBack, .int v_set, .int v_shifted])), (a_strip, .inr (0, [.ref a_strip_items, .int v_strip_count])), (a_strip_items, .inl (k_strip_items, 800, .inl f_strip_items))]) hz [3, 4] [0, 1, 2] [1] 3 0 ⟨hx, hb, hml, hown, hts⟩ (met_It_add l D Z hz ad hk a_told a_told_items k_told_items 260 v_told_count f_told_items (48 + r10) _ hw) (cwV 1 hts (g_V mm_282 mm_203 mm_204 mm_42 mm_205) rfl rfl rfl hd_It_add ⟨Nat.le_of_ble_eq_true rfl, Nat.le_of_ble_eq_true rfl⟩) hP hD hK hZ hS hA rfl rfl rfl rfl rfl (by decide) rfl rfl rfl rfl hl.1 rfl (Nat.le_of_ble_eq_true rfl) d_Re_isLeftHalf_94 ⟨Nat.le_of_ble_eq_true rfl, Nat.le_of_ble_eq_true rfl⟩ (fun r13 u9 H locs hw hP hD hS => ?_)
          obtain ⟨s14, s15⟩ := u9
          try dsimp only at hw
          have hP : va_P D vwCl [(a_this, .inr (2, [.ref a_strip, .ref a_told, .int v_fromBack, .int v_set, .int v_shifted])), (a_strip, .inr (0, [.ref a_strip_items, .int v_strip_count])), (a_strip_items, .inl (k_strip_items, 800, .inl f_strip_items)), (a_told, .inr (0, [.ref a_told_items, .int s14])), (a_told_items, .inl (k_told_items, 260, .inl s15))] H := hP
          have hD : va_D A [(a_this, .inr (2, [.ref a_strip, .ref a_told, .int v_fromBack, .int v_set, .int v_shifted])), (a_strip, .inr (0, [.ref a_strip_items, .int v_strip_count])), (a_strip_items, .inl (k_strip_items, 800, .inl f_strip_items)), (a_told, .inr (0, [.ref a_told_items, .int s14])), (a_told_items, .inl (k_told_items, 260, .inl s15))] := hD
          refine lv_pop hx hb d_Re_isLeftHalf_97 rfl ?_
          refine lv_iinc (v := (y2 + 1)) (lv' := [(2, .int (y2 + 1)), (1, .int ((2 * y1) + 0)), (5, .int 0), (4, .int r10), (3, .int r9), (0, .ref a_this)]) hx hb d_Re_isLeftHalf_98 hl (k := 5) rfl rfl (by decide) rfl (fun ls hl => ?_)
          refine lv_goto (tgt := 13) hx hb d_Re_isLeftHalf_101 (by decide) ?_
          exact ih s14 s15 ((2 * y1) + 0) (y2 + 1) hw _ _ (hP.sub [0, 1, 2, 3, 4] rfl) (hD.sub [0, 1, 2, 3, 4] (by decide) rfl) hS ls (lv_sub hl [5, 1, 0] rfl)
        · have hw := hw.2 c12
          refine lv_iconst (v := 0) hx hb d_Re_isLeftHalf_68 (by decide) ?_
          have hP9 := hP.sub (ws' := [(a_this, .inr (2, [.ref a_strip, .ref a_told, .int v_fromBack, .int v_set, .int v_shifted])), (a_strip, .inr (0, [.ref a_strip_items, .int v_strip_count])), (a_strip_items, .inl (k_strip_items, 800, .inl f_strip_items)), (a_told, .inr (0, [.ref a_told_items, .int v_told_count])), (a_told_items, .inl (k_told_items, 260, .inl f_told_items))]) [0, 1, 2, 3, 4] rfl
          have hD9 := hD.sub (ws' := [(a_this, .inr (2, [.ref a_strip, .ref a_told, .int v_fromBack, .int v_set, .int v_shifted])), (a_strip, .inr (0, [.ref a_strip_items, .int v_strip_count])), (a_strip_items, .inl (k_strip_items, 800, .inl f_strip_items)), (a_told, .inr (0, [.ref a_told_items, .int v_told_count])), (a_told_items, .inl (k_told_items, 260, .inl f_told_items))]) [0, 1, 2, 3, 4] (by decide) rfl
          exact W.zret (v := 0) (ty := .boolean) hx hb hr rfl (fun t ht hW => ⟨⟨0, (v_told_count, f_told_items), rfl, hw, by rw [ht]; exact hP9, va_K.moved hW.alike hK, hD9⟩, hS.F ht⟩) hS.2.2 d_Re_isLeftHalf_69
      · have hw := hw.2 c11
        refine lv_iconst (v := 1) hx hb d_Re_isLeftHalf_41 (by decide) ?_
        refine lv_goto (tgt := 46) hx hb d_Re_isLeftHalf_42 (by decide) ?_
        refine lv_istore (lv' := [(5, .int 1), (4, .int r10), (3, .int r9), (0, .ref a_this), (1, .int y1), (2, .int y2)]) hx hb d_Re_isLeftHalf_46 hl (by decide) rfl (fun ls hl => ?_)
        refine lv_iload hx hb d_Re_isLeftHalf_48 (lv_at hl 0 rfl) ?_
        refine lv_if_eq (tgt := 62) hx hb d_Re_isLeftHalf_50 (by decide) (fun c9 => absurd c9 (by decide)) (fun _ => ?_)
        refine lv_iload_n hx hb d_Re_isLeftHalf_53 rfl (lv_at hl 2 rfl) ?_
        refine k_roSi (As := [.int r9]) (rest := []) hz [] [] ⟨hx, hb, hml, hown, hts⟩ (met_Wi_turned l D Z hz ad hk r9 hw) (va_cwS 1 hts (g_S mm_295 mm_296 mm_53 mm_297) rfl rfl rfl hd_Wi_turned.2 ⟨Nat.le_of_ble_eq_true rfl, Nat.le_of_ble_eq_true rfl⟩) hP hK hZ hS rfl rfl rfl hl.1 rfl (Nat.le_of_ble_eq_true rfl) d_Re_isLeftHalf_54 ⟨Nat.le_of_ble_eq_true rfl, Nat.le_of_ble_eq_true rfl⟩ (fun r16 hw => ?_)
        refine k_roSi (As := [.int r16]) (rest := []) hz [] [] ⟨hx, hb, hml, hown, hts⟩ (met_Wi_figureWith l D Z hz ad hk r16 hw) (va_cwS 1 hts (g_S mm_287 mm_288 mm_53 mm_289) rfl rfl rfl hd_Wi_figureWith.2 ⟨Nat.le_of_ble_eq_true rfl, Nat.le_of_ble_eq_true rfl⟩) hP hK hZ hS rfl rfl rfl hl.1 rfl (Nat.le_of_ble_eq_true rfl) d_Re_isLeftHalf_57 ⟨Nat.le_of_ble_eq_true rfl, Nat.le_of_ble_eq_true rfl⟩ (fun r17 hw => ?_)
        refine lv_istore (lv' := [(4, .int r17), (5, .int 1), (3, .int r9), (0, .ref a_this), (1, .int y1), (2, .int y2)]) hx hb d_Re_isLeftHalf_60 hl (by decide) rfl (fun ls hl => ?_)
        refine lv_iload hx hb d_Re_isLeftHalf_62 (lv_at hl 0 rfl) ?_
        refine lv_iconst (v := (-1)) hx hb d_Re_isLeftHalf_64 (by decide) ?_
        refine lv_icmp_ne (tgt := 70) hx hb d_Re_isLeftHalf_65 (by decide) (fun c18 => ?_) (fun c18 => ?_)
        · have hw := hw.1 c18
          refine lv_iconst (v := 2) hx hb d_Re_isLeftHalf_70 (by decide) ?_
          refine lv_iload_n hx hb d_Re_isLeftHalf_71 rfl (lv_at hl 4 rfl) ?_
          refine lv_imul hx hb d_Re_isLeftHalf_72 ?_
          refine lv_iload hx hb d_Re_isLeftHalf_73 (lv_at hl 1 rfl) ?_
          refine lv_if_eq (tgt := 82) hx hb d_Re_isLeftHalf_75 (by decide) (fun c9 => absurd c9 (by decide)) (fun _ => ?_)
          refine lv_iconst (v := 1) hx hb d_Re_isLeftHalf_78 (by decide) ?_
          refine lv_goto (tgt := 83) hx hb d_Re_isLeftHalf_79 (by decide) ?_
          refine lv_iadd hx hb d_Re_isLeftHalf_83 ?_
          refine lv_istore_n (lv' := [(1, .int ((2 * y1) + 1)), (4, .int r17), (5, .int 1), (3, .int r9), (0, .ref a_this), (2, .int y2)]) hx hb d_Re_isLeftHalf_84 rfl hl (by decide) rfl (fun ls hl => ?_)
          refine lv_aload_n hx hb d_Re_isLeftHalf_85 rfl (lv_at hl 4 rfl) ?_
          refine va_get (D := D) (ci := 2) (v := .ref a_told) (C := R_Re) (T := T_Re) (N := 5) hx hb hts in_Re hown hK hP 0 rfl rfl 1 (by decide) (hts _ mm_106) (fun _ h9 => h9) rfl d_Re_isLeftHalf_86 ?_
          refine lv_bipush (v := 48) hx hb d_Re_isLeftHalf_89 (by decide) ?_
          refine lv_iload hx hb d_Re_isLeftHalf_91 (lv_at hl 1 rfl) ?_
          refine lv_iadd hx hb d_Re_isLeftHalf_93 ?_
          refine k_rwVi (As := [.int (48 + r17)]) (rest := []) (wr := [(a_this, .inr (2, [.ref a_strip, .ref a_told, .int v_fromBack, .int v_set, .int v_shifted])), (a_strip, .inr (0, [.ref a_strip_items, .int v_strip_count])), (a_strip_items, .inl (k_strip_items, 800, .inl f_strip_items))]) hz [3, 4] [0, 1, 2] [1] 3 0 ⟨hx, hb, hml, hown, hts⟩ (met_It_add l D Z hz ad hk a_told a_told_items k_told_items 260 v_told_count f_told_items (48 + r17) _ hw) (cwV 1 hts (g_V mm_282 mm_203 mm_204 mm_42 mm_205) rfl rfl rfl hd_It_add ⟨Nat.le_of_ble_eq_true rfl, Nat.le_of_ble_eq_true rfl⟩) hP hD hK hZ hS hA rfl rfl rfl rfl rfl (by decide) rfl rfl rfl rfl hl.1 rfl (Nat.le_of_ble_eq_true rfl) d_Re_isLeftHalf_94 ⟨Nat.le_of_ble_eq_true rfl, Nat.le_of_ble_eq_true rfl⟩ (fun r19 u9 H locs hw hP hD hS => ?_)
          obtain ⟨s20, s21⟩ := u9
          try dsimp only at hw
          have hP : va_P D vwCl [(a_this, .inr (2, [.ref a_strip, .ref a_told, .int v_fromBack, .int v_set, .int v_shifted])), (a_strip, .inr (0, [.ref a_strip_items, .int v_strip_count])), (a_strip_items, .inl (k_strip_items, 800, .inl f_strip_items)), (a_told, .inr (0, [.ref a_told_items, .int s20])), (a_told_items, .inl (k_told_items, 260, .inl s21))] H := hP
          have hD : va_D A [(a_this, .inr (2, [.ref a_strip, .ref a_told, .int v_fromBack, .int v_set, .int v_shifted])), (a_strip, .inr (0, [.ref a_strip_items, .int v_strip_count])), (a_strip_items, .inl (k_strip_items, 800, .inl f_strip_items)), (a_told, .inr (0, [.ref a_told_items, .int s20])), (a_told_items, .inl (k_told_items, 260, .inl s21))] := hD
          refine lv_pop hx hb d_Re_isLeftHalf_97 rfl ?_
          refine lv_iinc (v := (y2 + 1)) (lv' := [(2, .int (y2 + 1)), (1, .int ((2 * y1) + 1)), (4, .int r17), (5, .int 1), (3, .int r9), (0, .ref a_this)]) hx hb d_Re_isLeftHalf_98 hl (k := 5) rfl rfl (by decide) rfl (fun ls hl => ?_)
          refine lv_goto (tgt := 13) hx hb d_Re_isLeftHalf_101 (by decide) ?_
          exact ih s20 s21 ((2 * y1) + 1) (y2 + 1) hw _ _ (hP.sub [0, 1, 2, 3, 4] rfl) (hD.sub [0, 1, 2, 3, 4] (by decide) rfl) hS ls (lv_sub hl [5, 1, 0] rfl)
        · have hw := hw.2 c18
          refine lv_iconst (v := 0) hx hb d_Re_isLeftHalf_68 (by decide) ?_
          have hP9 := hP.sub (ws' := [(a_this, .inr (2, [.ref a_strip, .ref a_told, .int v_fromBack, .int v_set, .int v_shifted])), (a_strip, .inr (0, [.ref a_strip_items, .int v_strip_count])), (a_strip_items, .inl (k_strip_items, 800, .inl f_strip_items)), (a_told, .inr (0, [.ref a_told_items, .int v_told_count])), (a_told_items, .inl (k_told_items, 260, .inl f_told_items))]) [0, 1, 2, 3, 4] rfl
          have hD9 := hD.sub (ws' := [(a_this, .inr (2, [.ref a_strip, .ref a_told, .int v_fromBack, .int v_set, .int v_shifted])), (a_strip, .inr (0, [.ref a_strip_items, .int v_strip_count])), (a_strip_items, .inl (k_strip_items, 800, .inl f_strip_items)), (a_told, .inr (0, [.ref a_told_items, .int v_told_count])), (a_told_items, .inl (k_told_items, 260, .inl f_told_items))]) [0, 1, 2, 3, 4] (by decide) rfl
          exact W.zret (v := 0) (ty := .boolean) hx hb hr rfl (fun t ht hW => ⟨⟨0, (v_told_count, f_told_items), rfl, hw, by rw [ht]; exact hP9, va_K.moved hW.alike hK, hD9⟩, hS.F ht⟩) hS.2.2 d_Re_isLeftHalf_69
set_option maxHeartbeats 4000000 in
set_option maxRecDepth 100000 in
theorem met_Re_isLeftHalf (l : Launch) (D : va_G) (Z : (Nat → Prop) → State → Heap → Prop) (hz : zk Z) (ad : Nat → Nat) (hk : zs Z ad) (a_this : Nat) (a_strip : Nat) (a_strip_items : Nat) (a_told : Nat) (a_told_items : Nat) (k_strip_items : ClassId) (k_told_items : ClassId) (v_fromBack : Int32) (v_set : Int32) (v_shifted : Int32) (v_strip_count : Int32) (f_strip_items : Nat → Int32) (v_told_count : Int32) (f_told_items : Nat → Int32) (sz : Nat) {post : Int32 → Int32 → (Nat → Int32) → Prop} (hw : w_Re_isLeftHalf post v_strip_count f_strip_items v_told_count f_told_items) : Met l y_Re_isLeftHalf ws_Re_isLeftHalf rm_Re_isLeftHalf (va_Pc [.ref a_this] (rw_ D vwCl [(k_strip_items, .int), (k_told_items, .int)] [(a_this, .inr (2, [.ref a_strip, .ref a_told, .int v_fromBack, .int v_set, .int v_shifted])), (a_strip, .inr (0, [.ref a_strip_items, .int v_strip_count])), (a_strip_items, .inl (k_strip_items, 800, .inl f_strip_items)), (a_told, .inr (0, [.ref a_told_items, .int v_told_count])), (a_told_items, .inl (k_told_items, 260, .inl f_told_items))] (Z) sz)) (va_Qi (fun (r : Int32) (u : Int32 × (Nat → Int32)) => post r u.1 u.2) (fun u t => at_ D vwCl [(k_strip_items, .int), (k_told_items, .int)] (va_A [(a_this, .inr (2, [.ref a_strip, .ref a_told, .int v_fromBack, .int v_set, .int v_shifted])), (a_strip, .inr (0, [.ref a_strip_items, .int v_strip_count])), (a_strip_items, .inl (k_strip_items, 800, .inl f_strip_items)), (a_told, .inr (0, [.ref a_told_items, .int v_told_count])), (a_told_items, .inl (k_told_items, 260, .inl f_told_items))] sz) [(a_this, .inr (2, [.ref a_strip, .ref a_told, .int v_fromBack, .int v_set, .int v_shifted])), (a_strip, .inr (0, [.ref a_strip_items, .int v_strip_count])), (a_strip_items, .inl (k_strip_items, 800, .inl f_strip_items)), (a_told, .inr (0, [.ref a_told_items, .int u.1])), (a_told_items, .inl (k_told_items, 260, .inl u.2))] t) (va_A [(a_this, .inr (2, [.ref a_strip, .ref a_told, .int v_fromBack, .int v_set, .int v_shifted])), (a_strip, .inr (0, [.ref a_strip_items, .int v_strip_count])), (a_strip_items, .inl (k_strip_items, 800, .inl f_strip_items)), (a_told, .inr (0, [.ref a_told_items, .int v_told_count])), (a_told_items, .inl (k_told_items, 260, .inl f_told_items))] sz)) 0 0 (va_A [(a_this, .inr (2, [.ref a_strip, .ref a_told, .int v_fromBack, .int v_set, .int v_shifted])), (a_strip, .inr (0, [.ref a_strip_items, .int v_strip_count])), (a_strip_items, .inl (k_strip_items, 800, .inl f_strip_items)), (a_told, .inr (0, [.ref a_told_items, .int v_told_count])), (a_told_items, .inl (k_told_items, 260, .inl f_told_items))] sz) := by
  refine Met.ofW (cc := c_Re_isLeftHalf) (maxL := 6) (ret := (some .boolean)) (by decide) rfl ?_
  intro p e s m args below meth c s₁ B hml hv
  obtain ⟨rfl, hsz, hP, hK, hD0, hZ⟩ := hv
  have hx := B.exec
  have hb := B.bytes
  have hr := B.returns
  have hts0 := atoms_spec (ws := ws_Re_isLeftHalf) B.pre
  have hts := fun (w : Cond) (h : w ∈ tb) => hts0 w (List.mem_cons_of_mem _ h)
  have hown : s.vm.findClass R_Re = some m.cls := findClass_of_methodNamed B.named
  have hlocks := B.notSynchronized
  subst hsz
  have hD := hD0.self (sz := s.heap.size)
  generalize hAe : va_A [(a_this, .inr (2, [.ref a_strip, .ref a_told, .int v_fromBack, .int v_set, .int v_shifted])), (a_strip, .inr (0, [.ref a_strip_items, .int v_strip_count])), (a_strip_items, .inl (k_strip_items, 800, .inl f_strip_items)), (a_told, .inr (0, [.ref a_told_items, .int v_told_count])), (a_told_items, .inl (k_told_items, 260, .inl f_told_items))] s.heap.size = A at hD hZ ⊢
  have hA : ∀ q : Nat, s.heap.size ≤ q → A q := fun q h => by rw [← hAe]; exact Or.inr h
  have hS : va_S A s.heap s.heap [] := va_S.rf
  have hl := lv_entry ([.ref a_this]) (n := 6) (Nat.le_of_ble_eq_true rfl)
  rw [lg_entry_eq]
  generalize (lg_sl ([.ref a_this]) ++ List.replicate (6 - (lg_sl ([.ref a_this])).length) Slot.unset).toArray = ls at hl ⊢
  have hl : lv_has ls 6 [(0, .ref a_this)] := hl
  unfold w_Re_isLeftHalf at hw
  refine lv_aload_n hx hb d_Re_isLeftHalf_0 rfl (lv_at hl 0 rfl) ?_
  refine va_get (D := D) (ci := 2) (v := .ref a_told) (C := R_Re) (T := T_Re) (N := 5) hx hb hts in_Re hown hK hP 0 rfl rfl 1 (by decide) (hts _ mm_106) (fun _ h9 => h9) rfl d_Re_isLeftHalf_1 ?_
  refine lv_iconst (v := (-1)) hx hb d_Re_isLeftHalf_4 (by decide) ?_
  refine k_rwVi (As := [.int (-1)]) (rest := []) (wr := [(a_this, .inr (2, [.ref a_strip, .ref a_told, .int v_fromBack, .int v_set, .int v_shifted])), (a_strip, .inr (0, [.ref a_strip_items, .int v_strip_count])), (a_strip_items, .inl (k_strip_items, 800, .inl f_strip_items))]) hz [3, 4] [0, 1, 2] [1] 3 0 ⟨hx, hb, hml, hown, hts⟩ (met_It_add l D Z hz ad hk a_told a_told_items k_told_items 260 v_told_count f_told_items (-1) _ hw) (cwV 1 hts (g_V mm_282 mm_203 mm_204 mm_42 mm_205) rfl rfl rfl hd_It_add ⟨Nat.le_of_ble_eq_true rfl, Nat.le_of_ble_eq_true rfl⟩) hP hD hK hZ hS hA rfl rfl rfl rfl rfl (by decide) rfl rfl rfl rfl hl.1 rfl (Nat.le_of_ble_eq_true rfl) d_Re_isLeftHalf_5 ⟨Nat.le_of_ble_eq_true rfl, Nat.le_of_ble_eq_true rfl⟩ (fun r1 u9 H locs hw hP hD hS => ?_)
  obtain ⟨s2, s3⟩ := u9
  try dsimp only at hw
  have hP : va_P D vwCl [(a_this, .inr (2, [.ref a_strip, .ref a_told, .int v_fromBack, .int v_set, .int v_shifted])), (a_strip, .inr (0, [.ref a_strip_items, .int v_strip_count])), (a_strip_items, .inl (k_strip_items, 800, .inl f_strip_items)), (a_told, .inr (0, [.ref a_told_items, .int s2])), (a_told_items, .inl (k_told_items, 260, .inl s3))] H := hP
  have hD : va_D A [(a_this, .inr (2, [.ref a_strip, .ref a_told, .int v_fromBack, .int v_set, .int v_shifted])), (a_strip, .inr (0, [.ref a_strip_items, .int v_strip_count])), (a_strip_items, .inl (k_strip_items, 800, .inl f_strip_items)), (a_told, .inr (0, [.ref a_told_items, .int s2])), (a_told_items, .inl (k_told_items, 260, .inl s3))] := hD
  refine lv_pop hx hb d_Re_isLeftHalf_8 rfl ?_
  refine lv_iconst (v := 0) hx hb d_Re_isLeftHalf_9 (by decide) ?_
  refine lv_istore_n (lv' := [(1, .int 0), (0, .ref a_this)]) hx hb d_Re_isLeftHalf_10 rfl hl (by decide) rfl (fun ls hl => ?_)
  refine lv_iconst (v := 0) hx hb d_Re_isLeftHalf_11 (by decide) ?_
  refine lv_istore_n (lv' := [(2, .int 0), (1, .int 0), (0, .ref a_this)]) hx hb d_Re_isLeftHalf_12 rfl hl (by decide) rfl (fun ls hl => ?_)
  obtain ⟨n9, hw⟩ := hw
  exact lp_Re_isLeftHalf_13 l D Z hz ad hk a_this a_strip a_strip_items a_told a_told_items k_strip_items k_told_items v_fromBack v_set v_shifted v_strip_count f_strip_items hx hb hml hr hts hown hlocks hK hZ hA n9 s2 s3 0 0 hw _ _ (hP.sub [0, 1, 2, 3, 4] rfl) (hD.sub [0, 1, 2, 3, 4] (by decide) rfl) hS ls (lv_sub hl [2, 1, 0] rfl)
-- LineCodes$Reader.isRightHalf()Z
def w_Re_isRightHalf_2 (post : Int32 → Int32 → (Nat → Int32) → Prop) (v_strip_count : Int32) (f_strip_items : Nat → Int32) : Nat → Int32 → (Nat → Int32) → Int32 → Prop
  | 0, _, _, _ => False
  | n + 1, v_told_count, f_told_items, y1 => (6 ≤ y1 → post 1 v_told_count f_told_items) ∧ (¬ 6 ≤ y1 → w_Re_figureCountsAt (fun r2 => w_Wi_figureWith (fun r3 => (¬ r3 = (-1) → w_It_add (fun r5 s6 s7 => w_Re_isRightHalf_2 post v_strip_count f_strip_items n s6 s7 (y1 + 1)) 260 v_told_count f_told_items (48 + r3)) ∧ (r3 = (-1) → post 0 v_told_count f_told_items)) r2) v_strip_count f_strip_items (32 + (4 * y1)))
def w_Re_isRightHalf (post : Int32 → Int32 → (Nat → Int32) → Prop) (v_strip_count : Int32) (f_strip_items : Nat → Int32) (v_told_count : Int32) (f_told_items : Nat → Int32) : Prop := ∃ n, w_Re_isRightHalf_2 post v_strip_count f_strip_items n v_told_count f_told_items 0
abbrev rm_Re_isRightHalf : Room := { frames := 3, cells := 0, slots := 0, locals := 70 }
set_option maxHeartbeats 4000000 in
set_option maxRecDepth 100000 in
theorem lp_Re_isRightHalf_2 (l : Launch) (D : va_G) (Z : (Nat → Prop) → State → Heap → Prop) (hz : zk Z) (ad : Nat → Nat) (hk : zs Z ad) {p : Program} {e : Env} {s : State} {m : MethodId} {args : Array Value} {below : List Frame} {meth : Method} {c : Code} {A : Nat → Prop} (a_this : Nat) (a_strip : Nat) (a_strip_items : Nat) (a_told : Nat) (a_told_items : Nat) (k_strip_items : ClassId) (k_told_items : ClassId) (v_fromBack : Int32) (v_set : Int32) (v_shifted : Int32) (v_strip_count : Int32) (f_strip_items : Nat → Int32) {post : Int32 → Int32 → (Nat → Int32) → Prop} (hx : p.tables.exec = Jvm.exec) (hb : c.code = c_Re_isRightHalf) (hml : c.maxLocals = 3) (hr : meth.sig.returnType = (some .boolean)) (hts : ∀ w ∈ tb, w.before args s = true) (hown : s.vm.findClass R_Re = some m.cls) (hlocks : meth.locks = false) (hK : va_K D vwCl [(k_strip_items, .int), (k_told_items, .int)] s) (hZ : Z A s s.heap) (hA : ∀ q, s.heap.size ≤ q → A q) : ∀ (n : Nat) (v_told_count : Int32) (f_told_items : Nat → Int32) (y1 : Int32), w_Re_isRightHalf_2 post v_strip_count f_strip_items n v_told_count f_told_items y1 → ∀ (H : Heap) (locs : List Loc), va_P D vwCl [(a_this, .inr (2, [.ref a_strip, .ref a_told, .int v_fromBack, .int v_set, .int v_shifted])), (a_strip, .inr (0, [.ref a_strip_items, .int v_strip_count])), (a_strip_items, .inl (k_strip_items, 800, .inl f_strip_items)), (a_told, .inr (0, [.ref a_told_items, .int v_told_count])), (a_told_items, .inl (k_told_items, 260, .inl f_told_items))] H → va_D A [(a_this, .inr (2, [.ref a_strip, .ref a_told, .int v_fromBack, .int v_set, .int v_shifted])), (a_strip, .inr (0, [.ref a_strip_items, .int v_strip_count])), (a_strip_items, .inl (k_strip_items, 800, .inl f_strip_items)), (a_told, .inr (0, [.ref a_told_items, .int v_told_count])), (a_told_items, .inl (k_told_items, 260, .inl f_told_items))] → va_S A s.heap H locs → ∀ ls : Array Slot, lv_has ls 3 [(0, .ref a_this), (1, .int y1)] → W p l e (headSpec ws_Re_isRightHalf rm_Re_isRightHalf).room s m args below meth c H locs 0 0 (MQ below (va_Qi (fun (r : Int32) (u : Int32 × (Nat → Int32)) => post r u.1 u.2) (fun u t => at_ D vwCl [(k_strip_items, .int), (k_told_items, .int)] A [(a_this, .inr (2, [.ref a_strip, .ref a_told, .int v_fromBack, .int v_set, .int v_shifted])), (a_strip, .inr (0, [.ref a_strip_items, .int v_strip_count])), (a_strip_items, .inl (k_strip_items, 800, .inl f_strip_items)), (a_told, .inr (0, [.ref a_told_items, .int u.1])), (a_told_items, .inl (k_told_items, 260, .inl u.2))] t) A) args s 0 0 A) (F0 m 2 ls []) := by
  intro n
  induction n with
  | zero =>
    intro v_told_count f_told_items y1 hw
    unfold w_Re_isRightHalf_2 at hw
    exact hw.elim
  | succ n ih =>
    intro v_told_count f_told_items y1 hw H locs hP hD hS ls hl
    unfold w_Re_isRightHalf_2 at hw
    refine lv_iload_n hx hb d_Re_isRightHalf_2 rfl (lv_at hl 1 rfl) ?_
    refine lv_bipush (v := 6) hx hb d_Re_isRightHalf_3 (by decide) ?_
    refine lv_icmp_ge (tgt := 47) hx hb d_Re_isRightHalf_5 (by decide) (fun c1 => ?_) (fun c1 => ?_)
    · have hw := hw.1 c1
      refine lv_iconst (v := 1) hx hb d_Re_isRightHalf_47 (by decide) ?_
      have hP9 := hP.sub (ws' := [(a_this, .inr (2, [.ref a_strip, .ref a_told, .int v_fromBack, .int v_set, .int v_shifted])), (a_strip, .inr (0, [.ref a_strip_items, .int v_strip_count])), (a_strip_items, .inl (k_strip_items, 800, .inl f_strip_items)), (a_told, .inr (0, [.ref a_told_items, .int v_told_count])), (a_told_items, .inl (k_told_items, 260, .inl f_told_items))]) [0, 1, 2, 3, 4] rfl
      have hD9 := hD.sub (ws' := [(a_this, .inr (2, [.ref a_strip, .ref a_told, .int v_fromBack, .int v_set, .int v_shifted])), (a_strip, .inr (0, [.ref a_strip_items, .int v_strip_count])), (a_strip_items, .inl (k_strip_items, 800, .inl f_strip_items)), (a_told, .inr (0, [.ref a_told_items, .int v_told_count])), (a_told_items, .inl (k_told_items, 260, .inl f_told_items))]) [0, 1, 2, 3, 4] (by decide) rfl
      exact W.zret (v := 1) (ty := .boolean) hx hb hr rfl (fun t ht hW => ⟨⟨1, (v_told_count, f_told_items), rfl, hw, by rw [ht]; exact hP9, va_K.moved hW.alike hK, hD9⟩, hS.F ht⟩) hS.2.2 d_Re_isRightHalf_48
    · have hw := hw.2 c1
      refine lv_aload_n hx hb d_Re_isRightHalf_8 rfl (lv_at hl 0 rfl) ?_
      refine lv_bipush (v := 32) hx hb d_Re_isRightHalf_9 (by decide) ?_
      refine lv_iconst (v := 4) hx hb d_Re_isRightHalf_11 (by decide) ?_
      refine lv_iload_n hx hb d_Re_isRightHalf_12 rfl (lv_at hl 1 rfl) ?_
      refine lv_imul hx hb d_Re_isRightHalf_13 ?_
      refine lv_iadd hx hb d_Re_isRightHalf_14 ?_
      refine k_roVi (As := [.int (32 + (4 * y1))]) (rest := []) hz [0, 1, 2, 3, 4] [0, 1] 0 2 ⟨hx, hb, hml, hown, hts⟩ (met_Re_figureCountsAt l D Z hz ad hk a_this a_strip a_strip_items a_told a_told_items k_strip_items k_told_items v_fromBack v_set v_shifted v_strip_count f_strip_items v_told_count f_told_items (32 + (4 * y1)) hw) (cwV 1 hts (g_V mm_283 mm_285 mm_14 mm_45 mm_286) rfl rfl rfl hd_Re_figureCountsAt ⟨Nat.le_of_ble_eq_true rfl, Nat.le_of_ble_eq_true rfl⟩) hP hK hZ hS rfl rfl rfl rfl rfl hl.1 rfl (Nat.le_of_ble_eq_true rfl) d_Re_isRightHalf_15 ⟨Nat.le_of_ble_eq_true rfl, Nat.le_of_ble_eq_true rfl⟩ (fun r2 hw => ?_)
      refine k_roSi (As := [.int r2]) (rest := []) hz [] [] ⟨hx, hb, hml, hown, hts⟩ (met_Wi_figureWith l D Z hz ad hk r2 hw) (va_cwS 1 hts (g_S mm_287 mm_288 mm_53 mm_289) rfl rfl rfl hd_Wi_figureWith.2 ⟨Nat.le_of_ble_eq_true rfl, Nat.le_of_ble_eq_true rfl⟩) hP hK hZ hS rfl rfl rfl hl.1 rfl (Nat.le_of_ble_eq_true rfl) d_Re_isRightHalf_18 ⟨Nat.le_of_ble_eq_true rfl, Nat.le_of_ble_eq_true rfl⟩ (fun r3 hw => ?_)
      refine lv_istore_n (lv' := [(2, .int r3), (0, .ref a_this), (1, .int y1)]) hx hb d_Re_isRightHalf_21 rfl hl (by decide) rfl (fun ls hl => ?_)
      refine lv_iload_n hx hb d_Re_isRightHalf_22 rfl (lv_at hl 0 rfl) ?_
      refine lv_iconst (v := (-1)) hx hb d_Re_isRightHalf_23 (by decide) ?_
      refine lv_icmp_ne (tgt := 29) hx hb d_Re_isRightHalf_24 (by decide) (fun c4 => ?_) (fun c4 => ?_)
      · have hw := hw.1 c4
        refine lv_aload_n hx hb d_Re_isRightHalf_29 rfl (lv_at hl 1 rfl) ?_
        refine va_get (D := D) (ci := 2) (v := .ref a_told) (C := R_Re) (T := T_Re) (N := 5) hx hb hts in_Re hown hK hP 0 rfl rfl 1 (by decide) (hts _ mm_106) (fun _ h9 => h9) rfl d_Re_isRightHalf_30 ?_
        refine lv_bipush (v := 48) hx hb d_Re_isRightHalf_33 (by decide) ?_
        refine lv_iload_n hx hb d_Re_isRightHalf_35 rfl (lv_at hl 0 rfl) ?_
        refine lv_iadd hx hb d_Re_isRightHalf_36 ?_
        refine k_rwVi (As := [.int (48 + r3)]) (rest := []) (wr := [(a_this, .inr (2, [.ref a_strip, .ref a_told, .int v_fromBack, .int v_set, .int v_shifted])), (a_strip, .inr (0, [.ref a_strip_items, .int v_strip_count])), (a_strip_items, .inl (k_strip_items, 800, .inl f_strip_items))]) hz [3, 4] [0, 1, 2] [1] 3 0 ⟨hx, hb, hml, hown, hts⟩ (met_It_add l D Z hz ad hk a_told a_told_items k_told_items 260 v_told_count f_told_items (48 + r3) _ hw) (cwV 1 hts (g_V mm_282 mm_203 mm_204 mm_42 mm_205) rfl rfl rfl hd_It_add ⟨Nat.le_of_ble_eq_true rfl, Nat.le_of_ble_eq_true rfl⟩) hP hD hK hZ hS hA rfl rfl rfl rfl rfl (by decide) rfl rfl rfl rfl hl.1 rfl (Nat.le_of_ble_eq_true rfl) d_Re_isRightHalf_37 ⟨Nat.le_of_ble_eq_true rfl, Nat.le_of_ble_eq_true rfl⟩ (fun r5 u9 H locs hw hP hD hS => ?_)
        obtain ⟨s6, s7⟩ := u9
        try dsimp only at hw
        have hP : va_P D vwCl [(a_this, .inr (2, [.ref a_strip, .ref a_told, .int v_fromBack, .int v_set, .int v_shifted])), (a_strip, .inr (0, [.ref a_strip_items, .int v_strip_count])), (a_strip_items, .inl (k_strip_items, 800, .inl f_strip_items)), (a_told, .inr (0, [.ref a_told_items, .int s6])), (a_told_items, .inl (k_told_items, 260, .inl s7))] H := hP
        have hD : va_D A [(a_this, .inr (2, [.ref a_strip, .ref a_told, .int v_fromBack, .int v_set, .int v_shifted])), (a_strip, .inr (0, [.ref a_strip_items, .int v_strip_count])), (a_strip_items, .inl (k_strip_items, 800, .inl f_strip_items)), (a_told, .inr (0, [.ref a_told_items, .int s6])), (a_told_items, .inl (k_told_items, 260, .inl s7))] := hD
        refine lv_pop hx hb d_Re_isRightHalf_40 rfl ?_
        refine lv_iinc (v := (y1 + 1)) (lv' := [(1, .int (y1 + 1)), (2, .int r3), (0, .ref a_this)]) hx hb d_Re_isRightHalf_41 hl (k := 2) rfl rfl (by decide) rfl (fun ls hl => ?_)
        refine lv_goto (tgt := 2) hx hb d_Re_isRightHalf_44 (by decide) ?_
        exact ih s6 s7 (y1 + 1) hw _ _ (hP.sub [0, 1, 2, 3, 4] rfl) (hD.sub [0, 1, 2, 3, 4] (by decide) rfl) hS ls (lv_sub hl [2, 0] rfl)
      · have hw := hw.2 c4
        refine lv_iconst (v := 0) hx hb d_Re_isRightHalf_27 (by decide) ?_
        have hP9 := hP.sub (ws' := [(a_this, .inr (2, [.ref a_strip, .ref a_told, .int v_fromBack, .int v_set, .int v_shifted])), (a_strip, .inr (0, [.ref a_strip_items, .int v_strip_count])), (a_strip_items, .inl (k_strip_items, 800, .inl f_strip_items)), (a_told, .inr (0, [.ref a_told_items, .int v_told_count])), (a_told_items, .inl (k_told_items, 260, .inl f_told_items))]) [0, 1, 2, 3, 4] rfl
        have hD9 := hD.sub (ws' := [(a_this, .inr (2, [.ref a_strip, .ref a_told, .int v_fromBack, .int v_set, .int v_shifted])), (a_strip, .inr (0, [.ref a_strip_items, .int v_strip_count])), (a_strip_items, .inl (k_strip_items, 800, .inl f_strip_items)), (a_told, .inr (0, [.ref a_told_items, .int v_told_count])), (a_told_items, .inl (k_told_items, 260, .inl f_told_items))]) [0, 1, 2, 3, 4] (by decide) rfl
        exact W.zret (v := 0) (ty := .boolean) hx hb hr rfl (fun t ht hW => ⟨⟨0, (v_told_count, f_told_items), rfl, hw, by rw [ht]; exact hP9, va_K.moved hW.alike hK, hD9⟩, hS.F ht⟩) hS.2.2 d_Re_isRightHalf_28
set_option maxHeartbeats 4000000 in
set_option maxRecDepth 100000 in
theorem met_Re_isRightHalf (l : Launch) (D : va_G) (Z : (Nat → Prop) → State → Heap → Prop) (hz : zk Z) (ad : Nat → Nat) (hk : zs Z ad) (a_this : Nat) (a_strip : Nat) (a_strip_items : Nat) (a_told : Nat) (a_told_items : Nat) (k_strip_items : ClassId) (k_told_items : ClassId) (v_fromBack : Int32) (v_set : Int32) (v_shifted : Int32) (v_strip_count : Int32) (f_strip_items : Nat → Int32) (v_told_count : Int32) (f_told_items : Nat → Int32) (sz : Nat) {post : Int32 → Int32 → (Nat → Int32) → Prop} (hw : w_Re_isRightHalf post v_strip_count f_strip_items v_told_count f_told_items) : Met l y_Re_isRightHalf ws_Re_isRightHalf rm_Re_isRightHalf (va_Pc [.ref a_this] (rw_ D vwCl [(k_strip_items, .int), (k_told_items, .int)] [(a_this, .inr (2, [.ref a_strip, .ref a_told, .int v_fromBack, .int v_set, .int v_shifted])), (a_strip, .inr (0, [.ref a_strip_items, .int v_strip_count])), (a_strip_items, .inl (k_strip_items, 800, .inl f_strip_items)), (a_told, .inr (0, [.ref a_told_items, .int v_told_count])), (a_told_items, .inl (k_told_items, 260, .inl f_told_items))] (Z) sz)) (va_Qi (fun (r : Int32) (u : Int32 × (Nat → Int32)) => post r u.1 u.2) (fun u t => at_ D vwCl [(k_strip_items, .int), (k_told_items, .int)] (va_A [(a_this, .inr (2, [.ref a_strip, .ref a_told, .int v_fromBack, .int v_set, .int v_shifted])), (a_strip, .inr (0, [.ref a_strip_items, .int v_strip_count])), (a_strip_items, .inl (k_strip_items, 800, .inl f_strip_items)), (a_told, .inr (0, [.ref a_told_items, .int v_told_count])), (a_told_items, .inl (k_told_items, 260, .inl f_told_items))] sz) [(a_this, .inr (2, [.ref a_strip, .ref a_told, .int v_fromBack, .int v_set, .int v_shifted])), (a_strip, .inr (0, [.ref a_strip_items, .int v_strip_count])), (a_strip_items, .inl (k_strip_items, 800, .inl f_strip_items)), (a_told, .inr (0, [.ref a_told_items, .int u.1])), (a_told_items, .inl (k_told_items, 260, .inl u.2))] t) (va_A [(a_this, .inr (2, [.ref a_strip, .ref a_told, .int v_fromBack, .int v_set, .int v_shifted])), (a_strip, .inr (0, [.ref a_strip_items, .int v_strip_count])), (a_strip_items, .inl (k_strip_items, 800, .inl f_strip_items)), (a_told, .inr (0, [.ref a_told_items, .int v_told_count])), (a_told_items, .inl (k_told_items, 260, .inl f_told_items))] sz)) 0 0 (va_A [(a_this, .inr (2, [.ref a_strip, .ref a_told, .int v_fromBack, .int v_set, .int v_shifted])), (a_strip, .inr (0, [.ref a_strip_items, .int v_strip_count])), (a_strip_items, .inl (k_strip_items, 800, .inl f_strip_items)), (a_told, .inr (0, [.ref a_told_items, .int v_told_count])), (a_told_items, .inl (k_told_items, 260, .inl f_told_items))] sz) := by
  refine Met.ofW (cc := c_Re_isRightHalf) (maxL := 3) (ret := (some .boolean)) (by decide) rfl ?_
  intro p e s m args below meth c s₁ B hml hv
  obtain ⟨rfl, hsz, hP, hK, hD0, hZ⟩ := hv
  have hx := B.exec
  have hb := B.bytes
  have hr := B.returns
  have hts0 := atoms_spec (ws := ws_Re_isRightHalf) B.pre
  have hts := fun (w : Cond) (h : w ∈ tb) => hts0 w (List.mem_cons_of_mem _ h)
  have hown : s.vm.findClass R_Re = some m.cls := findClass_of_methodNamed B.named
  have hlocks := B.notSynchronized
  subst hsz
  have hD := hD0.self (sz := s.heap.size)
  generalize hAe : va_A [(a_this, .inr (2, [.ref a_strip, .ref a_told, .int v_fromBack, .int v_set, .int v_shifted])), (a_strip, .inr (0, [.ref a_strip_items, .int v_strip_count])), (a_strip_items, .inl (k_strip_items, 800, .inl f_strip_items)), (a_told, .inr (0, [.ref a_told_items, .int v_told_count])), (a_told_items, .inl (k_told_items, 260, .inl f_told_items))] s.heap.size = A at hD hZ ⊢
  have hA : ∀ q : Nat, s.heap.size ≤ q → A q := fun q h => by rw [← hAe]; exact Or.inr h
  have hS : va_S A s.heap s.heap [] := va_S.rf
  have hl := lv_entry ([.ref a_this]) (n := 3) (Nat.le_of_ble_eq_true rfl)
  rw [lg_entry_eq]
  generalize (lg_sl ([.ref a_this]) ++ List.replicate (3 - (lg_sl ([.ref a_this])).length) Slot.unset).toArray = ls at hl ⊢
  have hl : lv_has ls 3 [(0, .ref a_this)] := hl
  unfold w_Re_isRightHalf at hw
  refine lv_iconst (v := 0) hx hb d_Re_isRightHalf_0 (by decide) ?_
  refine lv_istore_n (lv' := [(1, .int 0), (0, .ref a_this)]) hx hb d_Re_isRightHalf_1 rfl hl (by decide) rfl (fun ls hl => ?_)
  obtain ⟨n9, hw⟩ := hw
  exact lp_Re_isRightHalf_2 l D Z hz ad hk a_this a_strip a_strip_items a_told a_told_items k_strip_items k_told_items v_fromBack v_set v_shifted v_strip_count f_strip_items hx hb hml hr hts hown hlocks hK hZ hA n9 v_told_count f_told_items 0 hw _ _ (hP.sub [0, 1, 2, 3, 4] rfl) (hD.sub [0, 1, 2, 3, 4] (by decide) rfl) hS ls (lv_sub hl [1, 0] rfl)
-- LineCodes$Reader.isThirteen()Z
def w_Re_isThirteen_27 (post : Int32 → Int32 → (Nat → Int32) → Prop) (v_told_count : Int32) (f_told_items : Nat → Int32) : Nat → Int32 → Int32 → Prop
  | 0, _, _ => False
  | n + 1, y1, y2 => (13 ≤ y2 → (¬ (y1 - y1 / 10 * 10) = 0 → post 0 v_told_count f_told_items) ∧ ((y1 - y1 / 10 * 10) = 0 → post 1 v_told_count f_told_items)) ∧ (¬ 13 ≤ y2 → w_Fi_weightOf (fun r13 => w_It_at (fun r14 => w_Re_isThirteen_27 post v_told_count f_told_items n (y1 + (r13 * (r14 - 48))) (y2 + 1)) 260 v_told_count f_told_items y2) y2)
def w_Re_isThirteen (post : Int32 → Int32 → (Nat → Int32) → Prop) (v_strip_count : Int32) (f_strip_items : Nat → Int32) (v_told_count : Int32) (f_told_items : Nat → Int32) : Prop := w_Re_areSidesAndMiddleRight (fun r1 => (r1 = 0 → post 0 v_told_count f_told_items) ∧ (¬ r1 = 0 → w_Re_isLeftHalf (fun r3 s4 s5 => (r3 = 0 → post 0 s4 s5) ∧ (¬ r3 = 0 → w_Re_isRightHalf (fun r7 s8 s9 => (¬ r7 = 0 → ∃ n, w_Re_isThirteen_27 post s8 s9 n 0 0) ∧ (r7 = 0 → post 0 s8 s9)) v_strip_count f_strip_items s4 s5)) v_strip_count f_strip_items v_told_count f_told_items)) v_strip_count f_strip_items
abbrev rm_Re_isThirteen : Room := { frames := 4, cells := 0, slots := 0, locals := 95 }
set_option maxHeartbeats 4000000 in
set_option maxRecDepth 100000 in
theorem lp_Re_isThirteen_27 (l : Launch) (D : va_G) (Z : (Nat → Prop) → State → Heap → Prop) (hz : zk Z) (ad : Nat → Nat) (hk : zs Z ad) {p : Program} {e : Env} {s : State} {m : MethodId} {args : Array Value} {below : List Frame} {meth : Method} {c : Code} {A : Nat → Prop} (a_this : Nat) (a_strip : Nat) (a_strip_items : Nat) (a_told : Nat) (a_told_items : Nat) (k_strip_items : ClassId) (k_told_items : ClassId) (v_fromBack : Int32) (v_set : Int32) (v_shifted : Int32) (v_strip_count : Int32) (f_strip_items : Nat → Int32) (v_told_count : Int32) (f_told_items : Nat → Int32) {post : Int32 → Int32 → (Nat → Int32) → Prop} (hx : p.tables.exec = Jvm.exec) (hb : c.code = c_Re_isThirteen) (hml : c.maxLocals = 3) (hr : meth.sig.returnType = (some .boolean)) (hts : ∀ w ∈ tb, w.before args s = true) (hown : s.vm.findClass R_Re = some m.cls) (hlocks : meth.locks = false) (hK : va_K D vwCl [(k_strip_items, .int), (k_told_items, .int)] s) (hZ : Z A s s.heap) (hA : ∀ q, s.heap.size ≤ q → A q) : ∀ (n : Nat) (y1 : Int32) (y2 : Int32), w_Re_isThirteen_27 post v_told_count f_told_items n y1 y2 → ∀ (H : Heap) (locs : List Loc), va_P D vwCl [(a_this, .inr (2, [.ref a_strip, .ref a_told, .int v_fromBack, .int v_set, .int v_shifted])), (a_strip, .inr (0, [.ref a_strip_items, .int v_strip_count])), (a_strip_items, .inl (k_strip_items, 800, .inl f_strip_items)), (a_told, .inr (0, [.ref a_told_items, .int v_told_count])), (a_told_items, .inl (k_told_items, 260, .inl f_told_items))] H → va_D A [(a_this, .inr (2, [.ref a_strip, .ref a_told, .int v_fromBack, .int v_set, .int v_shifted])), (a_strip, .inr (0, [.ref a_strip_items, .int v_strip_count])), (a_strip_items, .inl (k_strip_items, 800, .inl f_strip_items)), (a_told, .inr (0, [.ref a_told_items, .int v_told_count])), (a_told_items, .inl (k_told_items, 260, .inl f_told_items))] → va_S A s.heap H locs → ∀ ls : Array Slot, lv_has ls 3 [(0, .ref a_this), (1, .int y1), (2, .int y2)] → W p l e (headSpec ws_Re_isThirteen rm_Re_isThirteen).room s m args below meth c H locs 0 0 (MQ below (va_Qi (fun (r : Int32) (u : Int32 × (Nat → Int32)) => post r u.1 u.2) (fun u t => at_ D vwCl [(k_strip_items, .int), (k_told_items, .int)] A [(a_this, .inr (2, [.ref a_strip, .ref a_told, .int v_fromBack, .int v_set, .int v_shifted])), (a_strip, .inr (0, [.ref a_strip_items, .int v_strip_count])), (a_strip_items, .inl (k_strip_items, 800, .inl f_strip_items)), (a_told, .inr (0, [.ref a_told_items, .int u.1])), (a_told_items, .inl (k_told_items, 260, .inl u.2))] t) A) args s 0 0 A) (F0 m 27 ls []) := by
  intro n
  induction n with
  | zero =>
    intro y1 y2 hw
    unfold w_Re_isThirteen_27 at hw
    exact hw.elim
  | succ n ih =>
    intro y1 y2 hw H locs hP hD hS ls hl
    unfold w_Re_isThirteen_27 at hw
    refine lv_iload_n hx hb d_Re_isThirteen_27 rfl (lv_at hl 2 rfl) ?_
    refine lv_bipush (v := 13) hx hb d_Re_isThirteen_28 (by decide) ?_
    refine lv_icmp_ge (tgt := 58) hx hb d_Re_isThirteen_30 (by decide) (fun c11 => ?_) (fun c11 => ?_)
    · have hw := hw.1 c11
      refine lv_iload_n hx hb d_Re_isThirteen_58 rfl (lv_at hl 1 rfl) ?_
      refine lv_bipush (v := 10) hx hb d_Re_isThirteen_59 (by decide) ?_
      refine lv_irem hx hb d_Re_isThirteen_61 (by decide) ?_
      refine lv_if_ne (tgt := 69) hx hb d_Re_isThirteen_62 (by decide) (fun c12 => ?_) (fun c12 => ?_)
      · have hw := hw.1 c12
        refine lv_iconst (v := 0) hx hb d_Re_isThirteen_69 (by decide) ?_
        have hP9 := hP.sub (ws' := [(a_this, .inr (2, [.ref a_strip, .ref a_told, .int v_fromBack, .int v_set, .int v_shifted])), (a_strip, .inr (0, [.ref a_strip_items, .int v_strip_count])), (a_strip_items, .inl (k_strip_items, 800, .inl f_strip_items)), (a_told, .inr (0, [.ref a_told_items, .int v_told_count])), (a_told_items, .inl (k_told_items, 260, .inl f_told_items))]) [0, 1, 2, 3, 4] rfl
        have hD9 := hD.sub (ws' := [(a_this, .inr (2, [.ref a_strip, .ref a_told, .int v_fromBack, .int v_set, .int v_shifted])), (a_strip, .inr (0, [.ref a_strip_items, .int v_strip_count])), (a_strip_items, .inl (k_strip_items, 800, .inl f_strip_items)), (a_told, .inr (0, [.ref a_told_items, .int v_told_count])), (a_told_items, .inl (k_told_items, 260, .inl f_told_items))]) [0, 1, 2, 3, 4] (by decide) rfl
        exact W.zret (v := 0) (ty := .boolean) hx hb hr rfl (fun t ht hW => ⟨⟨0, (v_told_count, f_told_items), rfl, hw, by rw [ht]; exact hP9, va_K.moved hW.alike hK, hD9⟩, hS.F ht⟩) hS.2.2 d_Re_isThirteen_70
      · have hw := hw.2 c12
        refine lv_iconst (v := 1) hx hb d_Re_isThirteen_65 (by decide) ?_
        refine lv_goto (tgt := 70) hx hb d_Re_isThirteen_66 (by decide) ?_
        have hP9 := hP.sub (ws' := [(a_this, .inr (2, [.ref a_strip, .ref a_told, .int v_fromBack, .int v_set, .int v_shifted])), (a_strip, .inr (0, [.ref a_strip_items, .int v_strip_count])), (a_strip_items, .inl (k_strip_items, 800, .inl f_strip_items)), (a_told, .inr (0, [.ref a_told_items, .int v_told_count])), (a_told_items, .inl (k_told_items, 260, .inl f_told_items))]) [0, 1, 2, 3, 4] rfl
        have hD9 := hD.sub (ws' := [(a_this, .inr (2, [.ref a_strip, .ref a_told, .int v_fromBack, .int v_set, .int v_shifted])), (a_strip, .inr (0, [.ref a_strip_items, .int v_strip_count])), (a_strip_items, .inl (k_strip_items, 800, .inl f_strip_items)), (a_told, .inr (0, [.ref a_told_items, .int v_told_count])), (a_told_items, .inl (k_told_items, 260, .inl f_told_items))]) [0, 1, 2, 3, 4] (by decide) rfl
        exact W.zret (v := 1) (ty := .boolean) hx hb hr rfl (fun t ht hW => ⟨⟨1, (v_told_count, f_told_items), rfl, hw, by rw [ht]; exact hP9, va_K.moved hW.alike hK, hD9⟩, hS.F ht⟩) hS.2.2 d_Re_isThirteen_70
    · have hw := hw.2 c11
      refine lv_iload_n hx hb d_Re_isThirteen_33 rfl (lv_at hl 1 rfl) ?_
      refine lv_iload_n hx hb d_Re_isThirteen_34 rfl (lv_at hl 2 rfl) ?_
      refine k_roSi (As := [.int y2]) (rest := [.int y1]) hz [] [] ⟨hx, hb, hml, hown, hts⟩ (met_Fi_weightOf l D Z hz ad hk y2 hw) (va_cwS 1 hts (g_S mm_308 mm_309 mm_54 mm_310) rfl rfl rfl hd_Fi_weightOf.2 ⟨Nat.le_of_ble_eq_true rfl, Nat.le_of_ble_eq_true rfl⟩) hP hK hZ hS rfl rfl rfl hl.1 rfl (Nat.le_of_ble_eq_true rfl) d_Re_isThirteen_35 ⟨Nat.le_of_ble_eq_true rfl, Nat.le_of_ble_eq_true rfl⟩ (fun r13 hw => ?_)
      refine lv_aload_n hx hb d_Re_isThirteen_38 rfl (lv_at hl 0 rfl) ?_
      refine va_get (D := D) (ci := 2) (v := .ref a_told) (C := R_Re) (T := T_Re) (N := 5) hx hb hts in_Re hown hK hP 0 rfl rfl 1 (by decide) (hts _ mm_106) (fun _ h9 => h9) rfl d_Re_isThirteen_39 ?_
      refine lv_iload_n hx hb d_Re_isThirteen_42 rfl (lv_at hl 2 rfl) ?_
      refine k_roVi (As := [.int y2]) (rest := [.int r13, .int y1]) hz [3, 4] [1] 3 0 ⟨hx, hb, hml, hown, hts⟩ (met_It_at l D Z hz ad hk a_told a_told_items k_told_items 260 v_told_count f_told_items y2 hw) (cwV 1 hts (g_V mm_273 mm_167 mm_168 mm_42 mm_169) rfl rfl rfl hd_It_at ⟨Nat.le_of_ble_eq_true rfl, Nat.le_of_ble_eq_true rfl⟩) hP hK hZ hS rfl rfl rfl rfl rfl hl.1 rfl (Nat.le_of_ble_eq_true rfl) d_Re_isThirteen_43 ⟨Nat.le_of_ble_eq_true rfl, Nat.le_of_ble_eq_true rfl⟩ (fun r14 hw => ?_)
      refine lv_bipush (v := 48) hx hb d_Re_isThirteen_46 (by decide) ?_
      refine lv_isub hx hb d_Re_isThirteen_48 ?_
      refine lv_imul hx hb d_Re_isThirteen_49 ?_
      refine lv_iadd hx hb d_Re_isThirteen_50 ?_
      refine lv_istore_n (lv' := [(1, .int (y1 + (r13 * (r14 - 48)))), (0, .ref a_this), (2, .int y2)]) hx hb d_Re_isThirteen_51 rfl hl (by decide) rfl (fun ls hl => ?_)
      refine lv_iinc (v := (y2 + 1)) (lv' := [(2, .int (y2 + 1)), (1, .int (y1 + (r13 * (r14 - 48)))), (0, .ref a_this)]) hx hb d_Re_isThirteen_52 hl (k := 2) rfl rfl (by decide) rfl (fun ls hl => ?_)
      refine lv_goto (tgt := 27) hx hb d_Re_isThirteen_55 (by decide) ?_
      exact ih (y1 + (r13 * (r14 - 48))) (y2 + 1) hw _ _ (hP.sub [0, 1, 2, 3, 4] rfl) (hD.sub [0, 1, 2, 3, 4] (by decide) rfl) hS ls (lv_sub hl [2, 1, 0] rfl)
set_option maxHeartbeats 4000000 in
set_option maxRecDepth 100000 in
theorem met_Re_isThirteen (l : Launch) (D : va_G) (Z : (Nat → Prop) → State → Heap → Prop) (hz : zk Z) (ad : Nat → Nat) (hk : zs Z ad) (a_this : Nat) (a_strip : Nat) (a_strip_items : Nat) (a_told : Nat) (a_told_items : Nat) (k_strip_items : ClassId) (k_told_items : ClassId) (v_fromBack : Int32) (v_set : Int32) (v_shifted : Int32) (v_strip_count : Int32) (f_strip_items : Nat → Int32) (v_told_count : Int32) (f_told_items : Nat → Int32) (sz : Nat) {post : Int32 → Int32 → (Nat → Int32) → Prop} (hw : w_Re_isThirteen post v_strip_count f_strip_items v_told_count f_told_items) : Met l y_Re_isThirteen ws_Re_isThirteen rm_Re_isThirteen (va_Pc [.ref a_this] (rw_ D vwCl [(k_strip_items, .int), (k_told_items, .int)] [(a_this, .inr (2, [.ref a_strip, .ref a_told, .int v_fromBack, .int v_set, .int v_shifted])), (a_strip, .inr (0, [.ref a_strip_items, .int v_strip_count])), (a_strip_items, .inl (k_strip_items, 800, .inl f_strip_items)), (a_told, .inr (0, [.ref a_told_items, .int v_told_count])), (a_told_items, .inl (k_told_items, 260, .inl f_told_items))] (Z) sz)) (va_Qi (fun (r : Int32) (u : Int32 × (Nat → Int32)) => post r u.1 u.2) (fun u t => at_ D vwCl [(k_strip_items, .int), (k_told_items, .int)] (va_A [(a_this, .inr (2, [.ref a_strip, .ref a_told, .int v_fromBack, .int v_set, .int v_shifted])), (a_strip, .inr (0, [.ref a_strip_items, .int v_strip_count])), (a_strip_items, .inl (k_strip_items, 800, .inl f_strip_items)), (a_told, .inr (0, [.ref a_told_items, .int v_told_count])), (a_told_items, .inl (k_told_items, 260, .inl f_told_items))] sz) [(a_this, .inr (2, [.ref a_strip, .ref a_told, .int v_fromBack, .int v_set, .int v_shifted])), (a_strip, .inr (0, [.ref a_strip_items, .int v_strip_count])), (a_strip_items, .inl (k_strip_items, 800, .inl f_strip_items)), (a_told, .inr (0, [.ref a_told_items, .int u.1])), (a_told_items, .inl (k_told_items, 260, .inl u.2))] t) (va_A [(a_this, .inr (2, [.ref a_strip, .ref a_told, .int v_fromBack, .int v_set, .int v_shifted])), (a_strip, .inr (0, [.ref a_strip_items, .int v_strip_count])), (a_strip_items, .inl (k_strip_items, 800, .inl f_strip_items)), (a_told, .inr (0, [.ref a_told_items, .int v_told_count])), (a_told_items, .inl (k_told_items, 260, .inl f_told_items))] sz)) 0 0 (va_A [(a_this, .inr (2, [.ref a_strip, .ref a_told, .int v_fromBack, .int v_set, .int v_shifted])), (a_strip, .inr (0, [.ref a_strip_items, .int v_strip_count])), (a_strip_items, .inl (k_strip_items, 800, .inl f_strip_items)), (a_told, .inr (0, [.ref a_told_items, .int v_told_count])), (a_told_items, .inl (k_told_items, 260, .inl f_told_items))] sz) := by
  refine Met.ofW (cc := c_Re_isThirteen) (maxL := 3) (ret := (some .boolean)) (by decide) rfl ?_
  intro p e s m args below meth c s₁ B hml hv
  obtain ⟨rfl, hsz, hP, hK, hD0, hZ⟩ := hv
  have hx := B.exec
  have hb := B.bytes
  have hr := B.returns
  have hts0 := atoms_spec (ws := ws_Re_isThirteen) B.pre
  have hts := fun (w : Cond) (h : w ∈ tb) => hts0 w (List.mem_cons_of_mem _ h)
  have hown : s.vm.findClass R_Re = some m.cls := findClass_of_methodNamed B.named
  have hlocks := B.notSynchronized
  subst hsz
  have hD := hD0.self (sz := s.heap.size)
  generalize hAe : va_A [(a_this, .inr (2, [.ref a_strip, .ref a_told, .int v_fromBack, .int v_set, .int v_shifted])), (a_strip, .inr (0, [.ref a_strip_items, .int v_strip_count])), (a_strip_items, .inl (k_strip_items, 800, .inl f_strip_items)), (a_told, .inr (0, [.ref a_told_items, .int v_told_count])), (a_told_items, .inl (k_told_items, 260, .inl f_told_items))] s.heap.size = A at hD hZ ⊢
  have hA : ∀ q : Nat, s.heap.size ≤ q → A q := fun q h => by rw [← hAe]; exact Or.inr h
  have hS : va_S A s.heap s.heap [] := va_S.rf
  have hl := lv_entry ([.ref a_this]) (n := 3) (Nat.le_of_ble_eq_true rfl)
  rw [lg_entry_eq]
  generalize (lg_sl ([.ref a_this]) ++ List.replicate (3 - (lg_sl ([.ref a_this])).length) Slot.unset).toArray = ls at hl ⊢
  have hl : lv_has ls 3 [(0, .ref a_this)] := hl
  unfold w_Re_isThirteen at hw
  refine lv_aload_n hx hb d_Re_isThirteen_0 rfl (lv_at hl 0 rfl) ?_
  refine k_roVi (As := []) (rest := []) hz [0, 1, 2, 3, 4] [0, 1] 0 2 ⟨hx, hb, hml, hown, hts⟩ (met_Re_areSidesAndMiddleRight l D Z hz ad hk a_this a_strip a_strip_items a_told a_told_items k_strip_items k_told_items v_fromBack v_set v_shifted v_strip_count f_strip_items v_told_count f_told_items hw) (cwV 0 hts (g_V mm_265 mm_267 mm_10 mm_45 mm_268) rfl rfl rfl hd_Re_areSidesAndMiddleRight ⟨Nat.le_of_ble_eq_true rfl, Nat.le_of_ble_eq_true rfl⟩) hP hK hZ hS rfl rfl rfl rfl rfl hl.1 rfl (Nat.le_of_ble_eq_true rfl) d_Re_isThirteen_1 ⟨Nat.le_of_ble_eq_true rfl, Nat.le_of_ble_eq_true rfl⟩ (fun r1 hw => ?_)
  refine lv_if_eq (tgt := 21) hx hb d_Re_isThirteen_4 (by decide) (fun c2 => ?_) (fun c2 => ?_)
  · have hw := hw.1 c2
    refine lv_iconst (v := 0) hx hb d_Re_isThirteen_21 (by decide) ?_
    have hP9 := hP.sub (ws' := [(a_this, .inr (2, [.ref a_strip, .ref a_told, .int v_fromBack, .int v_set, .int v_shifted])), (a_strip, .inr (0, [.ref a_strip_items, .int v_strip_count])), (a_strip_items, .inl (k_strip_items, 800, .inl f_strip_items)), (a_told, .inr (0, [.ref a_told_items, .int v_told_count])), (a_told_items, .inl (k_told_items, 260, .inl f_told_items))]) [0, 1, 2, 3, 4] rfl
    have hD9 := hD.sub (ws' := [(a_this, .inr (2, [.ref a_strip, .ref a_told, .int v_fromBack, .int v_set, .int v_shifted])), (a_strip, .inr (0, [.ref a_strip_items, .int v_strip_count])), (a_strip_items, .inl (k_strip_items, 800, .inl f_strip_items)), (a_told, .inr (0, [.ref a_told_items, .int v_told_count])), (a_told_items, .inl (k_told_items, 260, .inl f_told_items))]) [0, 1, 2, 3, 4] (by decide) rfl
    exact W.zret (v := 0) (ty := .boolean) hx hb hr rfl (fun t ht hW => ⟨⟨0, (v_told_count, f_told_items), rfl, hw, by rw [ht]; exact hP9, va_K.moved hW.alike hK, hD9⟩, hS.F ht⟩) hS.2.2 d_Re_isThirteen_22
  · have hw := hw.2 c2
    refine lv_aload_n hx hb d_Re_isThirteen_7 rfl (lv_at hl 0 rfl) ?_
    refine k_rwVi (As := []) (rest := []) (wr := []) hz [0, 1, 2, 3, 4] [] [0, 1] 0 2 ⟨hx, hb, hml, hown, hts⟩ (met_Re_isLeftHalf l D Z hz ad hk a_this a_strip a_strip_items a_told a_told_items k_strip_items k_told_items v_fromBack v_set v_shifted v_strip_count f_strip_items v_told_count f_told_items _ hw) (cwV 0 hts (g_V mm_278 mm_280 mm_13 mm_45 mm_281) rfl rfl rfl hd_Re_isLeftHalf ⟨Nat.le_of_ble_eq_true rfl, Nat.le_of_ble_eq_true rfl⟩) hP hD hK hZ hS hA rfl rfl rfl rfl rfl (by decide) rfl rfl rfl rfl hl.1 rfl (Nat.le_of_ble_eq_true rfl) d_Re_isThirteen_8 ⟨Nat.le_of_ble_eq_true rfl, Nat.le_of_ble_eq_true rfl⟩ (fun r3 u9 H locs hw hP hD hS => ?_)
    obtain ⟨s4, s5⟩ := u9
    try dsimp only at hw
    have hP : va_P D vwCl [(a_this, .inr (2, [.ref a_strip, .ref a_told, .int v_fromBack, .int v_set, .int v_shifted])), (a_strip, .inr (0, [.ref a_strip_items, .int v_strip_count])), (a_strip_items, .inl (k_strip_items, 800, .inl f_strip_items)), (a_told, .inr (0, [.ref a_told_items, .int s4])), (a_told_items, .inl (k_told_items, 260, .inl s5))] H := hP
    have hD : va_D A [(a_this, .inr (2, [.ref a_strip, .ref a_told, .int v_fromBack, .int v_set, .int v_shifted])), (a_strip, .inr (0, [.ref a_strip_items, .int v_strip_count])), (a_strip_items, .inl (k_strip_items, 800, .inl f_strip_items)), (a_told, .inr (0, [.ref a_told_items, .int s4])), (a_told_items, .inl (k_told_items, 260, .inl s5))] := hD
    refine lv_if_eq (tgt := 21) hx hb d_Re_isThirteen_11 (by decide) (fun c6 => ?_) (fun c6 => ?_)
    · have hw := hw.1 c6
      refine lv_iconst (v := 0) hx hb d_Re_isThirteen_21 (by decide) ?_
      have hP9 := hP.sub (ws' := [(a_this, .inr (2, [.ref a_strip, .ref a_told, .int v_fromBack, .int v_set, .int v_shifted])), (a_strip, .inr (0, [.ref a_strip_items, .int v_strip_count])), (a_strip_items, .inl (k_strip_items, 800, .inl f_strip_items)), (a_told, .inr (0, [.ref a_told_items, .int s4])), (a_told_items, .inl (k_told_items, 260, .inl s5))]) [0, 1, 2, 3, 4] rfl
      have hD9 := hD.sub (ws' := [(a_this, .inr (2, [.ref a_strip, .ref a_told, .int v_fromBack, .int v_set, .int v_shifted])), (a_strip, .inr (0, [.ref a_strip_items, .int v_strip_count])), (a_strip_items, .inl (k_strip_items, 800, .inl f_strip_items)), (a_told, .inr (0, [.ref a_told_items, .int s4])), (a_told_items, .inl (k_told_items, 260, .inl s5))]) [0, 1, 2, 3, 4] (by decide) rfl
      exact W.zret (v := 0) (ty := .boolean) hx hb hr rfl (fun t ht hW => ⟨⟨0, (s4, s5), rfl, hw, by rw [ht]; exact hP9, va_K.moved hW.alike hK, hD9⟩, hS.F ht⟩) hS.2.2 d_Re_isThirteen_22
    · have hw := hw.2 c6
      refine lv_aload_n hx hb d_Re_isThirteen_14 rfl (lv_at hl 0 rfl) ?_
      refine k_rwVi (As := []) (rest := []) (wr := []) hz [0, 1, 2, 3, 4] [] [0, 1] 0 2 ⟨hx, hb, hml, hown, hts⟩ (met_Re_isRightHalf l D Z hz ad hk a_this a_strip a_strip_items a_told a_told_items k_strip_items k_told_items v_fromBack v_set v_shifted v_strip_count f_strip_items s4 s5 _ hw) (cwV 0 hts (g_V mm_304 mm_306 mm_15 mm_45 mm_307) rfl rfl rfl hd_Re_isRightHalf ⟨Nat.le_of_ble_eq_true rfl, Nat.le_of_ble_eq_true rfl⟩) hP hD hK hZ hS hA rfl rfl rfl rfl rfl (by decide) rfl rfl rfl rfl hl.1 rfl (Nat.le_of_ble_eq_true rfl) d_Re_isThirteen_15 ⟨Nat.le_of_ble_eq_true rfl, Nat.le_of_ble_eq_true rfl⟩ (fun r7 u9 H locs hw hP hD hS => ?_)
      obtain ⟨s8, s9⟩ := u9
      try dsimp only at hw
      have hP : va_P D vwCl [(a_this, .inr (2, [.ref a_strip, .ref a_told, .int v_fromBack, .int v_set, .int v_shifted])), (a_strip, .inr (0, [.ref a_strip_items, .int v_strip_count])), (a_strip_items, .inl (k_strip_items, 800, .inl f_strip_items)), (a_told, .inr (0, [.ref a_told_items, .int s8])), (a_told_items, .inl (k_told_items, 260, .inl s9))] H := hP
      have hD : va_D A [(a_this, .inr (2, [.ref a_strip, .ref a_told, .int v_fromBack, .int v_set, .int v_shifted])), (a_strip, .inr (0, [.ref a_strip_items, .int v_strip_count])), (a_strip_items, .inl (k_strip_items, 800, .inl f_strip_items)), (a_told, .inr (0, [.ref a_told_items, .int s8])), (a_told_items, .inl (k_told_items, 260, .inl s9))] := hD
      refine lv_if_ne (tgt := 23) hx hb d_Re_isThirteen_18 (by decide) (fun c10 => ?_) (fun c10 => ?_)
      · have hw := hw.1 c10
        refine lv_iconst (v := 0) hx hb d_Re_isThirteen_23 (by decide) ?_
        refine lv_istore_n (lv' := [(1, .int 0), (0, .ref a_this)]) hx hb d_Re_isThirteen_24 rfl hl (by decide) rfl (fun ls hl => ?_)
        refine lv_iconst (v := 0) hx hb d_Re_isThirteen_25 (by decide) ?_
        refine lv_istore_n (lv' := [(2, .int 0), (1, .int 0), (0, .ref a_this)]) hx hb d_Re_isThirteen_26 rfl hl (by decide) rfl (fun ls hl => ?_)
        obtain ⟨n9, hw⟩ := hw
        exact lp_Re_isThirteen_27 l D Z hz ad hk a_this a_strip a_strip_items a_told a_told_items k_strip_items k_told_items v_fromBack v_set v_shifted v_strip_count f_strip_items s8 s9 hx hb hml hr hts hown hlocks hK hZ hA n9 0 0 hw _ _ (hP.sub [0, 1, 2, 3, 4] rfl) (hD.sub [0, 1, 2, 3, 4] (by decide) rfl) hS ls (lv_sub hl [2, 1, 0] rfl)
      · have hw := hw.2 c10
        refine lv_iconst (v := 0) hx hb d_Re_isThirteen_21 (by decide) ?_
        have hP9 := hP.sub (ws' := [(a_this, .inr (2, [.ref a_strip, .ref a_told, .int v_fromBack, .int v_set, .int v_shifted])), (a_strip, .inr (0, [.ref a_strip_items, .int v_strip_count])), (a_strip_items, .inl (k_strip_items, 800, .inl f_strip_items)), (a_told, .inr (0, [.ref a_told_items, .int s8])), (a_told_items, .inl (k_told_items, 260, .inl s9))]) [0, 1, 2, 3, 4] rfl
        have hD9 := hD.sub (ws' := [(a_this, .inr (2, [.ref a_strip, .ref a_told, .int v_fromBack, .int v_set, .int v_shifted])), (a_strip, .inr (0, [.ref a_strip_items, .int v_strip_count])), (a_strip_items, .inl (k_strip_items, 800, .inl f_strip_items)), (a_told, .inr (0, [.ref a_told_items, .int s8])), (a_told_items, .inl (k_told_items, 260, .inl s9))]) [0, 1, 2, 3, 4] (by decide) rfl
        exact W.zret (v := 0) (ty := .boolean) hx hb hr rfl (fun t ht hW => ⟨⟨0, (s8, s9), rfl, hw, by rw [ht]; exact hP9, va_K.moved hW.alike hK, hD9⟩, hS.F ht⟩) hS.2.2 d_Re_isThirteen_22
-- LineCodes$Reader.isLastAt(I)Z
def w_Re_isLastAt (post : Int32 → Prop) (v_strip_count : Int32) (f_strip_items : Nat → Int32) (x1 : Int32) : Prop := w_Re_sumOf (fun r1 => w_Re_countsOf (fun r2 => (¬ r2 = 2331112 → post 0) ∧ (r2 = 2331112 → post 1)) v_strip_count f_strip_items x1 7 13 r1) v_strip_count f_strip_items x1 7
abbrev rm_Re_isLastAt : Room := { frames := 2, cells := 0, slots := 0, locals := 48 }
set_option maxHeartbeats 4000000 in
set_option maxRecDepth 100000 in
theorem met_Re_isLastAt (l : Launch) (D : va_G) (Z : (Nat → Prop) → State → Heap → Prop) (hz : zk Z) (ad : Nat → Nat) (hk : zs Z ad) (a_this : Nat) (a_strip : Nat) (a_strip_items : Nat) (a_told : Nat) (a_told_items : Nat) (k_strip_items : ClassId) (k_told_items : ClassId) (v_fromBack : Int32) (v_set : Int32) (v_shifted : Int32) (v_strip_count : Int32) (f_strip_items : Nat → Int32) (v_told_count : Int32) (f_told_items : Nat → Int32) (x1 : Int32) {post : Int32 → Prop} (hw : w_Re_isLastAt post v_strip_count f_strip_items x1) : Met l y_Re_isLastAt ws_Re_isLastAt rm_Re_isLastAt (va_Pc [.ref a_this, .int x1] (ro_ D vwCl [(k_strip_items, .int), (k_told_items, .int)] [(a_this, .inr (2, [.ref a_strip, .ref a_told, .int v_fromBack, .int v_set, .int v_shifted])), (a_strip, .inr (0, [.ref a_strip_items, .int v_strip_count])), (a_strip_items, .inl (k_strip_items, 800, .inl f_strip_items)), (a_told, .inr (0, [.ref a_told_items, .int v_told_count])), (a_told_items, .inl (k_told_items, 260, .inl f_told_items))] (Z))) (vp_Si post) 0 0 (fun _ => False) := by
  refine Met.ofW (cc := c_Re_isLastAt) (maxL := 3) (ret := (some .boolean)) (by decide) rfl ?_
  intro p e s m args below meth c s₁ B hml hv
  obtain ⟨rfl, hP, hK, hZ⟩ := hv
  have hx := B.exec
  have hb := B.bytes
  have hr := B.returns
  have hts0 := atoms_spec (ws := ws_Re_isLastAt) B.pre
  have hts := fun (w : Cond) (h : w ∈ tb) => hts0 w (List.mem_cons_of_mem _ h)
  have hown : s.vm.findClass R_Re = some m.cls := findClass_of_methodNamed B.named
  have hlocks := B.notSynchronized
  have hS : va_S (fun _ => False) s.heap s.heap [] := va_S.rf
  have hl := lv_entry ([.ref a_this, .int x1]) (n := 3) (Nat.le_of_ble_eq_true rfl)
  rw [lg_entry_eq]
  generalize (lg_sl ([.ref a_this, .int x1]) ++ List.replicate (3 - (lg_sl ([.ref a_this, .int x1])).length) Slot.unset).toArray = ls at hl ⊢
  have hl : lv_has ls 3 [(0, .ref a_this), (1, .int x1)] := hl
  unfold w_Re_isLastAt at hw
  refine lv_aload_n hx hb d_Re_isLastAt_0 rfl (lv_at hl 0 rfl) ?_
  refine lv_iload_n hx hb d_Re_isLastAt_1 rfl (lv_at hl 1 rfl) ?_
  refine lv_bipush (v := 7) hx hb d_Re_isLastAt_2 (by decide) ?_
  refine k_roVi (As := [.int x1, .int 7]) (rest := []) hz [0, 1, 2, 3, 4] [0, 1] 0 2 ⟨hx, hb, hml, hown, hts⟩ (met_Re_sumOf l D Z hz ad hk a_this a_strip a_strip_items a_told a_told_items k_strip_items k_told_items v_fromBack v_set v_shifted v_strip_count f_strip_items v_told_count f_told_items x1 7 hw) (cwV 2 hts (g_V mm_269 mm_271 mm_11 mm_45 mm_272) rfl rfl rfl hd_Re_sumOf ⟨Nat.le_of_ble_eq_true rfl, Nat.le_of_ble_eq_true rfl⟩) hP hK hZ hS rfl rfl rfl rfl rfl hl.1 rfl (Nat.le_of_ble_eq_true rfl) d_Re_isLastAt_4 ⟨Nat.le_of_ble_eq_true rfl, Nat.le_of_ble_eq_true rfl⟩ (fun r1 hw => ?_)
  refine lv_istore_n (lv' := [(2, .int r1), (0, .ref a_this), (1, .int x1)]) hx hb d_Re_isLastAt_7 rfl hl (by decide) rfl (fun ls hl => ?_)
  refine lv_aload_n hx hb d_Re_isLastAt_8 rfl (lv_at hl 1 rfl) ?_
  refine lv_iload_n hx hb d_Re_isLastAt_9 rfl (lv_at hl 2 rfl) ?_
  refine lv_bipush (v := 7) hx hb d_Re_isLastAt_10 (by decide) ?_
  refine lv_bipush (v := 13) hx hb d_Re_isLastAt_12 (by decide) ?_
  refine lv_iload_n hx hb d_Re_isLastAt_14 rfl (lv_at hl 0 rfl) ?_
  refine k_roVi (As := [.int x1, .int 7, .int 13, .int r1]) (rest := []) hz [0, 1, 2, 3, 4] [0, 1] 0 2 ⟨hx, hb, hml, hown, hts⟩ (met_Re_countsOf l D Z hz ad hk a_this a_strip a_strip_items a_told a_told_items k_strip_items k_told_items v_fromBack v_set v_shifted v_strip_count f_strip_items v_told_count f_told_items x1 7 13 r1 hw) (cwV 4 hts (g_V mm_274 mm_276 mm_12 mm_45 mm_277) rfl rfl rfl hd_Re_countsOf ⟨Nat.le_of_ble_eq_true rfl, Nat.le_of_ble_eq_true rfl⟩) hP hK hZ hS rfl rfl rfl rfl rfl hl.1 rfl (Nat.le_of_ble_eq_true rfl) d_Re_isLastAt_15 ⟨Nat.le_of_ble_eq_true rfl, Nat.le_of_ble_eq_true rfl⟩ (fun r2 hw => ?_)
  refine lv_ldc (v := 2331112) hx hb hown (hts _ mm_319) d_Re_isLastAt_18 ?_
  refine lv_icmp_ne (tgt := 27) hx hb d_Re_isLastAt_20 (by decide) (fun c3 => ?_) (fun c3 => ?_)
  · have hw := hw.1 c3
    refine lv_iconst (v := 0) hx hb d_Re_isLastAt_27 (by decide) ?_
    exact W.zret (v := 0) (ty := .boolean) hx hb hr rfl (fun t ht hW => ⟨0, rfl, hw, ht⟩) hS.2.2 d_Re_isLastAt_28
  · have hw := hw.2 c3
    refine lv_iconst (v := 1) hx hb d_Re_isLastAt_23 (by decide) ?_
    refine lv_goto (tgt := 28) hx hb d_Re_isLastAt_24 (by decide) ?_
    exact W.zret (v := 1) (ty := .boolean) hx hb hr rfl (fun t ht hW => ⟨1, rfl, hw, ht⟩) hS.2.2 d_Re_isLastAt_28
-- LineCodes$Reader.symbolAt(I)I
def w_Re_symbolAt (post : Int32 → Prop) (v_strip_count : Int32) (f_strip_items : Nat → Int32) (x1 : Int32) : Prop := w_Re_sumOf (fun r1 => w_Re_countsOf (fun r2 => w_Wi_symbolWith (fun r3 => post r3) r2) v_strip_count f_strip_items x1 6 11 r1) v_strip_count f_strip_items x1 6
abbrev rm_Re_symbolAt : Room := { frames := 2, cells := 0, slots := 0, locals := 48 }
set_option maxHeartbeats 4000000 in
set_option maxRecDepth 100000 in
theorem met_Re_symbolAt (l : Launch) (D : va_G) (Z : (Nat → Prop) → State → Heap → Prop) (hz : zk Z) (ad : Nat → Nat) (hk : zs Z ad) (a_this : Nat) (a_strip : Nat) (a_strip_items : Nat) (a_told : Nat) (a_told_items : Nat) (k_strip_items : ClassId) (k_told_items : ClassId) (v_fromBack : Int32) (v_set : Int32) (v_shifted : Int32) (v_strip_count : Int32) (f_strip_items : Nat → Int32) (v_told_count : Int32) (f_told_items : Nat → Int32) (x1 : Int32) {post : Int32 → Prop} (hw : w_Re_symbolAt post v_strip_count f_strip_items x1) : Met l y_Re_symbolAt ws_Re_symbolAt rm_Re_symbolAt (va_Pc [.ref a_this, .int x1] (ro_ D vwCl [(k_strip_items, .int), (k_told_items, .int)] [(a_this, .inr (2, [.ref a_strip, .ref a_told, .int v_fromBack, .int v_set, .int v_shifted])), (a_strip, .inr (0, [.ref a_strip_items, .int v_strip_count])), (a_strip_items, .inl (k_strip_items, 800, .inl f_strip_items)), (a_told, .inr (0, [.ref a_told_items, .int v_told_count])), (a_told_items, .inl (k_told_items, 260, .inl f_told_items))] (Z))) (vp_Si post) 0 0 (fun _ => False) := by
  refine Met.ofW (cc := c_Re_symbolAt) (maxL := 3) (ret := (some .int)) (by decide) rfl ?_
  intro p e s m args below meth c s₁ B hml hv
  obtain ⟨rfl, hP, hK, hZ⟩ := hv
  have hx := B.exec
  have hb := B.bytes
  have hr := B.returns
  have hts0 := atoms_spec (ws := ws_Re_symbolAt) B.pre
  have hts := fun (w : Cond) (h : w ∈ tb) => hts0 w (List.mem_cons_of_mem _ h)
  have hown : s.vm.findClass R_Re = some m.cls := findClass_of_methodNamed B.named
  have hlocks := B.notSynchronized
  have hS : va_S (fun _ => False) s.heap s.heap [] := va_S.rf
  have hl := lv_entry ([.ref a_this, .int x1]) (n := 3) (Nat.le_of_ble_eq_true rfl)
  rw [lg_entry_eq]
  generalize (lg_sl ([.ref a_this, .int x1]) ++ List.replicate (3 - (lg_sl ([.ref a_this, .int x1])).length) Slot.unset).toArray = ls at hl ⊢
  have hl : lv_has ls 3 [(0, .ref a_this), (1, .int x1)] := hl
  unfold w_Re_symbolAt at hw
  refine lv_aload_n hx hb d_Re_symbolAt_0 rfl (lv_at hl 0 rfl) ?_
  refine lv_iload_n hx hb d_Re_symbolAt_1 rfl (lv_at hl 1 rfl) ?_
  refine lv_bipush (v := 6) hx hb d_Re_symbolAt_2 (by decide) ?_
  refine k_roVi (As := [.int x1, .int 6]) (rest := []) hz [0, 1, 2, 3, 4] [0, 1] 0 2 ⟨hx, hb, hml, hown, hts⟩ (met_Re_sumOf l D Z hz ad hk a_this a_strip a_strip_items a_told a_told_items k_strip_items k_told_items v_fromBack v_set v_shifted v_strip_count f_strip_items v_told_count f_told_items x1 6 hw) (cwV 2 hts (g_V mm_269 mm_271 mm_11 mm_45 mm_272) rfl rfl rfl hd_Re_sumOf ⟨Nat.le_of_ble_eq_true rfl, Nat.le_of_ble_eq_true rfl⟩) hP hK hZ hS rfl rfl rfl rfl rfl hl.1 rfl (Nat.le_of_ble_eq_true rfl) d_Re_symbolAt_4 ⟨Nat.le_of_ble_eq_true rfl, Nat.le_of_ble_eq_true rfl⟩ (fun r1 hw => ?_)
  refine lv_istore_n (lv' := [(2, .int r1), (0, .ref a_this), (1, .int x1)]) hx hb d_Re_symbolAt_7 rfl hl (by decide) rfl (fun ls hl => ?_)
  refine lv_aload_n hx hb d_Re_symbolAt_8 rfl (lv_at hl 1 rfl) ?_
  refine lv_iload_n hx hb d_Re_symbolAt_9 rfl (lv_at hl 2 rfl) ?_
  refine lv_bipush (v := 6) hx hb d_Re_symbolAt_10 (by decide) ?_
  refine lv_bipush (v := 11) hx hb d_Re_symbolAt_12 (by decide) ?_
  refine lv_iload_n hx hb d_Re_symbolAt_14 rfl (lv_at hl 0 rfl) ?_
  refine k_roVi (As := [.int x1, .int 6, .int 11, .int r1]) (rest := []) hz [0, 1, 2, 3, 4] [0, 1] 0 2 ⟨hx, hb, hml, hown, hts⟩ (met_Re_countsOf l D Z hz ad hk a_this a_strip a_strip_items a_told a_told_items k_strip_items k_told_items v_fromBack v_set v_shifted v_strip_count f_strip_items v_told_count f_told_items x1 6 11 r1 hw) (cwV 4 hts (g_V mm_274 mm_276 mm_12 mm_45 mm_277) rfl rfl rfl hd_Re_countsOf ⟨Nat.le_of_ble_eq_true rfl, Nat.le_of_ble_eq_true rfl⟩) hP hK hZ hS rfl rfl rfl rfl rfl hl.1 rfl (Nat.le_of_ble_eq_true rfl) d_Re_symbolAt_15 ⟨Nat.le_of_ble_eq_true rfl, Nat.le_of_ble_eq_true rfl⟩ (fun r2 hw => ?_)
  refine k_roSi (As := [.int r2]) (rest := []) hz [] [] ⟨hx, hb, hml, hown, hts⟩ (met_Wi_symbolWith l D Z hz ad hk r2 hw) (va_cwS 1 hts (g_S mm_324 mm_325 mm_53 mm_326) rfl rfl rfl hd_Wi_symbolWith.2 ⟨Nat.le_of_ble_eq_true rfl, Nat.le_of_ble_eq_true rfl⟩) hP hK hZ hS rfl rfl rfl hl.1 rfl (Nat.le_of_ble_eq_true rfl) d_Re_symbolAt_18 ⟨Nat.le_of_ble_eq_true rfl, Nat.le_of_ble_eq_true rfl⟩ (fun r3 hw => ?_)
  exact W.iret (v := r3) hx hb hr (fun t ht hW => ⟨r3, rfl, hw, ht⟩) hS.2.2 d_Re_symbolAt_21
-- LineCodes$Reader.isSwitched(I)Z
def w_Re_isSwitched (post : Int32 → Int32 → Prop) (v_set : Int32) (x1 : Int32) : Prop := w_Se_setAfter (fun r1 => (¬ r1 = (-1) → post 1 r1) ∧ (r1 = (-1) → post 0 v_set)) v_set x1
abbrev rm_Re_isSwitched : Room := { frames := 1, cells := 0, slots := 0, locals := 22 }
set_option maxHeartbeats 4000000 in
set_option maxRecDepth 100000 in
theorem met_Re_isSwitched (l : Launch) (D : va_G) (Z : (Nat → Prop) → State → Heap → Prop) (hz : zk Z) (ad : Nat → Nat) (hk : zs Z ad) (a_this : Nat) (a_strip : Nat) (a_strip_items : Nat) (a_told : Nat) (a_told_items : Nat) (k_strip_items : ClassId) (k_told_items : ClassId) (v_fromBack : Int32) (v_set : Int32) (v_shifted : Int32) (v_strip_count : Int32) (f_strip_items : Nat → Int32) (v_told_count : Int32) (f_told_items : Nat → Int32) (x1 : Int32) (sz : Nat) {post : Int32 → Int32 → Prop} (hw : w_Re_isSwitched post v_set x1) : Met l y_Re_isSwitched ws_Re_isSwitched rm_Re_isSwitched (va_Pc [.ref a_this, .int x1] (rw_ D vwCl [(k_strip_items, .int), (k_told_items, .int)] [(a_this, .inr (2, [.ref a_strip, .ref a_told, .int v_fromBack, .int v_set, .int v_shifted])), (a_strip, .inr (0, [.ref a_strip_items, .int v_strip_count])), (a_strip_items, .inl (k_strip_items, 800, .inl f_strip_items)), (a_told, .inr (0, [.ref a_told_items, .int v_told_count])), (a_told_items, .inl (k_told_items, 260, .inl f_told_items))] (Z) sz)) (va_Qi (fun (r : Int32) (u : Int32) => post r u) (fun u t => at_ D vwCl [(k_strip_items, .int), (k_told_items, .int)] (va_A [(a_this, .inr (2, [.ref a_strip, .ref a_told, .int v_fromBack, .int v_set, .int v_shifted])), (a_strip, .inr (0, [.ref a_strip_items, .int v_strip_count])), (a_strip_items, .inl (k_strip_items, 800, .inl f_strip_items)), (a_told, .inr (0, [.ref a_told_items, .int v_told_count])), (a_told_items, .inl (k_told_items, 260, .inl f_told_items))] sz) [(a_this, .inr (2, [.ref a_strip, .ref a_told, .int v_fromBack, .int u, .int v_shifted])), (a_strip, .inr (0, [.ref a_strip_items, .int v_strip_count])), (a_strip_items, .inl (k_strip_items, 800, .inl f_strip_items)), (a_told, .inr (0, [.ref a_told_items, .int v_told_count])), (a_told_items, .inl (k_told_items, 260, .inl f_told_items))] t) (va_A [(a_this, .inr (2, [.ref a_strip, .ref a_told, .int v_fromBack, .int v_set, .int v_shifted])), (a_strip, .inr (0, [.ref a_strip_items, .int v_strip_count])), (a_strip_items, .inl (k_strip_items, 800, .inl f_strip_items)), (a_told, .inr (0, [.ref a_told_items, .int v_told_count])), (a_told_items, .inl (k_told_items, 260, .inl f_told_items))] sz)) 0 0 (va_A [(a_this, .inr (2, [.ref a_strip, .ref a_told, .int v_fromBack, .int v_set, .int v_shifted])), (a_strip, .inr (0, [.ref a_strip_items, .int v_strip_count])), (a_strip_items, .inl (k_strip_items, 800, .inl f_strip_items)), (a_told, .inr (0, [.ref a_told_items, .int v_told_count])), (a_told_items, .inl (k_told_items, 260, .inl f_told_items))] sz) := by
  refine Met.ofW (cc := c_Re_isSwitched) (maxL := 3) (ret := (some .boolean)) (by decide) rfl ?_
  intro p e s m args below meth c s₁ B hml hv
  obtain ⟨rfl, hsz, hP, hK, hD0, hZ⟩ := hv
  have hx := B.exec
  have hb := B.bytes
  have hr := B.returns
  have hts0 := atoms_spec (ws := ws_Re_isSwitched) B.pre
  have hts := fun (w : Cond) (h : w ∈ tb) => hts0 w (List.mem_cons_of_mem _ h)
  have hown : s.vm.findClass R_Re = some m.cls := findClass_of_methodNamed B.named
  have hlocks := B.notSynchronized
  subst hsz
  have hD := hD0.self (sz := s.heap.size)
  generalize hAe : va_A [(a_this, .inr (2, [.ref a_strip, .ref a_told, .int v_fromBack, .int v_set, .int v_shifted])), (a_strip, .inr (0, [.ref a_strip_items, .int v_strip_count])), (a_strip_items, .inl (k_strip_items, 800, .inl f_strip_items)), (a_told, .inr (0, [.ref a_told_items, .int v_told_count])), (a_told_items, .inl (k_told_items, 260, .inl f_told_items))] s.heap.size = A at hD hZ ⊢
  have hA : ∀ q : Nat, s.heap.size ≤ q → A q := fun q h => by rw [← hAe]; exact Or.inr h
  have hS : va_S A s.heap s.heap [] := va_S.rf
  have hl := lv_entry ([.ref a_this, .int x1]) (n := 3) (Nat.le_of_ble_eq_true rfl)
  rw [lg_entry_eq]
  generalize (lg_sl ([.ref a_this, .int x1]) ++ List.replicate (3 - (lg_sl ([.ref a_this, .int x1])).length) Slot.unset).toArray = ls at hl ⊢
  have hl : lv_has ls 3 [(0, .ref a_this), (1, .int x1)] := hl
  unfold w_Re_isSwitched at hw
  refine lv_aload_n hx hb d_Re_isSwitched_0 rfl (lv_at hl 0 rfl) ?_
  refine va_get (D := D) (ci := 2) (v := .int v_set) (C := R_Re) (T := T_Re) (N := 5) hx hb hts in_Re hown hK hP 0 rfl rfl 3 (by decide) (hts _ mm_108) (fun _ h9 => h9) rfl d_Re_isSwitched_1 ?_
  refine lv_iload_n hx hb d_Re_isSwitched_4 rfl (lv_at hl 1 rfl) ?_
  refine k_roSi (As := [.int v_set, .int x1]) (rest := []) hz [] [] ⟨hx, hb, hml, hown, hts⟩ (met_Se_setAfter l D Z hz ad hk v_set x1 hw) (va_cwS 2 hts (g_S mm_344 mm_345 mm_51 mm_346) rfl rfl rfl hd_Se_setAfter.2 ⟨Nat.le_of_ble_eq_true rfl, Nat.le_of_ble_eq_true rfl⟩) hP hK hZ hS rfl rfl rfl hl.1 rfl (Nat.le_of_ble_eq_true rfl) d_Re_isSwitched_5 ⟨Nat.le_of_ble_eq_true rfl, Nat.le_of_ble_eq_true rfl⟩ (fun r1 hw => ?_)
  refine lv_istore_n (lv' := [(2, .int r1), (0, .ref a_this), (1, .int x1)]) hx hb d_Re_isSwitched_8 rfl hl (by decide) rfl (fun ls hl => ?_)
  refine lv_iload_n hx hb d_Re_isSwitched_9 rfl (lv_at hl 0 rfl) ?_
  refine lv_iconst (v := (-1)) hx hb d_Re_isSwitched_10 (by decide) ?_
  refine lv_icmp_ne (tgt := 16) hx hb d_Re_isSwitched_11 (by decide) (fun c2 => ?_) (fun c2 => ?_)
  · have hw := hw.1 c2
    refine lv_aload_n hx hb d_Re_isSwitched_16 rfl (lv_at hl 1 rfl) ?_
    refine lv_iload_n hx hb d_Re_isSwitched_17 rfl (lv_at hl 0 rfl) ?_
    refine va_put (D := D) (ci := 2) (v := .int r1) (ty := .int) (C := R_Re) (T := T_Re) (N := 5) hx hb hts in_Re ty_Re tk_Re nn_Re hown hK hP hD hS 0 rfl rfl 3 (by decide) (hts _ mm_108) (fun _ h9 => h9) rfl (by decide +kernel) rfl rfl (Nat.le_of_ble_eq_true rfl) d_Re_isSwitched_18 (fun H locs hP hD hS => ?_)
    have hP : va_P D vwCl [(a_this, .inr (2, [.ref a_strip, .ref a_told, .int v_fromBack, .int r1, .int v_shifted])), (a_strip, .inr (0, [.ref a_strip_items, .int v_strip_count])), (a_strip_items, .inl (k_strip_items, 800, .inl f_strip_items)), (a_told, .inr (0, [.ref a_told_items, .int v_told_count])), (a_told_items, .inl (k_told_items, 260, .inl f_told_items))] H := hP
    have hD : va_D A [(a_this, .inr (2, [.ref a_strip, .ref a_told, .int v_fromBack, .int r1, .int v_shifted])), (a_strip, .inr (0, [.ref a_strip_items, .int v_strip_count])), (a_strip_items, .inl (k_strip_items, 800, .inl f_strip_items)), (a_told, .inr (0, [.ref a_told_items, .int v_told_count])), (a_told_items, .inl (k_told_items, 260, .inl f_told_items))] := hD
    refine lv_iconst (v := 1) hx hb d_Re_isSwitched_21 (by decide) ?_
    have hP9 := hP.sub (ws' := [(a_this, .inr (2, [.ref a_strip, .ref a_told, .int v_fromBack, .int r1, .int v_shifted])), (a_strip, .inr (0, [.ref a_strip_items, .int v_strip_count])), (a_strip_items, .inl (k_strip_items, 800, .inl f_strip_items)), (a_told, .inr (0, [.ref a_told_items, .int v_told_count])), (a_told_items, .inl (k_told_items, 260, .inl f_told_items))]) [0, 1, 2, 3, 4] rfl
    have hD9 := hD.sub (ws' := [(a_this, .inr (2, [.ref a_strip, .ref a_told, .int v_fromBack, .int r1, .int v_shifted])), (a_strip, .inr (0, [.ref a_strip_items, .int v_strip_count])), (a_strip_items, .inl (k_strip_items, 800, .inl f_strip_items)), (a_told, .inr (0, [.ref a_told_items, .int v_told_count])), (a_told_items, .inl (k_told_items, 260, .inl f_told_items))]) [0, 1, 2, 3, 4] (by decide) rfl
    exact W.zret (v := 1) (ty := .boolean) hx hb hr rfl (fun t ht hW => ⟨⟨1, r1, rfl, hw, by rw [ht]; exact hP9, va_K.moved hW.alike hK, hD9⟩, hS.F ht⟩) hS.2.2 d_Re_isSwitched_22
  · have hw := hw.2 c2
    refine lv_iconst (v := 0) hx hb d_Re_isSwitched_14 (by decide) ?_
    have hP9 := hP.sub (ws' := [(a_this, .inr (2, [.ref a_strip, .ref a_told, .int v_fromBack, .int v_set, .int v_shifted])), (a_strip, .inr (0, [.ref a_strip_items, .int v_strip_count])), (a_strip_items, .inl (k_strip_items, 800, .inl f_strip_items)), (a_told, .inr (0, [.ref a_told_items, .int v_told_count])), (a_told_items, .inl (k_told_items, 260, .inl f_told_items))]) [0, 1, 2, 3, 4] rfl
    have hD9 := hD.sub (ws' := [(a_this, .inr (2, [.ref a_strip, .ref a_told, .int v_fromBack, .int v_set, .int v_shifted])), (a_strip, .inr (0, [.ref a_strip_items, .int v_strip_count])), (a_strip_items, .inl (k_strip_items, 800, .inl f_strip_items)), (a_told, .inr (0, [.ref a_told_items, .int v_told_count])), (a_told_items, .inl (k_told_items, 260, .inl f_told_items))]) [0, 1, 2, 3, 4] (by decide) rfl
    exact W.zret (v := 0) (ty := .boolean) hx hb hr rfl (fun t ht hW => ⟨⟨0, v_set, rfl, hw, by rw [ht]; exact hP9, va_K.moved hW.alike hK, hD9⟩, hS.F ht⟩) hS.2.2 d_Re_isSwitched_15
-- LineCodes$Reader.isTold(I)Z
def w_Re_isTold (post : Int32 → Int32 → Int32 → Int32 → (Nat → Int32) → Prop) (v_set : Int32) (v_shifted : Int32) (v_told_count : Int32) (f_told_items : Nat → Int32) (x1 : Int32) : Prop := (v_shifted = 0 → (¬ x1 = 102 → (¬ v_set = 2 → (95 < x1 → (¬ x1 = 98 → w_Re_isSwitched (fun r6 s7 => vz r6 ∧ post r6 s7 v_shifted v_told_count f_told_items) v_set x1) ∧ (x1 = 98 → post 1 v_set 1 v_told_count f_told_items)) ∧ (¬ 95 < x1 → w_Se_signOf (fun r8 => w_It_add (fun r9 s10 s11 => vz r9 ∧ post r9 v_set v_shifted s10 s11) 260 v_told_count f_told_items r8) v_set x1)) ∧ (v_set = 2 → (99 < x1 → (95 < x1 → (¬ x1 = 98 → w_Re_isSwitched (fun r15 s16 => vz r15 ∧ post r15 s16 v_shifted v_told_count f_told_items) v_set x1) ∧ (x1 = 98 → post 1 v_set 1 v_told_count f_told_items)) ∧ (¬ 95 < x1 → w_Se_signOf (fun r17 => w_It_add (fun r18 s19 s20 => vz r18 ∧ post r18 v_set v_shifted s19 s20) 260 v_told_count f_told_items r17) v_set x1)) ∧ (¬ 99 < x1 → w_It_add (fun r21 s22 s23 => (r21 = 0 → post 0 v_set v_shifted s22 s23) ∧ (¬ r21 = 0 → w_It_add (fun r25 s26 s27 => (r25 = 0 → post 0 v_set v_shifted s26 s27) ∧ (¬ r25 = 0 → post 1 v_set v_shifted s26 s27)) 260 s22 s23 (48 + (x1 - x1 / 10 * 10)))) 260 v_told_count f_told_items (48 + (x1 / 10))))) ∧ (x1 = 102 → w_It_add (fun r29 s30 s31 => vz r29 ∧ post r29 v_set v_shifted s30 s31) 260 v_told_count f_told_items 128)) ∧ (¬ v_shifted = 0 → (95 < x1 → post 0 v_set 0 v_told_count f_told_items) ∧ (¬ 95 < x1 → w_Se_otherOfAB (fun r33 => w_Se_signOf (fun r34 => w_It_add (fun r35 s36 s37 => (r35 = 0 → post 0 v_set 0 s36 s37) ∧ (¬ r35 = 0 → post 1 v_set 0 s36 s37)) 260 v_told_count f_told_items r34) r33 x1) v_set))
abbrev rm_Re_isTold : Room := { frames := 2, cells := 0, slots := 0, locals := 44 }
set_option maxHeartbeats 4000000 in
set_option maxRecDepth 100000 in
theorem met_Re_isTold (l : Launch) (D : va_G) (Z : (Nat → Prop) → State → Heap → Prop) (hz : zk Z) (ad : Nat → Nat) (hk : zs Z ad) (a_this : Nat) (a_strip : Nat) (a_strip_items : Nat) (a_told : Nat) (a_told_items : Nat) (k_strip_items : ClassId) (k_told_items : ClassId) (v_fromBack : Int32) (v_set : Int32) (v_shifted : Int32) (v_strip_count : Int32) (f_strip_items : Nat → Int32) (v_told_count : Int32) (f_told_items : Nat → Int32) (x1 : Int32) (sz : Nat) {post : Int32 → Int32 → Int32 → Int32 → (Nat → Int32) → Prop} (hw : w_Re_isTold post v_set v_shifted v_told_count f_told_items x1) : Met l y_Re_isTold ws_Re_isTold rm_Re_isTold (va_Pc [.ref a_this, .int x1] (rw_ D vwCl [(k_strip_items, .int), (k_told_items, .int)] [(a_this, .inr (2, [.ref a_strip, .ref a_told, .int v_fromBack, .int v_set, .int v_shifted])), (a_strip, .inr (0, [.ref a_strip_items, .int v_strip_count])), (a_strip_items, .inl (k_strip_items, 800, .inl f_strip_items)), (a_told, .inr (0, [.ref a_told_items, .int v_told_count])), (a_told_items, .inl (k_told_items, 260, .inl f_told_items))] (Z) sz)) (va_Qi (fun (r : Int32) (u : Int32 × Int32 × Int32 × (Nat → Int32)) => post r u.1 u.2.1 u.2.2.1 u.2.2.2) (fun u t => at_ D vwCl [(k_strip_items, .int), (k_told_items, .int)] (va_A [(a_this, .inr (2, [.ref a_strip, .ref a_told, .int v_fromBack, .int v_set, .int v_shifted])), (a_strip, .inr (0, [.ref a_strip_items, .int v_strip_count])), (a_strip_items, .inl (k_strip_items, 800, .inl f_strip_items)), (a_told, .inr (0, [.ref a_told_items, .int v_told_count])), (a_told_items, .inl (k_told_items, 260, .inl f_told_items))] sz) [(a_this, .inr (2, [.ref a_strip, .ref a_told, .int v_fromBack, .int u.1, .int u.2.1])), (a_strip, .inr (0, [.ref a_strip_items, .int v_strip_count])), (a_strip_items, .inl (k_strip_items, 800, .inl f_strip_items)), (a_told, .inr (0, [.ref a_told_items, .int u.2.2.1])), (a_told_items, .inl (k_told_items, 260, .inl u.2.2.2))] t) (va_A [(a_this, .inr (2, [.ref a_strip, .ref a_told, .int v_fromBack, .int v_set, .int v_shifted])), (a_strip, .inr (0, [.ref a_strip_items, .int v_strip_count])), (a_strip_items, .inl (k_strip_items, 800, .inl f_strip_items)), (a_told, .inr (0, [.ref a_told_items, .int v_told_count])), (a_told_items, .inl (k_told_items, 260, .inl f_told_items))] sz)) 0 0 (va_A [(a_this, .inr (2, [.ref a_strip, .ref a_told, .int v_fromBack, .int v_set, .int v_shifted])), (a_strip, .inr (0, [.ref a_strip_items, .int v_strip_count])), (a_strip_items, .inl (k_strip_items, 800, .inl f_strip_items)), (a_told, .inr (0, [.ref a_told_items, .int v_told_count])), (a_told_items, .inl (k_told_items, 260, .inl f_told_items))] sz) := by
  refine Met.ofW (cc := c_Re_isTold) (maxL := 2) (ret := (some .boolean)) (by decide) rfl ?_
  intro p e s m args below meth c s₁ B hml hv
  obtain ⟨rfl, hsz, hP, hK, hD0, hZ⟩ := hv
  have hx := B.exec
  have hb := B.bytes
  have hr := B.returns
  have hts0 := atoms_spec (ws := ws_Re_isTold) B.pre
  have hts := fun (w : Cond) (h : w ∈ tb) => hts0 w (List.mem_cons_of_mem _ h)
  have hown : s.vm.findClass R_Re = some m.cls := findClass_of_methodNamed B.named
  have hlocks := B.notSynchronized
  subst hsz
  have hD := hD0.self (sz := s.heap.size)
  generalize hAe : va_A [(a_this, .inr (2, [.ref a_strip, .ref a_told, .int v_fromBack, .int v_set, .int v_shifted])), (a_strip, .inr (0, [.ref a_strip_items, .int v_strip_count])), (a_strip_items, .inl (k_strip_items, 800, .inl f_strip_items)), (a_told, .inr (0, [.ref a_told_items, .int v_told_count])), (a_told_items, .inl (k_told_items, 260, .inl f_told_items))] s.heap.size = A at hD hZ ⊢
  have hA : ∀ q : Nat, s.heap.size ≤ q → A q := fun q h => by rw [← hAe]; exact Or.inr h
  have hS : va_S A s.heap s.heap [] := va_S.rf
  have hl := lv_entry ([.ref a_this, .int x1]) (n := 2) (Nat.le_of_ble_eq_true rfl)
  rw [lg_entry_eq]
  generalize (lg_sl ([.ref a_this, .int x1]) ++ List.replicate (2 - (lg_sl ([.ref a_this, .int x1])).length) Slot.unset).toArray = ls at hl ⊢
  have hl : lv_has ls 2 [(0, .ref a_this), (1, .int x1)] := hl
  unfold w_Re_isTold at hw
  refine lv_aload_n hx hb d_Re_isTold_0 rfl (lv_at hl 0 rfl) ?_
  refine va_get (D := D) (ci := 2) (v := .int v_shifted) (C := R_Re) (T := T_Re) (N := 5) hx hb hts in_Re hown hK hP 0 rfl rfl 4 (by decide) (hts _ mm_109) (fun _ h9 => h9) rfl d_Re_isTold_1 ?_
  refine lv_if_eq (tgt := 45) hx hb d_Re_isTold_4 (by decide) (fun c1 => ?_) (fun c1 => ?_)
  · have hw := hw.1 c1
    refine lv_iload_n hx hb d_Re_isTold_45 rfl (lv_at hl 1 rfl) ?_
    refine lv_bipush (v := 102) hx hb d_Re_isTold_46 (by decide) ?_
    refine lv_icmp_ne (tgt := 62) hx hb d_Re_isTold_48 (by decide) (fun c2 => ?_) (fun c2 => ?_)
    · have hw := hw.1 c2
      refine lv_aload_n hx hb d_Re_isTold_62 rfl (lv_at hl 0 rfl) ?_
      refine va_get (D := D) (ci := 2) (v := .int v_set) (C := R_Re) (T := T_Re) (N := 5) hx hb hts in_Re hown hK hP 0 rfl rfl 3 (by decide) (hts _ mm_108) (fun _ h9 => h9) rfl d_Re_isTold_63 ?_
      refine lv_iconst (v := 2) hx hb d_Re_isTold_66 (by decide) ?_
      refine lv_icmp_ne (tgt := 116) hx hb d_Re_isTold_67 (by decide) (fun c3 => ?_) (fun c3 => ?_)
      · have hw := hw.1 c3
        refine lv_iload_n hx hb d_Re_isTold_116 rfl (lv_at hl 1 rfl) ?_
        refine lv_bipush (v := 95) hx hb d_Re_isTold_117 (by decide) ?_
        refine lv_icmp_gt (tgt := 138) hx hb d_Re_isTold_119 (by decide) (fun c4 => ?_) (fun c4 => ?_)
        · have hw := hw.1 c4
          refine lv_iload_n hx hb d_Re_isTold_138 rfl (lv_at hl 1 rfl) ?_
          refine lv_bipush (v := 98) hx hb d_Re_isTold_139 (by decide) ?_
          refine lv_icmp_ne (tgt := 151) hx hb d_Re_isTold_141 (by decide) (fun c5 => ?_) (fun c5 => ?_)
          · have hw := hw.1 c5
            refine lv_aload_n hx hb d_Re_isTold_151 rfl (lv_at hl 0 rfl) ?_
            refine lv_iload_n hx hb d_Re_isTold_152 rfl (lv_at hl 1 rfl) ?_
            refine k_rwVi (As := [.int x1]) (rest := []) (wr := []) hz [0, 1, 2, 3, 4] [] [0, 1] 0 2 ⟨hx, hb, hml, hown, hts⟩ (met_Re_isSwitched l D Z hz ad hk a_this a_strip a_strip_items a_told a_told_items k_strip_items k_told_items v_fromBack v_set v_shifted v_strip_count f_strip_items v_told_count f_told_items x1 _ hw) (cwV 1 hts (g_V mm_340 mm_342 mm_20 mm_45 mm_343) rfl rfl rfl hd_Re_isSwitched ⟨Nat.le_of_ble_eq_true rfl, Nat.le_of_ble_eq_true rfl⟩) hP hD hK hZ hS hA rfl rfl rfl rfl rfl (by decide) rfl rfl rfl rfl hl.1 rfl (Nat.le_of_ble_eq_true rfl) d_Re_isTold_153 ⟨Nat.le_of_ble_eq_true rfl, Nat.le_of_ble_eq_true rfl⟩ (fun r6 s7 H locs hw hP hD hS => ?_)
            try dsimp only at hw
            have hP : va_P D vwCl [(a_this, .inr (2, [.ref a_strip, .ref a_told, .int v_fromBack, .int s7, .int v_shifted])), (a_strip, .inr (0, [.ref a_strip_items, .int v_strip_count])), (a_strip_items, .inl (k_strip_items, 800, .inl f_strip_items)), (a_told, .inr (0, [.ref a_told_items, .int v_told_count])), (a_told_items, .inl (k_told_items, 260, .inl f_told_items))] H := hP
            have hD : va_D A [(a_this, .inr (2, [.ref a_strip, .ref a_told, .int v_fromBack, .int s7, .int v_shifted])), (a_strip, .inr (0, [.ref a_strip_items, .int v_strip_count])), (a_strip_items, .inl (k_strip_items, 800, .inl f_strip_items)), (a_told, .inr (0, [.ref a_told_items, .int v_told_count])), (a_told_items, .inl (k_told_items, 260, .inl f_told_items))] := hD
            have hz9 := hw.1
            have hw := hw.2
            have hP9 := hP.sub (ws' := [(a_this, .inr (2, [.ref a_strip, .ref a_told, .int v_fromBack, .int s7, .int v_shifted])), (a_strip, .inr (0, [.ref a_strip_items, .int v_strip_count])), (a_strip_items, .inl (k_strip_items, 800, .inl f_strip_items)), (a_told, .inr (0, [.ref a_told_items, .int v_told_count])), (a_told_items, .inl (k_told_items, 260, .inl f_told_items))]) [0, 1, 2, 3, 4] rfl
            have hD9 := hD.sub (ws' := [(a_this, .inr (2, [.ref a_strip, .ref a_told, .int v_fromBack, .int s7, .int v_shifted])), (a_strip, .inr (0, [.ref a_strip_items, .int v_strip_count])), (a_strip_items, .inl (k_strip_items, 800, .inl f_strip_items)), (a_told, .inr (0, [.ref a_told_items, .int v_told_count])), (a_told_items, .inl (k_told_items, 260, .inl f_told_items))]) [0, 1, 2, 3, 4] (by decide) rfl
            exact W.zret (v := r6) (ty := .boolean) hx hb hr (vz_n hz9) (fun t ht hW => ⟨⟨r6, (s7, v_shifted, v_told_count, f_told_items), rfl, hw, by rw [ht]; exact hP9, va_K.moved hW.alike hK, hD9⟩, hS.F ht⟩) hS.2.2 d_Re_isTold_156
          · have hw := hw.2 c5
            refine lv_aload_n hx hb d_Re_isTold_144 rfl (lv_at hl 0 rfl) ?_
            refine lv_iconst (v := 1) hx hb d_Re_isTold_145 (by decide) ?_
            refine va_put (D := D) (ci := 2) (v := .int 1) (ty := .boolean) (C := R_Re) (T := T_Re) (N := 5) hx hb hts in_Re ty_Re tk_Re nn_Re hown hK hP hD hS 0 rfl rfl 4 (by decide) (hts _ mm_109) (fun _ h9 => h9) rfl (by decide +kernel) rfl rfl (Nat.le_of_ble_eq_true rfl) d_Re_isTold_146 (fun H locs hP hD hS => ?_)
            have hP : va_P D vwCl [(a_this, .inr (2, [.ref a_strip, .ref a_told, .int v_fromBack, .int v_set, .int 1])), (a_strip, .inr (0, [.ref a_strip_items, .int v_strip_count])), (a_strip_items, .inl (k_strip_items, 800, .inl f_strip_items)), (a_told, .inr (0, [.ref a_told_items, .int v_told_count])), (a_told_items, .inl (k_told_items, 260, .inl f_told_items))] H := hP
            have hD : va_D A [(a_this, .inr (2, [.ref a_strip, .ref a_told, .int v_fromBack, .int v_set, .int 1])), (a_strip, .inr (0, [.ref a_strip_items, .int v_strip_count])), (a_strip_items, .inl (k_strip_items, 800, .inl f_strip_items)), (a_told, .inr (0, [.ref a_told_items, .int v_told_count])), (a_told_items, .inl (k_told_items, 260, .inl f_told_items))] := hD
            refine lv_iconst (v := 1) hx hb d_Re_isTold_149 (by decide) ?_
            have hP9 := hP.sub (ws' := [(a_this, .inr (2, [.ref a_strip, .ref a_told, .int v_fromBack, .int v_set, .int 1])), (a_strip, .inr (0, [.ref a_strip_items, .int v_strip_count])), (a_strip_items, .inl (k_strip_items, 800, .inl f_strip_items)), (a_told, .inr (0, [.ref a_told_items, .int v_told_count])), (a_told_items, .inl (k_told_items, 260, .inl f_told_items))]) [0, 1, 2, 3, 4] rfl
            have hD9 := hD.sub (ws' := [(a_this, .inr (2, [.ref a_strip, .ref a_told, .int v_fromBack, .int v_set, .int 1])), (a_strip, .inr (0, [.ref a_strip_items, .int v_strip_count])), (a_strip_items, .inl (k_strip_items, 800, .inl f_strip_items)), (a_told, .inr (0, [.ref a_told_items, .int v_told_count])), (a_told_items, .inl (k_told_items, 260, .inl f_told_items))]) [0, 1, 2, 3, 4] (by decide) rfl
            exact W.zret (v := 1) (ty := .boolean) hx hb hr rfl (fun t ht hW => ⟨⟨1, (v_set, 1, v_told_count, f_told_items), rfl, hw, by rw [ht]; exact hP9, va_K.moved hW.alike hK, hD9⟩, hS.F ht⟩) hS.2.2 d_Re_isTold_150
        · have hw := hw.2 c4
          refine lv_aload_n hx hb d_Re_isTold_122 rfl (lv_at hl 0 rfl) ?_
          refine va_get (D := D) (ci := 2) (v := .ref a_told) (C := R_Re) (T := T_Re) (N := 5) hx hb hts in_Re hown hK hP 0 rfl rfl 1 (by decide) (hts _ mm_106) (fun _ h9 => h9) rfl d_Re_isTold_123 ?_
          refine lv_aload_n hx hb d_Re_isTold_126 rfl (lv_at hl 0 rfl) ?_
          refine va_get (D := D) (ci := 2) (v := .int v_set) (C := R_Re) (T := T_Re) (N := 5) hx hb hts in_Re hown hK hP 0 rfl rfl 3 (by decide) (hts _ mm_108) (fun _ h9 => h9) rfl d_Re_isTold_127 ?_
          refine lv_iload_n hx hb d_Re_isTold_130 rfl (lv_at hl 1 rfl) ?_
          refine k_roSi (As := [.int v_set, .int x1]) (rest := [.ref a_told]) hz [] [] ⟨hx, hb, hml, hown, hts⟩ (met_Se_signOf l D Z hz ad hk v_set x1 hw) (va_cwS 2 hts (g_S mm_337 mm_338 mm_51 mm_339) rfl rfl rfl hd_Se_signOf.2 ⟨Nat.le_of_ble_eq_true rfl, Nat.le_of_ble_eq_true rfl⟩) hP hK hZ hS rfl rfl rfl hl.1 rfl (Nat.le_of_ble_eq_true rfl) d_Re_isTold_131 ⟨Nat.le_of_ble_eq_true rfl, Nat.le_of_ble_eq_true rfl⟩ (fun r8 hw => ?_)
          refine k_rwVi (As := [.int r8]) (rest := []) (wr := [(a_this, .inr (2, [.ref a_strip, .ref a_told, .int v_fromBack, .int v_set, .int v_shifted])), (a_strip, .inr (0, [.ref a_strip_items, .int v_strip_count])), (a_strip_items, .inl (k_strip_items, 800, .inl f_strip_items))]) hz [3, 4] [0, 1, 2] [1] 3 0 ⟨hx, hb, hml, hown, hts⟩ (met_It_add l D Z hz ad hk a_told a_told_items k_told_items 260 v_told_count f_told_items r8 _ hw) (cwV 1 hts (g_V mm_282 mm_203 mm_204 mm_42 mm_205) rfl rfl rfl hd_It_add ⟨Nat.le_of_ble_eq_true rfl, Nat.le_of_ble_eq_true rfl⟩) hP hD hK hZ hS hA rfl rfl rfl rfl rfl (by decide) rfl rfl rfl rfl hl.1 rfl (Nat.le_of_ble_eq_true rfl) d_Re_isTold_134 ⟨Nat.le_of_ble_eq_true rfl, Nat.le_of_ble_eq_true rfl⟩ (fun r9 u9 H locs hw hP hD hS => ?_)
          obtain ⟨s10, s11⟩ := u9
          try dsimp only at hw
          have hP : va_P D vwCl [(a_this, .inr (2, [.ref a_strip, .ref a_told, .int v_fromBack, .int v_set, .int v_shifted])), (a_strip, .inr (0, [.ref a_strip_items, .int v_strip_count])), (a_strip_items, .inl (k_strip_items, 800, .inl f_strip_items)), (a_told, .inr (0, [.ref a_told_items, .int s10])), (a_told_items, .inl (k_told_items, 260, .inl s11))] H := hP
          have hD : va_D A [(a_this, .inr (2, [.ref a_strip, .ref a_told, .int v_fromBack, .int v_set, .int v_shifted])), (a_strip, .inr (0, [.ref a_strip_items, .int v_strip_count])), (a_strip_items, .inl (k_strip_items, 800, .inl f_strip_items)), (a_told, .inr (0, [.ref a_told_items, .int s10])), (a_told_items, .inl (k_told_items, 260, .inl s11))] := hD
          have hz9 := hw.1
          have hw := hw.2
          have hP9 := hP.sub (ws' := [(a_this, .inr (2, [.ref a_strip, .ref a_told, .int v_fromBack, .int v_set, .int v_shifted])), (a_strip, .inr (0, [.ref a_strip_items, .int v_strip_count])), (a_strip_items, .inl (k_strip_items, 800, .inl f_strip_items)), (a_told, .inr (0, [.ref a_told_items, .int s10])), (a_told_items, .inl (k_told_items, 260, .inl s11))]) [0, 1, 2, 3, 4] rfl
          have hD9 := hD.sub (ws' := [(a_this, .inr (2, [.ref a_strip, .ref a_told, .int v_fromBack, .int v_set, .int v_shifted])), (a_strip, .inr (0, [.ref a_strip_items, .int v_strip_count])), (a_strip_items, .inl (k_strip_items, 800, .inl f_strip_items)), (a_told, .inr (0, [.ref a_told_items, .int s10])), (a_told_items, .inl (k_told_items, 260, .inl s11))]) [0, 1, 2, 3, 4] (by decide) rfl
          exact W.zret (v := r9) (ty := .boolean) hx hb hr (vz_n hz9) (fun t ht hW => ⟨⟨r9, (v_set, v_shifted, s10, s11), rfl, hw, by rw [ht]; exact hP9, va_K.moved hW.alike hK, hD9⟩, hS.F ht⟩) hS.2.2 d_Re_isTold_137
      · have hw := hw.2 c3
        refine lv_iload_n hx hb d_Re_isTold_70 rfl (lv_at hl 1 rfl) ?_
        refine lv_bipush (v := 99) hx hb d_Re_isTold_71 (by decide) ?_
        refine lv_icmp_gt (tgt := 116) hx hb d_Re_isTold_73 (by decide) (fun c12 => ?_) (fun c12 => ?_)
        · have hw := hw.1 c12
          refine lv_iload_n hx hb d_Re_isTold_116 rfl (lv_at hl 1 rfl) ?_
          refine lv_bipush (v := 95) hx hb d_Re_isTold_117 (by decide) ?_
          refine lv_icmp_gt (tgt := 138) hx hb d_Re_isTold_119 (by decide) (fun c13 => ?_) (fun c13 => ?_)
          · have hw := hw.1 c13
            refine lv_iload_n hx hb d_Re_isTold_138 rfl (lv_at hl 1 rfl) ?_
            refine lv_bipush (v := 98) hx hb d_Re_isTold_139 (by decide) ?_
            refine lv_icmp_ne (tgt := 151) hx hb d_Re_isTold_141 (by decide) (fun c14 => ?_) (fun c14 => ?_)
            · have hw := hw.1 c14
              refine lv_aload_n hx hb d_Re_isTold_151 rfl (lv_at hl 0 rfl) ?_
              refine lv_iload_n hx hb d_Re_isTold_152 rfl (lv_at hl 1 rfl) ?_
              refine k_rwVi (As := [.int x1]) (rest := []) (wr := []) hz [0, 1, 2, 3, 4] [] [0, 1] 0 2 ⟨hx, hb, hml, hown, hts⟩ (met_Re_isSwitched l D Z hz ad hk a_this a_strip a_strip_items a_told a_told_items k_strip_items k_told_items v_fromBack v_set v_shifted v_strip_count f_strip_items v_told_count f_told_items x1 _ hw) (cwV 1 hts (g_V mm_340 mm_342 mm_20 mm_45 mm_343) rfl rfl rfl hd_Re_isSwitched ⟨Nat.le_of_ble_eq_true rfl, Nat.le_of_ble_eq_true rfl⟩) hP hD hK hZ hS hA rfl rfl rfl rfl rfl (by decide) rfl rfl rfl rfl hl.1 rfl (Nat.le_of_ble_eq_true rfl) d_Re_isTold_153 ⟨Nat.le_of_ble_eq_true rfl, Nat.le_of_ble_eq_true rfl⟩ (fun r15 s16 H locs hw hP hD hS => ?_)
              try dsimp only at hw
              have hP : va_P D vwCl [(a_this, .inr (2, [.ref a_strip, .ref a_told, .int v_fromBack, .int s16, .int v_shifted])), (a_strip, .inr (0, [.ref a_strip_items, .int v_strip_count])), (a_strip_items, .inl (k_strip_items, 800, .inl f_strip_items)), (a_told, .inr (0, [.ref a_told_items, .int v_told_count])), (a_told_items, .inl (k_told_items, 260, .inl f_told_items))] H := hP
              have hD : va_D A [(a_this, .inr (2, [.ref a_strip, .ref a_told, .int v_fromBack, .int s16, .int v_shifted])), (a_strip, .inr (0, [.ref a_strip_items, .int v_strip_count])), (a_strip_items, .inl (k_strip_items, 800, .inl f_strip_items)), (a_told, .inr (0, [.ref a_told_items, .int v_told_count])), (a_told_items, .inl (k_told_items, 260, .inl f_told_items))] := hD
              have hz9 := hw.1
              have hw := hw.2
              have hP9 := hP.sub (ws' := [(a_this, .inr (2, [.ref a_strip, .ref a_told, .int v_fromBack, .int s16, .int v_shifted])), (a_strip, .inr (0, [.ref a_strip_items, .int v_strip_count])), (a_strip_items, .inl (k_strip_items, 800, .inl f_strip_items)), (a_told, .inr (0, [.ref a_told_items, .int v_told_count])), (a_told_items, .inl (k_told_items, 260, .inl f_told_items))]) [0, 1, 2, 3, 4] rfl
              have hD9 := hD.sub (ws' := [(a_this, .inr (2, [.ref a_strip, .ref a_told, .int v_fromBack, .int s16, .int v_shifted])), (a_strip, .inr (0, [.ref a_strip_items, .int v_strip_count])), (a_strip_items, .inl (k_strip_items, 800, .inl f_strip_items)), (a_told, .inr (0, [.ref a_told_items, .int v_told_count])), (a_told_items, .inl (k_told_items, 260, .inl f_told_items))]) [0, 1, 2, 3, 4] (by decide) rfl
              exact W.zret (v := r15) (ty := .boolean) hx hb hr (vz_n hz9) (fun t ht hW => ⟨⟨r15, (s16, v_shifted, v_told_count, f_told_items), rfl, hw, by rw [ht]; exact hP9, va_K.moved hW.alike hK, hD9⟩, hS.F ht⟩) hS.2.2 d_Re_isTold_156
            · have hw := hw.2 c14
              refine lv_aload_n hx hb d_Re_isTold_144 rfl (lv_at hl 0 rfl) ?_
              refine lv_iconst (v := 1) hx hb d_Re_isTold_145 (by decide) ?_
              refine va_put (D := D) (ci := 2) (v := .int 1) (ty := .boolean) (C := R_Re) (T := T_Re) (N := 5) hx hb hts in_Re ty_Re tk_Re nn_Re hown hK hP hD hS 0 rfl rfl 4 (by decide) (hts _ mm_109) (fun _ h9 => h9) rfl (by decide +kernel) rfl rfl (Nat.le_of_ble_eq_true rfl) d_Re_isTold_146 (fun H locs hP hD hS => ?_)
              have hP : va_P D vwCl [(a_this, .inr (2, [.ref a_strip, .ref a_told, .int v_fromBack, .int v_set, .int 1])), (a_strip, .inr (0, [.ref a_strip_items, .int v_strip_count])), (a_strip_items, .inl (k_strip_items, 800, .inl f_strip_items)), (a_told, .inr (0, [.ref a_told_items, .int v_told_count])), (a_told_items, .inl (k_told_items, 260, .inl f_told_items))] H := hP
              have hD : va_D A [(a_this, .inr (2, [.ref a_strip, .ref a_told, .int v_fromBack, .int v_set, .int 1])), (a_strip, .inr (0, [.ref a_strip_items, .int v_strip_count])), (a_strip_items, .inl (k_strip_items, 800, .inl f_strip_items)), (a_told, .inr (0, [.ref a_told_items, .int v_told_count])), (a_told_items, .inl (k_told_items, 260, .inl f_told_items))] := hD
              refine lv_iconst (v := 1) hx hb d_Re_isTold_149 (by decide) ?_
              have hP9 := hP.sub (ws' := [(a_this, .inr (2, [.ref a_strip, .ref a_told, .int v_fromBack, .int v_set, .int 1])), (a_strip, .inr (0, [.ref a_strip_items, .int v_strip_count])), (a_strip_items, .inl (k_strip_items, 800, .inl f_strip_items)), (a_told, .inr (0, [.ref a_told_items, .int v_told_count])), (a_told_items, .inl (k_told_items, 260, .inl f_told_items))]) [0, 1, 2, 3, 4] rfl
              have hD9 := hD.sub (ws' := [(a_this, .inr (2, [.ref a_strip, .ref a_told, .int v_fromBack, .int v_set, .int 1])), (a_strip, .inr (0, [.ref a_strip_items, .int v_strip_count])), (a_strip_items, .inl (k_strip_items, 800, .inl f_strip_items)), (a_told, .inr (0, [.ref a_told_items, .int v_told_count])), (a_told_items, .inl (k_told_items, 260, .inl f_told_items))]) [0, 1, 2, 3, 4] (by decide) rfl
              exact W.zret (v := 1) (ty := .boolean) hx hb hr rfl (fun t ht hW => ⟨⟨1, (v_set, 1, v_told_count, f_told_items), rfl, hw, by rw [ht]; exact hP9, va_K.moved hW.alike hK, hD9⟩, hS.F ht⟩) hS.2.2 d_Re_isTold_150
          · have hw := hw.2 c13
            refine lv_aload_n hx hb d_Re_isTold_122 rfl (lv_at hl 0 rfl) ?_
            refine va_get (D := D) (ci := 2) (v := .ref a_told) (C := R_Re) (T := T_Re) (N := 5) hx hb hts in_Re hown hK hP 0 rfl rfl 1 (by decide) (hts _ mm_106) (fun _ h9 => h9) rfl d_Re_isTold_123 ?_
            refine lv_aload_n hx hb d_Re_isTold_126 rfl (lv_at hl 0 rfl) ?_
            refine va_get (D := D) (ci := 2) (v := .int v_set) (C := R_Re) (T := T_Re) (N := 5) hx hb hts in_Re hown hK hP 0 rfl rfl 3 (by decide) (hts _ mm_108) (fun _ h9 => h9) rfl d_Re_isTold_127 ?_
            refine lv_iload_n hx hb d_Re_isTold_130 rfl (lv_at hl 1 rfl) ?_
            refine k_roSi (As := [.int v_set, .int x1]) (rest := [.ref a_told]) hz [] [] ⟨hx, hb, hml, hown, hts⟩ (met_Se_signOf l D Z hz ad hk v_set x1 hw) (va_cwS 2 hts (g_S mm_337 mm_338 mm_51 mm_339) rfl rfl rfl hd_Se_signOf.2 ⟨Nat.le_of_ble_eq_true rfl, Nat.le_of_ble_eq_true rfl⟩) hP hK hZ hS rfl rfl rfl hl.1 rfl (Nat.le_of_ble_eq_true rfl) d_Re_isTold_131 ⟨Nat.le_of_ble_eq_true rfl, Nat.le_of_ble_eq_true rfl⟩ (fun r17 hw => ?_)
            refine k_rwVi (As := [.int r17]) (rest := []) (wr := [(a_this, .inr (2, [.ref a_strip, .ref a_told, .int v_fromBack, .int v_set, .int v_shifted])), (a_strip, .inr (0, [.ref a_strip_items, .int v_strip_count])), (a_strip_items, .inl (k_strip_items, 800, .inl f_strip_items))]) hz [3, 4] [0, 1, 2] [1] 3 0 ⟨hx, hb, hml, hown, hts⟩ (met_It_add l D Z hz ad hk a_told a_told_items k_told_items 260 v_told_count f_told_items r17 _ hw) (cwV 1 hts (g_V mm_282 mm_203 mm_204 mm_42 mm_205) rfl rfl rfl hd_It_add ⟨Nat.le_of_ble_eq_true rfl, Nat.le_of_ble_eq_true rfl⟩) hP hD hK hZ hS hA rfl rfl rfl rfl rfl (by decide) rfl rfl rfl rfl hl.1 rfl (Nat.le_of_ble_eq_true rfl) d_Re_isTold_134 ⟨Nat.le_of_ble_eq_true rfl, Nat.le_of_ble_eq_true rfl⟩ (fun r18 u9 H locs hw hP hD hS => ?_)
            obtain ⟨s19, s20⟩ := u9
            try dsimp only at hw
            have hP : va_P D vwCl [(a_this, .inr (2, [.ref a_strip, .ref a_told, .int v_fromBack, .int v_set, .int v_shifted])), (a_strip, .inr (0, [.ref a_strip_items, .int v_strip_count])), (a_strip_items, .inl (k_strip_items, 800, .inl f_strip_items)), (a_told, .inr (0, [.ref a_told_items, .int s19])), (a_told_items, .inl (k_told_items, 260, .inl s20))] H := hP
            have hD : va_D A [(a_this, .inr (2, [.ref a_strip, .ref a_told, .int v_fromBack, .int v_set, .int v_shifted])), (a_strip, .inr (0, [.ref a_strip_items, .int v_strip_count])), (a_strip_items, .inl (k_strip_items, 800, .inl f_strip_items)), (a_told, .inr (0, [.ref a_told_items, .int s19])), (a_told_items, .inl (k_told_items, 260, .inl s20))] := hD
            have hz9 := hw.1
            have hw := hw.2
            have hP9 := hP.sub (ws' := [(a_this, .inr (2, [.ref a_strip, .ref a_told, .int v_fromBack, .int v_set, .int v_shifted])), (a_strip, .inr (0, [.ref a_strip_items, .int v_strip_count])), (a_strip_items, .inl (k_strip_items, 800, .inl f_strip_items)), (a_told, .inr (0, [.ref a_told_items, .int s19])), (a_told_items, .inl (k_told_items, 260, .inl s20))]) [0, 1, 2, 3, 4] rfl
            have hD9 := hD.sub (ws' := [(a_this, .inr (2, [.ref a_strip, .ref a_told, .int v_fromBack, .int v_set, .int v_shifted])), (a_strip, .inr (0, [.ref a_strip_items, .int v_strip_count])), (a_strip_items, .inl (k_strip_items, 800, .inl f_strip_items)), (a_told, .inr (0, [.ref a_told_items, .int s19])), (a_told_items, .inl (k_told_items, 260, .inl s20))]) [0, 1, 2, 3, 4] (by decide) rfl
            exact W.zret (v := r18) (ty := .boolean) hx hb hr (vz_n hz9) (fun t ht hW => ⟨⟨r18, (v_set, v_shifted, s19, s20), rfl, hw, by rw [ht]; exact hP9, va_K.moved hW.alike hK, hD9⟩, hS.F ht⟩) hS.2.2 d_Re_isTold_137
        · have hw := hw.2 c12
          refine lv_aload_n hx hb d_Re_isTold_76 rfl (lv_at hl 0 rfl) ?_
          refine va_get (D := D) (ci := 2) (v := .ref a_told) (C := R_Re) (T := T_Re) (N := 5) hx hb hts in_Re hown hK hP 0 rfl rfl 1 (by decide) (hts _ mm_106) (fun _ h9 => h9) rfl d_Re_isTold_77 ?_
          refine lv_bipush (v := 48) hx hb d_Re_isTold_80 (by decide) ?_
          refine lv_iload_n hx hb d_Re_isTold_82 rfl (lv_at hl 1 rfl) ?_
          refine lv_bipush (v := 10) hx hb d_Re_isTold_83 (by decide) ?_
          refine lv_idiv hx hb d_Re_isTold_85 (by decide) ?_
          refine lv_iadd hx hb d_Re_isTold_86 ?_
          refine k_rwVi (As := [.int (48 + (x1 / 10))]) (rest := []) (wr := [(a_this, .inr (2, [.ref a_strip, .ref a_told, .int v_fromBack, .int v_set, .int v_shifted])), (a_strip, .inr (0, [.ref a_strip_items, .int v_strip_count])), (a_strip_items, .inl (k_strip_items, 800, .inl f_strip_items))]) hz [3, 4] [0, 1, 2] [1] 3 0 ⟨hx, hb, hml, hown, hts⟩ (met_It_add l D Z hz ad hk a_told a_told_items k_told_items 260 v_told_count f_told_items (48 + (x1 / 10)) _ hw) (cwV 1 hts (g_V mm_282 mm_203 mm_204 mm_42 mm_205) rfl rfl rfl hd_It_add ⟨Nat.le_of_ble_eq_true rfl, Nat.le_of_ble_eq_true rfl⟩) hP hD hK hZ hS hA rfl rfl rfl rfl rfl (by decide) rfl rfl rfl rfl hl.1 rfl (Nat.le_of_ble_eq_true rfl) d_Re_isTold_87 ⟨Nat.le_of_ble_eq_true rfl, Nat.le_of_ble_eq_true rfl⟩ (fun r21 u9 H locs hw hP hD hS => ?_)
          obtain ⟨s22, s23⟩ := u9
          try dsimp only at hw
          have hP : va_P D vwCl [(a_this, .inr (2, [.ref a_strip, .ref a_told, .int v_fromBack, .int v_set, .int v_shifted])), (a_strip, .inr (0, [.ref a_strip_items, .int v_strip_count])), (a_strip_items, .inl (k_strip_items, 800, .inl f_strip_items)), (a_told, .inr (0, [.ref a_told_items, .int s22])), (a_told_items, .inl (k_told_items, 260, .inl s23))] H := hP
          have hD : va_D A [(a_this, .inr (2, [.ref a_strip, .ref a_told, .int v_fromBack, .int v_set, .int v_shifted])), (a_strip, .inr (0, [.ref a_strip_items, .int v_strip_count])), (a_strip_items, .inl (k_strip_items, 800, .inl f_strip_items)), (a_told, .inr (0, [.ref a_told_items, .int s22])), (a_told_items, .inl (k_told_items, 260, .inl s23))] := hD
          refine lv_if_eq (tgt := 114) hx hb d_Re_isTold_90 (by decide) (fun c24 => ?_) (fun c24 => ?_)
          · have hw := hw.1 c24
            refine lv_iconst (v := 0) hx hb d_Re_isTold_114 (by decide) ?_
            have hP9 := hP.sub (ws' := [(a_this, .inr (2, [.ref a_strip, .ref a_told, .int v_fromBack, .int v_set, .int v_shifted])), (a_strip, .inr (0, [.ref a_strip_items, .int v_strip_count])), (a_strip_items, .inl (k_strip_items, 800, .inl f_strip_items)), (a_told, .inr (0, [.ref a_told_items, .int s22])), (a_told_items, .inl (k_told_items, 260, .inl s23))]) [0, 1, 2, 3, 4] rfl
            have hD9 := hD.sub (ws' := [(a_this, .inr (2, [.ref a_strip, .ref a_told, .int v_fromBack, .int v_set, .int v_shifted])), (a_strip, .inr (0, [.ref a_strip_items, .int v_strip_count])), (a_strip_items, .inl (k_strip_items, 800, .inl f_strip_items)), (a_told, .inr (0, [.ref a_told_items, .int s22])), (a_told_items, .inl (k_told_items, 260, .inl s23))]) [0, 1, 2, 3, 4] (by decide) rfl
            exact W.zret (v := 0) (ty := .boolean) hx hb hr rfl (fun t ht hW => ⟨⟨0, (v_set, v_shifted, s22, s23), rfl, hw, by rw [ht]; exact hP9, va_K.moved hW.alike hK, hD9⟩, hS.F ht⟩) hS.2.2 d_Re_isTold_115
          · have hw := hw.2 c24
            refine lv_aload_n hx hb d_Re_isTold_93 rfl (lv_at hl 0 rfl) ?_
            refine va_get (D := D) (ci := 2) (v := .ref a_told) (C := R_Re) (T := T_Re) (N := 5) hx hb hts in_Re hown hK hP 0 rfl rfl 1 (by decide) (hts _ mm_106) (fun _ h9 => h9) rfl d_Re_isTold_94 ?_
            refine lv_bipush (v := 48) hx hb d_Re_isTold_97 (by decide) ?_
            refine lv_iload_n hx hb d_Re_isTold_99 rfl (lv_at hl 1 rfl) ?_
            refine lv_bipush (v := 10) hx hb d_Re_isTold_100 (by decide) ?_
            refine lv_irem hx hb d_Re_isTold_102 (by decide) ?_
            refine lv_iadd hx hb d_Re_isTold_103 ?_
            refine k_rwVi (As := [.int (48 + (x1 - x1 / 10 * 10))]) (rest := []) (wr := [(a_this, .inr (2, [.ref a_strip, .ref a_told, .int v_fromBack, .int v_set, .int v_shifted])), (a_strip, .inr (0, [.ref a_strip_items, .int v_strip_count])), (a_strip_items, .inl (k_strip_items, 800, .inl f_strip_items))]) hz [3, 4] [0, 1, 2] [1] 3 0 ⟨hx, hb, hml, hown, hts⟩ (met_It_add l D Z hz ad hk a_told a_told_items k_told_items 260 s22 s23 (48 + (x1 - x1 / 10 * 10)) _ hw) (cwV 1 hts (g_V mm_282 mm_203 mm_204 mm_42 mm_205) rfl rfl rfl hd_It_add ⟨Nat.le_of_ble_eq_true rfl, Nat.le_of_ble_eq_true rfl⟩) hP hD hK hZ hS hA rfl rfl rfl rfl rfl (by decide) rfl rfl rfl rfl hl.1 rfl (Nat.le_of_ble_eq_true rfl) d_Re_isTold_104 ⟨Nat.le_of_ble_eq_true rfl, Nat.le_of_ble_eq_true rfl⟩ (fun r25 u9 H locs hw hP hD hS => ?_)
            obtain ⟨s26, s27⟩ := u9
            try dsimp only at hw
            have hP : va_P D vwCl [(a_this, .inr (2, [.ref a_strip, .ref a_told, .int v_fromBack, .int v_set, .int v_shifted])), (a_strip, .inr (0, [.ref a_strip_items, .int v_strip_count])), (a_strip_items, .inl (k_strip_items, 800, .inl f_strip_items)), (a_told, .inr (0, [.ref a_told_items, .int s26])), (a_told_items, .inl (k_told_items, 260, .inl s27))] H := hP
            have hD : va_D A [(a_this, .inr (2, [.ref a_strip, .ref a_told, .int v_fromBack, .int v_set, .int v_shifted])), (a_strip, .inr (0, [.ref a_strip_items, .int v_strip_count])), (a_strip_items, .inl (k_strip_items, 800, .inl f_strip_items)), (a_told, .inr (0, [.ref a_told_items, .int s26])), (a_told_items, .inl (k_told_items, 260, .inl s27))] := hD
            refine lv_if_eq (tgt := 114) hx hb d_Re_isTold_107 (by decide) (fun c28 => ?_) (fun c28 => ?_)
            · have hw := hw.1 c28
              refine lv_iconst (v := 0) hx hb d_Re_isTold_114 (by decide) ?_
              have hP9 := hP.sub (ws' := [(a_this, .inr (2, [.ref a_strip, .ref a_told, .int v_fromBack, .int v_set, .int v_shifted])), (a_strip, .inr (0, [.ref a_strip_items, .int v_strip_count])), (a_strip_items, .inl (k_strip_items, 800, .inl f_strip_items)), (a_told, .inr (0, [.ref a_told_items, .int s26])), (a_told_items, .inl (k_told_items, 260, .inl s27))]) [0, 1, 2, 3, 4] rfl
              have hD9 := hD.sub (ws' := [(a_this, .inr (2, [.ref a_strip, .ref a_told, .int v_fromBack, .int v_set, .int v_shifted])), (a_strip, .inr (0, [.ref a_strip_items, .int v_strip_count])), (a_strip_items, .inl (k_strip_items, 800, .inl f_strip_items)), (a_told, .inr (0, [.ref a_told_items, .int s26])), (a_told_items, .inl (k_told_items, 260, .inl s27))]) [0, 1, 2, 3, 4] (by decide) rfl
              exact W.zret (v := 0) (ty := .boolean) hx hb hr rfl (fun t ht hW => ⟨⟨0, (v_set, v_shifted, s26, s27), rfl, hw, by rw [ht]; exact hP9, va_K.moved hW.alike hK, hD9⟩, hS.F ht⟩) hS.2.2 d_Re_isTold_115
            · have hw := hw.2 c28
              refine lv_iconst (v := 1) hx hb d_Re_isTold_110 (by decide) ?_
              refine lv_goto (tgt := 115) hx hb d_Re_isTold_111 (by decide) ?_
              have hP9 := hP.sub (ws' := [(a_this, .inr (2, [.ref a_strip, .ref a_told, .int v_fromBack, .int v_set, .int v_shifted])), (a_strip, .inr (0, [.ref a_strip_items, .int v_strip_count])), (a_strip_items, .inl (k_strip_items, 800, .inl f_strip_items)), (a_told, .inr (0, [.ref a_told_items, .int s26])), (a_told_items, .inl (k_told_items, 260, .inl s27))]) [0, 1, 2, 3, 4] rfl
              have hD9 := hD.sub (ws' := [(a_this, .inr (2, [.ref a_strip, .ref a_told, .int v_fromBack, .int v_set, .int v_shifted])), (a_strip, .inr (0, [.ref a_strip_items, .int v_strip_count])), (a_strip_items, .inl (k_strip_items, 800, .inl f_strip_items)), (a_told, .inr (0, [.ref a_told_items, .int s26])), (a_told_items, .inl (k_told_items, 260, .inl s27))]) [0, 1, 2, 3, 4] (by decide) rfl
              exact W.zret (v := 1) (ty := .boolean) hx hb hr rfl (fun t ht hW => ⟨⟨1, (v_set, v_shifted, s26, s27), rfl, hw, by rw [ht]; exact hP9, va_K.moved hW.alike hK, hD9⟩, hS.F ht⟩) hS.2.2 d_Re_isTold_115
    · have hw := hw.2 c2
      refine lv_aload_n hx hb d_Re_isTold_51 rfl (lv_at hl 0 rfl) ?_
      refine va_get (D := D) (ci := 2) (v := .ref a_told) (C := R_Re) (T := T_Re) (N := 5) hx hb hts in_Re hown hK hP 0 rfl rfl 1 (by decide) (hts _ mm_106) (fun _ h9 => h9) rfl d_Re_isTold_52 ?_
      refine lv_sipush (v := 128) hx hb d_Re_isTold_55 (by decide) ?_
      refine k_rwVi (As := [.int 128]) (rest := []) (wr := [(a_this, .inr (2, [.ref a_strip, .ref a_told, .int v_fromBack, .int v_set, .int v_shifted])), (a_strip, .inr (0, [.ref a_strip_items, .int v_strip_count])), (a_strip_items, .inl (k_strip_items, 800, .inl f_strip_items))]) hz [3, 4] [0, 1, 2] [1] 3 0 ⟨hx, hb, hml, hown, hts⟩ (met_It_add l D Z hz ad hk a_told a_told_items k_told_items 260 v_told_count f_told_items 128 _ hw) (cwV 1 hts (g_V mm_282 mm_203 mm_204 mm_42 mm_205) rfl rfl rfl hd_It_add ⟨Nat.le_of_ble_eq_true rfl, Nat.le_of_ble_eq_true rfl⟩) hP hD hK hZ hS hA rfl rfl rfl rfl rfl (by decide) rfl rfl rfl rfl hl.1 rfl (Nat.le_of_ble_eq_true rfl) d_Re_isTold_58 ⟨Nat.le_of_ble_eq_true rfl, Nat.le_of_ble_eq_true rfl⟩ (fun r29 u9 H locs hw hP hD hS => ?_)
      obtain ⟨s30, s31⟩ := u9
      try dsimp only at hw
      have hP : va_P D vwCl [(a_this, .inr (2, [.ref a_strip, .ref a_told, .int v_fromBack, .int v_set, .int v_shifted])), (a_strip, .inr (0, [.ref a_strip_items, .int v_strip_count])), (a_strip_items, .inl (k_strip_items, 800, .inl f_strip_items)), (a_told, .inr (0, [.ref a_told_items, .int s30])), (a_told_items, .inl (k_told_items, 260, .inl s31))] H := hP
      have hD : va_D A [(a_this, .inr (2, [.ref a_strip, .ref a_told, .int v_fromBack, .int v_set, .int v_shifted])), (a_strip, .inr (0, [.ref a_strip_items, .int v_strip_count])), (a_strip_items, .inl (k_strip_items, 800, .inl f_strip_items)), (a_told, .inr (0, [.ref a_told_items, .int s30])), (a_told_items, .inl (k_told_items, 260, .inl s31))] := hD
      have hz9 := hw.1
      have hw := hw.2
      have hP9 := hP.sub (ws' := [(a_this, .inr (2, [.ref a_strip, .ref a_told, .int v_fromBack, .int v_set, .int v_shifted])), (a_strip, .inr (0, [.ref a_strip_items, .int v_strip_count])), (a_strip_items, .inl (k_strip_items, 800, .inl f_strip_items)), (a_told, .inr (0, [.ref a_told_items, .int s30])), (a_told_items, .inl (k_told_items, 260, .inl s31))]) [0, 1, 2, 3, 4] rfl
      have hD9 := hD.sub (ws' := [(a_this, .inr (2, [.ref a_strip, .ref a_told, .int v_fromBack, .int v_set, .int v_shifted])), (a_strip, .inr (0, [.ref a_strip_items, .int v_strip_count])), (a_strip_items, .inl (k_strip_items, 800, .inl f_strip_items)), (a_told, .inr (0, [.ref a_told_items, .int s30])), (a_told_items, .inl (k_told_items, 260, .inl s31))]) [0, 1, 2, 3, 4] (by decide) rfl
      exact W.zret (v := r29) (ty := .boolean) hx hb hr (vz_n hz9) (fun t ht hW => ⟨⟨r29, (v_set, v_shifted, s30, s31), rfl, hw, by rw [ht]; exact hP9, va_K.moved hW.alike hK, hD9⟩, hS.F ht⟩) hS.2.2 d_Re_isTold_61
  · have hw := hw.2 c1
    refine lv_aload_n hx hb d_Re_isTold_7 rfl (lv_at hl 0 rfl) ?_
    refine lv_iconst (v := 0) hx hb d_Re_isTold_8 (by decide) ?_
    refine va_put (D := D) (ci := 2) (v := .int 0) (ty := .boolean) (C := R_Re) (T := T_Re) (N := 5) hx hb hts in_Re ty_Re tk_Re nn_Re hown hK hP hD hS 0 rfl rfl 4 (by decide) (hts _ mm_109) (fun _ h9 => h9) rfl (by decide +kernel) rfl rfl (Nat.le_of_ble_eq_true rfl) d_Re_isTold_9 (fun H locs hP hD hS => ?_)
    have hP : va_P D vwCl [(a_this, .inr (2, [.ref a_strip, .ref a_told, .int v_fromBack, .int v_set, .int 0])), (a_strip, .inr (0, [.ref a_strip_items, .int v_strip_count])), (a_strip_items, .inl (k_strip_items, 800, .inl f_strip_items)), (a_told, .inr (0, [.ref a_told_items, .int v_told_count])), (a_told_items, .inl (k_told_items, 260, .inl f_told_items))] H := hP
    have hD : va_D A [(a_this, .inr (2, [.ref a_strip, .ref a_told, .int v_fromBack, .int v_set, .int 0])), (a_strip, .inr (0, [.ref a_strip_items, .int v_strip_count])), (a_strip_items, .inl (k_strip_items, 800, .inl f_strip_items)), (a_told, .inr (0, [.ref a_told_items, .int v_told_count])), (a_told_items, .inl (k_told_items, 260, .inl f_told_items))] := hD
    refine lv_iload_n hx hb d_Re_isTold_12 rfl (lv_at hl 1 rfl) ?_
    refine lv_bipush (v := 95) hx hb d_Re_isTold_13 (by decide) ?_
    refine lv_icmp_gt (tgt := 43) hx hb d_Re_isTold_15 (by decide) (fun c32 => ?_) (fun c32 => ?_)
    · have hw := hw.1 c32
      refine lv_iconst (v := 0) hx hb d_Re_isTold_43 (by decide) ?_
      have hP9 := hP.sub (ws' := [(a_this, .inr (2, [.ref a_strip, .ref a_told, .int v_fromBack, .int v_set, .int 0])), (a_strip, .inr (0, [.ref a_strip_items, .int v_strip_count])), (a_strip_items, .inl (k_strip_items, 800, .inl f_strip_items)), (a_told, .inr (0, [.ref a_told_items, .int v_told_count])), (a_told_items, .inl (k_told_items, 260, .inl f_told_items))]) [0, 1, 2, 3, 4] rfl
      have hD9 := hD.sub (ws' := [(a_this, .inr (2, [.ref a_strip, .ref a_told, .int v_fromBack, .int v_set, .int 0])), (a_strip, .inr (0, [.ref a_strip_items, .int v_strip_count])), (a_strip_items, .inl (k_strip_items, 800, .inl f_strip_items)), (a_told, .inr (0, [.ref a_told_items, .int v_told_count])), (a_told_items, .inl (k_told_items, 260, .inl f_told_items))]) [0, 1, 2, 3, 4] (by decide) rfl
      exact W.zret (v := 0) (ty := .boolean) hx hb hr rfl (fun t ht hW => ⟨⟨0, (v_set, 0, v_told_count, f_told_items), rfl, hw, by rw [ht]; exact hP9, va_K.moved hW.alike hK, hD9⟩, hS.F ht⟩) hS.2.2 d_Re_isTold_44
    · have hw := hw.2 c32
      refine lv_aload_n hx hb d_Re_isTold_18 rfl (lv_at hl 0 rfl) ?_
      refine va_get (D := D) (ci := 2) (v := .ref a_told) (C := R_Re) (T := T_Re) (N := 5) hx hb hts in_Re hown hK hP 0 rfl rfl 1 (by decide) (hts _ mm_106) (fun _ h9 => h9) rfl d_Re_isTold_19 ?_
      refine lv_aload_n hx hb d_Re_isTold_22 rfl (lv_at hl 0 rfl) ?_
      refine va_get (D := D) (ci := 2) (v := .int v_set) (C := R_Re) (T := T_Re) (N := 5) hx hb hts in_Re hown hK hP 0 rfl rfl 3 (by decide) (hts _ mm_108) (fun _ h9 => h9) rfl d_Re_isTold_23 ?_
      refine k_roSi (As := [.int v_set]) (rest := [.ref a_told]) hz [] [] ⟨hx, hb, hml, hown, hts⟩ (met_Se_otherOfAB l D Z hz ad hk v_set hw) (va_cwS 1 hts (g_S mm_336 mm_215 mm_51 mm_216) rfl rfl rfl hd_Se_otherOfAB.2 ⟨Nat.le_of_ble_eq_true rfl, Nat.le_of_ble_eq_true rfl⟩) hP hK hZ hS rfl rfl rfl hl.1 rfl (Nat.le_of_ble_eq_true rfl) d_Re_isTold_26 ⟨Nat.le_of_ble_eq_true rfl, Nat.le_of_ble_eq_true rfl⟩ (fun r33 hw => ?_)
      refine lv_iload_n hx hb d_Re_isTold_29 rfl (lv_at hl 1 rfl) ?_
      refine k_roSi (As := [.int r33, .int x1]) (rest := [.ref a_told]) hz [] [] ⟨hx, hb, hml, hown, hts⟩ (met_Se_signOf l D Z hz ad hk r33 x1 hw) (va_cwS 2 hts (g_S mm_337 mm_338 mm_51 mm_339) rfl rfl rfl hd_Se_signOf.2 ⟨Nat.le_of_ble_eq_true rfl, Nat.le_of_ble_eq_true rfl⟩) hP hK hZ hS rfl rfl rfl hl.1 rfl (Nat.le_of_ble_eq_true rfl) d_Re_isTold_30 ⟨Nat.le_of_ble_eq_true rfl, Nat.le_of_ble_eq_true rfl⟩ (fun r34 hw => ?_)
      refine k_rwVi (As := [.int r34]) (rest := []) (wr := [(a_this, .inr (2, [.ref a_strip, .ref a_told, .int v_fromBack, .int v_set, .int 0])), (a_strip, .inr (0, [.ref a_strip_items, .int v_strip_count])), (a_strip_items, .inl (k_strip_items, 800, .inl f_strip_items))]) hz [3, 4] [0, 1, 2] [1] 3 0 ⟨hx, hb, hml, hown, hts⟩ (met_It_add l D Z hz ad hk a_told a_told_items k_told_items 260 v_told_count f_told_items r34 _ hw) (cwV 1 hts (g_V mm_282 mm_203 mm_204 mm_42 mm_205) rfl rfl rfl hd_It_add ⟨Nat.le_of_ble_eq_true rfl, Nat.le_of_ble_eq_true rfl⟩) hP hD hK hZ hS hA rfl rfl rfl rfl rfl (by decide) rfl rfl rfl rfl hl.1 rfl (Nat.le_of_ble_eq_true rfl) d_Re_isTold_33 ⟨Nat.le_of_ble_eq_true rfl, Nat.le_of_ble_eq_true rfl⟩ (fun r35 u9 H locs hw hP hD hS => ?_)
      obtain ⟨s36, s37⟩ := u9
      try dsimp only at hw
      have hP : va_P D vwCl [(a_this, .inr (2, [.ref a_strip, .ref a_told, .int v_fromBack, .int v_set, .int 0])), (a_strip, .inr (0, [.ref a_strip_items, .int v_strip_count])), (a_strip_items, .inl (k_strip_items, 800, .inl f_strip_items)), (a_told, .inr (0, [.ref a_told_items, .int s36])), (a_told_items, .inl (k_told_items, 260, .inl s37))] H := hP
      have hD : va_D A [(a_this, .inr (2, [.ref a_strip, .ref a_told, .int v_fromBack, .int v_set, .int 0])), (a_strip, .inr (0, [.ref a_strip_items, .int v_strip_count])), (a_strip_items, .inl (k_strip_items, 800, .inl f_strip_items)), (a_told, .inr (0, [.ref a_told_items, .int s36])), (a_told_items, .inl (k_told_items, 260, .inl s37))] := hD
      refine lv_if_eq (tgt := 43) hx hb d_Re_isTold_36 (by decide) (fun c38 => ?_) (fun c38 => ?_)
      · have hw := hw.1 c38
        refine lv_iconst (v := 0) hx hb d_Re_isTold_43 (by decide) ?_
        have hP9 := hP.sub (ws' := [(a_this, .inr (2, [.ref a_strip, .ref a_told, .int v_fromBack, .int v_set, .int 0])), (a_strip, .inr (0, [.ref a_strip_items, .int v_strip_count])), (a_strip_items, .inl (k_strip_items, 800, .inl f_strip_items)), (a_told, .inr (0, [.ref a_told_items, .int s36])), (a_told_items, .inl (k_told_items, 260, .inl s37))]) [0, 1, 2, 3, 4] rfl
        have hD9 := hD.sub (ws' := [(a_this, .inr (2, [.ref a_strip, .ref a_told, .int v_fromBack, .int v_set, .int 0])), (a_strip, .inr (0, [.ref a_strip_items, .int v_strip_count])), (a_strip_items, .inl (k_strip_items, 800, .inl f_strip_items)), (a_told, .inr (0, [.ref a_told_items, .int s36])), (a_told_items, .inl (k_told_items, 260, .inl s37))]) [0, 1, 2, 3, 4] (by decide) rfl
        exact W.zret (v := 0) (ty := .boolean) hx hb hr rfl (fun t ht hW => ⟨⟨0, (v_set, 0, s36, s37), rfl, hw, by rw [ht]; exact hP9, va_K.moved hW.alike hK, hD9⟩, hS.F ht⟩) hS.2.2 d_Re_isTold_44
      · have hw := hw.2 c38
        refine lv_iconst (v := 1) hx hb d_Re_isTold_39 (by decide) ?_
        refine lv_goto (tgt := 44) hx hb d_Re_isTold_40 (by decide) ?_
        have hP9 := hP.sub (ws' := [(a_this, .inr (2, [.ref a_strip, .ref a_told, .int v_fromBack, .int v_set, .int 0])), (a_strip, .inr (0, [.ref a_strip_items, .int v_strip_count])), (a_strip_items, .inl (k_strip_items, 800, .inl f_strip_items)), (a_told, .inr (0, [.ref a_told_items, .int s36])), (a_told_items, .inl (k_told_items, 260, .inl s37))]) [0, 1, 2, 3, 4] rfl
        have hD9 := hD.sub (ws' := [(a_this, .inr (2, [.ref a_strip, .ref a_told, .int v_fromBack, .int v_set, .int 0])), (a_strip, .inr (0, [.ref a_strip_items, .int v_strip_count])), (a_strip_items, .inl (k_strip_items, 800, .inl f_strip_items)), (a_told, .inr (0, [.ref a_told_items, .int s36])), (a_told_items, .inl (k_told_items, 260, .inl s37))]) [0, 1, 2, 3, 4] (by decide) rfl
        exact W.zret (v := 1) (ty := .boolean) hx hb hr rfl (fun t ht hW => ⟨⟨1, (v_set, 0, s36, s37), rfl, hw, by rw [ht]; exact hP9, va_K.moved hW.alike hK, hD9⟩, hS.F ht⟩) hS.2.2 d_Re_isTold_44
-- LineCodes$Reader.isRow()Z
def w_Re_isRow_73 (post : Int32 → Int32 → Int32 → Int32 → (Nat → Int32) → Prop) (v_strip_count : Int32) (f_strip_items : Nat → Int32) (y1 : Int32) (y2 : Int32) : Nat → Int32 → Int32 → Int32 → (Nat → Int32) → Int32 → Int32 → Prop
  | 0, _, _, _, _, _, _ => False
  | n + 1, v_set, v_shifted, v_told_count, f_told_items, y4, y5 => ((y2 - 1) ≤ y5 → (¬ v_shifted = 0 → post 0 v_set v_shifted v_told_count f_told_items) ∧ (v_shifted = 0 → w_Re_symbolAt (fun r11 => (¬ r11 = (y4 - y4 / 103 * 103) → post 0 v_set v_shifted v_told_count f_told_items) ∧ (r11 = (y4 - y4 / 103 * 103) → post 1 v_set v_shifted v_told_count f_told_items)) v_strip_count f_strip_items (y1 - 6))) ∧ (¬ (y2 - 1) ≤ y5 → w_Re_symbolAt (fun r13 => (r13 = (-1) → post 0 v_set v_shifted v_told_count f_told_items) ∧ (¬ r13 = (-1) → w_Re_isTold (fun r15 s16 s17 s18 s19 => (¬ r15 = 0 → w_Re_isRow_73 post v_strip_count f_strip_items y1 y2 n s16 s17 s18 s19 (y4 + (y5 * r13)) (y5 + 1)) ∧ (r15 = 0 → post 0 s16 s17 s18 s19)) v_set v_shifted v_told_count f_told_items r13)) v_strip_count f_strip_items (6 * y5))
def w_Re_isRow (post : Int32 → Int32 → Int32 → Int32 → (Nat → Int32) → Prop) (v_set : Int32) (v_shifted : Int32) (v_strip_count : Int32) (f_strip_items : Nat → Int32) (v_told_count : Int32) (f_told_items : Nat → Int32) : Prop := w_It_count (fun r1 => (((r1 - 7) / 6) < 2 → post 0 v_set v_shifted v_told_count f_told_items) ∧ (¬ ((r1 - 7) / 6) < 2 → (¬ (r1 - 7) = (((r1 - 7) / 6) * 6) → post 0 v_set v_shifted v_told_count f_told_items) ∧ ((r1 - 7) = (((r1 - 7) / 6) * 6) → w_Re_isLastAt (fun r4 => (¬ r4 = 0 → w_Re_symbolAt (fun r6 => w_Se_isFirst (fun r7 => (¬ r7 = 0 → ∃ n, w_Re_isRow_73 post v_strip_count f_strip_items (r1 - 7) ((r1 - 7) / 6) n (r6 - 103) 0 v_told_count f_told_items r6 1) ∧ (r7 = 0 → post 0 v_set v_shifted v_told_count f_told_items)) r6) v_strip_count f_strip_items 0) ∧ (r4 = 0 → post 0 v_set v_shifted v_told_count f_told_items)) v_strip_count f_strip_items (r1 - 7)))) v_strip_count
abbrev rm_Re_isRow : Room := { frames := 3, cells := 0, slots := 0, locals := 70 }
set_option maxHeartbeats 4000000 in
set_option maxRecDepth 100000 in
theorem lp_Re_isRow_73 (l : Launch) (D : va_G) (Z : (Nat → Prop) → State → Heap → Prop) (hz : zk Z) (ad : Nat → Nat) (hk : zs Z ad) {p : Program} {e : Env} {s : State} {m : MethodId} {args : Array Value} {below : List Frame} {meth : Method} {c : Code} {A : Nat → Prop} (a_this : Nat) (a_strip : Nat) (a_strip_items : Nat) (a_told : Nat) (a_told_items : Nat) (k_strip_items : ClassId) (k_told_items : ClassId) (v_fromBack : Int32) (v_strip_count : Int32) (f_strip_items : Nat → Int32) (y1 : Int32) (y2 : Int32) {post : Int32 → Int32 → Int32 → Int32 → (Nat → Int32) → Prop} (hx : p.tables.exec = Jvm.exec) (hb : c.code = c_Re_isRow) (hml : c.maxLocals = 7) (hr : meth.sig.returnType = (some .boolean)) (hts : ∀ w ∈ tb, w.before args s = true) (hown : s.vm.findClass R_Re = some m.cls) (hlocks : meth.locks = false) (hK : va_K D vwCl [(k_strip_items, .int), (k_told_items, .int)] s) (hZ : Z A s s.heap) (hA : ∀ q, s.heap.size ≤ q → A q) : ∀ (n : Nat) (v_set : Int32) (v_shifted : Int32) (v_told_count : Int32) (f_told_items : Nat → Int32) (y4 : Int32) (y5 : Int32), w_Re_isRow_73 post v_strip_count f_strip_items y1 y2 n v_set v_shifted v_told_count f_told_items y4 y5 → ∀ (H : Heap) (locs : List Loc), va_P D vwCl [(a_this, .inr (2, [.ref a_strip, .ref a_told, .int v_fromBack, .int v_set, .int v_shifted])), (a_strip, .inr (0, [.ref a_strip_items, .int v_strip_count])), (a_strip_items, .inl (k_strip_items, 800, .inl f_strip_items)), (a_told, .inr (0, [.ref a_told_items, .int v_told_count])), (a_told_items, .inl (k_told_items, 260, .inl f_told_items))] H → va_D A [(a_this, .inr (2, [.ref a_strip, .ref a_told, .int v_fromBack, .int v_set, .int v_shifted])), (a_strip, .inr (0, [.ref a_strip_items, .int v_strip_count])), (a_strip_items, .inl (k_strip_items, 800, .inl f_strip_items)), (a_told, .inr (0, [.ref a_told_items, .int v_told_count])), (a_told_items, .inl (k_told_items, 260, .inl f_told_items))] → va_S A s.heap H locs → ∀ ls : Array Slot, lv_has ls 7 [(0, .ref a_this), (1, .int y1), (2, .int y2), (4, .int y4), (5, .int y5)] → W p l e (headSpec ws_Re_isRow rm_Re_isRow).room s m args below meth c H locs 0 0 (MQ below (va_Qi (fun (r : Int32) (u : Int32 × Int32 × Int32 × (Nat → Int32)) => post r u.1 u.2.1 u.2.2.1 u.2.2.2) (fun u t => at_ D vwCl [(k_strip_items, .int), (k_told_items, .int)] A [(a_this, .inr (2, [.ref a_strip, .ref a_told, .int v_fromBack, .int u.1, .int u.2.1])), (a_strip, .inr (0, [.ref a_strip_items, .int v_strip_count])), (a_strip_items, .inl (k_strip_items, 800, .inl f_strip_items)), (a_told, .inr (0, [.ref a_told_items, .int u.2.2.1])), (a_told_items, .inl (k_told_items, 260, .inl u.2.2.2))] t) A) args s 0 0 A) (F0 m 73 ls []) := by
  intro n
  induction n with
  | zero =>
    intro v_set v_shifted v_told_count f_told_items y4 y5 hw
    unfold w_Re_isRow_73 at hw
    exact hw.elim
  | succ n ih =>
    intro v_set v_shifted v_told_count f_told_items y4 y5 hw H locs hP hD hS ls hl
    unfold w_Re_isRow_73 at hw
    refine lv_iload hx hb d_Re_isRow_73 (lv_at hl 4 rfl) ?_
    refine lv_iload_n hx hb d_Re_isRow_75 rfl (lv_at hl 2 rfl) ?_
    refine lv_iconst (v := 1) hx hb d_Re_isRow_76 (by decide) ?_
    refine lv_isub hx hb d_Re_isRow_77 ?_
    refine lv_icmp_ge (tgt := 125) hx hb d_Re_isRow_78 (by decide) (fun c9 => ?_) (fun c9 => ?_)
    · have hw := hw.1 c9
      refine lv_aload_n hx hb d_Re_isRow_125 rfl (lv_at hl 0 rfl) ?_
      refine va_get (D := D) (ci := 2) (v := .int v_shifted) (C := R_Re) (T := T_Re) (N := 5) hx hb hts in_Re hown hK hP 0 rfl rfl 4 (by decide) (hts _ mm_109) (fun _ h9 => h9) rfl d_Re_isRow_126 ?_
      refine lv_if_ne (tgt := 152) hx hb d_Re_isRow_129 (by decide) (fun c10 => ?_) (fun c10 => ?_)
      · have hw := hw.1 c10
        refine lv_iconst (v := 0) hx hb d_Re_isRow_152 (by decide) ?_
        have hP9 := hP.sub (ws' := [(a_this, .inr (2, [.ref a_strip, .ref a_told, .int v_fromBack, .int v_set, .int v_shifted])), (a_strip, .inr (0, [.ref a_strip_items, .int v_strip_count])), (a_strip_items, .inl (k_strip_items, 800, .inl f_strip_items)), (a_told, .inr (0, [.ref a_told_items, .int v_told_count])), (a_told_items, .inl (k_told_items, 260, .inl f_told_items))]) [0, 1, 2, 3, 4] rfl
        have hD9 := hD.sub (ws' := [(a_this, .inr (2, [.ref a_strip, .ref a_told, .int v_fromBack, .int v_set, .int v_shifted])), (a_strip, .inr (0, [.ref a_strip_items, .int v_strip_count])), (a_strip_items, .inl (k_strip_items, 800, .inl f_strip_items)), (a_told, .inr (0, [.ref a_told_items, .int v_told_count])), (a_told_items, .inl (k_told_items, 260, .inl f_told_items))]) [0, 1, 2, 3, 4] (by decide) rfl
        exact W.zret (v := 0) (ty := .boolean) hx hb hr rfl (fun t ht hW => ⟨⟨0, (v_set, v_shifted, v_told_count, f_told_items), rfl, hw, by rw [ht]; exact hP9, va_K.moved hW.alike hK, hD9⟩, hS.F ht⟩) hS.2.2 d_Re_isRow_153
      · have hw := hw.2 c10
        refine lv_aload_n hx hb d_Re_isRow_132 rfl (lv_at hl 0 rfl) ?_
        refine lv_iload_n hx hb d_Re_isRow_133 rfl (lv_at hl 1 rfl) ?_
        refine lv_bipush (v := 6) hx hb d_Re_isRow_134 (by decide) ?_
        refine lv_isub hx hb d_Re_isRow_136 ?_
        refine k_roVi (As := [.int (y1 - 6)]) (rest := []) hz [0, 1, 2, 3, 4] [0, 1] 0 2 ⟨hx, hb, hml, hown, hts⟩ (met_Re_symbolAt l D Z hz ad hk a_this a_strip a_strip_items a_told a_told_items k_strip_items k_told_items v_fromBack v_set v_shifted v_strip_count f_strip_items v_told_count f_told_items (y1 - 6) hw) (cwV 1 hts (g_V mm_320 mm_322 mm_18 mm_45 mm_323) rfl rfl rfl hd_Re_symbolAt ⟨Nat.le_of_ble_eq_true rfl, Nat.le_of_ble_eq_true rfl⟩) hP hK hZ hS rfl rfl rfl rfl rfl hl.1 rfl (Nat.le_of_ble_eq_true rfl) d_Re_isRow_137 ⟨Nat.le_of_ble_eq_true rfl, Nat.le_of_ble_eq_true rfl⟩ (fun r11 hw => ?_)
        refine lv_iload hx hb d_Re_isRow_140 (lv_at hl 3 rfl) ?_
        refine lv_bipush (v := 103) hx hb d_Re_isRow_142 (by decide) ?_
        refine lv_irem hx hb d_Re_isRow_144 (by decide) ?_
        refine lv_icmp_ne (tgt := 152) hx hb d_Re_isRow_145 (by decide) (fun c12 => ?_) (fun c12 => ?_)
        · have hw := hw.1 c12
          refine lv_iconst (v := 0) hx hb d_Re_isRow_152 (by decide) ?_
          have hP9 := hP.sub (ws' := [(a_this, .inr (2, [.ref a_strip, .ref a_told, .int v_fromBack, .int v_set, .int v_shifted])), (a_strip, .inr (0, [.ref a_strip_items, .int v_strip_count])), (a_strip_items, .inl (k_strip_items, 800, .inl f_strip_items)), (a_told, .inr (0, [.ref a_told_items, .int v_told_count])), (a_told_items, .inl (k_told_items, 260, .inl f_told_items))]) [0, 1, 2, 3, 4] rfl
          have hD9 := hD.sub (ws' := [(a_this, .inr (2, [.ref a_strip, .ref a_told, .int v_fromBack, .int v_set, .int v_shifted])), (a_strip, .inr (0, [.ref a_strip_items, .int v_strip_count])), (a_strip_items, .inl (k_strip_items, 800, .inl f_strip_items)), (a_told, .inr (0, [.ref a_told_items, .int v_told_count])), (a_told_items, .inl (k_told_items, 260, .inl f_told_items))]) [0, 1, 2, 3, 4] (by decide) rfl
          exact W.zret (v := 0) (ty := .boolean) hx hb hr rfl (fun t ht hW => ⟨⟨0, (v_set, v_shifted, v_told_count, f_told_items), rfl, hw, by rw [ht]; exact hP9, va_K.moved hW.alike hK, hD9⟩, hS.F ht⟩) hS.2.2 d_Re_isRow_153
        · have hw := hw.2 c12
          refine lv_iconst (v := 1) hx hb d_Re_isRow_148 (by decide) ?_
          refine lv_goto (tgt := 153) hx hb d_Re_isRow_149 (by decide) ?_
          have hP9 := hP.sub (ws' := [(a_this, .inr (2, [.ref a_strip, .ref a_told, .int v_fromBack, .int v_set, .int v_shifted])), (a_strip, .inr (0, [.ref a_strip_items, .int v_strip_count])), (a_strip_items, .inl (k_strip_items, 800, .inl f_strip_items)), (a_told, .inr (0, [.ref a_told_items, .int v_told_count])), (a_told_items, .inl (k_told_items, 260, .inl f_told_items))]) [0, 1, 2, 3, 4] rfl
          have hD9 := hD.sub (ws' := [(a_this, .inr (2, [.ref a_strip, .ref a_told, .int v_fromBack, .int v_set, .int v_shifted])), (a_strip, .inr (0, [.ref a_strip_items, .int v_strip_count])), (a_strip_items, .inl (k_strip_items, 800, .inl f_strip_items)), (a_told, .inr (0, [.ref a_told_items, .int v_told_count])), (a_told_items, .inl (k_told_items, 260, .inl f_told_items))]) [0, 1, 2, 3, 4] (by decide) rfl
          exact W.zret (v := 1) (ty := .boolean) hx hb hr rfl (fun t ht hW => ⟨⟨1, (v_set, v_shifted, v_told_count, f_told_items), rfl, hw, by rw [ht]; exact hP9, va_K.moved hW.alike hK, hD9⟩, hS.F ht⟩) hS.2.2 d_Re_isRow_153
    · have hw := hw.2 c9
      refine lv_aload_n hx hb d_Re_isRow_81 rfl (lv_at hl 0 rfl) ?_
      refine lv_bipush (v := 6) hx hb d_Re_isRow_82 (by decide) ?_
      refine lv_iload hx hb d_Re_isRow_84 (lv_at hl 4 rfl) ?_
      refine lv_imul hx hb d_Re_isRow_86 ?_
      refine k_roVi (As := [.int (6 * y5)]) (rest := []) hz [0, 1, 2, 3, 4] [0, 1] 0 2 ⟨hx, hb, hml, hown, hts⟩ (met_Re_symbolAt l D Z hz ad hk a_this a_strip a_strip_items a_told a_told_items k_strip_items k_told_items v_fromBack v_set v_shifted v_strip_count f_strip_items v_told_count f_told_items (6 * y5) hw) (cwV 1 hts (g_V mm_320 mm_322 mm_18 mm_45 mm_323) rfl rfl rfl hd_Re_symbolAt ⟨Nat.le_of_ble_eq_true rfl, Nat.le_of_ble_eq_true rfl⟩) hP hK hZ hS rfl rfl rfl rfl rfl hl.1 rfl (Nat.le_of_ble_eq_true rfl) d_Re_isRow_87 ⟨Nat.le_of_ble_eq_true rfl, Nat.le_of_ble_eq_true rfl⟩ (fun r13 hw => ?_)
      refine lv_istore (lv' := [(6, .int r13), (0, .ref a_this), (1, .int y1), (2, .int y2), (4, .int y4), (5, .int y5)]) hx hb d_Re_isRow_90 hl (by decide) rfl (fun ls hl => ?_)
      refine lv_iload hx hb d_Re_isRow_92 (lv_at hl 0 rfl) ?_
      refine lv_iconst (v := (-1)) hx hb d_Re_isRow_94 (by decide) ?_
      refine lv_icmp_eq (tgt := 107) hx hb d_Re_isRow_95 (by decide) (fun c14 => ?_) (fun c14 => ?_)
      · have hw := hw.1 c14
        refine lv_iconst (v := 0) hx hb d_Re_isRow_107 (by decide) ?_
        have hP9 := hP.sub (ws' := [(a_this, .inr (2, [.ref a_strip, .ref a_told, .int v_fromBack, .int v_set, .int v_shifted])), (a_strip, .inr (0, [.ref a_strip_items, .int v_strip_count])), (a_strip_items, .inl (k_strip_items, 800, .inl f_strip_items)), (a_told, .inr (0, [.ref a_told_items, .int v_told_count])), (a_told_items, .inl (k_told_items, 260, .inl f_told_items))]) [0, 1, 2, 3, 4] rfl
        have hD9 := hD.sub (ws' := [(a_this, .inr (2, [.ref a_strip, .ref a_told, .int v_fromBack, .int v_set, .int v_shifted])), (a_strip, .inr (0, [.ref a_strip_items, .int v_strip_count])), (a_strip_items, .inl (k_strip_items, 800, .inl f_strip_items)), (a_told, .inr (0, [.ref a_told_items, .int v_told_count])), (a_told_items, .inl (k_told_items, 260, .inl f_told_items))]) [0, 1, 2, 3, 4] (by decide) rfl
        exact W.zret (v := 0) (ty := .boolean) hx hb hr rfl (fun t ht hW => ⟨⟨0, (v_set, v_shifted, v_told_count, f_told_items), rfl, hw, by rw [ht]; exact hP9, va_K.moved hW.alike hK, hD9⟩, hS.F ht⟩) hS.2.2 d_Re_isRow_108
      · have hw := hw.2 c14
        refine lv_aload_n hx hb d_Re_isRow_98 rfl (lv_at hl 1 rfl) ?_
        refine lv_iload hx hb d_Re_isRow_99 (lv_at hl 0 rfl) ?_
        refine k_rwVi (As := [.int r13]) (rest := []) (wr := []) hz [0, 1, 2, 3, 4] [] [0, 1] 0 2 ⟨hx, hb, hml, hown, hts⟩ (met_Re_isTold l D Z hz ad hk a_this a_strip a_strip_items a_told a_told_items k_strip_items k_told_items v_fromBack v_set v_shifted v_strip_count f_strip_items v_told_count f_told_items r13 _ hw) (cwV 1 hts (g_V mm_332 mm_334 mm_19 mm_45 mm_335) rfl rfl rfl hd_Re_isTold ⟨Nat.le_of_ble_eq_true rfl, Nat.le_of_ble_eq_true rfl⟩) hP hD hK hZ hS hA rfl rfl rfl rfl rfl (by decide) rfl rfl rfl rfl hl.1 rfl (Nat.le_of_ble_eq_true rfl) d_Re_isRow_101 ⟨Nat.le_of_ble_eq_true rfl, Nat.le_of_ble_eq_true rfl⟩ (fun r15 u9 H locs hw hP hD hS => ?_)
        obtain ⟨s16, s17, s18, s19⟩ := u9
        try dsimp only at hw
        have hP : va_P D vwCl [(a_this, .inr (2, [.ref a_strip, .ref a_told, .int v_fromBack, .int s16, .int s17])), (a_strip, .inr (0, [.ref a_strip_items, .int v_strip_count])), (a_strip_items, .inl (k_strip_items, 800, .inl f_strip_items)), (a_told, .inr (0, [.ref a_told_items, .int s18])), (a_told_items, .inl (k_told_items, 260, .inl s19))] H := hP
        have hD : va_D A [(a_this, .inr (2, [.ref a_strip, .ref a_told, .int v_fromBack, .int s16, .int s17])), (a_strip, .inr (0, [.ref a_strip_items, .int v_strip_count])), (a_strip_items, .inl (k_strip_items, 800, .inl f_strip_items)), (a_told, .inr (0, [.ref a_told_items, .int s18])), (a_told_items, .inl (k_told_items, 260, .inl s19))] := hD
        refine lv_if_ne (tgt := 109) hx hb d_Re_isRow_104 (by decide) (fun c20 => ?_) (fun c20 => ?_)
        · have hw := hw.1 c20
          refine lv_iload hx hb d_Re_isRow_109 (lv_at hl 4 rfl) ?_
          refine lv_iload hx hb d_Re_isRow_111 (lv_at hl 5 rfl) ?_
          refine lv_iload hx hb d_Re_isRow_113 (lv_at hl 0 rfl) ?_
          refine lv_imul hx hb d_Re_isRow_115 ?_
          refine lv_iadd hx hb d_Re_isRow_116 ?_
          refine lv_istore (lv' := [(4, .int (y4 + (y5 * r13))), (6, .int r13), (0, .ref a_this), (1, .int y1), (2, .int y2), (5, .int y5)]) hx hb d_Re_isRow_117 hl (by decide) rfl (fun ls hl => ?_)
          refine lv_iinc (v := (y5 + 1)) (lv' := [(5, .int (y5 + 1)), (4, .int (y4 + (y5 * r13))), (6, .int r13), (0, .ref a_this), (1, .int y1), (2, .int y2)]) hx hb d_Re_isRow_119 hl (k := 5) rfl rfl (by decide) rfl (fun ls hl => ?_)
          refine lv_goto (tgt := 73) hx hb d_Re_isRow_122 (by decide) ?_
          exact ih s16 s17 s18 s19 (y4 + (y5 * r13)) (y5 + 1) hw _ _ (hP.sub [0, 1, 2, 3, 4] rfl) (hD.sub [0, 1, 2, 3, 4] (by decide) rfl) hS ls (lv_sub hl [3, 4, 5, 1, 0] rfl)
        · have hw := hw.2 c20
          refine lv_iconst (v := 0) hx hb d_Re_isRow_107 (by decide) ?_
          have hP9 := hP.sub (ws' := [(a_this, .inr (2, [.ref a_strip, .ref a_told, .int v_fromBack, .int s16, .int s17])), (a_strip, .inr (0, [.ref a_strip_items, .int v_strip_count])), (a_strip_items, .inl (k_strip_items, 800, .inl f_strip_items)), (a_told, .inr (0, [.ref a_told_items, .int s18])), (a_told_items, .inl (k_told_items, 260, .inl s19))]) [0, 1, 2, 3, 4] rfl
          have hD9 := hD.sub (ws' := [(a_this, .inr (2, [.ref a_strip, .ref a_told, .int v_fromBack, .int s16, .int s17])), (a_strip, .inr (0, [.ref a_strip_items, .int v_strip_count])), (a_strip_items, .inl (k_strip_items, 800, .inl f_strip_items)), (a_told, .inr (0, [.ref a_told_items, .int s18])), (a_told_items, .inl (k_told_items, 260, .inl s19))]) [0, 1, 2, 3, 4] (by decide) rfl
          exact W.zret (v := 0) (ty := .boolean) hx hb hr rfl (fun t ht hW => ⟨⟨0, (s16, s17, s18, s19), rfl, hw, by rw [ht]; exact hP9, va_K.moved hW.alike hK, hD9⟩, hS.F ht⟩) hS.2.2 d_Re_isRow_108
set_option maxHeartbeats 4000000 in
set_option maxRecDepth 100000 in
theorem met_Re_isRow (l : Launch) (D : va_G) (Z : (Nat → Prop) → State → Heap → Prop) (hz : zk Z) (ad : Nat → Nat) (hk : zs Z ad) (a_this : Nat) (a_strip : Nat) (a_strip_items : Nat) (a_told : Nat) (a_told_items : Nat) (k_strip_items : ClassId) (k_told_items : ClassId) (v_fromBack : Int32) (v_set : Int32) (v_shifted : Int32) (v_strip_count : Int32) (f_strip_items : Nat → Int32) (v_told_count : Int32) (f_told_items : Nat → Int32) (sz : Nat) {post : Int32 → Int32 → Int32 → Int32 → (Nat → Int32) → Prop} (hw : w_Re_isRow post v_set v_shifted v_strip_count f_strip_items v_told_count f_told_items) : Met l y_Re_isRow ws_Re_isRow rm_Re_isRow (va_Pc [.ref a_this] (rw_ D vwCl [(k_strip_items, .int), (k_told_items, .int)] [(a_this, .inr (2, [.ref a_strip, .ref a_told, .int v_fromBack, .int v_set, .int v_shifted])), (a_strip, .inr (0, [.ref a_strip_items, .int v_strip_count])), (a_strip_items, .inl (k_strip_items, 800, .inl f_strip_items)), (a_told, .inr (0, [.ref a_told_items, .int v_told_count])), (a_told_items, .inl (k_told_items, 260, .inl f_told_items))] (Z) sz)) (va_Qi (fun (r : Int32) (u : Int32 × Int32 × Int32 × (Nat → Int32)) => post r u.1 u.2.1 u.2.2.1 u.2.2.2) (fun u t => at_ D vwCl [(k_strip_items, .int), (k_told_items, .int)] (va_A [(a_this, .inr (2, [.ref a_strip, .ref a_told, .int v_fromBack, .int v_set, .int v_shifted])), (a_strip, .inr (0, [.ref a_strip_items, .int v_strip_count])), (a_strip_items, .inl (k_strip_items, 800, .inl f_strip_items)), (a_told, .inr (0, [.ref a_told_items, .int v_told_count])), (a_told_items, .inl (k_told_items, 260, .inl f_told_items))] sz) [(a_this, .inr (2, [.ref a_strip, .ref a_told, .int v_fromBack, .int u.1, .int u.2.1])), (a_strip, .inr (0, [.ref a_strip_items, .int v_strip_count])), (a_strip_items, .inl (k_strip_items, 800, .inl f_strip_items)), (a_told, .inr (0, [.ref a_told_items, .int u.2.2.1])), (a_told_items, .inl (k_told_items, 260, .inl u.2.2.2))] t) (va_A [(a_this, .inr (2, [.ref a_strip, .ref a_told, .int v_fromBack, .int v_set, .int v_shifted])), (a_strip, .inr (0, [.ref a_strip_items, .int v_strip_count])), (a_strip_items, .inl (k_strip_items, 800, .inl f_strip_items)), (a_told, .inr (0, [.ref a_told_items, .int v_told_count])), (a_told_items, .inl (k_told_items, 260, .inl f_told_items))] sz)) 0 0 (va_A [(a_this, .inr (2, [.ref a_strip, .ref a_told, .int v_fromBack, .int v_set, .int v_shifted])), (a_strip, .inr (0, [.ref a_strip_items, .int v_strip_count])), (a_strip_items, .inl (k_strip_items, 800, .inl f_strip_items)), (a_told, .inr (0, [.ref a_told_items, .int v_told_count])), (a_told_items, .inl (k_told_items, 260, .inl f_told_items))] sz) := by
  refine Met.ofW (cc := c_Re_isRow) (maxL := 7) (ret := (some .boolean)) (by decide) rfl ?_
  intro p e s m args below meth c s₁ B hml hv
  obtain ⟨rfl, hsz, hP, hK, hD0, hZ⟩ := hv
  have hx := B.exec
  have hb := B.bytes
  have hr := B.returns
  have hts0 := atoms_spec (ws := ws_Re_isRow) B.pre
  have hts := fun (w : Cond) (h : w ∈ tb) => hts0 w (List.mem_cons_of_mem _ h)
  have hown : s.vm.findClass R_Re = some m.cls := findClass_of_methodNamed B.named
  have hlocks := B.notSynchronized
  subst hsz
  have hD := hD0.self (sz := s.heap.size)
  generalize hAe : va_A [(a_this, .inr (2, [.ref a_strip, .ref a_told, .int v_fromBack, .int v_set, .int v_shifted])), (a_strip, .inr (0, [.ref a_strip_items, .int v_strip_count])), (a_strip_items, .inl (k_strip_items, 800, .inl f_strip_items)), (a_told, .inr (0, [.ref a_told_items, .int v_told_count])), (a_told_items, .inl (k_told_items, 260, .inl f_told_items))] s.heap.size = A at hD hZ ⊢
  have hA : ∀ q : Nat, s.heap.size ≤ q → A q := fun q h => by rw [← hAe]; exact Or.inr h
  have hS : va_S A s.heap s.heap [] := va_S.rf
  have hl := lv_entry ([.ref a_this]) (n := 7) (Nat.le_of_ble_eq_true rfl)
  rw [lg_entry_eq]
  generalize (lg_sl ([.ref a_this]) ++ List.replicate (7 - (lg_sl ([.ref a_this])).length) Slot.unset).toArray = ls at hl ⊢
  have hl : lv_has ls 7 [(0, .ref a_this)] := hl
  unfold w_Re_isRow at hw
  refine lv_aload_n hx hb d_Re_isRow_0 rfl (lv_at hl 0 rfl) ?_
  refine va_get (D := D) (ci := 2) (v := .ref a_strip) (C := R_Re) (T := T_Re) (N := 5) hx hb hts in_Re hown hK hP 0 rfl rfl 0 (by decide) (hts _ mm_105) (fun _ h9 => h9) rfl d_Re_isRow_1 ?_
  refine k_roVi (As := []) (rest := []) hz [1, 2] [0] 1 0 ⟨hx, hb, hml, hown, hts⟩ (met_It_count l D Z hz ad hk a_strip a_strip_items k_strip_items 800 v_strip_count f_strip_items hw) (cwV 0 hts (g_V mm_260 mm_154 mm_155 mm_42 mm_156) rfl rfl rfl hd_It_count ⟨Nat.le_of_ble_eq_true rfl, Nat.le_of_ble_eq_true rfl⟩) hP hK hZ hS rfl rfl rfl rfl rfl hl.1 rfl (Nat.le_of_ble_eq_true rfl) d_Re_isRow_4 ⟨Nat.le_of_ble_eq_true rfl, Nat.le_of_ble_eq_true rfl⟩ (fun r1 hw => ?_)
  refine lv_bipush (v := 7) hx hb d_Re_isRow_7 (by decide) ?_
  refine lv_isub hx hb d_Re_isRow_9 ?_
  refine lv_istore_n (lv' := [(1, .int (r1 - 7)), (0, .ref a_this)]) hx hb d_Re_isRow_10 rfl hl (by decide) rfl (fun ls hl => ?_)
  refine lv_iload_n hx hb d_Re_isRow_11 rfl (lv_at hl 0 rfl) ?_
  refine lv_bipush (v := 6) hx hb d_Re_isRow_12 (by decide) ?_
  refine lv_idiv hx hb d_Re_isRow_14 (by decide) ?_
  refine lv_istore_n (lv' := [(2, .int ((r1 - 7) / 6)), (1, .int (r1 - 7)), (0, .ref a_this)]) hx hb d_Re_isRow_15 rfl hl (by decide) rfl (fun ls hl => ?_)
  refine lv_iload_n hx hb d_Re_isRow_16 rfl (lv_at hl 0 rfl) ?_
  refine lv_iconst (v := 2) hx hb d_Re_isRow_17 (by decide) ?_
  refine lv_icmp_lt (tgt := 37) hx hb d_Re_isRow_18 (by decide) (fun c2 => ?_) (fun c2 => ?_)
  · have hw := hw.1 c2
    refine lv_iconst (v := 0) hx hb d_Re_isRow_37 (by decide) ?_
    have hP9 := hP.sub (ws' := [(a_this, .inr (2, [.ref a_strip, .ref a_told, .int v_fromBack, .int v_set, .int v_shifted])), (a_strip, .inr (0, [.ref a_strip_items, .int v_strip_count])), (a_strip_items, .inl (k_strip_items, 800, .inl f_strip_items)), (a_told, .inr (0, [.ref a_told_items, .int v_told_count])), (a_told_items, .inl (k_told_items, 260, .inl f_told_items))]) [0, 1, 2, 3, 4] rfl
    have hD9 := hD.sub (ws' := [(a_this, .inr (2, [.ref a_strip, .ref a_told, .int v_fromBack, .int v_set, .int v_shifted])), (a_strip, .inr (0, [.ref a_strip_items, .int v_strip_count])), (a_strip_items, .inl (k_strip_items, 800, .inl f_strip_items)), (a_told, .inr (0, [.ref a_told_items, .int v_told_count])), (a_told_items, .inl (k_told_items, 260, .inl f_told_items))]) [0, 1, 2, 3, 4] (by decide) rfl
    exact W.zret (v := 0) (ty := .boolean) hx hb hr rfl (fun t ht hW => ⟨⟨0, (v_set, v_shifted, v_told_count, f_told_items), rfl, hw, by rw [ht]; exact hP9, va_K.moved hW.alike hK, hD9⟩, hS.F ht⟩) hS.2.2 d_Re_isRow_38
  · have hw := hw.2 c2
    refine lv_iload_n hx hb d_Re_isRow_21 rfl (lv_at hl 1 rfl) ?_
    refine lv_iload_n hx hb d_Re_isRow_22 rfl (lv_at hl 0 rfl) ?_
    refine lv_bipush (v := 6) hx hb d_Re_isRow_23 (by decide) ?_
    refine lv_imul hx hb d_Re_isRow_25 ?_
    refine lv_icmp_ne (tgt := 37) hx hb d_Re_isRow_26 (by decide) (fun c3 => ?_) (fun c3 => ?_)
    · have hw := hw.1 c3
      refine lv_iconst (v := 0) hx hb d_Re_isRow_37 (by decide) ?_
      have hP9 := hP.sub (ws' := [(a_this, .inr (2, [.ref a_strip, .ref a_told, .int v_fromBack, .int v_set, .int v_shifted])), (a_strip, .inr (0, [.ref a_strip_items, .int v_strip_count])), (a_strip_items, .inl (k_strip_items, 800, .inl f_strip_items)), (a_told, .inr (0, [.ref a_told_items, .int v_told_count])), (a_told_items, .inl (k_told_items, 260, .inl f_told_items))]) [0, 1, 2, 3, 4] rfl
      have hD9 := hD.sub (ws' := [(a_this, .inr (2, [.ref a_strip, .ref a_told, .int v_fromBack, .int v_set, .int v_shifted])), (a_strip, .inr (0, [.ref a_strip_items, .int v_strip_count])), (a_strip_items, .inl (k_strip_items, 800, .inl f_strip_items)), (a_told, .inr (0, [.ref a_told_items, .int v_told_count])), (a_told_items, .inl (k_told_items, 260, .inl f_told_items))]) [0, 1, 2, 3, 4] (by decide) rfl
      exact W.zret (v := 0) (ty := .boolean) hx hb hr rfl (fun t ht hW => ⟨⟨0, (v_set, v_shifted, v_told_count, f_told_items), rfl, hw, by rw [ht]; exact hP9, va_K.moved hW.alike hK, hD9⟩, hS.F ht⟩) hS.2.2 d_Re_isRow_38
    · have hw := hw.2 c3
      refine lv_aload_n hx hb d_Re_isRow_29 rfl (lv_at hl 2 rfl) ?_
      refine lv_iload_n hx hb d_Re_isRow_30 rfl (lv_at hl 1 rfl) ?_
      refine k_roVi (As := [.int (r1 - 7)]) (rest := []) hz [0, 1, 2, 3, 4] [0, 1] 0 2 ⟨hx, hb, hml, hown, hts⟩ (met_Re_isLastAt l D Z hz ad hk a_this a_strip a_strip_items a_told a_told_items k_strip_items k_told_items v_fromBack v_set v_shifted v_strip_count f_strip_items v_told_count f_told_items (r1 - 7) hw) (cwV 1 hts (g_V mm_315 mm_317 mm_17 mm_45 mm_318) rfl rfl rfl hd_Re_isLastAt ⟨Nat.le_of_ble_eq_true rfl, Nat.le_of_ble_eq_true rfl⟩) hP hK hZ hS rfl rfl rfl rfl rfl hl.1 rfl (Nat.le_of_ble_eq_true rfl) d_Re_isRow_31 ⟨Nat.le_of_ble_eq_true rfl, Nat.le_of_ble_eq_true rfl⟩ (fun r4 hw => ?_)
      refine lv_if_ne (tgt := 39) hx hb d_Re_isRow_34 (by decide) (fun c5 => ?_) (fun c5 => ?_)
      · have hw := hw.1 c5
        refine lv_aload_n hx hb d_Re_isRow_39 rfl (lv_at hl 2 rfl) ?_
        refine lv_iconst (v := 0) hx hb d_Re_isRow_40 (by decide) ?_
        refine k_roVi (As := [.int 0]) (rest := []) hz [0, 1, 2, 3, 4] [0, 1] 0 2 ⟨hx, hb, hml, hown, hts⟩ (met_Re_symbolAt l D Z hz ad hk a_this a_strip a_strip_items a_told a_told_items k_strip_items k_told_items v_fromBack v_set v_shifted v_strip_count f_strip_items v_told_count f_told_items 0 hw) (cwV 1 hts (g_V mm_320 mm_322 mm_18 mm_45 mm_323) rfl rfl rfl hd_Re_symbolAt ⟨Nat.le_of_ble_eq_true rfl, Nat.le_of_ble_eq_true rfl⟩) hP hK hZ hS rfl rfl rfl rfl rfl hl.1 rfl (Nat.le_of_ble_eq_true rfl) d_Re_isRow_41 ⟨Nat.le_of_ble_eq_true rfl, Nat.le_of_ble_eq_true rfl⟩ (fun r6 hw => ?_)
        refine lv_istore_n (lv' := [(3, .int r6), (2, .int ((r1 - 7) / 6)), (1, .int (r1 - 7)), (0, .ref a_this)]) hx hb d_Re_isRow_44 rfl hl (by decide) rfl (fun ls hl => ?_)
        refine lv_iload_n hx hb d_Re_isRow_45 rfl (lv_at hl 0 rfl) ?_
        refine k_roSi (As := [.int r6]) (rest := []) hz [] [] ⟨hx, hb, hml, hown, hts⟩ (met_Se_isFirst l D Z hz ad hk r6 hw) (va_cwS 1 hts (g_S mm_329 mm_330 mm_51 mm_331) rfl rfl rfl hd_Se_isFirst.2 ⟨Nat.le_of_ble_eq_true rfl, Nat.le_of_ble_eq_true rfl⟩) hP hK hZ hS rfl rfl rfl hl.1 rfl (Nat.le_of_ble_eq_true rfl) d_Re_isRow_46 ⟨Nat.le_of_ble_eq_true rfl, Nat.le_of_ble_eq_true rfl⟩ (fun r7 hw => ?_)
        refine lv_if_ne (tgt := 54) hx hb d_Re_isRow_49 (by decide) (fun c8 => ?_) (fun c8 => ?_)
        · have hw := hw.1 c8
          refine lv_aload_n hx hb d_Re_isRow_54 rfl (lv_at hl 3 rfl) ?_
          refine lv_iload_n hx hb d_Re_isRow_55 rfl (lv_at hl 0 rfl) ?_
          refine lv_bipush (v := 103) hx hb d_Re_isRow_56 (by decide) ?_
          refine lv_isub hx hb d_Re_isRow_58 ?_
          refine va_put (D := D) (ci := 2) (v := .int (r6 - 103)) (ty := .int) (C := R_Re) (T := T_Re) (N := 5) hx hb hts in_Re ty_Re tk_Re nn_Re hown hK hP hD hS 0 rfl rfl 3 (by decide) (hts _ mm_108) (fun _ h9 => h9) rfl (by decide +kernel) rfl rfl (Nat.le_of_ble_eq_true rfl) d_Re_isRow_59 (fun H locs hP hD hS => ?_)
          have hP : va_P D vwCl [(a_this, .inr (2, [.ref a_strip, .ref a_told, .int v_fromBack, .int (r6 - 103), .int v_shifted])), (a_strip, .inr (0, [.ref a_strip_items, .int v_strip_count])), (a_strip_items, .inl (k_strip_items, 800, .inl f_strip_items)), (a_told, .inr (0, [.ref a_told_items, .int v_told_count])), (a_told_items, .inl (k_told_items, 260, .inl f_told_items))] H := hP
          have hD : va_D A [(a_this, .inr (2, [.ref a_strip, .ref a_told, .int v_fromBack, .int (r6 - 103), .int v_shifted])), (a_strip, .inr (0, [.ref a_strip_items, .int v_strip_count])), (a_strip_items, .inl (k_strip_items, 800, .inl f_strip_items)), (a_told, .inr (0, [.ref a_told_items, .int v_told_count])), (a_told_items, .inl (k_told_items, 260, .inl f_told_items))] := hD
          refine lv_aload_n hx hb d_Re_isRow_62 rfl (lv_at hl 3 rfl) ?_
          refine lv_iconst (v := 0) hx hb d_Re_isRow_63 (by decide) ?_
          refine va_put (D := D) (ci := 2) (v := .int 0) (ty := .boolean) (C := R_Re) (T := T_Re) (N := 5) hx hb hts in_Re ty_Re tk_Re nn_Re hown hK hP hD hS 0 rfl rfl 4 (by decide) (hts _ mm_109) (fun _ h9 => h9) rfl (by decide +kernel) rfl rfl (Nat.le_of_ble_eq_true rfl) d_Re_isRow_64 (fun H locs hP hD hS => ?_)
          have hP : va_P D vwCl [(a_this, .inr (2, [.ref a_strip, .ref a_told, .int v_fromBack, .int (r6 - 103), .int 0])), (a_strip, .inr (0, [.ref a_strip_items, .int v_strip_count])), (a_strip_items, .inl (k_strip_items, 800, .inl f_strip_items)), (a_told, .inr (0, [.ref a_told_items, .int v_told_count])), (a_told_items, .inl (k_told_items, 260, .inl f_told_items))] H := hP
          have hD : va_D A [(a_this, .inr (2, [.ref a_strip, .ref a_told, .int v_fromBack, .int (r6 - 103), .int 0])), (a_strip, .inr (0, [.ref a_strip_items, .int v_strip_count])), (a_strip_items, .inl (k_strip_items, 800, .inl f_strip_items)), (a_told, .inr (0, [.ref a_told_items, .int v_told_count])), (a_told_items, .inl (k_told_items, 260, .inl f_told_items))] := hD
          refine lv_iload_n hx hb d_Re_isRow_67 rfl (lv_at hl 0 rfl) ?_
          refine lv_istore (lv' := [(4, .int r6), (3, .int r6), (2, .int ((r1 - 7) / 6)), (1, .int (r1 - 7)), (0, .ref a_this)]) hx hb d_Re_isRow_68 hl (by decide) rfl (fun ls hl => ?_)
          refine lv_iconst (v := 1) hx hb d_Re_isRow_70 (by decide) ?_
          refine lv_istore (lv' := [(5, .int 1), (4, .int r6), (3, .int r6), (2, .int ((r1 - 7) / 6)), (1, .int (r1 - 7)), (0, .ref a_this)]) hx hb d_Re_isRow_71 hl (by decide) rfl (fun ls hl => ?_)
          obtain ⟨n9, hw⟩ := hw
          exact lp_Re_isRow_73 l D Z hz ad hk a_this a_strip a_strip_items a_told a_told_items k_strip_items k_told_items v_fromBack v_strip_count f_strip_items (r1 - 7) ((r1 - 7) / 6) hx hb hml hr hts hown hlocks hK hZ hA n9 (r6 - 103) 0 v_told_count f_told_items r6 1 hw _ _ (hP.sub [0, 1, 2, 3, 4] rfl) (hD.sub [0, 1, 2, 3, 4] (by decide) rfl) hS ls (lv_sub hl [5, 4, 3, 1, 0] rfl)
        · have hw := hw.2 c8
          refine lv_iconst (v := 0) hx hb d_Re_isRow_52 (by decide) ?_
          have hP9 := hP.sub (ws' := [(a_this, .inr (2, [.ref a_strip, .ref a_told, .int v_fromBack, .int v_set, .int v_shifted])), (a_strip, .inr (0, [.ref a_strip_items, .int v_strip_count])), (a_strip_items, .inl (k_strip_items, 800, .inl f_strip_items)), (a_told, .inr (0, [.ref a_told_items, .int v_told_count])), (a_told_items, .inl (k_told_items, 260, .inl f_told_items))]) [0, 1, 2, 3, 4] rfl
          have hD9 := hD.sub (ws' := [(a_this, .inr (2, [.ref a_strip, .ref a_told, .int v_fromBack, .int v_set, .int v_shifted])), (a_strip, .inr (0, [.ref a_strip_items, .int v_strip_count])), (a_strip_items, .inl (k_strip_items, 800, .inl f_strip_items)), (a_told, .inr (0, [.ref a_told_items, .int v_told_count])), (a_told_items, .inl (k_told_items, 260, .inl f_told_items))]) [0, 1, 2, 3, 4] (by decide) rfl
          exact W.zret (v := 0) (ty := .boolean) hx hb hr rfl (fun t ht hW => ⟨⟨0, (v_set, v_shifted, v_told_count, f_told_items), rfl, hw, by rw [ht]; exact hP9, va_K.moved hW.alike hK, hD9⟩, hS.F ht⟩) hS.2.2 d_Re_isRow_53
      · have hw := hw.2 c5
        refine lv_iconst (v := 0) hx hb d_Re_isRow_37 (by decide) ?_
        have hP9 := hP.sub (ws' := [(a_this, .inr (2, [.ref a_strip, .ref a_told, .int v_fromBack, .int v_set, .int v_shifted])), (a_strip, .inr (0, [.ref a_strip_items, .int v_strip_count])), (a_strip_items, .inl (k_strip_items, 800, .inl f_strip_items)), (a_told, .inr (0, [.ref a_told_items, .int v_told_count])), (a_told_items, .inl (k_told_items, 260, .inl f_told_items))]) [0, 1, 2, 3, 4] rfl
        have hD9 := hD.sub (ws' := [(a_this, .inr (2, [.ref a_strip, .ref a_told, .int v_fromBack, .int v_set, .int v_shifted])), (a_strip, .inr (0, [.ref a_strip_items, .int v_strip_count])), (a_strip_items, .inl (k_strip_items, 800, .inl f_strip_items)), (a_told, .inr (0, [.ref a_told_items, .int v_told_count])), (a_told_items, .inl (k_told_items, 260, .inl f_told_items))]) [0, 1, 2, 3, 4] (by decide) rfl
        exact W.zret (v := 0) (ty := .boolean) hx hb hr rfl (fun t ht hW => ⟨⟨0, (v_set, v_shifted, v_told_count, f_told_items), rfl, hw, by rw [ht]; exact hP9, va_K.moved hW.alike hK, hD9⟩, hS.F ht⟩) hS.2.2 d_Re_isRow_38
-- LineCodes$Reader.isReadable(Z)Z
def w_Re_isReadable (post : Int32 → Int32 → Int32 → Int32 → Int32 → (Nat → Int32) → Prop) (v_set : Int32) (v_shifted : Int32) (v_strip_count : Int32) (f_strip_items : Nat → Int32) (v_told_count : Int32) (f_told_items : Nat → Int32) (x1 : Int32) : Prop := w_It_empty (fun r1 s2 => w_It_count (fun r3 => (¬ r3 = 59 → w_Re_isRow (fun r5 s6 s7 s8 s9 => (¬ r5 = 0 → (r5 = 0 → vz r5 ∧ post r5 0 s6 s7 s8 s9) ∧ (¬ r5 = 0 → (x1 = 0 → vz r5 ∧ post r5 0 s6 s7 s8 s9) ∧ (¬ x1 = 0 → vz r5 ∧ post r5 1 s6 s7 s8 s9))) ∧ (r5 = 0 → w_It_empty (fun r13 s14 => (r5 = 0 → vz r5 ∧ post r5 0 s6 s7 s14 s9) ∧ (¬ r5 = 0 → (x1 = 0 → vz r5 ∧ post r5 0 s6 s7 s14 s9) ∧ (¬ x1 = 0 → vz r5 ∧ post r5 1 s6 s7 s14 s9))) s8)) v_set v_shifted v_strip_count f_strip_items s2 f_told_items) ∧ (r3 = 59 → w_Re_isThirteen (fun r17 s18 s19 => (¬ r17 = 0 → (r17 = 0 → vz r17 ∧ post r17 0 v_set v_shifted s18 s19) ∧ (¬ r17 = 0 → (x1 = 0 → vz r17 ∧ post r17 0 v_set v_shifted s18 s19) ∧ (¬ x1 = 0 → vz r17 ∧ post r17 1 v_set v_shifted s18 s19))) ∧ (r17 = 0 → w_It_empty (fun r23 s24 => (r17 = 0 → vz r17 ∧ post r17 0 v_set v_shifted s24 s19) ∧ (¬ r17 = 0 → (x1 = 0 → vz r17 ∧ post r17 0 v_set v_shifted s24 s19) ∧ (¬ x1 = 0 → vz r17 ∧ post r17 1 v_set v_shifted s24 s19))) s18)) v_strip_count f_strip_items s2 f_told_items)) v_strip_count) v_told_count
abbrev rm_Re_isReadable : Room := { frames := 5, cells := 0, slots := 0, locals := 117 }
set_option maxHeartbeats 4000000 in
set_option maxRecDepth 100000 in
theorem met_Re_isReadable (l : Launch) (D : va_G) (Z : (Nat → Prop) → State → Heap → Prop) (hz : zk Z) (ad : Nat → Nat) (hk : zs Z ad) (a_this : Nat) (a_strip : Nat) (a_strip_items : Nat) (a_told : Nat) (a_told_items : Nat) (k_strip_items : ClassId) (k_told_items : ClassId) (v_fromBack : Int32) (v_set : Int32) (v_shifted : Int32) (v_strip_count : Int32) (f_strip_items : Nat → Int32) (v_told_count : Int32) (f_told_items : Nat → Int32) (x1 : Int32) (sz : Nat) {post : Int32 → Int32 → Int32 → Int32 → Int32 → (Nat → Int32) → Prop} (hw : w_Re_isReadable post v_set v_shifted v_strip_count f_strip_items v_told_count f_told_items x1) : Met l y_Re_isReadable ws_Re_isReadable rm_Re_isReadable (va_Pc [.ref a_this, .int x1] (rw_ D vwCl [(k_strip_items, .int), (k_told_items, .int)] [(a_this, .inr (2, [.ref a_strip, .ref a_told, .int v_fromBack, .int v_set, .int v_shifted])), (a_strip, .inr (0, [.ref a_strip_items, .int v_strip_count])), (a_strip_items, .inl (k_strip_items, 800, .inl f_strip_items)), (a_told, .inr (0, [.ref a_told_items, .int v_told_count])), (a_told_items, .inl (k_told_items, 260, .inl f_told_items))] (Z) sz)) (va_Qi (fun (r : Int32) (u : Int32 × Int32 × Int32 × Int32 × (Nat → Int32)) => post r u.1 u.2.1 u.2.2.1 u.2.2.2.1 u.2.2.2.2) (fun u t => at_ D vwCl [(k_strip_items, .int), (k_told_items, .int)] (va_A [(a_this, .inr (2, [.ref a_strip, .ref a_told, .int v_fromBack, .int v_set, .int v_shifted])), (a_strip, .inr (0, [.ref a_strip_items, .int v_strip_count])), (a_strip_items, .inl (k_strip_items, 800, .inl f_strip_items)), (a_told, .inr (0, [.ref a_told_items, .int v_told_count])), (a_told_items, .inl (k_told_items, 260, .inl f_told_items))] sz) [(a_this, .inr (2, [.ref a_strip, .ref a_told, .int u.1, .int u.2.1, .int u.2.2.1])), (a_strip, .inr (0, [.ref a_strip_items, .int v_strip_count])), (a_strip_items, .inl (k_strip_items, 800, .inl f_strip_items)), (a_told, .inr (0, [.ref a_told_items, .int u.2.2.2.1])), (a_told_items, .inl (k_told_items, 260, .inl u.2.2.2.2))] t) (va_A [(a_this, .inr (2, [.ref a_strip, .ref a_told, .int v_fromBack, .int v_set, .int v_shifted])), (a_strip, .inr (0, [.ref a_strip_items, .int v_strip_count])), (a_strip_items, .inl (k_strip_items, 800, .inl f_strip_items)), (a_told, .inr (0, [.ref a_told_items, .int v_told_count])), (a_told_items, .inl (k_told_items, 260, .inl f_told_items))] sz)) 0 0 (va_A [(a_this, .inr (2, [.ref a_strip, .ref a_told, .int v_fromBack, .int v_set, .int v_shifted])), (a_strip, .inr (0, [.ref a_strip_items, .int v_strip_count])), (a_strip_items, .inl (k_strip_items, 800, .inl f_strip_items)), (a_told, .inr (0, [.ref a_told_items, .int v_told_count])), (a_told_items, .inl (k_told_items, 260, .inl f_told_items))] sz) := by
  refine Met.ofW (cc := c_Re_isReadable) (maxL := 3) (ret := (some .boolean)) (by decide) rfl ?_
  intro p e s m args below meth c s₁ B hml hv
  obtain ⟨rfl, hsz, hP, hK, hD0, hZ⟩ := hv
  have hx := B.exec
  have hb := B.bytes
  have hr := B.returns
  have hts0 := atoms_spec (ws := ws_Re_isReadable) B.pre
  have hts := fun (w : Cond) (h : w ∈ tb) => hts0 w (List.mem_cons_of_mem _ h)
  have hown : s.vm.findClass R_Re = some m.cls := findClass_of_methodNamed B.named
  have hlocks := B.notSynchronized
  subst hsz
  have hD := hD0.self (sz := s.heap.size)
  generalize hAe : va_A [(a_this, .inr (2, [.ref a_strip, .ref a_told, .int v_fromBack, .int v_set, .int v_shifted])), (a_strip, .inr (0, [.ref a_strip_items, .int v_strip_count])), (a_strip_items, .inl (k_strip_items, 800, .inl f_strip_items)), (a_told, .inr (0, [.ref a_told_items, .int v_told_count])), (a_told_items, .inl (k_told_items, 260, .inl f_told_items))] s.heap.size = A at hD hZ ⊢
  have hA : ∀ q : Nat, s.heap.size ≤ q → A q := fun q h => by rw [← hAe]; exact Or.inr h
  have hS : va_S A s.heap s.heap [] := va_S.rf
  have hl := lv_entry ([.ref a_this, .int x1]) (n := 3) (Nat.le_of_ble_eq_true rfl)
  rw [lg_entry_eq]
  generalize (lg_sl ([.ref a_this, .int x1]) ++ List.replicate (3 - (lg_sl ([.ref a_this, .int x1])).length) Slot.unset).toArray = ls at hl ⊢
  have hl : lv_has ls 3 [(0, .ref a_this), (1, .int x1)] := hl
  unfold w_Re_isReadable at hw
  refine lv_aload_n hx hb d_Re_isReadable_0 rfl (lv_at hl 0 rfl) ?_
  refine va_get (D := D) (ci := 2) (v := .ref a_told) (C := R_Re) (T := T_Re) (N := 5) hx hb hts in_Re hown hK hP 0 rfl rfl 1 (by decide) (hts _ mm_106) (fun _ h9 => h9) rfl d_Re_isReadable_1 ?_
  refine k_rwVi (As := []) (rest := []) (wr := [(a_this, .inr (2, [.ref a_strip, .ref a_told, .int v_fromBack, .int v_set, .int v_shifted])), (a_strip, .inr (0, [.ref a_strip_items, .int v_strip_count])), (a_strip_items, .inl (k_strip_items, 800, .inl f_strip_items))]) hz [3, 4] [0, 1, 2] [1] 3 0 ⟨hx, hb, hml, hown, hts⟩ (met_It_empty l D Z hz ad hk a_told a_told_items k_told_items 260 v_told_count f_told_items _ hw) (cwV 0 hts (g_V mm_259 mm_142 mm_143 mm_42 mm_144) rfl rfl rfl hd_It_empty ⟨Nat.le_of_ble_eq_true rfl, Nat.le_of_ble_eq_true rfl⟩) hP hD hK hZ hS hA rfl rfl rfl rfl rfl (by decide) rfl rfl rfl rfl hl.1 rfl (Nat.le_of_ble_eq_true rfl) d_Re_isReadable_4 ⟨Nat.le_of_ble_eq_true rfl, Nat.le_of_ble_eq_true rfl⟩ (fun r1 s2 H locs hw hP hD hS => ?_)
  try dsimp only at hw
  have hP : va_P D vwCl [(a_this, .inr (2, [.ref a_strip, .ref a_told, .int v_fromBack, .int v_set, .int v_shifted])), (a_strip, .inr (0, [.ref a_strip_items, .int v_strip_count])), (a_strip_items, .inl (k_strip_items, 800, .inl f_strip_items)), (a_told, .inr (0, [.ref a_told_items, .int s2])), (a_told_items, .inl (k_told_items, 260, .inl f_told_items))] H := hP
  have hD : va_D A [(a_this, .inr (2, [.ref a_strip, .ref a_told, .int v_fromBack, .int v_set, .int v_shifted])), (a_strip, .inr (0, [.ref a_strip_items, .int v_strip_count])), (a_strip_items, .inl (k_strip_items, 800, .inl f_strip_items)), (a_told, .inr (0, [.ref a_told_items, .int s2])), (a_told_items, .inl (k_told_items, 260, .inl f_told_items))] := hD
  refine lv_pop hx hb d_Re_isReadable_7 rfl ?_
  refine lv_aload_n hx hb d_Re_isReadable_8 rfl (lv_at hl 0 rfl) ?_
  refine va_get (D := D) (ci := 2) (v := .ref a_strip) (C := R_Re) (T := T_Re) (N := 5) hx hb hts in_Re hown hK hP 0 rfl rfl 0 (by decide) (hts _ mm_105) (fun _ h9 => h9) rfl d_Re_isReadable_9 ?_
  refine k_roVi (As := []) (rest := []) hz [1, 2] [0] 1 0 ⟨hx, hb, hml, hown, hts⟩ (met_It_count l D Z hz ad hk a_strip a_strip_items k_strip_items 800 v_strip_count f_strip_items hw) (cwV 0 hts (g_V mm_260 mm_154 mm_155 mm_42 mm_156) rfl rfl rfl hd_It_count ⟨Nat.le_of_ble_eq_true rfl, Nat.le_of_ble_eq_true rfl⟩) hP hK hZ hS rfl rfl rfl rfl rfl hl.1 rfl (Nat.le_of_ble_eq_true rfl) d_Re_isReadable_12 ⟨Nat.le_of_ble_eq_true rfl, Nat.le_of_ble_eq_true rfl⟩ (fun r3 hw => ?_)
  refine lv_bipush (v := 59) hx hb d_Re_isReadable_15 (by decide) ?_
  refine lv_icmp_ne (tgt := 27) hx hb d_Re_isReadable_17 (by decide) (fun c4 => ?_) (fun c4 => ?_)
  · have hw := hw.1 c4
    refine lv_aload_n hx hb d_Re_isReadable_27 rfl (lv_at hl 0 rfl) ?_
    refine k_rwVi (As := []) (rest := []) (wr := []) hz [0, 1, 2, 3, 4] [] [0, 1] 0 2 ⟨hx, hb, hml, hown, hts⟩ (met_Re_isRow l D Z hz ad hk a_this a_strip a_strip_items a_told a_told_items k_strip_items k_told_items v_fromBack v_set v_shifted v_strip_count f_strip_items s2 f_told_items _ hw) (cwV 0 hts (g_V mm_311 mm_313 mm_16 mm_45 mm_314) rfl rfl rfl hd_Re_isRow ⟨Nat.le_of_ble_eq_true rfl, Nat.le_of_ble_eq_true rfl⟩) hP hD hK hZ hS hA rfl rfl rfl rfl rfl (by decide) rfl rfl rfl rfl hl.1 rfl (Nat.le_of_ble_eq_true rfl) d_Re_isReadable_28 ⟨Nat.le_of_ble_eq_true rfl, Nat.le_of_ble_eq_true rfl⟩ (fun r5 u9 H locs hw hP hD hS => ?_)
    obtain ⟨s6, s7, s8, s9⟩ := u9
    try dsimp only at hw
    have hP : va_P D vwCl [(a_this, .inr (2, [.ref a_strip, .ref a_told, .int v_fromBack, .int s6, .int s7])), (a_strip, .inr (0, [.ref a_strip_items, .int v_strip_count])), (a_strip_items, .inl (k_strip_items, 800, .inl f_strip_items)), (a_told, .inr (0, [.ref a_told_items, .int s8])), (a_told_items, .inl (k_told_items, 260, .inl s9))] H := hP
    have hD : va_D A [(a_this, .inr (2, [.ref a_strip, .ref a_told, .int v_fromBack, .int s6, .int s7])), (a_strip, .inr (0, [.ref a_strip_items, .int v_strip_count])), (a_strip_items, .inl (k_strip_items, 800, .inl f_strip_items)), (a_told, .inr (0, [.ref a_told_items, .int s8])), (a_told_items, .inl (k_told_items, 260, .inl s9))] := hD
    refine lv_istore_n (lv' := [(2, .int r5), (0, .ref a_this), (1, .int x1)]) hx hb d_Re_isReadable_31 rfl hl (by decide) rfl (fun ls hl => ?_)
    refine lv_iload_n hx hb d_Re_isReadable_32 rfl (lv_at hl 0 rfl) ?_
    refine lv_if_ne (tgt := 44) hx hb d_Re_isReadable_33 (by decide) (fun c10 => ?_) (fun c10 => ?_)
    · have hw := hw.1 c10
      refine lv_aload_n hx hb d_Re_isReadable_44 rfl (lv_at hl 1 rfl) ?_
      refine lv_iload_n hx hb d_Re_isReadable_45 rfl (lv_at hl 0 rfl) ?_
      refine lv_if_eq (tgt := 57) hx hb d_Re_isReadable_46 (by decide) (fun c11 => ?_) (fun c11 => ?_)
      · have hw := hw.1 c11
        refine lv_iconst (v := 0) hx hb d_Re_isReadable_57 (by decide) ?_
        refine va_put (D := D) (ci := 2) (v := .int 0) (ty := .boolean) (C := R_Re) (T := T_Re) (N := 5) hx hb hts in_Re ty_Re tk_Re nn_Re hown hK hP hD hS 0 rfl rfl 2 (by decide) (hts _ mm_107) (fun _ h9 => h9) rfl (by decide +kernel) rfl rfl (Nat.le_of_ble_eq_true rfl) d_Re_isReadable_58 (fun H locs hP hD hS => ?_)
        have hP : va_P D vwCl [(a_this, .inr (2, [.ref a_strip, .ref a_told, .int 0, .int s6, .int s7])), (a_strip, .inr (0, [.ref a_strip_items, .int v_strip_count])), (a_strip_items, .inl (k_strip_items, 800, .inl f_strip_items)), (a_told, .inr (0, [.ref a_told_items, .int s8])), (a_told_items, .inl (k_told_items, 260, .inl s9))] H := hP
        have hD : va_D A [(a_this, .inr (2, [.ref a_strip, .ref a_told, .int 0, .int s6, .int s7])), (a_strip, .inr (0, [.ref a_strip_items, .int v_strip_count])), (a_strip_items, .inl (k_strip_items, 800, .inl f_strip_items)), (a_told, .inr (0, [.ref a_told_items, .int s8])), (a_told_items, .inl (k_told_items, 260, .inl s9))] := hD
        refine lv_iload_n hx hb d_Re_isReadable_61 rfl (lv_at hl 0 rfl) ?_
        have hz9 := hw.1
        have hw := hw.2
        have hP9 := hP.sub (ws' := [(a_this, .inr (2, [.ref a_strip, .ref a_told, .int 0, .int s6, .int s7])), (a_strip, .inr (0, [.ref a_strip_items, .int v_strip_count])), (a_strip_items, .inl (k_strip_items, 800, .inl f_strip_items)), (a_told, .inr (0, [.ref a_told_items, .int s8])), (a_told_items, .inl (k_told_items, 260, .inl s9))]) [0, 1, 2, 3, 4] rfl
        have hD9 := hD.sub (ws' := [(a_this, .inr (2, [.ref a_strip, .ref a_told, .int 0, .int s6, .int s7])), (a_strip, .inr (0, [.ref a_strip_items, .int v_strip_count])), (a_strip_items, .inl (k_strip_items, 800, .inl f_strip_items)), (a_told, .inr (0, [.ref a_told_items, .int s8])), (a_told_items, .inl (k_told_items, 260, .inl s9))]) [0, 1, 2, 3, 4] (by decide) rfl
        exact W.zret (v := r5) (ty := .boolean) hx hb hr (vz_n hz9) (fun t ht hW => ⟨⟨r5, (0, s6, s7, s8, s9), rfl, hw, by rw [ht]; exact hP9, va_K.moved hW.alike hK, hD9⟩, hS.F ht⟩) hS.2.2 d_Re_isReadable_62
      · have hw := hw.2 c11
        refine lv_iload_n hx hb d_Re_isReadable_49 rfl (lv_at hl 2 rfl) ?_
        refine lv_if_eq (tgt := 57) hx hb d_Re_isReadable_50 (by decide) (fun c12 => ?_) (fun c12 => ?_)
        · have hw := hw.1 c12
          refine lv_iconst (v := 0) hx hb d_Re_isReadable_57 (by decide) ?_
          refine va_put (D := D) (ci := 2) (v := .int 0) (ty := .boolean) (C := R_Re) (T := T_Re) (N := 5) hx hb hts in_Re ty_Re tk_Re nn_Re hown hK hP hD hS 0 rfl rfl 2 (by decide) (hts _ mm_107) (fun _ h9 => h9) rfl (by decide +kernel) rfl rfl (Nat.le_of_ble_eq_true rfl) d_Re_isReadable_58 (fun H locs hP hD hS => ?_)
          have hP : va_P D vwCl [(a_this, .inr (2, [.ref a_strip, .ref a_told, .int 0, .int s6, .int s7])), (a_strip, .inr (0, [.ref a_strip_items, .int v_strip_count])), (a_strip_items, .inl (k_strip_items, 800, .inl f_strip_items)), (a_told, .inr (0, [.ref a_told_items, .int s8])), (a_told_items, .inl (k_told_items, 260, .inl s9))] H := hP
          have hD : va_D A [(a_this, .inr (2, [.ref a_strip, .ref a_told, .int 0, .int s6, .int s7])), (a_strip, .inr (0, [.ref a_strip_items, .int v_strip_count])), (a_strip_items, .inl (k_strip_items, 800, .inl f_strip_items)), (a_told, .inr (0, [.ref a_told_items, .int s8])), (a_told_items, .inl (k_told_items, 260, .inl s9))] := hD
          refine lv_iload_n hx hb d_Re_isReadable_61 rfl (lv_at hl 0 rfl) ?_
          have hz9 := hw.1
          have hw := hw.2
          have hP9 := hP.sub (ws' := [(a_this, .inr (2, [.ref a_strip, .ref a_told, .int 0, .int s6, .int s7])), (a_strip, .inr (0, [.ref a_strip_items, .int v_strip_count])), (a_strip_items, .inl (k_strip_items, 800, .inl f_strip_items)), (a_told, .inr (0, [.ref a_told_items, .int s8])), (a_told_items, .inl (k_told_items, 260, .inl s9))]) [0, 1, 2, 3, 4] rfl
          have hD9 := hD.sub (ws' := [(a_this, .inr (2, [.ref a_strip, .ref a_told, .int 0, .int s6, .int s7])), (a_strip, .inr (0, [.ref a_strip_items, .int v_strip_count])), (a_strip_items, .inl (k_strip_items, 800, .inl f_strip_items)), (a_told, .inr (0, [.ref a_told_items, .int s8])), (a_told_items, .inl (k_told_items, 260, .inl s9))]) [0, 1, 2, 3, 4] (by decide) rfl
          exact W.zret (v := r5) (ty := .boolean) hx hb hr (vz_n hz9) (fun t ht hW => ⟨⟨r5, (0, s6, s7, s8, s9), rfl, hw, by rw [ht]; exact hP9, va_K.moved hW.alike hK, hD9⟩, hS.F ht⟩) hS.2.2 d_Re_isReadable_62
        · have hw := hw.2 c12
          refine lv_iconst (v := 1) hx hb d_Re_isReadable_53 (by decide) ?_
          refine lv_goto (tgt := 58) hx hb d_Re_isReadable_54 (by decide) ?_
          refine va_put (D := D) (ci := 2) (v := .int 1) (ty := .boolean) (C := R_Re) (T := T_Re) (N := 5) hx hb hts in_Re ty_Re tk_Re nn_Re hown hK hP hD hS 0 rfl rfl 2 (by decide) (hts _ mm_107) (fun _ h9 => h9) rfl (by decide +kernel) rfl rfl (Nat.le_of_ble_eq_true rfl) d_Re_isReadable_58 (fun H locs hP hD hS => ?_)
          have hP : va_P D vwCl [(a_this, .inr (2, [.ref a_strip, .ref a_told, .int 1, .int s6, .int s7])), (a_strip, .inr (0, [.ref a_strip_items, .int v_strip_count])), (a_strip_items, .inl (k_strip_items, 800, .inl f_strip_items)), (a_told, .inr (0, [.ref a_told_items, .int s8])), (a_told_items, .inl (k_told_items, 260, .inl s9))] H := hP
          have hD : va_D A [(a_this, .inr (2, [.ref a_strip, .ref a_told, .int 1, .int s6, .int s7])), (a_strip, .inr (0, [.ref a_strip_items, .int v_strip_count])), (a_strip_items, .inl (k_strip_items, 800, .inl f_strip_items)), (a_told, .inr (0, [.ref a_told_items, .int s8])), (a_told_items, .inl (k_told_items, 260, .inl s9))] := hD
          refine lv_iload_n hx hb d_Re_isReadable_61 rfl (lv_at hl 0 rfl) ?_
          have hz9 := hw.1
          have hw := hw.2
          have hP9 := hP.sub (ws' := [(a_this, .inr (2, [.ref a_strip, .ref a_told, .int 1, .int s6, .int s7])), (a_strip, .inr (0, [.ref a_strip_items, .int v_strip_count])), (a_strip_items, .inl (k_strip_items, 800, .inl f_strip_items)), (a_told, .inr (0, [.ref a_told_items, .int s8])), (a_told_items, .inl (k_told_items, 260, .inl s9))]) [0, 1, 2, 3, 4] rfl
          have hD9 := hD.sub (ws' := [(a_this, .inr (2, [.ref a_strip, .ref a_told, .int 1, .int s6, .int s7])), (a_strip, .inr (0, [.ref a_strip_items, .int v_strip_count])), (a_strip_items, .inl (k_strip_items, 800, .inl f_strip_items)), (a_told, .inr (0, [.ref a_told_items, .int s8])), (a_told_items, .inl (k_told_items, 260, .inl s9))]) [0, 1, 2, 3, 4] (by decide) rfl
          exact W.zret (v := r5) (ty := .boolean) hx hb hr (vz_n hz9) (fun t ht hW => ⟨⟨r5, (1, s6, s7, s8, s9), rfl, hw, by rw [ht]; exact hP9, va_K.moved hW.alike hK, hD9⟩, hS.F ht⟩) hS.2.2 d_Re_isReadable_62
    · have hw := hw.2 c10
      refine lv_aload_n hx hb d_Re_isReadable_36 rfl (lv_at hl 1 rfl) ?_
      refine va_get (D := D) (ci := 2) (v := .ref a_told) (C := R_Re) (T := T_Re) (N := 5) hx hb hts in_Re hown hK hP 0 rfl rfl 1 (by decide) (hts _ mm_106) (fun _ h9 => h9) rfl d_Re_isReadable_37 ?_
      refine k_rwVi (As := []) (rest := []) (wr := [(a_this, .inr (2, [.ref a_strip, .ref a_told, .int v_fromBack, .int s6, .int s7])), (a_strip, .inr (0, [.ref a_strip_items, .int v_strip_count])), (a_strip_items, .inl (k_strip_items, 800, .inl f_strip_items))]) hz [3, 4] [0, 1, 2] [1] 3 0 ⟨hx, hb, hml, hown, hts⟩ (met_It_empty l D Z hz ad hk a_told a_told_items k_told_items 260 s8 s9 _ hw) (cwV 0 hts (g_V mm_259 mm_142 mm_143 mm_42 mm_144) rfl rfl rfl hd_It_empty ⟨Nat.le_of_ble_eq_true rfl, Nat.le_of_ble_eq_true rfl⟩) hP hD hK hZ hS hA rfl rfl rfl rfl rfl (by decide) rfl rfl rfl rfl hl.1 rfl (Nat.le_of_ble_eq_true rfl) d_Re_isReadable_40 ⟨Nat.le_of_ble_eq_true rfl, Nat.le_of_ble_eq_true rfl⟩ (fun r13 s14 H locs hw hP hD hS => ?_)
      try dsimp only at hw
      have hP : va_P D vwCl [(a_this, .inr (2, [.ref a_strip, .ref a_told, .int v_fromBack, .int s6, .int s7])), (a_strip, .inr (0, [.ref a_strip_items, .int v_strip_count])), (a_strip_items, .inl (k_strip_items, 800, .inl f_strip_items)), (a_told, .inr (0, [.ref a_told_items, .int s14])), (a_told_items, .inl (k_told_items, 260, .inl s9))] H := hP
      have hD : va_D A [(a_this, .inr (2, [.ref a_strip, .ref a_told, .int v_fromBack, .int s6, .int s7])), (a_strip, .inr (0, [.ref a_strip_items, .int v_strip_count])), (a_strip_items, .inl (k_strip_items, 800, .inl f_strip_items)), (a_told, .inr (0, [.ref a_told_items, .int s14])), (a_told_items, .inl (k_told_items, 260, .inl s9))] := hD
      refine lv_pop hx hb d_Re_isReadable_43 rfl ?_
      refine lv_aload_n hx hb d_Re_isReadable_44 rfl (lv_at hl 1 rfl) ?_
      refine lv_iload_n hx hb d_Re_isReadable_45 rfl (lv_at hl 0 rfl) ?_
      refine lv_if_eq (tgt := 57) hx hb d_Re_isReadable_46 (by decide) (fun c15 => ?_) (fun c15 => ?_)
      · have hw := hw.1 c15
        refine lv_iconst (v := 0) hx hb d_Re_isReadable_57 (by decide) ?_
        refine va_put (D := D) (ci := 2) (v := .int 0) (ty := .boolean) (C := R_Re) (T := T_Re) (N := 5) hx hb hts in_Re ty_Re tk_Re nn_Re hown hK hP hD hS 0 rfl rfl 2 (by decide) (hts _ mm_107) (fun _ h9 => h9) rfl (by decide +kernel) rfl rfl (Nat.le_of_ble_eq_true rfl) d_Re_isReadable_58 (fun H locs hP hD hS => ?_)
        have hP : va_P D vwCl [(a_this, .inr (2, [.ref a_strip, .ref a_told, .int 0, .int s6, .int s7])), (a_strip, .inr (0, [.ref a_strip_items, .int v_strip_count])), (a_strip_items, .inl (k_strip_items, 800, .inl f_strip_items)), (a_told, .inr (0, [.ref a_told_items, .int s14])), (a_told_items, .inl (k_told_items, 260, .inl s9))] H := hP
        have hD : va_D A [(a_this, .inr (2, [.ref a_strip, .ref a_told, .int 0, .int s6, .int s7])), (a_strip, .inr (0, [.ref a_strip_items, .int v_strip_count])), (a_strip_items, .inl (k_strip_items, 800, .inl f_strip_items)), (a_told, .inr (0, [.ref a_told_items, .int s14])), (a_told_items, .inl (k_told_items, 260, .inl s9))] := hD
        refine lv_iload_n hx hb d_Re_isReadable_61 rfl (lv_at hl 0 rfl) ?_
        have hz9 := hw.1
        have hw := hw.2
        have hP9 := hP.sub (ws' := [(a_this, .inr (2, [.ref a_strip, .ref a_told, .int 0, .int s6, .int s7])), (a_strip, .inr (0, [.ref a_strip_items, .int v_strip_count])), (a_strip_items, .inl (k_strip_items, 800, .inl f_strip_items)), (a_told, .inr (0, [.ref a_told_items, .int s14])), (a_told_items, .inl (k_told_items, 260, .inl s9))]) [0, 1, 2, 3, 4] rfl
        have hD9 := hD.sub (ws' := [(a_this, .inr (2, [.ref a_strip, .ref a_told, .int 0, .int s6, .int s7])), (a_strip, .inr (0, [.ref a_strip_items, .int v_strip_count])), (a_strip_items, .inl (k_strip_items, 800, .inl f_strip_items)), (a_told, .inr (0, [.ref a_told_items, .int s14])), (a_told_items, .inl (k_told_items, 260, .inl s9))]) [0, 1, 2, 3, 4] (by decide) rfl
        exact W.zret (v := r5) (ty := .boolean) hx hb hr (vz_n hz9) (fun t ht hW => ⟨⟨r5, (0, s6, s7, s14, s9), rfl, hw, by rw [ht]; exact hP9, va_K.moved hW.alike hK, hD9⟩, hS.F ht⟩) hS.2.2 d_Re_isReadable_62
      · have hw := hw.2 c15
        refine lv_iload_n hx hb d_Re_isReadable_49 rfl (lv_at hl 2 rfl) ?_
        refine lv_if_eq (tgt := 57) hx hb d_Re_isReadable_50 (by decide) (fun c16 => ?_) (fun c16 => ?_)
        · have hw := hw.1 c16
          refine lv_iconst (v := 0) hx hb d_Re_isReadable_57 (by decide) ?_
          refine va_put (D := D) (ci := 2) (v := .int 0) (ty := .boolean) (C := R_Re) (T := T_Re) (N := 5) hx hb hts in_Re ty_Re tk_Re nn_Re hown hK hP hD hS 0 rfl rfl 2 (by decide) (hts _ mm_107) (fun _ h9 => h9) rfl (by decide +kernel) rfl rfl (Nat.le_of_ble_eq_true rfl) d_Re_isReadable_58 (fun H locs hP hD hS => ?_)
          have hP : va_P D vwCl [(a_this, .inr (2, [.ref a_strip, .ref a_told, .int 0, .int s6, .int s7])), (a_strip, .inr (0, [.ref a_strip_items, .int v_strip_count])), (a_strip_items, .inl (k_strip_items, 800, .inl f_strip_items)), (a_told, .inr (0, [.ref a_told_items, .int s14])), (a_told_items, .inl (k_told_items, 260, .inl s9))] H := hP
          have hD : va_D A [(a_this, .inr (2, [.ref a_strip, .ref a_told, .int 0, .int s6, .int s7])), (a_strip, .inr (0, [.ref a_strip_items, .int v_strip_count])), (a_strip_items, .inl (k_strip_items, 800, .inl f_strip_items)), (a_told, .inr (0, [.ref a_told_items, .int s14])), (a_told_items, .inl (k_told_items, 260, .inl s9))] := hD
          refine lv_iload_n hx hb d_Re_isReadable_61 rfl (lv_at hl 0 rfl) ?_
          have hz9 := hw.1
          have hw := hw.2
          have hP9 := hP.sub (ws' := [(a_this, .inr (2, [.ref a_strip, .ref a_told, .int 0, .int s6, .int s7])), (a_strip, .inr (0, [.ref a_strip_items, .int v_strip_count])), (a_strip_items, .inl (k_strip_items, 800, .inl f_strip_items)), (a_told, .inr (0, [.ref a_told_items, .int s14])), (a_told_items, .inl (k_told_items, 260, .inl s9))]) [0, 1, 2, 3, 4] rfl
          have hD9 := hD.sub (ws' := [(a_this, .inr (2, [.ref a_strip, .ref a_told, .int 0, .int s6, .int s7])), (a_strip, .inr (0, [.ref a_strip_items, .int v_strip_count])), (a_strip_items, .inl (k_strip_items, 800, .inl f_strip_items)), (a_told, .inr (0, [.ref a_told_items, .int s14])), (a_told_items, .inl (k_told_items, 260, .inl s9))]) [0, 1, 2, 3, 4] (by decide) rfl
          exact W.zret (v := r5) (ty := .boolean) hx hb hr (vz_n hz9) (fun t ht hW => ⟨⟨r5, (0, s6, s7, s14, s9), rfl, hw, by rw [ht]; exact hP9, va_K.moved hW.alike hK, hD9⟩, hS.F ht⟩) hS.2.2 d_Re_isReadable_62
        · have hw := hw.2 c16
          refine lv_iconst (v := 1) hx hb d_Re_isReadable_53 (by decide) ?_
          refine lv_goto (tgt := 58) hx hb d_Re_isReadable_54 (by decide) ?_
          refine va_put (D := D) (ci := 2) (v := .int 1) (ty := .boolean) (C := R_Re) (T := T_Re) (N := 5) hx hb hts in_Re ty_Re tk_Re nn_Re hown hK hP hD hS 0 rfl rfl 2 (by decide) (hts _ mm_107) (fun _ h9 => h9) rfl (by decide +kernel) rfl rfl (Nat.le_of_ble_eq_true rfl) d_Re_isReadable_58 (fun H locs hP hD hS => ?_)
          have hP : va_P D vwCl [(a_this, .inr (2, [.ref a_strip, .ref a_told, .int 1, .int s6, .int s7])), (a_strip, .inr (0, [.ref a_strip_items, .int v_strip_count])), (a_strip_items, .inl (k_strip_items, 800, .inl f_strip_items)), (a_told, .inr (0, [.ref a_told_items, .int s14])), (a_told_items, .inl (k_told_items, 260, .inl s9))] H := hP
          have hD : va_D A [(a_this, .inr (2, [.ref a_strip, .ref a_told, .int 1, .int s6, .int s7])), (a_strip, .inr (0, [.ref a_strip_items, .int v_strip_count])), (a_strip_items, .inl (k_strip_items, 800, .inl f_strip_items)), (a_told, .inr (0, [.ref a_told_items, .int s14])), (a_told_items, .inl (k_told_items, 260, .inl s9))] := hD
          refine lv_iload_n hx hb d_Re_isReadable_61 rfl (lv_at hl 0 rfl) ?_
          have hz9 := hw.1
          have hw := hw.2
          have hP9 := hP.sub (ws' := [(a_this, .inr (2, [.ref a_strip, .ref a_told, .int 1, .int s6, .int s7])), (a_strip, .inr (0, [.ref a_strip_items, .int v_strip_count])), (a_strip_items, .inl (k_strip_items, 800, .inl f_strip_items)), (a_told, .inr (0, [.ref a_told_items, .int s14])), (a_told_items, .inl (k_told_items, 260, .inl s9))]) [0, 1, 2, 3, 4] rfl
          have hD9 := hD.sub (ws' := [(a_this, .inr (2, [.ref a_strip, .ref a_told, .int 1, .int s6, .int s7])), (a_strip, .inr (0, [.ref a_strip_items, .int v_strip_count])), (a_strip_items, .inl (k_strip_items, 800, .inl f_strip_items)), (a_told, .inr (0, [.ref a_told_items, .int s14])), (a_told_items, .inl (k_told_items, 260, .inl s9))]) [0, 1, 2, 3, 4] (by decide) rfl
          exact W.zret (v := r5) (ty := .boolean) hx hb hr (vz_n hz9) (fun t ht hW => ⟨⟨r5, (1, s6, s7, s14, s9), rfl, hw, by rw [ht]; exact hP9, va_K.moved hW.alike hK, hD9⟩, hS.F ht⟩) hS.2.2 d_Re_isReadable_62
  · have hw := hw.2 c4
    refine lv_aload_n hx hb d_Re_isReadable_20 rfl (lv_at hl 0 rfl) ?_
    refine k_rwVi (As := []) (rest := []) (wr := []) hz [0, 1, 2, 3, 4] [] [0, 1] 0 2 ⟨hx, hb, hml, hown, hts⟩ (met_Re_isThirteen l D Z hz ad hk a_this a_strip a_strip_items a_told a_told_items k_strip_items k_told_items v_fromBack v_set v_shifted v_strip_count f_strip_items s2 f_told_items _ hw) (cwV 0 hts (g_V mm_261 mm_263 mm_9 mm_45 mm_264) rfl rfl rfl hd_Re_isThirteen ⟨Nat.le_of_ble_eq_true rfl, Nat.le_of_ble_eq_true rfl⟩) hP hD hK hZ hS hA rfl rfl rfl rfl rfl (by decide) rfl rfl rfl rfl hl.1 rfl (Nat.le_of_ble_eq_true rfl) d_Re_isReadable_21 ⟨Nat.le_of_ble_eq_true rfl, Nat.le_of_ble_eq_true rfl⟩ (fun r17 u9 H locs hw hP hD hS => ?_)
    obtain ⟨s18, s19⟩ := u9
    try dsimp only at hw
    have hP : va_P D vwCl [(a_this, .inr (2, [.ref a_strip, .ref a_told, .int v_fromBack, .int v_set, .int v_shifted])), (a_strip, .inr (0, [.ref a_strip_items, .int v_strip_count])), (a_strip_items, .inl (k_strip_items, 800, .inl f_strip_items)), (a_told, .inr (0, [.ref a_told_items, .int s18])), (a_told_items, .inl (k_told_items, 260, .inl s19))] H := hP
    have hD : va_D A [(a_this, .inr (2, [.ref a_strip, .ref a_told, .int v_fromBack, .int v_set, .int v_shifted])), (a_strip, .inr (0, [.ref a_strip_items, .int v_strip_count])), (a_strip_items, .inl (k_strip_items, 800, .inl f_strip_items)), (a_told, .inr (0, [.ref a_told_items, .int s18])), (a_told_items, .inl (k_told_items, 260, .inl s19))] := hD
    refine lv_goto (tgt := 31) hx hb d_Re_isReadable_24 (by decide) ?_
    refine lv_istore_n (lv' := [(2, .int r17), (0, .ref a_this), (1, .int x1)]) hx hb d_Re_isReadable_31 rfl hl (by decide) rfl (fun ls hl => ?_)
    refine lv_iload_n hx hb d_Re_isReadable_32 rfl (lv_at hl 0 rfl) ?_
    refine lv_if_ne (tgt := 44) hx hb d_Re_isReadable_33 (by decide) (fun c20 => ?_) (fun c20 => ?_)
    · have hw := hw.1 c20
      refine lv_aload_n hx hb d_Re_isReadable_44 rfl (lv_at hl 1 rfl) ?_
      refine lv_iload_n hx hb d_Re_isReadable_45 rfl (lv_at hl 0 rfl) ?_
      refine lv_if_eq (tgt := 57) hx hb d_Re_isReadable_46 (by decide) (fun c21 => ?_) (fun c21 => ?_)
      · have hw := hw.1 c21
        refine lv_iconst (v := 0) hx hb d_Re_isReadable_57 (by decide) ?_
        refine va_put (D := D) (ci := 2) (v := .int 0) (ty := .boolean) (C := R_Re) (T := T_Re) (N := 5) hx hb hts in_Re ty_Re tk_Re nn_Re hown hK hP hD hS 0 rfl rfl 2 (by decide) (hts _ mm_107) (fun _ h9 => h9) rfl (by decide +kernel) rfl rfl (Nat.le_of_ble_eq_true rfl) d_Re_isReadable_58 (fun H locs hP hD hS => ?_)
        have hP : va_P D vwCl [(a_this, .inr (2, [.ref a_strip, .ref a_told, .int 0, .int v_set, .int v_shifted])), (a_strip, .inr (0, [.ref a_strip_items, .int v_strip_count])), (a_strip_items, .inl (k_strip_items, 800, .inl f_strip_items)), (a_told, .inr (0, [.ref a_told_items, .int s18])), (a_told_items, .inl (k_told_items, 260, .inl s19))] H := hP
        have hD : va_D A [(a_this, .inr (2, [.ref a_strip, .ref a_told, .int 0, .int v_set, .int v_shifted])), (a_strip, .inr (0, [.ref a_strip_items, .int v_strip_count])), (a_strip_items, .inl (k_strip_items, 800, .inl f_strip_items)), (a_told, .inr (0, [.ref a_told_items, .int s18])), (a_told_items, .inl (k_told_items, 260, .inl s19))] := hD
        refine lv_iload_n hx hb d_Re_isReadable_61 rfl (lv_at hl 0 rfl) ?_
        have hz9 := hw.1
        have hw := hw.2
        have hP9 := hP.sub (ws' := [(a_this, .inr (2, [.ref a_strip, .ref a_told, .int 0, .int v_set, .int v_shifted])), (a_strip, .inr (0, [.ref a_strip_items, .int v_strip_count])), (a_strip_items, .inl (k_strip_items, 800, .inl f_strip_items)), (a_told, .inr (0, [.ref a_told_items, .int s18])), (a_told_items, .inl (k_told_items, 260, .inl s19))]) [0, 1, 2, 3, 4] rfl
        have hD9 := hD.sub (ws' := [(a_this, .inr (2, [.ref a_strip, .ref a_told, .int 0, .int v_set, .int v_shifted])), (a_strip, .inr (0, [.ref a_strip_items, .int v_strip_count])), (a_strip_items, .inl (k_strip_items, 800, .inl f_strip_items)), (a_told, .inr (0, [.ref a_told_items, .int s18])), (a_told_items, .inl (k_told_items, 260, .inl s19))]) [0, 1, 2, 3, 4] (by decide) rfl
        exact W.zret (v := r17) (ty := .boolean) hx hb hr (vz_n hz9) (fun t ht hW => ⟨⟨r17, (0, v_set, v_shifted, s18, s19), rfl, hw, by rw [ht]; exact hP9, va_K.moved hW.alike hK, hD9⟩, hS.F ht⟩) hS.2.2 d_Re_isReadable_62
      · have hw := hw.2 c21
        refine lv_iload_n hx hb d_Re_isReadable_49 rfl (lv_at hl 2 rfl) ?_
        refine lv_if_eq (tgt := 57) hx hb d_Re_isReadable_50 (by decide) (fun c22 => ?_) (fun c22 => ?_)
        · have hw := hw.1 c22
          refine lv_iconst (v := 0) hx hb d_Re_isReadable_57 (by decide) ?_
          refine va_put (D := D) (ci := 2) (v := .int 0) (ty := .boolean) (C := R_Re) (T := T_Re) (N := 5) hx hb hts in_Re ty_Re tk_Re nn_Re hown hK hP hD hS 0 rfl rfl 2 (by decide) (hts _ mm_107) (fun _ h9 => h9) rfl (by decide +kernel) rfl rfl (Nat.le_of_ble_eq_true rfl) d_Re_isReadable_58 (fun H locs hP hD hS => ?_)
          have hP : va_P D vwCl [(a_this, .inr (2, [.ref a_strip, .ref a_told, .int 0, .int v_set, .int v_shifted])), (a_strip, .inr (0, [.ref a_strip_items, .int v_strip_count])), (a_strip_items, .inl (k_strip_items, 800, .inl f_strip_items)), (a_told, .inr (0, [.ref a_told_items, .int s18])), (a_told_items, .inl (k_told_items, 260, .inl s19))] H := hP
          have hD : va_D A [(a_this, .inr (2, [.ref a_strip, .ref a_told, .int 0, .int v_set, .int v_shifted])), (a_strip, .inr (0, [.ref a_strip_items, .int v_strip_count])), (a_strip_items, .inl (k_strip_items, 800, .inl f_strip_items)), (a_told, .inr (0, [.ref a_told_items, .int s18])), (a_told_items, .inl (k_told_items, 260, .inl s19))] := hD
          refine lv_iload_n hx hb d_Re_isReadable_61 rfl (lv_at hl 0 rfl) ?_
          have hz9 := hw.1
          have hw := hw.2
          have hP9 := hP.sub (ws' := [(a_this, .inr (2, [.ref a_strip, .ref a_told, .int 0, .int v_set, .int v_shifted])), (a_strip, .inr (0, [.ref a_strip_items, .int v_strip_count])), (a_strip_items, .inl (k_strip_items, 800, .inl f_strip_items)), (a_told, .inr (0, [.ref a_told_items, .int s18])), (a_told_items, .inl (k_told_items, 260, .inl s19))]) [0, 1, 2, 3, 4] rfl
          have hD9 := hD.sub (ws' := [(a_this, .inr (2, [.ref a_strip, .ref a_told, .int 0, .int v_set, .int v_shifted])), (a_strip, .inr (0, [.ref a_strip_items, .int v_strip_count])), (a_strip_items, .inl (k_strip_items, 800, .inl f_strip_items)), (a_told, .inr (0, [.ref a_told_items, .int s18])), (a_told_items, .inl (k_told_items, 260, .inl s19))]) [0, 1, 2, 3, 4] (by decide) rfl
          exact W.zret (v := r17) (ty := .boolean) hx hb hr (vz_n hz9) (fun t ht hW => ⟨⟨r17, (0, v_set, v_shifted, s18, s19), rfl, hw, by rw [ht]; exact hP9, va_K.moved hW.alike hK, hD9⟩, hS.F ht⟩) hS.2.2 d_Re_isReadable_62
        · have hw := hw.2 c22
          refine lv_iconst (v := 1) hx hb d_Re_isReadable_53 (by decide) ?_
          refine lv_goto (tgt := 58) hx hb d_Re_isReadable_54 (by decide) ?_
          refine va_put (D := D) (ci := 2) (v := .int 1) (ty := .boolean) (C := R_Re) (T := T_Re) (N := 5) hx hb hts in_Re ty_Re tk_Re nn_Re hown hK hP hD hS 0 rfl rfl 2 (by decide) (hts _ mm_107) (fun _ h9 => h9) rfl (by decide +kernel) rfl rfl (Nat.le_of_ble_eq_true rfl) d_Re_isReadable_58 (fun H locs hP hD hS => ?_)
          have hP : va_P D vwCl [(a_this, .inr (2, [.ref a_strip, .ref a_told, .int 1, .int v_set, .int v_shifted])), (a_strip, .inr (0, [.ref a_strip_items, .int v_strip_count])), (a_strip_items, .inl (k_strip_items, 800, .inl f_strip_items)), (a_told, .inr (0, [.ref a_told_items, .int s18])), (a_told_items, .inl (k_told_items, 260, .inl s19))] H := hP
          have hD : va_D A [(a_this, .inr (2, [.ref a_strip, .ref a_told, .int 1, .int v_set, .int v_shifted])), (a_strip, .inr (0, [.ref a_strip_items, .int v_strip_count])), (a_strip_items, .inl (k_strip_items, 800, .inl f_strip_items)), (a_told, .inr (0, [.ref a_told_items, .int s18])), (a_told_items, .inl (k_told_items, 260, .inl s19))] := hD
          refine lv_iload_n hx hb d_Re_isReadable_61 rfl (lv_at hl 0 rfl) ?_
          have hz9 := hw.1
          have hw := hw.2
          have hP9 := hP.sub (ws' := [(a_this, .inr (2, [.ref a_strip, .ref a_told, .int 1, .int v_set, .int v_shifted])), (a_strip, .inr (0, [.ref a_strip_items, .int v_strip_count])), (a_strip_items, .inl (k_strip_items, 800, .inl f_strip_items)), (a_told, .inr (0, [.ref a_told_items, .int s18])), (a_told_items, .inl (k_told_items, 260, .inl s19))]) [0, 1, 2, 3, 4] rfl
          have hD9 := hD.sub (ws' := [(a_this, .inr (2, [.ref a_strip, .ref a_told, .int 1, .int v_set, .int v_shifted])), (a_strip, .inr (0, [.ref a_strip_items, .int v_strip_count])), (a_strip_items, .inl (k_strip_items, 800, .inl f_strip_items)), (a_told, .inr (0, [.ref a_told_items, .int s18])), (a_told_items, .inl (k_told_items, 260, .inl s19))]) [0, 1, 2, 3, 4] (by decide) rfl
          exact W.zret (v := r17) (ty := .boolean) hx hb hr (vz_n hz9) (fun t ht hW => ⟨⟨r17, (1, v_set, v_shifted, s18, s19), rfl, hw, by rw [ht]; exact hP9, va_K.moved hW.alike hK, hD9⟩, hS.F ht⟩) hS.2.2 d_Re_isReadable_62
    · have hw := hw.2 c20
      refine lv_aload_n hx hb d_Re_isReadable_36 rfl (lv_at hl 1 rfl) ?_
      refine va_get (D := D) (ci := 2) (v := .ref a_told) (C := R_Re) (T := T_Re) (N := 5) hx hb hts in_Re hown hK hP 0 rfl rfl 1 (by decide) (hts _ mm_106) (fun _ h9 => h9) rfl d_Re_isReadable_37 ?_
      refine k_rwVi (As := []) (rest := []) (wr := [(a_this, .inr (2, [.ref a_strip, .ref a_told, .int v_fromBack, .int v_set, .int v_shifted])), (a_strip, .inr (0, [.ref a_strip_items, .int v_strip_count])), (a_strip_items, .inl (k_strip_items, 800, .inl f_strip_items))]) hz [3, 4] [0, 1, 2] [1] 3 0 ⟨hx, hb, hml, hown, hts⟩ (met_It_empty l D Z hz ad hk a_told a_told_items k_told_items 260 s18 s19 _ hw) (cwV 0 hts (g_V mm_259 mm_142 mm_143 mm_42 mm_144) rfl rfl rfl hd_It_empty ⟨Nat.le_of_ble_eq_true rfl, Nat.le_of_ble_eq_true rfl⟩) hP hD hK hZ hS hA rfl rfl rfl rfl rfl (by decide) rfl rfl rfl rfl hl.1 rfl (Nat.le_of_ble_eq_true rfl) d_Re_isReadable_40 ⟨Nat.le_of_ble_eq_true rfl, Nat.le_of_ble_eq_true rfl⟩ (fun r23 s24 H locs hw hP hD hS => ?_)
      try dsimp only at hw
      have hP : va_P D vwCl [(a_this, .inr (2, [.ref a_strip, .ref a_told, .int v_fromBack, .int v_set, .int v_shifted])), (a_strip, .inr (0, [.ref a_strip_items, .int v_strip_count])), (a_strip_items, .inl (k_strip_items, 800, .inl f_strip_items)), (a_told, .inr (0, [.ref a_told_items, .int s24])), (a_told_items, .inl (k_told_items, 260, .inl s19))] H := hP
      have hD : va_D A [(a_this, .inr (2, [.ref a_strip, .ref a_told, .int v_fromBack, .int v_set, .int v_shifted])), (a_strip, .inr (0, [.ref a_strip_items, .int v_strip_count])), (a_strip_items, .inl (k_strip_items, 800, .inl f_strip_items)), (a_told, .inr (0, [.ref a_told_items, .int s24])), (a_told_items, .inl (k_told_items, 260, .inl s19))] := hD
      refine lv_pop hx hb d_Re_isReadable_43 rfl ?_
      refine lv_aload_n hx hb d_Re_isReadable_44 rfl (lv_at hl 1 rfl) ?_
      refine lv_iload_n hx hb d_Re_isReadable_45 rfl (lv_at hl 0 rfl) ?_
      refine lv_if_eq (tgt := 57) hx hb d_Re_isReadable_46 (by decide) (fun c25 => ?_) (fun c25 => ?_)
      · have hw := hw.1 c25
        refine lv_iconst (v := 0) hx hb d_Re_isReadable_57 (by decide) ?_
        refine va_put (D := D) (ci := 2) (v := .int 0) (ty := .boolean) (C := R_Re) (T := T_Re) (N := 5) hx hb hts in_Re ty_Re tk_Re nn_Re hown hK hP hD hS 0 rfl rfl 2 (by decide) (hts _ mm_107) (fun _ h9 => h9) rfl (by decide +kernel) rfl rfl (Nat.le_of_ble_eq_true rfl) d_Re_isReadable_58 (fun H locs hP hD hS => ?_)
        have hP : va_P D vwCl [(a_this, .inr (2, [.ref a_strip, .ref a_told, .int 0, .int v_set, .int v_shifted])), (a_strip, .inr (0, [.ref a_strip_items, .int v_strip_count])), (a_strip_items, .inl (k_strip_items, 800, .inl f_strip_items)), (a_told, .inr (0, [.ref a_told_items, .int s24])), (a_told_items, .inl (k_told_items, 260, .inl s19))] H := hP
        have hD : va_D A [(a_this, .inr (2, [.ref a_strip, .ref a_told, .int 0, .int v_set, .int v_shifted])), (a_strip, .inr (0, [.ref a_strip_items, .int v_strip_count])), (a_strip_items, .inl (k_strip_items, 800, .inl f_strip_items)), (a_told, .inr (0, [.ref a_told_items, .int s24])), (a_told_items, .inl (k_told_items, 260, .inl s19))] := hD
        refine lv_iload_n hx hb d_Re_isReadable_61 rfl (lv_at hl 0 rfl) ?_
        have hz9 := hw.1
        have hw := hw.2
        have hP9 := hP.sub (ws' := [(a_this, .inr (2, [.ref a_strip, .ref a_told, .int 0, .int v_set, .int v_shifted])), (a_strip, .inr (0, [.ref a_strip_items, .int v_strip_count])), (a_strip_items, .inl (k_strip_items, 800, .inl f_strip_items)), (a_told, .inr (0, [.ref a_told_items, .int s24])), (a_told_items, .inl (k_told_items, 260, .inl s19))]) [0, 1, 2, 3, 4] rfl
        have hD9 := hD.sub (ws' := [(a_this, .inr (2, [.ref a_strip, .ref a_told, .int 0, .int v_set, .int v_shifted])), (a_strip, .inr (0, [.ref a_strip_items, .int v_strip_count])), (a_strip_items, .inl (k_strip_items, 800, .inl f_strip_items)), (a_told, .inr (0, [.ref a_told_items, .int s24])), (a_told_items, .inl (k_told_items, 260, .inl s19))]) [0, 1, 2, 3, 4] (by decide) rfl
        exact W.zret (v := r17) (ty := .boolean) hx hb hr (vz_n hz9) (fun t ht hW => ⟨⟨r17, (0, v_set, v_shifted, s24, s19), rfl, hw, by rw [ht]; exact hP9, va_K.moved hW.alike hK, hD9⟩, hS.F ht⟩) hS.2.2 d_Re_isReadable_62
      · have hw := hw.2 c25
        refine lv_iload_n hx hb d_Re_isReadable_49 rfl (lv_at hl 2 rfl) ?_
        refine lv_if_eq (tgt := 57) hx hb d_Re_isReadable_50 (by decide) (fun c26 => ?_) (fun c26 => ?_)
        · have hw := hw.1 c26
          refine lv_iconst (v := 0) hx hb d_Re_isReadable_57 (by decide) ?_
          refine va_put (D := D) (ci := 2) (v := .int 0) (ty := .boolean) (C := R_Re) (T := T_Re) (N := 5) hx hb hts in_Re ty_Re tk_Re nn_Re hown hK hP hD hS 0 rfl rfl 2 (by decide) (hts _ mm_107) (fun _ h9 => h9) rfl (by decide +kernel) rfl rfl (Nat.le_of_ble_eq_true rfl) d_Re_isReadable_58 (fun H locs hP hD hS => ?_)
          have hP : va_P D vwCl [(a_this, .inr (2, [.ref a_strip, .ref a_told, .int 0, .int v_set, .int v_shifted])), (a_strip, .inr (0, [.ref a_strip_items, .int v_strip_count])), (a_strip_items, .inl (k_strip_items, 800, .inl f_strip_items)), (a_told, .inr (0, [.ref a_told_items, .int s24])), (a_told_items, .inl (k_told_items, 260, .inl s19))] H := hP
          have hD : va_D A [(a_this, .inr (2, [.ref a_strip, .ref a_told, .int 0, .int v_set, .int v_shifted])), (a_strip, .inr (0, [.ref a_strip_items, .int v_strip_count])), (a_strip_items, .inl (k_strip_items, 800, .inl f_strip_items)), (a_told, .inr (0, [.ref a_told_items, .int s24])), (a_told_items, .inl (k_told_items, 260, .inl s19))] := hD
          refine lv_iload_n hx hb d_Re_isReadable_61 rfl (lv_at hl 0 rfl) ?_
          have hz9 := hw.1
          have hw := hw.2
          have hP9 := hP.sub (ws' := [(a_this, .inr (2, [.ref a_strip, .ref a_told, .int 0, .int v_set, .int v_shifted])), (a_strip, .inr (0, [.ref a_strip_items, .int v_strip_count])), (a_strip_items, .inl (k_strip_items, 800, .inl f_strip_items)), (a_told, .inr (0, [.ref a_told_items, .int s24])), (a_told_items, .inl (k_told_items, 260, .inl s19))]) [0, 1, 2, 3, 4] rfl
          have hD9 := hD.sub (ws' := [(a_this, .inr (2, [.ref a_strip, .ref a_told, .int 0, .int v_set, .int v_shifted])), (a_strip, .inr (0, [.ref a_strip_items, .int v_strip_count])), (a_strip_items, .inl (k_strip_items, 800, .inl f_strip_items)), (a_told, .inr (0, [.ref a_told_items, .int s24])), (a_told_items, .inl (k_told_items, 260, .inl s19))]) [0, 1, 2, 3, 4] (by decide) rfl
          exact W.zret (v := r17) (ty := .boolean) hx hb hr (vz_n hz9) (fun t ht hW => ⟨⟨r17, (0, v_set, v_shifted, s24, s19), rfl, hw, by rw [ht]; exact hP9, va_K.moved hW.alike hK, hD9⟩, hS.F ht⟩) hS.2.2 d_Re_isReadable_62
        · have hw := hw.2 c26
          refine lv_iconst (v := 1) hx hb d_Re_isReadable_53 (by decide) ?_
          refine lv_goto (tgt := 58) hx hb d_Re_isReadable_54 (by decide) ?_
          refine va_put (D := D) (ci := 2) (v := .int 1) (ty := .boolean) (C := R_Re) (T := T_Re) (N := 5) hx hb hts in_Re ty_Re tk_Re nn_Re hown hK hP hD hS 0 rfl rfl 2 (by decide) (hts _ mm_107) (fun _ h9 => h9) rfl (by decide +kernel) rfl rfl (Nat.le_of_ble_eq_true rfl) d_Re_isReadable_58 (fun H locs hP hD hS => ?_)
          have hP : va_P D vwCl [(a_this, .inr (2, [.ref a_strip, .ref a_told, .int 1, .int v_set, .int v_shifted])), (a_strip, .inr (0, [.ref a_strip_items, .int v_strip_count])), (a_strip_items, .inl (k_strip_items, 800, .inl f_strip_items)), (a_told, .inr (0, [.ref a_told_items, .int s24])), (a_told_items, .inl (k_told_items, 260, .inl s19))] H := hP
          have hD : va_D A [(a_this, .inr (2, [.ref a_strip, .ref a_told, .int 1, .int v_set, .int v_shifted])), (a_strip, .inr (0, [.ref a_strip_items, .int v_strip_count])), (a_strip_items, .inl (k_strip_items, 800, .inl f_strip_items)), (a_told, .inr (0, [.ref a_told_items, .int s24])), (a_told_items, .inl (k_told_items, 260, .inl s19))] := hD
          refine lv_iload_n hx hb d_Re_isReadable_61 rfl (lv_at hl 0 rfl) ?_
          have hz9 := hw.1
          have hw := hw.2
          have hP9 := hP.sub (ws' := [(a_this, .inr (2, [.ref a_strip, .ref a_told, .int 1, .int v_set, .int v_shifted])), (a_strip, .inr (0, [.ref a_strip_items, .int v_strip_count])), (a_strip_items, .inl (k_strip_items, 800, .inl f_strip_items)), (a_told, .inr (0, [.ref a_told_items, .int s24])), (a_told_items, .inl (k_told_items, 260, .inl s19))]) [0, 1, 2, 3, 4] rfl
          have hD9 := hD.sub (ws' := [(a_this, .inr (2, [.ref a_strip, .ref a_told, .int 1, .int v_set, .int v_shifted])), (a_strip, .inr (0, [.ref a_strip_items, .int v_strip_count])), (a_strip_items, .inl (k_strip_items, 800, .inl f_strip_items)), (a_told, .inr (0, [.ref a_told_items, .int s24])), (a_told_items, .inl (k_told_items, 260, .inl s19))]) [0, 1, 2, 3, 4] (by decide) rfl
          exact W.zret (v := r17) (ty := .boolean) hx hb hr (vz_n hz9) (fun t ht hW => ⟨⟨r17, (1, v_set, v_shifted, s24, s19), rfl, hw, by rw [ht]; exact hP9, va_K.moved hW.alike hK, hD9⟩, hS.F ht⟩) hS.2.2 d_Re_isReadable_62
-- LineCodes$Reader.toldCount()I
def w_Re_toldCount (post : Int32 → Prop) (v_told_count : Int32) : Prop := w_It_count (fun r1 => post r1) v_told_count
abbrev rm_Re_toldCount : Room := { frames := 1, cells := 0, slots := 0, locals := 20 }
set_option maxHeartbeats 4000000 in
set_option maxRecDepth 100000 in
theorem met_Re_toldCount (l : Launch) (D : va_G) (Z : (Nat → Prop) → State → Heap → Prop) (hz : zk Z) (ad : Nat → Nat) (hk : zs Z ad) (a_this : Nat) (a_strip : Nat) (a_strip_items : Nat) (a_told : Nat) (a_told_items : Nat) (k_strip_items : ClassId) (k_told_items : ClassId) (v_fromBack : Int32) (v_set : Int32) (v_shifted : Int32) (v_strip_count : Int32) (f_strip_items : Nat → Int32) (v_told_count : Int32) (f_told_items : Nat → Int32) {post : Int32 → Prop} (hw : w_Re_toldCount post v_told_count) : Met l y_Re_toldCount ws_Re_toldCount rm_Re_toldCount (va_Pc [.ref a_this] (ro_ D vwCl [(k_strip_items, .int), (k_told_items, .int)] [(a_this, .inr (2, [.ref a_strip, .ref a_told, .int v_fromBack, .int v_set, .int v_shifted])), (a_strip, .inr (0, [.ref a_strip_items, .int v_strip_count])), (a_strip_items, .inl (k_strip_items, 800, .inl f_strip_items)), (a_told, .inr (0, [.ref a_told_items, .int v_told_count])), (a_told_items, .inl (k_told_items, 260, .inl f_told_items))] (Z))) (vp_Si post) 0 0 (fun _ => False) := by
  refine Met.ofW (cc := c_Re_toldCount) (maxL := 1) (ret := (some .int)) (by decide) rfl ?_
  intro p e s m args below meth c s₁ B hml hv
  obtain ⟨rfl, hP, hK, hZ⟩ := hv
  have hx := B.exec
  have hb := B.bytes
  have hr := B.returns
  have hts0 := atoms_spec (ws := ws_Re_toldCount) B.pre
  have hts := fun (w : Cond) (h : w ∈ tb) => hts0 w (List.mem_cons_of_mem _ h)
  have hown : s.vm.findClass R_Re = some m.cls := findClass_of_methodNamed B.named
  have hlocks := B.notSynchronized
  have hS : va_S (fun _ => False) s.heap s.heap [] := va_S.rf
  have hl := lv_entry ([.ref a_this]) (n := 1) (Nat.le_of_ble_eq_true rfl)
  rw [lg_entry_eq]
  generalize (lg_sl ([.ref a_this]) ++ List.replicate (1 - (lg_sl ([.ref a_this])).length) Slot.unset).toArray = ls at hl ⊢
  have hl : lv_has ls 1 [(0, .ref a_this)] := hl
  unfold w_Re_toldCount at hw
  refine lv_aload_n hx hb d_Re_toldCount_0 rfl (lv_at hl 0 rfl) ?_
  refine va_get (D := D) (ci := 2) (v := .ref a_told) (C := R_Re) (T := T_Re) (N := 5) hx hb hts in_Re hown hK hP 0 rfl rfl 1 (by decide) (hts _ mm_106) (fun _ h9 => h9) rfl d_Re_toldCount_1 ?_
  refine k_roVi (As := []) (rest := []) hz [3, 4] [1] 3 0 ⟨hx, hb, hml, hown, hts⟩ (met_It_count l D Z hz ad hk a_told a_told_items k_told_items 260 v_told_count f_told_items hw) (cwV 0 hts (g_V mm_260 mm_154 mm_155 mm_42 mm_156) rfl rfl rfl hd_It_count ⟨Nat.le_of_ble_eq_true rfl, Nat.le_of_ble_eq_true rfl⟩) hP hK hZ hS rfl rfl rfl rfl rfl hl.1 rfl (Nat.le_of_ble_eq_true rfl) d_Re_toldCount_4 ⟨Nat.le_of_ble_eq_true rfl, Nat.le_of_ble_eq_true rfl⟩ (fun r1 hw => ?_)
  exact W.iret (v := r1) hx hb hr (fun t ht hW => ⟨r1, rfl, hw, ht⟩) hS.2.2 d_Re_toldCount_7
-- LineCodes$Reader.toldAt(I)I
def w_Re_toldAt (post : Int32 → Prop) (v_told_count : Int32) (f_told_items : Nat → Int32) (x1 : Int32) : Prop := w_It_at (fun r1 => post r1) 260 v_told_count f_told_items x1
abbrev rm_Re_toldAt : Room := { frames := 1, cells := 0, slots := 0, locals := 21 }
set_option maxHeartbeats 4000000 in
set_option maxRecDepth 100000 in
theorem met_Re_toldAt (l : Launch) (D : va_G) (Z : (Nat → Prop) → State → Heap → Prop) (hz : zk Z) (ad : Nat → Nat) (hk : zs Z ad) (a_this : Nat) (a_strip : Nat) (a_strip_items : Nat) (a_told : Nat) (a_told_items : Nat) (k_strip_items : ClassId) (k_told_items : ClassId) (v_fromBack : Int32) (v_set : Int32) (v_shifted : Int32) (v_strip_count : Int32) (f_strip_items : Nat → Int32) (v_told_count : Int32) (f_told_items : Nat → Int32) (x1 : Int32) {post : Int32 → Prop} (hw : w_Re_toldAt post v_told_count f_told_items x1) : Met l y_Re_toldAt ws_Re_toldAt rm_Re_toldAt (va_Pc [.ref a_this, .int x1] (ro_ D vwCl [(k_strip_items, .int), (k_told_items, .int)] [(a_this, .inr (2, [.ref a_strip, .ref a_told, .int v_fromBack, .int v_set, .int v_shifted])), (a_strip, .inr (0, [.ref a_strip_items, .int v_strip_count])), (a_strip_items, .inl (k_strip_items, 800, .inl f_strip_items)), (a_told, .inr (0, [.ref a_told_items, .int v_told_count])), (a_told_items, .inl (k_told_items, 260, .inl f_told_items))] (Z))) (vp_Si post) 0 0 (fun _ => False) := by
  refine Met.ofW (cc := c_Re_toldAt) (maxL := 2) (ret := (some .int)) (by decide) rfl ?_
  intro p e s m args below meth c s₁ B hml hv
  obtain ⟨rfl, hP, hK, hZ⟩ := hv
  have hx := B.exec
  have hb := B.bytes
  have hr := B.returns
  have hts0 := atoms_spec (ws := ws_Re_toldAt) B.pre
  have hts := fun (w : Cond) (h : w ∈ tb) => hts0 w (List.mem_cons_of_mem _ h)
  have hown : s.vm.findClass R_Re = some m.cls := findClass_of_methodNamed B.named
  have hlocks := B.notSynchronized
  have hS : va_S (fun _ => False) s.heap s.heap [] := va_S.rf
  have hl := lv_entry ([.ref a_this, .int x1]) (n := 2) (Nat.le_of_ble_eq_true rfl)
  rw [lg_entry_eq]
  generalize (lg_sl ([.ref a_this, .int x1]) ++ List.replicate (2 - (lg_sl ([.ref a_this, .int x1])).length) Slot.unset).toArray = ls at hl ⊢
  have hl : lv_has ls 2 [(0, .ref a_this), (1, .int x1)] := hl
  unfold w_Re_toldAt at hw
  refine lv_aload_n hx hb d_Re_toldAt_0 rfl (lv_at hl 0 rfl) ?_
  refine va_get (D := D) (ci := 2) (v := .ref a_told) (C := R_Re) (T := T_Re) (N := 5) hx hb hts in_Re hown hK hP 0 rfl rfl 1 (by decide) (hts _ mm_106) (fun _ h9 => h9) rfl d_Re_toldAt_1 ?_
  refine lv_iload_n hx hb d_Re_toldAt_4 rfl (lv_at hl 1 rfl) ?_
  refine k_roVi (As := [.int x1]) (rest := []) hz [3, 4] [1] 3 0 ⟨hx, hb, hml, hown, hts⟩ (met_It_at l D Z hz ad hk a_told a_told_items k_told_items 260 v_told_count f_told_items x1 hw) (cwV 1 hts (g_V mm_273 mm_167 mm_168 mm_42 mm_169) rfl rfl rfl hd_It_at ⟨Nat.le_of_ble_eq_true rfl, Nat.le_of_ble_eq_true rfl⟩) hP hK hZ hS rfl rfl rfl rfl rfl hl.1 rfl (Nat.le_of_ble_eq_true rfl) d_Re_toldAt_5 ⟨Nat.le_of_ble_eq_true rfl, Nat.le_of_ble_eq_true rfl⟩ (fun r1 hw => ?_)
  exact W.iret (v := r1) hx hb hr (fun t ht hW => ⟨r1, rfl, hw, ht⟩) hS.2.2 d_Re_toldAt_8
-- LineCodes$Reader.isFromBack()Z
def w_Re_isFromBack (post : Int32 → Prop) (v_fromBack : Int32) : Prop := vz v_fromBack ∧ post v_fromBack
abbrev rm_Re_isFromBack : Room := { frames := 0, cells := 0, slots := 0, locals := 0 }
set_option maxHeartbeats 4000000 in
set_option maxRecDepth 100000 in
theorem met_Re_isFromBack (l : Launch) (D : va_G) (Z : (Nat → Prop) → State → Heap → Prop) (hz : zk Z) (ad : Nat → Nat) (hk : zs Z ad) (a_this : Nat) (a_strip : Nat) (a_strip_items : Nat) (a_told : Nat) (a_told_items : Nat) (k_strip_items : ClassId) (k_told_items : ClassId) (v_fromBack : Int32) (v_set : Int32) (v_shifted : Int32) (v_strip_count : Int32) (f_strip_items : Nat → Int32) (v_told_count : Int32) (f_told_items : Nat → Int32) {post : Int32 → Prop} (hw : w_Re_isFromBack post v_fromBack) : Met l y_Re_isFromBack ws_Re_isFromBack rm_Re_isFromBack (va_Pc [.ref a_this] (ro_ D vwCl [(k_strip_items, .int), (k_told_items, .int)] [(a_this, .inr (2, [.ref a_strip, .ref a_told, .int v_fromBack, .int v_set, .int v_shifted])), (a_strip, .inr (0, [.ref a_strip_items, .int v_strip_count])), (a_strip_items, .inl (k_strip_items, 800, .inl f_strip_items)), (a_told, .inr (0, [.ref a_told_items, .int v_told_count])), (a_told_items, .inl (k_told_items, 260, .inl f_told_items))] (Z))) (vp_Si post) 0 0 (fun _ => False) := by
  refine Met.ofW (cc := c_Re_isFromBack) (maxL := 1) (ret := (some .boolean)) (by decide) rfl ?_
  intro p e s m args below meth c s₁ B hml hv
  obtain ⟨rfl, hP, hK, hZ⟩ := hv
  have hx := B.exec
  have hb := B.bytes
  have hr := B.returns
  have hts0 := atoms_spec (ws := ws_Re_isFromBack) B.pre
  have hts := fun (w : Cond) (h : w ∈ tb) => hts0 w (List.mem_cons_of_mem _ h)
  have hown : s.vm.findClass R_Re = some m.cls := findClass_of_methodNamed B.named
  have hlocks := B.notSynchronized
  have hS : va_S (fun _ => False) s.heap s.heap [] := va_S.rf
  have hl := lv_entry ([.ref a_this]) (n := 1) (Nat.le_of_ble_eq_true rfl)
  rw [lg_entry_eq]
  generalize (lg_sl ([.ref a_this]) ++ List.replicate (1 - (lg_sl ([.ref a_this])).length) Slot.unset).toArray = ls at hl ⊢
  have hl : lv_has ls 1 [(0, .ref a_this)] := hl
  unfold w_Re_isFromBack at hw
  refine lv_aload_n hx hb d_Re_isFromBack_0 rfl (lv_at hl 0 rfl) ?_
  refine va_get (D := D) (ci := 2) (v := .int v_fromBack) (C := R_Re) (T := T_Re) (N := 5) hx hb hts in_Re hown hK hP 0 rfl rfl 2 (by decide) (hts _ mm_107) (fun _ h9 => h9) rfl d_Re_isFromBack_1 ?_
  have hz9 := hw.1
  have hw := hw.2
  exact W.zret (v := v_fromBack) (ty := .boolean) hx hb hr (vz_n hz9) (fun t ht hW => ⟨v_fromBack, rfl, hw, ht⟩) hS.2.2 d_Re_isFromBack_4
end
section
theorem d_Lc_init_0 : decode c_Lc_init 0 = .ok (.aload_n 0, 1) := by decide +kernel
theorem d_Lc_init_1 : decode c_Lc_init 1 = .ok (.invokespecial 3, 3) := by decide +kernel
theorem d_Lc_init_4 : decode c_Lc_init 4 = .ok (.aload_n 0, 1) := by decide +kernel
theorem d_Lc_init_5 : decode c_Lc_init 5 = .ok (.new 9, 3) := by decide +kernel
theorem d_Lc_init_8 : decode c_Lc_init 8 = .ok (.dup, 1) := by decide +kernel
theorem d_Lc_init_9 : decode c_Lc_init 9 = .ok (.bipush 64, 2) := by decide +kernel
theorem d_Lc_init_11 : decode c_Lc_init 11 = .ok (.invokespecial 11, 3) := by decide +kernel
theorem d_Lc_init_14 : decode c_Lc_init 14 = .ok (.putfield 14, 3) := by decide +kernel
theorem d_Lc_init_17 : decode c_Lc_init 17 = .ok (.aload_n 0, 1) := by decide +kernel
theorem d_Lc_init_18 : decode c_Lc_init 18 = .ok (.new 9, 3) := by decide +kernel
theorem d_Lc_init_21 : decode c_Lc_init 21 = .ok (.dup, 1) := by decide +kernel
theorem d_Lc_init_22 : decode c_Lc_init 22 = .ok (.bipush 99, 2) := by decide +kernel
theorem d_Lc_init_24 : decode c_Lc_init 24 = .ok (.invokespecial 11, 3) := by decide +kernel
theorem d_Lc_init_27 : decode c_Lc_init 27 = .ok (.putfield 18, 3) := by decide +kernel
theorem d_Lc_init_30 : decode c_Lc_init 30 = .ok (.aload_n 0, 1) := by decide +kernel
theorem d_Lc_init_31 : decode c_Lc_init 31 = .ok (.new 9, 3) := by decide +kernel
theorem d_Lc_init_34 : decode c_Lc_init 34 = .ok (.dup, 1) := by decide +kernel
theorem d_Lc_init_35 : decode c_Lc_init 35 = .ok (.sipush 800, 3) := by decide +kernel
theorem d_Lc_init_38 : decode c_Lc_init 38 = .ok (.invokespecial 11, 3) := by decide +kernel
theorem d_Lc_init_41 : decode c_Lc_init 41 = .ok (.putfield 21, 3) := by decide +kernel
theorem d_Lc_init_44 : decode c_Lc_init 44 = .ok (.aload_n 0, 1) := by decide +kernel
theorem d_Lc_init_45 : decode c_Lc_init 45 = .ok (.new 24, 3) := by decide +kernel
theorem d_Lc_init_48 : decode c_Lc_init 48 = .ok (.dup, 1) := by decide +kernel
theorem d_Lc_init_49 : decode c_Lc_init 49 = .ok (.aload_n 0, 1) := by decide +kernel
theorem d_Lc_init_50 : decode c_Lc_init 50 = .ok (.getfield 14, 3) := by decide +kernel
theorem d_Lc_init_53 : decode c_Lc_init 53 = .ok (.aload_n 0, 1) := by decide +kernel
theorem d_Lc_init_54 : decode c_Lc_init 54 = .ok (.getfield 18, 3) := by decide +kernel
theorem d_Lc_init_57 : decode c_Lc_init 57 = .ok (.invokespecial 26, 3) := by decide +kernel
theorem d_Lc_init_60 : decode c_Lc_init 60 = .ok (.putfield 29, 3) := by decide +kernel
theorem d_Lc_init_63 : decode c_Lc_init 63 = .ok (.aload_n 0, 1) := by decide +kernel
theorem d_Lc_init_64 : decode c_Lc_init 64 = .ok (.new 33, 3) := by decide +kernel
theorem d_Lc_init_67 : decode c_Lc_init 67 = .ok (.dup, 1) := by decide +kernel
theorem d_Lc_init_68 : decode c_Lc_init 68 = .ok (.aload_n 0, 1) := by decide +kernel
theorem d_Lc_init_69 : decode c_Lc_init 69 = .ok (.getfield 21, 3) := by decide +kernel
theorem d_Lc_init_72 : decode c_Lc_init 72 = .ok (.invokespecial 35, 3) := by decide +kernel
theorem d_Lc_init_75 : decode c_Lc_init 75 = .ok (.putfield 38, 3) := by decide +kernel
theorem d_Lc_init_78 : decode c_Lc_init 78 = .ok (.return_, 1) := by decide +kernel
theorem d_Lc_write_0 : decode c_Lc_write 0 = .ok (.iload_n 1, 1) := by decide +kernel
theorem d_Lc_write_1 : decode c_Lc_write 1 = .ok (.invokestatic 42, 3) := by decide +kernel
theorem d_Lc_write_4 : decode c_Lc_write 4 = .ok (.iconst 0, 1) := by decide +kernel
theorem d_Lc_write_5 : decode c_Lc_write 5 = .ok (.istore 4, 2) := by decide +kernel
theorem d_Lc_write_7 : decode c_Lc_write 7 = .ok (.iload 4, 2) := by decide +kernel
theorem d_Lc_write_9 : decode c_Lc_write 9 = .ok (.iload_n 1, 1) := by decide +kernel
theorem d_Lc_write_10 : decode c_Lc_write 10 = .ok (.if_icmp .ge 31, 3) := by decide +kernel
theorem d_Lc_write_13 : decode c_Lc_write 13 = .ok (.lload_n 2, 1) := by decide +kernel
theorem d_Lc_write_14 : decode c_Lc_write 14 = .ok (.iload 4, 2) := by decide +kernel
theorem d_Lc_write_16 : decode c_Lc_write 16 = .ok (.invokestatic 45, 3) := by decide +kernel
theorem d_Lc_write_19 : decode c_Lc_write 19 = .ok (.sipush 128, 3) := by decide +kernel
theorem d_Lc_write_22 : decode c_Lc_write 22 = .ok (.if_icmp .le 13, 3) := by decide +kernel
theorem d_Lc_write_25 : decode c_Lc_write 25 = .ok (.new 51, 3) := by decide +kernel
theorem d_Lc_write_28 : decode c_Lc_write 28 = .ok (.dup, 1) := by decide +kernel
theorem d_Lc_write_29 : decode c_Lc_write 29 = .ok (.ldc 53, 2) := by decide +kernel
theorem d_Lc_write_31 : decode c_Lc_write 31 = .ok (.invokespecial 55, 3) := by decide +kernel
theorem d_Lc_write_34 : decode c_Lc_write 34 = .ok (.athrow, 1) := by decide +kernel
theorem d_Lc_write_35 : decode c_Lc_write 35 = .ok (.iinc 4 1, 3) := by decide +kernel
theorem d_Lc_write_38 : decode c_Lc_write 38 = .ok (.goto (-31), 3) := by decide +kernel
theorem d_Lc_write_41 : decode c_Lc_write 41 = .ok (.aload_n 0, 1) := by decide +kernel
theorem d_Lc_write_42 : decode c_Lc_write 42 = .ok (.getfield 14, 3) := by decide +kernel
theorem d_Lc_write_45 : decode c_Lc_write 45 = .ok (.iload_n 1, 1) := by decide +kernel
theorem d_Lc_write_46 : decode c_Lc_write 46 = .ok (.lload_n 2, 1) := by decide +kernel
theorem d_Lc_write_47 : decode c_Lc_write 47 = .ok (.invokestatic 58, 3) := by decide +kernel
theorem d_Lc_write_50 : decode c_Lc_write 50 = .ok (.ireturn, 1) := by decide +kernel
theorem d_Lc_wipe_0 : decode c_Lc_wipe 0 = .ok (.aload_n 0, 1) := by decide +kernel
theorem d_Lc_wipe_1 : decode c_Lc_wipe 1 = .ok (.getfield 14, 3) := by decide +kernel
theorem d_Lc_wipe_4 : decode c_Lc_wipe 4 = .ok (.invokevirtual 62, 3) := by decide +kernel
theorem d_Lc_wipe_7 : decode c_Lc_wipe 7 = .ok (.ireturn, 1) := by decide +kernel
theorem d_Lc_pack_0 : decode c_Lc_pack 0 = .ok (.aload_n 0, 1) := by decide +kernel
theorem d_Lc_pack_1 : decode c_Lc_pack 1 = .ok (.getfield 29, 3) := by decide +kernel
theorem d_Lc_pack_4 : decode c_Lc_pack 4 = .ok (.invokevirtual 66, 3) := by decide +kernel
theorem d_Lc_pack_7 : decode c_Lc_pack 7 = .ok (.aload_n 0, 1) := by decide +kernel
theorem d_Lc_pack_8 : decode c_Lc_pack 8 = .ok (.getfield 18, 3) := by decide +kernel
theorem d_Lc_pack_11 : decode c_Lc_pack 11 = .ok (.invokevirtual 69, 3) := by decide +kernel
theorem d_Lc_pack_14 : decode c_Lc_pack 14 = .ok (.ireturn, 1) := by decide +kernel
theorem d_Lc_symbol_0 : decode c_Lc_symbol 0 = .ok (.aload_n 0, 1) := by decide +kernel
theorem d_Lc_symbol_1 : decode c_Lc_symbol 1 = .ok (.getfield 18, 3) := by decide +kernel
theorem d_Lc_symbol_4 : decode c_Lc_symbol 4 = .ok (.iload_n 1, 1) := by decide +kernel
theorem d_Lc_symbol_5 : decode c_Lc_symbol 5 = .ok (.invokevirtual 72, 3) := by decide +kernel
theorem d_Lc_symbol_8 : decode c_Lc_symbol 8 = .ok (.ireturn, 1) := by decide +kernel
theorem d_Lc_bars_0 : decode c_Lc_bars 0 = .ok (.iload_n 1, 1) := by decide +kernel
theorem d_Lc_bars_1 : decode c_Lc_bars 1 = .ok (.invokestatic 76, 3) := by decide +kernel
theorem d_Lc_bars_4 : decode c_Lc_bars 4 = .ok (.aload_n 0, 1) := by decide +kernel
theorem d_Lc_bars_5 : decode c_Lc_bars 5 = .ok (.getfield 18, 3) := by decide +kernel
theorem d_Lc_bars_8 : decode c_Lc_bars 8 = .ok (.invokevirtual 69, 3) := by decide +kernel
theorem d_Lc_bars_11 : decode c_Lc_bars 11 = .ok (.ifCond .ne 13, 3) := by decide +kernel
theorem d_Lc_bars_14 : decode c_Lc_bars 14 = .ok (.new 79, 3) := by decide +kernel
theorem d_Lc_bars_17 : decode c_Lc_bars 17 = .ok (.dup, 1) := by decide +kernel
theorem d_Lc_bars_18 : decode c_Lc_bars 18 = .ok (.ldc 81, 2) := by decide +kernel
theorem d_Lc_bars_20 : decode c_Lc_bars 20 = .ok (.invokespecial 83, 3) := by decide +kernel
theorem d_Lc_bars_23 : decode c_Lc_bars 23 = .ok (.athrow, 1) := by decide +kernel
theorem d_Lc_bars_24 : decode c_Lc_bars 24 = .ok (.aload_n 0, 1) := by decide +kernel
theorem d_Lc_bars_25 : decode c_Lc_bars 25 = .ok (.getfield 21, 3) := by decide +kernel
theorem d_Lc_bars_28 : decode c_Lc_bars 28 = .ok (.invokevirtual 62, 3) := by decide +kernel
theorem d_Lc_bars_31 : decode c_Lc_bars 31 = .ok (.pop, 1) := by decide +kernel
theorem d_Lc_bars_32 : decode c_Lc_bars 32 = .ok (.iconst 0, 1) := by decide +kernel
theorem d_Lc_bars_33 : decode c_Lc_bars 33 = .ok (.istore_n 2, 1) := by decide +kernel
theorem d_Lc_bars_34 : decode c_Lc_bars 34 = .ok (.iload_n 2, 1) := by decide +kernel
theorem d_Lc_bars_35 : decode c_Lc_bars 35 = .ok (.aload_n 0, 1) := by decide +kernel
theorem d_Lc_bars_36 : decode c_Lc_bars 36 = .ok (.getfield 18, 3) := by decide +kernel
theorem d_Lc_bars_39 : decode c_Lc_bars 39 = .ok (.invokevirtual 69, 3) := by decide +kernel
theorem d_Lc_bars_42 : decode c_Lc_bars 42 = .ok (.if_icmp .ge 25, 3) := by decide +kernel
theorem d_Lc_bars_45 : decode c_Lc_bars 45 = .ok (.aload_n 0, 1) := by decide +kernel
theorem d_Lc_bars_46 : decode c_Lc_bars 46 = .ok (.aload_n 0, 1) := by decide +kernel
theorem d_Lc_bars_47 : decode c_Lc_bars 47 = .ok (.getfield 18, 3) := by decide +kernel
theorem d_Lc_bars_50 : decode c_Lc_bars 50 = .ok (.iload_n 2, 1) := by decide +kernel
theorem d_Lc_bars_51 : decode c_Lc_bars 51 = .ok (.invokevirtual 72, 3) := by decide +kernel
theorem d_Lc_bars_54 : decode c_Lc_bars 54 = .ok (.invokestatic 84, 3) := by decide +kernel
theorem d_Lc_bars_57 : decode c_Lc_bars 57 = .ok (.iload_n 1, 1) := by decide +kernel
theorem d_Lc_bars_58 : decode c_Lc_bars 58 = .ok (.invokevirtual 89, 3) := by decide +kernel
theorem d_Lc_bars_61 : decode c_Lc_bars 61 = .ok (.iinc 2 1, 3) := by decide +kernel
theorem d_Lc_bars_64 : decode c_Lc_bars 64 = .ok (.goto (-30), 3) := by decide +kernel
theorem d_Lc_bars_67 : decode c_Lc_bars 67 = .ok (.aload_n 0, 1) := by decide +kernel
theorem d_Lc_bars_68 : decode c_Lc_bars 68 = .ok (.getfield 21, 3) := by decide +kernel
theorem d_Lc_bars_71 : decode c_Lc_bars 71 = .ok (.invokevirtual 69, 3) := by decide +kernel
theorem d_Lc_bars_74 : decode c_Lc_bars 74 = .ok (.ireturn, 1) := by decide +kernel
theorem d_Lc_checkFigure_0 : decode c_Lc_checkFigure 0 = .ok (.lload_n 1, 1) := by decide +kernel
theorem d_Lc_checkFigure_1 : decode c_Lc_checkFigure 1 = .ok (.invokestatic 93, 3) := by decide +kernel
theorem d_Lc_checkFigure_4 : decode c_Lc_checkFigure 4 = .ok (.lload_n 1, 1) := by decide +kernel
theorem d_Lc_checkFigure_5 : decode c_Lc_checkFigure 5 = .ok (.invokestatic 97, 3) := by decide +kernel
theorem d_Lc_checkFigure_8 : decode c_Lc_checkFigure 8 = .ok (.ireturn, 1) := by decide +kernel
theorem d_Lc_thirteen_0 : decode c_Lc_thirteen 0 = .ok (.lload_n 1, 1) := by decide +kernel
theorem d_Lc_thirteen_1 : decode c_Lc_thirteen 1 = .ok (.invokestatic 93, 3) := by decide +kernel
theorem d_Lc_thirteen_4 : decode c_Lc_thirteen 4 = .ok (.iload_n 3, 1) := by decide +kernel
theorem d_Lc_thirteen_5 : decode c_Lc_thirteen 5 = .ok (.invokestatic 76, 3) := by decide +kernel
theorem d_Lc_thirteen_8 : decode c_Lc_thirteen 8 = .ok (.aload_n 0, 1) := by decide +kernel
theorem d_Lc_thirteen_9 : decode c_Lc_thirteen 9 = .ok (.getfield 21, 3) := by decide +kernel
theorem d_Lc_thirteen_12 : decode c_Lc_thirteen 12 = .ok (.invokevirtual 62, 3) := by decide +kernel
theorem d_Lc_thirteen_15 : decode c_Lc_thirteen 15 = .ok (.pop, 1) := by decide +kernel
theorem d_Lc_thirteen_16 : decode c_Lc_thirteen 16 = .ok (.lload_n 1, 1) := by decide +kernel
theorem d_Lc_thirteen_17 : decode c_Lc_thirteen 17 = .ok (.iconst 0, 1) := by decide +kernel
theorem d_Lc_thirteen_18 : decode c_Lc_thirteen 18 = .ok (.invokestatic 103, 3) := by decide +kernel
theorem d_Lc_thirteen_21 : decode c_Lc_thirteen 21 = .ok (.invokestatic 106, 3) := by decide +kernel
theorem d_Lc_thirteen_24 : decode c_Lc_thirteen 24 = .ok (.istore 4, 2) := by decide +kernel
theorem d_Lc_thirteen_26 : decode c_Lc_thirteen 26 = .ok (.aload_n 0, 1) := by decide +kernel
theorem d_Lc_thirteen_27 : decode c_Lc_thirteen 27 = .ok (.bipush 111, 2) := by decide +kernel
theorem d_Lc_thirteen_29 : decode c_Lc_thirteen 29 = .ok (.iload_n 3, 1) := by decide +kernel
theorem d_Lc_thirteen_30 : decode c_Lc_thirteen 30 = .ok (.invokevirtual 89, 3) := by decide +kernel
theorem d_Lc_thirteen_33 : decode c_Lc_thirteen 33 = .ok (.iconst 1, 1) := by decide +kernel
theorem d_Lc_thirteen_34 : decode c_Lc_thirteen 34 = .ok (.istore 5, 2) := by decide +kernel
theorem d_Lc_thirteen_36 : decode c_Lc_thirteen 36 = .ok (.iload 5, 2) := by decide +kernel
theorem d_Lc_thirteen_38 : decode c_Lc_thirteen 38 = .ok (.bipush 6, 2) := by decide +kernel
theorem d_Lc_thirteen_40 : decode c_Lc_thirteen 40 = .ok (.if_icmp .gt 61, 3) := by decide +kernel
theorem d_Lc_thirteen_43 : decode c_Lc_thirteen 43 = .ok (.lload_n 1, 1) := by decide +kernel
theorem d_Lc_thirteen_44 : decode c_Lc_thirteen 44 = .ok (.iload 5, 2) := by decide +kernel
theorem d_Lc_thirteen_46 : decode c_Lc_thirteen 46 = .ok (.invokestatic 103, 3) := by decide +kernel
theorem d_Lc_thirteen_49 : decode c_Lc_thirteen 49 = .ok (.invokestatic 109, 3) := by decide +kernel
theorem d_Lc_thirteen_52 : decode c_Lc_thirteen 52 = .ok (.istore 6, 2) := by decide +kernel
theorem d_Lc_thirteen_54 : decode c_Lc_thirteen 54 = .ok (.iload 4, 2) := by decide +kernel
theorem d_Lc_thirteen_56 : decode c_Lc_thirteen 56 = .ok (.bipush 6, 2) := by decide +kernel
theorem d_Lc_thirteen_58 : decode c_Lc_thirteen 58 = .ok (.iload 5, 2) := by decide +kernel
theorem d_Lc_thirteen_60 : decode c_Lc_thirteen 60 = .ok (.isub, 1) := by decide +kernel
theorem d_Lc_thirteen_61 : decode c_Lc_thirteen 61 = .ok (.ishr, 1) := by decide +kernel
theorem d_Lc_thirteen_62 : decode c_Lc_thirteen 62 = .ok (.iconst 1, 1) := by decide +kernel
theorem d_Lc_thirteen_63 : decode c_Lc_thirteen 63 = .ok (.iand, 1) := by decide +kernel
theorem d_Lc_thirteen_64 : decode c_Lc_thirteen 64 = .ok (.iconst 1, 1) := by decide +kernel
theorem d_Lc_thirteen_65 : decode c_Lc_thirteen 65 = .ok (.if_icmp .ne 7, 3) := by decide +kernel
theorem d_Lc_thirteen_68 : decode c_Lc_thirteen 68 = .ok (.iconst 1, 1) := by decide +kernel
theorem d_Lc_thirteen_69 : decode c_Lc_thirteen 69 = .ok (.goto 4, 3) := by decide +kernel
theorem d_Lc_thirteen_72 : decode c_Lc_thirteen 72 = .ok (.iconst 0, 1) := by decide +kernel
theorem d_Lc_thirteen_73 : decode c_Lc_thirteen 73 = .ok (.istore 7, 2) := by decide +kernel
theorem d_Lc_thirteen_75 : decode c_Lc_thirteen 75 = .ok (.aload_n 0, 1) := by decide +kernel
theorem d_Lc_thirteen_76 : decode c_Lc_thirteen 76 = .ok (.iload 7, 2) := by decide +kernel
theorem d_Lc_thirteen_78 : decode c_Lc_thirteen 78 = .ok (.ifCond .eq 11, 3) := by decide +kernel
theorem d_Lc_thirteen_81 : decode c_Lc_thirteen 81 = .ok (.iload 6, 2) := by decide +kernel
theorem d_Lc_thirteen_83 : decode c_Lc_thirteen 83 = .ok (.invokestatic 112, 3) := by decide +kernel
theorem d_Lc_thirteen_86 : decode c_Lc_thirteen 86 = .ok (.goto 5, 3) := by decide +kernel
theorem d_Lc_thirteen_89 : decode c_Lc_thirteen 89 = .ok (.iload 6, 2) := by decide +kernel
theorem d_Lc_thirteen_91 : decode c_Lc_thirteen 91 = .ok (.iload_n 3, 1) := by decide +kernel
theorem d_Lc_thirteen_92 : decode c_Lc_thirteen 92 = .ok (.invokevirtual 89, 3) := by decide +kernel
theorem d_Lc_thirteen_95 : decode c_Lc_thirteen 95 = .ok (.iinc 5 1, 3) := by decide +kernel
theorem d_Lc_thirteen_98 : decode c_Lc_thirteen 98 = .ok (.goto (-62), 3) := by decide +kernel
theorem d_Lc_thirteen_101 : decode c_Lc_thirteen 101 = .ok (.aload_n 0, 1) := by decide +kernel
theorem d_Lc_thirteen_102 : decode c_Lc_thirteen 102 = .ok (.sipush 11111, 3) := by decide +kernel
theorem d_Lc_thirteen_105 : decode c_Lc_thirteen 105 = .ok (.iload_n 3, 1) := by decide +kernel
theorem d_Lc_thirteen_106 : decode c_Lc_thirteen 106 = .ok (.invokevirtual 89, 3) := by decide +kernel
theorem d_Lc_thirteen_109 : decode c_Lc_thirteen 109 = .ok (.bipush 7, 2) := by decide +kernel
theorem d_Lc_thirteen_111 : decode c_Lc_thirteen 111 = .ok (.istore 5, 2) := by decide +kernel
theorem d_Lc_thirteen_113 : decode c_Lc_thirteen 113 = .ok (.iload 5, 2) := by decide +kernel
theorem d_Lc_thirteen_115 : decode c_Lc_thirteen 115 = .ok (.bipush 12, 2) := by decide +kernel
theorem d_Lc_thirteen_117 : decode c_Lc_thirteen 117 = .ok (.if_icmp .ge 23, 3) := by decide +kernel
theorem d_Lc_thirteen_120 : decode c_Lc_thirteen 120 = .ok (.aload_n 0, 1) := by decide +kernel
theorem d_Lc_thirteen_121 : decode c_Lc_thirteen 121 = .ok (.lload_n 1, 1) := by decide +kernel
theorem d_Lc_thirteen_122 : decode c_Lc_thirteen 122 = .ok (.iload 5, 2) := by decide +kernel
theorem d_Lc_thirteen_124 : decode c_Lc_thirteen 124 = .ok (.invokestatic 103, 3) := by decide +kernel
theorem d_Lc_thirteen_127 : decode c_Lc_thirteen 127 = .ok (.invokestatic 109, 3) := by decide +kernel
theorem d_Lc_thirteen_130 : decode c_Lc_thirteen 130 = .ok (.iload_n 3, 1) := by decide +kernel
theorem d_Lc_thirteen_131 : decode c_Lc_thirteen 131 = .ok (.invokevirtual 89, 3) := by decide +kernel
theorem d_Lc_thirteen_134 : decode c_Lc_thirteen 134 = .ok (.iinc 5 1, 3) := by decide +kernel
theorem d_Lc_thirteen_137 : decode c_Lc_thirteen 137 = .ok (.goto (-24), 3) := by decide +kernel
theorem d_Lc_thirteen_140 : decode c_Lc_thirteen 140 = .ok (.aload_n 0, 1) := by decide +kernel
theorem d_Lc_thirteen_141 : decode c_Lc_thirteen 141 = .ok (.lload_n 1, 1) := by decide +kernel
theorem d_Lc_thirteen_142 : decode c_Lc_thirteen 142 = .ok (.invokestatic 97, 3) := by decide +kernel
theorem d_Lc_thirteen_145 : decode c_Lc_thirteen 145 = .ok (.invokestatic 109, 3) := by decide +kernel
theorem d_Lc_thirteen_148 : decode c_Lc_thirteen 148 = .ok (.iload_n 3, 1) := by decide +kernel
theorem d_Lc_thirteen_149 : decode c_Lc_thirteen 149 = .ok (.invokevirtual 89, 3) := by decide +kernel
theorem d_Lc_thirteen_152 : decode c_Lc_thirteen 152 = .ok (.aload_n 0, 1) := by decide +kernel
theorem d_Lc_thirteen_153 : decode c_Lc_thirteen 153 = .ok (.bipush 111, 2) := by decide +kernel
theorem d_Lc_thirteen_155 : decode c_Lc_thirteen 155 = .ok (.iload_n 3, 1) := by decide +kernel
theorem d_Lc_thirteen_156 : decode c_Lc_thirteen 156 = .ok (.invokevirtual 89, 3) := by decide +kernel
theorem d_Lc_thirteen_159 : decode c_Lc_thirteen 159 = .ok (.aload_n 0, 1) := by decide +kernel
theorem d_Lc_thirteen_160 : decode c_Lc_thirteen 160 = .ok (.getfield 21, 3) := by decide +kernel
theorem d_Lc_thirteen_163 : decode c_Lc_thirteen 163 = .ok (.invokevirtual 69, 3) := by decide +kernel
theorem d_Lc_thirteen_166 : decode c_Lc_thirteen 166 = .ok (.ireturn, 1) := by decide +kernel
theorem d_Lc_put_0 : decode c_Lc_put 0 = .ok (.iload_n 1, 1) := by decide +kernel
theorem d_Lc_put_1 : decode c_Lc_put 1 = .ok (.invokestatic 42, 3) := by decide +kernel
theorem d_Lc_put_4 : decode c_Lc_put 4 = .ok (.iconst 0, 1) := by decide +kernel
theorem d_Lc_put_5 : decode c_Lc_put 5 = .ok (.istore 4, 2) := by decide +kernel
theorem d_Lc_put_7 : decode c_Lc_put 7 = .ok (.iload 4, 2) := by decide +kernel
theorem d_Lc_put_9 : decode c_Lc_put 9 = .ok (.iload_n 1, 1) := by decide +kernel
theorem d_Lc_put_10 : decode c_Lc_put 10 = .ok (.if_icmp .ge 28, 3) := by decide +kernel
theorem d_Lc_put_13 : decode c_Lc_put 13 = .ok (.lload_n 2, 1) := by decide +kernel
theorem d_Lc_put_14 : decode c_Lc_put 14 = .ok (.iload 4, 2) := by decide +kernel
theorem d_Lc_put_16 : decode c_Lc_put 16 = .ok (.invokestatic 45, 3) := by decide +kernel
theorem d_Lc_put_19 : decode c_Lc_put 19 = .ok (.ifCond .ne 13, 3) := by decide +kernel
theorem d_Lc_put_22 : decode c_Lc_put 22 = .ok (.new 51, 3) := by decide +kernel
theorem d_Lc_put_25 : decode c_Lc_put 25 = .ok (.dup, 1) := by decide +kernel
theorem d_Lc_put_26 : decode c_Lc_put 26 = .ok (.ldc 115, 2) := by decide +kernel
theorem d_Lc_put_28 : decode c_Lc_put 28 = .ok (.invokespecial 55, 3) := by decide +kernel
theorem d_Lc_put_31 : decode c_Lc_put 31 = .ok (.athrow, 1) := by decide +kernel
theorem d_Lc_put_32 : decode c_Lc_put 32 = .ok (.iinc 4 1, 3) := by decide +kernel
theorem d_Lc_put_35 : decode c_Lc_put 35 = .ok (.goto (-28), 3) := by decide +kernel
theorem d_Lc_put_38 : decode c_Lc_put 38 = .ok (.aload_n 0, 1) := by decide +kernel
theorem d_Lc_put_39 : decode c_Lc_put 39 = .ok (.getfield 21, 3) := by decide +kernel
theorem d_Lc_put_42 : decode c_Lc_put 42 = .ok (.iload_n 1, 1) := by decide +kernel
theorem d_Lc_put_43 : decode c_Lc_put 43 = .ok (.lload_n 2, 1) := by decide +kernel
theorem d_Lc_put_44 : decode c_Lc_put 44 = .ok (.invokestatic 58, 3) := by decide +kernel
theorem d_Lc_put_47 : decode c_Lc_put 47 = .ok (.ireturn, 1) := by decide +kernel
theorem d_Lc_clear_0 : decode c_Lc_clear 0 = .ok (.aload_n 0, 1) := by decide +kernel
theorem d_Lc_clear_1 : decode c_Lc_clear 1 = .ok (.getfield 21, 3) := by decide +kernel
theorem d_Lc_clear_4 : decode c_Lc_clear 4 = .ok (.invokevirtual 62, 3) := by decide +kernel
theorem d_Lc_clear_7 : decode c_Lc_clear 7 = .ok (.ireturn, 1) := by decide +kernel
theorem d_Lc_width_0 : decode c_Lc_width 0 = .ok (.aload_n 0, 1) := by decide +kernel
theorem d_Lc_width_1 : decode c_Lc_width 1 = .ok (.getfield 21, 3) := by decide +kernel
theorem d_Lc_width_4 : decode c_Lc_width 4 = .ok (.iload_n 1, 1) := by decide +kernel
theorem d_Lc_width_5 : decode c_Lc_width 5 = .ok (.invokevirtual 72, 3) := by decide +kernel
theorem d_Lc_width_8 : decode c_Lc_width 8 = .ok (.ireturn, 1) := by decide +kernel
theorem d_Lc_spoil_0 : decode c_Lc_spoil 0 = .ok (.iload_n 1, 1) := by decide +kernel
theorem d_Lc_spoil_1 : decode c_Lc_spoil 1 = .ok (.ifCond .lt 14, 3) := by decide +kernel
theorem d_Lc_spoil_4 : decode c_Lc_spoil 4 = .ok (.iload_n 1, 1) := by decide +kernel
theorem d_Lc_spoil_5 : decode c_Lc_spoil 5 = .ok (.aload_n 0, 1) := by decide +kernel
theorem d_Lc_spoil_6 : decode c_Lc_spoil 6 = .ok (.getfield 21, 3) := by decide +kernel
theorem d_Lc_spoil_9 : decode c_Lc_spoil 9 = .ok (.invokevirtual 69, 3) := by decide +kernel
theorem d_Lc_spoil_12 : decode c_Lc_spoil 12 = .ok (.if_icmp .lt 13, 3) := by decide +kernel
theorem d_Lc_spoil_15 : decode c_Lc_spoil 15 = .ok (.new 117, 3) := by decide +kernel
theorem d_Lc_spoil_18 : decode c_Lc_spoil 18 = .ok (.dup, 1) := by decide +kernel
theorem d_Lc_spoil_19 : decode c_Lc_spoil 19 = .ok (.ldc 119, 2) := by decide +kernel
theorem d_Lc_spoil_21 : decode c_Lc_spoil 21 = .ok (.invokespecial 121, 3) := by decide +kernel
theorem d_Lc_spoil_24 : decode c_Lc_spoil 24 = .ok (.athrow, 1) := by decide +kernel
theorem d_Lc_spoil_25 : decode c_Lc_spoil 25 = .ok (.iload_n 2, 1) := by decide +kernel
theorem d_Lc_spoil_26 : decode c_Lc_spoil 26 = .ok (.iconst 1, 1) := by decide +kernel
theorem d_Lc_spoil_27 : decode c_Lc_spoil 27 = .ok (.if_icmp .lt 10, 3) := by decide +kernel
theorem d_Lc_spoil_30 : decode c_Lc_spoil 30 = .ok (.iload_n 2, 1) := by decide +kernel
theorem d_Lc_spoil_31 : decode c_Lc_spoil 31 = .ok (.sipush 2000, 3) := by decide +kernel
theorem d_Lc_spoil_34 : decode c_Lc_spoil 34 = .ok (.if_icmp .le 13, 3) := by decide +kernel
theorem d_Lc_spoil_37 : decode c_Lc_spoil 37 = .ok (.new 51, 3) := by decide +kernel
theorem d_Lc_spoil_40 : decode c_Lc_spoil 40 = .ok (.dup, 1) := by decide +kernel
theorem d_Lc_spoil_41 : decode c_Lc_spoil 41 = .ok (.ldc 122, 2) := by decide +kernel
theorem d_Lc_spoil_43 : decode c_Lc_spoil 43 = .ok (.invokespecial 55, 3) := by decide +kernel
theorem d_Lc_spoil_46 : decode c_Lc_spoil 46 = .ok (.athrow, 1) := by decide +kernel
theorem d_Lc_spoil_47 : decode c_Lc_spoil 47 = .ok (.aload_n 0, 1) := by decide +kernel
theorem d_Lc_spoil_48 : decode c_Lc_spoil 48 = .ok (.getfield 21, 3) := by decide +kernel
theorem d_Lc_spoil_51 : decode c_Lc_spoil 51 = .ok (.iload_n 1, 1) := by decide +kernel
theorem d_Lc_spoil_52 : decode c_Lc_spoil 52 = .ok (.iload_n 2, 1) := by decide +kernel
theorem d_Lc_spoil_53 : decode c_Lc_spoil 53 = .ok (.invokevirtual 124, 3) := by decide +kernel
theorem d_Lc_spoil_56 : decode c_Lc_spoil 56 = .ok (.ireturn, 1) := by decide +kernel
theorem d_Lc_turn_0 : decode c_Lc_turn 0 = .ok (.aload_n 0, 1) := by decide +kernel
theorem d_Lc_turn_1 : decode c_Lc_turn 1 = .ok (.getfield 21, 3) := by decide +kernel
theorem d_Lc_turn_4 : decode c_Lc_turn 4 = .ok (.invokevirtual 128, 3) := by decide +kernel
theorem d_Lc_turn_7 : decode c_Lc_turn 7 = .ok (.aload_n 0, 1) := by decide +kernel
theorem d_Lc_turn_8 : decode c_Lc_turn 8 = .ok (.getfield 21, 3) := by decide +kernel
theorem d_Lc_turn_11 : decode c_Lc_turn 11 = .ok (.invokevirtual 69, 3) := by decide +kernel
theorem d_Lc_turn_14 : decode c_Lc_turn 14 = .ok (.ireturn, 1) := by decide +kernel
theorem d_Lc_read_0 : decode c_Lc_read 0 = .ok (.aload_n 0, 1) := by decide +kernel
theorem d_Lc_read_1 : decode c_Lc_read 1 = .ok (.getfield 38, 3) := by decide +kernel
theorem d_Lc_read_4 : decode c_Lc_read 4 = .ok (.iconst 0, 1) := by decide +kernel
theorem d_Lc_read_5 : decode c_Lc_read 5 = .ok (.invokevirtual 131, 3) := by decide +kernel
theorem d_Lc_read_8 : decode c_Lc_read 8 = .ok (.istore_n 1, 1) := by decide +kernel
theorem d_Lc_read_9 : decode c_Lc_read 9 = .ok (.iload_n 1, 1) := by decide +kernel
theorem d_Lc_read_10 : decode c_Lc_read 10 = .ok (.ifCond .ne 26, 3) := by decide +kernel
theorem d_Lc_read_13 : decode c_Lc_read 13 = .ok (.aload_n 0, 1) := by decide +kernel
theorem d_Lc_read_14 : decode c_Lc_read 14 = .ok (.getfield 21, 3) := by decide +kernel
theorem d_Lc_read_17 : decode c_Lc_read 17 = .ok (.invokevirtual 128, 3) := by decide +kernel
theorem d_Lc_read_20 : decode c_Lc_read 20 = .ok (.aload_n 0, 1) := by decide +kernel
theorem d_Lc_read_21 : decode c_Lc_read 21 = .ok (.getfield 38, 3) := by decide +kernel
theorem d_Lc_read_24 : decode c_Lc_read 24 = .ok (.iconst 1, 1) := by decide +kernel
theorem d_Lc_read_25 : decode c_Lc_read 25 = .ok (.invokevirtual 131, 3) := by decide +kernel
theorem d_Lc_read_28 : decode c_Lc_read 28 = .ok (.istore_n 1, 1) := by decide +kernel
theorem d_Lc_read_29 : decode c_Lc_read 29 = .ok (.aload_n 0, 1) := by decide +kernel
theorem d_Lc_read_30 : decode c_Lc_read 30 = .ok (.getfield 21, 3) := by decide +kernel
theorem d_Lc_read_33 : decode c_Lc_read 33 = .ok (.invokevirtual 128, 3) := by decide +kernel
theorem d_Lc_read_36 : decode c_Lc_read 36 = .ok (.iload_n 1, 1) := by decide +kernel
theorem d_Lc_read_37 : decode c_Lc_read 37 = .ok (.ifCond .eq 13, 3) := by decide +kernel
theorem d_Lc_read_40 : decode c_Lc_read 40 = .ok (.aload_n 0, 1) := by decide +kernel
theorem d_Lc_read_41 : decode c_Lc_read 41 = .ok (.getfield 38, 3) := by decide +kernel
theorem d_Lc_read_44 : decode c_Lc_read 44 = .ok (.invokevirtual 135, 3) := by decide +kernel
theorem d_Lc_read_47 : decode c_Lc_read 47 = .ok (.goto 4, 3) := by decide +kernel
theorem d_Lc_read_50 : decode c_Lc_read 50 = .ok (.iconst (-1), 1) := by decide +kernel
theorem d_Lc_read_51 : decode c_Lc_read 51 = .ok (.ireturn, 1) := by decide +kernel
theorem d_Lc_sign_0 : decode c_Lc_sign 0 = .ok (.aload_n 0, 1) := by decide +kernel
theorem d_Lc_sign_1 : decode c_Lc_sign 1 = .ok (.getfield 38, 3) := by decide +kernel
theorem d_Lc_sign_4 : decode c_Lc_sign 4 = .ok (.iload_n 1, 1) := by decide +kernel
theorem d_Lc_sign_5 : decode c_Lc_sign 5 = .ok (.invokevirtual 138, 3) := by decide +kernel
theorem d_Lc_sign_8 : decode c_Lc_sign 8 = .ok (.ireturn, 1) := by decide +kernel
theorem d_Lc_backwards_0 : decode c_Lc_backwards 0 = .ok (.aload_n 0, 1) := by decide +kernel
theorem d_Lc_backwards_1 : decode c_Lc_backwards 1 = .ok (.getfield 38, 3) := by decide +kernel
theorem d_Lc_backwards_4 : decode c_Lc_backwards 4 = .ok (.invokevirtual 141, 3) := by decide +kernel
theorem d_Lc_backwards_7 : decode c_Lc_backwards 7 = .ok (.ireturn, 1) := by decide +kernel
theorem d_Lc_refuseByteCount_0 : decode c_Lc_refuseByteCount 0 = .ok (.iload_n 0, 1) := by decide +kernel
theorem d_Lc_refuseByteCount_1 : decode c_Lc_refuseByteCount 1 = .ok (.iconst 1, 1) := by decide +kernel
theorem d_Lc_refuseByteCount_2 : decode c_Lc_refuseByteCount 2 = .ok (.if_icmp .lt 9, 3) := by decide +kernel
theorem d_Lc_refuseByteCount_5 : decode c_Lc_refuseByteCount 5 = .ok (.iload_n 0, 1) := by decide +kernel
theorem d_Lc_refuseByteCount_6 : decode c_Lc_refuseByteCount 6 = .ok (.bipush 8, 2) := by decide +kernel
theorem d_Lc_refuseByteCount_8 : decode c_Lc_refuseByteCount 8 = .ok (.if_icmp .le 13, 3) := by decide +kernel
theorem d_Lc_refuseByteCount_11 : decode c_Lc_refuseByteCount 11 = .ok (.new 51, 3) := by decide +kernel
theorem d_Lc_refuseByteCount_14 : decode c_Lc_refuseByteCount 14 = .ok (.dup, 1) := by decide +kernel
theorem d_Lc_refuseByteCount_15 : decode c_Lc_refuseByteCount 15 = .ok (.ldc 145, 2) := by decide +kernel
theorem d_Lc_refuseByteCount_17 : decode c_Lc_refuseByteCount 17 = .ok (.invokespecial 55, 3) := by decide +kernel
theorem d_Lc_refuseByteCount_20 : decode c_Lc_refuseByteCount 20 = .ok (.athrow, 1) := by decide +kernel
theorem d_Lc_refuseByteCount_21 : decode c_Lc_refuseByteCount 21 = .ok (.return_, 1) := by decide +kernel
theorem d_Lc_refuseModule_0 : decode c_Lc_refuseModule 0 = .ok (.iload_n 0, 1) := by decide +kernel
theorem d_Lc_refuseModule_1 : decode c_Lc_refuseModule 1 = .ok (.iconst 1, 1) := by decide +kernel
theorem d_Lc_refuseModule_2 : decode c_Lc_refuseModule 2 = .ok (.if_icmp .lt 9, 3) := by decide +kernel
theorem d_Lc_refuseModule_5 : decode c_Lc_refuseModule 5 = .ok (.iload_n 0, 1) := by decide +kernel
theorem d_Lc_refuseModule_6 : decode c_Lc_refuseModule 6 = .ok (.bipush 50, 2) := by decide +kernel
theorem d_Lc_refuseModule_8 : decode c_Lc_refuseModule 8 = .ok (.if_icmp .le 13, 3) := by decide +kernel
theorem d_Lc_refuseModule_11 : decode c_Lc_refuseModule 11 = .ok (.new 51, 3) := by decide +kernel
theorem d_Lc_refuseModule_14 : decode c_Lc_refuseModule 14 = .ok (.dup, 1) := by decide +kernel
theorem d_Lc_refuseModule_15 : decode c_Lc_refuseModule 15 = .ok (.ldc 147, 2) := by decide +kernel
theorem d_Lc_refuseModule_17 : decode c_Lc_refuseModule 17 = .ok (.invokespecial 55, 3) := by decide +kernel
theorem d_Lc_refuseModule_20 : decode c_Lc_refuseModule 20 = .ok (.athrow, 1) := by decide +kernel
theorem d_Lc_refuseModule_21 : decode c_Lc_refuseModule 21 = .ok (.return_, 1) := by decide +kernel
theorem d_Lc_refuseTwelve_0 : decode c_Lc_refuseTwelve 0 = .ok (.lload_n 0, 1) := by decide +kernel
theorem d_Lc_refuseTwelve_1 : decode c_Lc_refuseTwelve 1 = .ok (.lconst 0, 1) := by decide +kernel
theorem d_Lc_refuseTwelve_2 : decode c_Lc_refuseTwelve 2 = .ok (.lcmp, 1) := by decide +kernel
theorem d_Lc_refuseTwelve_3 : decode c_Lc_refuseTwelve 3 = .ok (.ifCond .lt 11, 3) := by decide +kernel
theorem d_Lc_refuseTwelve_6 : decode c_Lc_refuseTwelve 6 = .ok (.lload_n 0, 1) := by decide +kernel
theorem d_Lc_refuseTwelve_7 : decode c_Lc_refuseTwelve 7 = .ok (.ldc2_w 149, 3) := by decide +kernel
theorem d_Lc_refuseTwelve_10 : decode c_Lc_refuseTwelve 10 = .ok (.lcmp, 1) := by decide +kernel
theorem d_Lc_refuseTwelve_11 : decode c_Lc_refuseTwelve 11 = .ok (.ifCond .le 13, 3) := by decide +kernel
theorem d_Lc_refuseTwelve_14 : decode c_Lc_refuseTwelve 14 = .ok (.new 51, 3) := by decide +kernel
theorem d_Lc_refuseTwelve_17 : decode c_Lc_refuseTwelve 17 = .ok (.dup, 1) := by decide +kernel
theorem d_Lc_refuseTwelve_18 : decode c_Lc_refuseTwelve 18 = .ok (.ldc 151, 2) := by decide +kernel
theorem d_Lc_refuseTwelve_20 : decode c_Lc_refuseTwelve 20 = .ok (.invokespecial 55, 3) := by decide +kernel
theorem d_Lc_refuseTwelve_23 : decode c_Lc_refuseTwelve 23 = .ok (.athrow, 1) := by decide +kernel
theorem d_Lc_refuseTwelve_24 : decode c_Lc_refuseTwelve 24 = .ok (.return_, 1) := by decide +kernel
theorem d_Lc_byteOf_0 : decode c_Lc_byteOf 0 = .ok (.lload_n 0, 1) := by decide +kernel
theorem d_Lc_byteOf_1 : decode c_Lc_byteOf 1 = .ok (.bipush 8, 2) := by decide +kernel
theorem d_Lc_byteOf_3 : decode c_Lc_byteOf 3 = .ok (.iload_n 2, 1) := by decide +kernel
theorem d_Lc_byteOf_4 : decode c_Lc_byteOf 4 = .ok (.imul, 1) := by decide +kernel
theorem d_Lc_byteOf_5 : decode c_Lc_byteOf 5 = .ok (.lushr, 1) := by decide +kernel
theorem d_Lc_byteOf_6 : decode c_Lc_byteOf 6 = .ok (.ldc2_w 153, 3) := by decide +kernel
theorem d_Lc_byteOf_9 : decode c_Lc_byteOf 9 = .ok (.land, 1) := by decide +kernel
theorem d_Lc_byteOf_10 : decode c_Lc_byteOf 10 = .ok (.l2i, 1) := by decide +kernel
theorem d_Lc_byteOf_11 : decode c_Lc_byteOf 11 = .ok (.ireturn, 1) := by decide +kernel
theorem d_Lc_addBytes_0 : decode c_Lc_addBytes 0 = .ok (.aload_n 0, 1) := by decide +kernel
theorem d_Lc_addBytes_1 : decode c_Lc_addBytes 1 = .ok (.iload_n 1, 1) := by decide +kernel
theorem d_Lc_addBytes_2 : decode c_Lc_addBytes 2 = .ok (.invokevirtual 155, 3) := by decide +kernel
theorem d_Lc_addBytes_5 : decode c_Lc_addBytes 5 = .ok (.ifCond .ne 5, 3) := by decide +kernel
theorem d_Lc_addBytes_8 : decode c_Lc_addBytes 8 = .ok (.iconst (-1), 1) := by decide +kernel
theorem d_Lc_addBytes_9 : decode c_Lc_addBytes 9 = .ok (.ireturn, 1) := by decide +kernel
theorem d_Lc_addBytes_10 : decode c_Lc_addBytes 10 = .ok (.iconst 0, 1) := by decide +kernel
theorem d_Lc_addBytes_11 : decode c_Lc_addBytes 11 = .ok (.istore 4, 2) := by decide +kernel
theorem d_Lc_addBytes_13 : decode c_Lc_addBytes 13 = .ok (.iload 4, 2) := by decide +kernel
theorem d_Lc_addBytes_15 : decode c_Lc_addBytes 15 = .ok (.iload_n 1, 1) := by decide +kernel
theorem d_Lc_addBytes_16 : decode c_Lc_addBytes 16 = .ok (.if_icmp .ge 20, 3) := by decide +kernel
theorem d_Lc_addBytes_19 : decode c_Lc_addBytes 19 = .ok (.aload_n 0, 1) := by decide +kernel
theorem d_Lc_addBytes_20 : decode c_Lc_addBytes 20 = .ok (.lload_n 2, 1) := by decide +kernel
theorem d_Lc_addBytes_21 : decode c_Lc_addBytes 21 = .ok (.iload 4, 2) := by decide +kernel
theorem d_Lc_addBytes_23 : decode c_Lc_addBytes 23 = .ok (.invokestatic 45, 3) := by decide +kernel
theorem d_Lc_addBytes_26 : decode c_Lc_addBytes 26 = .ok (.invokevirtual 159, 3) := by decide +kernel
theorem d_Lc_addBytes_29 : decode c_Lc_addBytes 29 = .ok (.pop, 1) := by decide +kernel
theorem d_Lc_addBytes_30 : decode c_Lc_addBytes 30 = .ok (.iinc 4 1, 3) := by decide +kernel
theorem d_Lc_addBytes_33 : decode c_Lc_addBytes 33 = .ok (.goto (-20), 3) := by decide +kernel
theorem d_Lc_addBytes_36 : decode c_Lc_addBytes 36 = .ok (.aload_n 0, 1) := by decide +kernel
theorem d_Lc_addBytes_37 : decode c_Lc_addBytes 37 = .ok (.invokevirtual 69, 3) := by decide +kernel
theorem d_Lc_addBytes_40 : decode c_Lc_addBytes 40 = .ok (.ireturn, 1) := by decide +kernel
theorem d_Lc_addWidths_0 : decode c_Lc_addWidths 0 = .ok (.ldc 162, 2) := by decide +kernel
theorem d_Lc_addWidths_2 : decode c_Lc_addWidths 2 = .ok (.istore_n 3, 1) := by decide +kernel
theorem d_Lc_addWidths_3 : decode c_Lc_addWidths 3 = .ok (.iload_n 3, 1) := by decide +kernel
theorem d_Lc_addWidths_4 : decode c_Lc_addWidths 4 = .ok (.ifCond .le 32, 3) := by decide +kernel
theorem d_Lc_addWidths_7 : decode c_Lc_addWidths 7 = .ok (.iload_n 1, 1) := by decide +kernel
theorem d_Lc_addWidths_8 : decode c_Lc_addWidths 8 = .ok (.iload_n 3, 1) := by decide +kernel
theorem d_Lc_addWidths_9 : decode c_Lc_addWidths 9 = .ok (.if_icmp .lt 19, 3) := by decide +kernel
theorem d_Lc_addWidths_12 : decode c_Lc_addWidths 12 = .ok (.aload_n 0, 1) := by decide +kernel
theorem d_Lc_addWidths_13 : decode c_Lc_addWidths 13 = .ok (.getfield 21, 3) := by decide +kernel
theorem d_Lc_addWidths_16 : decode c_Lc_addWidths 16 = .ok (.iload_n 1, 1) := by decide +kernel
theorem d_Lc_addWidths_17 : decode c_Lc_addWidths 17 = .ok (.iload_n 3, 1) := by decide +kernel
theorem d_Lc_addWidths_18 : decode c_Lc_addWidths 18 = .ok (.idiv, 1) := by decide +kernel
theorem d_Lc_addWidths_19 : decode c_Lc_addWidths 19 = .ok (.bipush 10, 2) := by decide +kernel
theorem d_Lc_addWidths_21 : decode c_Lc_addWidths 21 = .ok (.irem, 1) := by decide +kernel
theorem d_Lc_addWidths_22 : decode c_Lc_addWidths 22 = .ok (.iload_n 2, 1) := by decide +kernel
theorem d_Lc_addWidths_23 : decode c_Lc_addWidths 23 = .ok (.imul, 1) := by decide +kernel
theorem d_Lc_addWidths_24 : decode c_Lc_addWidths 24 = .ok (.invokevirtual 159, 3) := by decide +kernel
theorem d_Lc_addWidths_27 : decode c_Lc_addWidths 27 = .ok (.pop, 1) := by decide +kernel
theorem d_Lc_addWidths_28 : decode c_Lc_addWidths 28 = .ok (.iload_n 3, 1) := by decide +kernel
theorem d_Lc_addWidths_29 : decode c_Lc_addWidths 29 = .ok (.bipush 10, 2) := by decide +kernel
theorem d_Lc_addWidths_31 : decode c_Lc_addWidths 31 = .ok (.idiv, 1) := by decide +kernel
theorem d_Lc_addWidths_32 : decode c_Lc_addWidths 32 = .ok (.istore_n 3, 1) := by decide +kernel
theorem d_Lc_addWidths_33 : decode c_Lc_addWidths 33 = .ok (.goto (-30), 3) := by decide +kernel
theorem d_Lc_addWidths_36 : decode c_Lc_addWidths 36 = .ok (.return_, 1) := by decide +kernel
end
section
-- LineCodes.byteOf(JI)I
def w_Lc_byteOf (post : Int32 → Prop) (x0 : Int64) (x2 : Int32) : Prop := post (((x0.toUInt64 >>> ((8 * x2).toInt64.toUInt64 &&& Int64.toUInt64 63)).toInt64 &&& 255).toInt32)
abbrev rm_Lc_byteOf : Room := { frames := 0, cells := 0, slots := 0, locals := 0 }
set_option maxHeartbeats 4000000 in
set_option maxRecDepth 100000 in
theorem met_Lc_byteOf (l : Launch) (D : va_G) (Z : (Nat → Prop) → State → Heap → Prop) (hz : zk Z) (ad : Nat → Nat) (hk : zs Z ad) (x0 : Int64) (x2 : Int32) {post : Int32 → Prop} (hw : w_Lc_byteOf post x0 x2) : Met l y_Lc_byteOf ws_Lc_byteOf rm_Lc_byteOf (va_Pc [.long x0, .int x2] (ro_ D vwCl [] [] (Z))) (vp_Si post) 0 0 (fun _ => False) := by
  refine Met.ofW (cc := c_Lc_byteOf) (maxL := 3) (ret := (some .int)) (by decide) rfl ?_
  intro p e s m args below meth c s₁ B hml hv
  obtain ⟨rfl, hP, hK, hZ⟩ := hv
  have hx := B.exec
  have hb := B.bytes
  have hr := B.returns
  have hts0 := atoms_spec (ws := ws_Lc_byteOf) B.pre
  have hts := fun (w : Cond) (h : w ∈ tb) => hts0 w (List.mem_cons_of_mem _ h)
  have hown : s.vm.findClass R_Lc = some m.cls := findClass_of_methodNamed B.named
  have hlocks := B.notSynchronized
  have hS : va_S (fun _ => False) s.heap s.heap [] := va_S.rf
  have hl := lv_entry ([.long x0, .int x2]) (n := 3) (Nat.le_of_ble_eq_true rfl)
  rw [lg_entry_eq]
  generalize (lg_sl ([.long x0, .int x2]) ++ List.replicate (3 - (lg_sl ([.long x0, .int x2])).length) Slot.unset).toArray = ls at hl ⊢
  have hl : lv_has ls 3 [(0, .long x0), (2, .int x2)] := hl
  unfold w_Lc_byteOf at hw
  refine lv_lload_n hx hb d_Lc_byteOf_0 rfl (lv_at hl 0 rfl) ?_
  refine lv_bipush (v := 8) hx hb d_Lc_byteOf_1 (by decide) ?_
  refine lv_iload_n hx hb d_Lc_byteOf_3 rfl (lv_at hl 1 rfl) ?_
  refine lv_imul hx hb d_Lc_byteOf_4 ?_
  refine lv_lushr hx hb d_Lc_byteOf_5 rfl ?_
  refine lv_ldc2 (v := 255) hx hb hown (hts _ mm_449) d_Lc_byteOf_6 ?_
  refine lv_land hx hb d_Lc_byteOf_9 ?_
  refine lv_l2i hx hb d_Lc_byteOf_10 rfl ?_
  exact W.iret (v := ((x0.toUInt64 >>> ((8 * x2).toInt64.toUInt64 &&& Int64.toUInt64 63)).toInt64 &&& 255).toInt32) hx hb hr (fun t ht hW => ⟨((x0.toUInt64 >>> ((8 * x2).toInt64.toUInt64 &&& Int64.toUInt64 63)).toInt64 &&& 255).toInt32, rfl, hw, ht⟩) hS.2.2 d_Lc_byteOf_11
-- LineCodes.addBytes(LLineCodes$Items;IJ)I
def w_Lc_addBytes_13 (post : Int32 → Int32 → (Nat → Int32) → Prop) (n_p0_items : Nat) (x1 : Int32) (x2 : Int64) : Nat → Int32 → (Nat → Int32) → Int32 → Prop
  | 0, _, _, _ => False
  | n + 1, v_p0_count, f_p0_items, y4 => (x1 ≤ y4 → w_It_count (fun r4 => post r4 v_p0_count f_p0_items) v_p0_count) ∧ (¬ x1 ≤ y4 → w_Lc_byteOf (fun r5 => w_It_add (fun r6 s7 s8 => w_Lc_addBytes_13 post n_p0_items x1 x2 n s7 s8 (y4 + 1)) n_p0_items v_p0_count f_p0_items r5) x2 y4)
def w_Lc_addBytes (post : Int32 → Int32 → (Nat → Int32) → Prop) (n_p0_items : Nat) (v_p0_count : Int32) (f_p0_items : Nat → Int32) (x1 : Int32) (x2 : Int64) : Prop := w_It_hasRoomFor (fun r1 => (¬ r1 = 0 → ∃ n, w_Lc_addBytes_13 post n_p0_items x1 x2 n v_p0_count f_p0_items 0) ∧ (r1 = 0 → post (-1) v_p0_count f_p0_items)) n_p0_items v_p0_count x1
abbrev rm_Lc_addBytes : Room := { frames := 1, cells := 0, slots := 0, locals := 22 }
set_option maxHeartbeats 4000000 in
set_option maxRecDepth 100000 in
theorem lp_Lc_addBytes_13 (l : Launch) (D : va_G) (Z : (Nat → Prop) → State → Heap → Prop) (hz : zk Z) (ad : Nat → Nat) (hk : zs Z ad) {p : Program} {e : Env} {s : State} {m : MethodId} {args : Array Value} {below : List Frame} {meth : Method} {c : Code} {A : Nat → Prop} (a_p0 : Nat) (a_p0_items : Nat) (k_p0_items : ClassId) (n_p0_items : Nat) (x1 : Int32) (x2 : Int64) {post : Int32 → Int32 → (Nat → Int32) → Prop} (hx : p.tables.exec = Jvm.exec) (hb : c.code = c_Lc_addBytes) (hml : c.maxLocals = 5) (hr : meth.sig.returnType = (some .int)) (hts : ∀ w ∈ tb, w.before args s = true) (hown : s.vm.findClass R_Lc = some m.cls) (hlocks : meth.locks = false) (hK : va_K D vwCl [(k_p0_items, .int)] s) (hZ : Z A s s.heap) (hA : ∀ q, s.heap.size ≤ q → A q) : ∀ (n : Nat) (v_p0_count : Int32) (f_p0_items : Nat → Int32) (y4 : Int32), w_Lc_addBytes_13 post n_p0_items x1 x2 n v_p0_count f_p0_items y4 → ∀ (H : Heap) (locs : List Loc), va_P D vwCl [(a_p0, .inr (0, [.ref a_p0_items, .int v_p0_count])), (a_p0_items, .inl (k_p0_items, n_p0_items, .inl f_p0_items))] H → va_D A [(a_p0, .inr (0, [.ref a_p0_items, .int v_p0_count])), (a_p0_items, .inl (k_p0_items, n_p0_items, .inl f_p0_items))] → va_S A s.heap H locs → ∀ ls : Array Slot, lv_has ls 5 [(0, .ref a_p0), (1, .int x1), (2, .long x2), (4, .int y4)] → W p l e (headSpec ws_Lc_addBytes rm_Lc_addBytes).room s m args below meth c H locs 0 0 (MQ below (va_Qi (fun (r : Int32) (u : Int32 × (Nat → Int32)) => post r u.1 u.2) (fun u t => at_ D vwCl [(k_p0_items, .int)] A [(a_p0, .inr (0, [.ref a_p0_items, .int u.1])), (a_p0_items, .inl (k_p0_items, n_p0_items, .inl u.2))] t) A) args s 0 0 A) (F0 m 13 ls []) := by
  intro n
  induction n with
  | zero =>
    intro v_p0_count f_p0_items y4 hw
    unfold w_Lc_addBytes_13 at hw
    exact hw.elim
  | succ n ih =>
    intro v_p0_count f_p0_items y4 hw H locs hP hD hS ls hl
    unfold w_Lc_addBytes_13 at hw
    refine lv_iload hx hb d_Lc_addBytes_13 (lv_at hl 3 rfl) ?_
    refine lv_iload_n hx hb d_Lc_addBytes_15 rfl (lv_at hl 1 rfl) ?_
    refine lv_icmp_ge (tgt := 36) hx hb d_Lc_addBytes_16 (by decide) (fun c3 => ?_) (fun c3 => ?_)
    · have hw := hw.1 c3
      refine lv_aload_n hx hb d_Lc_addBytes_36 rfl (lv_at hl 0 rfl) ?_
      refine k_roVi (As := []) (rest := []) hz [0, 1] [0] 0 0 ⟨hx, hb, hml, hown, hts⟩ (met_It_count l D Z hz ad hk a_p0 a_p0_items k_p0_items n_p0_items v_p0_count f_p0_items hw) (cwV 0 hts (g_V mm_224 mm_154 mm_155 mm_42 mm_156) rfl rfl rfl hd_It_count ⟨Nat.le_of_ble_eq_true rfl, Nat.le_of_ble_eq_true rfl⟩) hP hK hZ hS rfl rfl rfl rfl rfl hl.1 rfl (Nat.le_of_ble_eq_true rfl) d_Lc_addBytes_37 ⟨Nat.le_of_ble_eq_true rfl, Nat.le_of_ble_eq_true rfl⟩ (fun r4 hw => ?_)
      have hP9 := hP.sub (ws' := [(a_p0, .inr (0, [.ref a_p0_items, .int v_p0_count])), (a_p0_items, .inl (k_p0_items, n_p0_items, .inl f_p0_items))]) [0, 1] rfl
      have hD9 := hD.sub (ws' := [(a_p0, .inr (0, [.ref a_p0_items, .int v_p0_count])), (a_p0_items, .inl (k_p0_items, n_p0_items, .inl f_p0_items))]) [0, 1] (by decide) rfl
      exact W.iret (v := r4) hx hb hr (fun t ht hW => ⟨⟨r4, (v_p0_count, f_p0_items), rfl, hw, by rw [ht]; exact hP9, va_K.moved hW.alike hK, hD9⟩, hS.F ht⟩) hS.2.2 d_Lc_addBytes_40
    · have hw := hw.2 c3
      refine lv_aload_n hx hb d_Lc_addBytes_19 rfl (lv_at hl 0 rfl) ?_
      refine lv_lload_n hx hb d_Lc_addBytes_20 rfl (lv_at hl 2 rfl) ?_
      refine lv_iload hx hb d_Lc_addBytes_21 (lv_at hl 3 rfl) ?_
      refine k_roSi (As := [.long x2, .int y4]) (rest := [.ref a_p0]) hz [] [] ⟨hx, hb, hml, hown, hts⟩ (met_Lc_byteOf l D Z hz ad hk x2 y4 hw) (va_cwS 2 hts (g_S mm_446 mm_447 mm_41 mm_448) rfl rfl rfl hd_Lc_byteOf.2 ⟨Nat.le_of_ble_eq_true rfl, Nat.le_of_ble_eq_true rfl⟩) hP hK hZ hS rfl rfl rfl hl.1 rfl (Nat.le_of_ble_eq_true rfl) d_Lc_addBytes_23 ⟨Nat.le_of_ble_eq_true rfl, Nat.le_of_ble_eq_true rfl⟩ (fun r5 hw => ?_)
      refine k_rwVi (As := [.int r5]) (rest := []) (wr := []) hz [0, 1] [] [0] 0 0 ⟨hx, hb, hml, hown, hts⟩ (met_It_add l D Z hz ad hk a_p0 a_p0_items k_p0_items n_p0_items v_p0_count f_p0_items r5 _ hw) (cwV 1 hts (g_V mm_458 mm_203 mm_204 mm_42 mm_205) rfl rfl rfl hd_It_add ⟨Nat.le_of_ble_eq_true rfl, Nat.le_of_ble_eq_true rfl⟩) hP hD hK hZ hS hA rfl rfl rfl rfl rfl (by decide) rfl rfl rfl rfl hl.1 rfl (Nat.le_of_ble_eq_true rfl) d_Lc_addBytes_26 ⟨Nat.le_of_ble_eq_true rfl, Nat.le_of_ble_eq_true rfl⟩ (fun r6 u9 H locs hw hP hD hS => ?_)
      obtain ⟨s7, s8⟩ := u9
      try dsimp only at hw
      have hP : va_P D vwCl [(a_p0, .inr (0, [.ref a_p0_items, .int s7])), (a_p0_items, .inl (k_p0_items, n_p0_items, .inl s8))] H := hP
      have hD : va_D A [(a_p0, .inr (0, [.ref a_p0_items, .int s7])), (a_p0_items, .inl (k_p0_items, n_p0_items, .inl s8))] := hD
      refine lv_pop hx hb d_Lc_addBytes_29 rfl ?_
      refine lv_iinc (v := (y4 + 1)) (lv' := [(4, .int (y4 + 1)), (0, .ref a_p0), (1, .int x1), (2, .long x2)]) hx hb d_Lc_addBytes_30 hl (k := 3) rfl rfl (by decide) rfl (fun ls hl => ?_)
      refine lv_goto (tgt := 13) hx hb d_Lc_addBytes_33 (by decide) ?_
      exact ih s7 s8 (y4 + 1) hw _ _ (hP.sub [0, 1] rfl) (hD.sub [0, 1] (by decide) rfl) hS ls (lv_sub hl [1, 2, 3, 0] rfl)
set_option maxHeartbeats 4000000 in
set_option maxRecDepth 100000 in
theorem met_Lc_addBytes (l : Launch) (D : va_G) (Z : (Nat → Prop) → State → Heap → Prop) (hz : zk Z) (ad : Nat → Nat) (hk : zs Z ad) (a_p0 : Nat) (a_p0_items : Nat) (k_p0_items : ClassId) (n_p0_items : Nat) (v_p0_count : Int32) (f_p0_items : Nat → Int32) (x1 : Int32) (x2 : Int64) (sz : Nat) {post : Int32 → Int32 → (Nat → Int32) → Prop} (hw : w_Lc_addBytes post n_p0_items v_p0_count f_p0_items x1 x2) : Met l y_Lc_addBytes ws_Lc_addBytes rm_Lc_addBytes (va_Pc [.ref a_p0, .int x1, .long x2] (rw_ D vwCl [(k_p0_items, .int)] [(a_p0, .inr (0, [.ref a_p0_items, .int v_p0_count])), (a_p0_items, .inl (k_p0_items, n_p0_items, .inl f_p0_items))] (Z) sz)) (va_Qi (fun (r : Int32) (u : Int32 × (Nat → Int32)) => post r u.1 u.2) (fun u t => at_ D vwCl [(k_p0_items, .int)] (va_A [(a_p0, .inr (0, [.ref a_p0_items, .int v_p0_count])), (a_p0_items, .inl (k_p0_items, n_p0_items, .inl f_p0_items))] sz) [(a_p0, .inr (0, [.ref a_p0_items, .int u.1])), (a_p0_items, .inl (k_p0_items, n_p0_items, .inl u.2))] t) (va_A [(a_p0, .inr (0, [.ref a_p0_items, .int v_p0_count])), (a_p0_items, .inl (k_p0_items, n_p0_items, .inl f_p0_items))] sz)) 0 0 (va_A [(a_p0, .inr (0, [.ref a_p0_items, .int v_p0_count])), (a_p0_items, .inl (k_p0_items, n_p0_items, .inl f_p0_items))] sz) := by
  refine Met.ofW (cc := c_Lc_addBytes) (maxL := 5) (ret := (some .int)) (by decide) rfl ?_
  intro p e s m args below meth c s₁ B hml hv
  obtain ⟨rfl, hsz, hP, hK, hD0, hZ⟩ := hv
  have hx := B.exec
  have hb := B.bytes
  have hr := B.returns
  have hts0 := atoms_spec (ws := ws_Lc_addBytes) B.pre
  have hts := fun (w : Cond) (h : w ∈ tb) => hts0 w (List.mem_cons_of_mem _ h)
  have hown : s.vm.findClass R_Lc = some m.cls := findClass_of_methodNamed B.named
  have hlocks := B.notSynchronized
  subst hsz
  have hD := hD0.self (sz := s.heap.size)
  generalize hAe : va_A [(a_p0, .inr (0, [.ref a_p0_items, .int v_p0_count])), (a_p0_items, .inl (k_p0_items, n_p0_items, .inl f_p0_items))] s.heap.size = A at hD hZ ⊢
  have hA : ∀ q : Nat, s.heap.size ≤ q → A q := fun q h => by rw [← hAe]; exact Or.inr h
  have hS : va_S A s.heap s.heap [] := va_S.rf
  have hl := lv_entry ([.ref a_p0, .int x1, .long x2]) (n := 5) (Nat.le_of_ble_eq_true rfl)
  rw [lg_entry_eq]
  generalize (lg_sl ([.ref a_p0, .int x1, .long x2]) ++ List.replicate (5 - (lg_sl ([.ref a_p0, .int x1, .long x2])).length) Slot.unset).toArray = ls at hl ⊢
  have hl : lv_has ls 5 [(0, .ref a_p0), (1, .int x1), (2, .long x2)] := hl
  unfold w_Lc_addBytes at hw
  refine lv_aload_n hx hb d_Lc_addBytes_0 rfl (lv_at hl 0 rfl) ?_
  refine lv_iload_n hx hb d_Lc_addBytes_1 rfl (lv_at hl 1 rfl) ?_
  refine k_roVi (As := [.int x1]) (rest := []) hz [0, 1] [0] 0 0 ⟨hx, hb, hml, hown, hts⟩ (met_It_hasRoomFor l D Z hz ad hk a_p0 a_p0_items k_p0_items n_p0_items v_p0_count f_p0_items x1 hw) (cwV 1 hts (g_V mm_454 mm_455 mm_456 mm_42 mm_457) rfl rfl rfl hd_It_hasRoomFor ⟨Nat.le_of_ble_eq_true rfl, Nat.le_of_ble_eq_true rfl⟩) hP hK hZ hS rfl rfl rfl rfl rfl hl.1 rfl (Nat.le_of_ble_eq_true rfl) d_Lc_addBytes_2 ⟨Nat.le_of_ble_eq_true rfl, Nat.le_of_ble_eq_true rfl⟩ (fun r1 hw => ?_)
  refine lv_if_ne (tgt := 10) hx hb d_Lc_addBytes_5 (by decide) (fun c2 => ?_) (fun c2 => ?_)
  · have hw := hw.1 c2
    refine lv_iconst (v := 0) hx hb d_Lc_addBytes_10 (by decide) ?_
    refine lv_istore (lv' := [(4, .int 0), (0, .ref a_p0), (1, .int x1), (2, .long x2)]) hx hb d_Lc_addBytes_11 hl (by decide) rfl (fun ls hl => ?_)
    obtain ⟨n9, hw⟩ := hw
    exact lp_Lc_addBytes_13 l D Z hz ad hk a_p0 a_p0_items k_p0_items n_p0_items x1 x2 hx hb hml hr hts hown hlocks hK hZ hA n9 v_p0_count f_p0_items 0 hw _ _ (hP.sub [0, 1] rfl) (hD.sub [0, 1] (by decide) rfl) hS ls (lv_sub hl [1, 2, 3, 0] rfl)
  · have hw := hw.2 c2
    refine lv_iconst (v := (-1)) hx hb d_Lc_addBytes_8 (by decide) ?_
    have hP9 := hP.sub (ws' := [(a_p0, .inr (0, [.ref a_p0_items, .int v_p0_count])), (a_p0_items, .inl (k_p0_items, n_p0_items, .inl f_p0_items))]) [0, 1] rfl
    have hD9 := hD.sub (ws' := [(a_p0, .inr (0, [.ref a_p0_items, .int v_p0_count])), (a_p0_items, .inl (k_p0_items, n_p0_items, .inl f_p0_items))]) [0, 1] (by decide) rfl
    exact W.iret (v := (-1)) hx hb hr (fun t ht hW => ⟨⟨(-1), (v_p0_count, f_p0_items), rfl, hw, by rw [ht]; exact hP9, va_K.moved hW.alike hK, hD9⟩, hS.F ht⟩) hS.2.2 d_Lc_addBytes_9
-- LineCodes.wipe()I
def w_Lc_wipe (post : Int32 → Int32 → Prop) (v_text_count : Int32) : Prop := w_It_empty (fun r1 s2 => post r1 s2) v_text_count
abbrev rm_Lc_wipe : Room := { frames := 1, cells := 0, slots := 0, locals := 21 }
set_option maxHeartbeats 4000000 in
set_option maxRecDepth 100000 in
theorem met_Lc_wipe (l : Launch) (D : va_G) (Z : (Nat → Prop) → State → Heap → Prop) (hz : zk Z) (ad : Nat → Nat) (hk : zs Z ad) (a_this : Nat) (a_text : Nat) (a_text_items : Nat) (a_row : Nat) (a_row_items : Nat) (a_strip : Nat) (a_strip_items : Nat) (a_packer : Nat) (a_packer_costs : Nat) (a_reader : Nat) (a_reader_told : Nat) (a_reader_told_items : Nat) (k_text_items : ClassId) (k_row_items : ClassId) (k_strip_items : ClassId) (k_packer_costs : ClassId) (k_reader_told_items : ClassId) (v_text_count : Int32) (f_text_items : Nat → Int32) (v_row_count : Int32) (f_row_items : Nat → Int32) (v_strip_count : Int32) (f_strip_items : Nat → Int32) (f_packer_costs : Nat → Int32) (v_reader_fromBack : Int32) (v_reader_set : Int32) (v_reader_shifted : Int32) (v_reader_told_count : Int32) (f_reader_told_items : Nat → Int32) (sz : Nat) {post : Int32 → Int32 → Prop} (hw : w_Lc_wipe post v_text_count) : Met l y_Lc_wipe ws_Lc_wipe rm_Lc_wipe (va_Pc [.ref a_this] (rw_ D vwCl [(k_text_items, .int), (k_row_items, .int), (k_strip_items, .int), (k_packer_costs, .int), (k_reader_told_items, .int)] [(a_this, .inr (3, [.ref a_text, .ref a_row, .ref a_strip, .ref a_packer, .ref a_reader])), (a_text, .inr (0, [.ref a_text_items, .int v_text_count])), (a_text_items, .inl (k_text_items, 64, .inl f_text_items)), (a_row, .inr (0, [.ref a_row_items, .int v_row_count])), (a_row_items, .inl (k_row_items, 99, .inl f_row_items)), (a_strip, .inr (0, [.ref a_strip_items, .int v_strip_count])), (a_strip_items, .inl (k_strip_items, 800, .inl f_strip_items)), (a_packer, .inr (1, [.ref a_text, .ref a_row, .ref a_packer_costs])), (a_packer_costs, .inl (k_packer_costs, 195, .inl f_packer_costs)), (a_reader, .inr (2, [.ref a_strip, .ref a_reader_told, .int v_reader_fromBack, .int v_reader_set, .int v_reader_shifted])), (a_reader_told, .inr (0, [.ref a_reader_told_items, .int v_reader_told_count])), (a_reader_told_items, .inl (k_reader_told_items, 260, .inl f_reader_told_items))] (Z) sz)) (va_Qi (fun (r : Int32) (u : Int32) => post r u) (fun u t => at_ D vwCl [(k_text_items, .int), (k_row_items, .int), (k_strip_items, .int), (k_packer_costs, .int), (k_reader_told_items, .int)] (va_A [(a_this, .inr (3, [.ref a_text, .ref a_row, .ref a_strip, .ref a_packer, .ref a_reader])), (a_text, .inr (0, [.ref a_text_items, .int v_text_count])), (a_text_items, .inl (k_text_items, 64, .inl f_text_items)), (a_row, .inr (0, [.ref a_row_items, .int v_row_count])), (a_row_items, .inl (k_row_items, 99, .inl f_row_items)), (a_strip, .inr (0, [.ref a_strip_items, .int v_strip_count])), (a_strip_items, .inl (k_strip_items, 800, .inl f_strip_items)), (a_packer, .inr (1, [.ref a_text, .ref a_row, .ref a_packer_costs])), (a_packer_costs, .inl (k_packer_costs, 195, .inl f_packer_costs)), (a_reader, .inr (2, [.ref a_strip, .ref a_reader_told, .int v_reader_fromBack, .int v_reader_set, .int v_reader_shifted])), (a_reader_told, .inr (0, [.ref a_reader_told_items, .int v_reader_told_count])), (a_reader_told_items, .inl (k_reader_told_items, 260, .inl f_reader_told_items))] sz) [(a_this, .inr (3, [.ref a_text, .ref a_row, .ref a_strip, .ref a_packer, .ref a_reader])), (a_text, .inr (0, [.ref a_text_items, .int u])), (a_text_items, .inl (k_text_items, 64, .inl f_text_items)), (a_row, .inr (0, [.ref a_row_items, .int v_row_count])), (a_row_items, .inl (k_row_items, 99, .inl f_row_items)), (a_strip, .inr (0, [.ref a_strip_items, .int v_strip_count])), (a_strip_items, .inl (k_strip_items, 800, .inl f_strip_items)), (a_packer, .inr (1, [.ref a_text, .ref a_row, .ref a_packer_costs])), (a_packer_costs, .inl (k_packer_costs, 195, .inl f_packer_costs)), (a_reader, .inr (2, [.ref a_strip, .ref a_reader_told, .int v_reader_fromBack, .int v_reader_set, .int v_reader_shifted])), (a_reader_told, .inr (0, [.ref a_reader_told_items, .int v_reader_told_count])), (a_reader_told_items, .inl (k_reader_told_items, 260, .inl f_reader_told_items))] t) (va_A [(a_this, .inr (3, [.ref a_text, .ref a_row, .ref a_strip, .ref a_packer, .ref a_reader])), (a_text, .inr (0, [.ref a_text_items, .int v_text_count])), (a_text_items, .inl (k_text_items, 64, .inl f_text_items)), (a_row, .inr (0, [.ref a_row_items, .int v_row_count])), (a_row_items, .inl (k_row_items, 99, .inl f_row_items)), (a_strip, .inr (0, [.ref a_strip_items, .int v_strip_count])), (a_strip_items, .inl (k_strip_items, 800, .inl f_strip_items)), (a_packer, .inr (1, [.ref a_text, .ref a_row, .ref a_packer_costs])), (a_packer_costs, .inl (k_packer_costs, 195, .inl f_packer_costs)), (a_reader, .inr (2, [.ref a_strip, .ref a_reader_told, .int v_reader_fromBack, .int v_reader_set, .int v_reader_shifted])), (a_reader_told, .inr (0, [.ref a_reader_told_items, .int v_reader_told_count])), (a_reader_told_items, .inl (k_reader_told_items, 260, .inl f_reader_told_items))] sz)) 0 0 (va_A [(a_this, .inr (3, [.ref a_text, .ref a_row, .ref a_strip, .ref a_packer, .ref a_reader])), (a_text, .inr (0, [.ref a_text_items, .int v_text_count])), (a_text_items, .inl (k_text_items, 64, .inl f_text_items)), (a_row, .inr (0, [.ref a_row_items, .int v_row_count])), (a_row_items, .inl (k_row_items, 99, .inl f_row_items)), (a_strip, .inr (0, [.ref a_strip_items, .int v_strip_count])), (a_strip_items, .inl (k_strip_items, 800, .inl f_strip_items)), (a_packer, .inr (1, [.ref a_text, .ref a_row, .ref a_packer_costs])), (a_packer_costs, .inl (k_packer_costs, 195, .inl f_packer_costs)), (a_reader, .inr (2, [.ref a_strip, .ref a_reader_told, .int v_reader_fromBack, .int v_reader_set, .int v_reader_shifted])), (a_reader_told, .inr (0, [.ref a_reader_told_items, .int v_reader_told_count])), (a_reader_told_items, .inl (k_reader_told_items, 260, .inl f_reader_told_items))] sz) := by
  refine Met.ofW (cc := c_Lc_wipe) (maxL := 1) (ret := (some .int)) (by decide) rfl ?_
  intro p e s m args below meth c s₁ B hml hv
  obtain ⟨rfl, hsz, hP, hK, hD0, hZ⟩ := hv
  have hx := B.exec
  have hb := B.bytes
  have hr := B.returns
  have hts0 := atoms_spec (ws := ws_Lc_wipe) B.pre
  have hts := fun (w : Cond) (h : w ∈ tb) => hts0 w (List.mem_cons_of_mem _ h)
  have hown : s.vm.findClass R_Lc = some m.cls := findClass_of_methodNamed B.named
  have hlocks := B.notSynchronized
  subst hsz
  have hD := hD0.self (sz := s.heap.size)
  generalize hAe : va_A [(a_this, .inr (3, [.ref a_text, .ref a_row, .ref a_strip, .ref a_packer, .ref a_reader])), (a_text, .inr (0, [.ref a_text_items, .int v_text_count])), (a_text_items, .inl (k_text_items, 64, .inl f_text_items)), (a_row, .inr (0, [.ref a_row_items, .int v_row_count])), (a_row_items, .inl (k_row_items, 99, .inl f_row_items)), (a_strip, .inr (0, [.ref a_strip_items, .int v_strip_count])), (a_strip_items, .inl (k_strip_items, 800, .inl f_strip_items)), (a_packer, .inr (1, [.ref a_text, .ref a_row, .ref a_packer_costs])), (a_packer_costs, .inl (k_packer_costs, 195, .inl f_packer_costs)), (a_reader, .inr (2, [.ref a_strip, .ref a_reader_told, .int v_reader_fromBack, .int v_reader_set, .int v_reader_shifted])), (a_reader_told, .inr (0, [.ref a_reader_told_items, .int v_reader_told_count])), (a_reader_told_items, .inl (k_reader_told_items, 260, .inl f_reader_told_items))] s.heap.size = A at hD hZ ⊢
  have hA : ∀ q : Nat, s.heap.size ≤ q → A q := fun q h => by rw [← hAe]; exact Or.inr h
  have hS : va_S A s.heap s.heap [] := va_S.rf
  have hl := lv_entry ([.ref a_this]) (n := 1) (Nat.le_of_ble_eq_true rfl)
  rw [lg_entry_eq]
  generalize (lg_sl ([.ref a_this]) ++ List.replicate (1 - (lg_sl ([.ref a_this])).length) Slot.unset).toArray = ls at hl ⊢
  have hl : lv_has ls 1 [(0, .ref a_this)] := hl
  unfold w_Lc_wipe at hw
  refine lv_aload_n hx hb d_Lc_wipe_0 rfl (lv_at hl 0 rfl) ?_
  refine va_get (D := D) (ci := 3) (v := .ref a_text) (C := R_Lc) (T := T_Lc) (N := 5) hx hb hts in_Lc hown hK hP 0 rfl rfl 0 (by decide) (hts _ mm_121) (fun _ h9 => h9) rfl d_Lc_wipe_1 ?_
  refine k_rwVi (As := []) (rest := []) (wr := [(a_this, .inr (3, [.ref a_text, .ref a_row, .ref a_strip, .ref a_packer, .ref a_reader])), (a_row, .inr (0, [.ref a_row_items, .int v_row_count])), (a_row_items, .inl (k_row_items, 99, .inl f_row_items)), (a_strip, .inr (0, [.ref a_strip_items, .int v_strip_count])), (a_strip_items, .inl (k_strip_items, 800, .inl f_strip_items)), (a_packer, .inr (1, [.ref a_text, .ref a_row, .ref a_packer_costs])), (a_packer_costs, .inl (k_packer_costs, 195, .inl f_packer_costs)), (a_reader, .inr (2, [.ref a_strip, .ref a_reader_told, .int v_reader_fromBack, .int v_reader_set, .int v_reader_shifted])), (a_reader_told, .inr (0, [.ref a_reader_told_items, .int v_reader_told_count])), (a_reader_told_items, .inl (k_reader_told_items, 260, .inl f_reader_told_items))]) hz [1, 2] [0, 3, 4, 5, 6, 7, 8, 9, 10, 11] [0] 1 0 ⟨hx, hb, hml, hown, hts⟩ (met_It_empty l D Z hz ad hk a_text a_text_items k_text_items 64 v_text_count f_text_items _ hw) (cwV 0 hts (g_V mm_141 mm_142 mm_143 mm_42 mm_144) rfl rfl rfl hd_It_empty ⟨Nat.le_of_ble_eq_true rfl, Nat.le_of_ble_eq_true rfl⟩) hP hD hK hZ hS hA rfl rfl rfl rfl rfl (by decide) rfl rfl rfl rfl hl.1 rfl (Nat.le_of_ble_eq_true rfl) d_Lc_wipe_4 ⟨Nat.le_of_ble_eq_true rfl, Nat.le_of_ble_eq_true rfl⟩ (fun r1 s2 H locs hw hP hD hS => ?_)
  try dsimp only at hw
  have hP : va_P D vwCl [(a_this, .inr (3, [.ref a_text, .ref a_row, .ref a_strip, .ref a_packer, .ref a_reader])), (a_row, .inr (0, [.ref a_row_items, .int v_row_count])), (a_row_items, .inl (k_row_items, 99, .inl f_row_items)), (a_strip, .inr (0, [.ref a_strip_items, .int v_strip_count])), (a_strip_items, .inl (k_strip_items, 800, .inl f_strip_items)), (a_packer, .inr (1, [.ref a_text, .ref a_row, .ref a_packer_costs])), (a_packer_costs, .inl (k_packer_costs, 195, .inl f_packer_costs)), (a_reader, .inr (2, [.ref a_strip, .ref a_reader_told, .int v_reader_fromBack, .int v_reader_set, .int v_reader_shifted])), (a_reader_told, .inr (0, [.ref a_reader_told_items, .int v_reader_told_count])), (a_reader_told_items, .inl (k_reader_told_items, 260, .inl f_reader_told_items)), (a_text, .inr (0, [.ref a_text_items, .int s2])), (a_text_items, .inl (k_text_items, 64, .inl f_text_items))] H := hP
  have hD : va_D A [(a_this, .inr (3, [.ref a_text, .ref a_row, .ref a_strip, .ref a_packer, .ref a_reader])), (a_row, .inr (0, [.ref a_row_items, .int v_row_count])), (a_row_items, .inl (k_row_items, 99, .inl f_row_items)), (a_strip, .inr (0, [.ref a_strip_items, .int v_strip_count])), (a_strip_items, .inl (k_strip_items, 800, .inl f_strip_items)), (a_packer, .inr (1, [.ref a_text, .ref a_row, .ref a_packer_costs])), (a_packer_costs, .inl (k_packer_costs, 195, .inl f_packer_costs)), (a_reader, .inr (2, [.ref a_strip, .ref a_reader_told, .int v_reader_fromBack, .int v_reader_set, .int v_reader_shifted])), (a_reader_told, .inr (0, [.ref a_reader_told_items, .int v_reader_told_count])), (a_reader_told_items, .inl (k_reader_told_items, 260, .inl f_reader_told_items)), (a_text, .inr (0, [.ref a_text_items, .int s2])), (a_text_items, .inl (k_text_items, 64, .inl f_text_items))] := hD
  have hP9 := hP.sub (ws' := [(a_this, .inr (3, [.ref a_text, .ref a_row, .ref a_strip, .ref a_packer, .ref a_reader])), (a_text, .inr (0, [.ref a_text_items, .int s2])), (a_text_items, .inl (k_text_items, 64, .inl f_text_items)), (a_row, .inr (0, [.ref a_row_items, .int v_row_count])), (a_row_items, .inl (k_row_items, 99, .inl f_row_items)), (a_strip, .inr (0, [.ref a_strip_items, .int v_strip_count])), (a_strip_items, .inl (k_strip_items, 800, .inl f_strip_items)), (a_packer, .inr (1, [.ref a_text, .ref a_row, .ref a_packer_costs])), (a_packer_costs, .inl (k_packer_costs, 195, .inl f_packer_costs)), (a_reader, .inr (2, [.ref a_strip, .ref a_reader_told, .int v_reader_fromBack, .int v_reader_set, .int v_reader_shifted])), (a_reader_told, .inr (0, [.ref a_reader_told_items, .int v_reader_told_count])), (a_reader_told_items, .inl (k_reader_told_items, 260, .inl f_reader_told_items))]) [0, 10, 11, 1, 2, 3, 4, 5, 6, 7, 8, 9] rfl
  have hD9 := hD.sub (ws' := [(a_this, .inr (3, [.ref a_text, .ref a_row, .ref a_strip, .ref a_packer, .ref a_reader])), (a_text, .inr (0, [.ref a_text_items, .int s2])), (a_text_items, .inl (k_text_items, 64, .inl f_text_items)), (a_row, .inr (0, [.ref a_row_items, .int v_row_count])), (a_row_items, .inl (k_row_items, 99, .inl f_row_items)), (a_strip, .inr (0, [.ref a_strip_items, .int v_strip_count])), (a_strip_items, .inl (k_strip_items, 800, .inl f_strip_items)), (a_packer, .inr (1, [.ref a_text, .ref a_row, .ref a_packer_costs])), (a_packer_costs, .inl (k_packer_costs, 195, .inl f_packer_costs)), (a_reader, .inr (2, [.ref a_strip, .ref a_reader_told, .int v_reader_fromBack, .int v_reader_set, .int v_reader_shifted])), (a_reader_told, .inr (0, [.ref a_reader_told_items, .int v_reader_told_count])), (a_reader_told_items, .inl (k_reader_told_items, 260, .inl f_reader_told_items))]) [0, 10, 11, 1, 2, 3, 4, 5, 6, 7, 8, 9] (by decide) rfl
  exact W.iret (v := r1) hx hb hr (fun t ht hW => ⟨⟨r1, s2, rfl, hw, by rw [ht]; exact hP9, va_K.moved hW.alike hK, hD9⟩, hS.F ht⟩) hS.2.2 d_Lc_wipe_7
-- LineCodes.pack()I
def w_Lc_pack (post : Int32 → Int32 → (Nat → Int32) → (Nat → Int32) → Prop) (v_text_count : Int32) (f_text_items : Nat → Int32) (v_row_count : Int32) (f_row_items : Nat → Int32) (f_packer_costs : Nat → Int32) : Prop := w_Pa_makeRow (fun s1 s2 s3 => w_It_count (fun r4 => post r4 s1 s2 s3) s1) v_text_count f_text_items v_row_count f_row_items f_packer_costs
abbrev rm_Lc_pack : Room := { frames := 6, cells := 0, slots := 0, locals := 134 }
set_option maxHeartbeats 4000000 in
set_option maxRecDepth 100000 in
theorem met_Lc_pack (l : Launch) (D : va_G) (Z : (Nat → Prop) → State → Heap → Prop) (hz : zk Z) (ad : Nat → Nat) (hk : zs Z ad) (a_this : Nat) (a_text : Nat) (a_text_items : Nat) (a_row : Nat) (a_row_items : Nat) (a_strip : Nat) (a_strip_items : Nat) (a_packer : Nat) (a_packer_costs : Nat) (a_reader : Nat) (a_reader_told : Nat) (a_reader_told_items : Nat) (k_text_items : ClassId) (k_row_items : ClassId) (k_strip_items : ClassId) (k_packer_costs : ClassId) (k_reader_told_items : ClassId) (v_text_count : Int32) (f_text_items : Nat → Int32) (v_row_count : Int32) (f_row_items : Nat → Int32) (v_strip_count : Int32) (f_strip_items : Nat → Int32) (f_packer_costs : Nat → Int32) (v_reader_fromBack : Int32) (v_reader_set : Int32) (v_reader_shifted : Int32) (v_reader_told_count : Int32) (f_reader_told_items : Nat → Int32) (sz : Nat) {post : Int32 → Int32 → (Nat → Int32) → (Nat → Int32) → Prop} (hw : w_Lc_pack post v_text_count f_text_items v_row_count f_row_items f_packer_costs) : Met l y_Lc_pack ws_Lc_pack rm_Lc_pack (va_Pc [.ref a_this] (rw_ D vwCl [(k_text_items, .int), (k_row_items, .int), (k_strip_items, .int), (k_packer_costs, .int), (k_reader_told_items, .int)] [(a_this, .inr (3, [.ref a_text, .ref a_row, .ref a_strip, .ref a_packer, .ref a_reader])), (a_text, .inr (0, [.ref a_text_items, .int v_text_count])), (a_text_items, .inl (k_text_items, 64, .inl f_text_items)), (a_row, .inr (0, [.ref a_row_items, .int v_row_count])), (a_row_items, .inl (k_row_items, 99, .inl f_row_items)), (a_strip, .inr (0, [.ref a_strip_items, .int v_strip_count])), (a_strip_items, .inl (k_strip_items, 800, .inl f_strip_items)), (a_packer, .inr (1, [.ref a_text, .ref a_row, .ref a_packer_costs])), (a_packer_costs, .inl (k_packer_costs, 195, .inl f_packer_costs)), (a_reader, .inr (2, [.ref a_strip, .ref a_reader_told, .int v_reader_fromBack, .int v_reader_set, .int v_reader_shifted])), (a_reader_told, .inr (0, [.ref a_reader_told_items, .int v_reader_told_count])), (a_reader_told_items, .inl (k_reader_told_items, 260, .inl f_reader_told_items))] (Z) sz)) (va_Qi (fun (r : Int32) (u : Int32 × (Nat → Int32) × (Nat → Int32)) => post r u.1 u.2.1 u.2.2) (fun u t => at_ D vwCl [(k_text_items, .int), (k_row_items, .int), (k_strip_items, .int), (k_packer_costs, .int), (k_reader_told_items, .int)] (va_A [(a_this, .inr (3, [.ref a_text, .ref a_row, .ref a_strip, .ref a_packer, .ref a_reader])), (a_text, .inr (0, [.ref a_text_items, .int v_text_count])), (a_text_items, .inl (k_text_items, 64, .inl f_text_items)), (a_row, .inr (0, [.ref a_row_items, .int v_row_count])), (a_row_items, .inl (k_row_items, 99, .inl f_row_items)), (a_strip, .inr (0, [.ref a_strip_items, .int v_strip_count])), (a_strip_items, .inl (k_strip_items, 800, .inl f_strip_items)), (a_packer, .inr (1, [.ref a_text, .ref a_row, .ref a_packer_costs])), (a_packer_costs, .inl (k_packer_costs, 195, .inl f_packer_costs)), (a_reader, .inr (2, [.ref a_strip, .ref a_reader_told, .int v_reader_fromBack, .int v_reader_set, .int v_reader_shifted])), (a_reader_told, .inr (0, [.ref a_reader_told_items, .int v_reader_told_count])), (a_reader_told_items, .inl (k_reader_told_items, 260, .inl f_reader_told_items))] sz) [(a_this, .inr (3, [.ref a_text, .ref a_row, .ref a_strip, .ref a_packer, .ref a_reader])), (a_text, .inr (0, [.ref a_text_items, .int v_text_count])), (a_text_items, .inl (k_text_items, 64, .inl f_text_items)), (a_row, .inr (0, [.ref a_row_items, .int u.1])), (a_row_items, .inl (k_row_items, 99, .inl u.2.1)), (a_strip, .inr (0, [.ref a_strip_items, .int v_strip_count])), (a_strip_items, .inl (k_strip_items, 800, .inl f_strip_items)), (a_packer, .inr (1, [.ref a_text, .ref a_row, .ref a_packer_costs])), (a_packer_costs, .inl (k_packer_costs, 195, .inl u.2.2)), (a_reader, .inr (2, [.ref a_strip, .ref a_reader_told, .int v_reader_fromBack, .int v_reader_set, .int v_reader_shifted])), (a_reader_told, .inr (0, [.ref a_reader_told_items, .int v_reader_told_count])), (a_reader_told_items, .inl (k_reader_told_items, 260, .inl f_reader_told_items))] t) (va_A [(a_this, .inr (3, [.ref a_text, .ref a_row, .ref a_strip, .ref a_packer, .ref a_reader])), (a_text, .inr (0, [.ref a_text_items, .int v_text_count])), (a_text_items, .inl (k_text_items, 64, .inl f_text_items)), (a_row, .inr (0, [.ref a_row_items, .int v_row_count])), (a_row_items, .inl (k_row_items, 99, .inl f_row_items)), (a_strip, .inr (0, [.ref a_strip_items, .int v_strip_count])), (a_strip_items, .inl (k_strip_items, 800, .inl f_strip_items)), (a_packer, .inr (1, [.ref a_text, .ref a_row, .ref a_packer_costs])), (a_packer_costs, .inl (k_packer_costs, 195, .inl f_packer_costs)), (a_reader, .inr (2, [.ref a_strip, .ref a_reader_told, .int v_reader_fromBack, .int v_reader_set, .int v_reader_shifted])), (a_reader_told, .inr (0, [.ref a_reader_told_items, .int v_reader_told_count])), (a_reader_told_items, .inl (k_reader_told_items, 260, .inl f_reader_told_items))] sz)) 0 0 (va_A [(a_this, .inr (3, [.ref a_text, .ref a_row, .ref a_strip, .ref a_packer, .ref a_reader])), (a_text, .inr (0, [.ref a_text_items, .int v_text_count])), (a_text_items, .inl (k_text_items, 64, .inl f_text_items)), (a_row, .inr (0, [.ref a_row_items, .int v_row_count])), (a_row_items, .inl (k_row_items, 99, .inl f_row_items)), (a_strip, .inr (0, [.ref a_strip_items, .int v_strip_count])), (a_strip_items, .inl (k_strip_items, 800, .inl f_strip_items)), (a_packer, .inr (1, [.ref a_text, .ref a_row, .ref a_packer_costs])), (a_packer_costs, .inl (k_packer_costs, 195, .inl f_packer_costs)), (a_reader, .inr (2, [.ref a_strip, .ref a_reader_told, .int v_reader_fromBack, .int v_reader_set, .int v_reader_shifted])), (a_reader_told, .inr (0, [.ref a_reader_told_items, .int v_reader_told_count])), (a_reader_told_items, .inl (k_reader_told_items, 260, .inl f_reader_told_items))] sz) := by
  refine Met.ofW (cc := c_Lc_pack) (maxL := 1) (ret := (some .int)) (by decide) rfl ?_
  intro p e s m args below meth c s₁ B hml hv
  obtain ⟨rfl, hsz, hP, hK, hD0, hZ⟩ := hv
  have hx := B.exec
  have hb := B.bytes
  have hr := B.returns
  have hts0 := atoms_spec (ws := ws_Lc_pack) B.pre
  have hts := fun (w : Cond) (h : w ∈ tb) => hts0 w (List.mem_cons_of_mem _ h)
  have hown : s.vm.findClass R_Lc = some m.cls := findClass_of_methodNamed B.named
  have hlocks := B.notSynchronized
  subst hsz
  have hD := hD0.self (sz := s.heap.size)
  generalize hAe : va_A [(a_this, .inr (3, [.ref a_text, .ref a_row, .ref a_strip, .ref a_packer, .ref a_reader])), (a_text, .inr (0, [.ref a_text_items, .int v_text_count])), (a_text_items, .inl (k_text_items, 64, .inl f_text_items)), (a_row, .inr (0, [.ref a_row_items, .int v_row_count])), (a_row_items, .inl (k_row_items, 99, .inl f_row_items)), (a_strip, .inr (0, [.ref a_strip_items, .int v_strip_count])), (a_strip_items, .inl (k_strip_items, 800, .inl f_strip_items)), (a_packer, .inr (1, [.ref a_text, .ref a_row, .ref a_packer_costs])), (a_packer_costs, .inl (k_packer_costs, 195, .inl f_packer_costs)), (a_reader, .inr (2, [.ref a_strip, .ref a_reader_told, .int v_reader_fromBack, .int v_reader_set, .int v_reader_shifted])), (a_reader_told, .inr (0, [.ref a_reader_told_items, .int v_reader_told_count])), (a_reader_told_items, .inl (k_reader_told_items, 260, .inl f_reader_told_items))] s.heap.size = A at hD hZ ⊢
  have hA : ∀ q : Nat, s.heap.size ≤ q → A q := fun q h => by rw [← hAe]; exact Or.inr h
  have hS : va_S A s.heap s.heap [] := va_S.rf
  have hl := lv_entry ([.ref a_this]) (n := 1) (Nat.le_of_ble_eq_true rfl)
  rw [lg_entry_eq]
  generalize (lg_sl ([.ref a_this]) ++ List.replicate (1 - (lg_sl ([.ref a_this])).length) Slot.unset).toArray = ls at hl ⊢
  have hl : lv_has ls 1 [(0, .ref a_this)] := hl
  unfold w_Lc_pack at hw
  refine lv_aload_n hx hb d_Lc_pack_0 rfl (lv_at hl 0 rfl) ?_
  refine va_get (D := D) (ci := 3) (v := .ref a_packer) (C := R_Lc) (T := T_Lc) (N := 5) hx hb hts in_Lc hown hK hP 0 rfl rfl 3 (by decide) (hts _ mm_124) (fun _ h9 => h9) rfl d_Lc_pack_1 ?_
  refine k_rwVv (As := []) (rest := []) (wr := [(a_this, .inr (3, [.ref a_text, .ref a_row, .ref a_strip, .ref a_packer, .ref a_reader])), (a_strip, .inr (0, [.ref a_strip_items, .int v_strip_count])), (a_strip_items, .inl (k_strip_items, 800, .inl f_strip_items)), (a_reader, .inr (2, [.ref a_strip, .ref a_reader_told, .int v_reader_fromBack, .int v_reader_set, .int v_reader_shifted])), (a_reader_told, .inr (0, [.ref a_reader_told_items, .int v_reader_told_count])), (a_reader_told_items, .inl (k_reader_told_items, 260, .inl f_reader_told_items))]) hz [7, 1, 2, 3, 4, 8] [0, 5, 6, 9, 10, 11] [0, 1, 3] 7 1 ⟨hx, hb, hml, hown, hts⟩ (met_Pa_makeRow l D Z hz ad hk a_packer a_text a_text_items a_row a_row_items a_packer_costs k_text_items k_row_items k_packer_costs v_text_count f_text_items v_row_count f_row_items f_packer_costs _ hw) (cwV 0 hts (g_V mm_149 mm_150 mm_151 mm_44 mm_152) rfl rfl rfl hd_Pa_makeRow ⟨Nat.le_of_ble_eq_true rfl, Nat.le_of_ble_eq_true rfl⟩) hP hD hK hZ hS hA rfl rfl rfl rfl rfl (by decide) rfl rfl rfl rfl hl.1 rfl (Nat.le_of_ble_eq_true rfl) d_Lc_pack_4 ⟨Nat.le_of_ble_eq_true rfl, Nat.le_of_ble_eq_true rfl⟩ (fun u9 H locs hw hP hD hS => ?_)
  obtain ⟨s1, s2, s3⟩ := u9
  try dsimp only at hw
  have hP : va_P D vwCl [(a_this, .inr (3, [.ref a_text, .ref a_row, .ref a_strip, .ref a_packer, .ref a_reader])), (a_strip, .inr (0, [.ref a_strip_items, .int v_strip_count])), (a_strip_items, .inl (k_strip_items, 800, .inl f_strip_items)), (a_reader, .inr (2, [.ref a_strip, .ref a_reader_told, .int v_reader_fromBack, .int v_reader_set, .int v_reader_shifted])), (a_reader_told, .inr (0, [.ref a_reader_told_items, .int v_reader_told_count])), (a_reader_told_items, .inl (k_reader_told_items, 260, .inl f_reader_told_items)), (a_packer, .inr (1, [.ref a_text, .ref a_row, .ref a_packer_costs])), (a_text, .inr (0, [.ref a_text_items, .int v_text_count])), (a_text_items, .inl (k_text_items, 64, .inl f_text_items)), (a_row, .inr (0, [.ref a_row_items, .int s1])), (a_row_items, .inl (k_row_items, 99, .inl s2)), (a_packer_costs, .inl (k_packer_costs, 195, .inl s3))] H := hP
  have hD : va_D A [(a_this, .inr (3, [.ref a_text, .ref a_row, .ref a_strip, .ref a_packer, .ref a_reader])), (a_strip, .inr (0, [.ref a_strip_items, .int v_strip_count])), (a_strip_items, .inl (k_strip_items, 800, .inl f_strip_items)), (a_reader, .inr (2, [.ref a_strip, .ref a_reader_told, .int v_reader_fromBack, .int v_reader_set, .int v_reader_shifted])), (a_reader_told, .inr (0, [.ref a_reader_told_items, .int v_reader_told_count])), (a_reader_told_items, .inl (k_reader_told_items, 260, .inl f_reader_told_items)), (a_packer, .inr (1, [.ref a_text, .ref a_row, .ref a_packer_costs])), (a_text, .inr (0, [.ref a_text_items, .int v_text_count])), (a_text_items, .inl (k_text_items, 64, .inl f_text_items)), (a_row, .inr (0, [.ref a_row_items, .int s1])), (a_row_items, .inl (k_row_items, 99, .inl s2)), (a_packer_costs, .inl (k_packer_costs, 195, .inl s3))] := hD
  refine lv_aload_n hx hb d_Lc_pack_7 rfl (lv_at hl 0 rfl) ?_
  refine va_get (D := D) (ci := 3) (v := .ref a_row) (C := R_Lc) (T := T_Lc) (N := 5) hx hb hts in_Lc hown hK hP 0 rfl rfl 1 (by decide) (hts _ mm_122) (fun _ h9 => h9) rfl d_Lc_pack_8 ?_
  refine k_roVi (As := []) (rest := []) hz [9, 10] [1] 9 0 ⟨hx, hb, hml, hown, hts⟩ (met_It_count l D Z hz ad hk a_row a_row_items k_row_items 99 s1 s2 hw) (cwV 0 hts (g_V mm_224 mm_154 mm_155 mm_42 mm_156) rfl rfl rfl hd_It_count ⟨Nat.le_of_ble_eq_true rfl, Nat.le_of_ble_eq_true rfl⟩) hP hK hZ hS rfl rfl rfl rfl rfl hl.1 rfl (Nat.le_of_ble_eq_true rfl) d_Lc_pack_11 ⟨Nat.le_of_ble_eq_true rfl, Nat.le_of_ble_eq_true rfl⟩ (fun r4 hw => ?_)
  have hP9 := hP.sub (ws' := [(a_this, .inr (3, [.ref a_text, .ref a_row, .ref a_strip, .ref a_packer, .ref a_reader])), (a_text, .inr (0, [.ref a_text_items, .int v_text_count])), (a_text_items, .inl (k_text_items, 64, .inl f_text_items)), (a_row, .inr (0, [.ref a_row_items, .int s1])), (a_row_items, .inl (k_row_items, 99, .inl s2)), (a_strip, .inr (0, [.ref a_strip_items, .int v_strip_count])), (a_strip_items, .inl (k_strip_items, 800, .inl f_strip_items)), (a_packer, .inr (1, [.ref a_text, .ref a_row, .ref a_packer_costs])), (a_packer_costs, .inl (k_packer_costs, 195, .inl s3)), (a_reader, .inr (2, [.ref a_strip, .ref a_reader_told, .int v_reader_fromBack, .int v_reader_set, .int v_reader_shifted])), (a_reader_told, .inr (0, [.ref a_reader_told_items, .int v_reader_told_count])), (a_reader_told_items, .inl (k_reader_told_items, 260, .inl f_reader_told_items))]) [0, 7, 8, 9, 10, 1, 2, 6, 11, 3, 4, 5] rfl
  have hD9 := hD.sub (ws' := [(a_this, .inr (3, [.ref a_text, .ref a_row, .ref a_strip, .ref a_packer, .ref a_reader])), (a_text, .inr (0, [.ref a_text_items, .int v_text_count])), (a_text_items, .inl (k_text_items, 64, .inl f_text_items)), (a_row, .inr (0, [.ref a_row_items, .int s1])), (a_row_items, .inl (k_row_items, 99, .inl s2)), (a_strip, .inr (0, [.ref a_strip_items, .int v_strip_count])), (a_strip_items, .inl (k_strip_items, 800, .inl f_strip_items)), (a_packer, .inr (1, [.ref a_text, .ref a_row, .ref a_packer_costs])), (a_packer_costs, .inl (k_packer_costs, 195, .inl s3)), (a_reader, .inr (2, [.ref a_strip, .ref a_reader_told, .int v_reader_fromBack, .int v_reader_set, .int v_reader_shifted])), (a_reader_told, .inr (0, [.ref a_reader_told_items, .int v_reader_told_count])), (a_reader_told_items, .inl (k_reader_told_items, 260, .inl f_reader_told_items))]) [0, 7, 8, 9, 10, 1, 2, 6, 11, 3, 4, 5] (by decide) rfl
  exact W.iret (v := r4) hx hb hr (fun t ht hW => ⟨⟨r4, (s1, s2, s3), rfl, hw, by rw [ht]; exact hP9, va_K.moved hW.alike hK, hD9⟩, hS.F ht⟩) hS.2.2 d_Lc_pack_14
-- LineCodes.symbol(I)I
def w_Lc_symbol (post : Int32 → Prop) (v_row_count : Int32) (f_row_items : Nat → Int32) (x1 : Int32) : Prop := w_It_at (fun r1 => post r1) 99 v_row_count f_row_items x1
abbrev rm_Lc_symbol : Room := { frames := 1, cells := 0, slots := 0, locals := 21 }
set_option maxHeartbeats 4000000 in
set_option maxRecDepth 100000 in
theorem met_Lc_symbol (l : Launch) (D : va_G) (Z : (Nat → Prop) → State → Heap → Prop) (hz : zk Z) (ad : Nat → Nat) (hk : zs Z ad) (a_this : Nat) (a_text : Nat) (a_text_items : Nat) (a_row : Nat) (a_row_items : Nat) (a_strip : Nat) (a_strip_items : Nat) (a_packer : Nat) (a_packer_costs : Nat) (a_reader : Nat) (a_reader_told : Nat) (a_reader_told_items : Nat) (k_text_items : ClassId) (k_row_items : ClassId) (k_strip_items : ClassId) (k_packer_costs : ClassId) (k_reader_told_items : ClassId) (v_text_count : Int32) (f_text_items : Nat → Int32) (v_row_count : Int32) (f_row_items : Nat → Int32) (v_strip_count : Int32) (f_strip_items : Nat → Int32) (f_packer_costs : Nat → Int32) (v_reader_fromBack : Int32) (v_reader_set : Int32) (v_reader_shifted : Int32) (v_reader_told_count : Int32) (f_reader_told_items : Nat → Int32) (x1 : Int32) {post : Int32 → Prop} (hw : w_Lc_symbol post v_row_count f_row_items x1) : Met l y_Lc_symbol ws_Lc_symbol rm_Lc_symbol (va_Pc [.ref a_this, .int x1] (ro_ D vwCl [(k_text_items, .int), (k_row_items, .int), (k_strip_items, .int), (k_packer_costs, .int), (k_reader_told_items, .int)] [(a_this, .inr (3, [.ref a_text, .ref a_row, .ref a_strip, .ref a_packer, .ref a_reader])), (a_text, .inr (0, [.ref a_text_items, .int v_text_count])), (a_text_items, .inl (k_text_items, 64, .inl f_text_items)), (a_row, .inr (0, [.ref a_row_items, .int v_row_count])), (a_row_items, .inl (k_row_items, 99, .inl f_row_items)), (a_strip, .inr (0, [.ref a_strip_items, .int v_strip_count])), (a_strip_items, .inl (k_strip_items, 800, .inl f_strip_items)), (a_packer, .inr (1, [.ref a_text, .ref a_row, .ref a_packer_costs])), (a_packer_costs, .inl (k_packer_costs, 195, .inl f_packer_costs)), (a_reader, .inr (2, [.ref a_strip, .ref a_reader_told, .int v_reader_fromBack, .int v_reader_set, .int v_reader_shifted])), (a_reader_told, .inr (0, [.ref a_reader_told_items, .int v_reader_told_count])), (a_reader_told_items, .inl (k_reader_told_items, 260, .inl f_reader_told_items))] (Z))) (vp_Si post) 0 0 (fun _ => False) := by
  refine Met.ofW (cc := c_Lc_symbol) (maxL := 2) (ret := (some .int)) (by decide) rfl ?_
  intro p e s m args below meth c s₁ B hml hv
  obtain ⟨rfl, hP, hK, hZ⟩ := hv
  have hx := B.exec
  have hb := B.bytes
  have hr := B.returns
  have hts0 := atoms_spec (ws := ws_Lc_symbol) B.pre
  have hts := fun (w : Cond) (h : w ∈ tb) => hts0 w (List.mem_cons_of_mem _ h)
  have hown : s.vm.findClass R_Lc = some m.cls := findClass_of_methodNamed B.named
  have hlocks := B.notSynchronized
  have hS : va_S (fun _ => False) s.heap s.heap [] := va_S.rf
  have hl := lv_entry ([.ref a_this, .int x1]) (n := 2) (Nat.le_of_ble_eq_true rfl)
  rw [lg_entry_eq]
  generalize (lg_sl ([.ref a_this, .int x1]) ++ List.replicate (2 - (lg_sl ([.ref a_this, .int x1])).length) Slot.unset).toArray = ls at hl ⊢
  have hl : lv_has ls 2 [(0, .ref a_this), (1, .int x1)] := hl
  unfold w_Lc_symbol at hw
  refine lv_aload_n hx hb d_Lc_symbol_0 rfl (lv_at hl 0 rfl) ?_
  refine va_get (D := D) (ci := 3) (v := .ref a_row) (C := R_Lc) (T := T_Lc) (N := 5) hx hb hts in_Lc hown hK hP 0 rfl rfl 1 (by decide) (hts _ mm_122) (fun _ h9 => h9) rfl d_Lc_symbol_1 ?_
  refine lv_iload_n hx hb d_Lc_symbol_4 rfl (lv_at hl 1 rfl) ?_
  refine k_roVi (As := [.int x1]) (rest := []) hz [3, 4] [1] 3 0 ⟨hx, hb, hml, hown, hts⟩ (met_It_at l D Z hz ad hk a_row a_row_items k_row_items 99 v_row_count f_row_items x1 hw) (cwV 1 hts (g_V mm_229 mm_167 mm_168 mm_42 mm_169) rfl rfl rfl hd_It_at ⟨Nat.le_of_ble_eq_true rfl, Nat.le_of_ble_eq_true rfl⟩) hP hK hZ hS rfl rfl rfl rfl rfl hl.1 rfl (Nat.le_of_ble_eq_true rfl) d_Lc_symbol_5 ⟨Nat.le_of_ble_eq_true rfl, Nat.le_of_ble_eq_true rfl⟩ (fun r1 hw => ?_)
  exact W.iret (v := r1) hx hb hr (fun t ht hW => ⟨r1, rfl, hw, ht⟩) hS.2.2 d_Lc_symbol_8
-- LineCodes.addWidths(II)V
def w_Lc_addWidths_3 (post : Int32 → (Nat → Int32) → Prop) (x1 : Int32) (x2 : Int32) : Nat → Int32 → (Nat → Int32) → Int32 → Prop
  | 0, _, _, _ => False
  | n + 1, v_strip_count, f_strip_items, y3 => (y3 ≤ 0 → post v_strip_count f_strip_items) ∧ (¬ y3 ≤ 0 → (x1 < y3 → w_Lc_addWidths_3 post x1 x2 n v_strip_count f_strip_items (y3 / 10)) ∧ (¬ x1 < y3 → ¬ y3 = 0 ∧ w_It_add (fun r3 s4 s5 => w_Lc_addWidths_3 post x1 x2 n s4 s5 (y3 / 10)) 800 v_strip_count f_strip_items (((x1 / y3) - (x1 / y3) / 10 * 10) * x2)))
def w_Lc_addWidths (post : Int32 → (Nat → Int32) → Prop) (v_strip_count : Int32) (f_strip_items : Nat → Int32) (x1 : Int32) (x2 : Int32) : Prop := ∃ n, w_Lc_addWidths_3 post x1 x2 n v_strip_count f_strip_items 1000000
abbrev rm_Lc_addWidths : Room := { frames := 1, cells := 0, slots := 0, locals := 21 }
set_option maxHeartbeats 4000000 in
set_option maxRecDepth 100000 in
theorem lp_Lc_addWidths_3 (l : Launch) (D : va_G) (Z : (Nat → Prop) → State → Heap → Prop) (hz : zk Z) (ad : Nat → Nat) (hk : zs Z ad) {p : Program} {e : Env} {s : State} {m : MethodId} {args : Array Value} {below : List Frame} {meth : Method} {c : Code} {A : Nat → Prop} (a_this : Nat) (a_text : Nat) (a_text_items : Nat) (a_row : Nat) (a_row_items : Nat) (a_strip : Nat) (a_strip_items : Nat) (a_packer : Nat) (a_packer_costs : Nat) (a_reader : Nat) (a_reader_told : Nat) (a_reader_told_items : Nat) (k_text_items : ClassId) (k_row_items : ClassId) (k_strip_items : ClassId) (k_packer_costs : ClassId) (k_reader_told_items : ClassId) (v_text_count : Int32) (f_text_items : Nat → Int32) (v_row_count : Int32) (f_row_items : Nat → Int32) (f_packer_costs : Nat → Int32) (v_reader_fromBack : Int32) (v_reader_set : Int32) (v_reader_shifted : Int32) (v_reader_told_count : Int32) (f_reader_told_items : Nat → Int32) (x1 : Int32) (x2 : Int32) {post : Int32 → (Nat → Int32) → Prop} (hx : p.tables.exec = Jvm.exec) (hb : c.code = c_Lc_addWidths) (hml : c.maxLocals = 4) (hr : meth.sig.returnType = (none)) (hts : ∀ w ∈ tb, w.before args s = true) (hown : s.vm.findClass R_Lc = some m.cls) (hlocks : meth.locks = false) (hK : va_K D vwCl [(k_text_items, .int), (k_row_items, .int), (k_strip_items, .int), (k_packer_costs, .int), (k_reader_told_items, .int)] s) (hZ : Z A s s.heap) (hA : ∀ q, s.heap.size ≤ q → A q) : ∀ (n : Nat) (v_strip_count : Int32) (f_strip_items : Nat → Int32) (y3 : Int32), w_Lc_addWidths_3 post x1 x2 n v_strip_count f_strip_items y3 → ∀ (H : Heap) (locs : List Loc), va_P D vwCl [(a_this, .inr (3, [.ref a_text, .ref a_row, .ref a_strip, .ref a_packer, .ref a_reader])), (a_text, .inr (0, [.ref a_text_items, .int v_text_count])), (a_text_items, .inl (k_text_items, 64, .inl f_text_items)), (a_row, .inr (0, [.ref a_row_items, .int v_row_count])), (a_row_items, .inl (k_row_items, 99, .inl f_row_items)), (a_strip, .inr (0, [.ref a_strip_items, .int v_strip_count])), (a_strip_items, .inl (k_strip_items, 800, .inl f_strip_items)), (a_packer, .inr (1, [.ref a_text, .ref a_row, .ref a_packer_costs])), (a_packer_costs, .inl (k_packer_costs, 195, .inl f_packer_costs)), (a_reader, .inr (2, [.ref a_strip, .ref a_reader_told, .int v_reader_fromBack, .int v_reader_set, .int v_reader_shifted])), (a_reader_told, .inr (0, [.ref a_reader_told_items, .int v_reader_told_count])), (a_reader_told_items, .inl (k_reader_told_items, 260, .inl f_reader_told_items))] H → va_D A [(a_this, .inr (3, [.ref a_text, .ref a_row, .ref a_strip, .ref a_packer, .ref a_reader])), (a_text, .inr (0, [.ref a_text_items, .int v_text_count])), (a_text_items, .inl (k_text_items, 64, .inl f_text_items)), (a_row, .inr (0, [.ref a_row_items, .int v_row_count])), (a_row_items, .inl (k_row_items, 99, .inl f_row_items)), (a_strip, .inr (0, [.ref a_strip_items, .int v_strip_count])), (a_strip_items, .inl (k_strip_items, 800, .inl f_strip_items)), (a_packer, .inr (1, [.ref a_text, .ref a_row, .ref a_packer_costs])), (a_packer_costs, .inl (k_packer_costs, 195, .inl f_packer_costs)), (a_reader, .inr (2, [.ref a_strip, .ref a_reader_told, .int v_reader_fromBack, .int v_reader_set, .int v_reader_shifted])), (a_reader_told, .inr (0, [.ref a_reader_told_items, .int v_reader_told_count])), (a_reader_told_items, .inl (k_reader_told_items, 260, .inl f_reader_told_items))] → va_S A s.heap H locs → ∀ ls : Array Slot, lv_has ls 4 [(0, .ref a_this), (1, .int x1), (2, .int x2), (3, .int y3)] → W p l e (headSpec ws_Lc_addWidths rm_Lc_addWidths).room s m args below meth c H locs 0 0 (MQ below (va_Qv (fun u : Int32 × (Nat → Int32) => post u.1 u.2) (fun u t => at_ D vwCl [(k_text_items, .int), (k_row_items, .int), (k_strip_items, .int), (k_packer_costs, .int), (k_reader_told_items, .int)] A [(a_this, .inr (3, [.ref a_text, .ref a_row, .ref a_strip, .ref a_packer, .ref a_reader])), (a_text, .inr (0, [.ref a_text_items, .int v_text_count])), (a_text_items, .inl (k_text_items, 64, .inl f_text_items)), (a_row, .inr (0, [.ref a_row_items, .int v_row_count])), (a_row_items, .inl (k_row_items, 99, .inl f_row_items)), (a_strip, .inr (0, [.ref a_strip_items, .int u.1])), (a_strip_items, .inl (k_strip_items, 800, .inl u.2)), (a_packer, .inr (1, [.ref a_text, .ref a_row, .ref a_packer_costs])), (a_packer_costs, .inl (k_packer_costs, 195, .inl f_packer_costs)), (a_reader, .inr (2, [.ref a_strip, .ref a_reader_told, .int v_reader_fromBack, .int v_reader_set, .int v_reader_shifted])), (a_reader_told, .inr (0, [.ref a_reader_told_items, .int v_reader_told_count])), (a_reader_told_items, .inl (k_reader_told_items, 260, .inl f_reader_told_items))] t) A) args s 0 0 A) (F0 m 3 ls []) := by
  intro n
  induction n with
  | zero =>
    intro v_strip_count f_strip_items y3 hw
    unfold w_Lc_addWidths_3 at hw
    exact hw.elim
  | succ n ih =>
    intro v_strip_count f_strip_items y3 hw H locs hP hD hS ls hl
    unfold w_Lc_addWidths_3 at hw
    refine lv_iload_n hx hb d_Lc_addWidths_3 rfl (lv_at hl 3 rfl) ?_
    refine lv_if_le (tgt := 36) hx hb d_Lc_addWidths_4 (by decide) (fun c1 => ?_) (fun c1 => ?_)
    · have hw := hw.1 c1
      have hP9 := hP.sub (ws' := [(a_this, .inr (3, [.ref a_text, .ref a_row, .ref a_strip, .ref a_packer, .ref a_reader])), (a_text, .inr (0, [.ref a_text_items, .int v_text_count])), (a_text_items, .inl (k_text_items, 64, .inl f_text_items)), (a_row, .inr (0, [.ref a_row_items, .int v_row_count])), (a_row_items, .inl (k_row_items, 99, .inl f_row_items)), (a_strip, .inr (0, [.ref a_strip_items, .int v_strip_count])), (a_strip_items, .inl (k_strip_items, 800, .inl f_strip_items)), (a_packer, .inr (1, [.ref a_text, .ref a_row, .ref a_packer_costs])), (a_packer_costs, .inl (k_packer_costs, 195, .inl f_packer_costs)), (a_reader, .inr (2, [.ref a_strip, .ref a_reader_told, .int v_reader_fromBack, .int v_reader_set, .int v_reader_shifted])), (a_reader_told, .inr (0, [.ref a_reader_told_items, .int v_reader_told_count])), (a_reader_told_items, .inl (k_reader_told_items, 260, .inl f_reader_told_items))]) [0, 1, 2, 3, 4, 5, 6, 7, 8, 9, 10, 11] rfl
      have hD9 := hD.sub (ws' := [(a_this, .inr (3, [.ref a_text, .ref a_row, .ref a_strip, .ref a_packer, .ref a_reader])), (a_text, .inr (0, [.ref a_text_items, .int v_text_count])), (a_text_items, .inl (k_text_items, 64, .inl f_text_items)), (a_row, .inr (0, [.ref a_row_items, .int v_row_count])), (a_row_items, .inl (k_row_items, 99, .inl f_row_items)), (a_strip, .inr (0, [.ref a_strip_items, .int v_strip_count])), (a_strip_items, .inl (k_strip_items, 800, .inl f_strip_items)), (a_packer, .inr (1, [.ref a_text, .ref a_row, .ref a_packer_costs])), (a_packer_costs, .inl (k_packer_costs, 195, .inl f_packer_costs)), (a_reader, .inr (2, [.ref a_strip, .ref a_reader_told, .int v_reader_fromBack, .int v_reader_set, .int v_reader_shifted])), (a_reader_told, .inr (0, [.ref a_reader_told_items, .int v_reader_told_count])), (a_reader_told_items, .inl (k_reader_told_items, 260, .inl f_reader_told_items))]) [0, 1, 2, 3, 4, 5, 6, 7, 8, 9, 10, 11] (by decide) rfl
      exact W.vret hx hb hr (fun t ht hW => ⟨⟨(v_strip_count, f_strip_items), rfl, hw, by rw [ht]; exact hP9, va_K.moved hW.alike hK, hD9⟩, hS.F ht⟩) hS.2.2 d_Lc_addWidths_36
    · have hw := hw.2 c1
      refine lv_iload_n hx hb d_Lc_addWidths_7 rfl (lv_at hl 1 rfl) ?_
      refine lv_iload_n hx hb d_Lc_addWidths_8 rfl (lv_at hl 3 rfl) ?_
      refine lv_icmp_lt (tgt := 28) hx hb d_Lc_addWidths_9 (by decide) (fun c2 => ?_) (fun c2 => ?_)
      · have hw := hw.1 c2
        refine lv_iload_n hx hb d_Lc_addWidths_28 rfl (lv_at hl 3 rfl) ?_
        refine lv_bipush (v := 10) hx hb d_Lc_addWidths_29 (by decide) ?_
        refine lv_idiv hx hb d_Lc_addWidths_31 (by decide) ?_
        refine lv_istore_n (lv' := [(3, .int (y3 / 10)), (0, .ref a_this), (1, .int x1), (2, .int x2)]) hx hb d_Lc_addWidths_32 rfl hl (by decide) rfl (fun ls hl => ?_)
        refine lv_goto (tgt := 3) hx hb d_Lc_addWidths_33 (by decide) ?_
        exact ih v_strip_count f_strip_items (y3 / 10) hw _ _ (hP.sub [0, 1, 2, 3, 4, 5, 6, 7, 8, 9, 10, 11] rfl) (hD.sub [0, 1, 2, 3, 4, 5, 6, 7, 8, 9, 10, 11] (by decide) rfl) hS ls (lv_sub hl [1, 2, 3, 0] rfl)
      · have hw := hw.2 c2
        refine lv_aload_n hx hb d_Lc_addWidths_12 rfl (lv_at hl 0 rfl) ?_
        refine va_get (D := D) (ci := 3) (v := .ref a_strip) (C := R_Lc) (T := T_Lc) (N := 5) hx hb hts in_Lc hown hK hP 0 rfl rfl 2 (by decide) (hts _ mm_123) (fun _ h9 => h9) rfl d_Lc_addWidths_13 ?_
        refine lv_iload_n hx hb d_Lc_addWidths_16 rfl (lv_at hl 1 rfl) ?_
        refine lv_iload_n hx hb d_Lc_addWidths_17 rfl (lv_at hl 3 rfl) ?_
        have hn18 := hw.1
        have hw := hw.2
        refine lv_idiv hx hb d_Lc_addWidths_18 hn18 ?_
        refine lv_bipush (v := 10) hx hb d_Lc_addWidths_19 (by decide) ?_
        refine lv_irem hx hb d_Lc_addWidths_21 (by decide) ?_
        refine lv_iload_n hx hb d_Lc_addWidths_22 rfl (lv_at hl 2 rfl) ?_
        refine lv_imul hx hb d_Lc_addWidths_23 ?_
        refine k_rwVi (As := [.int (((x1 / y3) - (x1 / y3) / 10 * 10) * x2)]) (rest := []) (wr := [(a_this, .inr (3, [.ref a_text, .ref a_row, .ref a_strip, .ref a_packer, .ref a_reader])), (a_text, .inr (0, [.ref a_text_items, .int v_text_count])), (a_text_items, .inl (k_text_items, 64, .inl f_text_items)), (a_row, .inr (0, [.ref a_row_items, .int v_row_count])), (a_row_items, .inl (k_row_items, 99, .inl f_row_items)), (a_packer, .inr (1, [.ref a_text, .ref a_row, .ref a_packer_costs])), (a_packer_costs, .inl (k_packer_costs, 195, .inl f_packer_costs)), (a_reader, .inr (2, [.ref a_strip, .ref a_reader_told, .int v_reader_fromBack, .int v_reader_set, .int v_reader_shifted])), (a_reader_told, .inr (0, [.ref a_reader_told_items, .int v_reader_told_count])), (a_reader_told_items, .inl (k_reader_told_items, 260, .inl f_reader_told_items))]) hz [5, 6] [0, 1, 2, 3, 4, 7, 8, 9, 10, 11] [2] 5 0 ⟨hx, hb, hml, hown, hts⟩ (met_It_add l D Z hz ad hk a_strip a_strip_items k_strip_items 800 v_strip_count f_strip_items (((x1 / y3) - (x1 / y3) / 10 * 10) * x2) _ hw) (cwV 1 hts (g_V mm_458 mm_203 mm_204 mm_42 mm_205) rfl rfl rfl hd_It_add ⟨Nat.le_of_ble_eq_true rfl, Nat.le_of_ble_eq_true rfl⟩) hP hD hK hZ hS hA rfl rfl rfl rfl rfl (by decide) rfl rfl rfl rfl hl.1 rfl (Nat.le_of_ble_eq_true rfl) d_Lc_addWidths_24 ⟨Nat.le_of_ble_eq_true rfl, Nat.le_of_ble_eq_true rfl⟩ (fun r3 u9 H locs hw hP hD hS => ?_)
        obtain ⟨s4, s5⟩ := u9
        try dsimp only at hw
        have hP : va_P D vwCl [(a_this, .inr (3, [.ref a_text, .ref a_row, .ref a_strip, .ref a_packer, .ref a_reader])), (a_text, .inr (0, [.ref a_text_items, .int v_text_count])), (a_text_items, .inl (k_text_items, 64, .inl f_text_items)), (a_row, .inr (0, [.ref a_row_items, .int v_row_count])), (a_row_items, .inl (k_row_items, 99, .inl f_row_items)), (a_packer, .inr (1, [.ref a_text, .ref a_row, .ref a_packer_costs])), (a_packer_costs, .inl (k_packer_costs, 195, .inl f_packer_costs)), (a_reader, .inr (2, [.ref a_strip, .ref a_reader_told, .int v_reader_fromBack, .int v_reader_set, .int v_reader_shifted])), (a_reader_told, .inr (0, [.ref a_reader_told_items, .int v_reader_told_count])), (a_reader_told_items, .inl (k_reader_told_items, 260, .inl f_reader_told_items)), (a_strip, .inr (0, [.ref a_strip_items, .int s4])), (a_strip_items, .inl (k_strip_items, 800, .inl s5))] H := hP
        have hD : va_D A [(a_this, .inr (3, [.ref a_text, .ref a_row, .ref a_strip, .ref a_packer, .ref a_reader])), (a_text, .inr (0, [.ref a_text_items, .int v_text_count])), (a_text_items, .inl (k_text_items, 64, .inl f_text_items)), (a_row, .inr (0, [.ref a_row_items, .int v_row_count])), (a_row_items, .inl (k_row_items, 99, .inl f_row_items)), (a_packer, .inr (1, [.ref a_text, .ref a_row, .ref a_packer_costs])), (a_packer_costs, .inl (k_packer_costs, 195, .inl f_packer_costs)), (a_reader, .inr (2, [.ref a_strip, .ref a_reader_told, .int v_reader_fromBack, .int v_reader_set, .int v_reader_shifted])), (a_reader_told, .inr (0, [.ref a_reader_told_items, .int v_reader_told_count])), (a_reader_told_items, .inl (k_reader_told_items, 260, .inl f_reader_told_items)), (a_strip, .inr (0, [.ref a_strip_items, .int s4])), (a_strip_items, .inl (k_strip_items, 800, .inl s5))] := hD
        refine lv_pop hx hb d_Lc_addWidths_27 rfl ?_
        refine lv_iload_n hx hb d_Lc_addWidths_28 rfl (lv_at hl 3 rfl) ?_
        refine lv_bipush (v := 10) hx hb d_Lc_addWidths_29 (by decide) ?_
        refine lv_idiv hx hb d_Lc_addWidths_31 (by decide) ?_
        refine lv_istore_n (lv' := [(3, .int (y3 / 10)), (0, .ref a_this), (1, .int x1), (2, .int x2)]) hx hb d_Lc_addWidths_32 rfl hl (by decide) rfl (fun ls hl => ?_)
        refine lv_goto (tgt := 3) hx hb d_Lc_addWidths_33 (by decide) ?_
        exact ih s4 s5 (y3 / 10) hw _ _ (hP.sub [0, 1, 2, 3, 4, 10, 11, 5, 6, 7, 8, 9] rfl) (hD.sub [0, 1, 2, 3, 4, 10, 11, 5, 6, 7, 8, 9] (by decide) rfl) hS ls (lv_sub hl [1, 2, 3, 0] rfl)
set_option maxHeartbeats 4000000 in
set_option maxRecDepth 100000 in
theorem met_Lc_addWidths (l : Launch) (D : va_G) (Z : (Nat → Prop) → State → Heap → Prop) (hz : zk Z) (ad : Nat → Nat) (hk : zs Z ad) (a_this : Nat) (a_text : Nat) (a_text_items : Nat) (a_row : Nat) (a_row_items : Nat) (a_strip : Nat) (a_strip_items : Nat) (a_packer : Nat) (a_packer_costs : Nat) (a_reader : Nat) (a_reader_told : Nat) (a_reader_told_items : Nat) (k_text_items : ClassId) (k_row_items : ClassId) (k_strip_items : ClassId) (k_packer_costs : ClassId) (k_reader_told_items : ClassId) (v_text_count : Int32) (f_text_items : Nat → Int32) (v_row_count : Int32) (f_row_items : Nat → Int32) (v_strip_count : Int32) (f_strip_items : Nat → Int32) (f_packer_costs : Nat → Int32) (v_reader_fromBack : Int32) (v_reader_set : Int32) (v_reader_shifted : Int32) (v_reader_told_count : Int32) (f_reader_told_items : Nat → Int32) (x1 : Int32) (x2 : Int32) (sz : Nat) {post : Int32 → (Nat → Int32) → Prop} (hw : w_Lc_addWidths post v_strip_count f_strip_items x1 x2) : Met l y_Lc_addWidths ws_Lc_addWidths rm_Lc_addWidths (va_Pc [.ref a_this, .int x1, .int x2] (rw_ D vwCl [(k_text_items, .int), (k_row_items, .int), (k_strip_items, .int), (k_packer_costs, .int), (k_reader_told_items, .int)] [(a_this, .inr (3, [.ref a_text, .ref a_row, .ref a_strip, .ref a_packer, .ref a_reader])), (a_text, .inr (0, [.ref a_text_items, .int v_text_count])), (a_text_items, .inl (k_text_items, 64, .inl f_text_items)), (a_row, .inr (0, [.ref a_row_items, .int v_row_count])), (a_row_items, .inl (k_row_items, 99, .inl f_row_items)), (a_strip, .inr (0, [.ref a_strip_items, .int v_strip_count])), (a_strip_items, .inl (k_strip_items, 800, .inl f_strip_items)), (a_packer, .inr (1, [.ref a_text, .ref a_row, .ref a_packer_costs])), (a_packer_costs, .inl (k_packer_costs, 195, .inl f_packer_costs)), (a_reader, .inr (2, [.ref a_strip, .ref a_reader_told, .int v_reader_fromBack, .int v_reader_set, .int v_reader_shifted])), (a_reader_told, .inr (0, [.ref a_reader_told_items, .int v_reader_told_count])), (a_reader_told_items, .inl (k_reader_told_items, 260, .inl f_reader_told_items))] (Z) sz)) (va_Qv (fun u : Int32 × (Nat → Int32) => post u.1 u.2) (fun u t => at_ D vwCl [(k_text_items, .int), (k_row_items, .int), (k_strip_items, .int), (k_packer_costs, .int), (k_reader_told_items, .int)] (va_A [(a_this, .inr (3, [.ref a_text, .ref a_row, .ref a_strip, .ref a_packer, .ref a_reader])), (a_text, .inr (0, [.ref a_text_items, .int v_text_count])), (a_text_items, .inl (k_text_items, 64, .inl f_text_items)), (a_row, .inr (0, [.ref a_row_items, .int v_row_count])), (a_row_items, .inl (k_row_items, 99, .inl f_row_items)), (a_strip, .inr (0, [.ref a_strip_items, .int v_strip_count])), (a_strip_items, .inl (k_strip_items, 800, .inl f_strip_items)), (a_packer, .inr (1, [.ref a_text, .ref a_row, .ref a_packer_costs])), (a_packer_costs, .inl (k_packer_costs, 195, .inl f_packer_costs)), (a_reader, .inr (2, [.ref a_strip, .ref a_reader_told, .int v_reader_fromBack, .int v_reader_set, .int v_reader_shifted])), (a_reader_told, .inr (0, [.ref a_reader_told_items, .int v_reader_told_count])), (a_reader_told_items, .inl (k_reader_told_items, 260, .inl f_reader_told_items))] sz) [(a_this, .inr (3, [.ref a_text, .ref a_row, .ref a_strip, .ref a_packer, .ref a_reader])), (a_text, .inr (0, [.ref a_text_items, .int v_text_count])), (a_text_items, .inl (k_text_items, 64, .inl f_text_items)), (a_row, .inr (0, [.ref a_row_items, .int v_row_count])), (a_row_items, .inl (k_row_items, 99, .inl f_row_items)), (a_strip, .inr (0, [.ref a_strip_items, .int u.1])), (a_strip_items, .inl (k_strip_items, 800, .inl u.2)), (a_packer, .inr (1, [.ref a_text, .ref a_row, .ref a_packer_costs])), (a_packer_costs, .inl (k_packer_costs, 195, .inl f_packer_costs)), (a_reader, .inr (2, [.ref a_strip, .ref a_reader_told, .int v_reader_fromBack, .int v_reader_set, .int v_reader_shifted])), (a_reader_told, .inr (0, [.ref a_reader_told_items, .int v_reader_told_count])), (a_reader_told_items, .inl (k_reader_told_items, 260, .inl f_reader_told_items))] t) (va_A [(a_this, .inr (3, [.ref a_text, .ref a_row, .ref a_strip, .ref a_packer, .ref a_reader])), (a_text, .inr (0, [.ref a_text_items, .int v_text_count])), (a_text_items, .inl (k_text_items, 64, .inl f_text_items)), (a_row, .inr (0, [.ref a_row_items, .int v_row_count])), (a_row_items, .inl (k_row_items, 99, .inl f_row_items)), (a_strip, .inr (0, [.ref a_strip_items, .int v_strip_count])), (a_strip_items, .inl (k_strip_items, 800, .inl f_strip_items)), (a_packer, .inr (1, [.ref a_text, .ref a_row, .ref a_packer_costs])), (a_packer_costs, .inl (k_packer_costs, 195, .inl f_packer_costs)), (a_reader, .inr (2, [.ref a_strip, .ref a_reader_told, .int v_reader_fromBack, .int v_reader_set, .int v_reader_shifted])), (a_reader_told, .inr (0, [.ref a_reader_told_items, .int v_reader_told_count])), (a_reader_told_items, .inl (k_reader_told_items, 260, .inl f_reader_told_items))] sz)) 0 0 (va_A [(a_this, .inr (3, [.ref a_text, .ref a_row, .ref a_strip, .ref a_packer, .ref a_reader])), (a_text, .inr (0, [.ref a_text_items, .int v_text_count])), (a_text_items, .inl (k_text_items, 64, .inl f_text_items)), (a_row, .inr (0, [.ref a_row_items, .int v_row_count])), (a_row_items, .inl (k_row_items, 99, .inl f_row_items)), (a_strip, .inr (0, [.ref a_strip_items, .int v_strip_count])), (a_strip_items, .inl (k_strip_items, 800, .inl f_strip_items)), (a_packer, .inr (1, [.ref a_text, .ref a_row, .ref a_packer_costs])), (a_packer_costs, .inl (k_packer_costs, 195, .inl f_packer_costs)), (a_reader, .inr (2, [.ref a_strip, .ref a_reader_told, .int v_reader_fromBack, .int v_reader_set, .int v_reader_shifted])), (a_reader_told, .inr (0, [.ref a_reader_told_items, .int v_reader_told_count])), (a_reader_told_items, .inl (k_reader_told_items, 260, .inl f_reader_told_items))] sz) := by
  refine Met.ofW (cc := c_Lc_addWidths) (maxL := 4) (ret := (none)) (by decide) rfl ?_
  intro p e s m args below meth c s₁ B hml hv
  obtain ⟨rfl, hsz, hP, hK, hD0, hZ⟩ := hv
  have hx := B.exec
  have hb := B.bytes
  have hr := B.returns
  have hts0 := atoms_spec (ws := ws_Lc_addWidths) B.pre
  have hts := fun (w : Cond) (h : w ∈ tb) => hts0 w (List.mem_cons_of_mem _ h)
  have hown : s.vm.findClass R_Lc = some m.cls := findClass_of_methodNamed B.named
  have hlocks := B.notSynchronized
  subst hsz
  have hD := hD0.self (sz := s.heap.size)
  generalize hAe : va_A [(a_this, .inr (3, [.ref a_text, .ref a_row, .ref a_strip, .ref a_packer, .ref a_reader])), (a_text, .inr (0, [.ref a_text_items, .int v_text_count])), (a_text_items, .inl (k_text_items, 64, .inl f_text_items)), (a_row, .inr (0, [.ref a_row_items, .int v_row_count])), (a_row_items, .inl (k_row_items, 99, .inl f_row_items)), (a_strip, .inr (0, [.ref a_strip_items, .int v_strip_count])), (a_strip_items, .inl (k_strip_items, 800, .inl f_strip_items)), (a_packer, .inr (1, [.ref a_text, .ref a_row, .ref a_packer_costs])), (a_packer_costs, .inl (k_packer_costs, 195, .inl f_packer_costs)), (a_reader, .inr (2, [.ref a_strip, .ref a_reader_told, .int v_reader_fromBack, .int v_reader_set, .int v_reader_shifted])), (a_reader_told, .inr (0, [.ref a_reader_told_items, .int v_reader_told_count])), (a_reader_told_items, .inl (k_reader_told_items, 260, .inl f_reader_told_items))] s.heap.size = A at hD hZ ⊢
  have hA : ∀ q : Nat, s.heap.size ≤ q → A q := fun q h => by rw [← hAe]; exact Or.inr h
  have hS : va_S A s.heap s.heap [] := va_S.rf
  have hl := lv_entry ([.ref a_this, .int x1, .int x2]) (n := 4) (Nat.le_of_ble_eq_true rfl)
  rw [lg_entry_eq]
  generalize (lg_sl ([.ref a_this, .int x1, .int x2]) ++ List.replicate (4 - (lg_sl ([.ref a_this, .int x1, .int x2])).length) Slot.unset).toArray = ls at hl ⊢
  have hl : lv_has ls 4 [(0, .ref a_this), (1, .int x1), (2, .int x2)] := hl
  unfold w_Lc_addWidths at hw
  refine lv_ldc (v := 1000000) hx hb hown (hts _ mm_498) d_Lc_addWidths_0 ?_
  refine lv_istore_n (lv' := [(3, .int 1000000), (0, .ref a_this), (1, .int x1), (2, .int x2)]) hx hb d_Lc_addWidths_2 rfl hl (by decide) rfl (fun ls hl => ?_)
  obtain ⟨n9, hw⟩ := hw
  exact lp_Lc_addWidths_3 l D Z hz ad hk a_this a_text a_text_items a_row a_row_items a_strip a_strip_items a_packer a_packer_costs a_reader a_reader_told a_reader_told_items k_text_items k_row_items k_strip_items k_packer_costs k_reader_told_items v_text_count f_text_items v_row_count f_row_items f_packer_costs v_reader_fromBack v_reader_set v_reader_shifted v_reader_told_count f_reader_told_items x1 x2 hx hb hml hr hts hown hlocks hK hZ hA n9 v_strip_count f_strip_items 1000000 hw _ _ (hP.sub [0, 1, 2, 3, 4, 5, 6, 7, 8, 9, 10, 11] rfl) (hD.sub [0, 1, 2, 3, 4, 5, 6, 7, 8, 9, 10, 11] (by decide) rfl) hS ls (lv_sub hl [1, 2, 3, 0] rfl)
-- LineCodes.clear()I
def w_Lc_clear (post : Int32 → Int32 → Prop) (v_strip_count : Int32) : Prop := w_It_empty (fun r1 s2 => post r1 s2) v_strip_count
abbrev rm_Lc_clear : Room := { frames := 1, cells := 0, slots := 0, locals := 21 }
set_option maxHeartbeats 4000000 in
set_option maxRecDepth 100000 in
theorem met_Lc_clear (l : Launch) (D : va_G) (Z : (Nat → Prop) → State → Heap → Prop) (hz : zk Z) (ad : Nat → Nat) (hk : zs Z ad) (a_this : Nat) (a_text : Nat) (a_text_items : Nat) (a_row : Nat) (a_row_items : Nat) (a_strip : Nat) (a_strip_items : Nat) (a_packer : Nat) (a_packer_costs : Nat) (a_reader : Nat) (a_reader_told : Nat) (a_reader_told_items : Nat) (k_text_items : ClassId) (k_row_items : ClassId) (k_strip_items : ClassId) (k_packer_costs : ClassId) (k_reader_told_items : ClassId) (v_text_count : Int32) (f_text_items : Nat → Int32) (v_row_count : Int32) (f_row_items : Nat → Int32) (v_strip_count : Int32) (f_strip_items : Nat → Int32) (f_packer_costs : Nat → Int32) (v_reader_fromBack : Int32) (v_reader_set : Int32) (v_reader_shifted : Int32) (v_reader_told_count : Int32) (f_reader_told_items : Nat → Int32) (sz : Nat) {post : Int32 → Int32 → Prop} (hw : w_Lc_clear post v_strip_count) : Met l y_Lc_clear ws_Lc_clear rm_Lc_clear (va_Pc [.ref a_this] (rw_ D vwCl [(k_text_items, .int), (k_row_items, .int), (k_strip_items, .int), (k_packer_costs, .int), (k_reader_told_items, .int)] [(a_this, .inr (3, [.ref a_text, .ref a_row, .ref a_strip, .ref a_packer, .ref a_reader])), (a_text, .inr (0, [.ref a_text_items, .int v_text_count])), (a_text_items, .inl (k_text_items, 64, .inl f_text_items)), (a_row, .inr (0, [.ref a_row_items, .int v_row_count])), (a_row_items, .inl (k_row_items, 99, .inl f_row_items)), (a_strip, .inr (0, [.ref a_strip_items, .int v_strip_count])), (a_strip_items, .inl (k_strip_items, 800, .inl f_strip_items)), (a_packer, .inr (1, [.ref a_text, .ref a_row, .ref a_packer_costs])), (a_packer_costs, .inl (k_packer_costs, 195, .inl f_packer_costs)), (a_reader, .inr (2, [.ref a_strip, .ref a_reader_told, .int v_reader_fromBack, .int v_reader_set, .int v_reader_shifted])), (a_reader_told, .inr (0, [.ref a_reader_told_items, .int v_reader_told_count])), (a_reader_told_items, .inl (k_reader_told_items, 260, .inl f_reader_told_items))] (Z) sz)) (va_Qi (fun (r : Int32) (u : Int32) => post r u) (fun u t => at_ D vwCl [(k_text_items, .int), (k_row_items, .int), (k_strip_items, .int), (k_packer_costs, .int), (k_reader_told_items, .int)] (va_A [(a_this, .inr (3, [.ref a_text, .ref a_row, .ref a_strip, .ref a_packer, .ref a_reader])), (a_text, .inr (0, [.ref a_text_items, .int v_text_count])), (a_text_items, .inl (k_text_items, 64, .inl f_text_items)), (a_row, .inr (0, [.ref a_row_items, .int v_row_count])), (a_row_items, .inl (k_row_items, 99, .inl f_row_items)), (a_strip, .inr (0, [.ref a_strip_items, .int v_strip_count])), (a_strip_items, .inl (k_strip_items, 800, .inl f_strip_items)), (a_packer, .inr (1, [.ref a_text, .ref a_row, .ref a_packer_costs])), (a_packer_costs, .inl (k_packer_costs, 195, .inl f_packer_costs)), (a_reader, .inr (2, [.ref a_strip, .ref a_reader_told, .int v_reader_fromBack, .int v_reader_set, .int v_reader_shifted])), (a_reader_told, .inr (0, [.ref a_reader_told_items, .int v_reader_told_count])), (a_reader_told_items, .inl (k_reader_told_items, 260, .inl f_reader_told_items))] sz) [(a_this, .inr (3, [.ref a_text, .ref a_row, .ref a_strip, .ref a_packer, .ref a_reader])), (a_text, .inr (0, [.ref a_text_items, .int v_text_count])), (a_text_items, .inl (k_text_items, 64, .inl f_text_items)), (a_row, .inr (0, [.ref a_row_items, .int v_row_count])), (a_row_items, .inl (k_row_items, 99, .inl f_row_items)), (a_strip, .inr (0, [.ref a_strip_items, .int u])), (a_strip_items, .inl (k_strip_items, 800, .inl f_strip_items)), (a_packer, .inr (1, [.ref a_text, .ref a_row, .ref a_packer_costs])), (a_packer_costs, .inl (k_packer_costs, 195, .inl f_packer_costs)), (a_reader, .inr (2, [.ref a_strip, .ref a_reader_told, .int v_reader_fromBack, .int v_reader_set, .int v_reader_shifted])), (a_reader_told, .inr (0, [.ref a_reader_told_items, .int v_reader_told_count])), (a_reader_told_items, .inl (k_reader_told_items, 260, .inl f_reader_told_items))] t) (va_A [(a_this, .inr (3, [.ref a_text, .ref a_row, .ref a_strip, .ref a_packer, .ref a_reader])), (a_text, .inr (0, [.ref a_text_items, .int v_text_count])), (a_text_items, .inl (k_text_items, 64, .inl f_text_items)), (a_row, .inr (0, [.ref a_row_items, .int v_row_count])), (a_row_items, .inl (k_row_items, 99, .inl f_row_items)), (a_strip, .inr (0, [.ref a_strip_items, .int v_strip_count])), (a_strip_items, .inl (k_strip_items, 800, .inl f_strip_items)), (a_packer, .inr (1, [.ref a_text, .ref a_row, .ref a_packer_costs])), (a_packer_costs, .inl (k_packer_costs, 195, .inl f_packer_costs)), (a_reader, .inr (2, [.ref a_strip, .ref a_reader_told, .int v_reader_fromBack, .int v_reader_set, .int v_reader_shifted])), (a_reader_told, .inr (0, [.ref a_reader_told_items, .int v_reader_told_count])), (a_reader_told_items, .inl (k_reader_told_items, 260, .inl f_reader_told_items))] sz)) 0 0 (va_A [(a_this, .inr (3, [.ref a_text, .ref a_row, .ref a_strip, .ref a_packer, .ref a_reader])), (a_text, .inr (0, [.ref a_text_items, .int v_text_count])), (a_text_items, .inl (k_text_items, 64, .inl f_text_items)), (a_row, .inr (0, [.ref a_row_items, .int v_row_count])), (a_row_items, .inl (k_row_items, 99, .inl f_row_items)), (a_strip, .inr (0, [.ref a_strip_items, .int v_strip_count])), (a_strip_items, .inl (k_strip_items, 800, .inl f_strip_items)), (a_packer, .inr (1, [.ref a_text, .ref a_row, .ref a_packer_costs])), (a_packer_costs, .inl (k_packer_costs, 195, .inl f_packer_costs)), (a_reader, .inr (2, [.ref a_strip, .ref a_reader_told, .int v_reader_fromBack, .int v_reader_set, .int v_reader_shifted])), (a_reader_told, .inr (0, [.ref a_reader_told_items, .int v_reader_told_count])), (a_reader_told_items, .inl (k_reader_told_items, 260, .inl f_reader_told_items))] sz) := by
  refine Met.ofW (cc := c_Lc_clear) (maxL := 1) (ret := (some .int)) (by decide) rfl ?_
  intro p e s m args below meth c s₁ B hml hv
  obtain ⟨rfl, hsz, hP, hK, hD0, hZ⟩ := hv
  have hx := B.exec
  have hb := B.bytes
  have hr := B.returns
  have hts0 := atoms_spec (ws := ws_Lc_clear) B.pre
  have hts := fun (w : Cond) (h : w ∈ tb) => hts0 w (List.mem_cons_of_mem _ h)
  have hown : s.vm.findClass R_Lc = some m.cls := findClass_of_methodNamed B.named
  have hlocks := B.notSynchronized
  subst hsz
  have hD := hD0.self (sz := s.heap.size)
  generalize hAe : va_A [(a_this, .inr (3, [.ref a_text, .ref a_row, .ref a_strip, .ref a_packer, .ref a_reader])), (a_text, .inr (0, [.ref a_text_items, .int v_text_count])), (a_text_items, .inl (k_text_items, 64, .inl f_text_items)), (a_row, .inr (0, [.ref a_row_items, .int v_row_count])), (a_row_items, .inl (k_row_items, 99, .inl f_row_items)), (a_strip, .inr (0, [.ref a_strip_items, .int v_strip_count])), (a_strip_items, .inl (k_strip_items, 800, .inl f_strip_items)), (a_packer, .inr (1, [.ref a_text, .ref a_row, .ref a_packer_costs])), (a_packer_costs, .inl (k_packer_costs, 195, .inl f_packer_costs)), (a_reader, .inr (2, [.ref a_strip, .ref a_reader_told, .int v_reader_fromBack, .int v_reader_set, .int v_reader_shifted])), (a_reader_told, .inr (0, [.ref a_reader_told_items, .int v_reader_told_count])), (a_reader_told_items, .inl (k_reader_told_items, 260, .inl f_reader_told_items))] s.heap.size = A at hD hZ ⊢
  have hA : ∀ q : Nat, s.heap.size ≤ q → A q := fun q h => by rw [← hAe]; exact Or.inr h
  have hS : va_S A s.heap s.heap [] := va_S.rf
  have hl := lv_entry ([.ref a_this]) (n := 1) (Nat.le_of_ble_eq_true rfl)
  rw [lg_entry_eq]
  generalize (lg_sl ([.ref a_this]) ++ List.replicate (1 - (lg_sl ([.ref a_this])).length) Slot.unset).toArray = ls at hl ⊢
  have hl : lv_has ls 1 [(0, .ref a_this)] := hl
  unfold w_Lc_clear at hw
  refine lv_aload_n hx hb d_Lc_clear_0 rfl (lv_at hl 0 rfl) ?_
  refine va_get (D := D) (ci := 3) (v := .ref a_strip) (C := R_Lc) (T := T_Lc) (N := 5) hx hb hts in_Lc hown hK hP 0 rfl rfl 2 (by decide) (hts _ mm_123) (fun _ h9 => h9) rfl d_Lc_clear_1 ?_
  refine k_rwVi (As := []) (rest := []) (wr := [(a_this, .inr (3, [.ref a_text, .ref a_row, .ref a_strip, .ref a_packer, .ref a_reader])), (a_text, .inr (0, [.ref a_text_items, .int v_text_count])), (a_text_items, .inl (k_text_items, 64, .inl f_text_items)), (a_row, .inr (0, [.ref a_row_items, .int v_row_count])), (a_row_items, .inl (k_row_items, 99, .inl f_row_items)), (a_packer, .inr (1, [.ref a_text, .ref a_row, .ref a_packer_costs])), (a_packer_costs, .inl (k_packer_costs, 195, .inl f_packer_costs)), (a_reader, .inr (2, [.ref a_strip, .ref a_reader_told, .int v_reader_fromBack, .int v_reader_set, .int v_reader_shifted])), (a_reader_told, .inr (0, [.ref a_reader_told_items, .int v_reader_told_count])), (a_reader_told_items, .inl (k_reader_told_items, 260, .inl f_reader_told_items))]) hz [5, 6] [0, 1, 2, 3, 4, 7, 8, 9, 10, 11] [2] 5 0 ⟨hx, hb, hml, hown, hts⟩ (met_It_empty l D Z hz ad hk a_strip a_strip_items k_strip_items 800 v_strip_count f_strip_items _ hw) (cwV 0 hts (g_V mm_141 mm_142 mm_143 mm_42 mm_144) rfl rfl rfl hd_It_empty ⟨Nat.le_of_ble_eq_true rfl, Nat.le_of_ble_eq_true rfl⟩) hP hD hK hZ hS hA rfl rfl rfl rfl rfl (by decide) rfl rfl rfl rfl hl.1 rfl (Nat.le_of_ble_eq_true rfl) d_Lc_clear_4 ⟨Nat.le_of_ble_eq_true rfl, Nat.le_of_ble_eq_true rfl⟩ (fun r1 s2 H locs hw hP hD hS => ?_)
  try dsimp only at hw
  have hP : va_P D vwCl [(a_this, .inr (3, [.ref a_text, .ref a_row, .ref a_strip, .ref a_packer, .ref a_reader])), (a_text, .inr (0, [.ref a_text_items, .int v_text_count])), (a_text_items, .inl (k_text_items, 64, .inl f_text_items)), (a_row, .inr (0, [.ref a_row_items, .int v_row_count])), (a_row_items, .inl (k_row_items, 99, .inl f_row_items)), (a_packer, .inr (1, [.ref a_text, .ref a_row, .ref a_packer_costs])), (a_packer_costs, .inl (k_packer_costs, 195, .inl f_packer_costs)), (a_reader, .inr (2, [.ref a_strip, .ref a_reader_told, .int v_reader_fromBack, .int v_reader_set, .int v_reader_shifted])), (a_reader_told, .inr (0, [.ref a_reader_told_items, .int v_reader_told_count])), (a_reader_told_items, .inl (k_reader_told_items, 260, .inl f_reader_told_items)), (a_strip, .inr (0, [.ref a_strip_items, .int s2])), (a_strip_items, .inl (k_strip_items, 800, .inl f_strip_items))] H := hP
  have hD : va_D A [(a_this, .inr (3, [.ref a_text, .ref a_row, .ref a_strip, .ref a_packer, .ref a_reader])), (a_text, .inr (0, [.ref a_text_items, .int v_text_count])), (a_text_items, .inl (k_text_items, 64, .inl f_text_items)), (a_row, .inr (0, [.ref a_row_items, .int v_row_count])), (a_row_items, .inl (k_row_items, 99, .inl f_row_items)), (a_packer, .inr (1, [.ref a_text, .ref a_row, .ref a_packer_costs])), (a_packer_costs, .inl (k_packer_costs, 195, .inl f_packer_costs)), (a_reader, .inr (2, [.ref a_strip, .ref a_reader_told, .int v_reader_fromBack, .int v_reader_set, .int v_reader_shifted])), (a_reader_told, .inr (0, [.ref a_reader_told_items, .int v_reader_told_count])), (a_reader_told_items, .inl (k_reader_told_items, 260, .inl f_reader_told_items)), (a_strip, .inr (0, [.ref a_strip_items, .int s2])), (a_strip_items, .inl (k_strip_items, 800, .inl f_strip_items))] := hD
  have hP9 := hP.sub (ws' := [(a_this, .inr (3, [.ref a_text, .ref a_row, .ref a_strip, .ref a_packer, .ref a_reader])), (a_text, .inr (0, [.ref a_text_items, .int v_text_count])), (a_text_items, .inl (k_text_items, 64, .inl f_text_items)), (a_row, .inr (0, [.ref a_row_items, .int v_row_count])), (a_row_items, .inl (k_row_items, 99, .inl f_row_items)), (a_strip, .inr (0, [.ref a_strip_items, .int s2])), (a_strip_items, .inl (k_strip_items, 800, .inl f_strip_items)), (a_packer, .inr (1, [.ref a_text, .ref a_row, .ref a_packer_costs])), (a_packer_costs, .inl (k_packer_costs, 195, .inl f_packer_costs)), (a_reader, .inr (2, [.ref a_strip, .ref a_reader_told, .int v_reader_fromBack, .int v_reader_set, .int v_reader_shifted])), (a_reader_told, .inr (0, [.ref a_reader_told_items, .int v_reader_told_count])), (a_reader_told_items, .inl (k_reader_told_items, 260, .inl f_reader_told_items))]) [0, 1, 2, 3, 4, 10, 11, 5, 6, 7, 8, 9] rfl
  have hD9 := hD.sub (ws' := [(a_this, .inr (3, [.ref a_text, .ref a_row, .ref a_strip, .ref a_packer, .ref a_reader])), (a_text, .inr (0, [.ref a_text_items, .int v_text_count])), (a_text_items, .inl (k_text_items, 64, .inl f_text_items)), (a_row, .inr (0, [.ref a_row_items, .int v_row_count])), (a_row_items, .inl (k_row_items, 99, .inl f_row_items)), (a_strip, .inr (0, [.ref a_strip_items, .int s2])), (a_strip_items, .inl (k_strip_items, 800, .inl f_strip_items)), (a_packer, .inr (1, [.ref a_text, .ref a_row, .ref a_packer_costs])), (a_packer_costs, .inl (k_packer_costs, 195, .inl f_packer_costs)), (a_reader, .inr (2, [.ref a_strip, .ref a_reader_told, .int v_reader_fromBack, .int v_reader_set, .int v_reader_shifted])), (a_reader_told, .inr (0, [.ref a_reader_told_items, .int v_reader_told_count])), (a_reader_told_items, .inl (k_reader_told_items, 260, .inl f_reader_told_items))]) [0, 1, 2, 3, 4, 10, 11, 5, 6, 7, 8, 9] (by decide) rfl
  exact W.iret (v := r1) hx hb hr (fun t ht hW => ⟨⟨r1, s2, rfl, hw, by rw [ht]; exact hP9, va_K.moved hW.alike hK, hD9⟩, hS.F ht⟩) hS.2.2 d_Lc_clear_7
-- LineCodes.width(I)I
def w_Lc_width (post : Int32 → Prop) (v_strip_count : Int32) (f_strip_items : Nat → Int32) (x1 : Int32) : Prop := w_It_at (fun r1 => post r1) 800 v_strip_count f_strip_items x1
abbrev rm_Lc_width : Room := { frames := 1, cells := 0, slots := 0, locals := 21 }
set_option maxHeartbeats 4000000 in
set_option maxRecDepth 100000 in
theorem met_Lc_width (l : Launch) (D : va_G) (Z : (Nat → Prop) → State → Heap → Prop) (hz : zk Z) (ad : Nat → Nat) (hk : zs Z ad) (a_this : Nat) (a_text : Nat) (a_text_items : Nat) (a_row : Nat) (a_row_items : Nat) (a_strip : Nat) (a_strip_items : Nat) (a_packer : Nat) (a_packer_costs : Nat) (a_reader : Nat) (a_reader_told : Nat) (a_reader_told_items : Nat) (k_text_items : ClassId) (k_row_items : ClassId) (k_strip_items : ClassId) (k_packer_costs : ClassId) (k_reader_told_items : ClassId) (v_text_count : Int32) (f_text_items : Nat → Int32) (v_row_count : Int32) (f_row_items : Nat → Int32) (v_strip_count : Int32) (f_strip_items : Nat → Int32) (f_packer_costs : Nat → Int32) (v_reader_fromBack : Int32) (v_reader_set : Int32) (v_reader_shifted : Int32) (v_reader_told_count : Int32) (f_reader_told_items : Nat → Int32) (x1 : Int32) {post : Int32 → Prop} (hw : w_Lc_width post v_strip_count f_strip_items x1) : Met l y_Lc_width ws_Lc_width rm_Lc_width (va_Pc [.ref a_this, .int x1] (ro_ D vwCl [(k_text_items, .int), (k_row_items, .int), (k_strip_items, .int), (k_packer_costs, .int), (k_reader_told_items, .int)] [(a_this, .inr (3, [.ref a_text, .ref a_row, .ref a_strip, .ref a_packer, .ref a_reader])), (a_text, .inr (0, [.ref a_text_items, .int v_text_count])), (a_text_items, .inl (k_text_items, 64, .inl f_text_items)), (a_row, .inr (0, [.ref a_row_items, .int v_row_count])), (a_row_items, .inl (k_row_items, 99, .inl f_row_items)), (a_strip, .inr (0, [.ref a_strip_items, .int v_strip_count])), (a_strip_items, .inl (k_strip_items, 800, .inl f_strip_items)), (a_packer, .inr (1, [.ref a_text, .ref a_row, .ref a_packer_costs])), (a_packer_costs, .inl (k_packer_costs, 195, .inl f_packer_costs)), (a_reader, .inr (2, [.ref a_strip, .ref a_reader_told, .int v_reader_fromBack, .int v_reader_set, .int v_reader_shifted])), (a_reader_told, .inr (0, [.ref a_reader_told_items, .int v_reader_told_count])), (a_reader_told_items, .inl (k_reader_told_items, 260, .inl f_reader_told_items))] (Z))) (vp_Si post) 0 0 (fun _ => False) := by
  refine Met.ofW (cc := c_Lc_width) (maxL := 2) (ret := (some .int)) (by decide) rfl ?_
  intro p e s m args below meth c s₁ B hml hv
  obtain ⟨rfl, hP, hK, hZ⟩ := hv
  have hx := B.exec
  have hb := B.bytes
  have hr := B.returns
  have hts0 := atoms_spec (ws := ws_Lc_width) B.pre
  have hts := fun (w : Cond) (h : w ∈ tb) => hts0 w (List.mem_cons_of_mem _ h)
  have hown : s.vm.findClass R_Lc = some m.cls := findClass_of_methodNamed B.named
  have hlocks := B.notSynchronized
  have hS : va_S (fun _ => False) s.heap s.heap [] := va_S.rf
  have hl := lv_entry ([.ref a_this, .int x1]) (n := 2) (Nat.le_of_ble_eq_true rfl)
  rw [lg_entry_eq]
  generalize (lg_sl ([.ref a_this, .int x1]) ++ List.replicate (2 - (lg_sl ([.ref a_this, .int x1])).length) Slot.unset).toArray = ls at hl ⊢
  have hl : lv_has ls 2 [(0, .ref a_this), (1, .int x1)] := hl
  unfold w_Lc_width at hw
  refine lv_aload_n hx hb d_Lc_width_0 rfl (lv_at hl 0 rfl) ?_
  refine va_get (D := D) (ci := 3) (v := .ref a_strip) (C := R_Lc) (T := T_Lc) (N := 5) hx hb hts in_Lc hown hK hP 0 rfl rfl 2 (by decide) (hts _ mm_123) (fun _ h9 => h9) rfl d_Lc_width_1 ?_
  refine lv_iload_n hx hb d_Lc_width_4 rfl (lv_at hl 1 rfl) ?_
  refine k_roVi (As := [.int x1]) (rest := []) hz [5, 6] [2] 5 0 ⟨hx, hb, hml, hown, hts⟩ (met_It_at l D Z hz ad hk a_strip a_strip_items k_strip_items 800 v_strip_count f_strip_items x1 hw) (cwV 1 hts (g_V mm_229 mm_167 mm_168 mm_42 mm_169) rfl rfl rfl hd_It_at ⟨Nat.le_of_ble_eq_true rfl, Nat.le_of_ble_eq_true rfl⟩) hP hK hZ hS rfl rfl rfl rfl rfl hl.1 rfl (Nat.le_of_ble_eq_true rfl) d_Lc_width_5 ⟨Nat.le_of_ble_eq_true rfl, Nat.le_of_ble_eq_true rfl⟩ (fun r1 hw => ?_)
  exact W.iret (v := r1) hx hb hr (fun t ht hW => ⟨r1, rfl, hw, ht⟩) hS.2.2 d_Lc_width_8
-- LineCodes.turn()I
def w_Lc_turn (post : Int32 → (Nat → Int32) → Prop) (v_strip_count : Int32) (f_strip_items : Nat → Int32) : Prop := w_It_reverse (fun s1 => w_It_count (fun r2 => post r2 s1) v_strip_count) 800 v_strip_count f_strip_items
abbrev rm_Lc_turn : Room := { frames := 2, cells := 0, slots := 0, locals := 44 }
set_option maxHeartbeats 4000000 in
set_option maxRecDepth 100000 in
theorem met_Lc_turn (l : Launch) (D : va_G) (Z : (Nat → Prop) → State → Heap → Prop) (hz : zk Z) (ad : Nat → Nat) (hk : zs Z ad) (a_this : Nat) (a_text : Nat) (a_text_items : Nat) (a_row : Nat) (a_row_items : Nat) (a_strip : Nat) (a_strip_items : Nat) (a_packer : Nat) (a_packer_costs : Nat) (a_reader : Nat) (a_reader_told : Nat) (a_reader_told_items : Nat) (k_text_items : ClassId) (k_row_items : ClassId) (k_strip_items : ClassId) (k_packer_costs : ClassId) (k_reader_told_items : ClassId) (v_text_count : Int32) (f_text_items : Nat → Int32) (v_row_count : Int32) (f_row_items : Nat → Int32) (v_strip_count : Int32) (f_strip_items : Nat → Int32) (f_packer_costs : Nat → Int32) (v_reader_fromBack : Int32) (v_reader_set : Int32) (v_reader_shifted : Int32) (v_reader_told_count : Int32) (f_reader_told_items : Nat → Int32) (sz : Nat) {post : Int32 → (Nat → Int32) → Prop} (hw : w_Lc_turn post v_strip_count f_strip_items) : Met l y_Lc_turn ws_Lc_turn rm_Lc_turn (va_Pc [.ref a_this] (rw_ D vwCl [(k_text_items, .int), (k_row_items, .int), (k_strip_items, .int), (k_packer_costs, .int), (k_reader_told_items, .int)] [(a_this, .inr (3, [.ref a_text, .ref a_row, .ref a_strip, .ref a_packer, .ref a_reader])), (a_text, .inr (0, [.ref a_text_items, .int v_text_count])), (a_text_items, .inl (k_text_items, 64, .inl f_text_items)), (a_row, .inr (0, [.ref a_row_items, .int v_row_count])), (a_row_items, .inl (k_row_items, 99, .inl f_row_items)), (a_strip, .inr (0, [.ref a_strip_items, .int v_strip_count])), (a_strip_items, .inl (k_strip_items, 800, .inl f_strip_items)), (a_packer, .inr (1, [.ref a_text, .ref a_row, .ref a_packer_costs])), (a_packer_costs, .inl (k_packer_costs, 195, .inl f_packer_costs)), (a_reader, .inr (2, [.ref a_strip, .ref a_reader_told, .int v_reader_fromBack, .int v_reader_set, .int v_reader_shifted])), (a_reader_told, .inr (0, [.ref a_reader_told_items, .int v_reader_told_count])), (a_reader_told_items, .inl (k_reader_told_items, 260, .inl f_reader_told_items))] (Z) sz)) (va_Qi (fun (r : Int32) (u : (Nat → Int32)) => post r u) (fun u t => at_ D vwCl [(k_text_items, .int), (k_row_items, .int), (k_strip_items, .int), (k_packer_costs, .int), (k_reader_told_items, .int)] (va_A [(a_this, .inr (3, [.ref a_text, .ref a_row, .ref a_strip, .ref a_packer, .ref a_reader])), (a_text, .inr (0, [.ref a_text_items, .int v_text_count])), (a_text_items, .inl (k_text_items, 64, .inl f_text_items)), (a_row, .inr (0, [.ref a_row_items, .int v_row_count])), (a_row_items, .inl (k_row_items, 99, .inl f_row_items)), (a_strip, .inr (0, [.ref a_strip_items, .int v_strip_count])), (a_strip_items, .inl (k_strip_items, 800, .inl f_strip_items)), (a_packer, .inr (1, [.ref a_text, .ref a_row, .ref a_packer_costs])), (a_packer_costs, .inl (k_packer_costs, 195, .inl f_packer_costs)), (a_reader, .inr (2, [.ref a_strip, .ref a_reader_told, .int v_reader_fromBack, .int v_reader_set, .int v_reader_shifted])), (a_reader_told, .inr (0, [.ref a_reader_told_items, .int v_reader_told_count])), (a_reader_told_items, .inl (k_reader_told_items, 260, .inl f_reader_told_items))] sz) [(a_this, .inr (3, [.ref a_text, .ref a_row, .ref a_strip, .ref a_packer, .ref a_reader])), (a_text, .inr (0, [.ref a_text_items, .int v_text_count])), (a_text_items, .inl (k_text_items, 64, .inl f_text_items)), (a_row, .inr (0, [.ref a_row_items, .int v_row_count])), (a_row_items, .inl (k_row_items, 99, .inl f_row_items)), (a_strip, .inr (0, [.ref a_strip_items, .int v_strip_count])), (a_strip_items, .inl (k_strip_items, 800, .inl u)), (a_packer, .inr (1, [.ref a_text, .ref a_row, .ref a_packer_costs])), (a_packer_costs, .inl (k_packer_costs, 195, .inl f_packer_costs)), (a_reader, .inr (2, [.ref a_strip, .ref a_reader_told, .int v_reader_fromBack, .int v_reader_set, .int v_reader_shifted])), (a_reader_told, .inr (0, [.ref a_reader_told_items, .int v_reader_told_count])), (a_reader_told_items, .inl (k_reader_told_items, 260, .inl f_reader_told_items))] t) (va_A [(a_this, .inr (3, [.ref a_text, .ref a_row, .ref a_strip, .ref a_packer, .ref a_reader])), (a_text, .inr (0, [.ref a_text_items, .int v_text_count])), (a_text_items, .inl (k_text_items, 64, .inl f_text_items)), (a_row, .inr (0, [.ref a_row_items, .int v_row_count])), (a_row_items, .inl (k_row_items, 99, .inl f_row_items)), (a_strip, .inr (0, [.ref a_strip_items, .int v_strip_count])), (a_strip_items, .inl (k_strip_items, 800, .inl f_strip_items)), (a_packer, .inr (1, [.ref a_text, .ref a_row, .ref a_packer_costs])), (a_packer_costs, .inl (k_packer_costs, 195, .inl f_packer_costs)), (a_reader, .inr (2, [.ref a_strip, .ref a_reader_told, .int v_reader_fromBack, .int v_reader_set, .int v_reader_shifted])), (a_reader_told, .inr (0, [.ref a_reader_told_items, .int v_reader_told_count])), (a_reader_told_items, .inl (k_reader_told_items, 260, .inl f_reader_told_items))] sz)) 0 0 (va_A [(a_this, .inr (3, [.ref a_text, .ref a_row, .ref a_strip, .ref a_packer, .ref a_reader])), (a_text, .inr (0, [.ref a_text_items, .int v_text_count])), (a_text_items, .inl (k_text_items, 64, .inl f_text_items)), (a_row, .inr (0, [.ref a_row_items, .int v_row_count])), (a_row_items, .inl (k_row_items, 99, .inl f_row_items)), (a_strip, .inr (0, [.ref a_strip_items, .int v_strip_count])), (a_strip_items, .inl (k_strip_items, 800, .inl f_strip_items)), (a_packer, .inr (1, [.ref a_text, .ref a_row, .ref a_packer_costs])), (a_packer_costs, .inl (k_packer_costs, 195, .inl f_packer_costs)), (a_reader, .inr (2, [.ref a_strip, .ref a_reader_told, .int v_reader_fromBack, .int v_reader_set, .int v_reader_shifted])), (a_reader_told, .inr (0, [.ref a_reader_told_items, .int v_reader_told_count])), (a_reader_told_items, .inl (k_reader_told_items, 260, .inl f_reader_told_items))] sz) := by
  refine Met.ofW (cc := c_Lc_turn) (maxL := 1) (ret := (some .int)) (by decide) rfl ?_
  intro p e s m args below meth c s₁ B hml hv
  obtain ⟨rfl, hsz, hP, hK, hD0, hZ⟩ := hv
  have hx := B.exec
  have hb := B.bytes
  have hr := B.returns
  have hts0 := atoms_spec (ws := ws_Lc_turn) B.pre
  have hts := fun (w : Cond) (h : w ∈ tb) => hts0 w (List.mem_cons_of_mem _ h)
  have hown : s.vm.findClass R_Lc = some m.cls := findClass_of_methodNamed B.named
  have hlocks := B.notSynchronized
  subst hsz
  have hD := hD0.self (sz := s.heap.size)
  generalize hAe : va_A [(a_this, .inr (3, [.ref a_text, .ref a_row, .ref a_strip, .ref a_packer, .ref a_reader])), (a_text, .inr (0, [.ref a_text_items, .int v_text_count])), (a_text_items, .inl (k_text_items, 64, .inl f_text_items)), (a_row, .inr (0, [.ref a_row_items, .int v_row_count])), (a_row_items, .inl (k_row_items, 99, .inl f_row_items)), (a_strip, .inr (0, [.ref a_strip_items, .int v_strip_count])), (a_strip_items, .inl (k_strip_items, 800, .inl f_strip_items)), (a_packer, .inr (1, [.ref a_text, .ref a_row, .ref a_packer_costs])), (a_packer_costs, .inl (k_packer_costs, 195, .inl f_packer_costs)), (a_reader, .inr (2, [.ref a_strip, .ref a_reader_told, .int v_reader_fromBack, .int v_reader_set, .int v_reader_shifted])), (a_reader_told, .inr (0, [.ref a_reader_told_items, .int v_reader_told_count])), (a_reader_told_items, .inl (k_reader_told_items, 260, .inl f_reader_told_items))] s.heap.size = A at hD hZ ⊢
  have hA : ∀ q : Nat, s.heap.size ≤ q → A q := fun q h => by rw [← hAe]; exact Or.inr h
  have hS : va_S A s.heap s.heap [] := va_S.rf
  have hl := lv_entry ([.ref a_this]) (n := 1) (Nat.le_of_ble_eq_true rfl)
  rw [lg_entry_eq]
  generalize (lg_sl ([.ref a_this]) ++ List.replicate (1 - (lg_sl ([.ref a_this])).length) Slot.unset).toArray = ls at hl ⊢
  have hl : lv_has ls 1 [(0, .ref a_this)] := hl
  unfold w_Lc_turn at hw
  refine lv_aload_n hx hb d_Lc_turn_0 rfl (lv_at hl 0 rfl) ?_
  refine va_get (D := D) (ci := 3) (v := .ref a_strip) (C := R_Lc) (T := T_Lc) (N := 5) hx hb hts in_Lc hown hK hP 0 rfl rfl 2 (by decide) (hts _ mm_123) (fun _ h9 => h9) rfl d_Lc_turn_1 ?_
  refine k_rwVv (As := []) (rest := []) (wr := [(a_this, .inr (3, [.ref a_text, .ref a_row, .ref a_strip, .ref a_packer, .ref a_reader])), (a_text, .inr (0, [.ref a_text_items, .int v_text_count])), (a_text_items, .inl (k_text_items, 64, .inl f_text_items)), (a_row, .inr (0, [.ref a_row_items, .int v_row_count])), (a_row_items, .inl (k_row_items, 99, .inl f_row_items)), (a_packer, .inr (1, [.ref a_text, .ref a_row, .ref a_packer_costs])), (a_packer_costs, .inl (k_packer_costs, 195, .inl f_packer_costs)), (a_reader, .inr (2, [.ref a_strip, .ref a_reader_told, .int v_reader_fromBack, .int v_reader_set, .int v_reader_shifted])), (a_reader_told, .inr (0, [.ref a_reader_told_items, .int v_reader_told_count])), (a_reader_told_items, .inl (k_reader_told_items, 260, .inl f_reader_told_items))]) hz [5, 6] [0, 1, 2, 3, 4, 7, 8, 9, 10, 11] [2] 5 0 ⟨hx, hb, hml, hown, hts⟩ (met_It_reverse l D Z hz ad hk a_strip a_strip_items k_strip_items 800 v_strip_count f_strip_items _ hw) (cwV 0 hts (g_V mm_242 mm_243 mm_244 mm_42 mm_245) rfl rfl rfl hd_It_reverse ⟨Nat.le_of_ble_eq_true rfl, Nat.le_of_ble_eq_true rfl⟩) hP hD hK hZ hS hA rfl rfl rfl rfl rfl (by decide) rfl rfl rfl rfl hl.1 rfl (Nat.le_of_ble_eq_true rfl) d_Lc_turn_4 ⟨Nat.le_of_ble_eq_true rfl, Nat.le_of_ble_eq_true rfl⟩ (fun s1 H locs hw hP hD hS => ?_)
  try dsimp only at hw
  have hP : va_P D vwCl [(a_this, .inr (3, [.ref a_text, .ref a_row, .ref a_strip, .ref a_packer, .ref a_reader])), (a_text, .inr (0, [.ref a_text_items, .int v_text_count])), (a_text_items, .inl (k_text_items, 64, .inl f_text_items)), (a_row, .inr (0, [.ref a_row_items, .int v_row_count])), (a_row_items, .inl (k_row_items, 99, .inl f_row_items)), (a_packer, .inr (1, [.ref a_text, .ref a_row, .ref a_packer_costs])), (a_packer_costs, .inl (k_packer_costs, 195, .inl f_packer_costs)), (a_reader, .inr (2, [.ref a_strip, .ref a_reader_told, .int v_reader_fromBack, .int v_reader_set, .int v_reader_shifted])), (a_reader_told, .inr (0, [.ref a_reader_told_items, .int v_reader_told_count])), (a_reader_told_items, .inl (k_reader_told_items, 260, .inl f_reader_told_items)), (a_strip, .inr (0, [.ref a_strip_items, .int v_strip_count])), (a_strip_items, .inl (k_strip_items, 800, .inl s1))] H := hP
  have hD : va_D A [(a_this, .inr (3, [.ref a_text, .ref a_row, .ref a_strip, .ref a_packer, .ref a_reader])), (a_text, .inr (0, [.ref a_text_items, .int v_text_count])), (a_text_items, .inl (k_text_items, 64, .inl f_text_items)), (a_row, .inr (0, [.ref a_row_items, .int v_row_count])), (a_row_items, .inl (k_row_items, 99, .inl f_row_items)), (a_packer, .inr (1, [.ref a_text, .ref a_row, .ref a_packer_costs])), (a_packer_costs, .inl (k_packer_costs, 195, .inl f_packer_costs)), (a_reader, .inr (2, [.ref a_strip, .ref a_reader_told, .int v_reader_fromBack, .int v_reader_set, .int v_reader_shifted])), (a_reader_told, .inr (0, [.ref a_reader_told_items, .int v_reader_told_count])), (a_reader_told_items, .inl (k_reader_told_items, 260, .inl f_reader_told_items)), (a_strip, .inr (0, [.ref a_strip_items, .int v_strip_count])), (a_strip_items, .inl (k_strip_items, 800, .inl s1))] := hD
  refine lv_aload_n hx hb d_Lc_turn_7 rfl (lv_at hl 0 rfl) ?_
  refine va_get (D := D) (ci := 3) (v := .ref a_strip) (C := R_Lc) (T := T_Lc) (N := 5) hx hb hts in_Lc hown hK hP 0 rfl rfl 2 (by decide) (hts _ mm_123) (fun _ h9 => h9) rfl d_Lc_turn_8 ?_
  refine k_roVi (As := []) (rest := []) hz [10, 11] [2] 10 0 ⟨hx, hb, hml, hown, hts⟩ (met_It_count l D Z hz ad hk a_strip a_strip_items k_strip_items 800 v_strip_count s1 hw) (cwV 0 hts (g_V mm_224 mm_154 mm_155 mm_42 mm_156) rfl rfl rfl hd_It_count ⟨Nat.le_of_ble_eq_true rfl, Nat.le_of_ble_eq_true rfl⟩) hP hK hZ hS rfl rfl rfl rfl rfl hl.1 rfl (Nat.le_of_ble_eq_true rfl) d_Lc_turn_11 ⟨Nat.le_of_ble_eq_true rfl, Nat.le_of_ble_eq_true rfl⟩ (fun r2 hw => ?_)
  have hP9 := hP.sub (ws' := [(a_this, .inr (3, [.ref a_text, .ref a_row, .ref a_strip, .ref a_packer, .ref a_reader])), (a_text, .inr (0, [.ref a_text_items, .int v_text_count])), (a_text_items, .inl (k_text_items, 64, .inl f_text_items)), (a_row, .inr (0, [.ref a_row_items, .int v_row_count])), (a_row_items, .inl (k_row_items, 99, .inl f_row_items)), (a_strip, .inr (0, [.ref a_strip_items, .int v_strip_count])), (a_strip_items, .inl (k_strip_items, 800, .inl s1)), (a_packer, .inr (1, [.ref a_text, .ref a_row, .ref a_packer_costs])), (a_packer_costs, .inl (k_packer_costs, 195, .inl f_packer_costs)), (a_reader, .inr (2, [.ref a_strip, .ref a_reader_told, .int v_reader_fromBack, .int v_reader_set, .int v_reader_shifted])), (a_reader_told, .inr (0, [.ref a_reader_told_items, .int v_reader_told_count])), (a_reader_told_items, .inl (k_reader_told_items, 260, .inl f_reader_told_items))]) [0, 1, 2, 3, 4, 10, 11, 5, 6, 7, 8, 9] rfl
  have hD9 := hD.sub (ws' := [(a_this, .inr (3, [.ref a_text, .ref a_row, .ref a_strip, .ref a_packer, .ref a_reader])), (a_text, .inr (0, [.ref a_text_items, .int v_text_count])), (a_text_items, .inl (k_text_items, 64, .inl f_text_items)), (a_row, .inr (0, [.ref a_row_items, .int v_row_count])), (a_row_items, .inl (k_row_items, 99, .inl f_row_items)), (a_strip, .inr (0, [.ref a_strip_items, .int v_strip_count])), (a_strip_items, .inl (k_strip_items, 800, .inl s1)), (a_packer, .inr (1, [.ref a_text, .ref a_row, .ref a_packer_costs])), (a_packer_costs, .inl (k_packer_costs, 195, .inl f_packer_costs)), (a_reader, .inr (2, [.ref a_strip, .ref a_reader_told, .int v_reader_fromBack, .int v_reader_set, .int v_reader_shifted])), (a_reader_told, .inr (0, [.ref a_reader_told_items, .int v_reader_told_count])), (a_reader_told_items, .inl (k_reader_told_items, 260, .inl f_reader_told_items))]) [0, 1, 2, 3, 4, 10, 11, 5, 6, 7, 8, 9] (by decide) rfl
  exact W.iret (v := r2) hx hb hr (fun t ht hW => ⟨⟨r2, s1, rfl, hw, by rw [ht]; exact hP9, va_K.moved hW.alike hK, hD9⟩, hS.F ht⟩) hS.2.2 d_Lc_turn_14
-- LineCodes.read()I
def w_Lc_read (post : Int32 → (Nat → Int32) → Int32 → Int32 → Int32 → Int32 → (Nat → Int32) → Prop) (v_strip_count : Int32) (f_strip_items : Nat → Int32) (v_reader_set : Int32) (v_reader_shifted : Int32) (v_reader_told_count : Int32) (f_reader_told_items : Nat → Int32) : Prop := w_Re_isReadable (fun r1 s2 s3 s4 s5 s6 => (¬ r1 = 0 → (r1 = 0 → post (-1) f_strip_items s2 s3 s4 s5 s6) ∧ (¬ r1 = 0 → w_Re_toldCount (fun r9 => post r9 f_strip_items s2 s3 s4 s5 s6) s5)) ∧ (r1 = 0 → w_It_reverse (fun s10 => w_Re_isReadable (fun r11 s12 s13 s14 s15 s16 => w_It_reverse (fun s17 => (r11 = 0 → post (-1) s17 s12 s13 s14 s15 s16) ∧ (¬ r11 = 0 → w_Re_toldCount (fun r19 => post r19 s17 s12 s13 s14 s15 s16) s15)) 800 v_strip_count s10) s3 s4 v_strip_count s10 s5 s6 1) 800 v_strip_count f_strip_items)) v_reader_set v_reader_shifted v_strip_count f_strip_items v_reader_told_count f_reader_told_items 0
abbrev rm_Lc_read : Room := { frames := 6, cells := 0, slots := 0, locals := 139 }
set_option maxHeartbeats 4000000 in
set_option maxRecDepth 100000 in
theorem met_Lc_read (l : Launch) (D : va_G) (Z : (Nat → Prop) → State → Heap → Prop) (hz : zk Z) (ad : Nat → Nat) (hk : zs Z ad) (a_this : Nat) (a_text : Nat) (a_text_items : Nat) (a_row : Nat) (a_row_items : Nat) (a_strip : Nat) (a_strip_items : Nat) (a_packer : Nat) (a_packer_costs : Nat) (a_reader : Nat) (a_reader_told : Nat) (a_reader_told_items : Nat) (k_text_items : ClassId) (k_row_items : ClassId) (k_strip_items : ClassId) (k_packer_costs : ClassId) (k_reader_told_items : ClassId) (v_text_count : Int32) (f_text_items : Nat → Int32) (v_row_count : Int32) (f_row_items : Nat → Int32) (v_strip_count : Int32) (f_strip_items : Nat → Int32) (f_packer_costs : Nat → Int32) (v_reader_fromBack : Int32) (v_reader_set : Int32) (v_reader_shifted : Int32) (v_reader_told_count : Int32) (f_reader_told_items : Nat → Int32) (sz : Nat) {post : Int32 → (Nat → Int32) → Int32 → Int32 → Int32 → Int32 → (Nat → Int32) → Prop} (hw : w_Lc_read post v_strip_count f_strip_items v_reader_set v_reader_shifted v_reader_told_count f_reader_told_items) : Met l y_Lc_read ws_Lc_read rm_Lc_read (va_Pc [.ref a_this] (rw_ D vwCl [(k_text_items, .int), (k_row_items, .int), (k_strip_items, .int), (k_packer_costs, .int), (k_reader_told_items, .int)] [(a_this, .inr (3, [.ref a_text, .ref a_row, .ref a_strip, .ref a_packer, .ref a_reader])), (a_text, .inr (0, [.ref a_text_items, .int v_text_count])), (a_text_items, .inl (k_text_items, 64, .inl f_text_items)), (a_row, .inr (0, [.ref a_row_items, .int v_row_count])), (a_row_items, .inl (k_row_items, 99, .inl f_row_items)), (a_strip, .inr (0, [.ref a_strip_items, .int v_strip_count])), (a_strip_items, .inl (k_strip_items, 800, .inl f_strip_items)), (a_packer, .inr (1, [.ref a_text, .ref a_row, .ref a_packer_costs])), (a_packer_costs, .inl (k_packer_costs, 195, .inl f_packer_costs)), (a_reader, .inr (2, [.ref a_strip, .ref a_reader_told, .int v_reader_fromBack, .int v_reader_set, .int v_reader_shifted])), (a_reader_told, .inr (0, [.ref a_reader_told_items, .int v_reader_told_count])), (a_reader_told_items, .inl (k_reader_told_items, 260, .inl f_reader_told_items))] (Z) sz)) (va_Qi (fun (r : Int32) (u : (Nat → Int32) × Int32 × Int32 × Int32 × Int32 × (Nat → Int32)) => post r u.1 u.2.1 u.2.2.1 u.2.2.2.1 u.2.2.2.2.1 u.2.2.2.2.2) (fun u t => at_ D vwCl [(k_text_items, .int), (k_row_items, .int), (k_strip_items, .int), (k_packer_costs, .int), (k_reader_told_items, .int)] (va_A [(a_this, .inr (3, [.ref a_text, .ref a_row, .ref a_strip, .ref a_packer, .ref a_reader])), (a_text, .inr (0, [.ref a_text_items, .int v_text_count])), (a_text_items, .inl (k_text_items, 64, .inl f_text_items)), (a_row, .inr (0, [.ref a_row_items, .int v_row_count])), (a_row_items, .inl (k_row_items, 99, .inl f_row_items)), (a_strip, .inr (0, [.ref a_strip_items, .int v_strip_count])), (a_strip_items, .inl (k_strip_items, 800, .inl f_strip_items)), (a_packer, .inr (1, [.ref a_text, .ref a_row, .ref a_packer_costs])), (a_packer_costs, .inl (k_packer_costs, 195, .inl f_packer_costs)), (a_reader, .inr (2, [.ref a_strip, .ref a_reader_told, .int v_reader_fromBack, .int v_reader_set, .int v_reader_shifted])), (a_reader_told, .inr (0, [.ref a_reader_told_items, .int v_reader_told_count])), (a_reader_told_items, .inl (k_reader_told_items, 260, .inl f_reader_told_items))] sz) [(a_this, .inr (3, [.ref a_text, .ref a_row, .ref a_strip, .ref a_packer, .ref a_reader])), (a_text, .inr (0, [.ref a_text_items, .int v_text_count])), (a_text_items, .inl (k_text_items, 64, .inl f_text_items)), (a_row, .inr (0, [.ref a_row_items, .int v_row_count])), (a_row_items, .inl (k_row_items, 99, .inl f_row_items)), (a_strip, .inr (0, [.ref a_strip_items, .int v_strip_count])), (a_strip_items, .inl (k_strip_items, 800, .inl u.1)), (a_packer, .inr (1, [.ref a_text, .ref a_row, .ref a_packer_costs])), (a_packer_costs, .inl (k_packer_costs, 195, .inl f_packer_costs)), (a_reader, .inr (2, [.ref a_strip, .ref a_reader_told, .int u.2.1, .int u.2.2.1, .int u.2.2.2.1])), (a_reader_told, .inr (0, [.ref a_reader_told_items, .int u.2.2.2.2.1])), (a_reader_told_items, .inl (k_reader_told_items, 260, .inl u.2.2.2.2.2))] t) (va_A [(a_this, .inr (3, [.ref a_text, .ref a_row, .ref a_strip, .ref a_packer, .ref a_reader])), (a_text, .inr (0, [.ref a_text_items, .int v_text_count])), (a_text_items, .inl (k_text_items, 64, .inl f_text_items)), (a_row, .inr (0, [.ref a_row_items, .int v_row_count])), (a_row_items, .inl (k_row_items, 99, .inl f_row_items)), (a_strip, .inr (0, [.ref a_strip_items, .int v_strip_count])), (a_strip_items, .inl (k_strip_items, 800, .inl f_strip_items)), (a_packer, .inr (1, [.ref a_text, .ref a_row, .ref a_packer_costs])), (a_packer_costs, .inl (k_packer_costs, 195, .inl f_packer_costs)), (a_reader, .inr (2, [.ref a_strip, .ref a_reader_told, .int v_reader_fromBack, .int v_reader_set, .int v_reader_shifted])), (a_reader_told, .inr (0, [.ref a_reader_told_items, .int v_reader_told_count])), (a_reader_told_items, .inl (k_reader_told_items, 260, .inl f_reader_told_items))] sz)) 0 0 (va_A [(a_this, .inr (3, [.ref a_text, .ref a_row, .ref a_strip, .ref a_packer, .ref a_reader])), (a_text, .inr (0, [.ref a_text_items, .int v_text_count])), (a_text_items, .inl (k_text_items, 64, .inl f_text_items)), (a_row, .inr (0, [.ref a_row_items, .int v_row_count])), (a_row_items, .inl (k_row_items, 99, .inl f_row_items)), (a_strip, .inr (0, [.ref a_strip_items, .int v_strip_count])), (a_strip_items, .inl (k_strip_items, 800, .inl f_strip_items)), (a_packer, .inr (1, [.ref a_text, .ref a_row, .ref a_packer_costs])), (a_packer_costs, .inl (k_packer_costs, 195, .inl f_packer_costs)), (a_reader, .inr (2, [.ref a_strip, .ref a_reader_told, .int v_reader_fromBack, .int v_reader_set, .int v_reader_shifted])), (a_reader_told, .inr (0, [.ref a_reader_told_items, .int v_reader_told_count])), (a_reader_told_items, .inl (k_reader_told_items, 260, .inl f_reader_told_items))] sz) := by
  refine Met.ofW (cc := c_Lc_read) (maxL := 2) (ret := (some .int)) (by decide) rfl ?_
  intro p e s m args below meth c s₁ B hml hv
  obtain ⟨rfl, hsz, hP, hK, hD0, hZ⟩ := hv
  have hx := B.exec
  have hb := B.bytes
  have hr := B.returns
  have hts0 := atoms_spec (ws := ws_Lc_read) B.pre
  have hts := fun (w : Cond) (h : w ∈ tb) => hts0 w (List.mem_cons_of_mem _ h)
  have hown : s.vm.findClass R_Lc = some m.cls := findClass_of_methodNamed B.named
  have hlocks := B.notSynchronized
  subst hsz
  have hD := hD0.self (sz := s.heap.size)
  generalize hAe : va_A [(a_this, .inr (3, [.ref a_text, .ref a_row, .ref a_strip, .ref a_packer, .ref a_reader])), (a_text, .inr (0, [.ref a_text_items, .int v_text_count])), (a_text_items, .inl (k_text_items, 64, .inl f_text_items)), (a_row, .inr (0, [.ref a_row_items, .int v_row_count])), (a_row_items, .inl (k_row_items, 99, .inl f_row_items)), (a_strip, .inr (0, [.ref a_strip_items, .int v_strip_count])), (a_strip_items, .inl (k_strip_items, 800, .inl f_strip_items)), (a_packer, .inr (1, [.ref a_text, .ref a_row, .ref a_packer_costs])), (a_packer_costs, .inl (k_packer_costs, 195, .inl f_packer_costs)), (a_reader, .inr (2, [.ref a_strip, .ref a_reader_told, .int v_reader_fromBack, .int v_reader_set, .int v_reader_shifted])), (a_reader_told, .inr (0, [.ref a_reader_told_items, .int v_reader_told_count])), (a_reader_told_items, .inl (k_reader_told_items, 260, .inl f_reader_told_items))] s.heap.size = A at hD hZ ⊢
  have hA : ∀ q : Nat, s.heap.size ≤ q → A q := fun q h => by rw [← hAe]; exact Or.inr h
  have hS : va_S A s.heap s.heap [] := va_S.rf
  have hl := lv_entry ([.ref a_this]) (n := 2) (Nat.le_of_ble_eq_true rfl)
  rw [lg_entry_eq]
  generalize (lg_sl ([.ref a_this]) ++ List.replicate (2 - (lg_sl ([.ref a_this])).length) Slot.unset).toArray = ls at hl ⊢
  have hl : lv_has ls 2 [(0, .ref a_this)] := hl
  unfold w_Lc_read at hw
  refine lv_aload_n hx hb d_Lc_read_0 rfl (lv_at hl 0 rfl) ?_
  refine va_get (D := D) (ci := 3) (v := .ref a_reader) (C := R_Lc) (T := T_Lc) (N := 5) hx hb hts in_Lc hown hK hP 0 rfl rfl 4 (by decide) (hts _ mm_125) (fun _ h9 => h9) rfl d_Lc_read_1 ?_
  refine lv_iconst (v := 0) hx hb d_Lc_read_4 (by decide) ?_
  refine k_rwVi (As := [.int 0]) (rest := []) (wr := [(a_this, .inr (3, [.ref a_text, .ref a_row, .ref a_strip, .ref a_packer, .ref a_reader])), (a_text, .inr (0, [.ref a_text_items, .int v_text_count])), (a_text_items, .inl (k_text_items, 64, .inl f_text_items)), (a_row, .inr (0, [.ref a_row_items, .int v_row_count])), (a_row_items, .inl (k_row_items, 99, .inl f_row_items)), (a_packer, .inr (1, [.ref a_text, .ref a_row, .ref a_packer_costs])), (a_packer_costs, .inl (k_packer_costs, 195, .inl f_packer_costs))]) hz [9, 5, 6, 10, 11] [0, 1, 2, 3, 4, 7, 8] [2, 4] 9 2 ⟨hx, hb, hml, hown, hts⟩ (met_Re_isReadable l D Z hz ad hk a_reader a_strip a_strip_items a_reader_told a_reader_told_items k_strip_items k_reader_told_items v_reader_fromBack v_reader_set v_reader_shifted v_strip_count f_strip_items v_reader_told_count f_reader_told_items 0 _ hw) (cwV 1 hts (g_V mm_255 mm_256 mm_257 mm_45 mm_258) rfl rfl rfl hd_Re_isReadable ⟨Nat.le_of_ble_eq_true rfl, Nat.le_of_ble_eq_true rfl⟩) hP hD hK hZ hS hA rfl rfl rfl rfl rfl (by decide) rfl rfl rfl rfl hl.1 rfl (Nat.le_of_ble_eq_true rfl) d_Lc_read_5 ⟨Nat.le_of_ble_eq_true rfl, Nat.le_of_ble_eq_true rfl⟩ (fun r1 u9 H locs hw hP hD hS => ?_)
  obtain ⟨s2, s3, s4, s5, s6⟩ := u9
  try dsimp only at hw
  have hP : va_P D vwCl [(a_this, .inr (3, [.ref a_text, .ref a_row, .ref a_strip, .ref a_packer, .ref a_reader])), (a_text, .inr (0, [.ref a_text_items, .int v_text_count])), (a_text_items, .inl (k_text_items, 64, .inl f_text_items)), (a_row, .inr (0, [.ref a_row_items, .int v_row_count])), (a_row_items, .inl (k_row_items, 99, .inl f_row_items)), (a_packer, .inr (1, [.ref a_text, .ref a_row, .ref a_packer_costs])), (a_packer_costs, .inl (k_packer_costs, 195, .inl f_packer_costs)), (a_reader, .inr (2, [.ref a_strip, .ref a_reader_told, .int s2, .int s3, .int s4])), (a_strip, .inr (0, [.ref a_strip_items, .int v_strip_count])), (a_strip_items, .inl (k_strip_items, 800, .inl f_strip_items)), (a_reader_told, .inr (0, [.ref a_reader_told_items, .int s5])), (a_reader_told_items, .inl (k_reader_told_items, 260, .inl s6))] H := hP
  have hD : va_D A [(a_this, .inr (3, [.ref a_text, .ref a_row, .ref a_strip, .ref a_packer, .ref a_reader])), (a_text, .inr (0, [.ref a_text_items, .int v_text_count])), (a_text_items, .inl (k_text_items, 64, .inl f_text_items)), (a_row, .inr (0, [.ref a_row_items, .int v_row_count])), (a_row_items, .inl (k_row_items, 99, .inl f_row_items)), (a_packer, .inr (1, [.ref a_text, .ref a_row, .ref a_packer_costs])), (a_packer_costs, .inl (k_packer_costs, 195, .inl f_packer_costs)), (a_reader, .inr (2, [.ref a_strip, .ref a_reader_told, .int s2, .int s3, .int s4])), (a_strip, .inr (0, [.ref a_strip_items, .int v_strip_count])), (a_strip_items, .inl (k_strip_items, 800, .inl f_strip_items)), (a_reader_told, .inr (0, [.ref a_reader_told_items, .int s5])), (a_reader_told_items, .inl (k_reader_told_items, 260, .inl s6))] := hD
  refine lv_istore_n (lv' := [(1, .int r1), (0, .ref a_this)]) hx hb d_Lc_read_8 rfl hl (by decide) rfl (fun ls hl => ?_)
  refine lv_iload_n hx hb d_Lc_read_9 rfl (lv_at hl 0 rfl) ?_
  refine lv_if_ne (tgt := 36) hx hb d_Lc_read_10 (by decide) (fun c7 => ?_) (fun c7 => ?_)
  · have hw := hw.1 c7
    refine lv_iload_n hx hb d_Lc_read_36 rfl (lv_at hl 0 rfl) ?_
    refine lv_if_eq (tgt := 50) hx hb d_Lc_read_37 (by decide) (fun c8 => ?_) (fun c8 => ?_)
    · have hw := hw.1 c8
      refine lv_iconst (v := (-1)) hx hb d_Lc_read_50 (by decide) ?_
      have hP9 := hP.sub (ws' := [(a_this, .inr (3, [.ref a_text, .ref a_row, .ref a_strip, .ref a_packer, .ref a_reader])), (a_text, .inr (0, [.ref a_text_items, .int v_text_count])), (a_text_items, .inl (k_text_items, 64, .inl f_text_items)), (a_row, .inr (0, [.ref a_row_items, .int v_row_count])), (a_row_items, .inl (k_row_items, 99, .inl f_row_items)), (a_strip, .inr (0, [.ref a_strip_items, .int v_strip_count])), (a_strip_items, .inl (k_strip_items, 800, .inl f_strip_items)), (a_packer, .inr (1, [.ref a_text, .ref a_row, .ref a_packer_costs])), (a_packer_costs, .inl (k_packer_costs, 195, .inl f_packer_costs)), (a_reader, .inr (2, [.ref a_strip, .ref a_reader_told, .int s2, .int s3, .int s4])), (a_reader_told, .inr (0, [.ref a_reader_told_items, .int s5])), (a_reader_told_items, .inl (k_reader_told_items, 260, .inl s6))]) [0, 1, 2, 3, 4, 8, 9, 5, 6, 7, 10, 11] rfl
      have hD9 := hD.sub (ws' := [(a_this, .inr (3, [.ref a_text, .ref a_row, .ref a_strip, .ref a_packer, .ref a_reader])), (a_text, .inr (0, [.ref a_text_items, .int v_text_count])), (a_text_items, .inl (k_text_items, 64, .inl f_text_items)), (a_row, .inr (0, [.ref a_row_items, .int v_row_count])), (a_row_items, .inl (k_row_items, 99, .inl f_row_items)), (a_strip, .inr (0, [.ref a_strip_items, .int v_strip_count])), (a_strip_items, .inl (k_strip_items, 800, .inl f_strip_items)), (a_packer, .inr (1, [.ref a_text, .ref a_row, .ref a_packer_costs])), (a_packer_costs, .inl (k_packer_costs, 195, .inl f_packer_costs)), (a_reader, .inr (2, [.ref a_strip, .ref a_reader_told, .int s2, .int s3, .int s4])), (a_reader_told, .inr (0, [.ref a_reader_told_items, .int s5])), (a_reader_told_items, .inl (k_reader_told_items, 260, .inl s6))]) [0, 1, 2, 3, 4, 8, 9, 5, 6, 7, 10, 11] (by decide) rfl
      exact W.iret (v := (-1)) hx hb hr (fun t ht hW => ⟨⟨(-1), (f_strip_items, s2, s3, s4, s5, s6), rfl, hw, by rw [ht]; exact hP9, va_K.moved hW.alike hK, hD9⟩, hS.F ht⟩) hS.2.2 d_Lc_read_51
    · have hw := hw.2 c8
      refine lv_aload_n hx hb d_Lc_read_40 rfl (lv_at hl 1 rfl) ?_
      refine va_get (D := D) (ci := 3) (v := .ref a_reader) (C := R_Lc) (T := T_Lc) (N := 5) hx hb hts in_Lc hown hK hP 0 rfl rfl 4 (by decide) (hts _ mm_125) (fun _ h9 => h9) rfl d_Lc_read_41 ?_
      refine k_roVi (As := []) (rest := []) hz [7, 8, 9, 10, 11] [2, 4] 7 2 ⟨hx, hb, hml, hown, hts⟩ (met_Re_toldCount l D Z hz ad hk a_reader a_strip a_strip_items a_reader_told a_reader_told_items k_strip_items k_reader_told_items s2 s3 s4 v_strip_count f_strip_items s5 s6 hw) (cwV 0 hts (g_V mm_347 mm_348 mm_349 mm_45 mm_350) rfl rfl rfl hd_Re_toldCount ⟨Nat.le_of_ble_eq_true rfl, Nat.le_of_ble_eq_true rfl⟩) hP hK hZ hS rfl rfl rfl rfl rfl hl.1 rfl (Nat.le_of_ble_eq_true rfl) d_Lc_read_44 ⟨Nat.le_of_ble_eq_true rfl, Nat.le_of_ble_eq_true rfl⟩ (fun r9 hw => ?_)
      refine lv_goto (tgt := 51) hx hb d_Lc_read_47 (by decide) ?_
      have hP9 := hP.sub (ws' := [(a_this, .inr (3, [.ref a_text, .ref a_row, .ref a_strip, .ref a_packer, .ref a_reader])), (a_text, .inr (0, [.ref a_text_items, .int v_text_count])), (a_text_items, .inl (k_text_items, 64, .inl f_text_items)), (a_row, .inr (0, [.ref a_row_items, .int v_row_count])), (a_row_items, .inl (k_row_items, 99, .inl f_row_items)), (a_strip, .inr (0, [.ref a_strip_items, .int v_strip_count])), (a_strip_items, .inl (k_strip_items, 800, .inl f_strip_items)), (a_packer, .inr (1, [.ref a_text, .ref a_row, .ref a_packer_costs])), (a_packer_costs, .inl (k_packer_costs, 195, .inl f_packer_costs)), (a_reader, .inr (2, [.ref a_strip, .ref a_reader_told, .int s2, .int s3, .int s4])), (a_reader_told, .inr (0, [.ref a_reader_told_items, .int s5])), (a_reader_told_items, .inl (k_reader_told_items, 260, .inl s6))]) [0, 1, 2, 3, 4, 8, 9, 5, 6, 7, 10, 11] rfl
      have hD9 := hD.sub (ws' := [(a_this, .inr (3, [.ref a_text, .ref a_row, .ref a_strip, .ref a_packer, .ref a_reader])), (a_text, .inr (0, [.ref a_text_items, .int v_text_count])), (a_text_items, .inl (k_text_items, 64, .inl f_text_items)), (a_row, .inr (0, [.ref a_row_items, .int v_row_count])), (a_row_items, .inl (k_row_items, 99, .inl f_row_items)), (a_strip, .inr (0, [.ref a_strip_items, .int v_strip_count])), (a_strip_items, .inl (k_strip_items, 800, .inl f_strip_items)), (a_packer, .inr (1, [.ref a_text, .ref a_row, .ref a_packer_costs])), (a_packer_costs, .inl (k_packer_costs, 195, .inl f_packer_costs)), (a_reader, .inr (2, [.ref a_strip, .ref a_reader_told, .int s2, .int s3, .int s4])), (a_reader_told, .inr (0, [.ref a_reader_told_items, .int s5])), (a_reader_told_items, .inl (k_reader_told_items, 260, .inl s6))]) [0, 1, 2, 3, 4, 8, 9, 5, 6, 7, 10, 11] (by decide) rfl
      exact W.iret (v := r9) hx hb hr (fun t ht hW => ⟨⟨r9, (f_strip_items, s2, s3, s4, s5, s6), rfl, hw, by rw [ht]; exact hP9, va_K.moved hW.alike hK, hD9⟩, hS.F ht⟩) hS.2.2 d_Lc_read_51
  · have hw := hw.2 c7
    refine lv_aload_n hx hb d_Lc_read_13 rfl (lv_at hl 1 rfl) ?_
    refine va_get (D := D) (ci := 3) (v := .ref a_strip) (C := R_Lc) (T := T_Lc) (N := 5) hx hb hts in_Lc hown hK hP 0 rfl rfl 2 (by decide) (hts _ mm_123) (fun _ h9 => h9) rfl d_Lc_read_14 ?_
    refine k_rwVv (As := []) (rest := []) (wr := [(a_this, .inr (3, [.ref a_text, .ref a_row, .ref a_strip, .ref a_packer, .ref a_reader])), (a_text, .inr (0, [.ref a_text_items, .int v_text_count])), (a_text_items, .inl (k_text_items, 64, .inl f_text_items)), (a_row, .inr (0, [.ref a_row_items, .int v_row_count])), (a_row_items, .inl (k_row_items, 99, .inl f_row_items)), (a_packer, .inr (1, [.ref a_text, .ref a_row, .ref a_packer_costs])), (a_packer_costs, .inl (k_packer_costs, 195, .inl f_packer_costs)), (a_reader, .inr (2, [.ref a_strip, .ref a_reader_told, .int s2, .int s3, .int s4])), (a_reader_told, .inr (0, [.ref a_reader_told_items, .int s5])), (a_reader_told_items, .inl (k_reader_told_items, 260, .inl s6))]) hz [8, 9] [0, 1, 2, 3, 4, 5, 6, 7, 10, 11] [2] 8 0 ⟨hx, hb, hml, hown, hts⟩ (met_It_reverse l D Z hz ad hk a_strip a_strip_items k_strip_items 800 v_strip_count f_strip_items _ hw) (cwV 0 hts (g_V mm_242 mm_243 mm_244 mm_42 mm_245) rfl rfl rfl hd_It_reverse ⟨Nat.le_of_ble_eq_true rfl, Nat.le_of_ble_eq_true rfl⟩) hP hD hK hZ hS hA rfl rfl rfl rfl rfl (by decide) rfl rfl rfl rfl hl.1 rfl (Nat.le_of_ble_eq_true rfl) d_Lc_read_17 ⟨Nat.le_of_ble_eq_true rfl, Nat.le_of_ble_eq_true rfl⟩ (fun s10 H locs hw hP hD hS => ?_)
    try dsimp only at hw
    have hP : va_P D vwCl [(a_this, .inr (3, [.ref a_text, .ref a_row, .ref a_strip, .ref a_packer, .ref a_reader])), (a_text, .inr (0, [.ref a_text_items, .int v_text_count])), (a_text_items, .inl (k_text_items, 64, .inl f_text_items)), (a_row, .inr (0, [.ref a_row_items, .int v_row_count])), (a_row_items, .inl (k_row_items, 99, .inl f_row_items)), (a_packer, .inr (1, [.ref a_text, .ref a_row, .ref a_packer_costs])), (a_packer_costs, .inl (k_packer_costs, 195, .inl f_packer_costs)), (a_reader, .inr (2, [.ref a_strip, .ref a_reader_told, .int s2, .int s3, .int s4])), (a_reader_told, .inr (0, [.ref a_reader_told_items, .int s5])), (a_reader_told_items, .inl (k_reader_told_items, 260, .inl s6)), (a_strip, .inr (0, [.ref a_strip_items, .int v_strip_count])), (a_strip_items, .inl (k_strip_items, 800, .inl s10))] H := hP
    have hD : va_D A [(a_this, .inr (3, [.ref a_text, .ref a_row, .ref a_strip, .ref a_packer, .ref a_reader])), (a_text, .inr (0, [.ref a_text_items, .int v_text_count])), (a_text_items, .inl (k_text_items, 64, .inl f_text_items)), (a_row, .inr (0, [.ref a_row_items, .int v_row_count])), (a_row_items, .inl (k_row_items, 99, .inl f_row_items)), (a_packer, .inr (1, [.ref a_text, .ref a_row, .ref a_packer_costs])), (a_packer_costs, .inl (k_packer_costs, 195, .inl f_packer_costs)), (a_reader, .inr (2, [.ref a_strip, .ref a_reader_told, .int s2, .int s3, .int s4])), (a_reader_told, .inr (0, [.ref a_reader_told_items, .int s5])), (a_reader_told_items, .inl (k_reader_told_items, 260, .inl s6)), (a_strip, .inr (0, [.ref a_strip_items, .int v_strip_count])), (a_strip_items, .inl (k_strip_items, 800, .inl s10))] := hD
    refine lv_aload_n hx hb d_Lc_read_20 rfl (lv_at hl 1 rfl) ?_
    refine va_get (D := D) (ci := 3) (v := .ref a_reader) (C := R_Lc) (T := T_Lc) (N := 5) hx hb hts in_Lc hown hK hP 0 rfl rfl 4 (by decide) (hts _ mm_125) (fun _ h9 => h9) rfl d_Lc_read_21 ?_
    refine lv_iconst (v := 1) hx hb d_Lc_read_24 (by decide) ?_
    refine k_rwVi (As := [.int 1]) (rest := []) (wr := [(a_this, .inr (3, [.ref a_text, .ref a_row, .ref a_strip, .ref a_packer, .ref a_reader])), (a_text, .inr (0, [.ref a_text_items, .int v_text_count])), (a_text_items, .inl (k_text_items, 64, .inl f_text_items)), (a_row, .inr (0, [.ref a_row_items, .int v_row_count])), (a_row_items, .inl (k_row_items, 99, .inl f_row_items)), (a_packer, .inr (1, [.ref a_text, .ref a_row, .ref a_packer_costs])), (a_packer_costs, .inl (k_packer_costs, 195, .inl f_packer_costs))]) hz [7, 10, 11, 8, 9] [0, 1, 2, 3, 4, 5, 6] [2, 4] 7 2 ⟨hx, hb, hml, hown, hts⟩ (met_Re_isReadable l D Z hz ad hk a_reader a_strip a_strip_items a_reader_told a_reader_told_items k_strip_items k_reader_told_items s2 s3 s4 v_strip_count s10 s5 s6 1 _ hw) (cwV 1 hts (g_V mm_255 mm_256 mm_257 mm_45 mm_258) rfl rfl rfl hd_Re_isReadable ⟨Nat.le_of_ble_eq_true rfl, Nat.le_of_ble_eq_true rfl⟩) hP hD hK hZ hS hA rfl rfl rfl rfl rfl (by decide) rfl rfl rfl rfl hl.1 rfl (Nat.le_of_ble_eq_true rfl) d_Lc_read_25 ⟨Nat.le_of_ble_eq_true rfl, Nat.le_of_ble_eq_true rfl⟩ (fun r11 u9 H locs hw hP hD hS => ?_)
    obtain ⟨s12, s13, s14, s15, s16⟩ := u9
    try dsimp only at hw
    have hP : va_P D vwCl [(a_this, .inr (3, [.ref a_text, .ref a_row, .ref a_strip, .ref a_packer, .ref a_reader])), (a_text, .inr (0, [.ref a_text_items, .int v_text_count])), (a_text_items, .inl (k_text_items, 64, .inl f_text_items)), (a_row, .inr (0, [.ref a_row_items, .int v_row_count])), (a_row_items, .inl (k_row_items, 99, .inl f_row_items)), (a_packer, .inr (1, [.ref a_text, .ref a_row, .ref a_packer_costs])), (a_packer_costs, .inl (k_packer_costs, 195, .inl f_packer_costs)), (a_reader, .inr (2, [.ref a_strip, .ref a_reader_told, .int s12, .int s13, .int s14])), (a_strip, .inr (0, [.ref a_strip_items, .int v_strip_count])), (a_strip_items, .inl (k_strip_items, 800, .inl s10)), (a_reader_told, .inr (0, [.ref a_reader_told_items, .int s15])), (a_reader_told_items, .inl (k_reader_told_items, 260, .inl s16))] H := hP
    have hD : va_D A [(a_this, .inr (3, [.ref a_text, .ref a_row, .ref a_strip, .ref a_packer, .ref a_reader])), (a_text, .inr (0, [.ref a_text_items, .int v_text_count])), (a_text_items, .inl (k_text_items, 64, .inl f_text_items)), (a_row, .inr (0, [.ref a_row_items, .int v_row_count])), (a_row_items, .inl (k_row_items, 99, .inl f_row_items)), (a_packer, .inr (1, [.ref a_text, .ref a_row, .ref a_packer_costs])), (a_packer_costs, .inl (k_packer_costs, 195, .inl f_packer_costs)), (a_reader, .inr (2, [.ref a_strip, .ref a_reader_told, .int s12, .int s13, .int s14])), (a_strip, .inr (0, [.ref a_strip_items, .int v_strip_count])), (a_strip_items, .inl (k_strip_items, 800, .inl s10)), (a_reader_told, .inr (0, [.ref a_reader_told_items, .int s15])), (a_reader_told_items, .inl (k_reader_told_items, 260, .inl s16))] := hD
    refine lv_istore_n (lv' := [(1, .int r11), (0, .ref a_this)]) hx hb d_Lc_read_28 rfl hl (by decide) rfl (fun ls hl => ?_)
    refine lv_aload_n hx hb d_Lc_read_29 rfl (lv_at hl 1 rfl) ?_
    refine va_get (D := D) (ci := 3) (v := .ref a_strip) (C := R_Lc) (T := T_Lc) (N := 5) hx hb hts in_Lc hown hK hP 0 rfl rfl 2 (by decide) (hts _ mm_123) (fun _ h9 => h9) rfl d_Lc_read_30 ?_
    refine k_rwVv (As := []) (rest := []) (wr := [(a_this, .inr (3, [.ref a_text, .ref a_row, .ref a_strip, .ref a_packer, .ref a_reader])), (a_text, .inr (0, [.ref a_text_items, .int v_text_count])), (a_text_items, .inl (k_text_items, 64, .inl f_text_items)), (a_row, .inr (0, [.ref a_row_items, .int v_row_count])), (a_row_items, .inl (k_row_items, 99, .inl f_row_items)), (a_packer, .inr (1, [.ref a_text, .ref a_row, .ref a_packer_costs])), (a_packer_costs, .inl (k_packer_costs, 195, .inl f_packer_costs)), (a_reader, .inr (2, [.ref a_strip, .ref a_reader_told, .int s12, .int s13, .int s14])), (a_reader_told, .inr (0, [.ref a_reader_told_items, .int s15])), (a_reader_told_items, .inl (k_reader_told_items, 260, .inl s16))]) hz [8, 9] [0, 1, 2, 3, 4, 5, 6, 7, 10, 11] [2] 8 0 ⟨hx, hb, hml, hown, hts⟩ (met_It_reverse l D Z hz ad hk a_strip a_strip_items k_strip_items 800 v_strip_count s10 _ hw) (cwV 0 hts (g_V mm_242 mm_243 mm_244 mm_42 mm_245) rfl rfl rfl hd_It_reverse ⟨Nat.le_of_ble_eq_true rfl, Nat.le_of_ble_eq_true rfl⟩) hP hD hK hZ hS hA rfl rfl rfl rfl rfl (by decide) rfl rfl rfl rfl hl.1 rfl (Nat.le_of_ble_eq_true rfl) d_Lc_read_33 ⟨Nat.le_of_ble_eq_true rfl, Nat.le_of_ble_eq_true rfl⟩ (fun s17 H locs hw hP hD hS => ?_)
    try dsimp only at hw
    have hP : va_P D vwCl [(a_this, .inr (3, [.ref a_text, .ref a_row, .ref a_strip, .ref a_packer, .ref a_reader])), (a_text, .inr (0, [.ref a_text_items, .int v_text_count])), (a_text_items, .inl (k_text_items, 64, .inl f_text_items)), (a_row, .inr (0, [.ref a_row_items, .int v_row_count])), (a_row_items, .inl (k_row_items, 99, .inl f_row_items)), (a_packer, .inr (1, [.ref a_text, .ref a_row, .ref a_packer_costs])), (a_packer_costs, .inl (k_packer_costs, 195, .inl f_packer_costs)), (a_reader, .inr (2, [.ref a_strip, .ref a_reader_told, .int s12, .int s13, .int s14])), (a_reader_told, .inr (0, [.ref a_reader_told_items, .int s15])), (a_reader_told_items, .inl (k_reader_told_items, 260, .inl s16)), (a_strip, .inr (0, [.ref a_strip_items, .int v_strip_count])), (a_strip_items, .inl (k_strip_items, 800, .inl s17))] H := hP
    have hD : va_D A [(a_this, .inr (3, [.ref a_text, .ref a_row, .ref a_strip, .ref a_packer, .ref a_reader])), (a_text, .inr (0, [.ref a_text_items, .int v_text_count])), (a_text_items, .inl (k_text_items, 64, .inl f_text_items)), (a_row, .inr (0, [.ref a_row_items, .int v_row_count])), (a_row_items, .inl (k_row_items, 99, .inl f_row_items)), (a_packer, .inr (1, [.ref a_text, .ref a_row, .ref a_packer_costs])), (a_packer_costs, .inl (k_packer_costs, 195, .inl f_packer_costs)), (a_reader, .inr (2, [.ref a_strip, .ref a_reader_told, .int s12, .int s13, .int s14])), (a_reader_told, .inr (0, [.ref a_reader_told_items, .int s15])), (a_reader_told_items, .inl (k_reader_told_items, 260, .inl s16)), (a_strip, .inr (0, [.ref a_strip_items, .int v_strip_count])), (a_strip_items, .inl (k_strip_items, 800, .inl s17))] := hD
    refine lv_iload_n hx hb d_Lc_read_36 rfl (lv_at hl 0 rfl) ?_
    refine lv_if_eq (tgt := 50) hx hb d_Lc_read_37 (by decide) (fun c18 => ?_) (fun c18 => ?_)
    · have hw := hw.1 c18
      refine lv_iconst (v := (-1)) hx hb d_Lc_read_50 (by decide) ?_
      have hP9 := hP.sub (ws' := [(a_this, .inr (3, [.ref a_text, .ref a_row, .ref a_strip, .ref a_packer, .ref a_reader])), (a_text, .inr (0, [.ref a_text_items, .int v_text_count])), (a_text_items, .inl (k_text_items, 64, .inl f_text_items)), (a_row, .inr (0, [.ref a_row_items, .int v_row_count])), (a_row_items, .inl (k_row_items, 99, .inl f_row_items)), (a_strip, .inr (0, [.ref a_strip_items, .int v_strip_count])), (a_strip_items, .inl (k_strip_items, 800, .inl s17)), (a_packer, .inr (1, [.ref a_text, .ref a_row, .ref a_packer_costs])), (a_packer_costs, .inl (k_packer_costs, 195, .inl f_packer_costs)), (a_reader, .inr (2, [.ref a_strip, .ref a_reader_told, .int s12, .int s13, .int s14])), (a_reader_told, .inr (0, [.ref a_reader_told_items, .int s15])), (a_reader_told_items, .inl (k_reader_told_items, 260, .inl s16))]) [0, 1, 2, 3, 4, 10, 11, 5, 6, 7, 8, 9] rfl
      have hD9 := hD.sub (ws' := [(a_this, .inr (3, [.ref a_text, .ref a_row, .ref a_strip, .ref a_packer, .ref a_reader])), (a_text, .inr (0, [.ref a_text_items, .int v_text_count])), (a_text_items, .inl (k_text_items, 64, .inl f_text_items)), (a_row, .inr (0, [.ref a_row_items, .int v_row_count])), (a_row_items, .inl (k_row_items, 99, .inl f_row_items)), (a_strip, .inr (0, [.ref a_strip_items, .int v_strip_count])), (a_strip_items, .inl (k_strip_items, 800, .inl s17)), (a_packer, .inr (1, [.ref a_text, .ref a_row, .ref a_packer_costs])), (a_packer_costs, .inl (k_packer_costs, 195, .inl f_packer_costs)), (a_reader, .inr (2, [.ref a_strip, .ref a_reader_told, .int s12, .int s13, .int s14])), (a_reader_told, .inr (0, [.ref a_reader_told_items, .int s15])), (a_reader_told_items, .inl (k_reader_told_items, 260, .inl s16))]) [0, 1, 2, 3, 4, 10, 11, 5, 6, 7, 8, 9] (by decide) rfl
      exact W.iret (v := (-1)) hx hb hr (fun t ht hW => ⟨⟨(-1), (s17, s12, s13, s14, s15, s16), rfl, hw, by rw [ht]; exact hP9, va_K.moved hW.alike hK, hD9⟩, hS.F ht⟩) hS.2.2 d_Lc_read_51
    · have hw := hw.2 c18
      refine lv_aload_n hx hb d_Lc_read_40 rfl (lv_at hl 1 rfl) ?_
      refine va_get (D := D) (ci := 3) (v := .ref a_reader) (C := R_Lc) (T := T_Lc) (N := 5) hx hb hts in_Lc hown hK hP 0 rfl rfl 4 (by decide) (hts _ mm_125) (fun _ h9 => h9) rfl d_Lc_read_41 ?_
      refine k_roVi (As := []) (rest := []) hz [7, 10, 11, 8, 9] [2, 4] 7 2 ⟨hx, hb, hml, hown, hts⟩ (met_Re_toldCount l D Z hz ad hk a_reader a_strip a_strip_items a_reader_told a_reader_told_items k_strip_items k_reader_told_items s12 s13 s14 v_strip_count s17 s15 s16 hw) (cwV 0 hts (g_V mm_347 mm_348 mm_349 mm_45 mm_350) rfl rfl rfl hd_Re_toldCount ⟨Nat.le_of_ble_eq_true rfl, Nat.le_of_ble_eq_true rfl⟩) hP hK hZ hS rfl rfl rfl rfl rfl hl.1 rfl (Nat.le_of_ble_eq_true rfl) d_Lc_read_44 ⟨Nat.le_of_ble_eq_true rfl, Nat.le_of_ble_eq_true rfl⟩ (fun r19 hw => ?_)
      refine lv_goto (tgt := 51) hx hb d_Lc_read_47 (by decide) ?_
      have hP9 := hP.sub (ws' := [(a_this, .inr (3, [.ref a_text, .ref a_row, .ref a_strip, .ref a_packer, .ref a_reader])), (a_text, .inr (0, [.ref a_text_items, .int v_text_count])), (a_text_items, .inl (k_text_items, 64, .inl f_text_items)), (a_row, .inr (0, [.ref a_row_items, .int v_row_count])), (a_row_items, .inl (k_row_items, 99, .inl f_row_items)), (a_strip, .inr (0, [.ref a_strip_items, .int v_strip_count])), (a_strip_items, .inl (k_strip_items, 800, .inl s17)), (a_packer, .inr (1, [.ref a_text, .ref a_row, .ref a_packer_costs])), (a_packer_costs, .inl (k_packer_costs, 195, .inl f_packer_costs)), (a_reader, .inr (2, [.ref a_strip, .ref a_reader_told, .int s12, .int s13, .int s14])), (a_reader_told, .inr (0, [.ref a_reader_told_items, .int s15])), (a_reader_told_items, .inl (k_reader_told_items, 260, .inl s16))]) [0, 1, 2, 3, 4, 10, 11, 5, 6, 7, 8, 9] rfl
      have hD9 := hD.sub (ws' := [(a_this, .inr (3, [.ref a_text, .ref a_row, .ref a_strip, .ref a_packer, .ref a_reader])), (a_text, .inr (0, [.ref a_text_items, .int v_text_count])), (a_text_items, .inl (k_text_items, 64, .inl f_text_items)), (a_row, .inr (0, [.ref a_row_items, .int v_row_count])), (a_row_items, .inl (k_row_items, 99, .inl f_row_items)), (a_strip, .inr (0, [.ref a_strip_items, .int v_strip_count])), (a_strip_items, .inl (k_strip_items, 800, .inl s17)), (a_packer, .inr (1, [.ref a_text, .ref a_row, .ref a_packer_costs])), (a_packer_costs, .inl (k_packer_costs, 195, .inl f_packer_costs)), (a_reader, .inr (2, [.ref a_strip, .ref a_reader_told, .int s12, .int s13, .int s14])), (a_reader_told, .inr (0, [.ref a_reader_told_items, .int s15])), (a_reader_told_items, .inl (k_reader_told_items, 260, .inl s16))]) [0, 1, 2, 3, 4, 10, 11, 5, 6, 7, 8, 9] (by decide) rfl
      exact W.iret (v := r19) hx hb hr (fun t ht hW => ⟨⟨r19, (s17, s12, s13, s14, s15, s16), rfl, hw, by rw [ht]; exact hP9, va_K.moved hW.alike hK, hD9⟩, hS.F ht⟩) hS.2.2 d_Lc_read_51
-- LineCodes.sign(I)I
def w_Lc_sign (post : Int32 → Prop) (v_reader_told_count : Int32) (f_reader_told_items : Nat → Int32) (x1 : Int32) : Prop := w_Re_toldAt (fun r1 => post r1) v_reader_told_count f_reader_told_items x1
abbrev rm_Lc_sign : Room := { frames := 2, cells := 0, slots := 0, locals := 42 }
set_option maxHeartbeats 4000000 in
set_option maxRecDepth 100000 in
theorem met_Lc_sign (l : Launch) (D : va_G) (Z : (Nat → Prop) → State → Heap → Prop) (hz : zk Z) (ad : Nat → Nat) (hk : zs Z ad) (a_this : Nat) (a_text : Nat) (a_text_items : Nat) (a_row : Nat) (a_row_items : Nat) (a_strip : Nat) (a_strip_items : Nat) (a_packer : Nat) (a_packer_costs : Nat) (a_reader : Nat) (a_reader_told : Nat) (a_reader_told_items : Nat) (k_text_items : ClassId) (k_row_items : ClassId) (k_strip_items : ClassId) (k_packer_costs : ClassId) (k_reader_told_items : ClassId) (v_text_count : Int32) (f_text_items : Nat → Int32) (v_row_count : Int32) (f_row_items : Nat → Int32) (v_strip_count : Int32) (f_strip_items : Nat → Int32) (f_packer_costs : Nat → Int32) (v_reader_fromBack : Int32) (v_reader_set : Int32) (v_reader_shifted : Int32) (v_reader_told_count : Int32) (f_reader_told_items : Nat → Int32) (x1 : Int32) {post : Int32 → Prop} (hw : w_Lc_sign post v_reader_told_count f_reader_told_items x1) : Met l y_Lc_sign ws_Lc_sign rm_Lc_sign (va_Pc [.ref a_this, .int x1] (ro_ D vwCl [(k_text_items, .int), (k_row_items, .int), (k_strip_items, .int), (k_packer_costs, .int), (k_reader_told_items, .int)] [(a_this, .inr (3, [.ref a_text, .ref a_row, .ref a_strip, .ref a_packer, .ref a_reader])), (a_text, .inr (0, [.ref a_text_items, .int v_text_count])), (a_text_items, .inl (k_text_items, 64, .inl f_text_items)), (a_row, .inr (0, [.ref a_row_items, .int v_row_count])), (a_row_items, .inl (k_row_items, 99, .inl f_row_items)), (a_strip, .inr (0, [.ref a_strip_items, .int v_strip_count])), (a_strip_items, .inl (k_strip_items, 800, .inl f_strip_items)), (a_packer, .inr (1, [.ref a_text, .ref a_row, .ref a_packer_costs])), (a_packer_costs, .inl (k_packer_costs, 195, .inl f_packer_costs)), (a_reader, .inr (2, [.ref a_strip, .ref a_reader_told, .int v_reader_fromBack, .int v_reader_set, .int v_reader_shifted])), (a_reader_told, .inr (0, [.ref a_reader_told_items, .int v_reader_told_count])), (a_reader_told_items, .inl (k_reader_told_items, 260, .inl f_reader_told_items))] (Z))) (vp_Si post) 0 0 (fun _ => False) := by
  refine Met.ofW (cc := c_Lc_sign) (maxL := 2) (ret := (some .int)) (by decide) rfl ?_
  intro p e s m args below meth c s₁ B hml hv
  obtain ⟨rfl, hP, hK, hZ⟩ := hv
  have hx := B.exec
  have hb := B.bytes
  have hr := B.returns
  have hts0 := atoms_spec (ws := ws_Lc_sign) B.pre
  have hts := fun (w : Cond) (h : w ∈ tb) => hts0 w (List.mem_cons_of_mem _ h)
  have hown : s.vm.findClass R_Lc = some m.cls := findClass_of_methodNamed B.named
  have hlocks := B.notSynchronized
  have hS : va_S (fun _ => False) s.heap s.heap [] := va_S.rf
  have hl := lv_entry ([.ref a_this, .int x1]) (n := 2) (Nat.le_of_ble_eq_true rfl)
  rw [lg_entry_eq]
  generalize (lg_sl ([.ref a_this, .int x1]) ++ List.replicate (2 - (lg_sl ([.ref a_this, .int x1])).length) Slot.unset).toArray = ls at hl ⊢
  have hl : lv_has ls 2 [(0, .ref a_this), (1, .int x1)] := hl
  unfold w_Lc_sign at hw
  refine lv_aload_n hx hb d_Lc_sign_0 rfl (lv_at hl 0 rfl) ?_
  refine va_get (D := D) (ci := 3) (v := .ref a_reader) (C := R_Lc) (T := T_Lc) (N := 5) hx hb hts in_Lc hown hK hP 0 rfl rfl 4 (by decide) (hts _ mm_125) (fun _ h9 => h9) rfl d_Lc_sign_1 ?_
  refine lv_iload_n hx hb d_Lc_sign_4 rfl (lv_at hl 1 rfl) ?_
  refine k_roVi (As := [.int x1]) (rest := []) hz [9, 5, 6, 10, 11] [2, 4] 9 2 ⟨hx, hb, hml, hown, hts⟩ (met_Re_toldAt l D Z hz ad hk a_reader a_strip a_strip_items a_reader_told a_reader_told_items k_strip_items k_reader_told_items v_reader_fromBack v_reader_set v_reader_shifted v_strip_count f_strip_items v_reader_told_count f_reader_told_items x1 hw) (cwV 1 hts (g_V mm_355 mm_356 mm_357 mm_45 mm_358) rfl rfl rfl hd_Re_toldAt ⟨Nat.le_of_ble_eq_true rfl, Nat.le_of_ble_eq_true rfl⟩) hP hK hZ hS rfl rfl rfl rfl rfl hl.1 rfl (Nat.le_of_ble_eq_true rfl) d_Lc_sign_5 ⟨Nat.le_of_ble_eq_true rfl, Nat.le_of_ble_eq_true rfl⟩ (fun r1 hw => ?_)
  exact W.iret (v := r1) hx hb hr (fun t ht hW => ⟨r1, rfl, hw, ht⟩) hS.2.2 d_Lc_sign_8
-- LineCodes.backwards()Z
def w_Lc_backwards (post : Int32 → Prop) (v_reader_fromBack : Int32) : Prop := w_Re_isFromBack (fun r1 => vz r1 ∧ post r1) v_reader_fromBack
abbrev rm_Lc_backwards : Room := { frames := 1, cells := 0, slots := 0, locals := 20 }
set_option maxHeartbeats 4000000 in
set_option maxRecDepth 100000 in
theorem met_Lc_backwards (l : Launch) (D : va_G) (Z : (Nat → Prop) → State → Heap → Prop) (hz : zk Z) (ad : Nat → Nat) (hk : zs Z ad) (a_this : Nat) (a_text : Nat) (a_text_items : Nat) (a_row : Nat) (a_row_items : Nat) (a_strip : Nat) (a_strip_items : Nat) (a_packer : Nat) (a_packer_costs : Nat) (a_reader : Nat) (a_reader_told : Nat) (a_reader_told_items : Nat) (k_text_items : ClassId) (k_row_items : ClassId) (k_strip_items : ClassId) (k_packer_costs : ClassId) (k_reader_told_items : ClassId) (v_text_count : Int32) (f_text_items : Nat → Int32) (v_row_count : Int32) (f_row_items : Nat → Int32) (v_strip_count : Int32) (f_strip_items : Nat → Int32) (f_packer_costs : Nat → Int32) (v_reader_fromBack : Int32) (v_reader_set : Int32) (v_reader_shifted : Int32) (v_reader_told_count : Int32) (f_reader_told_items : Nat → Int32) {post : Int32 → Prop} (hw : w_Lc_backwards post v_reader_fromBack) : Met l y_Lc_backwards ws_Lc_backwards rm_Lc_backwards (va_Pc [.ref a_this] (ro_ D vwCl [(k_text_items, .int), (k_row_items, .int), (k_strip_items, .int), (k_packer_costs, .int), (k_reader_told_items, .int)] [(a_this, .inr (3, [.ref a_text, .ref a_row, .ref a_strip, .ref a_packer, .ref a_reader])), (a_text, .inr (0, [.ref a_text_items, .int v_text_count])), (a_text_items, .inl (k_text_items, 64, .inl f_text_items)), (a_row, .inr (0, [.ref a_row_items, .int v_row_count])), (a_row_items, .inl (k_row_items, 99, .inl f_row_items)), (a_strip, .inr (0, [.ref a_strip_items, .int v_strip_count])), (a_strip_items, .inl (k_strip_items, 800, .inl f_strip_items)), (a_packer, .inr (1, [.ref a_text, .ref a_row, .ref a_packer_costs])), (a_packer_costs, .inl (k_packer_costs, 195, .inl f_packer_costs)), (a_reader, .inr (2, [.ref a_strip, .ref a_reader_told, .int v_reader_fromBack, .int v_reader_set, .int v_reader_shifted])), (a_reader_told, .inr (0, [.ref a_reader_told_items, .int v_reader_told_count])), (a_reader_told_items, .inl (k_reader_told_items, 260, .inl f_reader_told_items))] (Z))) (vp_Si post) 0 0 (fun _ => False) := by
  refine Met.ofW (cc := c_Lc_backwards) (maxL := 1) (ret := (some .boolean)) (by decide) rfl ?_
  intro p e s m args below meth c s₁ B hml hv
  obtain ⟨rfl, hP, hK, hZ⟩ := hv
  have hx := B.exec
  have hb := B.bytes
  have hr := B.returns
  have hts0 := atoms_spec (ws := ws_Lc_backwards) B.pre
  have hts := fun (w : Cond) (h : w ∈ tb) => hts0 w (List.mem_cons_of_mem _ h)
  have hown : s.vm.findClass R_Lc = some m.cls := findClass_of_methodNamed B.named
  have hlocks := B.notSynchronized
  have hS : va_S (fun _ => False) s.heap s.heap [] := va_S.rf
  have hl := lv_entry ([.ref a_this]) (n := 1) (Nat.le_of_ble_eq_true rfl)
  rw [lg_entry_eq]
  generalize (lg_sl ([.ref a_this]) ++ List.replicate (1 - (lg_sl ([.ref a_this])).length) Slot.unset).toArray = ls at hl ⊢
  have hl : lv_has ls 1 [(0, .ref a_this)] := hl
  unfold w_Lc_backwards at hw
  refine lv_aload_n hx hb d_Lc_backwards_0 rfl (lv_at hl 0 rfl) ?_
  refine va_get (D := D) (ci := 3) (v := .ref a_reader) (C := R_Lc) (T := T_Lc) (N := 5) hx hb hts in_Lc hown hK hP 0 rfl rfl 4 (by decide) (hts _ mm_125) (fun _ h9 => h9) rfl d_Lc_backwards_1 ?_
  refine k_roVi (As := []) (rest := []) hz [9, 5, 6, 10, 11] [2, 4] 9 2 ⟨hx, hb, hml, hown, hts⟩ (met_Re_isFromBack l D Z hz ad hk a_reader a_strip a_strip_items a_reader_told a_reader_told_items k_strip_items k_reader_told_items v_reader_fromBack v_reader_set v_reader_shifted v_strip_count f_strip_items v_reader_told_count f_reader_told_items hw) (cwV 0 hts (g_V mm_363 mm_364 mm_365 mm_45 mm_366) rfl rfl rfl hd_Re_isFromBack ⟨Nat.le_of_ble_eq_true rfl, Nat.le_of_ble_eq_true rfl⟩) hP hK hZ hS rfl rfl rfl rfl rfl hl.1 rfl (Nat.le_of_ble_eq_true rfl) d_Lc_backwards_4 ⟨Nat.le_of_ble_eq_true rfl, Nat.le_of_ble_eq_true rfl⟩ (fun r1 hw => ?_)
  have hz9 := hw.1
  have hw := hw.2
  exact W.zret (v := r1) (ty := .boolean) hx hb hr (vz_n hz9) (fun t ht hW => ⟨r1, rfl, hw, ht⟩) hS.2.2 d_Lc_backwards_7
end
