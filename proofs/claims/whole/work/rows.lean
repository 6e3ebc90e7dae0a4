section
-- ===== PART A: goes FIRST, ahead of the names: the tables' words, and 'selects' of the private methods out of them =====
/-- a private method of a class that the tables say can be made, by its rows of tables_1 -/
def lw_okq (q : MethodName × Nat) : Prop := (q.1.cls ≠ "java/lang/invoke/MethodHandle" ∧ q.1.cls ≠ "java/lang/invoke/VarHandle") ∧ Cond.instantiable q.1.cls q.2 ∈ tables_1 ∧ Cond.privateMethod q.1 ∈ tables_1 ∧ Cond.instanceMethod q.1 ∈ tables_1
theorem lw_p0 : lw_okq (⟨"LineCodes$Packer", "fillCosts", "(I)V"⟩, 3) := ⟨⟨by decide +kernel, by decide +kernel⟩, List.mem_of_getElem? (i := 42) (by decide +kernel), List.mem_of_getElem? (i := 118) (by decide +kernel), List.mem_of_getElem? (i := 119) (by decide +kernel)⟩
theorem lw_p1 : lw_okq (⟨"LineCodes$Packer", "costOfTelling", "(II)I"⟩, 3) := ⟨⟨by decide +kernel, by decide +kernel⟩, List.mem_of_getElem? (i := 42) (by decide +kernel), List.mem_of_getElem? (i := 123) (by decide +kernel), List.mem_of_getElem? (i := 124) (by decide +kernel)⟩
theorem lw_p2 : lw_okq (⟨"LineCodes$Packer", "cost", "(II)I"⟩, 3) := ⟨⟨by decide +kernel, by decide +kernel⟩, List.mem_of_getElem? (i := 42) (by decide +kernel), List.mem_of_getElem? (i := 131) (by decide +kernel), List.mem_of_getElem? (i := 132) (by decide +kernel)⟩
theorem lw_p3 : lw_okq (⟨"LineCodes$Packer", "setCost", "(III)V"⟩, 3) := ⟨⟨by decide +kernel, by decide +kernel⟩, List.mem_of_getElem? (i := 42) (by decide +kernel), List.mem_of_getElem? (i := 144) (by decide +kernel), List.mem_of_getElem? (i := 145) (by decide +kernel)⟩
theorem lw_p4 : lw_okq (⟨"LineCodes$Packer", "addSymbols", "()V"⟩, 3) := ⟨⟨by decide +kernel, by decide +kernel⟩, List.mem_of_getElem? (i := 42) (by decide +kernel), List.mem_of_getElem? (i := 152) (by decide +kernel), List.mem_of_getElem? (i := 153) (by decide +kernel)⟩
theorem lw_p5 : lw_okq (⟨"LineCodes$Packer", "cheapestFirstSet", "()I"⟩, 3) := ⟨⟨by decide +kernel, by decide +kernel⟩, List.mem_of_getElem? (i := 42) (by decide +kernel), List.mem_of_getElem? (i := 156) (by decide +kernel), List.mem_of_getElem? (i := 157) (by decide +kernel)⟩
theorem lw_p6 : lw_okq (⟨"LineCodes$Packer", "nextSet", "(II)I"⟩, 3) := ⟨⟨by decide +kernel, by decide +kernel⟩, List.mem_of_getElem? (i := 42) (by decide +kernel), List.mem_of_getElem? (i := 167) (by decide +kernel), List.mem_of_getElem? (i := 168) (by decide +kernel)⟩
theorem lw_p7 : lw_okq (⟨"LineCodes$Packer", "addTold", "(II)I"⟩, 3) := ⟨⟨by decide +kernel, by decide +kernel⟩, List.mem_of_getElem? (i := 42) (by decide +kernel), List.mem_of_getElem? (i := 171) (by decide +kernel), List.mem_of_getElem? (i := 172) (by decide +kernel)⟩
theorem lw_p8 : lw_okq (⟨"LineCodes$Packer", "checkSymbol", "()I"⟩, 3) := ⟨⟨by decide +kernel, by decide +kernel⟩, List.mem_of_getElem? (i := 42) (by decide +kernel), List.mem_of_getElem? (i := 181) (by decide +kernel), List.mem_of_getElem? (i := 182) (by decide +kernel)⟩
theorem lw_p9 : lw_okq (⟨"LineCodes$Reader", "isThirteen", "()Z"⟩, 5) := ⟨⟨by decide +kernel, by decide +kernel⟩, List.mem_of_getElem? (i := 58) (by decide +kernel), List.mem_of_getElem? (i := 222) (by decide +kernel), List.mem_of_getElem? (i := 223) (by decide +kernel)⟩
theorem lw_p10 : lw_okq (⟨"LineCodes$Reader", "areSidesAndMiddleRight", "()Z"⟩, 5) := ⟨⟨by decide +kernel, by decide +kernel⟩, List.mem_of_getElem? (i := 58) (by decide +kernel), List.mem_of_getElem? (i := 226) (by decide +kernel), List.mem_of_getElem? (i := 227) (by decide +kernel)⟩
theorem lw_p11 : lw_okq (⟨"LineCodes$Reader", "sumOf", "(II)I"⟩, 5) := ⟨⟨by decide +kernel, by decide +kernel⟩, List.mem_of_getElem? (i := 58) (by decide +kernel), List.mem_of_getElem? (i := 230) (by decide +kernel), List.mem_of_getElem? (i := 231) (by decide +kernel)⟩
theorem lw_p12 : lw_okq (⟨"LineCodes$Reader", "countsOf", "(IIII)I"⟩, 5) := ⟨⟨by decide +kernel, by decide +kernel⟩, List.mem_of_getElem? (i := 58) (by decide +kernel), List.mem_of_getElem? (i := 235) (by decide +kernel), List.mem_of_getElem? (i := 236) (by decide +kernel)⟩
theorem lw_p13 : lw_okq (⟨"LineCodes$Reader", "isLeftHalf", "()Z"⟩, 5) := ⟨⟨by decide +kernel, by decide +kernel⟩, List.mem_of_getElem? (i := 58) (by decide +kernel), List.mem_of_getElem? (i := 239) (by decide +kernel), List.mem_of_getElem? (i := 240) (by decide +kernel)⟩
theorem lw_p14 : lw_okq (⟨"LineCodes$Reader", "figureCountsAt", "(I)I"⟩, 5) := ⟨⟨by decide +kernel, by decide +kernel⟩, List.mem_of_getElem? (i := 58) (by decide +kernel), List.mem_of_getElem? (i := 244) (by decide +kernel), List.mem_of_getElem? (i := 245) (by decide +kernel)⟩
theorem lw_p15 : lw_okq (⟨"LineCodes$Reader", "isRightHalf", "()Z"⟩, 5) := ⟨⟨by decide +kernel, by decide +kernel⟩, List.mem_of_getElem? (i := 58) (by decide +kernel), List.mem_of_getElem? (i := 265) (by decide +kernel), List.mem_of_getElem? (i := 266) (by decide +kernel)⟩
def lw_privs_1 : List (MethodName × Nat) := [(⟨"LineCodes$Packer", "fillCosts", "(I)V"⟩, 3), (⟨"LineCodes$Packer", "costOfTelling", "(II)I"⟩, 3), (⟨"LineCodes$Packer", "cost", "(II)I"⟩, 3), (⟨"LineCodes$Packer", "setCost", "(III)V"⟩, 3), (⟨"LineCodes$Packer", "addSymbols", "()V"⟩, 3), (⟨"LineCodes$Packer", "cheapestFirstSet", "()I"⟩, 3), (⟨"LineCodes$Packer", "nextSet", "(II)I"⟩, 3), (⟨"LineCodes$Packer", "addTold", "(II)I"⟩, 3), (⟨"LineCodes$Packer", "checkSymbol", "()I"⟩, 3), (⟨"LineCodes$Reader", "isThirteen", "()Z"⟩, 5), (⟨"LineCodes$Reader", "areSidesAndMiddleRight", "()Z"⟩, 5), (⟨"LineCodes$Reader", "sumOf", "(II)I"⟩, 5), (⟨"LineCodes$Reader", "countsOf", "(IIII)I"⟩, 5), (⟨"LineCodes$Reader", "isLeftHalf", "()Z"⟩, 5), (⟨"LineCodes$Reader", "figureCountsAt", "(I)I"⟩, 5), (⟨"LineCodes$Reader", "isRightHalf", "()Z"⟩, 5)]
theorem lw_r1 : ∀ q ∈ lw_privs_1, lw_okq q := List.forall_mem_cons.mpr ⟨lw_p0, List.forall_mem_cons.mpr ⟨lw_p1, List.forall_mem_cons.mpr ⟨lw_p2, List.forall_mem_cons.mpr ⟨lw_p3, List.forall_mem_cons.mpr ⟨lw_p4, List.forall_mem_cons.mpr ⟨lw_p5, List.forall_mem_cons.mpr ⟨lw_p6, List.forall_mem_cons.mpr ⟨lw_p7, List.forall_mem_cons.mpr ⟨lw_p8, List.forall_mem_cons.mpr ⟨lw_p9, List.forall_mem_cons.mpr ⟨lw_p10, List.forall_mem_cons.mpr ⟨lw_p11, List.forall_mem_cons.mpr ⟨lw_p12, List.forall_mem_cons.mpr ⟨lw_p13, List.forall_mem_cons.mpr ⟨lw_p14, List.forall_mem_cons.mpr ⟨lw_p15, fun _ h => absurd h List.not_mem_nil⟩⟩⟩⟩⟩⟩⟩⟩⟩⟩⟩⟩⟩⟩⟩⟩
theorem lw_p16 : lw_okq (⟨"LineCodes$Reader", "isRow", "()Z"⟩, 5) := ⟨⟨by decide +kernel, by decide +kernel⟩, List.mem_of_getElem? (i := 58) (by decide +kernel), List.mem_of_getElem? (i := 272) (by decide +kernel), List.mem_of_getElem? (i := 273) (by decide +kernel)⟩
theorem lw_p17 : lw_okq (⟨"LineCodes$Reader", "isLastAt", "(I)Z"⟩, 5) := ⟨⟨by decide +kernel, by decide +kernel⟩, List.mem_of_getElem? (i := 58) (by decide +kernel), List.mem_of_getElem? (i := 276) (by decide +kernel), List.mem_of_getElem? (i := 277) (by decide +kernel)⟩
theorem lw_p18 : lw_okq (⟨"LineCodes$Reader", "symbolAt", "(I)I"⟩, 5) := ⟨⟨by decide +kernel, by decide +kernel⟩, List.mem_of_getElem? (i := 58) (by decide +kernel), List.mem_of_getElem? (i := 281) (by decide +kernel), List.mem_of_getElem? (i := 282) (by decide +kernel)⟩
theorem lw_p19 : lw_okq (⟨"LineCodes$Reader", "isTold", "(I)Z"⟩, 5) := ⟨⟨by decide +kernel, by decide +kernel⟩, List.mem_of_getElem? (i := 58) (by decide +kernel), List.mem_of_getElem? (i := 293) (by decide +kernel), List.mem_of_getElem? (i := 294) (by decide +kernel)⟩
theorem lw_p20 : lw_okq (⟨"LineCodes$Reader", "isSwitched", "(I)Z"⟩, 5) := ⟨⟨by decide +kernel, by decide +kernel⟩, List.mem_of_getElem? (i := 58) (by decide +kernel), List.mem_of_getElem? (i := 301) (by decide +kernel), List.mem_of_getElem? (i := 302) (by decide +kernel)⟩
theorem lw_p21 : lw_okq (⟨"java/lang/Throwable", "fillInStackTrace", "(I)Ljava/lang/Throwable;"⟩, 6) := ⟨⟨by decide +kernel, by decide +kernel⟩, List.mem_of_getElem? (i := 377) (by decide +kernel), List.mem_of_getElem? (i := 375) (by decide +kernel), List.mem_of_getElem? (i := 376) (by decide +kernel)⟩
theorem lw_p22 : lw_okq (⟨"LineCodes", "addWidths", "(II)V"⟩, 5) := ⟨⟨by decide +kernel, by decide +kernel⟩, List.mem_of_getElem? (i := 17) (by decide +kernel), List.mem_of_getElem? (i := 455) (by decide +kernel), List.mem_of_getElem? (i := 456) (by decide +kernel)⟩
theorem lw_p23 : lw_okq (⟨"LineCodesModel", "relax", "()V"⟩, 18) := ⟨⟨by decide +kernel, by decide +kernel⟩, List.mem_of_getElem? (i := 529) (by decide +kernel), List.mem_of_getElem? (i := 714) (by decide +kernel), List.mem_of_getElem? (i := 715) (by decide +kernel)⟩
theorem lw_p24 : lw_okq (⟨"LineCodesModel", "with", "(III)I"⟩, 18) := ⟨⟨by decide +kernel, by decide +kernel⟩, List.mem_of_getElem? (i := 529) (by decide +kernel), List.mem_of_getElem? (i := 718) (by decide +kernel), List.mem_of_getElem? (i := 719) (by decide +kernel)⟩
theorem lw_p25 : lw_okq (⟨"LineCodesModel", "tells", "(III)I"⟩, 18) := ⟨⟨by decide +kernel, by decide +kernel⟩, List.mem_of_getElem? (i := 529) (by decide +kernel), List.mem_of_getElem? (i := 722) (by decide +kernel), List.mem_of_getElem? (i := 723) (by decide +kernel)⟩
theorem lw_p26 : lw_okq (⟨"LineCodesModel", "at", "(I)I"⟩, 18) := ⟨⟨by decide +kernel, by decide +kernel⟩, List.mem_of_getElem? (i := 529) (by decide +kernel), List.mem_of_getElem? (i := 726) (by decide +kernel), List.mem_of_getElem? (i := 727) (by decide +kernel)⟩
theorem lw_p27 : lw_okq (⟨"LineCodesModel", "isPair", "(II)Z"⟩, 18) := ⟨⟨by decide +kernel, by decide +kernel⟩, List.mem_of_getElem? (i := 529) (by decide +kernel), List.mem_of_getElem? (i := 730) (by decide +kernel), List.mem_of_getElem? (i := 731) (by decide +kernel)⟩
theorem lw_p28 : lw_okq (⟨"LineCodesModel", "leastAt", "(II)I"⟩, 18) := ⟨⟨by decide +kernel, by decide +kernel⟩, List.mem_of_getElem? (i := 529) (by decide +kernel), List.mem_of_getElem? (i := 737) (by decide +kernel), List.mem_of_getElem? (i := 738) (by decide +kernel)⟩
theorem lw_p29 : lw_okq (⟨"LineCodesModel", "isOther", "(II)Z"⟩, 18) := ⟨⟨by decide +kernel, by decide +kernel⟩, List.mem_of_getElem? (i := 529) (by decide +kernel), List.mem_of_getElem? (i := 744) (by decide +kernel), List.mem_of_getElem? (i := 745) (by decide +kernel)⟩
theorem lw_p30 : lw_okq (⟨"LineCodesModel", "add", "(I)V"⟩, 18) := ⟨⟨by decide +kernel, by decide +kernel⟩, List.mem_of_getElem? (i := 529) (by decide +kernel), List.mem_of_getElem? (i := 748) (by decide +kernel), List.mem_of_getElem? (i := 749) (by decide +kernel)⟩
theorem lw_p31 : lw_okq (⟨"LineCodesModel", "lay", "(III)V"⟩, 18) := ⟨⟨by decide +kernel, by decide +kernel⟩, List.mem_of_getElem? (i := 529) (by decide +kernel), List.mem_of_getElem? (i := 766) (by decide +kernel), List.mem_of_getElem? (i := 767) (by decide +kernel)⟩
def lw_privs_2 : List (MethodName × Nat) := [(⟨"LineCodes$Reader", "isRow", "()Z"⟩, 5), (⟨"LineCodes$Reader", "isLastAt", "(I)Z"⟩, 5), (⟨"LineCodes$Reader", "symbolAt", "(I)I"⟩, 5), (⟨"LineCodes$Reader", "isTold", "(I)Z"⟩, 5), (⟨"LineCodes$Reader", "isSwitched", "(I)Z"⟩, 5), (⟨"java/lang/Throwable", "fillInStackTrace", "(I)Ljava/lang/Throwable;"⟩, 6), (⟨"LineCodes", "addWidths", "(II)V"⟩, 5), (⟨"LineCodesModel", "relax", "()V"⟩, 18), (⟨"LineCodesModel", "with", "(III)I"⟩, 18), (⟨"LineCodesModel", "tells", "(III)I"⟩, 18), (⟨"LineCodesModel", "at", "(I)I"⟩, 18), (⟨"LineCodesModel", "isPair", "(II)Z"⟩, 18), (⟨"LineCodesModel", "leastAt", "(II)I"⟩, 18), (⟨"LineCodesModel", "isOther", "(II)Z"⟩, 18), (⟨"LineCodesModel", "add", "(I)V"⟩, 18), (⟨"LineCodesModel", "lay", "(III)V"⟩, 18)]
theorem lw_r2 : ∀ q ∈ lw_privs_2, lw_okq q := List.forall_mem_cons.mpr ⟨lw_p16, List.forall_mem_cons.mpr ⟨lw_p17, List.forall_mem_cons.mpr ⟨lw_p18, List.forall_mem_cons.mpr ⟨lw_p19, List.forall_mem_cons.mpr ⟨lw_p20, List.forall_mem_cons.mpr ⟨lw_p21, List.forall_mem_cons.mpr ⟨lw_p22, List.forall_mem_cons.mpr ⟨lw_p23, List.forall_mem_cons.mpr ⟨lw_p24, List.forall_mem_cons.mpr ⟨lw_p25, List.forall_mem_cons.mpr ⟨lw_p26, List.forall_mem_cons.mpr ⟨lw_p27, List.forall_mem_cons.mpr ⟨lw_p28, List.forall_mem_cons.mpr ⟨lw_p29, List.forall_mem_cons.mpr ⟨lw_p30, List.forall_mem_cons.mpr ⟨lw_p31, fun _ h => absurd h List.not_mem_nil⟩⟩⟩⟩⟩⟩⟩⟩⟩⟩⟩⟩⟩⟩⟩⟩
theorem lw_p32 : lw_okq (⟨"LineCodesModel", "isTurned", "(II)Z"⟩, 18) := ⟨⟨by decide +kernel, by decide +kernel⟩, List.mem_of_getElem? (i := 529) (by decide +kernel), List.mem_of_getElem? (i := 788) (by decide +kernel), List.mem_of_getElem? (i := 789) (by decide +kernel)⟩
theorem lw_p33 : lw_okq (⟨"LineCodesModel", "reverse", "([I[I)V"⟩, 18) := ⟨⟨by decide +kernel, by decide +kernel⟩, List.mem_of_getElem? (i := 529) (by decide +kernel), List.mem_of_getElem? (i := 815) (by decide +kernel), List.mem_of_getElem? (i := 816) (by decide +kernel)⟩
theorem lw_p34 : lw_okq (⟨"LineCodesModel", "isSome", "()Z"⟩, 18) := ⟨⟨by decide +kernel, by decide +kernel⟩, List.mem_of_getElem? (i := 529) (by decide +kernel), List.mem_of_getElem? (i := 823) (by decide +kernel), List.mem_of_getElem? (i := 824) (by decide +kernel)⟩
theorem lw_p35 : lw_okq (⟨"LineCodesModel", "isThirteen", "()Z"⟩, 18) := ⟨⟨by decide +kernel, by decide +kernel⟩, List.mem_of_getElem? (i := 529) (by decide +kernel), List.mem_of_getElem? (i := 827) (by decide +kernel), List.mem_of_getElem? (i := 828) (by decide +kernel)⟩
theorem lw_p36 : lw_okq (⟨"LineCodesModel", "sumOf", "(II)I"⟩, 18) := ⟨⟨by decide +kernel, by decide +kernel⟩, List.mem_of_getElem? (i := 529) (by decide +kernel), List.mem_of_getElem? (i := 831) (by decide +kernel), List.mem_of_getElem? (i := 832) (by decide +kernel)⟩
theorem lw_p37 : lw_okq (⟨"LineCodesModel", "counts", "(IIII)I"⟩, 18) := ⟨⟨by decide +kernel, by decide +kernel⟩, List.mem_of_getElem? (i := 529) (by decide +kernel), List.mem_of_getElem? (i := 835) (by decide +kernel), List.mem_of_getElem? (i := 836) (by decide +kernel)⟩
theorem lw_p38 : lw_okq (⟨"LineCodesModel", "tell", "(I)V"⟩, 18) := ⟨⟨by decide +kernel, by decide +kernel⟩, List.mem_of_getElem? (i := 529) (by decide +kernel), List.mem_of_getElem? (i := 842) (by decide +kernel), List.mem_of_getElem? (i := 843) (by decide +kernel)⟩
theorem lw_p39 : lw_okq (⟨"LineCodesModel", "isRow", "(I)Z"⟩, 18) := ⟨⟨by decide +kernel, by decide +kernel⟩, List.mem_of_getElem? (i := 529) (by decide +kernel), List.mem_of_getElem? (i := 846) (by decide +kernel), List.mem_of_getElem? (i := 847) (by decide +kernel)⟩
def lw_privs_3 : List (MethodName × Nat) := [(⟨"LineCodesModel", "isTurned", "(II)Z"⟩, 18), (⟨"LineCodesModel", "reverse", "([I[I)V"⟩, 18), (⟨"LineCodesModel", "isSome", "()Z"⟩, 18), (⟨"LineCodesModel", "isThirteen", "()Z"⟩, 18), (⟨"LineCodesModel", "sumOf", "(II)I"⟩, 18), (⟨"LineCodesModel", "counts", "(IIII)I"⟩, 18), (⟨"LineCodesModel", "tell", "(I)V"⟩, 18), (⟨"LineCodesModel", "isRow", "(I)Z"⟩, 18)]
theorem lw_r3 : ∀ q ∈ lw_privs_3, lw_okq q := List.forall_mem_cons.mpr ⟨lw_p32, List.forall_mem_cons.mpr ⟨lw_p33, List.forall_mem_cons.mpr ⟨lw_p34, List.forall_mem_cons.mpr ⟨lw_p35, List.forall_mem_cons.mpr ⟨lw_p36, List.forall_mem_cons.mpr ⟨lw_p37, List.forall_mem_cons.mpr ⟨lw_p38, List.forall_mem_cons.mpr ⟨lw_p39, fun _ h => absurd h List.not_mem_nil⟩⟩⟩⟩⟩⟩⟩⟩
def lw_privs : List (MethodName × Nat) := lw_privs_1 ++ (lw_privs_2 ++ (lw_privs_3))
def lw_tbl : List Cond := k2_sels lw_privs ++ tables_1
theorem lw_privs_ok : ∀ q ∈ lw_privs, lw_okq q := by
  show ∀ q ∈ lw_privs_1 ++ (lw_privs_2 ++ (lw_privs_3)), lw_okq q
  exact List.forall_mem_append.mpr ⟨lw_r1, List.forall_mem_append.mpr ⟨lw_r2, lw_r3⟩⟩

/-! The tables' words that every callee may ask for: one list for all methods. -/
def tb : List Cond := lw_tbl.filter goodWord
theorem tb_at {w : Cond} (i : Nat) (h : lw_tbl[i]? = some w) (hg : goodWord w = true) : w ∈ tb := List.mem_filter.mpr ⟨List.mem_of_getElem? h, hg⟩
theorem tb_good : GoodIn tb tb := fun w h => ⟨h, good_of_word (List.mem_filter.mp h).2⟩
theorem tb_sub {args : Array Value} {s : State} (h : ∀ w ∈ lw_tbl, w.before args s = true) : ∀ w ∈ tb, w.before args s = true := fun w hw => h w (List.mem_filter.mp hw).1
theorem g_C {v : Cond} (h5 : v ∈ tb) : GoodIn tb (v :: tb) := fun w hw => (List.mem_cons.mp hw).elim (fun e => e ▸ tb_good v h5) (tb_good w)
theorem g_V {own C : String} {idx : Nat} {y : MethodName} {v : Cond} (h1 : Cond.methodLink own idx y ∈ tb) (h2 : Cond.instanceMethod y ∈ tb) (h3 : Cond.selects C y y ∈ tb) (h4 : Cond.initialized C ∈ tb) (h5 : v ∈ tb) : GoodIn tb (wsV own idx C y (v :: tb)) := by
  intro w hw
  unfold wsV at hw
  rcases List.mem_append.mp hw with hw | hw
  · simp only [List.mem_cons, List.not_mem_nil, or_false] at hw
    rcases hw with rfl | rfl | rfl | rfl
    · exact tb_good _ h1
    · exact tb_good _ h2
    · exact tb_good _ h3
    · exact tb_good _ h4
  · exact g_C h5 w hw
theorem g_S {own : String} {idx : Nat} {y : MethodName} {v : Cond} (h1 : Cond.methodLink own idx y ∈ tb) (h2 : Cond.static y ∈ tb) (h4 : Cond.initialized y.cls ∈ tb) (h5 : v ∈ tb) : GoodIn tb (va_wsS own idx y (v :: tb)) := by
  intro w hw
  unfold va_wsS at hw
  rcases List.mem_append.mp hw with hw | hw
  · simp only [List.mem_cons, List.not_mem_nil, or_false] at hw
    rcases hw with rfl | rfl | rfl
    · exact tb_good _ h1
    · exact tb_good _ h2
    · exact tb_good _ h4
  · exact g_C h5 w hw
/-- a table of numbers -/
def tabL (l : List Nat) : Nat → Int32 := fun j => nI (l.getD j 0)
def symL : List Nat := [212222, 222122, 222221, 121223, 121322, 131222, 122213, 122312, 132212, 221213, 221312, 231212,
  112232, 122132, 122231, 113222, 123122, 123221, 223211, 221132, 221231, 213212, 223112, 312131,
  311222, 321122, 321221, 312212, 322112, 322211, 212123, 212321, 232121, 111323, 131123, 131321,
  112313, 132113, 132311, 211313, 231113, 231311, 112133, 112331, 132131, 113123, 113321, 133121,
  313121, 211331, 231131, 213113, 213311, 213131, 311123, 311321, 331121, 312113, 312311, 332111,
  314111, 221411, 431111, 111224, 111422, 121124, 121421, 141122, 141221, 112214, 112412, 122114,
  122411, 142112, 142211, 241211, 221114, 413111, 241112, 134111, 111242, 121142, 121241, 114212,
  124112, 124211, 411212, 421112, 421211, 212141, 214121, 412121, 111143, 111341, 131141, 114113,
  114311, 411113, 411311, 113141, 114131, 311141, 411131, 211412, 211214, 211232]
def figL : List Nat := [3211, 2221, 2122, 1411, 1132, 1231, 1114, 1312, 1213, 3112]
def trnL : List Nat := [0, 11, 13, 14, 19, 25, 28, 21, 22, 26]
def tabS : Nat → Int32 := tabL symL
def tabF : Nat → Int32 := tabL figL
def tabT : Nat → Int32 := tabL trnL
/-- the class's static tables, at the addresses ad -/
def sk (ad : Nat → Nat) (A : Nat → Prop) (U : State) (H : Heap) : Prop :=
  va_Z "LineCodes$Widths" "SYMBOLS" "[I" (.ref (ad 0)) A U H ∧ va_T .int (ad 0) 106 (fun j => .int (tabS j)) A U H ∧
  va_Z "LineCodes$Widths" "FIGURES" "[I" (.ref (ad 1)) A U H ∧ va_T .int (ad 1) 10 (fun j => .int (tabF j)) A U H ∧
  va_Z "LineCodes$Widths" "TURNS" "[I" (.ref (ad 2)) A U H ∧ va_T .int (ad 2) 10 (fun j => .int (tabT j)) A U H
/-- what the start gives holds the tables -/
def zs (Z : (Nat → Prop) → State → Heap → Prop) (ad : Nat → Nat) : Prop := ∀ (A : Nat → Prop) (U : State) (H : Heap), Z A U H → sk ad A U H
end
section
def R_Lw : String := "LineCodesLaw"
def R_Lc : String := "LineCodes"
def R_It : String := "LineCodes$Items"
def R_Se : String := "LineCodes$Sets"
def R_Wi : String := "LineCodes$Widths"
def R_Fi : String := "LineCodes$Figures"
def R_Pa : String := "LineCodes$Packer"
def R_Re : String := "LineCodes$Reader"
def R_Md : String := "LineCodesModel"
def T_It : u_T := fun k => match k with
  | 0 => ("LineCodes$Items", "items", "[I", true)
  | _ => ("LineCodes$Items", "count", "I", false)
def ty_It : Nat → FieldType := fun k => match k with
  | 0 => .array .int
  | _ => .int
theorem nn_It : ∀ a, a < 2 → ∀ b, b < 2 → a ≠ b → (T_It a).2.1 ≠ (T_It b).2.1 := by decide +kernel
theorem tk_It : ∀ k, k < 2 → parseFieldDescriptor (T_It k).2.2.1 = some (ty_It k) := by decide +kernel
def T_Pa : u_T := fun k => match k with
  | 0 => ("LineCodes$Packer", "text", "LLineCodes$Items;", true)
  | 1 => ("LineCodes$Packer", "row", "LLineCodes$Items;", true)
  | _ => ("LineCodes$Packer", "costs", "[I", true)
def ty_Pa : Nat → FieldType := fun k => match k with
  | 0 => .object "LineCodes$Items"
  | 1 => .object "LineCodes$Items"
  | _ => .array .int
theorem nn_Pa : ∀ a, a < 3 → ∀ b, b < 3 → a ≠ b → (T_Pa a).2.1 ≠ (T_Pa b).2.1 := by decide +kernel
theorem tk_Pa : ∀ k, k < 3 → parseFieldDescriptor (T_Pa k).2.2.1 = some (ty_Pa k) := by decide +kernel
def T_Re : u_T := fun k => match k with
  | 0 => ("LineCodes$Reader", "strip", "LLineCodes$Items;", true)
  | 1 => ("LineCodes$Reader", "told", "LLineCodes$Items;", true)
  | 2 => ("LineCodes$Reader", "fromBack", "Z", false)
  | 3 => ("LineCodes$Reader", "set", "I", false)
  | _ => ("LineCodes$Reader", "shifted", "Z", false)
def ty_Re : Nat → FieldType := fun k => match k with
  | 0 => .object "LineCodes$Items"
  | 1 => .object "LineCodes$Items"
  | 2 => .boolean
  | 3 => .int
  | _ => .boolean
theorem nn_Re : ∀ a, a < 5 → ∀ b, b < 5 → a ≠ b → (T_Re a).2.1 ≠ (T_Re b).2.1 := by decide +kernel
theorem tk_Re : ∀ k, k < 5 → parseFieldDescriptor (T_Re k).2.2.1 = some (ty_Re k) := by decide +kernel
def T_Lc : u_T := fun k => match k with
  | 0 => ("LineCodes", "text", "LLineCodes$Items;", true)
  | 1 => ("LineCodes", "row", "LLineCodes$Items;", true)
  | 2 => ("LineCodes", "strip", "LLineCodes$Items;", true)
  | 3 => ("LineCodes", "packer", "LLineCodes$Packer;", true)
  | _ => ("LineCodes", "reader", "LLineCodes$Reader;", true)
def ty_Lc : Nat → FieldType := fun k => match k with
  | 0 => .object "LineCodes$Items"
  | 1 => .object "LineCodes$Items"
  | 2 => .object "LineCodes$Items"
  | 3 => .object "LineCodes$Packer"
  | _ => .object "LineCodes$Reader"
theorem nn_Lc : ∀ a, a < 5 → ∀ b, b < 5 → a ≠ b → (T_Lc a).2.1 ≠ (T_Lc b).2.1 := by decide +kernel
theorem tk_Lc : ∀ k, k < 5 → parseFieldDescriptor (T_Lc k).2.2.1 = some (ty_Lc k) := by decide +kernel
def T_Md : u_T := fun k => match k with
  | 0 => ("LineCodesModel", "bars", "[I", true)
  | 1 => ("LineCodesModel", "figures", "[I", true)
  | 2 => ("LineCodesModel", "turns", "[I", true)
  | 3 => ("LineCodesModel", "thrown", "I", false)
  | 4 => ("LineCodesModel", "text", "[I", true)
  | 5 => ("LineCodesModel", "length", "I", false)
  | 6 => ("LineCodesModel", "least", "[I", true)
  | 7 => ("LineCodesModel", "row", "[I", true)
  | 8 => ("LineCodesModel", "symbols", "I", false)
  | 9 => ("LineCodesModel", "strip", "[I", true)
  | 10 => ("LineCodesModel", "widths", "I", false)
  | 11 => ("LineCodesModel", "turned", "[I", true)
  | 12 => ("LineCodesModel", "found", "[I", true)
  | 13 => ("LineCodesModel", "signs", "[I", true)
  | 14 => ("LineCodesModel", "told", "I", false)
  | 15 => ("LineCodesModel", "back", "Z", false)
  | 16 => ("LineCodesModel", "draft", "[I", true)
  | _ => ("LineCodesModel", "drafted", "I", false)
def ty_Md : Nat → FieldType := fun k => match k with
  | 0 => .array .int
  | 1 => .array .int
  | 2 => .array .int
  | 3 => .int
  | 4 => .array .int
  | 5 => .int
  | 6 => .array .int
  | 7 => .array .int
  | 8 => .int
  | 9 => .array .int
  | 10 => .int
  | 11 => .array .int
  | 12 => .array .int
  | 13 => .array .int
  | 14 => .int
  | 15 => .boolean
  | 16 => .array .int
  | _ => .int
theorem nn_Md : ∀ a, a < 18 → ∀ b, b < 18 → a ≠ b → (T_Md a).2.1 ≠ (T_Md b).2.1 := by decide +kernel
theorem tk_Md : ∀ k, k < 18 → parseFieldDescriptor (T_Md k).2.2.1 = some (ty_Md k) := by decide +kernel
abbrev vwCl : List vw_C := [(R_It, T_It, 2), (R_Pa, T_Pa, 3), (R_Re, T_Re, 5), (R_Lc, T_Lc, 5), (R_Md, T_Md, 18)]
abbrev c_Lc_init : ByteArray := prog_1_method_1_code
def y_Lc_init : MethodName := ⟨R_Lc, "<init>", "()V"⟩
abbrev wc_Lc_init : Cond := .code y_Lc_init c_Lc_init 1 none
abbrev ws_Lc_init : List Cond := wc_Lc_init :: tb
theorem hd_Lc_init : y_Lc_init.cls = R_Lc ∧ y_Lc_init.cls ≠ "java/lang/invoke/MethodHandle" ∧ y_Lc_init.cls ≠ "java/lang/invoke/VarHandle" ∧ (parseMethodDescriptor y_Lc_init.desc).map (fun d => d.parameters.length) = some 0 := by decide +kernel
abbrev c_Lc_write : ByteArray := prog_1_method_2_code
def y_Lc_write : MethodName := ⟨R_Lc, "write", "(IJ)I"⟩
abbrev wc_Lc_write : Cond := .code y_Lc_write c_Lc_write 5 (some .int)
abbrev ws_Lc_write : List Cond := wc_Lc_write :: tb
theorem hd_Lc_write : y_Lc_write.cls = R_Lc ∧ y_Lc_write.cls ≠ "java/lang/invoke/MethodHandle" ∧ y_Lc_write.cls ≠ "java/lang/invoke/VarHandle" ∧ (parseMethodDescriptor y_Lc_write.desc).map (fun d => d.parameters.length) = some 2 := by decide +kernel
abbrev c_Lc_wipe : ByteArray := prog_1_method_3_code
def y_Lc_wipe : MethodName := ⟨R_Lc, "wipe", "()I"⟩
abbrev wc_Lc_wipe : Cond := .code y_Lc_wipe c_Lc_wipe 1 (some .int)
abbrev ws_Lc_wipe : List Cond := wc_Lc_wipe :: tb
theorem hd_Lc_wipe : y_Lc_wipe.cls = R_Lc ∧ y_Lc_wipe.cls ≠ "java/lang/invoke/MethodHandle" ∧ y_Lc_wipe.cls ≠ "java/lang/invoke/VarHandle" ∧ (parseMethodDescriptor y_Lc_wipe.desc).map (fun d => d.parameters.length) = some 0 := by decide +kernel
abbrev c_Lc_pack : ByteArray := prog_1_method_4_code
def y_Lc_pack : MethodName := ⟨R_Lc, "pack", "()I"⟩
abbrev wc_Lc_pack : Cond := .code y_Lc_pack c_Lc_pack 1 (some .int)
abbrev ws_Lc_pack : List Cond := wc_Lc_pack :: tb
theorem hd_Lc_pack : y_Lc_pack.cls = R_Lc ∧ y_Lc_pack.cls ≠ "java/lang/invoke/MethodHandle" ∧ y_Lc_pack.cls ≠ "java/lang/invoke/VarHandle" ∧ (parseMethodDescriptor y_Lc_pack.desc).map (fun d => d.parameters.length) = some 0 := by decide +kernel
abbrev c_Lc_symbol : ByteArray := prog_1_method_5_code
def y_Lc_symbol : MethodName := ⟨R_Lc, "symbol", "(I)I"⟩
abbrev wc_Lc_symbol : Cond := .code y_Lc_symbol c_Lc_symbol 2 (some .int)
abbrev ws_Lc_symbol : List Cond := wc_Lc_symbol :: tb
theorem hd_Lc_symbol : y_Lc_symbol.cls = R_Lc ∧ y_Lc_symbol.cls ≠ "java/lang/invoke/MethodHandle" ∧ y_Lc_symbol.cls ≠ "java/lang/invoke/VarHandle" ∧ (parseMethodDescriptor y_Lc_symbol.desc).map (fun d => d.parameters.length) = some 1 := by decide +kernel
abbrev c_Lc_bars : ByteArray := prog_1_method_6_code
def y_Lc_bars : MethodName := ⟨R_Lc, "bars", "(I)I"⟩
abbrev wc_Lc_bars : Cond := .code y_Lc_bars c_Lc_bars 3 (some .int)
abbrev ws_Lc_bars : List Cond := wc_Lc_bars :: tb
theorem hd_Lc_bars : y_Lc_bars.cls = R_Lc ∧ y_Lc_bars.cls ≠ "java/lang/invoke/MethodHandle" ∧ y_Lc_bars.cls ≠ "java/lang/invoke/VarHandle" ∧ (parseMethodDescriptor y_Lc_bars.desc).map (fun d => d.parameters.length) = some 1 := by decide +kernel
abbrev c_Lc_checkFigure : ByteArray := prog_1_method_7_code
def y_Lc_checkFigure : MethodName := ⟨R_Lc, "checkFigure", "(J)I"⟩
abbrev wc_Lc_checkFigure : Cond := .code y_Lc_checkFigure c_Lc_checkFigure 3 (some .int)
abbrev ws_Lc_checkFigure : List Cond := wc_Lc_checkFigure :: tb
theorem hd_Lc_checkFigure : y_Lc_checkFigure.cls = R_Lc ∧ y_Lc_checkFigure.cls ≠ "java/lang/invoke/MethodHandle" ∧ y_Lc_checkFigure.cls ≠ "java/lang/invoke/VarHandle" ∧ (parseMethodDescriptor y_Lc_checkFigure.desc).map (fun d => d.parameters.length) = some 1 := by decide +kernel
abbrev c_Lc_thirteen : ByteArray := prog_1_method_8_code
def y_Lc_thirteen : MethodName := ⟨R_Lc, "thirteen", "(JI)I"⟩
abbrev wc_Lc_thirteen : Cond := .code y_Lc_thirteen c_Lc_thirteen 8 (some .int)
abbrev ws_Lc_thirteen : List Cond := wc_Lc_thirteen :: tb
theorem hd_Lc_thirteen : y_Lc_thirteen.cls = R_Lc ∧ y_Lc_thirteen.cls ≠ "java/lang/invoke/MethodHandle" ∧ y_Lc_thirteen.cls ≠ "java/lang/invoke/VarHandle" ∧ (parseMethodDescriptor y_Lc_thirteen.desc).map (fun d => d.parameters.length) = some 2 := by decide +kernel
abbrev c_Lc_put : ByteArray := prog_1_method_9_code
def y_Lc_put : MethodName := ⟨R_Lc, "put", "(IJ)I"⟩
abbrev wc_Lc_put : Cond := .code y_Lc_put c_Lc_put 5 (some .int)
abbrev ws_Lc_put : List Cond := wc_Lc_put :: tb
theorem hd_Lc_put : y_Lc_put.cls = R_Lc ∧ y_Lc_put.cls ≠ "java/lang/invoke/MethodHandle" ∧ y_Lc_put.cls ≠ "java/lang/invoke/VarHandle" ∧ (parseMethodDescriptor y_Lc_put.desc).map (fun d => d.parameters.length) = some 2 := by decide +kernel
abbrev c_Lc_clear : ByteArray := prog_1_method_10_code
def y_Lc_clear : MethodName := ⟨R_Lc, "clear", "()I"⟩
abbrev wc_Lc_clear : Cond := .code y_Lc_clear c_Lc_clear 1 (some .int)
abbrev ws_Lc_clear : List Cond := wc_Lc_clear :: tb
theorem hd_Lc_clear : y_Lc_clear.cls = R_Lc ∧ y_Lc_clear.cls ≠ "java/lang/invoke/MethodHandle" ∧ y_Lc_clear.cls ≠ "java/lang/invoke/VarHandle" ∧ (parseMethodDescriptor y_Lc_clear.desc).map (fun d => d.parameters.length) = some 0 := by decide +kernel
abbrev c_Lc_width : ByteArray := prog_1_method_11_code
def y_Lc_width : MethodName := ⟨R_Lc, "width", "(I)I"⟩
abbrev wc_Lc_width : Cond := .code y_Lc_width c_Lc_width 2 (some .int)
abbrev ws_Lc_width : List Cond := wc_Lc_width :: tb
theorem hd_Lc_width : y_Lc_width.cls = R_Lc ∧ y_Lc_width.cls ≠ "java/lang/invoke/MethodHandle" ∧ y_Lc_width.cls ≠ "java/lang/invoke/VarHandle" ∧ (parseMethodDescriptor y_Lc_width.desc).map (fun d => d.parameters.length) = some 1 := by decide +kernel
abbrev c_Lc_spoil : ByteArray := prog_1_method_12_code
def y_Lc_spoil : MethodName := ⟨R_Lc, "spoil", "(II)I"⟩
abbrev wc_Lc_spoil : Cond := .code y_Lc_spoil c_Lc_spoil 3 (some .int)
abbrev ws_Lc_spoil : List Cond := wc_Lc_spoil :: tb
theorem hd_Lc_spoil : y_Lc_spoil.cls = R_Lc ∧ y_Lc_spoil.cls ≠ "java/lang/invoke/MethodHandle" ∧ y_Lc_spoil.cls ≠ "java/lang/invoke/VarHandle" ∧ (parseMethodDescriptor y_Lc_spoil.desc).map (fun d => d.parameters.length) = some 2 := by decide +kernel
abbrev c_Lc_turn : ByteArray := prog_1_method_13_code
def y_Lc_turn : MethodName := ⟨R_Lc, "turn", "()I"⟩
abbrev wc_Lc_turn : Cond := .code y_Lc_turn c_Lc_turn 1 (some .int)
abbrev ws_Lc_turn : List Cond := wc_Lc_turn :: tb
theorem hd_Lc_turn : y_Lc_turn.cls = R_Lc ∧ y_Lc_turn.cls ≠ "java/lang/invoke/MethodHandle" ∧ y_Lc_turn.cls ≠ "java/lang/invoke/VarHandle" ∧ (parseMethodDescriptor y_Lc_turn.desc).map (fun d => d.parameters.length) = some 0 := by decide +kernel
abbrev c_Lc_read : ByteArray := prog_1_method_14_code
def y_Lc_read : MethodName := ⟨R_Lc, "read", "()I"⟩
abbrev wc_Lc_read : Cond := .code y_Lc_read c_Lc_read 2 (some .int)
abbrev ws_Lc_read : List Cond := wc_Lc_read :: tb
theorem hd_Lc_read : y_Lc_read.cls = R_Lc ∧ y_Lc_read.cls ≠ "java/lang/invoke/MethodHandle" ∧ y_Lc_read.cls ≠ "java/lang/invoke/VarHandle" ∧ (parseMethodDescriptor y_Lc_read.desc).map (fun d => d.parameters.length) = some 0 := by decide +kernel
abbrev c_Lc_sign : ByteArray := prog_1_method_15_code
def y_Lc_sign : MethodName := ⟨R_Lc, "sign", "(I)I"⟩
abbrev wc_Lc_sign : Cond := .code y_Lc_sign c_Lc_sign 2 (some .int)
abbrev ws_Lc_sign : List Cond := wc_Lc_sign :: tb
theorem hd_Lc_sign : y_Lc_sign.cls = R_Lc ∧ y_Lc_sign.cls ≠ "java/lang/invoke/MethodHandle" ∧ y_Lc_sign.cls ≠ "java/lang/invoke/VarHandle" ∧ (parseMethodDescriptor y_Lc_sign.desc).map (fun d => d.parameters.length) = some 1 := by decide +kernel
abbrev c_Lc_backwards : ByteArray := prog_1_method_16_code
def y_Lc_backwards : MethodName := ⟨R_Lc, "backwards", "()Z"⟩
abbrev wc_Lc_backwards : Cond := .code y_Lc_backwards c_Lc_backwards 1 (some .boolean)
abbrev ws_Lc_backwards : List Cond := wc_Lc_backwards :: tb
theorem hd_Lc_backwards : y_Lc_backwards.cls = R_Lc ∧ y_Lc_backwards.cls ≠ "java/lang/invoke/MethodHandle" ∧ y_Lc_backwards.cls ≠ "java/lang/invoke/VarHandle" ∧ (parseMethodDescriptor y_Lc_backwards.desc).map (fun d => d.parameters.length) = some 0 := by decide +kernel
abbrev c_Lc_refuseByteCount : ByteArray := prog_1_method_17_code
def y_Lc_refuseByteCount : MethodName := ⟨R_Lc, "refuseByteCount", "(I)V"⟩
abbrev wc_Lc_refuseByteCount : Cond := .code y_Lc_refuseByteCount c_Lc_refuseByteCount 1 none
abbrev ws_Lc_refuseByteCount : List Cond := wc_Lc_refuseByteCount :: tb
theorem hd_Lc_refuseByteCount : y_Lc_refuseByteCount.cls = R_Lc ∧ y_Lc_refuseByteCount.cls ≠ "java/lang/invoke/MethodHandle" ∧ y_Lc_refuseByteCount.cls ≠ "java/lang/invoke/VarHandle" ∧ (parseMethodDescriptor y_Lc_refuseByteCount.desc).map (fun d => d.parameters.length) = some 1 := by decide +kernel
abbrev c_Lc_refuseModule : ByteArray := prog_1_method_18_code
def y_Lc_refuseModule : MethodName := ⟨R_Lc, "refuseModule", "(I)V"⟩
abbrev wc_Lc_refuseModule : Cond := .code y_Lc_refuseModule c_Lc_refuseModule 1 none
abbrev ws_Lc_refuseModule : List Cond := wc_Lc_refuseModule :: tb
theorem hd_Lc_refuseModule : y_Lc_refuseModule.cls = R_Lc ∧ y_Lc_refuseModule.cls ≠ "java/lang/invoke/MethodHandle" ∧ y_Lc_refuseModule.cls ≠ "java/lang/invoke/VarHandle" ∧ (parseMethodDescriptor y_Lc_refuseModule.desc).map (fun d => d.parameters.length) = some 1 := by decide +kernel
abbrev c_Lc_refuseTwelve : ByteArray := prog_1_method_19_code
def y_Lc_refuseTwelve : MethodName := ⟨R_Lc, "refuseTwelve", "(J)V"⟩
abbrev wc_Lc_refuseTwelve : Cond := .code y_Lc_refuseTwelve c_Lc_refuseTwelve 2 none
abbrev ws_Lc_refuseTwelve : List Cond := wc_Lc_refuseTwelve :: tb
theorem hd_Lc_refuseTwelve : y_Lc_refuseTwelve.cls = R_Lc ∧ y_Lc_refuseTwelve.cls ≠ "java/lang/invoke/MethodHandle" ∧ y_Lc_refuseTwelve.cls ≠ "java/lang/invoke/VarHandle" ∧ (parseMethodDescriptor y_Lc_refuseTwelve.desc).map (fun d => d.parameters.length) = some 1 := by decide +kernel
abbrev c_Lc_byteOf : ByteArray := prog_1_method_20_code
def y_Lc_byteOf : MethodName := ⟨R_Lc, "byteOf", "(JI)I"⟩
abbrev wc_Lc_byteOf : Cond := .code y_Lc_byteOf c_Lc_byteOf 3 (some .int)
abbrev ws_Lc_byteOf : List Cond := wc_Lc_byteOf :: tb
theorem hd_Lc_byteOf : y_Lc_byteOf.cls = R_Lc ∧ y_Lc_byteOf.cls ≠ "java/lang/invoke/MethodHandle" ∧ y_Lc_byteOf.cls ≠ "java/lang/invoke/VarHandle" ∧ (parseMethodDescriptor y_Lc_byteOf.desc).map (fun d => d.parameters.length) = some 2 := by decide +kernel
abbrev c_Lc_addBytes : ByteArray := prog_1_method_21_code
def y_Lc_addBytes : MethodName := ⟨R_Lc, "addBytes", "(LLineCodes$Items;IJ)I"⟩
abbrev wc_Lc_addBytes : Cond := .code y_Lc_addBytes c_Lc_addBytes 5 (some .int)
abbrev ws_Lc_addBytes : List Cond := wc_Lc_addBytes :: tb
theorem hd_Lc_addBytes : y_Lc_addBytes.cls = R_Lc ∧ y_Lc_addBytes.cls ≠ "java/lang/invoke/MethodHandle" ∧ y_Lc_addBytes.cls ≠ "java/lang/invoke/VarHandle" ∧ (parseMethodDescriptor y_Lc_addBytes.desc).map (fun d => d.parameters.length) = some 3 := by decide +kernel
abbrev c_Lc_addWidths : ByteArray := prog_1_method_22_code
def y_Lc_addWidths : MethodName := ⟨R_Lc, "addWidths", "(II)V"⟩
abbrev wc_Lc_addWidths : Cond := .code y_Lc_addWidths c_Lc_addWidths 4 none
abbrev ws_Lc_addWidths : List Cond := wc_Lc_addWidths :: tb
theorem hd_Lc_addWidths : y_Lc_addWidths.cls = R_Lc ∧ y_Lc_addWidths.cls ≠ "java/lang/invoke/MethodHandle" ∧ y_Lc_addWidths.cls ≠ "java/lang/invoke/VarHandle" ∧ (parseMethodDescriptor y_Lc_addWidths.desc).map (fun d => d.parameters.length) = some 2 := by decide +kernel
abbrev c_Md_init : ByteArray := prog_9_method_1_code
def y_Md_init : MethodName := ⟨R_Md, "<init>", "()V"⟩
abbrev wc_Md_init : Cond := .code y_Md_init c_Md_init 1 none
abbrev ws_Md_init : List Cond := wc_Md_init :: tb
theorem hd_Md_init : y_Md_init.cls = R_Md ∧ y_Md_init.cls ≠ "java/lang/invoke/MethodHandle" ∧ y_Md_init.cls ≠ "java/lang/invoke/VarHandle" ∧ (parseMethodDescriptor y_Md_init.desc).map (fun d => d.parameters.length) = some 0 := by decide +kernel
abbrev c_Md_thrown : ByteArray := prog_9_method_2_code
def y_Md_thrown : MethodName := ⟨R_Md, "thrown", "()I"⟩
abbrev wc_Md_thrown : Cond := .code y_Md_thrown c_Md_thrown 1 (some .int)
abbrev ws_Md_thrown : List Cond := wc_Md_thrown :: tb
theorem hd_Md_thrown : y_Md_thrown.cls = R_Md ∧ y_Md_thrown.cls ≠ "java/lang/invoke/MethodHandle" ∧ y_Md_thrown.cls ≠ "java/lang/invoke/VarHandle" ∧ (parseMethodDescriptor y_Md_thrown.desc).map (fun d => d.parameters.length) = some 0 := by decide +kernel
abbrev c_Md_write : ByteArray := prog_9_method_3_code
def y_Md_write : MethodName := ⟨R_Md, "write", "(IJ)I"⟩
abbrev wc_Md_write : Cond := .code y_Md_write c_Md_write 5 (some .int)
abbrev ws_Md_write : List Cond := wc_Md_write :: tb
theorem hd_Md_write : y_Md_write.cls = R_Md ∧ y_Md_write.cls ≠ "java/lang/invoke/MethodHandle" ∧ y_Md_write.cls ≠ "java/lang/invoke/VarHandle" ∧ (parseMethodDescriptor y_Md_write.desc).map (fun d => d.parameters.length) = some 2 := by decide +kernel
abbrev c_Md_wipe : ByteArray := prog_9_method_4_code
def y_Md_wipe : MethodName := ⟨R_Md, "wipe", "()I"⟩
abbrev wc_Md_wipe : Cond := .code y_Md_wipe c_Md_wipe 2 (some .int)
abbrev ws_Md_wipe : List Cond := wc_Md_wipe :: tb
theorem hd_Md_wipe : y_Md_wipe.cls = R_Md ∧ y_Md_wipe.cls ≠ "java/lang/invoke/MethodHandle" ∧ y_Md_wipe.cls ≠ "java/lang/invoke/VarHandle" ∧ (parseMethodDescriptor y_Md_wipe.desc).map (fun d => d.parameters.length) = some 0 := by decide +kernel
abbrev c_Md_signOf : ByteArray := prog_9_method_5_code
def y_Md_signOf : MethodName := ⟨R_Md, "signOf", "(II)I"⟩
abbrev wc_Md_signOf : Cond := .code y_Md_signOf c_Md_signOf 2 (some .int)
abbrev ws_Md_signOf : List Cond := wc_Md_signOf :: tb
theorem hd_Md_signOf : y_Md_signOf.cls = R_Md ∧ y_Md_signOf.cls ≠ "java/lang/invoke/MethodHandle" ∧ y_Md_signOf.cls ≠ "java/lang/invoke/VarHandle" ∧ (parseMethodDescriptor y_Md_signOf.desc).map (fun d => d.parameters.length) = some 2 := by decide +kernel
abbrev c_Md_at : ByteArray := prog_9_method_6_code
def y_Md_at : MethodName := ⟨R_Md, "at", "(I)I"⟩
abbrev wc_Md_at : Cond := .code y_Md_at c_Md_at 2 (some .int)
abbrev ws_Md_at : List Cond := wc_Md_at :: tb
theorem hd_Md_at : y_Md_at.cls = R_Md ∧ y_Md_at.cls ≠ "java/lang/invoke/MethodHandle" ∧ y_Md_at.cls ≠ "java/lang/invoke/VarHandle" ∧ (parseMethodDescriptor y_Md_at.desc).map (fun d => d.parameters.length) = some 1 := by decide +kernel
abbrev c_Md_isPair : ByteArray := prog_9_method_7_code
def y_Md_isPair : MethodName := ⟨R_Md, "isPair", "(II)Z"⟩
abbrev wc_Md_isPair : Cond := .code y_Md_isPair c_Md_isPair 3 (some .boolean)
abbrev ws_Md_isPair : List Cond := wc_Md_isPair :: tb
theorem hd_Md_isPair : y_Md_isPair.cls = R_Md ∧ y_Md_isPair.cls ≠ "java/lang/invoke/MethodHandle" ∧ y_Md_isPair.cls ≠ "java/lang/invoke/VarHandle" ∧ (parseMethodDescriptor y_Md_isPair.desc).map (fun d => d.parameters.length) = some 2 := by decide +kernel
abbrev c_Md_tells : ByteArray := prog_9_method_8_code
def y_Md_tells : MethodName := ⟨R_Md, "tells", "(III)I"⟩
abbrev wc_Md_tells : Cond := .code y_Md_tells c_Md_tells 4 (some .int)
abbrev ws_Md_tells : List Cond := wc_Md_tells :: tb
theorem hd_Md_tells : y_Md_tells.cls = R_Md ∧ y_Md_tells.cls ≠ "java/lang/invoke/MethodHandle" ∧ y_Md_tells.cls ≠ "java/lang/invoke/VarHandle" ∧ (parseMethodDescriptor y_Md_tells.desc).map (fun d => d.parameters.length) = some 3 := by decide +kernel
abbrev c_Md_goes : ByteArray := prog_9_method_9_code
def y_Md_goes : MethodName := ⟨R_Md, "goes", "(II)I"⟩
abbrev wc_Md_goes : Cond := .code y_Md_goes c_Md_goes 3 (some .int)
abbrev ws_Md_goes : List Cond := wc_Md_goes :: tb
theorem hd_Md_goes : y_Md_goes.cls = R_Md ∧ y_Md_goes.cls ≠ "java/lang/invoke/MethodHandle" ∧ y_Md_goes.cls ≠ "java/lang/invoke/VarHandle" ∧ (parseMethodDescriptor y_Md_goes.desc).map (fun d => d.parameters.length) = some 2 := by decide +kernel
abbrev c_Md_leastAt : ByteArray := prog_9_method_10_code
def y_Md_leastAt : MethodName := ⟨R_Md, "leastAt", "(II)I"⟩
abbrev wc_Md_leastAt : Cond := .code y_Md_leastAt c_Md_leastAt 3 (some .int)
abbrev ws_Md_leastAt : List Cond := wc_Md_leastAt :: tb
theorem hd_Md_leastAt : y_Md_leastAt.cls = R_Md ∧ y_Md_leastAt.cls ≠ "java/lang/invoke/MethodHandle" ∧ y_Md_leastAt.cls ≠ "java/lang/invoke/VarHandle" ∧ (parseMethodDescriptor y_Md_leastAt.desc).map (fun d => d.parameters.length) = some 2 := by decide +kernel
abbrev c_Md_with : ByteArray := prog_9_method_11_code
def y_Md_with : MethodName := ⟨R_Md, "with", "(III)I"⟩
abbrev wc_Md_with : Cond := .code y_Md_with c_Md_with 5 (some .int)
abbrev ws_Md_with : List Cond := wc_Md_with :: tb
theorem hd_Md_with : y_Md_with.cls = R_Md ∧ y_Md_with.cls ≠ "java/lang/invoke/MethodHandle" ∧ y_Md_with.cls ≠ "java/lang/invoke/VarHandle" ∧ (parseMethodDescriptor y_Md_with.desc).map (fun d => d.parameters.length) = some 3 := by decide +kernel
abbrev c_Md_isOther : ByteArray := prog_9_method_12_code
def y_Md_isOther : MethodName := ⟨R_Md, "isOther", "(II)Z"⟩
abbrev wc_Md_isOther : Cond := .code y_Md_isOther c_Md_isOther 5 (some .boolean)
abbrev ws_Md_isOther : List Cond := wc_Md_isOther :: tb
theorem hd_Md_isOther : y_Md_isOther.cls = R_Md ∧ y_Md_isOther.cls ≠ "java/lang/invoke/MethodHandle" ∧ y_Md_isOther.cls ≠ "java/lang/invoke/VarHandle" ∧ (parseMethodDescriptor y_Md_isOther.desc).map (fun d => d.parameters.length) = some 2 := by decide +kernel
abbrev c_Md_relax : ByteArray := prog_9_method_13_code
def y_Md_relax : MethodName := ⟨R_Md, "relax", "()V"⟩
abbrev wc_Md_relax : Cond := .code y_Md_relax c_Md_relax 6 none
abbrev ws_Md_relax : List Cond := wc_Md_relax :: tb
theorem hd_Md_relax : y_Md_relax.cls = R_Md ∧ y_Md_relax.cls ≠ "java/lang/invoke/MethodHandle" ∧ y_Md_relax.cls ≠ "java/lang/invoke/VarHandle" ∧ (parseMethodDescriptor y_Md_relax.desc).map (fun d => d.parameters.length) = some 0 := by decide +kernel
abbrev c_Md_add : ByteArray := prog_9_method_14_code
def y_Md_add : MethodName := ⟨R_Md, "add", "(I)V"⟩
abbrev wc_Md_add : Cond := .code y_Md_add c_Md_add 2 none
abbrev ws_Md_add : List Cond := wc_Md_add :: tb
theorem hd_Md_add : y_Md_add.cls = R_Md ∧ y_Md_add.cls ≠ "java/lang/invoke/MethodHandle" ∧ y_Md_add.cls ≠ "java/lang/invoke/VarHandle" ∧ (parseMethodDescriptor y_Md_add.desc).map (fun d => d.parameters.length) = some 1 := by decide +kernel
abbrev c_Md_check : ByteArray := prog_9_method_15_code
def y_Md_check : MethodName := ⟨R_Md, "check", "([II)I"⟩
abbrev wc_Md_check : Cond := .code y_Md_check c_Md_check 4 (some .int)
abbrev ws_Md_check : List Cond := wc_Md_check :: tb
theorem hd_Md_check : y_Md_check.cls = R_Md ∧ y_Md_check.cls ≠ "java/lang/invoke/MethodHandle" ∧ y_Md_check.cls ≠ "java/lang/invoke/VarHandle" ∧ (parseMethodDescriptor y_Md_check.desc).map (fun d => d.parameters.length) = some 2 := by decide +kernel
abbrev c_Md_pack : ByteArray := prog_9_method_16_code
def y_Md_pack : MethodName := ⟨R_Md, "pack", "()I"⟩
abbrev wc_Md_pack : Cond := .code y_Md_pack c_Md_pack 5 (some .int)
abbrev ws_Md_pack : List Cond := wc_Md_pack :: tb
theorem hd_Md_pack : y_Md_pack.cls = R_Md ∧ y_Md_pack.cls ≠ "java/lang/invoke/MethodHandle" ∧ y_Md_pack.cls ≠ "java/lang/invoke/VarHandle" ∧ (parseMethodDescriptor y_Md_pack.desc).map (fun d => d.parameters.length) = some 0 := by decide +kernel
abbrev c_Md_symbol : ByteArray := prog_9_method_17_code
def y_Md_symbol : MethodName := ⟨R_Md, "symbol", "(I)I"⟩
abbrev wc_Md_symbol : Cond := .code y_Md_symbol c_Md_symbol 2 (some .int)
abbrev ws_Md_symbol : List Cond := wc_Md_symbol :: tb
theorem hd_Md_symbol : y_Md_symbol.cls = R_Md ∧ y_Md_symbol.cls ≠ "java/lang/invoke/MethodHandle" ∧ y_Md_symbol.cls ≠ "java/lang/invoke/VarHandle" ∧ (parseMethodDescriptor y_Md_symbol.desc).map (fun d => d.parameters.length) = some 1 := by decide +kernel
abbrev c_Md_lay : ByteArray := prog_9_method_18_code
def y_Md_lay : MethodName := ⟨R_Md, "lay", "(III)V"⟩
abbrev wc_Md_lay : Cond := .code y_Md_lay c_Md_lay 6 none
abbrev ws_Md_lay : List Cond := wc_Md_lay :: tb
theorem hd_Md_lay : y_Md_lay.cls = R_Md ∧ y_Md_lay.cls ≠ "java/lang/invoke/MethodHandle" ∧ y_Md_lay.cls ≠ "java/lang/invoke/VarHandle" ∧ (parseMethodDescriptor y_Md_lay.desc).map (fun d => d.parameters.length) = some 3 := by decide +kernel
abbrev c_Md_noModule : ByteArray := prog_9_method_19_code
def y_Md_noModule : MethodName := ⟨R_Md, "noModule", "(I)Z"⟩
abbrev wc_Md_noModule : Cond := .code y_Md_noModule c_Md_noModule 1 (some .boolean)
abbrev ws_Md_noModule : List Cond := wc_Md_noModule :: tb
theorem hd_Md_noModule : y_Md_noModule.cls = R_Md ∧ y_Md_noModule.cls ≠ "java/lang/invoke/MethodHandle" ∧ y_Md_noModule.cls ≠ "java/lang/invoke/VarHandle" ∧ (parseMethodDescriptor y_Md_noModule.desc).map (fun d => d.parameters.length) = some 1 := by decide +kernel
abbrev c_Md_bars : ByteArray := prog_9_method_20_code
def y_Md_bars : MethodName := ⟨R_Md, "bars", "(I)I"⟩
abbrev wc_Md_bars : Cond := .code y_Md_bars c_Md_bars 3 (some .int)
abbrev ws_Md_bars : List Cond := wc_Md_bars :: tb
theorem hd_Md_bars : y_Md_bars.cls = R_Md ∧ y_Md_bars.cls ≠ "java/lang/invoke/MethodHandle" ∧ y_Md_bars.cls ≠ "java/lang/invoke/VarHandle" ∧ (parseMethodDescriptor y_Md_bars.desc).map (fun d => d.parameters.length) = some 1 := by decide +kernel
abbrev c_Md_noTwelve : ByteArray := prog_9_method_21_code
def y_Md_noTwelve : MethodName := ⟨R_Md, "noTwelve", "(J)Z"⟩
abbrev wc_Md_noTwelve : Cond := .code y_Md_noTwelve c_Md_noTwelve 2 (some .boolean)
abbrev ws_Md_noTwelve : List Cond := wc_Md_noTwelve :: tb
theorem hd_Md_noTwelve : y_Md_noTwelve.cls = R_Md ∧ y_Md_noTwelve.cls ≠ "java/lang/invoke/MethodHandle" ∧ y_Md_noTwelve.cls ≠ "java/lang/invoke/VarHandle" ∧ (parseMethodDescriptor y_Md_noTwelve.desc).map (fun d => d.parameters.length) = some 1 := by decide +kernel
abbrev c_Md_figure : ByteArray := prog_9_method_22_code
def y_Md_figure : MethodName := ⟨R_Md, "figure", "(JI)I"⟩
abbrev wc_Md_figure : Cond := .code y_Md_figure c_Md_figure 6 (some .int)
abbrev ws_Md_figure : List Cond := wc_Md_figure :: tb
theorem hd_Md_figure : y_Md_figure.cls = R_Md ∧ y_Md_figure.cls ≠ "java/lang/invoke/MethodHandle" ∧ y_Md_figure.cls ≠ "java/lang/invoke/VarHandle" ∧ (parseMethodDescriptor y_Md_figure.desc).map (fun d => d.parameters.length) = some 2 := by decide +kernel
abbrev c_Md_checkFigure : ByteArray := prog_9_method_23_code
def y_Md_checkFigure : MethodName := ⟨R_Md, "checkFigure", "(J)I"⟩
abbrev wc_Md_checkFigure : Cond := .code y_Md_checkFigure c_Md_checkFigure 5 (some .int)
abbrev ws_Md_checkFigure : List Cond := wc_Md_checkFigure :: tb
theorem hd_Md_checkFigure : y_Md_checkFigure.cls = R_Md ∧ y_Md_checkFigure.cls ≠ "java/lang/invoke/MethodHandle" ∧ y_Md_checkFigure.cls ≠ "java/lang/invoke/VarHandle" ∧ (parseMethodDescriptor y_Md_checkFigure.desc).map (fun d => d.parameters.length) = some 1 := by decide +kernel
abbrev c_Md_reversed : ByteArray := prog_9_method_24_code
def y_Md_reversed : MethodName := ⟨R_Md, "reversed", "(I)I"⟩
abbrev wc_Md_reversed : Cond := .code y_Md_reversed c_Md_reversed 1 (some .int)
abbrev ws_Md_reversed : List Cond := wc_Md_reversed :: tb
theorem hd_Md_reversed : y_Md_reversed.cls = R_Md ∧ y_Md_reversed.cls ≠ "java/lang/invoke/MethodHandle" ∧ y_Md_reversed.cls ≠ "java/lang/invoke/VarHandle" ∧ (parseMethodDescriptor y_Md_reversed.desc).map (fun d => d.parameters.length) = some 1 := by decide +kernel
abbrev c_Md_isTurned : ByteArray := prog_9_method_25_code
def y_Md_isTurned : MethodName := ⟨R_Md, "isTurned", "(II)Z"⟩
abbrev wc_Md_isTurned : Cond := .code y_Md_isTurned c_Md_isTurned 3 (some .boolean)
abbrev ws_Md_isTurned : List Cond := wc_Md_isTurned :: tb
theorem hd_Md_isTurned : y_Md_isTurned.cls = R_Md ∧ y_Md_isTurned.cls ≠ "java/lang/invoke/MethodHandle" ∧ y_Md_isTurned.cls ≠ "java/lang/invoke/VarHandle" ∧ (parseMethodDescriptor y_Md_isTurned.desc).map (fun d => d.parameters.length) = some 2 := by decide +kernel
abbrev c_Md_thirteen : ByteArray := prog_9_method_26_code
def y_Md_thirteen : MethodName := ⟨R_Md, "thirteen", "(JI)I"⟩
abbrev wc_Md_thirteen : Cond := .code y_Md_thirteen c_Md_thirteen 7 (some .int)
abbrev ws_Md_thirteen : List Cond := wc_Md_thirteen :: tb
theorem hd_Md_thirteen : y_Md_thirteen.cls = R_Md ∧ y_Md_thirteen.cls ≠ "java/lang/invoke/MethodHandle" ∧ y_Md_thirteen.cls ≠ "java/lang/invoke/VarHandle" ∧ (parseMethodDescriptor y_Md_thirteen.desc).map (fun d => d.parameters.length) = some 2 := by decide +kernel
abbrev c_Md_put : ByteArray := prog_9_method_27_code
def y_Md_put : MethodName := ⟨R_Md, "put", "(IJ)I"⟩
abbrev wc_Md_put : Cond := .code y_Md_put c_Md_put 5 (some .int)
abbrev ws_Md_put : List Cond := wc_Md_put :: tb
theorem hd_Md_put : y_Md_put.cls = R_Md ∧ y_Md_put.cls ≠ "java/lang/invoke/MethodHandle" ∧ y_Md_put.cls ≠ "java/lang/invoke/VarHandle" ∧ (parseMethodDescriptor y_Md_put.desc).map (fun d => d.parameters.length) = some 2 := by decide +kernel
abbrev c_Md_clear : ByteArray := prog_9_method_28_code
def y_Md_clear : MethodName := ⟨R_Md, "clear", "()I"⟩
abbrev wc_Md_clear : Cond := .code y_Md_clear c_Md_clear 2 (some .int)
abbrev ws_Md_clear : List Cond := wc_Md_clear :: tb
theorem hd_Md_clear : y_Md_clear.cls = R_Md ∧ y_Md_clear.cls ≠ "java/lang/invoke/MethodHandle" ∧ y_Md_clear.cls ≠ "java/lang/invoke/VarHandle" ∧ (parseMethodDescriptor y_Md_clear.desc).map (fun d => d.parameters.length) = some 0 := by decide +kernel
abbrev c_Md_width : ByteArray := prog_9_method_29_code
def y_Md_width : MethodName := ⟨R_Md, "width", "(I)I"⟩
abbrev wc_Md_width : Cond := .code y_Md_width c_Md_width 2 (some .int)
abbrev ws_Md_width : List Cond := wc_Md_width :: tb
theorem hd_Md_width : y_Md_width.cls = R_Md ∧ y_Md_width.cls ≠ "java/lang/invoke/MethodHandle" ∧ y_Md_width.cls ≠ "java/lang/invoke/VarHandle" ∧ (parseMethodDescriptor y_Md_width.desc).map (fun d => d.parameters.length) = some 1 := by decide +kernel
abbrev c_Md_spoil : ByteArray := prog_9_method_30_code
def y_Md_spoil : MethodName := ⟨R_Md, "spoil", "(II)I"⟩
abbrev wc_Md_spoil : Cond := .code y_Md_spoil c_Md_spoil 4 (some .int)
abbrev ws_Md_spoil : List Cond := wc_Md_spoil :: tb
theorem hd_Md_spoil : y_Md_spoil.cls = R_Md ∧ y_Md_spoil.cls ≠ "java/lang/invoke/MethodHandle" ∧ y_Md_spoil.cls ≠ "java/lang/invoke/VarHandle" ∧ (parseMethodDescriptor y_Md_spoil.desc).map (fun d => d.parameters.length) = some 2 := by decide +kernel
abbrev c_Md_reverse : ByteArray := prog_9_method_31_code
def y_Md_reverse : MethodName := ⟨R_Md, "reverse", "([I[I)V"⟩
abbrev wc_Md_reverse : Cond := .code y_Md_reverse c_Md_reverse 4 none
abbrev ws_Md_reverse : List Cond := wc_Md_reverse :: tb
theorem hd_Md_reverse : y_Md_reverse.cls = R_Md ∧ y_Md_reverse.cls ≠ "java/lang/invoke/MethodHandle" ∧ y_Md_reverse.cls ≠ "java/lang/invoke/VarHandle" ∧ (parseMethodDescriptor y_Md_reverse.desc).map (fun d => d.parameters.length) = some 2 := by decide +kernel
abbrev c_Md_turn : ByteArray := prog_9_method_32_code
def y_Md_turn : MethodName := ⟨R_Md, "turn", "()I"⟩
abbrev wc_Md_turn : Cond := .code y_Md_turn c_Md_turn 1 (some .int)
abbrev ws_Md_turn : List Cond := wc_Md_turn :: tb
theorem hd_Md_turn : y_Md_turn.cls = R_Md ∧ y_Md_turn.cls ≠ "java/lang/invoke/MethodHandle" ∧ y_Md_turn.cls ≠ "java/lang/invoke/VarHandle" ∧ (parseMethodDescriptor y_Md_turn.desc).map (fun d => d.parameters.length) = some 0 := by decide +kernel
abbrev c_Md_counts : ByteArray := prog_9_method_33_code
def y_Md_counts : MethodName := ⟨R_Md, "counts", "(IIII)I"⟩
abbrev wc_Md_counts : Cond := .code y_Md_counts c_Md_counts 8 (some .int)
abbrev ws_Md_counts : List Cond := wc_Md_counts :: tb
theorem hd_Md_counts : y_Md_counts.cls = R_Md ∧ y_Md_counts.cls ≠ "java/lang/invoke/MethodHandle" ∧ y_Md_counts.cls ≠ "java/lang/invoke/VarHandle" ∧ (parseMethodDescriptor y_Md_counts.desc).map (fun d => d.parameters.length) = some 4 := by decide +kernel
abbrev c_Md_sumOf : ByteArray := prog_9_method_34_code
def y_Md_sumOf : MethodName := ⟨R_Md, "sumOf", "(II)I"⟩
abbrev wc_Md_sumOf : Cond := .code y_Md_sumOf c_Md_sumOf 5 (some .int)
abbrev ws_Md_sumOf : List Cond := wc_Md_sumOf :: tb
theorem hd_Md_sumOf : y_Md_sumOf.cls = R_Md ∧ y_Md_sumOf.cls ≠ "java/lang/invoke/MethodHandle" ∧ y_Md_sumOf.cls ≠ "java/lang/invoke/VarHandle" ∧ (parseMethodDescriptor y_Md_sumOf.desc).map (fun d => d.parameters.length) = some 2 := by decide +kernel
abbrev c_Md_place : ByteArray := prog_9_method_35_code
def y_Md_place : MethodName := ⟨R_Md, "place", "([II)I"⟩
abbrev wc_Md_place : Cond := .code y_Md_place c_Md_place 3 (some .int)
abbrev ws_Md_place : List Cond := wc_Md_place :: tb
theorem hd_Md_place : y_Md_place.cls = R_Md ∧ y_Md_place.cls ≠ "java/lang/invoke/MethodHandle" ∧ y_Md_place.cls ≠ "java/lang/invoke/VarHandle" ∧ (parseMethodDescriptor y_Md_place.desc).map (fun d => d.parameters.length) = some 2 := by decide +kernel
abbrev c_Md_isThirteen : ByteArray := prog_9_method_36_code
def y_Md_isThirteen : MethodName := ⟨R_Md, "isThirteen", "()Z"⟩
abbrev wc_Md_isThirteen : Cond := .code y_Md_isThirteen c_Md_isThirteen 7 (some .boolean)
abbrev ws_Md_isThirteen : List Cond := wc_Md_isThirteen :: tb
theorem hd_Md_isThirteen : y_Md_isThirteen.cls = R_Md ∧ y_Md_isThirteen.cls ≠ "java/lang/invoke/MethodHandle" ∧ y_Md_isThirteen.cls ≠ "java/lang/invoke/VarHandle" ∧ (parseMethodDescriptor y_Md_isThirteen.desc).map (fun d => d.parameters.length) = some 0 := by decide +kernel
abbrev c_Md_tell : ByteArray := prog_9_method_37_code
def y_Md_tell : MethodName := ⟨R_Md, "tell", "(I)V"⟩
abbrev wc_Md_tell : Cond := .code y_Md_tell c_Md_tell 2 none
abbrev ws_Md_tell : List Cond := wc_Md_tell :: tb
theorem hd_Md_tell : y_Md_tell.cls = R_Md ∧ y_Md_tell.cls ≠ "java/lang/invoke/MethodHandle" ∧ y_Md_tell.cls ≠ "java/lang/invoke/VarHandle" ∧ (parseMethodDescriptor y_Md_tell.desc).map (fun d => d.parameters.length) = some 1 := by decide +kernel
abbrev c_Md_isRow : ByteArray := prog_9_method_38_code
def y_Md_isRow : MethodName := ⟨R_Md, "isRow", "(I)Z"⟩
abbrev wc_Md_isRow : Cond := .code y_Md_isRow c_Md_isRow 5 (some .boolean)
abbrev ws_Md_isRow : List Cond := wc_Md_isRow :: tb
theorem hd_Md_isRow : y_Md_isRow.cls = R_Md ∧ y_Md_isRow.cls ≠ "java/lang/invoke/MethodHandle" ∧ y_Md_isRow.cls ≠ "java/lang/invoke/VarHandle" ∧ (parseMethodDescriptor y_Md_isRow.desc).map (fun d => d.parameters.length) = some 1 := by decide +kernel
abbrev c_Md_isSome : ByteArray := prog_9_method_39_code
def y_Md_isSome : MethodName := ⟨R_Md, "isSome", "()Z"⟩
abbrev wc_Md_isSome : Cond := .code y_Md_isSome c_Md_isSome 1 (some .boolean)
abbrev ws_Md_isSome : List Cond := wc_Md_isSome :: tb
theorem hd_Md_isSome : y_Md_isSome.cls = R_Md ∧ y_Md_isSome.cls ≠ "java/lang/invoke/MethodHandle" ∧ y_Md_isSome.cls ≠ "java/lang/invoke/VarHandle" ∧ (parseMethodDescriptor y_Md_isSome.desc).map (fun d => d.parameters.length) = some 0 := by decide +kernel
abbrev c_Md_read : ByteArray := prog_9_method_40_code
def y_Md_read : MethodName := ⟨R_Md, "read", "()I"⟩
abbrev wc_Md_read : Cond := .code y_Md_read c_Md_read 4 (some .int)
abbrev ws_Md_read : List Cond := wc_Md_read :: tb
theorem hd_Md_read : y_Md_read.cls = R_Md ∧ y_Md_read.cls ≠ "java/lang/invoke/MethodHandle" ∧ y_Md_read.cls ≠ "java/lang/invoke/VarHandle" ∧ (parseMethodDescriptor y_Md_read.desc).map (fun d => d.parameters.length) = some 0 := by decide +kernel
abbrev c_Md_sign : ByteArray := prog_9_method_41_code
def y_Md_sign : MethodName := ⟨R_Md, "sign", "(I)I"⟩
abbrev wc_Md_sign : Cond := .code y_Md_sign c_Md_sign 2 (some .int)
abbrev ws_Md_sign : List Cond := wc_Md_sign :: tb
theorem hd_Md_sign : y_Md_sign.cls = R_Md ∧ y_Md_sign.cls ≠ "java/lang/invoke/MethodHandle" ∧ y_Md_sign.cls ≠ "java/lang/invoke/VarHandle" ∧ (parseMethodDescriptor y_Md_sign.desc).map (fun d => d.parameters.length) = some 1 := by decide +kernel
abbrev c_Md_backwards : ByteArray := prog_9_method_42_code
def y_Md_backwards : MethodName := ⟨R_Md, "backwards", "()Z"⟩
abbrev wc_Md_backwards : Cond := .code y_Md_backwards c_Md_backwards 1 (some .boolean)
abbrev ws_Md_backwards : List Cond := wc_Md_backwards :: tb
theorem hd_Md_backwards : y_Md_backwards.cls = R_Md ∧ y_Md_backwards.cls ≠ "java/lang/invoke/MethodHandle" ∧ y_Md_backwards.cls ≠ "java/lang/invoke/VarHandle" ∧ (parseMethodDescriptor y_Md_backwards.desc).map (fun d => d.parameters.length) = some 0 := by decide +kernel
abbrev c_Fi_figureOf : ByteArray := prog_2_method_2_code
def y_Fi_figureOf : MethodName := ⟨R_Fi, "figureOf", "(JI)I"⟩
abbrev wc_Fi_figureOf : Cond := .code y_Fi_figureOf c_Fi_figureOf 6 (some .int)
abbrev ws_Fi_figureOf : List Cond := wc_Fi_figureOf :: tb
theorem hd_Fi_figureOf : y_Fi_figureOf.cls = R_Fi ∧ y_Fi_figureOf.cls ≠ "java/lang/invoke/MethodHandle" ∧ y_Fi_figureOf.cls ≠ "java/lang/invoke/VarHandle" ∧ (parseMethodDescriptor y_Fi_figureOf.desc).map (fun d => d.parameters.length) = some 2 := by decide +kernel
abbrev c_Fi_weightOf : ByteArray := prog_2_method_3_code
def y_Fi_weightOf : MethodName := ⟨R_Fi, "weightOf", "(I)I"⟩
abbrev wc_Fi_weightOf : Cond := .code y_Fi_weightOf c_Fi_weightOf 1 (some .int)
abbrev ws_Fi_weightOf : List Cond := wc_Fi_weightOf :: tb
theorem hd_Fi_weightOf : y_Fi_weightOf.cls = R_Fi ∧ y_Fi_weightOf.cls ≠ "java/lang/invoke/MethodHandle" ∧ y_Fi_weightOf.cls ≠ "java/lang/invoke/VarHandle" ∧ (parseMethodDescriptor y_Fi_weightOf.desc).map (fun d => d.parameters.length) = some 1 := by decide +kernel
abbrev c_Fi_checkOf : ByteArray := prog_2_method_4_code
def y_Fi_checkOf : MethodName := ⟨R_Fi, "checkOf", "(J)I"⟩
abbrev wc_Fi_checkOf : Cond := .code y_Fi_checkOf c_Fi_checkOf 4 (some .int)
abbrev ws_Fi_checkOf : List Cond := wc_Fi_checkOf :: tb
theorem hd_Fi_checkOf : y_Fi_checkOf.cls = R_Fi ∧ y_Fi_checkOf.cls ≠ "java/lang/invoke/MethodHandle" ∧ y_Fi_checkOf.cls ≠ "java/lang/invoke/VarHandle" ∧ (parseMethodDescriptor y_Fi_checkOf.desc).map (fun d => d.parameters.length) = some 1 := by decide +kernel
abbrev c_It_init : ByteArray := prog_3_method_1_code
def y_It_init : MethodName := ⟨R_It, "<init>", "(I)V"⟩
abbrev wc_It_init : Cond := .code y_It_init c_It_init 2 none
abbrev ws_It_init : List Cond := wc_It_init :: tb
theorem hd_It_init : y_It_init.cls = R_It ∧ y_It_init.cls ≠ "java/lang/invoke/MethodHandle" ∧ y_It_init.cls ≠ "java/lang/invoke/VarHandle" ∧ (parseMethodDescriptor y_It_init.desc).map (fun d => d.parameters.length) = some 1 := by decide +kernel
abbrev c_It_count : ByteArray := prog_3_method_2_code
def y_It_count : MethodName := ⟨R_It, "count", "()I"⟩
abbrev wc_It_count : Cond := .code y_It_count c_It_count 1 (some .int)
abbrev ws_It_count : List Cond := wc_It_count :: tb
theorem hd_It_count : y_It_count.cls = R_It ∧ y_It_count.cls ≠ "java/lang/invoke/MethodHandle" ∧ y_It_count.cls ≠ "java/lang/invoke/VarHandle" ∧ (parseMethodDescriptor y_It_count.desc).map (fun d => d.parameters.length) = some 0 := by decide +kernel
abbrev c_It_hasRoomFor : ByteArray := prog_3_method_3_code
def y_It_hasRoomFor : MethodName := ⟨R_It, "hasRoomFor", "(I)Z"⟩
abbrev wc_It_hasRoomFor : Cond := .code y_It_hasRoomFor c_It_hasRoomFor 2 (some .boolean)
abbrev ws_It_hasRoomFor : List Cond := wc_It_hasRoomFor :: tb
theorem hd_It_hasRoomFor : y_It_hasRoomFor.cls = R_It ∧ y_It_hasRoomFor.cls ≠ "java/lang/invoke/MethodHandle" ∧ y_It_hasRoomFor.cls ≠ "java/lang/invoke/VarHandle" ∧ (parseMethodDescriptor y_It_hasRoomFor.desc).map (fun d => d.parameters.length) = some 1 := by decide +kernel
abbrev c_It_at : ByteArray := prog_3_method_4_code
def y_It_at : MethodName := ⟨R_It, "at", "(I)I"⟩
abbrev wc_It_at : Cond := .code y_It_at c_It_at 2 (some .int)
abbrev ws_It_at : List Cond := wc_It_at :: tb
theorem hd_It_at : y_It_at.cls = R_It ∧ y_It_at.cls ≠ "java/lang/invoke/MethodHandle" ∧ y_It_at.cls ≠ "java/lang/invoke/VarHandle" ∧ (parseMethodDescriptor y_It_at.desc).map (fun d => d.parameters.length) = some 1 := by decide +kernel
abbrev c_It_add : ByteArray := prog_3_method_5_code
def y_It_add : MethodName := ⟨R_It, "add", "(I)Z"⟩
abbrev wc_It_add : Cond := .code y_It_add c_It_add 2 (some .boolean)
abbrev ws_It_add : List Cond := wc_It_add :: tb
theorem hd_It_add : y_It_add.cls = R_It ∧ y_It_add.cls ≠ "java/lang/invoke/MethodHandle" ∧ y_It_add.cls ≠ "java/lang/invoke/VarHandle" ∧ (parseMethodDescriptor y_It_add.desc).map (fun d => d.parameters.length) = some 1 := by decide +kernel
abbrev c_It_replace : ByteArray := prog_3_method_6_code
def y_It_replace : MethodName := ⟨R_It, "replace", "(II)I"⟩
abbrev wc_It_replace : Cond := .code y_It_replace c_It_replace 4 (some .int)
abbrev ws_It_replace : List Cond := wc_It_replace :: tb
theorem hd_It_replace : y_It_replace.cls = R_It ∧ y_It_replace.cls ≠ "java/lang/invoke/MethodHandle" ∧ y_It_replace.cls ≠ "java/lang/invoke/VarHandle" ∧ (parseMethodDescriptor y_It_replace.desc).map (fun d => d.parameters.length) = some 2 := by decide +kernel
abbrev c_It_empty : ByteArray := prog_3_method_7_code
def y_It_empty : MethodName := ⟨R_It, "empty", "()I"⟩
abbrev wc_It_empty : Cond := .code y_It_empty c_It_empty 2 (some .int)
abbrev ws_It_empty : List Cond := wc_It_empty :: tb
theorem hd_It_empty : y_It_empty.cls = R_It ∧ y_It_empty.cls ≠ "java/lang/invoke/MethodHandle" ∧ y_It_empty.cls ≠ "java/lang/invoke/VarHandle" ∧ (parseMethodDescriptor y_It_empty.desc).map (fun d => d.parameters.length) = some 0 := by decide +kernel
abbrev c_It_reverse : ByteArray := prog_3_method_8_code
def y_It_reverse : MethodName := ⟨R_It, "reverse", "()V"⟩
abbrev wc_It_reverse : Cond := .code y_It_reverse c_It_reverse 2 none
abbrev ws_It_reverse : List Cond := wc_It_reverse :: tb
theorem hd_It_reverse : y_It_reverse.cls = R_It ∧ y_It_reverse.cls ≠ "java/lang/invoke/MethodHandle" ∧ y_It_reverse.cls ≠ "java/lang/invoke/VarHandle" ∧ (parseMethodDescriptor y_It_reverse.desc).map (fun d => d.parameters.length) = some 0 := by decide +kernel
abbrev c_Pa_init : ByteArray := prog_4_method_1_code
def y_Pa_init : MethodName := ⟨R_Pa, "<init>", "(LLineCodes$Items;LLineCodes$Items;)V"⟩
abbrev wc_Pa_init : Cond := .code y_Pa_init c_Pa_init 3 none
abbrev ws_Pa_init : List Cond := wc_Pa_init :: tb
theorem hd_Pa_init : y_Pa_init.cls = R_Pa ∧ y_Pa_init.cls ≠ "java/lang/invoke/MethodHandle" ∧ y_Pa_init.cls ≠ "java/lang/invoke/VarHandle" ∧ (parseMethodDescriptor y_Pa_init.desc).map (fun d => d.parameters.length) = some 2 := by decide +kernel
abbrev c_Pa_makeRow : ByteArray := prog_4_method_2_code
def y_Pa_makeRow : MethodName := ⟨R_Pa, "makeRow", "()V"⟩
abbrev wc_Pa_makeRow : Cond := .code y_Pa_makeRow c_Pa_makeRow 2 none
abbrev ws_Pa_makeRow : List Cond := wc_Pa_makeRow :: tb
theorem hd_Pa_makeRow : y_Pa_makeRow.cls = R_Pa ∧ y_Pa_makeRow.cls ≠ "java/lang/invoke/MethodHandle" ∧ y_Pa_makeRow.cls ≠ "java/lang/invoke/VarHandle" ∧ (parseMethodDescriptor y_Pa_makeRow.desc).map (fun d => d.parameters.length) = some 0 := by decide +kernel
abbrev c_Pa_fillCosts : ByteArray := prog_4_method_3_code
def y_Pa_fillCosts : MethodName := ⟨R_Pa, "fillCosts", "(I)V"⟩
abbrev wc_Pa_fillCosts : Cond := .code y_Pa_fillCosts c_Pa_fillCosts 5 none
abbrev ws_Pa_fillCosts : List Cond := wc_Pa_fillCosts :: tb
theorem hd_Pa_fillCosts : y_Pa_fillCosts.cls = R_Pa ∧ y_Pa_fillCosts.cls ≠ "java/lang/invoke/MethodHandle" ∧ y_Pa_fillCosts.cls ≠ "java/lang/invoke/VarHandle" ∧ (parseMethodDescriptor y_Pa_fillCosts.desc).map (fun d => d.parameters.length) = some 1 := by decide +kernel
abbrev c_Pa_costOfTelling : ByteArray := prog_4_method_4_code
def y_Pa_costOfTelling : MethodName := ⟨R_Pa, "costOfTelling", "(II)I"⟩
abbrev wc_Pa_costOfTelling : Cond := .code y_Pa_costOfTelling c_Pa_costOfTelling 5 (some .int)
abbrev ws_Pa_costOfTelling : List Cond := wc_Pa_costOfTelling :: tb
theorem hd_Pa_costOfTelling : y_Pa_costOfTelling.cls = R_Pa ∧ y_Pa_costOfTelling.cls ≠ "java/lang/invoke/MethodHandle" ∧ y_Pa_costOfTelling.cls ≠ "java/lang/invoke/VarHandle" ∧ (parseMethodDescriptor y_Pa_costOfTelling.desc).map (fun d => d.parameters.length) = some 2 := by decide +kernel
abbrev c_Pa_addSymbols : ByteArray := prog_4_method_5_code
def y_Pa_addSymbols : MethodName := ⟨R_Pa, "addSymbols", "()V"⟩
abbrev wc_Pa_addSymbols : Cond := .code y_Pa_addSymbols c_Pa_addSymbols 5 none
abbrev ws_Pa_addSymbols : List Cond := wc_Pa_addSymbols :: tb
theorem hd_Pa_addSymbols : y_Pa_addSymbols.cls = R_Pa ∧ y_Pa_addSymbols.cls ≠ "java/lang/invoke/MethodHandle" ∧ y_Pa_addSymbols.cls ≠ "java/lang/invoke/VarHandle" ∧ (parseMethodDescriptor y_Pa_addSymbols.desc).map (fun d => d.parameters.length) = some 0 := by decide +kernel
abbrev c_Pa_cheapestFirstSet : ByteArray := prog_4_method_6_code
def y_Pa_cheapestFirstSet : MethodName := ⟨R_Pa, "cheapestFirstSet", "()I"⟩
abbrev wc_Pa_cheapestFirstSet : Cond := .code y_Pa_cheapestFirstSet c_Pa_cheapestFirstSet 3 (some .int)
abbrev ws_Pa_cheapestFirstSet : List Cond := wc_Pa_cheapestFirstSet :: tb
theorem hd_Pa_cheapestFirstSet : y_Pa_cheapestFirstSet.cls = R_Pa ∧ y_Pa_cheapestFirstSet.cls ≠ "java/lang/invoke/MethodHandle" ∧ y_Pa_cheapestFirstSet.cls ≠ "java/lang/invoke/VarHandle" ∧ (parseMethodDescriptor y_Pa_cheapestFirstSet.desc).map (fun d => d.parameters.length) = some 0 := by decide +kernel
abbrev c_Pa_nextSet : ByteArray := prog_4_method_7_code
def y_Pa_nextSet : MethodName := ⟨R_Pa, "nextSet", "(II)I"⟩
abbrev wc_Pa_nextSet : Cond := .code y_Pa_nextSet c_Pa_nextSet 5 (some .int)
abbrev ws_Pa_nextSet : List Cond := wc_Pa_nextSet :: tb
theorem hd_Pa_nextSet : y_Pa_nextSet.cls = R_Pa ∧ y_Pa_nextSet.cls ≠ "java/lang/invoke/MethodHandle" ∧ y_Pa_nextSet.cls ≠ "java/lang/invoke/VarHandle" ∧ (parseMethodDescriptor y_Pa_nextSet.desc).map (fun d => d.parameters.length) = some 2 := by decide +kernel
abbrev c_Pa_addTold : ByteArray := prog_4_method_8_code
def y_Pa_addTold : MethodName := ⟨R_Pa, "addTold", "(II)I"⟩
abbrev wc_Pa_addTold : Cond := .code y_Pa_addTold c_Pa_addTold 5 (some .int)
abbrev ws_Pa_addTold : List Cond := wc_Pa_addTold :: tb
theorem hd_Pa_addTold : y_Pa_addTold.cls = R_Pa ∧ y_Pa_addTold.cls ≠ "java/lang/invoke/MethodHandle" ∧ y_Pa_addTold.cls ≠ "java/lang/invoke/VarHandle" ∧ (parseMethodDescriptor y_Pa_addTold.desc).map (fun d => d.parameters.length) = some 2 := by decide +kernel
abbrev c_Pa_checkSymbol : ByteArray := prog_4_method_9_code
def y_Pa_checkSymbol : MethodName := ⟨R_Pa, "checkSymbol", "()I"⟩
abbrev wc_Pa_checkSymbol : Cond := .code y_Pa_checkSymbol c_Pa_checkSymbol 3 (some .int)
abbrev ws_Pa_checkSymbol : List Cond := wc_Pa_checkSymbol :: tb
theorem hd_Pa_checkSymbol : y_Pa_checkSymbol.cls = R_Pa ∧ y_Pa_checkSymbol.cls ≠ "java/lang/invoke/MethodHandle" ∧ y_Pa_checkSymbol.cls ≠ "java/lang/invoke/VarHandle" ∧ (parseMethodDescriptor y_Pa_checkSymbol.desc).map (fun d => d.parameters.length) = some 0 := by decide +kernel
abbrev c_Pa_cost : ByteArray := prog_4_method_10_code
def y_Pa_cost : MethodName := ⟨R_Pa, "cost", "(II)I"⟩
abbrev wc_Pa_cost : Cond := .code y_Pa_cost c_Pa_cost 4 (some .int)
abbrev ws_Pa_cost : List Cond := wc_Pa_cost :: tb
theorem hd_Pa_cost : y_Pa_cost.cls = R_Pa ∧ y_Pa_cost.cls ≠ "java/lang/invoke/MethodHandle" ∧ y_Pa_cost.cls ≠ "java/lang/invoke/VarHandle" ∧ (parseMethodDescriptor y_Pa_cost.desc).map (fun d => d.parameters.length) = some 2 := by decide +kernel
abbrev c_Pa_setCost : ByteArray := prog_4_method_11_code
def y_Pa_setCost : MethodName := ⟨R_Pa, "setCost", "(III)V"⟩
abbrev wc_Pa_setCost : Cond := .code y_Pa_setCost c_Pa_setCost 5 none
abbrev ws_Pa_setCost : List Cond := wc_Pa_setCost :: tb
theorem hd_Pa_setCost : y_Pa_setCost.cls = R_Pa ∧ y_Pa_setCost.cls ≠ "java/lang/invoke/MethodHandle" ∧ y_Pa_setCost.cls ≠ "java/lang/invoke/VarHandle" ∧ (parseMethodDescriptor y_Pa_setCost.desc).map (fun d => d.parameters.length) = some 3 := by decide +kernel
abbrev c_Re_init : ByteArray := prog_5_method_1_code
def y_Re_init : MethodName := ⟨R_Re, "<init>", "(LLineCodes$Items;)V"⟩
abbrev wc_Re_init : Cond := .code y_Re_init c_Re_init 2 none
abbrev ws_Re_init : List Cond := wc_Re_init :: tb
theorem hd_Re_init : y_Re_init.cls = R_Re ∧ y_Re_init.cls ≠ "java/lang/invoke/MethodHandle" ∧ y_Re_init.cls ≠ "java/lang/invoke/VarHandle" ∧ (parseMethodDescriptor y_Re_init.desc).map (fun d => d.parameters.length) = some 1 := by decide +kernel
abbrev c_Re_toldCount : ByteArray := prog_5_method_2_code
def y_Re_toldCount : MethodName := ⟨R_Re, "toldCount", "()I"⟩
abbrev wc_Re_toldCount : Cond := .code y_Re_toldCount c_Re_toldCount 1 (some .int)
abbrev ws_Re_toldCount : List Cond := wc_Re_toldCount :: tb
theorem hd_Re_toldCount : y_Re_toldCount.cls = R_Re ∧ y_Re_toldCount.cls ≠ "java/lang/invoke/MethodHandle" ∧ y_Re_toldCount.cls ≠ "java/lang/invoke/VarHandle" ∧ (parseMethodDescriptor y_Re_toldCount.desc).map (fun d => d.parameters.length) = some 0 := by decide +kernel
abbrev c_Re_toldAt : ByteArray := prog_5_method_3_code
def y_Re_toldAt : MethodName := ⟨R_Re, "toldAt", "(I)I"⟩
abbrev wc_Re_toldAt : Cond := .code y_Re_toldAt c_Re_toldAt 2 (some .int)
abbrev ws_Re_toldAt : List Cond := wc_Re_toldAt :: tb
theorem hd_Re_toldAt : y_Re_toldAt.cls = R_Re ∧ y_Re_toldAt.cls ≠ "java/lang/invoke/MethodHandle" ∧ y_Re_toldAt.cls ≠ "java/lang/invoke/VarHandle" ∧ (parseMethodDescriptor y_Re_toldAt.desc).map (fun d => d.parameters.length) = some 1 := by decide +kernel
abbrev c_Re_isFromBack : ByteArray := prog_5_method_4_code
def y_Re_isFromBack : MethodName := ⟨R_Re, "isFromBack", "()Z"⟩
abbrev wc_Re_isFromBack : Cond := .code y_Re_isFromBack c_Re_isFromBack 1 (some .boolean)
abbrev ws_Re_isFromBack : List Cond := wc_Re_isFromBack :: tb
theorem hd_Re_isFromBack : y_Re_isFromBack.cls = R_Re ∧ y_Re_isFromBack.cls ≠ "java/lang/invoke/MethodHandle" ∧ y_Re_isFromBack.cls ≠ "java/lang/invoke/VarHandle" ∧ (parseMethodDescriptor y_Re_isFromBack.desc).map (fun d => d.parameters.length) = some 0 := by decide +kernel
abbrev c_Re_isReadable : ByteArray := prog_5_method_5_code
def y_Re_isReadable : MethodName := ⟨R_Re, "isReadable", "(Z)Z"⟩
abbrev wc_Re_isReadable : Cond := .code y_Re_isReadable c_Re_isReadable 3 (some .boolean)
abbrev ws_Re_isReadable : List Cond := wc_Re_isReadable :: tb
theorem hd_Re_isReadable : y_Re_isReadable.cls = R_Re ∧ y_Re_isReadable.cls ≠ "java/lang/invoke/MethodHandle" ∧ y_Re_isReadable.cls ≠ "java/lang/invoke/VarHandle" ∧ (parseMethodDescriptor y_Re_isReadable.desc).map (fun d => d.parameters.length) = some 1 := by decide +kernel
abbrev c_Re_isThirteen : ByteArray := prog_5_method_6_code
def y_Re_isThirteen : MethodName := ⟨R_Re, "isThirteen", "()Z"⟩
abbrev wc_Re_isThirteen : Cond := .code y_Re_isThirteen c_Re_isThirteen 3 (some .boolean)
abbrev ws_Re_isThirteen : List Cond := wc_Re_isThirteen :: tb
theorem hd_Re_isThirteen : y_Re_isThirteen.cls = R_Re ∧ y_Re_isThirteen.cls ≠ "java/lang/invoke/MethodHandle" ∧ y_Re_isThirteen.cls ≠ "java/lang/invoke/VarHandle" ∧ (parseMethodDescriptor y_Re_isThirteen.desc).map (fun d => d.parameters.length) = some 0 := by decide +kernel
abbrev c_Re_areSidesAndMiddleRight : ByteArray := prog_5_method_7_code
def y_Re_areSidesAndMiddleRight : MethodName := ⟨R_Re, "areSidesAndMiddleRight", "()Z"⟩
abbrev wc_Re_areSidesAndMiddleRight : Cond := .code y_Re_areSidesAndMiddleRight c_Re_areSidesAndMiddleRight 2 (some .boolean)
abbrev ws_Re_areSidesAndMiddleRight : List Cond := wc_Re_areSidesAndMiddleRight :: tb
theorem hd_Re_areSidesAndMiddleRight : y_Re_areSidesAndMiddleRight.cls = R_Re ∧ y_Re_areSidesAndMiddleRight.cls ≠ "java/lang/invoke/MethodHandle" ∧ y_Re_areSidesAndMiddleRight.cls ≠ "java/lang/invoke/VarHandle" ∧ (parseMethodDescriptor y_Re_areSidesAndMiddleRight.desc).map (fun d => d.parameters.length) = some 0 := by decide +kernel
abbrev c_Re_isLeftHalf : ByteArray := prog_5_method_8_code
def y_Re_isLeftHalf : MethodName := ⟨R_Re, "isLeftHalf", "()Z"⟩
abbrev wc_Re_isLeftHalf : Cond := .code y_Re_isLeftHalf c_Re_isLeftHalf 6 (some .boolean)
abbrev ws_Re_isLeftHalf : List Cond := wc_Re_isLeftHalf :: tb
theorem hd_Re_isLeftHalf : y_Re_isLeftHalf.cls = R_Re ∧ y_Re_isLeftHalf.cls ≠ "java/lang/invoke/MethodHandle" ∧ y_Re_isLeftHalf.cls ≠ "java/lang/invoke/VarHandle" ∧ (parseMethodDescriptor y_Re_isLeftHalf.desc).map (fun d => d.parameters.length) = some 0 := by decide +kernel
abbrev c_Re_isRightHalf : ByteArray := prog_5_method_9_code
def y_Re_isRightHalf : MethodName := ⟨R_Re, "isRightHalf", "()Z"⟩
abbrev wc_Re_isRightHalf : Cond := .code y_Re_isRightHalf c_Re_isRightHalf 3 (some .boolean)
abbrev ws_Re_isRightHalf : List Cond := wc_Re_isRightHalf :: tb
theorem hd_Re_isRightHalf : y_Re_isRightHalf.cls = R_Re ∧ y_Re_isRightHalf.cls ≠ "java/lang/invoke/MethodHandle" ∧ y_Re_isRightHalf.cls ≠ "java/lang/invoke/VarHandle" ∧ (parseMethodDescriptor y_Re_isRightHalf.desc).map (fun d => d.parameters.length) = some 0 := by decide +kernel
abbrev c_Re_isRow : ByteArray := prog_5_method_10_code
def y_Re_isRow : MethodName := ⟨R_Re, "isRow", "()Z"⟩
abbrev wc_Re_isRow : Cond := .code y_Re_isRow c_Re_isRow 7 (some .boolean)
abbrev ws_Re_isRow : List Cond := wc_Re_isRow :: tb
theorem hd_Re_isRow : y_Re_isRow.cls = R_Re ∧ y_Re_isRow.cls ≠ "java/lang/invoke/MethodHandle" ∧ y_Re_isRow.cls ≠ "java/lang/invoke/VarHandle" ∧ (parseMethodDescriptor y_Re_isRow.desc).map (fun d => d.parameters.length) = some 0 := by decide +kernel
abbrev c_Re_isTold : ByteArray := prog_5_method_11_code
def y_Re_isTold : MethodName := ⟨R_Re, "isTold", "(I)Z"⟩
abbrev wc_Re_isTold : Cond := .code y_Re_isTold c_Re_isTold 2 (some .boolean)
abbrev ws_Re_isTold : List Cond := wc_Re_isTold :: tb
theorem hd_Re_isTold : y_Re_isTold.cls = R_Re ∧ y_Re_isTold.cls ≠ "java/lang/invoke/MethodHandle" ∧ y_Re_isTold.cls ≠ "java/lang/invoke/VarHandle" ∧ (parseMethodDescriptor y_Re_isTold.desc).map (fun d => d.parameters.length) = some 1 := by decide +kernel
abbrev c_Re_isSwitched : ByteArray := prog_5_method_12_code
def y_Re_isSwitched : MethodName := ⟨R_Re, "isSwitched", "(I)Z"⟩
abbrev wc_Re_isSwitched : Cond := .code y_Re_isSwitched c_Re_isSwitched 3 (some .boolean)
abbrev ws_Re_isSwitched : List Cond := wc_Re_isSwitched :: tb
theorem hd_Re_isSwitched : y_Re_isSwitched.cls = R_Re ∧ y_Re_isSwitched.cls ≠ "java/lang/invoke/MethodHandle" ∧ y_Re_isSwitched.cls ≠ "java/lang/invoke/VarHandle" ∧ (parseMethodDescriptor y_Re_isSwitched.desc).map (fun d => d.parameters.length) = some 1 := by decide +kernel
abbrev c_Re_figureCountsAt : ByteArray := prog_5_method_13_code
def y_Re_figureCountsAt : MethodName := ⟨R_Re, "figureCountsAt", "(I)I"⟩
abbrev wc_Re_figureCountsAt : Cond := .code y_Re_figureCountsAt c_Re_figureCountsAt 3 (some .int)
abbrev ws_Re_figureCountsAt : List Cond := wc_Re_figureCountsAt :: tb
theorem hd_Re_figureCountsAt : y_Re_figureCountsAt.cls = R_Re ∧ y_Re_figureCountsAt.cls ≠ "java/lang/invoke/MethodHandle" ∧ y_Re_figureCountsAt.cls ≠ "java/lang/invoke/VarHandle" ∧ (parseMethodDescriptor y_Re_figureCountsAt.desc).map (fun d => d.parameters.length) = some 1 := by decide +kernel
abbrev c_Re_symbolAt : ByteArray := prog_5_method_14_code
def y_Re_symbolAt : MethodName := ⟨R_Re, "symbolAt", "(I)I"⟩
abbrev wc_Re_symbolAt : Cond := .code y_Re_symbolAt c_Re_symbolAt 3 (some .int)
abbrev ws_Re_symbolAt : List Cond := wc_Re_symbolAt :: tb
theorem hd_Re_symbolAt : y_Re_symbolAt.cls = R_Re ∧ y_Re_symbolAt.cls ≠ "java/lang/invoke/MethodHandle" ∧ y_Re_symbolAt.cls ≠ "java/lang/invoke/VarHandle" ∧ (parseMethodDescriptor y_Re_symbolAt.desc).map (fun d => d.parameters.length) = some 1 := by decide +kernel
abbrev c_Re_isLastAt : ByteArray := prog_5_method_15_code
def y_Re_isLastAt : MethodName := ⟨R_Re, "isLastAt", "(I)Z"⟩
abbrev wc_Re_isLastAt : Cond := .code y_Re_isLastAt c_Re_isLastAt 3 (some .boolean)
abbrev ws_Re_isLastAt : List Cond := wc_Re_isLastAt :: tb
theorem hd_Re_isLastAt : y_Re_isLastAt.cls = R_Re ∧ y_Re_isLastAt.cls ≠ "java/lang/invoke/MethodHandle" ∧ y_Re_isLastAt.cls ≠ "java/lang/invoke/VarHandle" ∧ (parseMethodDescriptor y_Re_isLastAt.desc).map (fun d => d.parameters.length) = some 1 := by decide +kernel
abbrev c_Re_sumOf : ByteArray := prog_5_method_16_code
def y_Re_sumOf : MethodName := ⟨R_Re, "sumOf", "(II)I"⟩
abbrev wc_Re_sumOf : Cond := .code y_Re_sumOf c_Re_sumOf 5 (some .int)
abbrev ws_Re_sumOf : List Cond := wc_Re_sumOf :: tb
theorem hd_Re_sumOf : y_Re_sumOf.cls = R_Re ∧ y_Re_sumOf.cls ≠ "java/lang/invoke/MethodHandle" ∧ y_Re_sumOf.cls ≠ "java/lang/invoke/VarHandle" ∧ (parseMethodDescriptor y_Re_sumOf.desc).map (fun d => d.parameters.length) = some 2 := by decide +kernel
abbrev c_Re_countsOf : ByteArray := prog_5_method_17_code
def y_Re_countsOf : MethodName := ⟨R_Re, "countsOf", "(IIII)I"⟩
abbrev wc_Re_countsOf : Cond := .code y_Re_countsOf c_Re_countsOf 8 (some .int)
abbrev ws_Re_countsOf : List Cond := wc_Re_countsOf :: tb
theorem hd_Re_countsOf : y_Re_countsOf.cls = R_Re ∧ y_Re_countsOf.cls ≠ "java/lang/invoke/MethodHandle" ∧ y_Re_countsOf.cls ≠ "java/lang/invoke/VarHandle" ∧ (parseMethodDescriptor y_Re_countsOf.desc).map (fun d => d.parameters.length) = some 4 := by decide +kernel
abbrev c_Se_isFirst : ByteArray := prog_6_method_2_code
def y_Se_isFirst : MethodName := ⟨R_Se, "isFirst", "(I)Z"⟩
abbrev wc_Se_isFirst : Cond := .code y_Se_isFirst c_Se_isFirst 1 (some .boolean)
abbrev ws_Se_isFirst : List Cond := wc_Se_isFirst :: tb
theorem hd_Se_isFirst : y_Se_isFirst.cls = R_Se ∧ y_Se_isFirst.cls ≠ "java/lang/invoke/MethodHandle" ∧ y_Se_isFirst.cls ≠ "java/lang/invoke/VarHandle" ∧ (parseMethodDescriptor y_Se_isFirst.desc).map (fun d => d.parameters.length) = some 1 := by decide +kernel
abbrev c_Se_firstOf : ByteArray := prog_6_method_3_code
def y_Se_firstOf : MethodName := ⟨R_Se, "firstOf", "(I)I"⟩
abbrev wc_Se_firstOf : Cond := .code y_Se_firstOf c_Se_firstOf 1 (some .int)
abbrev ws_Se_firstOf : List Cond := wc_Se_firstOf :: tb
theorem hd_Se_firstOf : y_Se_firstOf.cls = R_Se ∧ y_Se_firstOf.cls ≠ "java/lang/invoke/MethodHandle" ∧ y_Se_firstOf.cls ≠ "java/lang/invoke/VarHandle" ∧ (parseMethodDescriptor y_Se_firstOf.desc).map (fun d => d.parameters.length) = some 1 := by decide +kernel
abbrev c_Se_switchTo : ByteArray := prog_6_method_4_code
def y_Se_switchTo : MethodName := ⟨R_Se, "switchTo", "(I)I"⟩
abbrev wc_Se_switchTo : Cond := .code y_Se_switchTo c_Se_switchTo 1 (some .int)
abbrev ws_Se_switchTo : List Cond := wc_Se_switchTo :: tb
theorem hd_Se_switchTo : y_Se_switchTo.cls = R_Se ∧ y_Se_switchTo.cls ≠ "java/lang/invoke/MethodHandle" ∧ y_Se_switchTo.cls ≠ "java/lang/invoke/VarHandle" ∧ (parseMethodDescriptor y_Se_switchTo.desc).map (fun d => d.parameters.length) = some 1 := by decide +kernel
abbrev c_Se_setAfter : ByteArray := prog_6_method_5_code
def y_Se_setAfter : MethodName := ⟨R_Se, "setAfter", "(II)I"⟩
abbrev wc_Se_setAfter : Cond := .code y_Se_setAfter c_Se_setAfter 3 (some .int)
abbrev ws_Se_setAfter : List Cond := wc_Se_setAfter :: tb
theorem hd_Se_setAfter : y_Se_setAfter.cls = R_Se ∧ y_Se_setAfter.cls ≠ "java/lang/invoke/MethodHandle" ∧ y_Se_setAfter.cls ≠ "java/lang/invoke/VarHandle" ∧ (parseMethodDescriptor y_Se_setAfter.desc).map (fun d => d.parameters.length) = some 2 := by decide +kernel
abbrev c_Se_otherOfAB : ByteArray := prog_6_method_6_code
def y_Se_otherOfAB : MethodName := ⟨R_Se, "otherOfAB", "(I)I"⟩
abbrev wc_Se_otherOfAB : Cond := .code y_Se_otherOfAB c_Se_otherOfAB 1 (some .int)
abbrev ws_Se_otherOfAB : List Cond := wc_Se_otherOfAB :: tb
theorem hd_Se_otherOfAB : y_Se_otherOfAB.cls = R_Se ∧ y_Se_otherOfAB.cls ≠ "java/lang/invoke/MethodHandle" ∧ y_Se_otherOfAB.cls ≠ "java/lang/invoke/VarHandle" ∧ (parseMethodDescriptor y_Se_otherOfAB.desc).map (fun d => d.parameters.length) = some 1 := by decide +kernel
abbrev c_Se_symbolOf : ByteArray := prog_6_method_7_code
def y_Se_symbolOf : MethodName := ⟨R_Se, "symbolOf", "(II)I"⟩
abbrev wc_Se_symbolOf : Cond := .code y_Se_symbolOf c_Se_symbolOf 2 (some .int)
abbrev ws_Se_symbolOf : List Cond := wc_Se_symbolOf :: tb
theorem hd_Se_symbolOf : y_Se_symbolOf.cls = R_Se ∧ y_Se_symbolOf.cls ≠ "java/lang/invoke/MethodHandle" ∧ y_Se_symbolOf.cls ≠ "java/lang/invoke/VarHandle" ∧ (parseMethodDescriptor y_Se_symbolOf.desc).map (fun d => d.parameters.length) = some 2 := by decide +kernel
abbrev c_Se_signOf : ByteArray := prog_6_method_8_code
def y_Se_signOf : MethodName := ⟨R_Se, "signOf", "(II)I"⟩
abbrev wc_Se_signOf : Cond := .code y_Se_signOf c_Se_signOf 2 (some .int)
abbrev ws_Se_signOf : List Cond := wc_Se_signOf :: tb
theorem hd_Se_signOf : y_Se_signOf.cls = R_Se ∧ y_Se_signOf.cls ≠ "java/lang/invoke/MethodHandle" ∧ y_Se_signOf.cls ≠ "java/lang/invoke/VarHandle" ∧ (parseMethodDescriptor y_Se_signOf.desc).map (fun d => d.parameters.length) = some 2 := by decide +kernel
abbrev c_Se_pairOf : ByteArray := prog_6_method_9_code
def y_Se_pairOf : MethodName := ⟨R_Se, "pairOf", "(II)I"⟩
abbrev wc_Se_pairOf : Cond := .code y_Se_pairOf c_Se_pairOf 2 (some .int)
abbrev ws_Se_pairOf : List Cond := wc_Se_pairOf :: tb
theorem hd_Se_pairOf : y_Se_pairOf.cls = R_Se ∧ y_Se_pairOf.cls ≠ "java/lang/invoke/MethodHandle" ∧ y_Se_pairOf.cls ≠ "java/lang/invoke/VarHandle" ∧ (parseMethodDescriptor y_Se_pairOf.desc).map (fun d => d.parameters.length) = some 2 := by decide +kernel
abbrev c_Se_isFigure : ByteArray := prog_6_method_10_code
def y_Se_isFigure : MethodName := ⟨R_Se, "isFigure", "(I)Z"⟩
abbrev wc_Se_isFigure : Cond := .code y_Se_isFigure c_Se_isFigure 1 (some .boolean)
abbrev ws_Se_isFigure : List Cond := wc_Se_isFigure :: tb
theorem hd_Se_isFigure : y_Se_isFigure.cls = R_Se ∧ y_Se_isFigure.cls ≠ "java/lang/invoke/MethodHandle" ∧ y_Se_isFigure.cls ≠ "java/lang/invoke/VarHandle" ∧ (parseMethodDescriptor y_Se_isFigure.desc).map (fun d => d.parameters.length) = some 1 := by decide +kernel
abbrev c_Wi_ofSymbol : ByteArray := prog_7_method_2_code
def y_Wi_ofSymbol : MethodName := ⟨R_Wi, "ofSymbol", "(I)I"⟩
abbrev wc_Wi_ofSymbol : Cond := .code y_Wi_ofSymbol c_Wi_ofSymbol 1 (some .int)
abbrev ws_Wi_ofSymbol : List Cond := wc_Wi_ofSymbol :: tb
theorem hd_Wi_ofSymbol : y_Wi_ofSymbol.cls = R_Wi ∧ y_Wi_ofSymbol.cls ≠ "java/lang/invoke/MethodHandle" ∧ y_Wi_ofSymbol.cls ≠ "java/lang/invoke/VarHandle" ∧ (parseMethodDescriptor y_Wi_ofSymbol.desc).map (fun d => d.parameters.length) = some 1 := by decide +kernel
abbrev c_Wi_ofFigure : ByteArray := prog_7_method_3_code
def y_Wi_ofFigure : MethodName := ⟨R_Wi, "ofFigure", "(I)I"⟩
abbrev wc_Wi_ofFigure : Cond := .code y_Wi_ofFigure c_Wi_ofFigure 1 (some .int)
abbrev ws_Wi_ofFigure : List Cond := wc_Wi_ofFigure :: tb
theorem hd_Wi_ofFigure : y_Wi_ofFigure.cls = R_Wi ∧ y_Wi_ofFigure.cls ≠ "java/lang/invoke/MethodHandle" ∧ y_Wi_ofFigure.cls ≠ "java/lang/invoke/VarHandle" ∧ (parseMethodDescriptor y_Wi_ofFigure.desc).map (fun d => d.parameters.length) = some 1 := by decide +kernel
abbrev c_Wi_turnsOf : ByteArray := prog_7_method_4_code
def y_Wi_turnsOf : MethodName := ⟨R_Wi, "turnsOf", "(I)I"⟩
abbrev wc_Wi_turnsOf : Cond := .code y_Wi_turnsOf c_Wi_turnsOf 1 (some .int)
abbrev ws_Wi_turnsOf : List Cond := wc_Wi_turnsOf :: tb
theorem hd_Wi_turnsOf : y_Wi_turnsOf.cls = R_Wi ∧ y_Wi_turnsOf.cls ≠ "java/lang/invoke/MethodHandle" ∧ y_Wi_turnsOf.cls ≠ "java/lang/invoke/VarHandle" ∧ (parseMethodDescriptor y_Wi_turnsOf.desc).map (fun d => d.parameters.length) = some 1 := by decide +kernel
abbrev c_Wi_symbolWith : ByteArray := prog_7_method_5_code
def y_Wi_symbolWith : MethodName := ⟨R_Wi, "symbolWith", "(I)I"⟩
abbrev wc_Wi_symbolWith : Cond := .code y_Wi_symbolWith c_Wi_symbolWith 1 (some .int)
abbrev ws_Wi_symbolWith : List Cond := wc_Wi_symbolWith :: tb
theorem hd_Wi_symbolWith : y_Wi_symbolWith.cls = R_Wi ∧ y_Wi_symbolWith.cls ≠ "java/lang/invoke/MethodHandle" ∧ y_Wi_symbolWith.cls ≠ "java/lang/invoke/VarHandle" ∧ (parseMethodDescriptor y_Wi_symbolWith.desc).map (fun d => d.parameters.length) = some 1 := by decide +kernel
abbrev c_Wi_figureWith : ByteArray := prog_7_method_6_code
def y_Wi_figureWith : MethodName := ⟨R_Wi, "figureWith", "(I)I"⟩
abbrev wc_Wi_figureWith : Cond := .code y_Wi_figureWith c_Wi_figureWith 1 (some .int)
abbrev ws_Wi_figureWith : List Cond := wc_Wi_figureWith :: tb
theorem hd_Wi_figureWith : y_Wi_figureWith.cls = R_Wi ∧ y_Wi_figureWith.cls ≠ "java/lang/invoke/MethodHandle" ∧ y_Wi_figureWith.cls ≠ "java/lang/invoke/VarHandle" ∧ (parseMethodDescriptor y_Wi_figureWith.desc).map (fun d => d.parameters.length) = some 1 := by decide +kernel
abbrev c_Wi_firstFigureWith : ByteArray := prog_7_method_7_code
def y_Wi_firstFigureWith : MethodName := ⟨R_Wi, "firstFigureWith", "(I)I"⟩
abbrev wc_Wi_firstFigureWith : Cond := .code y_Wi_firstFigureWith c_Wi_firstFigureWith 1 (some .int)
abbrev ws_Wi_firstFigureWith : List Cond := wc_Wi_firstFigureWith :: tb
theorem hd_Wi_firstFigureWith : y_Wi_firstFigureWith.cls = R_Wi ∧ y_Wi_firstFigureWith.cls ≠ "java/lang/invoke/MethodHandle" ∧ y_Wi_firstFigureWith.cls ≠ "java/lang/invoke/VarHandle" ∧ (parseMethodDescriptor y_Wi_firstFigureWith.desc).map (fun d => d.parameters.length) = some 1 := by decide +kernel
abbrev c_Wi_turned : ByteArray := prog_7_method_8_code
def y_Wi_turned : MethodName := ⟨R_Wi, "turned", "(I)I"⟩
abbrev wc_Wi_turned : Cond := .code y_Wi_turned c_Wi_turned 1 (some .int)
abbrev ws_Wi_turned : List Cond := wc_Wi_turned :: tb
theorem hd_Wi_turned : y_Wi_turned.cls = R_Wi ∧ y_Wi_turned.cls ≠ "java/lang/invoke/MethodHandle" ∧ y_Wi_turned.cls ≠ "java/lang/invoke/VarHandle" ∧ (parseMethodDescriptor y_Wi_turned.desc).map (fun d => d.parameters.length) = some 1 := by decide +kernel
abbrev c_Wi_entry : ByteArray := prog_7_method_9_code
def y_Wi_entry : MethodName := ⟨R_Wi, "entry", "([II)I"⟩
abbrev wc_Wi_entry : Cond := .code y_Wi_entry c_Wi_entry 2 (some .int)
abbrev ws_Wi_entry : List Cond := wc_Wi_entry :: tb
theorem hd_Wi_entry : y_Wi_entry.cls = R_Wi ∧ y_Wi_entry.cls ≠ "java/lang/invoke/MethodHandle" ∧ y_Wi_entry.cls ≠ "java/lang/invoke/VarHandle" ∧ (parseMethodDescriptor y_Wi_entry.desc).map (fun d => d.parameters.length) = some 2 := by decide +kernel
abbrev c_Wi_placeOf : ByteArray := prog_7_method_10_code
def y_Wi_placeOf : MethodName := ⟨R_Wi, "placeOf", "([II)I"⟩
abbrev wc_Wi_placeOf : Cond := .code y_Wi_placeOf c_Wi_placeOf 3 (some .int)
abbrev ws_Wi_placeOf : List Cond := wc_Wi_placeOf :: tb
theorem hd_Wi_placeOf : y_Wi_placeOf.cls = R_Wi ∧ y_Wi_placeOf.cls ≠ "java/lang/invoke/MethodHandle" ∧ y_Wi_placeOf.cls ≠ "java/lang/invoke/VarHandle" ∧ (parseMethodDescriptor y_Wi_placeOf.desc).map (fun d => d.parameters.length) = some 2 := by decide +kernel
abbrev c_Lw_write : ByteArray := method_3_code
def y_Lw_write : MethodName := ⟨R_Lw, "write", "(LLineCodes;IJ[J)I"⟩
abbrev wc_Lw_write : Cond := .codeWith y_Lw_write c_Lw_write 6 (some .int) [(0, 11, 14, 13)]
abbrev ws_Lw_write : List Cond := wc_Lw_write :: tb
theorem hd_Lw_write : y_Lw_write.cls = R_Lw ∧ y_Lw_write.cls ≠ "java/lang/invoke/MethodHandle" ∧ y_Lw_write.cls ≠ "java/lang/invoke/VarHandle" ∧ (parseMethodDescriptor y_Lw_write.desc).map (fun d => d.parameters.length) = some 4 := by decide +kernel
abbrev c_Lw_bars : ByteArray := method_4_code
def y_Lw_bars : MethodName := ⟨R_Lw, "bars", "(LLineCodes;I[J)I"⟩
abbrev wc_Lw_bars : Cond := .codeWith y_Lw_bars c_Lw_bars 4 (some .int) [(0, 9, 12, 13), (0, 9, 15, 19)]
abbrev ws_Lw_bars : List Cond := wc_Lw_bars :: tb
theorem hd_Lw_bars : y_Lw_bars.cls = R_Lw ∧ y_Lw_bars.cls ≠ "java/lang/invoke/MethodHandle" ∧ y_Lw_bars.cls ≠ "java/lang/invoke/VarHandle" ∧ (parseMethodDescriptor y_Lw_bars.desc).map (fun d => d.parameters.length) = some 3 := by decide +kernel
abbrev c_Lw_checkFigure : ByteArray := method_5_code
def y_Lw_checkFigure : MethodName := ⟨R_Lw, "checkFigure", "(LLineCodes;J[J)I"⟩
abbrev wc_Lw_checkFigure : Cond := .codeWith y_Lw_checkFigure c_Lw_checkFigure 5 (some .int) [(0, 9, 12, 13)]
abbrev ws_Lw_checkFigure : List Cond := wc_Lw_checkFigure :: tb
theorem hd_Lw_checkFigure : y_Lw_checkFigure.cls = R_Lw ∧ y_Lw_checkFigure.cls ≠ "java/lang/invoke/MethodHandle" ∧ y_Lw_checkFigure.cls ≠ "java/lang/invoke/VarHandle" ∧ (parseMethodDescriptor y_Lw_checkFigure.desc).map (fun d => d.parameters.length) = some 3 := by decide +kernel
abbrev c_Lw_thirteen : ByteArray := method_6_code
def y_Lw_thirteen : MethodName := ⟨R_Lw, "thirteen", "(LLineCodes;JI[J)I"⟩
abbrev wc_Lw_thirteen : Cond := .codeWith y_Lw_thirteen c_Lw_thirteen 6 (some .int) [(0, 11, 14, 13)]
abbrev ws_Lw_thirteen : List Cond := wc_Lw_thirteen :: tb
theorem hd_Lw_thirteen : y_Lw_thirteen.cls = R_Lw ∧ y_Lw_thirteen.cls ≠ "java/lang/invoke/MethodHandle" ∧ y_Lw_thirteen.cls ≠ "java/lang/invoke/VarHandle" ∧ (parseMethodDescriptor y_Lw_thirteen.desc).map (fun d => d.parameters.length) = some 4 := by decide +kernel
abbrev c_Lw_put : ByteArray := method_7_code
def y_Lw_put : MethodName := ⟨R_Lw, "put", "(LLineCodes;IJ[J)I"⟩
abbrev wc_Lw_put : Cond := .codeWith y_Lw_put c_Lw_put 6 (some .int) [(0, 11, 14, 13)]
abbrev ws_Lw_put : List Cond := wc_Lw_put :: tb
theorem hd_Lw_put : y_Lw_put.cls = R_Lw ∧ y_Lw_put.cls ≠ "java/lang/invoke/MethodHandle" ∧ y_Lw_put.cls ≠ "java/lang/invoke/VarHandle" ∧ (parseMethodDescriptor y_Lw_put.desc).map (fun d => d.parameters.length) = some 4 := by decide +kernel
abbrev c_Lw_spoil : ByteArray := method_8_code
def y_Lw_spoil : MethodName := ⟨R_Lw, "spoil", "(LLineCodes;II[J)I"⟩
abbrev wc_Lw_spoil : Cond := .codeWith y_Lw_spoil c_Lw_spoil 5 (some .int) [(0, 10, 13, 36), (0, 10, 17, 13)]
abbrev ws_Lw_spoil : List Cond := wc_Lw_spoil :: tb
theorem hd_Lw_spoil : y_Lw_spoil.cls = R_Lw ∧ y_Lw_spoil.cls ≠ "java/lang/invoke/MethodHandle" ∧ y_Lw_spoil.cls ≠ "java/lang/invoke/VarHandle" ∧ (parseMethodDescriptor y_Lw_spoil.desc).map (fun d => d.parameters.length) = some 4 := by decide +kernel
abbrev c_Lw_law : ByteArray := code
def y_Lw_law : MethodName := ⟨R_Lw, "law", "([I)Z"⟩
end
section
/-! Calls in one row: the callee's cells are cut out of the world, the contract is used, what came back is joined. -/
/-- facts of the tables and statics that outlive every call: they move with alike machines, stay where their cells stay, and hold of fewer places -/
def zk (Z : (Nat → Prop) → State → Heap → Prop) : Prop := (∀ (A : Nat → Prop) (u U : State) (H : Heap), u.vm.Alike U.vm → Z A u H → Z A U H) ∧ (∀ (A : Nat → Prop) (U : State) (H H1 : Heap), Z A U H → (∀ a : Nat, a < H.size → ¬ A a → H1[a]? = H[a]?) → Z A U H1) ∧ (∀ (A B : Nat → Prop) (U : State) (H : Heap), Z A U H → (∀ q, B q → A q) → Z B U H)
theorem zk_to {Z : (Nat → Prop) → State → Heap → Prop} (hz : zk Z) {A B : Nat → Prop} {s U : State} {H : Heap} {locs : List Loc} (h : Z A s s.heap) (hS : va_S A s.heap H locs) (hAB : ∀ q, B q → A q) (hU : U.heap = H) (hv : s.vm.Alike U.vm) : Z B U U.heap := by
  rw [hU]
  exact hz.2.2 _ _ _ _ (hz.1 _ _ _ _ hv (hz.2.1 _ _ _ _ h hS.2.1)) hAB
/-- a start of a method that only reads: the world, the array classes, the statics -/
def ro_ (D : va_G) (cl : List vw_C) (tys : List (ClassId × FieldType)) (ws : va_W) (Z : (Nat → Prop) → State → Heap → Prop) : State → Prop := fun U => va_P D cl ws U.heap ∧ va_K D cl tys U ∧ Z (fun _ => False) U U.heap
/-- a start of a method that writes -/
def rw_ (D : va_G) (cl : List vw_C) (tys : List (ClassId × FieldType)) (ws : va_W) (Z : (Nat → Prop) → State → Heap → Prop) (sz : Nat) : State → Prop := fun U => U.heap.size = sz ∧ va_P D cl ws U.heap ∧ va_K D cl tys U ∧ va_D (fun _ => True) ws ∧ Z (va_A ws sz) U U.heap
/-- the world behind a method -/
def at_ (D : va_G) (cl : List vw_C) (tys : List (ClassId × FieldType)) (A : Nat → Prop) (ws : va_W) (t : State) : Prop := va_P D cl ws t.heap ∧ va_K D cl tys t ∧ va_D A ws
theorem ro_blind {Z : (Nat → Prop) → State → Heap → Prop} (hz : zk Z) {D : va_G} {cl : List vw_C} {tys : List (ClassId × FieldType)} {ws : va_W} {av : List Value} : FrameBlind (va_Pc av (ro_ D cl tys ws Z)) := by
  intro a U g mk q
  obtain ⟨q0, qP, qK, qZ⟩ := q
  exact ⟨q0, qP, va_K.moved (u := U) (U := U.calling g mk a) (Vm.Alike.refl U.vm) qK, hz.1 _ U (U.calling g mk a) _ (Vm.Alike.refl U.vm) qZ⟩
theorem rw_blind {Z : (Nat → Prop) → State → Heap → Prop} (hz : zk Z) {D : va_G} {cl : List vw_C} {tys : List (ClassId × FieldType)} {ws : va_W} {av : List Value} {sz : Nat} : FrameBlind (va_Pc av (rw_ D cl tys ws Z sz)) := by
  intro a U g mk q
  obtain ⟨q0, q1, qP, qK, qD, qZ⟩ := q
  exact ⟨q0, q1, qP, va_K.moved (u := U) (U := U.calling g mk a) (Vm.Alike.refl U.vm) qK, qD, hz.1 _ U (U.calling g mk a) _ (Vm.Alike.refl U.vm) qZ⟩
section KCALLS
variable {p : Program} {l : Launch} {e : Env} {R : Room} {s : State} {m : MethodId} {args : Array Value} {below : List Frame} {meth : Method} {c : Code} {H : Heap} {locs : List Loc} {cells slots : Nat} {Q : State → Prop}
variable {cc : ByteArray} {pc nL n index : Nat} {ls : Array Slot} {st0 rest As : List Value} {Ts wsy : List Cond} {own C : String} {y : MethodName} {bytes : ByteArray} {maxL : Nat} {ret : Option FieldType} {rm : Room}
variable {D : va_G} {cl : List vw_C} {tys tysc : List (ClassId × FieldType)} {ws wc wr : va_W} {A : Nat → Prop} {Z : (Nat → Prop) → State → Heap → Prop} {b : Nat}
theorem ro_pre {av : List Value} (hz : zk Z) (isC isT : List Nat) (hP : va_P D cl ws H) (hK : va_K D cl tys s) (hZ : Z A s s.heap) (hS : va_S A s.heap H locs) (hC : isC.filterMap (fun i => ws[i]?) = wc) (hT : isT.filterMap (fun i => tys[i]?) = tysc) : ∀ U : State, U.heap = H → s.WarmedH U.vm → va_Pc av (ro_ D cl tysc wc Z) av.toArray U := by
  intro U hU hW
  exact ⟨rfl, by rw [hU]; exact hP.sub isC hC, va_K.moved hW.alike (hK.sub isT hT), zk_to hz hZ hS (fun _ h => h.elim) hU hW.alike⟩
/-- a reader of an object: int answer -/
theorem k_roVi {post : Int32 → Prop} (hz : zk Z) (isC isT : List Nat) (q0 ci : Nat) (S : CallFix p m c cc nL s args Ts own) (hM : Met l y wsy rm (va_Pc (.ref b :: As) (ro_ D cl tysc wc Z)) (vp_Si post) 0 0 (fun _ => False)) (cw : CallW R s args own C index y bytes maxL ret wsy rm 0 0 n)
    (hP : va_P D cl ws H) (hK : va_K D cl tys s) (hZ : Z A s s.heap) (hS : va_S A s.heap H locs) (hC : isC.filterMap (fun i => ws[i]?) = wc) (hT : isT.filterMap (fun i => tys[i]?) = tysc) {fs : List Value} {T : u_T} {N : Nat} (he : ws[q0]? = some (b, .inr (ci, fs))) (hc : cl[ci]? = some (C, T, N))
    (hn : As.length = n) (hsize : ls.size = nL) (hst : st0 = As.reverse ++ .ref b :: rest) (hW : (rest.map fun v => v.category).sum ≤ 8) (hdg : decode cc pc = .ok (.invokevirtual index, 3)) (hf : cells ≤ R.cells ∧ slots ≤ R.slots)
    (kk : ∀ r : Int32, post r → W p l e R s m args below meth c H locs cells slots Q (F0 m (pc + 3) ls (.int r :: rest))) : W p l e R s m args below meth c H locs cells slots Q (F0 m pc ls st0) :=
  vp_callSi (va_runV (As := As) (rest := rest) S hM cw ⟨ro_blind hz, va_recv hK hP hc he, ro_pre hz isC isT hP hK hZ hS hC hT⟩ rfl hn hsize hst (lv_room hW) hdg hf).run kk
/-- a static reader: int answer -/
theorem k_roSi {post : Int32 → Prop} (hz : zk Z) (isC isT : List Nat) (S : CallFix p m c cc nL s args Ts own) (hM : Met l y wsy rm (va_Pc As (ro_ D cl tysc wc Z)) (vp_Si post) 0 0 (fun _ => False)) (cw : CallB R s args own index y bytes maxL ret wsy rm 0 0 n ∧ (Cond.static y).before args s = true)
    (hP : va_P D cl ws H) (hK : va_K D cl tys s) (hZ : Z A s s.heap) (hS : va_S A s.heap H locs) (hC : isC.filterMap (fun i => ws[i]?) = wc) (hT : isT.filterMap (fun i => tys[i]?) = tysc)
    (hn : As.length = n) (hsize : ls.size = nL) (hst : st0 = As.reverse ++ rest) (hW : (rest.map fun v => v.category).sum ≤ 8) (hdg : decode cc pc = .ok (.invokestatic index, 3)) (hf : cells ≤ R.cells ∧ slots ≤ R.slots)
    (kk : ∀ r : Int32, post r → W p l e R s m args below meth c H locs cells slots Q (F0 m (pc + 3) ls (.int r :: rest))) : W p l e R s m args below meth c H locs cells slots Q (F0 m pc ls st0) :=
  vp_callSi (va_runS (As := As) (rest := rest) S hM cw ⟨ro_blind hz, ro_pre hz isC isT hP hK hZ hS hC hT⟩ rfl hn hsize hst (lv_room hW) hdg hf).run kk
theorem rw_pre {av : List Value} (hz : zk Z) (isC isT : List Nat) (hP : va_P D cl ws H) (hD : va_D A ws) (hK : va_K D cl tys s) (hZ : Z A s s.heap) (hS : va_S A s.heap H locs) (hA : ∀ q, s.heap.size ≤ q → A q) (hC : isC.map (fun i => ws[i]?) = wc.map some) (hC' : isC.filterMap (fun i => ws[i]?) = wc) (hn : va_nd isC = true) (hT : isT.filterMap (fun i => tys[i]?) = tysc) : ∀ U : State, U.heap = H → s.WarmedH U.vm → va_Pc av (rw_ D cl tysc wc Z H.size) av.toArray U := by
  intro U hU hW
  exact ⟨rfl, by rw [hU], by rw [hU]; exact hP.sub isC hC', va_K.moved hW.alike (hK.sub isT hT), (hD.sub isC hn hC).weaken (fun _ _ _ _ => trivial), zk_to hz hZ hS (va_free hD hS hA isC hC) hU hW.alike⟩
/-- a writer of an object: int answer -/
theorem k_rwVi {S1 : Type} {post : Int32 → S1 → Prop} {wn : S1 → va_W} (hz : zk Z) (isC isR isT : List Nat) (q0 ci : Nat) (S : CallFix p m c cc nL s args Ts own) (hM : Met l y wsy rm (va_Pc (.ref b :: As) (rw_ D cl tysc wc Z H.size)) (va_Qi post (fun u t => at_ D cl tysc (va_A wc H.size) (wn u) t) (va_A wc H.size)) 0 0 (va_A wc H.size)) (cw : CallW R s args own C index y bytes maxL ret wsy rm 0 0 n)
    (hP : va_P D cl ws H) (hD : va_D A ws) (hK : va_K D cl tys s) (hZ : Z A s s.heap) (hS : va_S A s.heap H locs) (hA : ∀ q, s.heap.size ≤ q → A q) (hC : isC.map (fun i => ws[i]?) = wc.map some) (hC' : isC.filterMap (fun i => ws[i]?) = wc) (hR : isR.map (fun i => ws[i]?) = wr.map some) (hnC : va_nd isC = true) (hnR : va_nd isR = true) (hdis : ∀ i ∈ isR, i ∉ isC) (hT : isT.filterMap (fun i => tys[i]?) = tysc) {fs : List Value} {T : u_T} {N : Nat} (he : ws[q0]? = some (b, .inr (ci, fs))) (hc : cl[ci]? = some (C, T, N))
    (hn : As.length = n) (hsize : ls.size = nL) (hst : st0 = As.reverse ++ .ref b :: rest) (hW : (rest.map fun v => v.category).sum ≤ 8) (hdg : decode cc pc = .ok (.invokevirtual index, 3)) (hf : cells ≤ R.cells ∧ slots ≤ R.slots)
    (kk : ∀ (r : Int32) (u : S1) (H1 : Heap) (locs1 : List Loc), post r u → va_P D cl (wr ++ wn u) H1 → va_D A (wr ++ wn u) → va_S A s.heap H1 locs1 → W p l e R s m args below meth c H1 locs1 cells slots Q (F0 m (pc + 3) ls (.int r :: rest))) : W p l e R s m args below meth c H locs cells slots Q (F0 m pc ls st0) := by
  have hFc := va_free (wc := wc) hD hS hA isC hC
  refine va_calli (va_runV (As := As) (rest := rest) S hM cw ⟨rw_blind hz, va_recv hK hP hc he, rw_pre hz isC isT hP hD hK hZ hS hA hC hC' hnC hT⟩ rfl hn hsize hst (lv_room hW) hdg hf) hS (fun q _ h => hFc q h) hFc (fun r u t H1 locs1 ht hvm hw hB hz1 hk1 hS1 => ?_)
  obtain ⟨hP1, hK1, hD1⟩ := hB
  rw [ht] at hP1
  obtain ⟨hP2, hD2⟩ := va_join (wr := wr) (w1 := wn u) hP hD isC isR hC hR hnR hdis hk1 hFc hP1 hD1
  exact kk r u H1 locs1 hw hP2 hD2 hS1
/-- a writer of an object: no answer -/
theorem k_rwVv {S1 : Type} {post : S1 → Prop} {wn : S1 → va_W} (hz : zk Z) (isC isR isT : List Nat) (q0 ci : Nat) (S : CallFix p m c cc nL s args Ts own) (hM : Met l y wsy rm (va_Pc (.ref b :: As) (rw_ D cl tysc wc Z H.size)) (va_Qv post (fun u t => at_ D cl tysc (va_A wc H.size) (wn u) t) (va_A wc H.size)) 0 0 (va_A wc H.size)) (cw : CallW R s args own C index y bytes maxL ret wsy rm 0 0 n)
    (hP : va_P D cl ws H) (hD : va_D A ws) (hK : va_K D cl tys s) (hZ : Z A s s.heap) (hS : va_S A s.heap H locs) (hA : ∀ q, s.heap.size ≤ q → A q) (hC : isC.map (fun i => ws[i]?) = wc.map some) (hC' : isC.filterMap (fun i => ws[i]?) = wc) (hR : isR.map (fun i => ws[i]?) = wr.map some) (hnC : va_nd isC = true) (hnR : va_nd isR = true) (hdis : ∀ i ∈ isR, i ∉ isC) (hT : isT.filterMap (fun i => tys[i]?) = tysc) {fs : List Value} {T : u_T} {N : Nat} (he : ws[q0]? = some (b, .inr (ci, fs))) (hc : cl[ci]? = some (C, T, N))
    (hn : As.length = n) (hsize : ls.size = nL) (hst : st0 = As.reverse ++ .ref b :: rest) (hW : (rest.map fun v => v.category).sum ≤ 8) (hdg : decode cc pc = .ok (.invokevirtual index, 3)) (hf : cells ≤ R.cells ∧ slots ≤ R.slots)
    (kk : ∀ (u : S1) (H1 : Heap) (locs1 : List Loc), post u → va_P D cl (wr ++ wn u) H1 → va_D A (wr ++ wn u) → va_S A s.heap H1 locs1 → W p l e R s m args below meth c H1 locs1 cells slots Q (F0 m (pc + 3) ls rest)) : W p l e R s m args below meth c H locs cells slots Q (F0 m pc ls st0) := by
  have hFc := va_free (wc := wc) hD hS hA isC hC
  refine va_callv (va_runV (As := As) (rest := rest) S hM cw ⟨rw_blind hz, va_recv hK hP hc he, rw_pre hz isC isT hP hD hK hZ hS hA hC hC' hnC hT⟩ rfl hn hsize hst (lv_room hW) hdg hf) hS (fun q _ h => hFc q h) hFc (fun u t H1 locs1 ht hvm hw hB hz1 hk1 hS1 => ?_)
  obtain ⟨hP1, hK1, hD1⟩ := hB
  rw [ht] at hP1
  obtain ⟨hP2, hD2⟩ := va_join (wr := wr) (w1 := wn u) hP hD isC isR hC hR hnR hdis hk1 hFc hP1 hD1
  exact kk u H1 locs1 hw hP2 hD2 hS1
/-- a static writer: int answer -/
theorem k_rwSi {S1 : Type} {post : Int32 → S1 → Prop} {wn : S1 → va_W} (hz : zk Z) (isC isR isT : List Nat) (S : CallFix p m c cc nL s args Ts own) (hM : Met l y wsy rm (va_Pc As (rw_ D cl tysc wc Z H.size)) (va_Qi post (fun u t => at_ D cl tysc (va_A wc H.size) (wn u) t) (va_A wc H.size)) 0 0 (va_A wc H.size)) (cw : CallB R s args own index y bytes maxL ret wsy rm 0 0 n ∧ (Cond.static y).before args s = true)
    (hP : va_P D cl ws H) (hD : va_D A ws) (hK : va_K D cl tys s) (hZ : Z A s s.heap) (hS : va_S A s.heap H locs) (hA : ∀ q, s.heap.size ≤ q → A q) (hC : isC.map (fun i => ws[i]?) = wc.map some) (hC' : isC.filterMap (fun i => ws[i]?) = wc) (hR : isR.map (fun i => ws[i]?) = wr.map some) (hnC : va_nd isC = true) (hnR : va_nd isR = true) (hdis : ∀ i ∈ isR, i ∉ isC) (hT : isT.filterMap (fun i => tys[i]?) = tysc)
    (hn : As.length = n) (hsize : ls.size = nL) (hst : st0 = As.reverse ++ rest) (hW : (rest.map fun v => v.category).sum ≤ 8) (hdg : decode cc pc = .ok (.invokestatic index, 3)) (hf : cells ≤ R.cells ∧ slots ≤ R.slots)
    (kk : ∀ (r : Int32) (u : S1) (H1 : Heap) (locs1 : List Loc), post r u → va_P D cl (wr ++ wn u) H1 → va_D A (wr ++ wn u) → va_S A s.heap H1 locs1 → W p l e R s m args below meth c H1 locs1 cells slots Q (F0 m (pc + 3) ls (.int r :: rest))) : W p l e R s m args below meth c H locs cells slots Q (F0 m pc ls st0) := by
  have hFc := va_free (wc := wc) hD hS hA isC hC
  refine va_calli (va_runS (As := As) (rest := rest) S hM cw ⟨rw_blind hz, rw_pre hz isC isT hP hD hK hZ hS hA hC hC' hnC hT⟩ rfl hn hsize hst (lv_room hW) hdg hf) hS (fun q _ h => hFc q h) hFc (fun r u t H1 locs1 ht hvm hw hB hz1 hk1 hS1 => ?_)
  obtain ⟨hP1, hK1, hD1⟩ := hB
  rw [ht] at hP1
  obtain ⟨hP2, hD2⟩ := va_join (wr := wr) (w1 := wn u) hP hD isC isR hC hR hnR hdis hk1 hFc hP1 hD1
  exact kk r u H1 locs1 hw hP2 hD2 hS1
/-- a constructor: new cells, new array classes -/
theorem k_Iv {S1 : Type} {post : S1 → Prop} {wn : S1 → va_W} {tn : S1 → List (ClassId × FieldType)} {mc ms : Nat} (hz : zk Z) (isC isR isT : List Nat) (S : CallFix p m c cc nL s args Ts own) (hM : Met l y wsy rm (va_Pc (.ref b :: As) (rw_ D cl tysc wc Z H.size)) (va_Qv post (fun u t => at_ D cl (tn u) (va_A wc H.size) (wn u) t) (va_A wc H.size)) mc ms (va_A wc H.size)) (cw : CallB R s args own index y bytes maxL none wsy rm mc ms n ∧ y.name = "<init>" ∧ (Cond.instanceMethod y).before args s = true)
    (hP : va_P D cl ws H) (hD : va_D A ws) (hK : va_K D cl tys s) (hZ : Z A s s.heap) (hS : va_S A s.heap H locs) (hA : ∀ q, s.heap.size ≤ q → A q) (hC : isC.map (fun i => ws[i]?) = wc.map some) (hC' : isC.filterMap (fun i => ws[i]?) = wc) (hR : isR.map (fun i => ws[i]?) = wr.map some) (hnC : va_nd isC = true) (hnR : va_nd isR = true) (hdis : ∀ i ∈ isR, i ∉ isC) (hT : isT.filterMap (fun i => tys[i]?) = tysc)
    (hn : As.length = n) (hsize : ls.size = nL) (hst : st0 = As.reverse ++ .ref b :: rest) (hW : (rest.map fun v => v.category).sum ≤ 8) (hdg : decode cc pc = .ok (.invokespecial index, 3)) (hf : cells + mc ≤ R.cells ∧ slots + ms ≤ R.slots)
    (kk : ∀ (u : S1) (H1 : Heap) (locs1 : List Loc), post u → va_P D cl (wr ++ wn u) H1 → va_D A (wr ++ wn u) → va_S A s.heap H1 locs1 → va_K D cl (tys ++ tn u) s → W p l e R s m args below meth c H1 locs1 (cells + mc) (slots + ms) Q (F0 m (pc + 3) ls rest)) : W p l e R s m args below meth c H locs cells slots Q (F0 m pc ls st0) := by
  have hFc := va_free (wc := wc) hD hS hA isC hC
  refine va_callv (va_runI (As := As) (rest := rest) S hM cw ⟨rw_blind hz, rw_pre hz isC isT hP hD hK hZ hS hA hC hC' hnC hT⟩ rfl hn hsize hst (lv_room hW) hdg hf) hS (fun q _ h => hFc q h) hFc (fun u t H1 locs1 ht hvm hw hB hz1 hk1 hS1 => ?_)
  obtain ⟨hP1, hK1, hD1⟩ := hB
  rw [ht] at hP1
  have hK2 := va_K.moved hvm.symm hK1
  obtain ⟨hP2, hD2⟩ := va_join (wr := wr) (w1 := wn u) hP hD isC isR hC hR hnR hdis hk1 hFc hP1 hD1
  exact kk u H1 locs1 hw hP2 hD2 hS1 (hK.app hK2)
end KCALLS
/-- 0 or 1: what a boolean is -/
def vz (x : Int32) : Prop := x = 0 ∨ x = 1
theorem vz_n {x : Int32} (h : vz x) : narrow .boolean (.int x) = .int x := by rcases h with rfl | rfl <;> rfl
theorem vz_f {x : Int32} (h : vz x) : fits .boolean (.int x) = true := by rcases h with rfl | rfl <;> rfl
/-- with one static table more -/
def zt (Z : (Nat → Prop) → State → Heap → Prop) (t N : Nat) (f : Nat → Int32) : (Nat → Prop) → State → Heap → Prop := fun A U H => Z A U H ∧ va_T .int t N (fun j => .int (f j)) A U H
theorem zt_zk {Z : (Nat → Prop) → State → Heap → Prop} {t N : Nat} {f : Nat → Int32} (hz : zk Z) : zk (zt Z t N f) :=
  ⟨fun A u U H hv h => ⟨hz.1 A u U H hv h.1, va_T.moved hv h.2⟩, fun A U H H1 h hq => ⟨hz.2.1 A U H H1 h.1 hq, va_T.kept h.2 hq⟩, fun A B U H h hAB => ⟨hz.2.2 A B U H h.1 hAB, va_T.narrow h.2 hAB⟩⟩
end
section
theorem mm_0 : Cond.selects R_Pa y_Pa_fillCosts y_Pa_fillCosts ∈ tb := tb_at 0 (by decide +kernel) (by decide +kernel)
theorem mm_1 : Cond.selects R_Pa y_Pa_costOfTelling y_Pa_costOfTelling ∈ tb := tb_at 1 (by decide +kernel) (by decide +kernel)
theorem mm_2 : Cond.selects R_Pa y_Pa_cost y_Pa_cost ∈ tb := tb_at 2 (by decide +kernel) (by decide +kernel)
theorem mm_3 : Cond.selects R_Pa y_Pa_setCost y_Pa_setCost ∈ tb := tb_at 3 (by decide +kernel) (by decide +kernel)
theorem mm_4 : Cond.selects R_Pa y_Pa_addSymbols y_Pa_addSymbols ∈ tb := tb_at 4 (by decide +kernel) (by decide +kernel)
theorem mm_5 : Cond.selects R_Pa y_Pa_cheapestFirstSet y_Pa_cheapestFirstSet ∈ tb := tb_at 5 (by decide +kernel) (by decide +kernel)
theorem mm_6 : Cond.selects R_Pa y_Pa_nextSet y_Pa_nextSet ∈ tb := tb_at 6 (by decide +kernel) (by decide +kernel)
theorem mm_7 : Cond.selects R_Pa y_Pa_addTold y_Pa_addTold ∈ tb := tb_at 7 (by decide +kernel) (by decide +kernel)
theorem mm_8 : Cond.selects R_Pa y_Pa_checkSymbol y_Pa_checkSymbol ∈ tb := tb_at 8 (by decide +kernel) (by decide +kernel)
theorem mm_9 : Cond.selects R_Re y_Re_isThirteen y_Re_isThirteen ∈ tb := tb_at 9 (by decide +kernel) (by decide +kernel)
theorem mm_10 : Cond.selects R_Re y_Re_areSidesAndMiddleRight y_Re_areSidesAndMiddleRight ∈ tb := tb_at 10 (by decide +kernel) (by decide +kernel)
theorem mm_11 : Cond.selects R_Re y_Re_sumOf y_Re_sumOf ∈ tb := tb_at 11 (by decide +kernel) (by decide +kernel)
theorem mm_12 : Cond.selects R_Re y_Re_countsOf y_Re_countsOf ∈ tb := tb_at 12 (by decide +kernel) (by decide +kernel)
theorem mm_13 : Cond.selects R_Re y_Re_isLeftHalf y_Re_isLeftHalf ∈ tb := tb_at 13 (by decide +kernel) (by decide +kernel)
theorem mm_14 : Cond.selects R_Re y_Re_figureCountsAt y_Re_figureCountsAt ∈ tb := tb_at 14 (by decide +kernel) (by decide +kernel)
theorem mm_15 : Cond.selects R_Re y_Re_isRightHalf y_Re_isRightHalf ∈ tb := tb_at 15 (by decide +kernel) (by decide +kernel)
theorem mm_16 : Cond.selects R_Re y_Re_isRow y_Re_isRow ∈ tb := tb_at 16 (by decide +kernel) (by decide +kernel)
theorem mm_17 : Cond.selects R_Re y_Re_isLastAt y_Re_isLastAt ∈ tb := tb_at 17 (by decide +kernel) (by decide +kernel)
theorem mm_18 : Cond.selects R_Re y_Re_symbolAt y_Re_symbolAt ∈ tb := tb_at 18 (by decide +kernel) (by decide +kernel)
theorem mm_19 : Cond.selects R_Re y_Re_isTold y_Re_isTold ∈ tb := tb_at 19 (by decide +kernel) (by decide +kernel)
theorem mm_20 : Cond.selects R_Re y_Re_isSwitched y_Re_isSwitched ∈ tb := tb_at 20 (by decide +kernel) (by decide +kernel)
theorem mm_22 : Cond.selects R_Lc y_Lc_addWidths y_Lc_addWidths ∈ tb := tb_at 22 (by decide +kernel) (by decide +kernel)
theorem mm_41 : Cond.initialized R_Lc ∈ tb := tb_at 41 (by decide +kernel) (by decide +kernel)
theorem mm_42 : Cond.initialized R_It ∈ tb := tb_at 42 (by decide +kernel) (by decide +kernel)
theorem mm_43 : Cond.initialized "java/lang/Math" ∈ tb := tb_at 43 (by decide +kernel) (by decide +kernel)
theorem mm_44 : Cond.initialized R_Pa ∈ tb := tb_at 44 (by decide +kernel) (by decide +kernel)
theorem mm_45 : Cond.initialized R_Re ∈ tb := tb_at 45 (by decide +kernel) (by decide +kernel)
theorem mm_51 : Cond.initialized R_Se ∈ tb := tb_at 51 (by decide +kernel) (by decide +kernel)
theorem mm_53 : Cond.initialized R_Wi ∈ tb := tb_at 53 (by decide +kernel) (by decide +kernel)
theorem mm_54 : Cond.initialized R_Fi ∈ tb := tb_at 54 (by decide +kernel) (by decide +kernel)
theorem mm_73 : Cond.fieldLink R_It 15 "LineCodes$Items" "items" "[I" ∈ tb := tb_at 73 (by decide +kernel) (by decide +kernel)
theorem mm_74 : Cond.fieldLink R_It 21 "LineCodes$Items" "count" "I" ∈ tb := tb_at 74 (by decide +kernel) (by decide +kernel)
theorem mm_75 : Cond.laysFinal R_It "LineCodes$Items" "items" "[I" ∈ tb := tb_at 75 (by decide +kernel) (by decide +kernel)
theorem mm_77 : Cond.lays R_It "LineCodes$Items" "count" "I" ∈ tb := tb_at 77 (by decide +kernel) (by decide +kernel)
theorem mm_87 : Cond.fieldLink R_Pa 9 "LineCodes$Packer" "text" "LLineCodes$Items;" ∈ tb := tb_at 87 (by decide +kernel) (by decide +kernel)
theorem mm_88 : Cond.fieldLink R_Pa 15 "LineCodes$Packer" "row" "LLineCodes$Items;" ∈ tb := tb_at 88 (by decide +kernel) (by decide +kernel)
theorem mm_89 : Cond.fieldLink R_Pa 20 "LineCodes$Packer" "costs" "[I" ∈ tb := tb_at 89 (by decide +kernel) (by decide +kernel)
theorem mm_90 : Cond.laysFinal R_Pa "LineCodes$Packer" "text" "LLineCodes$Items;" ∈ tb := tb_at 90 (by decide +kernel) (by decide +kernel)
theorem mm_92 : Cond.laysFinal R_Pa "LineCodes$Packer" "row" "LLineCodes$Items;" ∈ tb := tb_at 92 (by decide +kernel) (by decide +kernel)
theorem mm_94 : Cond.laysFinal R_Pa "LineCodes$Packer" "costs" "[I" ∈ tb := tb_at 94 (by decide +kernel) (by decide +kernel)
theorem mm_105 : Cond.fieldLink R_Re 9 "LineCodes$Reader" "strip" "LLineCodes$Items;" ∈ tb := tb_at 105 (by decide +kernel) (by decide +kernel)
theorem mm_106 : Cond.fieldLink R_Re 20 "LineCodes$Reader" "told" "LLineCodes$Items;" ∈ tb := tb_at 106 (by decide +kernel) (by decide +kernel)
theorem mm_107 : Cond.fieldLink R_Re 23 "LineCodes$Reader" "fromBack" "Z" ∈ tb := tb_at 107 (by decide +kernel) (by decide +kernel)
theorem mm_108 : Cond.fieldLink R_Re 29 "LineCodes$Reader" "set" "I" ∈ tb := tb_at 108 (by decide +kernel) (by decide +kernel)
theorem mm_109 : Cond.fieldLink R_Re 33 "LineCodes$Reader" "shifted" "Z" ∈ tb := tb_at 109 (by decide +kernel) (by decide +kernel)
theorem mm_110 : Cond.laysFinal R_Re "LineCodes$Reader" "strip" "LLineCodes$Items;" ∈ tb := tb_at 110 (by decide +kernel) (by decide +kernel)
theorem mm_112 : Cond.laysFinal R_Re "LineCodes$Reader" "told" "LLineCodes$Items;" ∈ tb := tb_at 112 (by decide +kernel) (by decide +kernel)
theorem mm_114 : Cond.lays R_Re "LineCodes$Reader" "fromBack" "Z" ∈ tb := tb_at 114 (by decide +kernel) (by decide +kernel)
theorem mm_116 : Cond.lays R_Re "LineCodes$Reader" "set" "I" ∈ tb := tb_at 116 (by decide +kernel) (by decide +kernel)
theorem mm_118 : Cond.lays R_Re "LineCodes$Reader" "shifted" "Z" ∈ tb := tb_at 118 (by decide +kernel) (by decide +kernel)
theorem mm_121 : Cond.fieldLink R_Lc 14 "LineCodes" "text" "LLineCodes$Items;" ∈ tb := tb_at 121 (by decide +kernel) (by decide +kernel)
theorem mm_122 : Cond.fieldLink R_Lc 18 "LineCodes" "row" "LLineCodes$Items;" ∈ tb := tb_at 122 (by decide +kernel) (by decide +kernel)
theorem mm_123 : Cond.fieldLink R_Lc 21 "LineCodes" "strip" "LLineCodes$Items;" ∈ tb := tb_at 123 (by decide +kernel) (by decide +kernel)
theorem mm_124 : Cond.fieldLink R_Lc 29 "LineCodes" "packer" "LLineCodes$Packer;" ∈ tb := tb_at 124 (by decide +kernel) (by decide +kernel)
theorem mm_125 : Cond.fieldLink R_Lc 38 "LineCodes" "reader" "LLineCodes$Reader;" ∈ tb := tb_at 125 (by decide +kernel) (by decide +kernel)
theorem mm_126 : Cond.laysFinal R_Lc "LineCodes" "text" "LLineCodes$Items;" ∈ tb := tb_at 126 (by decide +kernel) (by decide +kernel)
theorem mm_128 : Cond.laysFinal R_Lc "LineCodes" "row" "LLineCodes$Items;" ∈ tb := tb_at 128 (by decide +kernel) (by decide +kernel)
theorem mm_130 : Cond.laysFinal R_Lc "LineCodes" "strip" "LLineCodes$Items;" ∈ tb := tb_at 130 (by decide +kernel) (by decide +kernel)
theorem mm_132 : Cond.laysFinal R_Lc "LineCodes" "packer" "LLineCodes$Packer;" ∈ tb := tb_at 132 (by decide +kernel) (by decide +kernel)
theorem mm_134 : Cond.laysFinal R_Lc "LineCodes" "reader" "LLineCodes$Reader;" ∈ tb := tb_at 134 (by decide +kernel) (by decide +kernel)
theorem mm_141 : Cond.methodLink R_Lc 62 y_It_empty ∈ tb := tb_at 141 (by decide +kernel) (by decide +kernel)
theorem mm_142 : Cond.instanceMethod y_It_empty ∈ tb := tb_at 142 (by decide +kernel) (by decide +kernel)
theorem mm_143 : Cond.selects R_It y_It_empty y_It_empty ∈ tb := tb_at 143 (by decide +kernel) (by decide +kernel)
theorem mm_144 : wc_It_empty ∈ tb := tb_at 144 (by decide +kernel) (by decide +kernel)
theorem mm_149 : Cond.methodLink R_Lc 66 y_Pa_makeRow ∈ tb := tb_at 149 (by decide +kernel) (by decide +kernel)
theorem mm_150 : Cond.instanceMethod y_Pa_makeRow ∈ tb := tb_at 150 (by decide +kernel) (by decide +kernel)
theorem mm_151 : Cond.selects R_Pa y_Pa_makeRow y_Pa_makeRow ∈ tb := tb_at 151 (by decide +kernel) (by decide +kernel)
theorem mm_152 : wc_Pa_makeRow ∈ tb := tb_at 152 (by decide +kernel) (by decide +kernel)
theorem mm_153 : Cond.methodLink R_Pa 24 y_It_count ∈ tb := tb_at 153 (by decide +kernel) (by decide +kernel)
theorem mm_154 : Cond.instanceMethod y_It_count ∈ tb := tb_at 154 (by decide +kernel) (by decide +kernel)
theorem mm_155 : Cond.selects R_It y_It_count y_It_count ∈ tb := tb_at 155 (by decide +kernel) (by decide +kernel)
theorem mm_156 : wc_It_count ∈ tb := tb_at 156 (by decide +kernel) (by decide +kernel)
theorem mm_157 : Cond.methodLink R_Pa 30 y_Pa_fillCosts ∈ tb := tb_at 157 (by decide +kernel) (by decide +kernel)
theorem mm_159 : Cond.instanceMethod y_Pa_fillCosts ∈ tb := tb_at 159 (by decide +kernel) (by decide +kernel)
theorem mm_160 : wc_Pa_fillCosts ∈ tb := tb_at 160 (by decide +kernel) (by decide +kernel)
theorem mm_161 : Cond.constant R_Pa 47 1000000 ∈ tb := tb_at 161 (by decide +kernel) (by decide +kernel)
theorem mm_162 : Cond.methodLink R_Pa 48 y_Pa_costOfTelling ∈ tb := tb_at 162 (by decide +kernel) (by decide +kernel)
theorem mm_164 : Cond.instanceMethod y_Pa_costOfTelling ∈ tb := tb_at 164 (by decide +kernel) (by decide +kernel)
theorem mm_165 : wc_Pa_costOfTelling ∈ tb := tb_at 165 (by decide +kernel) (by decide +kernel)
theorem mm_166 : Cond.methodLink R_Pa 64 y_It_at ∈ tb := tb_at 166 (by decide +kernel) (by decide +kernel)
theorem mm_167 : Cond.instanceMethod y_It_at ∈ tb := tb_at 167 (by decide +kernel) (by decide +kernel)
theorem mm_168 : Cond.selects R_It y_It_at y_It_at ∈ tb := tb_at 168 (by decide +kernel) (by decide +kernel)
theorem mm_169 : wc_It_at ∈ tb := tb_at 169 (by decide +kernel) (by decide +kernel)
theorem mm_170 : Cond.methodLink R_Pa 61 y_Pa_cost ∈ tb := tb_at 170 (by decide +kernel) (by decide +kernel)
theorem mm_172 : Cond.instanceMethod y_Pa_cost ∈ tb := tb_at 172 (by decide +kernel) (by decide +kernel)
theorem mm_173 : wc_Pa_cost ∈ tb := tb_at 173 (by decide +kernel) (by decide +kernel)
theorem mm_174 : Cond.methodLink R_Pa 68 y_Se_pairOf ∈ tb := tb_at 174 (by decide +kernel) (by decide +kernel)
theorem mm_175 : Cond.static y_Se_pairOf ∈ tb := tb_at 175 (by decide +kernel) (by decide +kernel)
theorem mm_176 : wc_Se_pairOf ∈ tb := tb_at 176 (by decide +kernel) (by decide +kernel)
theorem mm_177 : Cond.methodLink R_Se 11 y_Se_isFigure ∈ tb := tb_at 177 (by decide +kernel) (by decide +kernel)
theorem mm_178 : Cond.static y_Se_isFigure ∈ tb := tb_at 178 (by decide +kernel) (by decide +kernel)
theorem mm_179 : wc_Se_isFigure ∈ tb := tb_at 179 (by decide +kernel) (by decide +kernel)
theorem mm_180 : Cond.methodLink R_Pa 71 y_Se_symbolOf ∈ tb := tb_at 180 (by decide +kernel) (by decide +kernel)
theorem mm_181 : Cond.static y_Se_symbolOf ∈ tb := tb_at 181 (by decide +kernel) (by decide +kernel)
theorem mm_182 : wc_Se_symbolOf ∈ tb := tb_at 182 (by decide +kernel) (by decide +kernel)
theorem mm_183 : Cond.methodLink R_Pa 52 y_Pa_setCost ∈ tb := tb_at 183 (by decide +kernel) (by decide +kernel)
theorem mm_185 : Cond.instanceMethod y_Pa_setCost ∈ tb := tb_at 185 (by decide +kernel) (by decide +kernel)
theorem mm_186 : wc_Pa_setCost ∈ tb := tb_at 186 (by decide +kernel) (by decide +kernel)
theorem mm_187 : Cond.methodLink R_Pa 56 Lib.Math.min.name ∈ tb := tb_at 187 (by decide +kernel) (by decide +kernel)
theorem mm_188 : Cond.static Lib.Math.min.name ∈ tb := tb_at 188 (by decide +kernel) (by decide +kernel)
theorem mm_189 : Cond.code Lib.Math.min.name Lib.Math.min.code 2 (some .int) ∈ tb := tb_at 189 (by decide +kernel) (by decide +kernel)
theorem mm_190 : Cond.methodLink R_Pa 34 y_It_empty ∈ tb := tb_at 190 (by decide +kernel) (by decide +kernel)
theorem mm_191 : Cond.methodLink R_Pa 37 y_Pa_addSymbols ∈ tb := tb_at 191 (by decide +kernel) (by decide +kernel)
theorem mm_193 : Cond.instanceMethod y_Pa_addSymbols ∈ tb := tb_at 193 (by decide +kernel) (by decide +kernel)
theorem mm_194 : wc_Pa_addSymbols ∈ tb := tb_at 194 (by decide +kernel) (by decide +kernel)
theorem mm_195 : Cond.methodLink R_Pa 74 y_Pa_cheapestFirstSet ∈ tb := tb_at 195 (by decide +kernel) (by decide +kernel)
theorem mm_197 : Cond.instanceMethod y_Pa_cheapestFirstSet ∈ tb := tb_at 197 (by decide +kernel) (by decide +kernel)
theorem mm_198 : wc_Pa_cheapestFirstSet ∈ tb := tb_at 198 (by decide +kernel) (by decide +kernel)
theorem mm_199 : Cond.methodLink R_Pa 77 y_Se_firstOf ∈ tb := tb_at 199 (by decide +kernel) (by decide +kernel)
theorem mm_200 : Cond.static y_Se_firstOf ∈ tb := tb_at 200 (by decide +kernel) (by decide +kernel)
theorem mm_201 : wc_Se_firstOf ∈ tb := tb_at 201 (by decide +kernel) (by decide +kernel)
theorem mm_202 : Cond.methodLink R_Pa 43 y_It_add ∈ tb := tb_at 202 (by decide +kernel) (by decide +kernel)
theorem mm_203 : Cond.instanceMethod y_It_add ∈ tb := tb_at 203 (by decide +kernel) (by decide +kernel)
theorem mm_204 : Cond.selects R_It y_It_add y_It_add ∈ tb := tb_at 204 (by decide +kernel) (by decide +kernel)
theorem mm_205 : wc_It_add ∈ tb := tb_at 205 (by decide +kernel) (by decide +kernel)
theorem mm_206 : Cond.methodLink R_Pa 80 y_Pa_nextSet ∈ tb := tb_at 206 (by decide +kernel) (by decide +kernel)
theorem mm_208 : Cond.instanceMethod y_Pa_nextSet ∈ tb := tb_at 208 (by decide +kernel) (by decide +kernel)
theorem mm_209 : wc_Pa_nextSet ∈ tb := tb_at 209 (by decide +kernel) (by decide +kernel)
theorem mm_210 : Cond.methodLink R_Pa 83 y_Pa_addTold ∈ tb := tb_at 210 (by decide +kernel) (by decide +kernel)
theorem mm_212 : Cond.instanceMethod y_Pa_addTold ∈ tb := tb_at 212 (by decide +kernel) (by decide +kernel)
theorem mm_213 : wc_Pa_addTold ∈ tb := tb_at 213 (by decide +kernel) (by decide +kernel)
theorem mm_214 : Cond.methodLink R_Pa 89 y_Se_otherOfAB ∈ tb := tb_at 214 (by decide +kernel) (by decide +kernel)
theorem mm_215 : Cond.static y_Se_otherOfAB ∈ tb := tb_at 215 (by decide +kernel) (by decide +kernel)
theorem mm_216 : wc_Se_otherOfAB ∈ tb := tb_at 216 (by decide +kernel) (by decide +kernel)
theorem mm_217 : Cond.methodLink R_Pa 86 y_Se_switchTo ∈ tb := tb_at 217 (by decide +kernel) (by decide +kernel)
theorem mm_218 : Cond.static y_Se_switchTo ∈ tb := tb_at 218 (by decide +kernel) (by decide +kernel)
theorem mm_219 : wc_Se_switchTo ∈ tb := tb_at 219 (by decide +kernel) (by decide +kernel)
theorem mm_220 : Cond.methodLink R_Pa 40 y_Pa_checkSymbol ∈ tb := tb_at 220 (by decide +kernel) (by decide +kernel)
theorem mm_222 : Cond.instanceMethod y_Pa_checkSymbol ∈ tb := tb_at 222 (by decide +kernel) (by decide +kernel)
theorem mm_223 : wc_Pa_checkSymbol ∈ tb := tb_at 223 (by decide +kernel) (by decide +kernel)
theorem mm_224 : Cond.methodLink R_Lc 69 y_It_count ∈ tb := tb_at 224 (by decide +kernel) (by decide +kernel)
theorem mm_229 : Cond.methodLink R_Lc 72 y_It_at ∈ tb := tb_at 229 (by decide +kernel) (by decide +kernel)
theorem mm_242 : Cond.methodLink R_Lc 128 y_It_reverse ∈ tb := tb_at 242 (by decide +kernel) (by decide +kernel)
theorem mm_243 : Cond.instanceMethod y_It_reverse ∈ tb := tb_at 243 (by decide +kernel) (by decide +kernel)
theorem mm_244 : Cond.selects R_It y_It_reverse y_It_reverse ∈ tb := tb_at 244 (by decide +kernel) (by decide +kernel)
theorem mm_245 : wc_It_reverse ∈ tb := tb_at 245 (by decide +kernel) (by decide +kernel)
theorem mm_246 : Cond.methodLink R_It 25 y_It_at ∈ tb := tb_at 246 (by decide +kernel) (by decide +kernel)
theorem mm_247 : Cond.methodLink R_It 29 y_It_replace ∈ tb := tb_at 247 (by decide +kernel) (by decide +kernel)
theorem mm_248 : Cond.instanceMethod y_It_replace ∈ tb := tb_at 248 (by decide +kernel) (by decide +kernel)
theorem mm_249 : Cond.selects R_It y_It_replace y_It_replace ∈ tb := tb_at 249 (by decide +kernel) (by decide +kernel)
theorem mm_250 : wc_It_replace ∈ tb := tb_at 250 (by decide +kernel) (by decide +kernel)
theorem mm_255 : Cond.methodLink R_Lc 131 y_Re_isReadable ∈ tb := tb_at 255 (by decide +kernel) (by decide +kernel)
theorem mm_256 : Cond.instanceMethod y_Re_isReadable ∈ tb := tb_at 256 (by decide +kernel) (by decide +kernel)
theorem mm_257 : Cond.selects R_Re y_Re_isReadable y_Re_isReadable ∈ tb := tb_at 257 (by decide +kernel) (by decide +kernel)
theorem mm_258 : wc_Re_isReadable ∈ tb := tb_at 258 (by decide +kernel) (by decide +kernel)
theorem mm_259 : Cond.methodLink R_Re 44 y_It_empty ∈ tb := tb_at 259 (by decide +kernel) (by decide +kernel)
theorem mm_260 : Cond.methodLink R_Re 36 y_It_count ∈ tb := tb_at 260 (by decide +kernel) (by decide +kernel)
theorem mm_261 : Cond.methodLink R_Re 47 y_Re_isThirteen ∈ tb := tb_at 261 (by decide +kernel) (by decide +kernel)
theorem mm_263 : Cond.instanceMethod y_Re_isThirteen ∈ tb := tb_at 263 (by decide +kernel) (by decide +kernel)
theorem mm_264 : wc_Re_isThirteen ∈ tb := tb_at 264 (by decide +kernel) (by decide +kernel)
theorem mm_265 : Cond.methodLink R_Re 54 y_Re_areSidesAndMiddleRight ∈ tb := tb_at 265 (by decide +kernel) (by decide +kernel)
theorem mm_267 : Cond.instanceMethod y_Re_areSidesAndMiddleRight ∈ tb := tb_at 267 (by decide +kernel) (by decide +kernel)
theorem mm_268 : wc_Re_areSidesAndMiddleRight ∈ tb := tb_at 268 (by decide +kernel) (by decide +kernel)
theorem mm_269 : Cond.methodLink R_Re 68 y_Re_sumOf ∈ tb := tb_at 269 (by decide +kernel) (by decide +kernel)
theorem mm_271 : Cond.instanceMethod y_Re_sumOf ∈ tb := tb_at 271 (by decide +kernel) (by decide +kernel)
theorem mm_272 : wc_Re_sumOf ∈ tb := tb_at 272 (by decide +kernel) (by decide +kernel)
theorem mm_273 : Cond.methodLink R_Re 40 y_It_at ∈ tb := tb_at 273 (by decide +kernel) (by decide +kernel)
theorem mm_274 : Cond.methodLink R_Re 74 y_Re_countsOf ∈ tb := tb_at 274 (by decide +kernel) (by decide +kernel)
theorem mm_276 : Cond.instanceMethod y_Re_countsOf ∈ tb := tb_at 276 (by decide +kernel) (by decide +kernel)
theorem mm_277 : wc_Re_countsOf ∈ tb := tb_at 277 (by decide +kernel) (by decide +kernel)
theorem mm_278 : Cond.methodLink R_Re 57 y_Re_isLeftHalf ∈ tb := tb_at 278 (by decide +kernel) (by decide +kernel)
theorem mm_280 : Cond.instanceMethod y_Re_isLeftHalf ∈ tb := tb_at 280 (by decide +kernel) (by decide +kernel)
theorem mm_281 : wc_Re_isLeftHalf ∈ tb := tb_at 281 (by decide +kernel) (by decide +kernel)
theorem mm_282 : Cond.methodLink R_Re 78 y_It_add ∈ tb := tb_at 282 (by decide +kernel) (by decide +kernel)
theorem mm_283 : Cond.methodLink R_Re 82 y_Re_figureCountsAt ∈ tb := tb_at 283 (by decide +kernel) (by decide +kernel)
theorem mm_285 : Cond.instanceMethod y_Re_figureCountsAt ∈ tb := tb_at 285 (by decide +kernel) (by decide +kernel)
theorem mm_286 : wc_Re_figureCountsAt ∈ tb := tb_at 286 (by decide +kernel) (by decide +kernel)
theorem mm_287 : Cond.methodLink R_Re 85 y_Wi_figureWith ∈ tb := tb_at 287 (by decide +kernel) (by decide +kernel)
theorem mm_288 : Cond.static y_Wi_figureWith ∈ tb := tb_at 288 (by decide +kernel) (by decide +kernel)
theorem mm_289 : wc_Wi_figureWith ∈ tb := tb_at 289 (by decide +kernel) (by decide +kernel)
theorem mm_290 : Cond.fieldLink R_Wi 22 "LineCodes$Widths" "FIGURES" "[I" ∈ tb := tb_at 290 (by decide +kernel) (by decide +kernel)
theorem mm_292 : Cond.methodLink R_Wi 28 y_Wi_placeOf ∈ tb := tb_at 292 (by decide +kernel) (by decide +kernel)
theorem mm_293 : Cond.static y_Wi_placeOf ∈ tb := tb_at 293 (by decide +kernel) (by decide +kernel)
theorem mm_294 : wc_Wi_placeOf ∈ tb := tb_at 294 (by decide +kernel) (by decide +kernel)
theorem mm_295 : Cond.methodLink R_Re 88 y_Wi_turned ∈ tb := tb_at 295 (by decide +kernel) (by decide +kernel)
theorem mm_296 : Cond.static y_Wi_turned ∈ tb := tb_at 296 (by decide +kernel) (by decide +kernel)
theorem mm_297 : wc_Wi_turned ∈ tb := tb_at 297 (by decide +kernel) (by decide +kernel)
theorem mm_298 : Cond.methodLink R_Re 91 y_Wi_firstFigureWith ∈ tb := tb_at 298 (by decide +kernel) (by decide +kernel)
theorem mm_299 : Cond.static y_Wi_firstFigureWith ∈ tb := tb_at 299 (by decide +kernel) (by decide +kernel)
theorem mm_300 : wc_Wi_firstFigureWith ∈ tb := tb_at 300 (by decide +kernel) (by decide +kernel)
theorem mm_301 : Cond.fieldLink R_Wi 25 "LineCodes$Widths" "TURNS" "[I" ∈ tb := tb_at 301 (by decide +kernel) (by decide +kernel)
theorem mm_303 : Cond.methodLink R_Re 94 y_It_replace ∈ tb := tb_at 303 (by decide +kernel) (by decide +kernel)
theorem mm_304 : Cond.methodLink R_Re 60 y_Re_isRightHalf ∈ tb := tb_at 304 (by decide +kernel) (by decide +kernel)
theorem mm_306 : Cond.instanceMethod y_Re_isRightHalf ∈ tb := tb_at 306 (by decide +kernel) (by decide +kernel)
theorem mm_307 : wc_Re_isRightHalf ∈ tb := tb_at 307 (by decide +kernel) (by decide +kernel)
theorem mm_308 : Cond.methodLink R_Re 65 y_Fi_weightOf ∈ tb := tb_at 308 (by decide +kernel) (by decide +kernel)
theorem mm_309 : Cond.static y_Fi_weightOf ∈ tb := tb_at 309 (by decide +kernel) (by decide +kernel)
theorem mm_310 : wc_Fi_weightOf ∈ tb := tb_at 310 (by decide +kernel) (by decide +kernel)
theorem mm_311 : Cond.methodLink R_Re 51 y_Re_isRow ∈ tb := tb_at 311 (by decide +kernel) (by decide +kernel)
theorem mm_313 : Cond.instanceMethod y_Re_isRow ∈ tb := tb_at 313 (by decide +kernel) (by decide +kernel)
theorem mm_314 : wc_Re_isRow ∈ tb := tb_at 314 (by decide +kernel) (by decide +kernel)
theorem mm_315 : Cond.methodLink R_Re 97 y_Re_isLastAt ∈ tb := tb_at 315 (by decide +kernel) (by decide +kernel)
theorem mm_317 : Cond.instanceMethod y_Re_isLastAt ∈ tb := tb_at 317 (by decide +kernel) (by decide +kernel)
theorem mm_318 : wc_Re_isLastAt ∈ tb := tb_at 318 (by decide +kernel) (by decide +kernel)
theorem mm_319 : Cond.constant R_Re 124 2331112 ∈ tb := tb_at 319 (by decide +kernel) (by decide +kernel)
theorem mm_320 : Cond.methodLink R_Re 100 y_Re_symbolAt ∈ tb := tb_at 320 (by decide +kernel) (by decide +kernel)
theorem mm_322 : Cond.instanceMethod y_Re_symbolAt ∈ tb := tb_at 322 (by decide +kernel) (by decide +kernel)
theorem mm_323 : wc_Re_symbolAt ∈ tb := tb_at 323 (by decide +kernel) (by decide +kernel)
theorem mm_324 : Cond.methodLink R_Re 121 y_Wi_symbolWith ∈ tb := tb_at 324 (by decide +kernel) (by decide +kernel)
theorem mm_325 : Cond.static y_Wi_symbolWith ∈ tb := tb_at 325 (by decide +kernel) (by decide +kernel)
theorem mm_326 : wc_Wi_symbolWith ∈ tb := tb_at 326 (by decide +kernel) (by decide +kernel)
theorem mm_327 : Cond.fieldLink R_Wi 14 "LineCodes$Widths" "SYMBOLS" "[I" ∈ tb := tb_at 327 (by decide +kernel) (by decide +kernel)
theorem mm_329 : Cond.methodLink R_Re 103 y_Se_isFirst ∈ tb := tb_at 329 (by decide +kernel) (by decide +kernel)
theorem mm_330 : Cond.static y_Se_isFirst ∈ tb := tb_at 330 (by decide +kernel) (by decide +kernel)
theorem mm_331 : wc_Se_isFirst ∈ tb := tb_at 331 (by decide +kernel) (by decide +kernel)
theorem mm_332 : Cond.methodLink R_Re 106 y_Re_isTold ∈ tb := tb_at 332 (by decide +kernel) (by decide +kernel)
theorem mm_334 : Cond.instanceMethod y_Re_isTold ∈ tb := tb_at 334 (by decide +kernel) (by decide +kernel)
theorem mm_335 : wc_Re_isTold ∈ tb := tb_at 335 (by decide +kernel) (by decide +kernel)
theorem mm_336 : Cond.methodLink R_Re 109 y_Se_otherOfAB ∈ tb := tb_at 336 (by decide +kernel) (by decide +kernel)
theorem mm_337 : Cond.methodLink R_Re 112 y_Se_signOf ∈ tb := tb_at 337 (by decide +kernel) (by decide +kernel)
theorem mm_338 : Cond.static y_Se_signOf ∈ tb := tb_at 338 (by decide +kernel) (by decide +kernel)
theorem mm_339 : wc_Se_signOf ∈ tb := tb_at 339 (by decide +kernel) (by decide +kernel)
theorem mm_340 : Cond.methodLink R_Re 115 y_Re_isSwitched ∈ tb := tb_at 340 (by decide +kernel) (by decide +kernel)
theorem mm_342 : Cond.instanceMethod y_Re_isSwitched ∈ tb := tb_at 342 (by decide +kernel) (by decide +kernel)
theorem mm_343 : wc_Re_isSwitched ∈ tb := tb_at 343 (by decide +kernel) (by decide +kernel)
theorem mm_344 : Cond.methodLink R_Re 118 y_Se_setAfter ∈ tb := tb_at 344 (by decide +kernel) (by decide +kernel)
theorem mm_345 : Cond.static y_Se_setAfter ∈ tb := tb_at 345 (by decide +kernel) (by decide +kernel)
theorem mm_346 : wc_Se_setAfter ∈ tb := tb_at 346 (by decide +kernel) (by decide +kernel)
theorem mm_347 : Cond.methodLink R_Lc 135 y_Re_toldCount ∈ tb := tb_at 347 (by decide +kernel) (by decide +kernel)
theorem mm_348 : Cond.instanceMethod y_Re_toldCount ∈ tb := tb_at 348 (by decide +kernel) (by decide +kernel)
theorem mm_349 : Cond.selects R_Re y_Re_toldCount y_Re_toldCount ∈ tb := tb_at 349 (by decide +kernel) (by decide +kernel)
theorem mm_350 : wc_Re_toldCount ∈ tb := tb_at 350 (by decide +kernel) (by decide +kernel)
theorem mm_355 : Cond.methodLink R_Lc 138 y_Re_toldAt ∈ tb := tb_at 355 (by decide +kernel) (by decide +kernel)
theorem mm_356 : Cond.instanceMethod y_Re_toldAt ∈ tb := tb_at 356 (by decide +kernel) (by decide +kernel)
theorem mm_357 : Cond.selects R_Re y_Re_toldAt y_Re_toldAt ∈ tb := tb_at 357 (by decide +kernel) (by decide +kernel)
theorem mm_358 : wc_Re_toldAt ∈ tb := tb_at 358 (by decide +kernel) (by decide +kernel)
theorem mm_363 : Cond.methodLink R_Lc 141 y_Re_isFromBack ∈ tb := tb_at 363 (by decide +kernel) (by decide +kernel)
theorem mm_364 : Cond.instanceMethod y_Re_isFromBack ∈ tb := tb_at 364 (by decide +kernel) (by decide +kernel)
theorem mm_365 : Cond.selects R_Re y_Re_isFromBack y_Re_isFromBack ∈ tb := tb_at 365 (by decide +kernel) (by decide +kernel)
theorem mm_366 : wc_Re_isFromBack ∈ tb := tb_at 366 (by decide +kernel) (by decide +kernel)
theorem mm_375 : Cond.methodLink R_Lc 42 y_Lc_refuseByteCount ∈ tb := tb_at 375 (by decide +kernel) (by decide +kernel)
theorem mm_376 : Cond.static y_Lc_refuseByteCount ∈ tb := tb_at 376 (by decide +kernel) (by decide +kernel)
theorem mm_377 : wc_Lc_refuseByteCount ∈ tb := tb_at 377 (by decide +kernel) (by decide +kernel)
theorem mm_446 : Cond.methodLink R_Lc 45 y_Lc_byteOf ∈ tb := tb_at 446 (by decide +kernel) (by decide +kernel)
theorem mm_447 : Cond.static y_Lc_byteOf ∈ tb := tb_at 447 (by decide +kernel) (by decide +kernel)
theorem mm_448 : wc_Lc_byteOf ∈ tb := tb_at 448 (by decide +kernel) (by decide +kernel)
theorem mm_449 : Cond.constantLong R_Lc 153 255 ∈ tb := tb_at 449 (by decide +kernel) (by decide +kernel)
theorem mm_451 : Cond.methodLink R_Lc 58 y_Lc_addBytes ∈ tb := tb_at 451 (by decide +kernel) (by decide +kernel)
theorem mm_452 : Cond.static y_Lc_addBytes ∈ tb := tb_at 452 (by decide +kernel) (by decide +kernel)
theorem mm_453 : wc_Lc_addBytes ∈ tb := tb_at 453 (by decide +kernel) (by decide +kernel)
theorem mm_454 : Cond.methodLink R_Lc 155 y_It_hasRoomFor ∈ tb := tb_at 454 (by decide +kernel) (by decide +kernel)
theorem mm_455 : Cond.instanceMethod y_It_hasRoomFor ∈ tb := tb_at 455 (by decide +kernel) (by decide +kernel)
theorem mm_456 : Cond.selects R_It y_It_hasRoomFor y_It_hasRoomFor ∈ tb := tb_at 456 (by decide +kernel) (by decide +kernel)
theorem mm_457 : wc_It_hasRoomFor ∈ tb := tb_at 457 (by decide +kernel) (by decide +kernel)
theorem mm_458 : Cond.methodLink R_Lc 159 y_It_add ∈ tb := tb_at 458 (by decide +kernel) (by decide +kernel)
theorem mm_467 : Cond.methodLink R_Lc 76 y_Lc_refuseModule ∈ tb := tb_at 467 (by decide +kernel) (by decide +kernel)
theorem mm_468 : Cond.static y_Lc_refuseModule ∈ tb := tb_at 468 (by decide +kernel) (by decide +kernel)
theorem mm_469 : wc_Lc_refuseModule ∈ tb := tb_at 469 (by decide +kernel) (by decide +kernel)
theorem mm_487 : Cond.methodLink R_Lc 84 y_Wi_ofSymbol ∈ tb := tb_at 487 (by decide +kernel) (by decide +kernel)
theorem mm_488 : Cond.static y_Wi_ofSymbol ∈ tb := tb_at 488 (by decide +kernel) (by decide +kernel)
theorem mm_489 : wc_Wi_ofSymbol ∈ tb := tb_at 489 (by decide +kernel) (by decide +kernel)
theorem mm_490 : Cond.constant R_Wi 13 2331112 ∈ tb := tb_at 490 (by decide +kernel) (by decide +kernel)
theorem mm_491 : Cond.methodLink R_Wi 18 y_Wi_entry ∈ tb := tb_at 491 (by decide +kernel) (by decide +kernel)
theorem mm_492 : Cond.static y_Wi_entry ∈ tb := tb_at 492 (by decide +kernel) (by decide +kernel)
theorem mm_493 : wc_Wi_entry ∈ tb := tb_at 493 (by decide +kernel) (by decide +kernel)
theorem mm_494 : Cond.methodLink R_Lc 89 y_Lc_addWidths ∈ tb := tb_at 494 (by decide +kernel) (by decide +kernel)
theorem mm_496 : Cond.instanceMethod y_Lc_addWidths ∈ tb := tb_at 496 (by decide +kernel) (by decide +kernel)
theorem mm_497 : wc_Lc_addWidths ∈ tb := tb_at 497 (by decide +kernel) (by decide +kernel)
theorem mm_498 : Cond.constant R_Lc 162 1000000 ∈ tb := tb_at 498 (by decide +kernel) (by decide +kernel)
theorem mm_506 : Cond.methodLink R_Lc 93 y_Lc_refuseTwelve ∈ tb := tb_at 506 (by decide +kernel) (by decide +kernel)
theorem mm_507 : Cond.static y_Lc_refuseTwelve ∈ tb := tb_at 507 (by decide +kernel) (by decide +kernel)
theorem mm_508 : wc_Lc_refuseTwelve ∈ tb := tb_at 508 (by decide +kernel) (by decide +kernel)
theorem mm_509 : Cond.constantLong R_Lc 149 999999999999 ∈ tb := tb_at 509 (by decide +kernel) (by decide +kernel)
theorem mm_511 : Cond.methodLink R_Lc 97 y_Fi_checkOf ∈ tb := tb_at 511 (by decide +kernel) (by decide +kernel)
theorem mm_512 : Cond.static y_Fi_checkOf ∈ tb := tb_at 512 (by decide +kernel) (by decide +kernel)
theorem mm_513 : wc_Fi_checkOf ∈ tb := tb_at 513 (by decide +kernel) (by decide +kernel)
theorem mm_514 : Cond.methodLink R_Fi 11 y_Fi_weightOf ∈ tb := tb_at 514 (by decide +kernel) (by decide +kernel)
theorem mm_515 : Cond.methodLink R_Fi 15 y_Fi_figureOf ∈ tb := tb_at 515 (by decide +kernel) (by decide +kernel)
theorem mm_516 : Cond.static y_Fi_figureOf ∈ tb := tb_at 516 (by decide +kernel) (by decide +kernel)
theorem mm_517 : wc_Fi_figureOf ∈ tb := tb_at 517 (by decide +kernel) (by decide +kernel)
theorem mm_518 : Cond.constantLong R_Fi 9 10 ∈ tb := tb_at 518 (by decide +kernel) (by decide +kernel)
theorem mm_526 : Cond.methodLink R_Lc 103 y_Fi_figureOf ∈ tb := tb_at 526 (by decide +kernel) (by decide +kernel)
theorem mm_527 : Cond.methodLink R_Lc 106 y_Wi_turnsOf ∈ tb := tb_at 527 (by decide +kernel) (by decide +kernel)
theorem mm_528 : Cond.static y_Wi_turnsOf ∈ tb := tb_at 528 (by decide +kernel) (by decide +kernel)
theorem mm_529 : wc_Wi_turnsOf ∈ tb := tb_at 529 (by decide +kernel) (by decide +kernel)
theorem mm_530 : Cond.methodLink R_Lc 109 y_Wi_ofFigure ∈ tb := tb_at 530 (by decide +kernel) (by decide +kernel)
theorem mm_531 : Cond.static y_Wi_ofFigure ∈ tb := tb_at 531 (by decide +kernel) (by decide +kernel)
theorem mm_532 : wc_Wi_ofFigure ∈ tb := tb_at 532 (by decide +kernel) (by decide +kernel)
theorem mm_533 : Cond.methodLink R_Lc 112 y_Wi_turned ∈ tb := tb_at 533 (by decide +kernel) (by decide +kernel)
theorem mm_567 : Cond.methodLink R_Lc 124 y_It_replace ∈ tb := tb_at 567 (by decide +kernel) (by decide +kernel)
theorem mm_698 : Cond.laysFinal R_Md "LineCodesModel" "bars" "[I" ∈ tb := tb_at 698 (by decide +kernel) (by decide +kernel)
theorem mm_700 : Cond.laysFinal R_Md "LineCodesModel" "figures" "[I" ∈ tb := tb_at 700 (by decide +kernel) (by decide +kernel)
theorem mm_702 : Cond.laysFinal R_Md "LineCodesModel" "turns" "[I" ∈ tb := tb_at 702 (by decide +kernel) (by decide +kernel)
theorem mm_704 : Cond.lays R_Md "LineCodesModel" "thrown" "I" ∈ tb := tb_at 704 (by decide +kernel) (by decide +kernel)
theorem mm_706 : Cond.laysFinal R_Md "LineCodesModel" "text" "[I" ∈ tb := tb_at 706 (by decide +kernel) (by decide +kernel)
theorem mm_708 : Cond.lays R_Md "LineCodesModel" "length" "I" ∈ tb := tb_at 708 (by decide +kernel) (by decide +kernel)
theorem mm_710 : Cond.laysFinal R_Md "LineCodesModel" "least" "[I" ∈ tb := tb_at 710 (by decide +kernel) (by decide +kernel)
theorem mm_712 : Cond.laysFinal R_Md "LineCodesModel" "row" "[I" ∈ tb := tb_at 712 (by decide +kernel) (by decide +kernel)
theorem mm_714 : Cond.lays R_Md "LineCodesModel" "symbols" "I" ∈ tb := tb_at 714 (by decide +kernel) (by decide +kernel)
theorem mm_716 : Cond.laysFinal R_Md "LineCodesModel" "strip" "[I" ∈ tb := tb_at 716 (by decide +kernel) (by decide +kernel)
theorem mm_718 : Cond.lays R_Md "LineCodesModel" "widths" "I" ∈ tb := tb_at 718 (by decide +kernel) (by decide +kernel)
theorem mm_720 : Cond.laysFinal R_Md "LineCodesModel" "turned" "[I" ∈ tb := tb_at 720 (by decide +kernel) (by decide +kernel)
theorem mm_722 : Cond.laysFinal R_Md "LineCodesModel" "found" "[I" ∈ tb := tb_at 722 (by decide +kernel) (by decide +kernel)
theorem mm_724 : Cond.laysFinal R_Md "LineCodesModel" "signs" "[I" ∈ tb := tb_at 724 (by decide +kernel) (by decide +kernel)
theorem mm_726 : Cond.lays R_Md "LineCodesModel" "told" "I" ∈ tb := tb_at 726 (by decide +kernel) (by decide +kernel)
theorem mm_728 : Cond.lays R_Md "LineCodesModel" "back" "Z" ∈ tb := tb_at 728 (by decide +kernel) (by decide +kernel)
theorem mm_730 : Cond.laysFinal R_Md "LineCodesModel" "draft" "[I" ∈ tb := tb_at 730 (by decide +kernel) (by decide +kernel)
theorem mm_732 : Cond.lays R_Md "LineCodesModel" "drafted" "I" ∈ tb := tb_at 732 (by decide +kernel) (by decide +kernel)
theorem in_It : ∀ w ∈ u_ws R_It T_It 2, w ∈ tb := List.forall_mem_cons.mpr ⟨mm_75, List.forall_mem_cons.mpr ⟨mm_77, fun _ h => absurd h List.not_mem_nil⟩⟩
theorem in_Pa : ∀ w ∈ u_ws R_Pa T_Pa 3, w ∈ tb := List.forall_mem_cons.mpr ⟨mm_90, List.forall_mem_cons.mpr ⟨mm_92, List.forall_mem_cons.mpr ⟨mm_94, fun _ h => absurd h List.not_mem_nil⟩⟩⟩
theorem in_Re : ∀ w ∈ u_ws R_Re T_Re 5, w ∈ tb := List.forall_mem_cons.mpr ⟨mm_110, List.forall_mem_cons.mpr ⟨mm_112, List.forall_mem_cons.mpr ⟨mm_114, List.forall_mem_cons.mpr ⟨mm_116, List.forall_mem_cons.mpr ⟨mm_118, fun _ h => absurd h List.not_mem_nil⟩⟩⟩⟩⟩
theorem in_Lc : ∀ w ∈ u_ws R_Lc T_Lc 5, w ∈ tb := List.forall_mem_cons.mpr ⟨mm_126, List.forall_mem_cons.mpr ⟨mm_128, List.forall_mem_cons.mpr ⟨mm_130, List.forall_mem_cons.mpr ⟨mm_132, List.forall_mem_cons.mpr ⟨mm_134, fun _ h => absurd h List.not_mem_nil⟩⟩⟩⟩⟩
theorem in_Md : ∀ w ∈ u_ws R_Md T_Md 18, w ∈ tb := List.forall_mem_cons.mpr ⟨mm_698, List.forall_mem_cons.mpr ⟨mm_700, List.forall_mem_cons.mpr ⟨mm_702, List.forall_mem_cons.mpr ⟨mm_704, List.forall_mem_cons.mpr ⟨mm_706, List.forall_mem_cons.mpr ⟨mm_708, List.forall_mem_cons.mpr ⟨mm_710, List.forall_mem_cons.mpr ⟨mm_712, List.forall_mem_cons.mpr ⟨mm_714, List.forall_mem_cons.mpr ⟨mm_716, List.forall_mem_cons.mpr ⟨mm_718, List.forall_mem_cons.mpr ⟨mm_720, List.forall_mem_cons.mpr ⟨mm_722, List.forall_mem_cons.mpr ⟨mm_724, List.forall_mem_cons.mpr ⟨mm_726, List.forall_mem_cons.mpr ⟨mm_728, List.forall_mem_cons.mpr ⟨mm_730, List.forall_mem_cons.mpr ⟨mm_732, fun _ h => absurd h List.not_mem_nil⟩⟩⟩⟩⟩⟩⟩⟩⟩⟩⟩⟩⟩⟩⟩⟩⟩⟩
end
section
theorem d_It_init_0 : decode c_It_init 0 = .ok (.aload_n 0, 1) := by decide +kernel
theorem d_It_init_1 : decode c_It_init 1 = .ok (.invokespecial 3, 3) := by decide +kernel
theorem d_It_init_4 : decode c_It_init 4 = .ok (.aload_n 0, 1) := by decide +kernel
theorem d_It_init_5 : decode c_It_init 5 = .ok (.iload_n 1, 1) := by decide +kernel
theorem d_It_init_6 : decode c_It_init 6 = .ok (.iconst 0, 1) := by decide +kernel
theorem d_It_init_7 : decode c_It_init 7 = .ok (.invokestatic 9, 3) := by decide +kernel
theorem d_It_init_10 : decode c_It_init 10 = .ok (.newarray .int, 2) := by decide +kernel
theorem d_It_init_12 : decode c_It_init 12 = .ok (.putfield 15, 3) := by decide +kernel
theorem d_It_init_15 : decode c_It_init 15 = .ok (.aload_n 0, 1) := by decide +kernel
theorem d_It_init_16 : decode c_It_init 16 = .ok (.iconst 0, 1) := by decide +kernel
theorem d_It_init_17 : decode c_It_init 17 = .ok (.putfield 21, 3) := by decide +kernel
theorem d_It_init_20 : decode c_It_init 20 = .ok (.return_, 1) := by decide +kernel
theorem d_It_count_0 : decode c_It_count 0 = .ok (.aload_n 0, 1) := by decide +kernel
theorem d_It_count_1 : decode c_It_count 1 = .ok (.getfield 21, 3) := by decide +kernel
theorem d_It_count_4 : decode c_It_count 4 = .ok (.ireturn, 1) := by decide +kernel
theorem d_It_hasRoomFor_0 : decode c_It_hasRoomFor 0 = .ok (.iload_n 1, 1) := by decide +kernel
theorem d_It_hasRoomFor_1 : decode c_It_hasRoomFor 1 = .ok (.aload_n 0, 1) := by decide +kernel
theorem d_It_hasRoomFor_2 : decode c_It_hasRoomFor 2 = .ok (.getfield 15, 3) := by decide +kernel
theorem d_It_hasRoomFor_5 : decode c_It_hasRoomFor 5 = .ok (.arraylength, 1) := by decide +kernel
theorem d_It_hasRoomFor_6 : decode c_It_hasRoomFor 6 = .ok (.aload_n 0, 1) := by decide +kernel
theorem d_It_hasRoomFor_7 : decode c_It_hasRoomFor 7 = .ok (.getfield 21, 3) := by decide +kernel
theorem d_It_hasRoomFor_10 : decode c_It_hasRoomFor 10 = .ok (.isub, 1) := by decide +kernel
theorem d_It_hasRoomFor_11 : decode c_It_hasRoomFor 11 = .ok (.if_icmp .gt 7, 3) := by decide +kernel
theorem d_It_hasRoomFor_14 : decode c_It_hasRoomFor 14 = .ok (.iconst 1, 1) := by decide +kernel
theorem d_It_hasRoomFor_15 : decode c_It_hasRoomFor 15 = .ok (.goto 4, 3) := by decide +kernel
theorem d_It_hasRoomFor_18 : decode c_It_hasRoomFor 18 = .ok (.iconst 0, 1) := by decide +kernel
theorem d_It_hasRoomFor_19 : decode c_It_hasRoomFor 19 = .ok (.ireturn, 1) := by decide +kernel
theorem d_It_at_0 : decode c_It_at 0 = .ok (.iload_n 1, 1) := by decide +kernel
theorem d_It_at_1 : decode c_It_at 1 = .ok (.ifCond .lt 29, 3) := by decide +kernel
theorem d_It_at_4 : decode c_It_at 4 = .ok (.iload_n 1, 1) := by decide +kernel
theorem d_It_at_5 : decode c_It_at 5 = .ok (.aload_n 0, 1) := by decide +kernel
theorem d_It_at_6 : decode c_It_at 6 = .ok (.getfield 21, 3) := by decide +kernel
theorem d_It_at_9 : decode c_It_at 9 = .ok (.if_icmp .ge 21, 3) := by decide +kernel
theorem d_It_at_12 : decode c_It_at 12 = .ok (.iload_n 1, 1) := by decide +kernel
theorem d_It_at_13 : decode c_It_at 13 = .ok (.aload_n 0, 1) := by decide +kernel
theorem d_It_at_14 : decode c_It_at 14 = .ok (.getfield 15, 3) := by decide +kernel
theorem d_It_at_17 : decode c_It_at 17 = .ok (.arraylength, 1) := by decide +kernel
theorem d_It_at_18 : decode c_It_at 18 = .ok (.if_icmp .ge 12, 3) := by decide +kernel
theorem d_It_at_21 : decode c_It_at 21 = .ok (.aload_n 0, 1) := by decide +kernel
theorem d_It_at_22 : decode c_It_at 22 = .ok (.getfield 15, 3) := by decide +kernel
theorem d_It_at_25 : decode c_It_at 25 = .ok (.iload_n 1, 1) := by decide +kernel
theorem d_It_at_26 : decode c_It_at 26 = .ok (.iaload, 1) := by decide +kernel
theorem d_It_at_27 : decode c_It_at 27 = .ok (.goto 4, 3) := by decide +kernel
theorem d_It_at_30 : decode c_It_at 30 = .ok (.iconst (-1), 1) := by decide +kernel
theorem d_It_at_31 : decode c_It_at 31 = .ok (.ireturn, 1) := by decide +kernel
theorem d_It_add_0 : decode c_It_add 0 = .ok (.aload_n 0, 1) := by decide +kernel
theorem d_It_add_1 : decode c_It_add 1 = .ok (.getfield 21, 3) := by decide +kernel
theorem d_It_add_4 : decode c_It_add 4 = .ok (.ifCond .lt 15, 3) := by decide +kernel
theorem d_It_add_7 : decode c_It_add 7 = .ok (.aload_n 0, 1) := by decide +kernel
theorem d_It_add_8 : decode c_It_add 8 = .ok (.getfield 21, 3) := by decide +kernel
theorem d_It_add_11 : decode c_It_add 11 = .ok (.aload_n 0, 1) := by decide +kernel
theorem d_It_add_12 : decode c_It_add 12 = .ok (.getfield 15, 3) := by decide +kernel
theorem d_It_add_15 : decode c_It_add 15 = .ok (.arraylength, 1) := by decide +kernel
theorem d_It_add_16 : decode c_It_add 16 = .ok (.if_icmp .lt 5, 3) := by decide +kernel
theorem d_It_add_19 : decode c_It_add 19 = .ok (.iconst 0, 1) := by decide +kernel
theorem d_It_add_20 : decode c_It_add 20 = .ok (.ireturn, 1) := by decide +kernel
theorem d_It_add_21 : decode c_It_add 21 = .ok (.aload_n 0, 1) := by decide +kernel
theorem d_It_add_22 : decode c_It_add 22 = .ok (.getfield 15, 3) := by decide +kernel
theorem d_It_add_25 : decode c_It_add 25 = .ok (.aload_n 0, 1) := by decide +kernel
theorem d_It_add_26 : decode c_It_add 26 = .ok (.getfield 21, 3) := by decide +kernel
theorem d_It_add_29 : decode c_It_add 29 = .ok (.iload_n 1, 1) := by decide +kernel
theorem d_It_add_30 : decode c_It_add 30 = .ok (.iastore, 1) := by decide +kernel
theorem d_It_add_31 : decode c_It_add 31 = .ok (.aload_n 0, 1) := by decide +kernel
theorem d_It_add_32 : decode c_It_add 32 = .ok (.dup, 1) := by decide +kernel
theorem d_It_add_33 : decode c_It_add 33 = .ok (.getfield 21, 3) := by decide +kernel
theorem d_It_add_36 : decode c_It_add 36 = .ok (.iconst 1, 1) := by decide +kernel
theorem d_It_add_37 : decode c_It_add 37 = .ok (.iadd, 1) := by decide +kernel
theorem d_It_add_38 : decode c_It_add 38 = .ok (.putfield 21, 3) := by decide +kernel
theorem d_It_add_41 : decode c_It_add 41 = .ok (.iconst 1, 1) := by decide +kernel
theorem d_It_add_42 : decode c_It_add 42 = .ok (.ireturn, 1) := by decide +kernel
theorem d_It_replace_0 : decode c_It_replace 0 = .ok (.iload_n 1, 1) := by decide +kernel
theorem d_It_replace_1 : decode c_It_replace 1 = .ok (.ifCond .lt 20, 3) := by decide +kernel
theorem d_It_replace_4 : decode c_It_replace 4 = .ok (.iload_n 1, 1) := by decide +kernel
theorem d_It_replace_5 : decode c_It_replace 5 = .ok (.aload_n 0, 1) := by decide +kernel
theorem d_It_replace_6 : decode c_It_replace 6 = .ok (.getfield 21, 3) := by decide +kernel
theorem d_It_replace_9 : decode c_It_replace 9 = .ok (.if_icmp .ge 12, 3) := by decide +kernel
theorem d_It_replace_12 : decode c_It_replace 12 = .ok (.iload_n 1, 1) := by decide +kernel
theorem d_It_replace_13 : decode c_It_replace 13 = .ok (.aload_n 0, 1) := by decide +kernel
theorem d_It_replace_14 : decode c_It_replace 14 = .ok (.getfield 15, 3) := by decide +kernel
theorem d_It_replace_17 : decode c_It_replace 17 = .ok (.arraylength, 1) := by decide +kernel
theorem d_It_replace_18 : decode c_It_replace 18 = .ok (.if_icmp .lt 5, 3) := by decide +kernel
theorem d_It_replace_21 : decode c_It_replace 21 = .ok (.iconst (-1), 1) := by decide +kernel
theorem d_It_replace_22 : decode c_It_replace 22 = .ok (.ireturn, 1) := by decide +kernel
theorem d_It_replace_23 : decode c_It_replace 23 = .ok (.aload_n 0, 1) := by decide +kernel
theorem d_It_replace_24 : decode c_It_replace 24 = .ok (.getfield 15, 3) := by decide +kernel
theorem d_It_replace_27 : decode c_It_replace 27 = .ok (.iload_n 1, 1) := by decide +kernel
theorem d_It_replace_28 : decode c_It_replace 28 = .ok (.iaload, 1) := by decide +kernel
theorem d_It_replace_29 : decode c_It_replace 29 = .ok (.istore_n 3, 1) := by decide +kernel
theorem d_It_replace_30 : decode c_It_replace 30 = .ok (.aload_n 0, 1) := by decide +kernel
theorem d_It_replace_31 : decode c_It_replace 31 = .ok (.getfield 15, 3) := by decide +kernel
theorem d_It_replace_34 : decode c_It_replace 34 = .ok (.iload_n 1, 1) := by decide +kernel
theorem d_It_replace_35 : decode c_It_replace 35 = .ok (.iload_n 2, 1) := by decide +kernel
theorem d_It_replace_36 : decode c_It_replace 36 = .ok (.iastore, 1) := by decide +kernel
theorem d_It_replace_37 : decode c_It_replace 37 = .ok (.iload_n 3, 1) := by decide +kernel
theorem d_It_replace_38 : decode c_It_replace 38 = .ok (.ireturn, 1) := by decide +kernel
theorem d_It_empty_0 : decode c_It_empty 0 = .ok (.aload_n 0, 1) := by decide +kernel
theorem d_It_empty_1 : decode c_It_empty 1 = .ok (.getfield 21, 3) := by decide +kernel
theorem d_It_empty_4 : decode c_It_empty 4 = .ok (.istore_n 1, 1) := by decide +kernel
theorem d_It_empty_5 : decode c_It_empty 5 = .ok (.aload_n 0, 1) := by decide +kernel
theorem d_It_empty_6 : decode c_It_empty 6 = .ok (.iconst 0, 1) := by decide +kernel
theorem d_It_empty_7 : decode c_It_empty 7 = .ok (.putfield 21, 3) := by decide +kernel
theorem d_It_empty_10 : decode c_It_empty 10 = .ok (.iload_n 1, 1) := by decide +kernel
theorem d_It_empty_11 : decode c_It_empty 11 = .ok (.ireturn, 1) := by decide +kernel
theorem d_It_reverse_0 : decode c_It_reverse 0 = .ok (.iconst 0, 1) := by decide +kernel
theorem d_It_reverse_1 : decode c_It_reverse 1 = .ok (.istore_n 1, 1) := by decide +kernel
theorem d_It_reverse_2 : decode c_It_reverse 2 = .ok (.iload_n 1, 1) := by decide +kernel
theorem d_It_reverse_3 : decode c_It_reverse 3 = .ok (.aload_n 0, 1) := by decide +kernel
theorem d_It_reverse_4 : decode c_It_reverse 4 = .ok (.getfield 21, 3) := by decide +kernel
theorem d_It_reverse_7 : decode c_It_reverse 7 = .ok (.iconst 2, 1) := by decide +kernel
theorem d_It_reverse_8 : decode c_It_reverse 8 = .ok (.idiv, 1) := by decide +kernel
theorem d_It_reverse_9 : decode c_It_reverse 9 = .ok (.if_icmp .ge 32, 3) := by decide +kernel
theorem d_It_reverse_12 : decode c_It_reverse 12 = .ok (.aload_n 0, 1) := by decide +kernel
theorem d_It_reverse_13 : decode c_It_reverse 13 = .ok (.iload_n 1, 1) := by decide +kernel
theorem d_It_reverse_14 : decode c_It_reverse 14 = .ok (.aload_n 0, 1) := by decide +kernel
theorem d_It_reverse_15 : decode c_It_reverse 15 = .ok (.aload_n 0, 1) := by decide +kernel
theorem d_It_reverse_16 : decode c_It_reverse 16 = .ok (.getfield 21, 3) := by decide +kernel
theorem d_It_reverse_19 : decode c_It_reverse 19 = .ok (.iconst 1, 1) := by decide +kernel
theorem d_It_reverse_20 : decode c_It_reverse 20 = .ok (.isub, 1) := by decide +kernel
theorem d_It_reverse_21 : decode c_It_reverse 21 = .ok (.iload_n 1, 1) := by decide +kernel
theorem d_It_reverse_22 : decode c_It_reverse 22 = .ok (.isub, 1) := by decide +kernel
theorem d_It_reverse_23 : decode c_It_reverse 23 = .ok (.aload_n 0, 1) := by decide +kernel
theorem d_It_reverse_24 : decode c_It_reverse 24 = .ok (.iload_n 1, 1) := by decide +kernel
theorem d_It_reverse_25 : decode c_It_reverse 25 = .ok (.invokevirtual 25, 3) := by decide +kernel
theorem d_It_reverse_28 : decode c_It_reverse 28 = .ok (.invokevirtual 29, 3) := by decide +kernel
theorem d_It_reverse_31 : decode c_It_reverse 31 = .ok (.invokevirtual 29, 3) := by decide +kernel
theorem d_It_reverse_34 : decode c_It_reverse 34 = .ok (.pop, 1) := by decide +kernel
theorem d_It_reverse_35 : decode c_It_reverse 35 = .ok (.iinc 1 1, 3) := by decide +kernel
theorem d_It_reverse_38 : decode c_It_reverse 38 = .ok (.goto (-36), 3) := by decide +kernel
theorem d_It_reverse_41 : decode c_It_reverse 41 = .ok (.return_, 1) := by decide +kernel
end
section
-- LineCodes$Items.hasRoomFor(I)Z
def w_It_hasRoomFor (post : Int32 → Prop) (n_items : Nat) (v_count : Int32) (x1 : Int32) : Prop := (((nI n_items) - v_count) < x1 → post 0) ∧ (¬ ((nI n_items) - v_count) < x1 → post 1)
abbrev rm_It_hasRoomFor : Room := { frames := 0, cells := 0, slots := 0, locals := 0 }
set_option maxHeartbeats 4000000 in
set_option maxRecDepth 100000 in
theorem met_It_hasRoomFor (l : Launch) (D : va_G) (Z : (Nat → Prop) → State → Heap → Prop) (hz : zk Z) (ad : Nat → Nat) (hk : zs Z ad) (a_this : Nat) (a_items : Nat) (k_items : ClassId) (n_items : Nat) (v_count : Int32) (f_items : Nat → Int32) (x1 : Int32) {post : Int32 → Prop} (hw : w_It_hasRoomFor post n_items v_count x1) : Met l y_It_hasRoomFor ws_It_hasRoomFor rm_It_hasRoomFor (va_Pc [.ref a_this, .int x1] (ro_ D vwCl [(k_items, .int)] [(a_this, .inr (0, [.ref a_items, .int v_count])), (a_items, .inl (k_items, n_items, .inl f_items))] (Z))) (vp_Si post) 0 0 (fun _ => False) := by
  refine Met.ofW (cc := c_It_hasRoomFor) (maxL := 2) (ret := (some .boolean)) (by decide) rfl ?_
  intro p e s m args below meth c s₁ B hml hv
  obtain ⟨rfl, hP, hK, hZ⟩ := hv
  have hx := B.exec
  have hb := B.bytes
  have hr := B.returns
  have hts0 := atoms_spec (ws := ws_It_hasRoomFor) B.pre
  have hts := fun (w : Cond) (h : w ∈ tb) => hts0 w (List.mem_cons_of_mem _ h)
  have hown : s.vm.findClass R_It = some m.cls := findClass_of_methodNamed B.named
  have hlocks := B.notSynchronized
  have hS : va_S (fun _ => False) s.heap s.heap [] := va_S.rf
  have hl := lv_entry ([.ref a_this, .int x1]) (n := 2) (Nat.le_of_ble_eq_true rfl)
  rw [lg_entry_eq]
  generalize (lg_sl ([.ref a_this, .int x1]) ++ List.replicate (2 - (lg_sl ([.ref a_this, .int x1])).length) Slot.unset).toArray = ls at hl ⊢
  have hl : lv_has ls 2 [(0, .ref a_this), (1, .int x1)] := hl
  unfold w_It_hasRoomFor at hw
  refine lv_iload_n hx hb d_It_hasRoomFor_0 rfl (lv_at hl 1 rfl) ?_
  refine lv_aload_n hx hb d_It_hasRoomFor_1 rfl (lv_at hl 0 rfl) ?_
  refine va_get (D := D) (ci := 0) (v := .ref a_items) (C := R_It) (T := T_It) (N := 2) hx hb hts in_It hown hK hP 0 rfl rfl 0 (by decide) (hts _ mm_73) (fun _ h9 => h9) rfl d_It_hasRoomFor_2 ?_
  refine va_alen (v := (nI n_items)) hx hb hK hP 1 0 rfl rfl rfl d_It_hasRoomFor_5 ?_
  refine lv_aload_n hx hb d_It_hasRoomFor_6 rfl (lv_at hl 0 rfl) ?_
  refine va_get (D := D) (ci := 0) (v := .int v_count) (C := R_It) (T := T_It) (N := 2) hx hb hts in_It hown hK hP 0 rfl rfl 1 (by decide) (hts _ mm_74) (fun _ h9 => h9) rfl d_It_hasRoomFor_7 ?_
  refine lv_isub hx hb d_It_hasRoomFor_10 ?_
  refine lv_icmp_gt (tgt := 18) hx hb d_It_hasRoomFor_11 (by decide) (fun c1 => ?_) (fun c1 => ?_)
  · have hw := hw.1 c1
    refine lv_iconst (v := 0) hx hb d_It_hasRoomFor_18 (by decide) ?_
    exact W.zret (v := 0) (ty := .boolean) hx hb hr rfl (fun t ht hW => ⟨0, rfl, hw, ht⟩) hS.2.2 d_It_hasRoomFor_19
  · have hw := hw.2 c1
    refine lv_iconst (v := 1) hx hb d_It_hasRoomFor_14 (by decide) ?_
    refine lv_goto (tgt := 19) hx hb d_It_hasRoomFor_15 (by decide) ?_
    exact W.zret (v := 1) (ty := .boolean) hx hb hr rfl (fun t ht hW => ⟨1, rfl, hw, ht⟩) hS.2.2 d_It_hasRoomFor_19
-- LineCodes$Items.add(I)Z
def w_It_add (post : Int32 → Int32 → (Nat → Int32) → Prop) (n_items : Nat) (v_count : Int32) (f_items : Nat → Int32) (x1 : Int32) : Prop := (v_count < 0 → post 0 v_count f_items) ∧ (¬ v_count < 0 → (v_count < (nI n_items) → vp_in v_count n_items ∧ post 1 (v_count + 1) (upd f_items v_count.toNatClampNeg x1)) ∧ (¬ v_count < (nI n_items) → post 0 v_count f_items))
abbrev rm_It_add : Room := { frames := 0, cells := 0, slots := 0, locals := 0 }
set_option maxHeartbeats 4000000 in
set_option maxRecDepth 100000 in
theorem met_It_add (l : Launch) (D : va_G) (Z : (Nat → Prop) → State → Heap → Prop) (hz : zk Z) (ad : Nat → Nat) (hk : zs Z ad) (a_this : Nat) (a_items : Nat) (k_items : ClassId) (n_items : Nat) (v_count : Int32) (f_items : Nat → Int32) (x1 : Int32) (sz : Nat) {post : Int32 → Int32 → (Nat → Int32) → Prop} (hw : w_It_add post n_items v_count f_items x1) : Met l y_It_add ws_It_add rm_It_add (va_Pc [.ref a_this, .int x1] (rw_ D vwCl [(k_items, .int)] [(a_this, .inr (0, [.ref a_items, .int v_count])), (a_items, .inl (k_items, n_items, .inl f_items))] (Z) sz)) (va_Qi (fun (r : Int32) (u : Int32 × (Nat → Int32)) => post r u.1 u.2) (fun u t => at_ D vwCl [(k_items, .int)] (va_A [(a_this, .inr (0, [.ref a_items, .int v_count])), (a_items, .inl (k_items, n_items, .inl f_items))] sz) [(a_this, .inr (0, [.ref a_items, .int u.1])), (a_items, .inl (k_items, n_items, .inl u.2))] t) (va_A [(a_this, .inr (0, [.ref a_items, .int v_count])), (a_items, .inl (k_items, n_items, .inl f_items))] sz)) 0 0 (va_A [(a_this, .inr (0, [.ref a_items, .int v_count])), (a_items, .inl (k_items, n_items, .inl f_items))] sz) := by
  refine Met.ofW (cc := c_It_add) (maxL := 2) (ret := (some .boolean)) (by decide) rfl ?_
  intro p e s m args below meth c s₁ B hml hv
  obtain ⟨rfl, hsz, hP, hK, hD0, hZ⟩ := hv
  have hx := B.exec
  have hb := B.bytes
  have hr := B.returns
  have hts0 := atoms_spec (ws := ws_It_add) B.pre
  have hts := fun (w : Cond) (h : w ∈ tb) => hts0 w (List.mem_cons_of_mem _ h)
  have hown : s.vm.findClass R_It = some m.cls := findClass_of_methodNamed B.named
  have hlocks := B.notSynchronized
  subst hsz
  have hD := hD0.self (sz := s.heap.size)
  generalize hAe : va_A [(a_this, .inr (0, [.ref a_items, .int v_count])), (a_items, .inl (k_items, n_items, .inl f_items))] s.heap.size = A at hD hZ ⊢
  have hA : ∀ q : Nat, s.heap.size ≤ q → A q := fun q h => by rw [← hAe]; exact Or.inr h
  have hS : va_S A s.heap s.heap [] := va_S.rf
  have hl := lv_entry ([.ref a_this, .int x1]) (n := 2) (Nat.le_of_ble_eq_true rfl)
  rw [lg_entry_eq]
  generalize (lg_sl ([.ref a_this, .int x1]) ++ List.replicate (2 - (lg_sl ([.ref a_this, .int x1])).length) Slot.unset).toArray = ls at hl ⊢
  have hl : lv_has ls 2 [(0, .ref a_this), (1, .int x1)] := hl
  unfold w_It_add at hw
  refine lv_aload_n hx hb d_It_add_0 rfl (lv_at hl 0 rfl) ?_
  refine va_get (D := D) (ci := 0) (v := .int v_count) (C := R_It) (T := T_It) (N := 2) hx hb hts in_It hown hK hP 0 rfl rfl 1 (by decide) (hts _ mm_74) (fun _ h9 => h9) rfl d_It_add_1 ?_
  refine lv_if_lt (tgt := 19) hx hb d_It_add_4 (by decide) (fun c1 => ?_) (fun c1 => ?_)
  · have hw := hw.1 c1
    refine lv_iconst (v := 0) hx hb d_It_add_19 (by decide) ?_
    have hP9 := hP.sub (ws' := [(a_this, .inr (0, [.ref a_items, .int v_count])), (a_items, .inl (k_items, n_items, .inl f_items))]) [0, 1] rfl
    have hD9 := hD.sub (ws' := [(a_this, .inr (0, [.ref a_items, .int v_count])), (a_items, .inl (k_items, n_items, .inl f_items))]) [0, 1] (by decide) rfl
    exact W.zret (v := 0) (ty := .boolean) hx hb hr rfl (fun t ht hW => ⟨⟨0, (v_count, f_items), rfl, hw, by rw [ht]; exact hP9, va_K.moved hW.alike hK, hD9⟩, hS.F ht⟩) hS.2.2 d_It_add_20
  · have hw := hw.2 c1
    refine lv_aload_n hx hb d_It_add_7 rfl (lv_at hl 0 rfl) ?_
    refine va_get (D := D) (ci := 0) (v := .int v_count) (C := R_It) (T := T_It) (N := 2) hx hb hts in_It hown hK hP 0 rfl rfl 1 (by decide) (hts _ mm_74) (fun _ h9 => h9) rfl d_It_add_8 ?_
    refine lv_aload_n hx hb d_It_add_11 rfl (lv_at hl 0 rfl) ?_
    refine va_get (D := D) (ci := 0) (v := .ref a_items) (C := R_It) (T := T_It) (N := 2) hx hb hts in_It hown hK hP 0 rfl rfl 0 (by decide) (hts _ mm_73) (fun _ h9 => h9) rfl d_It_add_12 ?_
    refine va_alen (v := (nI n_items)) hx hb hK hP 1 0 rfl rfl rfl d_It_add_15 ?_
    refine lv_icmp_lt (tgt := 21) hx hb d_It_add_16 (by decide) (fun c2 => ?_) (fun c2 => ?_)
    · have hw := hw.1 c2
      refine lv_aload_n hx hb d_It_add_21 rfl (lv_at hl 0 rfl) ?_
      refine va_get (D := D) (ci := 0) (v := .ref a_items) (C := R_It) (T := T_It) (N := 2) hx hb hts in_It hown hK hP 0 rfl rfl 0 (by decide) (hts _ mm_73) (fun _ h9 => h9) rfl d_It_add_22 ?_
      refine lv_aload_n hx hb d_It_add_25 rfl (lv_at hl 0 rfl) ?_
      refine va_get (D := D) (ci := 0) (v := .int v_count) (C := R_It) (T := T_It) (N := 2) hx hb hts in_It hown hK hP 0 rfl rfl 1 (by decide) (hts _ mm_74) (fun _ h9 => h9) rfl d_It_add_26 ?_
      refine lv_iload_n hx hb d_It_add_29 rfl (lv_at hl 1 rfl) ?_
      have hi30 := hw.1
      have hw := hw.2
      refine va_iast hx hb hK hP hD hS 1 0 rfl rfl hi30 d_It_add_30 (fun H locs hP hD hS => ?_)
      have hP : va_P D vwCl [(a_this, .inr (0, [.ref a_items, .int v_count])), (a_items, .inl (k_items, n_items, .inl (upd f_items v_count.toNatClampNeg x1)))] H := hP
      have hD : va_D A [(a_this, .inr (0, [.ref a_items, .int v_count])), (a_items, .inl (k_items, n_items, .inl (upd f_items v_count.toNatClampNeg x1)))] := hD
      refine lv_aload_n hx hb d_It_add_31 rfl (lv_at hl 0 rfl) ?_
      refine lv_dup hx hb d_It_add_32 rfl ?_
      refine va_get (D := D) (ci := 0) (v := .int v_count) (C := R_It) (T := T_It) (N := 2) hx hb hts in_It hown hK hP 0 rfl rfl 1 (by decide) (hts _ mm_74) (fun _ h9 => h9) rfl d_It_add_33 ?_
      refine lv_iconst (v := 1) hx hb d_It_add_36 (by decide) ?_
      refine lv_iadd hx hb d_It_add_37 ?_
      refine va_put (D := D) (ci := 0) (v := .int (v_count + 1)) (ty := .int) (C := R_It) (T := T_It) (N := 2) hx hb hts in_It ty_It tk_It nn_It hown hK hP hD hS 0 rfl rfl 1 (by decide) (hts _ mm_74) (fun _ h9 => h9) rfl (by decide +kernel) rfl rfl (Nat.le_of_ble_eq_true rfl) d_It_add_38 (fun H locs hP hD hS => ?_)
      have hP : va_P D vwCl [(a_this, .inr (0, [.ref a_items, .int (v_count + 1)])), (a_items, .inl (k_items, n_items, .inl (upd f_items v_count.toNatClampNeg x1)))] H := hP
      have hD : va_D A [(a_this, .inr (0, [.ref a_items, .int (v_count + 1)])), (a_items, .inl (k_items, n_items, .inl (upd f_items v_count.toNatClampNeg x1)))] := hD
      refine lv_iconst (v := 1) hx hb d_It_add_41 (by decide) ?_
      have hP9 := hP.sub (ws' := [(a_this, .inr (0, [.ref a_items, .int (v_count + 1)])), (a_items, .inl (k_items, n_items, .inl (upd f_items v_count.toNatClampNeg x1)))]) [0, 1] rfl
      have hD9 := hD.sub (ws' := [(a_this, .inr (0, [.ref a_items, .int (v_count + 1)])), (a_items, .inl (k_items, n_items, .inl (upd f_items v_count.toNatClampNeg x1)))]) [0, 1] (by decide) rfl
      exact W.zret (v := 1) (ty := .boolean) hx hb hr rfl (fun t ht hW => ⟨⟨1, ((v_count + 1), (upd f_items v_count.toNatClampNeg x1)), rfl, hw, by rw [ht]; exact hP9, va_K.moved hW.alike hK, hD9⟩, hS.F ht⟩) hS.2.2 d_It_add_42
    · have hw := hw.2 c2
      refine lv_iconst (v := 0) hx hb d_It_add_19 (by decide) ?_
      have hP9 := hP.sub (ws' := [(a_this, .inr (0, [.ref a_items, .int v_count])), (a_items, .inl (k_items, n_items, .inl f_items))]) [0, 1] rfl
      have hD9 := hD.sub (ws' := [(a_this, .inr (0, [.ref a_items, .int v_count])), (a_items, .inl (k_items, n_items, .inl f_items))]) [0, 1] (by decide) rfl
      exact W.zret (v := 0) (ty := .boolean) hx hb hr rfl (fun t ht hW => ⟨⟨0, (v_count, f_items), rfl, hw, by rw [ht]; exact hP9, va_K.moved hW.alike hK, hD9⟩, hS.F ht⟩) hS.2.2 d_It_add_20
-- LineCodes$Items.count()I
def w_It_count (post : Int32 → Prop) (v_count : Int32) : Prop := post v_count
abbrev rm_It_count : Room := { frames := 0, cells := 0, slots := 0, locals := 0 }
set_option maxHeartbeats 4000000 in
set_option maxRecDepth 100000 in
theorem met_It_count (l : Launch) (D : va_G) (Z : (Nat → Prop) → State → Heap → Prop) (hz : zk Z) (ad : Nat → Nat) (hk : zs Z ad) (a_this : Nat) (a_items : Nat) (k_items : ClassId) (n_items : Nat) (v_count : Int32) (f_items : Nat → Int32) {post : Int32 → Prop} (hw : w_It_count post v_count) : Met l y_It_count ws_It_count rm_It_count (va_Pc [.ref a_this] (ro_ D vwCl [(k_items, .int)] [(a_this, .inr (0, [.ref a_items, .int v_count])), (a_items, .inl (k_items, n_items, .inl f_items))] (Z))) (vp_Si post) 0 0 (fun _ => False) := by
  refine Met.ofW (cc := c_It_count) (maxL := 1) (ret := (some .int)) (by decide) rfl ?_
  intro p e s m args below meth c s₁ B hml hv
  obtain ⟨rfl, hP, hK, hZ⟩ := hv
  have hx := B.exec
  have hb := B.bytes
  have hr := B.returns
  have hts0 := atoms_spec (ws := ws_It_count) B.pre
  have hts := fun (w : Cond) (h : w ∈ tb) => hts0 w (List.mem_cons_of_mem _ h)
  have hown : s.vm.findClass R_It = some m.cls := findClass_of_methodNamed B.named
  have hlocks := B.notSynchronized
  have hS : va_S (fun _ => False) s.heap s.heap [] := va_S.rf
  have hl := lv_entry ([.ref a_this]) (n := 1) (Nat.le_of_ble_eq_true rfl)
  rw [lg_entry_eq]
  generalize (lg_sl ([.ref a_this]) ++ List.replicate (1 - (lg_sl ([.ref a_this])).length) Slot.unset).toArray = ls at hl ⊢
  have hl : lv_has ls 1 [(0, .ref a_this)] := hl
  unfold w_It_count at hw
  refine lv_aload_n hx hb d_It_count_0 rfl (lv_at hl 0 rfl) ?_
  refine va_get (D := D) (ci := 0) (v := .int v_count) (C := R_It) (T := T_It) (N := 2) hx hb hts in_It hown hK hP 0 rfl rfl 1 (by decide) (hts _ mm_74) (fun _ h9 => h9) rfl d_It_count_1 ?_
  exact W.iret (v := v_count) hx hb hr (fun t ht hW => ⟨v_count, rfl, hw, ht⟩) hS.2.2 d_It_count_4
-- LineCodes$Items.empty()I
def w_It_empty (post : Int32 → Int32 → Prop) (v_count : Int32) : Prop := post v_count 0
abbrev rm_It_empty : Room := { frames := 0, cells := 0, slots := 0, locals := 0 }
set_option maxHeartbeats 4000000 in
set_option maxRecDepth 100000 in
theorem met_It_empty (l : Launch) (D : va_G) (Z : (Nat → Prop) → State → Heap → Prop) (hz : zk Z) (ad : Nat → Nat) (hk : zs Z ad) (a_this : Nat) (a_items : Nat) (k_items : ClassId) (n_items : Nat) (v_count : Int32) (f_items : Nat → Int32) (sz : Nat) {post : Int32 → Int32 → Prop} (hw : w_It_empty post v_count) : Met l y_It_empty ws_It_empty rm_It_empty (va_Pc [.ref a_this] (rw_ D vwCl [(k_items, .int)] [(a_this, .inr (0, [.ref a_items, .int v_count])), (a_items, .inl (k_items, n_items, .inl f_items))] (Z) sz)) (va_Qi (fun (r : Int32) (u : Int32) => post r u) (fun u t => at_ D vwCl [(k_items, .int)] (va_A [(a_this, .inr (0, [.ref a_items, .int v_count])), (a_items, .inl (k_items, n_items, .inl f_items))] sz) [(a_this, .inr (0, [.ref a_items, .int u])), (a_items, .inl (k_items, n_items, .inl f_items))] t) (va_A [(a_this, .inr (0, [.ref a_items, .int v_count])), (a_items, .inl (k_items, n_items, .inl f_items))] sz)) 0 0 (va_A [(a_this, .inr (0, [.ref a_items, .int v_count])), (a_items, .inl (k_items, n_items, .inl f_items))] sz) := by
  refine Met.ofW (cc := c_It_empty) (maxL := 2) (ret := (some .int)) (by decide) rfl ?_
  intro p e s m args below meth c s₁ B hml hv
  obtain ⟨rfl, hsz, hP, hK, hD0, hZ⟩ := hv
  have hx := B.exec
  have hb := B.bytes
  have hr := B.returns
  have hts0 := atoms_spec (ws := ws_It_empty) B.pre
  have hts := fun (w : Cond) (h : w ∈ tb) => hts0 w (List.mem_cons_of_mem _ h)
  have hown : s.vm.findClass R_It = some m.cls := findClass_of_methodNamed B.named
  have hlocks := B.notSynchronized
  subst hsz
  have hD := hD0.self (sz := s.heap.size)
  generalize hAe : va_A [(a_this, .inr (0, [.ref a_items, .int v_count])), (a_items, .inl (k_items, n_items, .inl f_items))] s.heap.size = A at hD hZ ⊢
  have hA : ∀ q : Nat, s.heap.size ≤ q → A q := fun q h => by rw [← hAe]; exact Or.inr h
  have hS : va_S A s.heap s.heap [] := va_S.rf
  have hl := lv_entry ([.ref a_this]) (n := 2) (Nat.le_of_ble_eq_true rfl)
  rw [lg_entry_eq]
  generalize (lg_sl ([.ref a_this]) ++ List.replicate (2 - (lg_sl ([.ref a_this])).length) Slot.unset).toArray = ls at hl ⊢
  have hl : lv_has ls 2 [(0, .ref a_this)] := hl
  unfold w_It_empty at hw
  refine lv_aload_n hx hb d_It_empty_0 rfl (lv_at hl 0 rfl) ?_
  refine va_get (D := D) (ci := 0) (v := .int v_count) (C := R_It) (T := T_It) (N := 2) hx hb hts in_It hown hK hP 0 rfl rfl 1 (by decide) (hts _ mm_74) (fun _ h9 => h9) rfl d_It_empty_1 ?_
  refine lv_istore_n (lv' := [(1, .int v_count), (0, .ref a_this)]) hx hb d_It_empty_4 rfl hl (by decide) rfl (fun ls hl => ?_)
  refine lv_aload_n hx hb d_It_empty_5 rfl (lv_at hl 1 rfl) ?_
  refine lv_iconst (v := 0) hx hb d_It_empty_6 (by decide) ?_
  refine va_put (D := D) (ci := 0) (v := .int 0) (ty := .int) (C := R_It) (T := T_It) (N := 2) hx hb hts in_It ty_It tk_It nn_It hown hK hP hD hS 0 rfl rfl 1 (by decide) (hts _ mm_74) (fun _ h9 => h9) rfl (by decide +kernel) rfl rfl (Nat.le_of_ble_eq_true rfl) d_It_empty_7 (fun H locs hP hD hS => ?_)
  have hP : va_P D vwCl [(a_this, .inr (0, [.ref a_items, .int 0])), (a_items, .inl (k_items, n_items, .inl f_items))] H := hP
  have hD : va_D A [(a_this, .inr (0, [.ref a_items, .int 0])), (a_items, .inl (k_items, n_items, .inl f_items))] := hD
  refine lv_iload_n hx hb d_It_empty_10 rfl (lv_at hl 0 rfl) ?_
  have hP9 := hP.sub (ws' := [(a_this, .inr (0, [.ref a_items, .int 0])), (a_items, .inl (k_items, n_items, .inl f_items))]) [0, 1] rfl
  have hD9 := hD.sub (ws' := [(a_this, .inr (0, [.ref a_items, .int 0])), (a_items, .inl (k_items, n_items, .inl f_items))]) [0, 1] (by decide) rfl
  exact W.iret (v := v_count) hx hb hr (fun t ht hW => ⟨⟨v_count, 0, rfl, hw, by rw [ht]; exact hP9, va_K.moved hW.alike hK, hD9⟩, hS.F ht⟩) hS.2.2 d_It_empty_11
-- LineCodes$Items.at(I)I
def w_It_at (post : Int32 → Prop) (n_items : Nat) (v_count : Int32) (f_items : Nat → Int32) (x1 : Int32) : Prop := (x1 < 0 → post (-1)) ∧ (¬ x1 < 0 → (v_count ≤ x1 → post (-1)) ∧ (¬ v_count ≤ x1 → ((nI n_items) ≤ x1 → post (-1)) ∧ (¬ (nI n_items) ≤ x1 → vp_in x1 n_items ∧ post (f_items x1.toNatClampNeg))))
abbrev rm_It_at : Room := { frames := 0, cells := 0, slots := 0, locals := 0 }
set_option maxHeartbeats 4000000 in
set_option maxRecDepth 100000 in
theorem met_It_at (l : Launch) (D : va_G) (Z : (Nat → Prop) → State → Heap → Prop) (hz : zk Z) (ad : Nat → Nat) (hk : zs Z ad) (a_this : Nat) (a_items : Nat) (k_items : ClassId) (n_items : Nat) (v_count : Int32) (f_items : Nat → Int32) (x1 : Int32) {post : Int32 → Prop} (hw : w_It_at post n_items v_count f_items x1) : Met l y_It_at ws_It_at rm_It_at (va_Pc [.ref a_this, .int x1] (ro_ D vwCl [(k_items, .int)] [(a_this, .inr (0, [.ref a_items, .int v_count])), (a_items, .inl (k_items, n_items, .inl f_items))] (Z))) (vp_Si post) 0 0 (fun _ => False) := by
  refine Met.ofW (cc := c_It_at) (maxL := 2) (ret := (some .int)) (by decide) rfl ?_
  intro p e s m args below meth c s₁ B hml hv
  obtain ⟨rfl, hP, hK, hZ⟩ := hv
  have hx := B.exec
  have hb := B.bytes
  have hr := B.returns
  have hts0 := atoms_spec (ws := ws_It_at) B.pre
  have hts := fun (w : Cond) (h : w ∈ tb) => hts0 w (List.mem_cons_of_mem _ h)
  have hown : s.vm.findClass R_It = some m.cls := findClass_of_methodNamed B.named
  have hlocks := B.notSynchronized
  have hS : va_S (fun _ => False) s.heap s.heap [] := va_S.rf
  have hl := lv_entry ([.ref a_this, .int x1]) (n := 2) (Nat.le_of_ble_eq_true rfl)
  rw [lg_entry_eq]
  generalize (lg_sl ([.ref a_this, .int x1]) ++ List.replicate (2 - (lg_sl ([.ref a_this, .int x1])).length) Slot.unset).toArray = ls at hl ⊢
  have hl : lv_has ls 2 [(0, .ref a_this), (1, .int x1)] := hl
  unfold w_It_at at hw
  refine lv_iload_n hx hb d_It_at_0 rfl (lv_at hl 1 rfl) ?_
  refine lv_if_lt (tgt := 30) hx hb d_It_at_1 (by decide) (fun c1 => ?_) (fun c1 => ?_)
  · have hw := hw.1 c1
    refine lv_iconst (v := (-1)) hx hb d_It_at_30 (by decide) ?_
    exact W.iret (v := (-1)) hx hb hr (fun t ht hW => ⟨(-1), rfl, hw, ht⟩) hS.2.2 d_It_at_31
  · have hw := hw.2 c1
    refine lv_iload_n hx hb d_It_at_4 rfl (lv_at hl 1 rfl) ?_
    refine lv_aload_n hx hb d_It_at_5 rfl (lv_at hl 0 rfl) ?_
    refine va_get (D := D) (ci := 0) (v := .int v_count) (C := R_It) (T := T_It) (N := 2) hx hb hts in_It hown hK hP 0 rfl rfl 1 (by decide) (hts _ mm_74) (fun _ h9 => h9) rfl d_It_at_6 ?_
    refine lv_icmp_ge (tgt := 30) hx hb d_It_at_9 (by decide) (fun c2 => ?_) (fun c2 => ?_)
    · have hw := hw.1 c2
      refine lv_iconst (v := (-1)) hx hb d_It_at_30 (by decide) ?_
      exact W.iret (v := (-1)) hx hb hr (fun t ht hW => ⟨(-1), rfl, hw, ht⟩) hS.2.2 d_It_at_31
    · have hw := hw.2 c2
      refine lv_iload_n hx hb d_It_at_12 rfl (lv_at hl 1 rfl) ?_
      refine lv_aload_n hx hb d_It_at_13 rfl (lv_at hl 0 rfl) ?_
      refine va_get (D := D) (ci := 0) (v := .ref a_items) (C := R_It) (T := T_It) (N := 2) hx hb hts in_It hown hK hP 0 rfl rfl 0 (by decide) (hts _ mm_73) (fun _ h9 => h9) rfl d_It_at_14 ?_
      refine va_alen (v := (nI n_items)) hx hb hK hP 1 0 rfl rfl rfl d_It_at_17 ?_
      refine lv_icmp_ge (tgt := 30) hx hb d_It_at_18 (by decide) (fun c3 => ?_) (fun c3 => ?_)
      · have hw := hw.1 c3
        refine lv_iconst (v := (-1)) hx hb d_It_at_30 (by decide) ?_
        exact W.iret (v := (-1)) hx hb hr (fun t ht hW => ⟨(-1), rfl, hw, ht⟩) hS.2.2 d_It_at_31
      · have hw := hw.2 c3
        refine lv_aload_n hx hb d_It_at_21 rfl (lv_at hl 0 rfl) ?_
        refine va_get (D := D) (ci := 0) (v := .ref a_items) (C := R_It) (T := T_It) (N := 2) hx hb hts in_It hown hK hP 0 rfl rfl 0 (by decide) (hts _ mm_73) (fun _ h9 => h9) rfl d_It_at_22 ?_
        refine lv_iload_n hx hb d_It_at_25 rfl (lv_at hl 1 rfl) ?_
        have hi26 := hw.1
        have hw := hw.2
        refine va_iald hx hb hK hP 1 0 rfl rfl hi26 d_It_at_26 ?_
        refine lv_goto (tgt := 31) hx hb d_It_at_27 (by decide) ?_
        exact W.iret (v := (f_items x1.toNatClampNeg)) hx hb hr (fun t ht hW => ⟨(f_items x1.toNatClampNeg), rfl, hw, ht⟩) hS.2.2 d_It_at_31
-- LineCodes$Items.replace(II)I
def w_It_replace (post : Int32 → (Nat → Int32) → Prop) (n_items : Nat) (v_count : Int32) (f_items : Nat → Int32) (x1 : Int32) (x2 : Int32) : Prop := (x1 < 0 → post (-1) f_items) ∧ (¬ x1 < 0 → (v_count ≤ x1 → post (-1) f_items) ∧ (¬ v_count ≤ x1 → (x1 < (nI n_items) → vp_in x1 n_items ∧ vp_in x1 n_items ∧ post (f_items x1.toNatClampNeg) (upd f_items x1.toNatClampNeg x2)) ∧ (¬ x1 < (nI n_items) → post (-1) f_items)))
abbrev rm_It_replace : Room := { frames := 0, cells := 0, slots := 0, locals := 0 }
set_option maxHeartbeats 4000000 in
set_option maxRecDepth 100000 in
theorem met_It_replace (l : Launch) (D : va_G) (Z : (Nat → Prop) → State → Heap → Prop) (hz : zk Z) (ad : Nat → Nat) (hk : zs Z ad) (a_this : Nat) (a_items : Nat) (k_items : ClassId) (n_items : Nat) (v_count : Int32) (f_items : Nat → Int32) (x1 : Int32) (x2 : Int32) (sz : Nat) {post : Int32 → (Nat → Int32) → Prop} (hw : w_It_replace post n_items v_count f_items x1 x2) : Met l y_It_replace ws_It_replace rm_It_replace (va_Pc [.ref a_this, .int x1, .int x2] (rw_ D vwCl [(k_items, .int)] [(a_this, .inr (0, [.ref a_items, .int v_count])), (a_items, .inl (k_items, n_items, .inl f_items))] (Z) sz)) (va_Qi (fun (r : Int32) (u : (Nat → Int32)) => post r u) (fun u t => at_ D vwCl [(k_items, .int)] (va_A [(a_this, .inr (0, [.ref a_items, .int v_count])), (a_items, .inl (k_items, n_items, .inl f_items))] sz) [(a_this, .inr (0, [.ref a_items, .int v_count])), (a_items, .inl (k_items, n_items, .inl u))] t) (va_A [(a_this, .inr (0, [.ref a_items, .int v_count])), (a_items, .inl (k_items, n_items, .inl f_items))] sz)) 0 0 (va_A [(a_this, .inr (0, [.ref a_items, .int v_count])), (a_items, .inl (k_items, n_items, .inl f_items))] sz) := by
  refine Met.ofW (cc := c_It_replace) (maxL := 4) (ret := (some .int)) (by decide) rfl ?_
  intro p e s m args below meth c s₁ B hml hv
  obtain ⟨rfl, hsz, hP, hK, hD0, hZ⟩ := hv
  have hx := B.exec
  have hb := B.bytes
  have hr := B.returns
  have hts0 := atoms_spec (ws := ws_It_replace) B.pre
  have hts := fun (w : Cond) (h : w ∈ tb) => hts0 w (List.mem_cons_of_mem _ h)
  have hown : s.vm.findClass R_It = some m.cls := findClass_of_methodNamed B.named
  have hlocks := B.notSynchronized
  subst hsz
  have hD := hD0.self (sz := s.heap.size)
  generalize hAe : va_A [(a_this, .inr (0, [.ref a_items, .int v_count])), (a_items, .inl (k_items, n_items, .inl f_items))] s.heap.size = A at hD hZ ⊢
  have hA : ∀ q : Nat, s.heap.size ≤ q → A q := fun q h => by rw [← hAe]; exact Or.inr h
  have hS : va_S A s.heap s.heap [] := va_S.rf
  have hl := lv_entry ([.ref a_this, .int x1, .int x2]) (n := 4) (Nat.le_of_ble_eq_true rfl)
  rw [lg_entry_eq]
  generalize (lg_sl ([.ref a_this, .int x1, .int x2]) ++ List.replicate (4 - (lg_sl ([.ref a_this, .int x1, .int x2])).length) Slot.unset).toArray = ls at hl ⊢
  have hl : lv_has ls 4 [(0, .ref a_this), (1, .int x1), (2, .int x2)] := hl
  unfold w_It_replace at hw
  refine lv_iload_n hx hb d_It_replace_0 rfl (lv_at hl 1 rfl) ?_
  refine lv_if_lt (tgt := 21) hx hb d_It_replace_1 (by decide) (fun c1 => ?_) (fun c1 => ?_)
  · have hw := hw.1 c1
    refine lv_iconst (v := (-1)) hx hb d_It_replace_21 (by decide) ?_
    have hP9 := hP.sub (ws' := [(a_this, .inr (0, [.ref a_items, .int v_count])), (a_items, .inl (k_items, n_items, .inl f_items))]) [0, 1] rfl
    have hD9 := hD.sub (ws' := [(a_this, .inr (0, [.ref a_items, .int v_count])), (a_items, .inl (k_items, n_items, .inl f_items))]) [0, 1] (by decide) rfl
    exact W.iret (v := (-1)) hx hb hr (fun t ht hW => ⟨⟨(-1), f_items, rfl, hw, by rw [ht]; exact hP9, va_K.moved hW.alike hK, hD9⟩, hS.F ht⟩) hS.2.2 d_It_replace_22
  · have hw := hw.2 c1
    refine lv_iload_n hx hb d_It_replace_4 rfl (lv_at hl 1 rfl) ?_
    refine lv_aload_n hx hb d_It_replace_5 rfl (lv_at hl 0 rfl) ?_
    refine va_get (D := D) (ci := 0) (v := .int v_count) (C := R_It) (T := T_It) (N := 2) hx hb hts in_It hown hK hP 0 rfl rfl 1 (by decide) (hts _ mm_74) (fun _ h9 => h9) rfl d_It_replace_6 ?_
    refine lv_icmp_ge (tgt := 21) hx hb d_It_replace_9 (by decide) (fun c2 => ?_) (fun c2 => ?_)
    · have hw := hw.1 c2
      refine lv_iconst (v := (-1)) hx hb d_It_replace_21 (by decide) ?_
      have hP9 := hP.sub (ws' := [(a_this, .inr (0, [.ref a_items, .int v_count])), (a_items, .inl (k_items, n_items, .inl f_items))]) [0, 1] rfl
      have hD9 := hD.sub (ws' := [(a_this, .inr (0, [.ref a_items, .int v_count])), (a_items, .inl (k_items, n_items, .inl f_items))]) [0, 1] (by decide) rfl
      exact W.iret (v := (-1)) hx hb hr (fun t ht hW => ⟨⟨(-1), f_items, rfl, hw, by rw [ht]; exact hP9, va_K.moved hW.alike hK, hD9⟩, hS.F ht⟩) hS.2.2 d_It_replace_22
    · have hw := hw.2 c2
      refine lv_iload_n hx hb d_It_replace_12 rfl (lv_at hl 1 rfl) ?_
      refine lv_aload_n hx hb d_It_replace_13 rfl (lv_at hl 0 rfl) ?_
      refine va_get (D := D) (ci := 0) (v := .ref a_items) (C := R_It) (T := T_It) (N := 2) hx hb hts in_It hown hK hP 0 rfl rfl 0 (by decide) (hts _ mm_73) (fun _ h9 => h9) rfl d_It_replace_14 ?_
      refine va_alen (v := (nI n_items)) hx hb hK hP 1 0 rfl rfl rfl d_It_replace_17 ?_
      refine lv_icmp_lt (tgt := 23) hx hb d_It_replace_18 (by decide) (fun c3 => ?_) (fun c3 => ?_)
      · have hw := hw.1 c3
        refine lv_aload_n hx hb d_It_replace_23 rfl (lv_at hl 0 rfl) ?_
        refine va_get (D := D) (ci := 0) (v := .ref a_items) (C := R_It) (T := T_It) (N := 2) hx hb hts in_It hown hK hP 0 rfl rfl 0 (by decide) (hts _ mm_73) (fun _ h9 => h9) rfl d_It_replace_24 ?_
        refine lv_iload_n hx hb d_It_replace_27 rfl (lv_at hl 1 rfl) ?_
        have hi28 := hw.1
        have hw := hw.2
        refine va_iald hx hb hK hP 1 0 rfl rfl hi28 d_It_replace_28 ?_
        refine lv_istore_n (lv' := [(3, .int (f_items x1.toNatClampNeg)), (0, .ref a_this), (1, .int x1), (2, .int x2)]) hx hb d_It_replace_29 rfl hl (by decide) rfl (fun ls hl => ?_)
        refine lv_aload_n hx hb d_It_replace_30 rfl (lv_at hl 1 rfl) ?_
        refine va_get (D := D) (ci := 0) (v := .ref a_items) (C := R_It) (T := T_It) (N := 2) hx hb hts in_It hown hK hP 0 rfl rfl 0 (by decide) (hts _ mm_73) (fun _ h9 => h9) rfl d_It_replace_31 ?_
        refine lv_iload_n hx hb d_It_replace_34 rfl (lv_at hl 2 rfl) ?_
        refine lv_iload_n hx hb d_It_replace_35 rfl (lv_at hl 3 rfl) ?_
        have hi36 := hw.1
        have hw := hw.2
        refine va_iast hx hb hK hP hD hS 1 0 rfl rfl hi36 d_It_replace_36 (fun H locs hP hD hS => ?_)
        have hP : va_P D vwCl [(a_this, .inr (0, [.ref a_items, .int v_count])), (a_items, .inl (k_items, n_items, .inl (upd f_items x1.toNatClampNeg x2)))] H := hP
        have hD : va_D A [(a_this, .inr (0, [.ref a_items, .int v_count])), (a_items, .inl (k_items, n_items, .inl (upd f_items x1.toNatClampNeg x2)))] := hD
        refine lv_iload_n hx hb d_It_replace_37 rfl (lv_at hl 0 rfl) ?_
        have hP9 := hP.sub (ws' := [(a_this, .inr (0, [.ref a_items, .int v_count])), (a_items, .inl (k_items, n_items, .inl (upd f_items x1.toNatClampNeg x2)))]) [0, 1] rfl
        have hD9 := hD.sub (ws' := [(a_this, .inr (0, [.ref a_items, .int v_count])), (a_items, .inl (k_items, n_items, .inl (upd f_items x1.toNatClampNeg x2)))]) [0, 1] (by decide) rfl
        exact W.iret (v := (f_items x1.toNatClampNeg)) hx hb hr (fun t ht hW => ⟨⟨(f_items x1.toNatClampNeg), (upd f_items x1.toNatClampNeg x2), rfl, hw, by rw [ht]; exact hP9, va_K.moved hW.alike hK, hD9⟩, hS.F ht⟩) hS.2.2 d_It_replace_38
      · have hw := hw.2 c3
        refine lv_iconst (v := (-1)) hx hb d_It_replace_21 (by decide) ?_
        have hP9 := hP.sub (ws' := [(a_this, .inr (0, [.ref a_items, .int v_count])), (a_items, .inl (k_items, n_items, .inl f_items))]) [0, 1] rfl
        have hD9 := hD.sub (ws' := [(a_this, .inr (0, [.ref a_items, .int v_count])), (a_items, .inl (k_items, n_items, .inl f_items))]) [0, 1] (by decide) rfl
        exact W.iret (v := (-1)) hx hb hr (fun t ht hW => ⟨⟨(-1), f_items, rfl, hw, by rw [ht]; exact hP9, va_K.moved hW.alike hK, hD9⟩, hS.F ht⟩) hS.2.2 d_It_replace_22
-- LineCodes$Items.reverse()V
def w_It_reverse_2 (post : (Nat → Int32) → Prop) (n_items : Nat) (v_count : Int32) : Nat → (Nat → Int32) → Int32 → Prop
  | 0, _, _ => False
  | n + 1, f_items, y1 => ((v_count / 2) ≤ y1 → post f_items) ∧ (¬ (v_count / 2) ≤ y1 → w_It_at (fun r2 => w_It_replace (fun r3 s4 => w_It_replace (fun r5 s6 => w_It_reverse_2 post n_items v_count n s6 (y1 + 1)) n_items v_count s4 y1 r3) n_items v_count f_items ((v_count - 1) - y1) r2) n_items v_count f_items y1)
def w_It_reverse (post : (Nat → Int32) → Prop) (n_items : Nat) (v_count : Int32) (f_items : Nat → Int32) : Prop := ∃ n, w_It_reverse_2 post n_items v_count n f_items 0
abbrev rm_It_reverse : Room := { frames := 1, cells := 0, slots := 0, locals := 23 }
set_option maxHeartbeats 4000000 in
set_option maxRecDepth 100000 in
theorem lp_It_reverse_2 (l : Launch) (D : va_G) (Z : (Nat → Prop) → State → Heap → Prop) (hz : zk Z) (ad : Nat → Nat) (hk : zs Z ad) {p : Program} {e : Env} {s : State} {m : MethodId} {args : Array Value} {below : List Frame} {meth : Method} {c : Code} {A : Nat → Prop} (a_this : Nat) (a_items : Nat) (k_items : ClassId) (n_items : Nat) (v_count : Int32) {post : (Nat → Int32) → Prop} (hx : p.tables.exec = Jvm.exec) (hb : c.code = c_It_reverse) (hml : c.maxLocals = 2) (hr : meth.sig.returnType = (none)) (hts : ∀ w ∈ tb, w.before args s = true) (hown : s.vm.findClass R_It = some m.cls) (hlocks : meth.locks = false) (hK : va_K D vwCl [(k_items, .int)] s) (hZ : Z A s s.heap) (hA : ∀ q, s.heap.size ≤ q → A q) : ∀ (n : Nat) (f_items : Nat → Int32) (y1 : Int32), w_It_reverse_2 post n_items v_count n f_items y1 → ∀ (H : Heap) (locs : List Loc), va_P D vwCl [(a_this, .inr (0, [.ref a_items, .int v_count])), (a_items, .inl (k_items, n_items, .inl f_items))] H → va_D A [(a_this, .inr (0, [.ref a_items, .int v_count])), (a_items, .inl (k_items, n_items, .inl f_items))] → va_S A s.heap H locs → ∀ ls : Array Slot, lv_has ls 2 [(0, .ref a_this), (1, .int y1)] → W p l e (headSpec ws_It_reverse rm_It_reverse).room s m args below meth c H locs 0 0 (MQ below (va_Qv (fun u : (Nat → Int32) => post u) (fun u t => at_ D vwCl [(k_items, .int)] A [(a_this, .inr (0, [.ref a_items, .int v_count])), (a_items, .inl (k_items, n_items, .inl u))] t) A) args s 0 0 A) (F0 m 2 ls []) := by
  intro n
  induction n with
  | zero =>
    intro f_items y1 hw
    unfold w_It_reverse_2 at hw
    exact hw.elim
  | succ n ih =>
    intro f_items y1 hw H locs hP hD hS ls hl
    unfold w_It_reverse_2 at hw
    refine lv_iload_n hx hb d_It_reverse_2 rfl (lv_at hl 1 rfl) ?_
    refine lv_aload_n hx hb d_It_reverse_3 rfl (lv_at hl 0 rfl) ?_
    refine va_get (D := D) (ci := 0) (v := .int v_count) (C := R_It) (T := T_It) (N := 2) hx hb hts in_It hown hK hP 0 rfl rfl 1 (by decide) (hts _ mm_74) (fun _ h9 => h9) rfl d_It_reverse_4 ?_
    refine lv_iconst (v := 2) hx hb d_It_reverse_7 (by decide) ?_
    refine lv_idiv hx hb d_It_reverse_8 (by decide) ?_
    refine lv_icmp_ge (tgt := 41) hx hb d_It_reverse_9 (by decide) (fun c1 => ?_) (fun c1 => ?_)
    · have hw := hw.1 c1
      have hP9 := hP.sub (ws' := [(a_this, .inr (0, [.ref a_items, .int v_count])), (a_items, .inl (k_items, n_items, .inl f_items))]) [0, 1] rfl
      have hD9 := hD.sub (ws' := [(a_this, .inr (0, [.ref a_items, .int v_count])), (a_items, .inl (k_items, n_items, .inl f_items))]) [0, 1] (by decide) rfl
      exact W.vret hx hb hr (fun t ht hW => ⟨⟨f_items, rfl, hw, by rw [ht]; exact hP9, va_K.moved hW.alike hK, hD9⟩, hS.F ht⟩) hS.2.2 d_It_reverse_41
    · have hw := hw.2 c1
      refine lv_aload_n hx hb d_It_reverse_12 rfl (lv_at hl 0 rfl) ?_
      refine lv_iload_n hx hb d_It_reverse_13 rfl (lv_at hl 1 rfl) ?_
      refine lv_aload_n hx hb d_It_reverse_14 rfl (lv_at hl 0 rfl) ?_
      refine lv_aload_n hx hb d_It_reverse_15 rfl (lv_at hl 0 rfl) ?_
      refine va_get (D := D) (ci := 0) (v := .int v_count) (C := R_It) (T := T_It) (N := 2) hx hb hts in_It hown hK hP 0 rfl rfl 1 (by decide) (hts _ mm_74) (fun _ h9 => h9) rfl d_It_reverse_16 ?_
      refine lv_iconst (v := 1) hx hb d_It_reverse_19 (by decide) ?_
      refine lv_isub hx hb d_It_reverse_20 ?_
      refine lv_iload_n hx hb d_It_reverse_21 rfl (lv_at hl 1 rfl) ?_
      refine lv_isub hx hb d_It_reverse_22 ?_
      refine lv_aload_n hx hb d_It_reverse_23 rfl (lv_at hl 0 rfl) ?_
      refine lv_iload_n hx hb d_It_reverse_24 rfl (lv_at hl 1 rfl) ?_
      refine k_roVi (As := [.int y1]) (rest := [.int ((v_count - 1) - y1), .ref a_this, .int y1, .ref a_this]) hz [0, 1] [0] 0 0 ⟨hx, hb, hml, hown, hts⟩ (met_It_at l D Z hz ad hk a_this a_items k_items n_items v_count f_items y1 hw) (cwV 1 hts (g_V mm_246 mm_167 mm_168 mm_42 mm_169) rfl rfl rfl hd_It_at ⟨Nat.le_of_ble_eq_true rfl, Nat.le_of_ble_eq_true rfl⟩) hP hK hZ hS rfl rfl rfl rfl rfl hl.1 rfl (Nat.le_of_ble_eq_true rfl) d_It_reverse_25 ⟨Nat.le_of_ble_eq_true rfl, Nat.le_of_ble_eq_true rfl⟩ (fun r2 hw => ?_)
      beta_reduce at hw
      refine k_rwVi (As := [.int ((v_count - 1) - y1), .int r2]) (rest := [.int y1, .ref a_this]) hz [0, 1] [] [0] 0 0 ⟨hx, hb, hml, hown, hts⟩ (met_It_replace l D Z hz ad hk a_this a_items k_items n_items v_count f_items ((v_count - 1) - y1) r2 _ hw) (cwV 2 hts (g_V mm_247 mm_248 mm_249 mm_42 mm_250) rfl rfl rfl hd_It_replace ⟨Nat.le_of_ble_eq_true rfl, Nat.le_of_ble_eq_true rfl⟩) hP hD hK hZ hS hA rfl rfl rfl rfl rfl (by decide) rfl rfl rfl rfl hl.1 rfl (Nat.le_of_ble_eq_true rfl) d_It_reverse_28 ⟨Nat.le_of_ble_eq_true rfl, Nat.le_of_ble_eq_true rfl⟩ (fun r3 s4 H locs hw hP hD hS => ?_)
      try dsimp only at hw
      have hP : va_P D vwCl [(a_this, .inr (0, [.ref a_items, .int v_count])), (a_items, .inl (k_items, n_items, .inl s4))] H := hP
      have hD : va_D A [(a_this, .inr (0, [.ref a_items, .int v_count])), (a_items, .inl (k_items, n_items, .inl s4))] := hD
      refine k_rwVi (As := [.int y1, .int r3]) (rest := []) hz [0, 1] [] [0] 0 0 ⟨hx, hb, hml, hown, hts⟩ (met_It_replace l D Z hz ad hk a_this a_items k_items n_items v_count s4 y1 r3 _ hw) (cwV 2 hts (g_V mm_247 mm_248 mm_249 mm_42 mm_250) rfl rfl rfl hd_It_replace ⟨Nat.le_of_ble_eq_true rfl, Nat.le_of_ble_eq_true rfl⟩) hP hD hK hZ hS hA rfl rfl rfl rfl rfl (by decide) rfl rfl rfl rfl hl.1 rfl (Nat.le_of_ble_eq_true rfl) d_It_reverse_31 ⟨Nat.le_of_ble_eq_true rfl, Nat.le_of_ble_eq_true rfl⟩ (fun r5 s6 H locs hw hP hD hS => ?_)
      try dsimp only at hw
      have hP : va_P D vwCl [(a_this, .inr (0, [.ref a_items, .int v_count])), (a_items, .inl (k_items, n_items, .inl s6))] H := hP
      have hD : va_D A [(a_this, .inr (0, [.ref a_items, .int v_count])), (a_items, .inl (k_items, n_items, .inl s6))] := hD
      refine lv_pop hx hb d_It_reverse_34 rfl ?_
      refine lv_iinc (v := (y1 + 1)) (lv' := [(1, .int (y1 + 1)), (0, .ref a_this)]) hx hb d_It_reverse_35 hl (k := 1) rfl rfl (by decide) rfl (fun ls hl => ?_)
      refine lv_goto (tgt := 2) hx hb d_It_reverse_38 (by decide) ?_
      exact ih s6 (y1 + 1) hw _ _ (hP.sub [0, 1] rfl) (hD.sub [0, 1] (by decide) rfl) hS ls (lv_sub hl [1, 0] rfl)
set_option maxHeartbeats 4000000 in
set_option maxRecDepth 100000 in
theorem met_It_reverse (l : Launch) (D : va_G) (Z : (Nat → Prop) → State → Heap → Prop) (hz : zk Z) (ad : Nat → Nat) (hk : zs Z ad) (a_this : Nat) (a_items : Nat) (k_items : ClassId) (n_items : Nat) (v_count : Int32) (f_items : Nat → Int32) (sz : Nat) {post : (Nat → Int32) → Prop} (hw : w_It_reverse post n_items v_count f_items) : Met l y_It_reverse ws_It_reverse rm_It_reverse (va_Pc [.ref a_this] (rw_ D vwCl [(k_items, .int)] [(a_this, .inr (0, [.ref a_items, .int v_count])), (a_items, .inl (k_items, n_items, .inl f_items))] (Z) sz)) (va_Qv (fun u : (Nat → Int32) => post u) (fun u t => at_ D vwCl [(k_items, .int)] (va_A [(a_this, .inr (0, [.ref a_items, .int v_count])), (a_items, .inl (k_items, n_items, .inl f_items))] sz) [(a_this, .inr (0, [.ref a_items, .int v_count])), (a_items, .inl (k_items, n_items, .inl u))] t) (va_A [(a_this, .inr (0, [.ref a_items, .int v_count])), (a_items, .inl (k_items, n_items, .inl f_items))] sz)) 0 0 (va_A [(a_this, .inr (0, [.ref a_items, .int v_count])), (a_items, .inl (k_items, n_items, .inl f_items))] sz) := by
  refine Met.ofW (cc := c_It_reverse) (maxL := 2) (ret := (none)) (by decide) rfl ?_
  intro p e s m args below meth c s₁ B hml hv
  obtain ⟨rfl, hsz, hP, hK, hD0, hZ⟩ := hv
  have hx := B.exec
  have hb := B.bytes
  have hr := B.returns
  have hts0 := atoms_spec (ws := ws_It_reverse) B.pre
  have hts := fun (w : Cond) (h : w ∈ tb) => hts0 w (List.mem_cons_of_mem _ h)
  have hown : s.vm.findClass R_It = some m.cls := findClass_of_methodNamed B.named
  have hlocks := B.notSynchronized
  subst hsz
  have hD := hD0.self (sz := s.heap.size)
  generalize hAe : va_A [(a_this, .inr (0, [.ref a_items, .int v_count])), (a_items, .inl (k_items, n_items, .inl f_items))] s.heap.size = A at hD hZ ⊢
  have hA : ∀ q : Nat, s.heap.size ≤ q → A q := fun q h => by rw [← hAe]; exact Or.inr h
  have hS : va_S A s.heap s.heap [] := va_S.rf
  have hl := lv_entry ([.ref a_this]) (n := 2) (Nat.le_of_ble_eq_true rfl)
  rw [lg_entry_eq]
  generalize (lg_sl ([.ref a_this]) ++ List.replicate (2 - (lg_sl ([.ref a_this])).length) Slot.unset).toArray = ls at hl ⊢
  have hl : lv_has ls 2 [(0, .ref a_this)] := hl
  unfold w_It_reverse at hw
  refine lv_iconst (v := 0) hx hb d_It_reverse_0 (by decide) ?_
  refine lv_istore_n (lv' := [(1, .int 0), (0, .ref a_this)]) hx hb d_It_reverse_1 rfl hl (by decide) rfl (fun ls hl => ?_)
  obtain ⟨n9, hw⟩ := hw
  exact lp_It_reverse_2 l D Z hz ad hk a_this a_items k_items n_items v_count hx hb hml hr hts hown hlocks hK hZ hA n9 f_items 0 hw _ _ (hP.sub [0, 1] rfl) (hD.sub [0, 1] (by decide) rfl) hS ls (lv_sub hl [1, 0] rfl)
end
